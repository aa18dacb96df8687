theorem dX7_init_0 : decode cX7_init 0 = .ok (.aload_n 0, 1) := by decide +kernel
theorem dX7_init_1 : decode cX7_init 1 = .ok (.invokespecial 1, 3) := by decide +kernel
theorem dX7_init_4 : decode cX7_init 4 = .ok (.aload_n 0, 1) := by decide +kernel
theorem dX7_init_5 : decode cX7_init 5 = .ok (.bipush 12, 2) := by decide +kernel
theorem dX7_init_7 : decode cX7_init 7 = .ok (.newarray .boolean, 2) := by decide +kernel
theorem dX7_init_9 : decode cX7_init 9 = .ok (.putfield 7, 3) := by decide +kernel
theorem dX7_init_12 : decode cX7_init 12 = .ok (.aload_n 0, 1) := by decide +kernel
theorem dX7_init_13 : decode cX7_init 13 = .ok (.bipush 12, 2) := by decide +kernel
theorem dX7_init_15 : decode cX7_init 15 = .ok (.newarray .boolean, 2) := by decide +kernel
theorem dX7_init_17 : decode cX7_init 17 = .ok (.putfield 13, 3) := by decide +kernel
theorem dX7_init_20 : decode cX7_init 20 = .ok (.aload_n 0, 1) := by decide +kernel
theorem dX7_init_21 : decode cX7_init 21 = .ok (.bipush 12, 2) := by decide +kernel
theorem dX7_init_23 : decode cX7_init 23 = .ok (.newarray .int, 2) := by decide +kernel
theorem dX7_init_25 : decode cX7_init 25 = .ok (.putfield 16, 3) := by decide +kernel
theorem dX7_init_28 : decode cX7_init 28 = .ok (.aload_n 0, 1) := by decide +kernel
theorem dX7_init_29 : decode cX7_init 29 = .ok (.bipush 12, 2) := by decide +kernel
theorem dX7_init_31 : decode cX7_init 31 = .ok (.newarray .int, 2) := by decide +kernel
theorem dX7_init_33 : decode cX7_init 33 = .ok (.putfield 20, 3) := by decide +kernel
theorem dX7_init_36 : decode cX7_init 36 = .ok (.aload_n 0, 1) := by decide +kernel
theorem dX7_init_37 : decode cX7_init 37 = .ok (.bipush 12, 2) := by decide +kernel
theorem dX7_init_39 : decode cX7_init 39 = .ok (.newarray .int, 2) := by decide +kernel
theorem dX7_init_41 : decode cX7_init 41 = .ok (.putfield 23, 3) := by decide +kernel
theorem dX7_init_44 : decode cX7_init 44 = .ok (.aload_n 0, 1) := by decide +kernel
theorem dX7_init_45 : decode cX7_init 45 = .ok (.bipush 8, 2) := by decide +kernel
theorem dX7_init_47 : decode cX7_init 47 = .ok (.newarray .int, 2) := by decide +kernel
theorem dX7_init_49 : decode cX7_init 49 = .ok (.putfield 26, 3) := by decide +kernel
theorem dX7_init_52 : decode cX7_init 52 = .ok (.aload_n 0, 1) := by decide +kernel
theorem dX7_init_53 : decode cX7_init 53 = .ok (.bipush 64, 2) := by decide +kernel
theorem dX7_init_55 : decode cX7_init 55 = .ok (.newarray .int, 2) := by decide +kernel
theorem dX7_init_57 : decode cX7_init 57 = .ok (.putfield 29, 3) := by decide +kernel
theorem dX7_init_60 : decode cX7_init 60 = .ok (.aload_n 0, 1) := by decide +kernel
theorem dX7_init_61 : decode cX7_init 61 = .ok (.bipush 64, 2) := by decide +kernel
theorem dX7_init_63 : decode cX7_init 63 = .ok (.newarray .int, 2) := by decide +kernel
theorem dX7_init_65 : decode cX7_init 65 = .ok (.putfield 32, 3) := by decide +kernel
theorem dX7_init_68 : decode cX7_init 68 = .ok (.aload_n 0, 1) := by decide +kernel
theorem dX7_init_69 : decode cX7_init 69 = .ok (.bipush 64, 2) := by decide +kernel
theorem dX7_init_71 : decode cX7_init 71 = .ok (.newarray .int, 2) := by decide +kernel
theorem dX7_init_73 : decode cX7_init 73 = .ok (.putfield 35, 3) := by decide +kernel
theorem dX7_init_76 : decode cX7_init 76 = .ok (.aload_n 0, 1) := by decide +kernel
theorem dX7_init_77 : decode cX7_init 77 = .ok (.bipush 24, 2) := by decide +kernel
theorem dX7_init_79 : decode cX7_init 79 = .ok (.newarray .int, 2) := by decide +kernel
theorem dX7_init_81 : decode cX7_init 81 = .ok (.putfield 38, 3) := by decide +kernel
theorem dX7_init_84 : decode cX7_init 84 = .ok (.aload_n 0, 1) := by decide +kernel
theorem dX7_init_85 : decode cX7_init 85 = .ok (.sipush 384, 3) := by decide +kernel
theorem dX7_init_88 : decode cX7_init 88 = .ok (.newarray .int, 2) := by decide +kernel
theorem dX7_init_90 : decode cX7_init 90 = .ok (.putfield 41, 3) := by decide +kernel
theorem dX7_init_93 : decode cX7_init 93 = .ok (.aload_n 0, 1) := by decide +kernel
theorem dX7_init_94 : decode cX7_init 94 = .ok (.sipush 384, 3) := by decide +kernel
theorem dX7_init_97 : decode cX7_init 97 = .ok (.newarray .int, 2) := by decide +kernel
theorem dX7_init_99 : decode cX7_init 99 = .ok (.putfield 44, 3) := by decide +kernel
theorem dX7_init_102 : decode cX7_init 102 = .ok (.aload_n 0, 1) := by decide +kernel
theorem dX7_init_103 : decode cX7_init 103 = .ok (.sipush 384, 3) := by decide +kernel
theorem dX7_init_106 : decode cX7_init 106 = .ok (.newarray .int, 2) := by decide +kernel
theorem dX7_init_108 : decode cX7_init 108 = .ok (.putfield 47, 3) := by decide +kernel
theorem dX7_init_111 : decode cX7_init 111 = .ok (.aload_n 0, 1) := by decide +kernel
theorem dX7_init_112 : decode cX7_init 112 = .ok (.sipush 384, 3) := by decide +kernel
theorem dX7_init_115 : decode cX7_init 115 = .ok (.newarray .int, 2) := by decide +kernel
theorem dX7_init_117 : decode cX7_init 117 = .ok (.putfield 50, 3) := by decide +kernel
theorem dX7_init_120 : decode cX7_init 120 = .ok (.aload_n 0, 1) := by decide +kernel
theorem dX7_init_121 : decode cX7_init 121 = .ok (.sipush 384, 3) := by decide +kernel
theorem dX7_init_124 : decode cX7_init 124 = .ok (.newarray .boolean, 2) := by decide +kernel
theorem dX7_init_126 : decode cX7_init 126 = .ok (.putfield 53, 3) := by decide +kernel
theorem dX7_init_129 : decode cX7_init 129 = .ok (.aload_n 0, 1) := by decide +kernel
theorem dX7_init_130 : decode cX7_init 130 = .ok (.sipush 768, 3) := by decide +kernel
theorem dX7_init_133 : decode cX7_init 133 = .ok (.newarray .int, 2) := by decide +kernel
theorem dX7_init_135 : decode cX7_init 135 = .ok (.putfield 56, 3) := by decide +kernel
theorem dX7_init_138 : decode cX7_init 138 = .ok (.aload_n 0, 1) := by decide +kernel
theorem dX7_init_139 : decode cX7_init 139 = .ok (.sipush 768, 3) := by decide +kernel
theorem dX7_init_142 : decode cX7_init 142 = .ok (.newarray .int, 2) := by decide +kernel
theorem dX7_init_144 : decode cX7_init 144 = .ok (.putfield 59, 3) := by decide +kernel
theorem dX7_init_147 : decode cX7_init 147 = .ok (.aload_n 0, 1) := by decide +kernel
theorem dX7_init_148 : decode cX7_init 148 = .ok (.bipush 64, 2) := by decide +kernel
theorem dX7_init_150 : decode cX7_init 150 = .ok (.newarray .int, 2) := by decide +kernel
theorem dX7_init_152 : decode cX7_init 152 = .ok (.putfield 62, 3) := by decide +kernel
theorem dX7_init_155 : decode cX7_init 155 = .ok (.aload_n 0, 1) := by decide +kernel
theorem dX7_init_156 : decode cX7_init 156 = .ok (.bipush 64, 2) := by decide +kernel
theorem dX7_init_158 : decode cX7_init 158 = .ok (.newarray .int, 2) := by decide +kernel
theorem dX7_init_160 : decode cX7_init 160 = .ok (.putfield 65, 3) := by decide +kernel
theorem dX7_init_163 : decode cX7_init 163 = .ok (.aload_n 0, 1) := by decide +kernel
theorem dX7_init_164 : decode cX7_init 164 = .ok (.sipush 512, 3) := by decide +kernel
theorem dX7_init_167 : decode cX7_init 167 = .ok (.newarray .int, 2) := by decide +kernel
theorem dX7_init_169 : decode cX7_init 169 = .ok (.putfield 68, 3) := by decide +kernel
theorem dX7_init_172 : decode cX7_init 172 = .ok (.aload_n 0, 1) := by decide +kernel
theorem dX7_init_173 : decode cX7_init 173 = .ok (.sipush 512, 3) := by decide +kernel
theorem dX7_init_176 : decode cX7_init 176 = .ok (.newarray .int, 2) := by decide +kernel
theorem dX7_init_178 : decode cX7_init 178 = .ok (.putfield 71, 3) := by decide +kernel
theorem dX7_init_181 : decode cX7_init 181 = .ok (.aload_n 0, 1) := by decide +kernel
theorem dX7_init_182 : decode cX7_init 182 = .ok (.bipush 64, 2) := by decide +kernel
theorem dX7_init_184 : decode cX7_init 184 = .ok (.newarray .int, 2) := by decide +kernel
theorem dX7_init_186 : decode cX7_init 186 = .ok (.putfield 74, 3) := by decide +kernel
theorem dX7_init_189 : decode cX7_init 189 = .ok (.aload_n 0, 1) := by decide +kernel
theorem dX7_init_190 : decode cX7_init 190 = .ok (.bipush 64, 2) := by decide +kernel
theorem dX7_init_192 : decode cX7_init 192 = .ok (.newarray .int, 2) := by decide +kernel
theorem dX7_init_194 : decode cX7_init 194 = .ok (.putfield 77, 3) := by decide +kernel
theorem dX7_init_197 : decode cX7_init 197 = .ok (.aload_n 0, 1) := by decide +kernel
theorem dX7_init_198 : decode cX7_init 198 = .ok (.bipush 64, 2) := by decide +kernel
theorem dX7_init_200 : decode cX7_init 200 = .ok (.newarray .int, 2) := by decide +kernel
theorem dX7_init_202 : decode cX7_init 202 = .ok (.putfield 80, 3) := by decide +kernel
theorem dX7_init_205 : decode cX7_init 205 = .ok (.aload_n 0, 1) := by decide +kernel
theorem dX7_init_206 : decode cX7_init 206 = .ok (.bipush 64, 2) := by decide +kernel
theorem dX7_init_208 : decode cX7_init 208 = .ok (.newarray .int, 2) := by decide +kernel
theorem dX7_init_210 : decode cX7_init 210 = .ok (.putfield 83, 3) := by decide +kernel
theorem dX7_init_213 : decode cX7_init 213 = .ok (.aload_n 0, 1) := by decide +kernel
theorem dX7_init_214 : decode cX7_init 214 = .ok (.bipush 64, 2) := by decide +kernel
theorem dX7_init_216 : decode cX7_init 216 = .ok (.newarray .int, 2) := by decide +kernel
theorem dX7_init_218 : decode cX7_init 218 = .ok (.putfield 86, 3) := by decide +kernel
theorem dX7_init_221 : decode cX7_init 221 = .ok (.aload_n 0, 1) := by decide +kernel
theorem dX7_init_222 : decode cX7_init 222 = .ok (.bipush 64, 2) := by decide +kernel
theorem dX7_init_224 : decode cX7_init 224 = .ok (.newarray .int, 2) := by decide +kernel
theorem dX7_init_226 : decode cX7_init 226 = .ok (.putfield 89, 3) := by decide +kernel
theorem dX7_init_229 : decode cX7_init 229 = .ok (.aload_n 0, 1) := by decide +kernel
theorem dX7_init_230 : decode cX7_init 230 = .ok (.iload_n 1, 1) := by decide +kernel
theorem dX7_init_231 : decode cX7_init 231 = .ok (.iconst 2, 1) := by decide +kernel
theorem dX7_init_232 : decode cX7_init 232 = .ok (.if_icmp .ge 7, 3) := by decide +kernel
theorem dX7_init_235 : decode cX7_init 235 = .ok (.iconst 2, 1) := by decide +kernel
theorem dX7_init_236 : decode cX7_init 236 = .ok (.goto 15, 3) := by decide +kernel
theorem dX7_init_239 : decode cX7_init 239 = .ok (.iload_n 1, 1) := by decide +kernel
theorem dX7_init_240 : decode cX7_init 240 = .ok (.bipush 8, 2) := by decide +kernel
theorem dX7_init_242 : decode cX7_init 242 = .ok (.if_icmp .le 8, 3) := by decide +kernel
theorem dX7_init_245 : decode cX7_init 245 = .ok (.bipush 8, 2) := by decide +kernel
theorem dX7_init_247 : decode cX7_init 247 = .ok (.goto 4, 3) := by decide +kernel
theorem dX7_init_250 : decode cX7_init 250 = .ok (.iload_n 1, 1) := by decide +kernel
theorem dX7_init_251 : decode cX7_init 251 = .ok (.putfield 92, 3) := by decide +kernel
theorem dX7_init_254 : decode cX7_init 254 = .ok (.iconst 0, 1) := by decide +kernel
theorem dX7_init_255 : decode cX7_init 255 = .ok (.istore_n 2, 1) := by decide +kernel
theorem dX7_init_256 : decode cX7_init 256 = .ok (.iload_n 2, 1) := by decide +kernel
theorem dX7_init_257 : decode cX7_init 257 = .ok (.aload_n 0, 1) := by decide +kernel
theorem dX7_init_258 : decode cX7_init 258 = .ok (.getfield 92, 3) := by decide +kernel
theorem dX7_init_261 : decode cX7_init 261 = .ok (.if_icmp .ge 19, 3) := by decide +kernel
theorem dX7_init_264 : decode cX7_init 264 = .ok (.aload_n 0, 1) := by decide +kernel
theorem dX7_init_265 : decode cX7_init 265 = .ok (.getfield 29, 3) := by decide +kernel
theorem dX7_init_268 : decode cX7_init 268 = .ok (.bipush 9, 2) := by decide +kernel
theorem dX7_init_270 : decode cX7_init 270 = .ok (.iload_n 2, 1) := by decide +kernel
theorem dX7_init_271 : decode cX7_init 271 = .ok (.imul, 1) := by decide +kernel
theorem dX7_init_272 : decode cX7_init 272 = .ok (.iconst 1, 1) := by decide +kernel
theorem dX7_init_273 : decode cX7_init 273 = .ok (.iastore, 1) := by decide +kernel
theorem dX7_init_274 : decode cX7_init 274 = .ok (.iinc 2 1, 3) := by decide +kernel
theorem dX7_init_277 : decode cX7_init 277 = .ok (.goto (-21), 3) := by decide +kernel
theorem dX7_init_280 : decode cX7_init 280 = .ok (.iconst 0, 1) := by decide +kernel
theorem dX7_init_281 : decode cX7_init 281 = .ok (.istore_n 2, 1) := by decide +kernel
theorem dX7_init_282 : decode cX7_init 282 = .ok (.iload_n 2, 1) := by decide +kernel
theorem dX7_init_283 : decode cX7_init 283 = .ok (.bipush 8, 2) := by decide +kernel
theorem dX7_init_285 : decode cX7_init 285 = .ok (.if_icmp .ge 16, 3) := by decide +kernel
theorem dX7_init_288 : decode cX7_init 288 = .ok (.aload_n 0, 1) := by decide +kernel
theorem dX7_init_289 : decode cX7_init 289 = .ok (.getfield 26, 3) := by decide +kernel
theorem dX7_init_292 : decode cX7_init 292 = .ok (.iload_n 2, 1) := by decide +kernel
theorem dX7_init_293 : decode cX7_init 293 = .ok (.iconst (-1), 1) := by decide +kernel
theorem dX7_init_294 : decode cX7_init 294 = .ok (.iastore, 1) := by decide +kernel
theorem dX7_init_295 : decode cX7_init 295 = .ok (.iinc 2 1, 3) := by decide +kernel
theorem dX7_init_298 : decode cX7_init 298 = .ok (.goto (-16), 3) := by decide +kernel
theorem dX7_init_301 : decode cX7_init 301 = .ok (.iconst 0, 1) := by decide +kernel
theorem dX7_init_302 : decode cX7_init 302 = .ok (.istore_n 2, 1) := by decide +kernel
theorem dX7_init_303 : decode cX7_init 303 = .ok (.iload_n 2, 1) := by decide +kernel
theorem dX7_init_304 : decode cX7_init 304 = .ok (.bipush 64, 2) := by decide +kernel
theorem dX7_init_306 : decode cX7_init 306 = .ok (.if_icmp .ge 16, 3) := by decide +kernel
theorem dX7_init_309 : decode cX7_init 309 = .ok (.aload_n 0, 1) := by decide +kernel
theorem dX7_init_310 : decode cX7_init 310 = .ok (.getfield 62, 3) := by decide +kernel
theorem dX7_init_313 : decode cX7_init 313 = .ok (.iload_n 2, 1) := by decide +kernel
theorem dX7_init_314 : decode cX7_init 314 = .ok (.iconst (-1), 1) := by decide +kernel
theorem dX7_init_315 : decode cX7_init 315 = .ok (.iastore, 1) := by decide +kernel
theorem dX7_init_316 : decode cX7_init 316 = .ok (.iinc 2 1, 3) := by decide +kernel
theorem dX7_init_319 : decode cX7_init 319 = .ok (.goto (-16), 3) := by decide +kernel
theorem dX7_init_322 : decode cX7_init 322 = .ok (.iconst 0, 1) := by decide +kernel
theorem dX7_init_323 : decode cX7_init 323 = .ok (.istore_n 2, 1) := by decide +kernel
theorem dX7_init_324 : decode cX7_init 324 = .ok (.iload_n 2, 1) := by decide +kernel
theorem dX7_init_325 : decode cX7_init 325 = .ok (.sipush 768, 3) := by decide +kernel
theorem dX7_init_328 : decode cX7_init 328 = .ok (.if_icmp .ge 16, 3) := by decide +kernel
theorem dX7_init_331 : decode cX7_init 331 = .ok (.aload_n 0, 1) := by decide +kernel
theorem dX7_init_332 : decode cX7_init 332 = .ok (.getfield 56, 3) := by decide +kernel
theorem dX7_init_335 : decode cX7_init 335 = .ok (.iload_n 2, 1) := by decide +kernel
theorem dX7_init_336 : decode cX7_init 336 = .ok (.iconst (-1), 1) := by decide +kernel
theorem dX7_init_337 : decode cX7_init 337 = .ok (.iastore, 1) := by decide +kernel
theorem dX7_init_338 : decode cX7_init 338 = .ok (.iinc 2 1, 3) := by decide +kernel
theorem dX7_init_341 : decode cX7_init 341 = .ok (.goto (-17), 3) := by decide +kernel
theorem dX7_init_344 : decode cX7_init 344 = .ok (.return_, 1) := by decide +kernel
theorem dX7_thrown_0 : decode cX7_thrown 0 = .ok (.aload_n 0, 1) := by decide +kernel
theorem dX7_thrown_1 : decode cX7_thrown 1 = .ok (.getfield 96, 3) := by decide +kernel
theorem dX7_thrown_4 : decode cX7_thrown 4 = .ok (.ireturn, 1) := by decide +kernel
theorem dX7_goes_0 : decode cX7_goes 0 = .ok (.aload_n 0, 1) := by decide +kernel
theorem dX7_goes_1 : decode cX7_goes 1 = .ok (.iload_n 1, 1) := by decide +kernel
theorem dX7_goes_2 : decode cX7_goes 2 = .ok (.ifCond .ne 7, 3) := by decide +kernel
theorem dX7_goes_5 : decode cX7_goes 5 = .ok (.iconst 1, 1) := by decide +kernel
theorem dX7_goes_6 : decode cX7_goes 6 = .ok (.goto 12, 3) := by decide +kernel
theorem dX7_goes_9 : decode cX7_goes 9 = .ok (.iload_n 2, 1) := by decide +kernel
theorem dX7_goes_10 : decode cX7_goes 10 = .ok (.ifCond .ne 7, 3) := by decide +kernel
theorem dX7_goes_13 : decode cX7_goes 13 = .ok (.iconst 2, 1) := by decide +kernel
theorem dX7_goes_14 : decode cX7_goes 14 = .ok (.goto 4, 3) := by decide +kernel
theorem dX7_goes_17 : decode cX7_goes 17 = .ok (.iconst 0, 1) := by decide +kernel
theorem dX7_goes_18 : decode cX7_goes 18 = .ok (.putfield 96, 3) := by decide +kernel
theorem dX7_goes_21 : decode cX7_goes 21 = .ok (.aload_n 0, 1) := by decide +kernel
theorem dX7_goes_22 : decode cX7_goes 22 = .ok (.getfield 96, 3) := by decide +kernel
theorem dX7_goes_25 : decode cX7_goes 25 = .ok (.ifCond .ne 7, 3) := by decide +kernel
theorem dX7_goes_28 : decode cX7_goes 28 = .ok (.iconst 1, 1) := by decide +kernel
theorem dX7_goes_29 : decode cX7_goes 29 = .ok (.goto 4, 3) := by decide +kernel
theorem dX7_goes_32 : decode cX7_goes 32 = .ok (.iconst 0, 1) := by decide +kernel
theorem dX7_goes_33 : decode cX7_goes 33 = .ok (.ireturn, 1) := by decide +kernel
theorem dX7_in_0 : decode cX7_in 0 = .ok (.iload_n 0, 1) := by decide +kernel
theorem dX7_in_1 : decode cX7_in 1 = .ok (.ifCond .lt 12, 3) := by decide +kernel
theorem dX7_in_4 : decode cX7_in 4 = .ok (.iload_n 0, 1) := by decide +kernel
theorem dX7_in_5 : decode cX7_in 5 = .ok (.iload_n 1, 1) := by decide +kernel
theorem dX7_in_6 : decode cX7_in 6 = .ok (.if_icmp .ge 7, 3) := by decide +kernel
theorem dX7_in_9 : decode cX7_in 9 = .ok (.iconst 1, 1) := by decide +kernel
theorem dX7_in_10 : decode cX7_in 10 = .ok (.goto 4, 3) := by decide +kernel
theorem dX7_in_13 : decode cX7_in 13 = .ok (.iconst 0, 1) := by decide +kernel
theorem dX7_in_14 : decode cX7_in 14 = .ok (.ireturn, 1) := by decide +kernel
theorem dX7_isRouter_0 : decode cX7_isRouter 0 = .ok (.iload_n 1, 1) := by decide +kernel
theorem dX7_isRouter_1 : decode cX7_isRouter 1 = .ok (.aload_n 0, 1) := by decide +kernel
theorem dX7_isRouter_2 : decode cX7_isRouter 2 = .ok (.getfield 92, 3) := by decide +kernel
theorem dX7_isRouter_5 : decode cX7_isRouter 5 = .ok (.invokestatic 99, 3) := by decide +kernel
theorem dX7_isRouter_8 : decode cX7_isRouter 8 = .ok (.ireturn, 1) := by decide +kernel
theorem dX7_isUp_0 : decode cX7_isUp 0 = .ok (.aload_n 0, 1) := by decide +kernel
theorem dX7_isUp_1 : decode cX7_isUp 1 = .ok (.getfield 13, 3) := by decide +kernel
theorem dX7_isUp_4 : decode cX7_isUp 4 = .ok (.iload_n 2, 1) := by decide +kernel
theorem dX7_isUp_5 : decode cX7_isUp 5 = .ok (.baload, 1) := by decide +kernel
theorem dX7_isUp_6 : decode cX7_isUp 6 = .ok (.ifCond .eq 27, 3) := by decide +kernel
theorem dX7_isUp_9 : decode cX7_isUp 9 = .ok (.aload_n 0, 1) := by decide +kernel
theorem dX7_isUp_10 : decode cX7_isUp 10 = .ok (.getfield 16, 3) := by decide +kernel
theorem dX7_isUp_13 : decode cX7_isUp 13 = .ok (.iload_n 2, 1) := by decide +kernel
theorem dX7_isUp_14 : decode cX7_isUp 14 = .ok (.iaload, 1) := by decide +kernel
theorem dX7_isUp_15 : decode cX7_isUp 15 = .ok (.iload_n 1, 1) := by decide +kernel
theorem dX7_isUp_16 : decode cX7_isUp 16 = .ok (.if_icmp .eq 13, 3) := by decide +kernel
theorem dX7_isUp_19 : decode cX7_isUp 19 = .ok (.aload_n 0, 1) := by decide +kernel
theorem dX7_isUp_20 : decode cX7_isUp 20 = .ok (.getfield 20, 3) := by decide +kernel
theorem dX7_isUp_23 : decode cX7_isUp 23 = .ok (.iload_n 2, 1) := by decide +kernel
theorem dX7_isUp_24 : decode cX7_isUp 24 = .ok (.iaload, 1) := by decide +kernel
theorem dX7_isUp_25 : decode cX7_isUp 25 = .ok (.iload_n 1, 1) := by decide +kernel
theorem dX7_isUp_26 : decode cX7_isUp 26 = .ok (.if_icmp .ne 7, 3) := by decide +kernel
theorem dX7_isUp_29 : decode cX7_isUp 29 = .ok (.iconst 1, 1) := by decide +kernel
theorem dX7_isUp_30 : decode cX7_isUp 30 = .ok (.goto 4, 3) := by decide +kernel
theorem dX7_isUp_33 : decode cX7_isUp 33 = .ok (.iconst 0, 1) := by decide +kernel
theorem dX7_isUp_34 : decode cX7_isUp 34 = .ok (.ireturn, 1) := by decide +kernel
theorem dX7_other_0 : decode cX7_other 0 = .ok (.aload_n 0, 1) := by decide +kernel
theorem dX7_other_1 : decode cX7_other 1 = .ok (.getfield 16, 3) := by decide +kernel
theorem dX7_other_4 : decode cX7_other 4 = .ok (.iload_n 2, 1) := by decide +kernel
theorem dX7_other_5 : decode cX7_other 5 = .ok (.iaload, 1) := by decide +kernel
theorem dX7_other_6 : decode cX7_other 6 = .ok (.iload_n 1, 1) := by decide +kernel
theorem dX7_other_7 : decode cX7_other 7 = .ok (.if_icmp .ne 12, 3) := by decide +kernel
theorem dX7_other_10 : decode cX7_other 10 = .ok (.aload_n 0, 1) := by decide +kernel
theorem dX7_other_11 : decode cX7_other 11 = .ok (.getfield 20, 3) := by decide +kernel
theorem dX7_other_14 : decode cX7_other 14 = .ok (.iload_n 2, 1) := by decide +kernel
theorem dX7_other_15 : decode cX7_other 15 = .ok (.iaload, 1) := by decide +kernel
theorem dX7_other_16 : decode cX7_other 16 = .ok (.goto 9, 3) := by decide +kernel
theorem dX7_other_19 : decode cX7_other 19 = .ok (.aload_n 0, 1) := by decide +kernel
theorem dX7_other_20 : decode cX7_other 20 = .ok (.getfield 16, 3) := by decide +kernel
theorem dX7_other_23 : decode cX7_other 23 = .ok (.iload_n 2, 1) := by decide +kernel
theorem dX7_other_24 : decode cX7_other 24 = .ok (.iaload, 1) := by decide +kernel
theorem dX7_other_25 : decode cX7_other 25 = .ok (.ireturn, 1) := by decide +kernel
theorem dX7_put_0 : decode cX7_put 0 = .ok (.aload_n 0, 1) := by decide +kernel
theorem dX7_put_1 : decode cX7_put 1 = .ok (.getfield 16, 3) := by decide +kernel
theorem dX7_put_4 : decode cX7_put 4 = .ok (.iload_n 2, 1) := by decide +kernel
theorem dX7_put_5 : decode cX7_put 5 = .ok (.iaload, 1) := by decide +kernel
theorem dX7_put_6 : decode cX7_put 6 = .ok (.iload_n 1, 1) := by decide +kernel
theorem dX7_put_7 : decode cX7_put 7 = .ok (.if_icmp .ne 9, 3) := by decide +kernel
theorem dX7_put_10 : decode cX7_put 10 = .ok (.iconst 2, 1) := by decide +kernel
theorem dX7_put_11 : decode cX7_put 11 = .ok (.iload_n 2, 1) := by decide +kernel
theorem dX7_put_12 : decode cX7_put 12 = .ok (.imul, 1) := by decide +kernel
theorem dX7_put_13 : decode cX7_put 13 = .ok (.goto 8, 3) := by decide +kernel
theorem dX7_put_16 : decode cX7_put 16 = .ok (.iconst 2, 1) := by decide +kernel
theorem dX7_put_17 : decode cX7_put 17 = .ok (.iload_n 2, 1) := by decide +kernel
theorem dX7_put_18 : decode cX7_put 18 = .ok (.imul, 1) := by decide +kernel
theorem dX7_put_19 : decode cX7_put 19 = .ok (.iconst 1, 1) := by decide +kernel
theorem dX7_put_20 : decode cX7_put 20 = .ok (.iadd, 1) := by decide +kernel
theorem dX7_put_21 : decode cX7_put 21 = .ok (.istore 7, 2) := by decide +kernel
theorem dX7_put_23 : decode cX7_put 23 = .ok (.aload_n 0, 1) := by decide +kernel
theorem dX7_put_24 : decode cX7_put 24 = .ok (.getfield 38, 3) := by decide +kernel
theorem dX7_put_27 : decode cX7_put 27 = .ok (.iload 7, 2) := by decide +kernel
theorem dX7_put_29 : decode cX7_put 29 = .ok (.iaload, 1) := by decide +kernel
theorem dX7_put_30 : decode cX7_put 30 = .ok (.bipush 16, 2) := by decide +kernel
theorem dX7_put_32 : decode cX7_put 32 = .ok (.if_icmp .ne 5, 3) := by decide +kernel
theorem dX7_put_35 : decode cX7_put 35 = .ok (.iconst 0, 1) := by decide +kernel
theorem dX7_put_36 : decode cX7_put 36 = .ok (.ireturn, 1) := by decide +kernel
theorem dX7_put_37 : decode cX7_put 37 = .ok (.bipush 16, 2) := by decide +kernel
theorem dX7_put_39 : decode cX7_put 39 = .ok (.iload 7, 2) := by decide +kernel
theorem dX7_put_41 : decode cX7_put 41 = .ok (.imul, 1) := by decide +kernel
theorem dX7_put_42 : decode cX7_put 42 = .ok (.aload_n 0, 1) := by decide +kernel
theorem dX7_put_43 : decode cX7_put 43 = .ok (.getfield 38, 3) := by decide +kernel
theorem dX7_put_46 : decode cX7_put 46 = .ok (.iload 7, 2) := by decide +kernel
theorem dX7_put_48 : decode cX7_put 48 = .ok (.iaload, 1) := by decide +kernel
theorem dX7_put_49 : decode cX7_put 49 = .ok (.iadd, 1) := by decide +kernel
theorem dX7_put_50 : decode cX7_put 50 = .ok (.istore 8, 2) := by decide +kernel
theorem dX7_put_52 : decode cX7_put 52 = .ok (.aload_n 0, 1) := by decide +kernel
theorem dX7_put_53 : decode cX7_put 53 = .ok (.getfield 41, 3) := by decide +kernel
theorem dX7_put_56 : decode cX7_put 56 = .ok (.iload 8, 2) := by decide +kernel
theorem dX7_put_58 : decode cX7_put 58 = .ok (.iload_n 3, 1) := by decide +kernel
theorem dX7_put_59 : decode cX7_put 59 = .ok (.iastore, 1) := by decide +kernel
theorem dX7_put_60 : decode cX7_put 60 = .ok (.aload_n 0, 1) := by decide +kernel
theorem dX7_put_61 : decode cX7_put 61 = .ok (.getfield 44, 3) := by decide +kernel
theorem dX7_put_64 : decode cX7_put 64 = .ok (.iload 8, 2) := by decide +kernel
theorem dX7_put_66 : decode cX7_put 66 = .ok (.iload 4, 2) := by decide +kernel
theorem dX7_put_68 : decode cX7_put 68 = .ok (.iastore, 1) := by decide +kernel
theorem dX7_put_69 : decode cX7_put 69 = .ok (.aload_n 0, 1) := by decide +kernel
theorem dX7_put_70 : decode cX7_put 70 = .ok (.getfield 47, 3) := by decide +kernel
theorem dX7_put_73 : decode cX7_put 73 = .ok (.iload 8, 2) := by decide +kernel
theorem dX7_put_75 : decode cX7_put 75 = .ok (.iload 5, 2) := by decide +kernel
theorem dX7_put_77 : decode cX7_put 77 = .ok (.iastore, 1) := by decide +kernel
theorem dX7_put_78 : decode cX7_put 78 = .ok (.aload_n 0, 1) := by decide +kernel
theorem dX7_put_79 : decode cX7_put 79 = .ok (.getfield 50, 3) := by decide +kernel
theorem dX7_put_82 : decode cX7_put 82 = .ok (.iload 8, 2) := by decide +kernel
theorem dX7_put_84 : decode cX7_put 84 = .ok (.iload 6, 2) := by decide +kernel
theorem dX7_put_86 : decode cX7_put 86 = .ok (.iastore, 1) := by decide +kernel
theorem dX7_put_87 : decode cX7_put 87 = .ok (.aload_n 0, 1) := by decide +kernel
theorem dX7_put_88 : decode cX7_put 88 = .ok (.getfield 53, 3) := by decide +kernel
theorem dX7_put_91 : decode cX7_put 91 = .ok (.iload 8, 2) := by decide +kernel
theorem dX7_put_93 : decode cX7_put 93 = .ok (.iconst 0, 1) := by decide +kernel
theorem dX7_put_94 : decode cX7_put 94 = .ok (.bastore, 1) := by decide +kernel
theorem dX7_put_95 : decode cX7_put 95 = .ok (.aload_n 0, 1) := by decide +kernel
theorem dX7_put_96 : decode cX7_put 96 = .ok (.getfield 38, 3) := by decide +kernel
theorem dX7_put_99 : decode cX7_put 99 = .ok (.iload 7, 2) := by decide +kernel
theorem dX7_put_101 : decode cX7_put 101 = .ok (.dup2, 1) := by decide +kernel
theorem dX7_put_102 : decode cX7_put 102 = .ok (.iaload, 1) := by decide +kernel
theorem dX7_put_103 : decode cX7_put 103 = .ok (.iconst 1, 1) := by decide +kernel
theorem dX7_put_104 : decode cX7_put 104 = .ok (.iadd, 1) := by decide +kernel
theorem dX7_put_105 : decode cX7_put 105 = .ok (.iastore, 1) := by decide +kernel
theorem dX7_put_106 : decode cX7_put 106 = .ok (.iconst 1, 1) := by decide +kernel
theorem dX7_put_107 : decode cX7_put 107 = .ok (.ireturn, 1) := by decide +kernel
theorem dX7_send_0 : decode cX7_send 0 = .ok (.aload_n 0, 1) := by decide +kernel
theorem dX7_send_1 : decode cX7_send 1 = .ok (.iload_n 1, 1) := by decide +kernel
theorem dX7_send_2 : decode cX7_send 2 = .ok (.iload_n 2, 1) := by decide +kernel
theorem dX7_send_3 : decode cX7_send 3 = .ok (.iload_n 3, 1) := by decide +kernel
theorem dX7_send_4 : decode cX7_send 4 = .ok (.iload 4, 2) := by decide +kernel
theorem dX7_send_6 : decode cX7_send 6 = .ok (.iload 5, 2) := by decide +kernel
theorem dX7_send_8 : decode cX7_send 8 = .ok (.iload 6, 2) := by decide +kernel
theorem dX7_send_10 : decode cX7_send 10 = .ok (.invokevirtual 103, 3) := by decide +kernel
theorem dX7_send_13 : decode cX7_send 13 = .ok (.ifCond .ne 16, 3) := by decide +kernel
theorem dX7_send_16 : decode cX7_send 16 = .ok (.aload_n 0, 1) := by decide +kernel
theorem dX7_send_17 : decode cX7_send 17 = .ok (.dup, 1) := by decide +kernel
theorem dX7_send_18 : decode cX7_send 18 = .ok (.getfield 107, 3) := by decide +kernel
theorem dX7_send_21 : decode cX7_send 21 = .ok (.iconst 1, 1) := by decide +kernel
theorem dX7_send_22 : decode cX7_send 22 = .ok (.iadd, 1) := by decide +kernel
theorem dX7_send_23 : decode cX7_send 23 = .ok (.putfield 107, 3) := by decide +kernel
theorem dX7_send_26 : decode cX7_send 26 = .ok (.goto 36, 3) := by decide +kernel
theorem dX7_send_29 : decode cX7_send 29 = .ok (.iload_n 3, 1) := by decide +kernel
theorem dX7_send_30 : decode cX7_send 30 = .ok (.iconst 1, 1) := by decide +kernel
theorem dX7_send_31 : decode cX7_send 31 = .ok (.if_icmp .ne 31, 3) := by decide +kernel
theorem dX7_send_34 : decode cX7_send 34 = .ok (.iload 5, 2) := by decide +kernel
theorem dX7_send_36 : decode cX7_send 36 = .ok (.bipush 16, 2) := by decide +kernel
theorem dX7_send_38 : decode cX7_send 38 = .ok (.if_icmp .lt 24, 3) := by decide +kernel
theorem dX7_send_41 : decode cX7_send 41 = .ok (.aload_n 0, 1) := by decide +kernel
theorem dX7_send_42 : decode cX7_send 42 = .ok (.getfield 71, 3) := by decide +kernel
theorem dX7_send_45 : decode cX7_send 45 = .ok (.bipush 64, 2) := by decide +kernel
theorem dX7_send_47 : decode cX7_send 47 = .ok (.iload_n 1, 1) := by decide +kernel
theorem dX7_send_48 : decode cX7_send 48 = .ok (.imul, 1) := by decide +kernel
theorem dX7_send_49 : decode cX7_send 49 = .ok (.iload 5, 2) := by decide +kernel
theorem dX7_send_51 : decode cX7_send 51 = .ok (.iadd, 1) := by decide +kernel
theorem dX7_send_52 : decode cX7_send 52 = .ok (.bipush 16, 2) := by decide +kernel
theorem dX7_send_54 : decode cX7_send 54 = .ok (.isub, 1) := by decide +kernel
theorem dX7_send_55 : decode cX7_send 55 = .ok (.dup2, 1) := by decide +kernel
theorem dX7_send_56 : decode cX7_send 56 = .ok (.iaload, 1) := by decide +kernel
theorem dX7_send_57 : decode cX7_send 57 = .ok (.iconst 1, 1) := by decide +kernel
theorem dX7_send_58 : decode cX7_send 58 = .ok (.iload_n 2, 1) := by decide +kernel
theorem dX7_send_59 : decode cX7_send 59 = .ok (.ishl, 1) := by decide +kernel
theorem dX7_send_60 : decode cX7_send 60 = .ok (.ior, 1) := by decide +kernel
theorem dX7_send_61 : decode cX7_send 61 = .ok (.iastore, 1) := by decide +kernel
theorem dX7_send_62 : decode cX7_send 62 = .ok (.return_, 1) := by decide +kernel
theorem dX7_sendAll_0 : decode cX7_sendAll 0 = .ok (.iconst 0, 1) := by decide +kernel
theorem dX7_sendAll_1 : decode cX7_sendAll 1 = .ok (.istore 7, 2) := by decide +kernel
theorem dX7_sendAll_3 : decode cX7_sendAll 3 = .ok (.iload 7, 2) := by decide +kernel
theorem dX7_sendAll_5 : decode cX7_sendAll 5 = .ok (.bipush 12, 2) := by decide +kernel
theorem dX7_sendAll_7 : decode cX7_sendAll 7 = .ok (.if_icmp .ge 39, 3) := by decide +kernel
theorem dX7_sendAll_10 : decode cX7_sendAll 10 = .ok (.iload 7, 2) := by decide +kernel
theorem dX7_sendAll_12 : decode cX7_sendAll 12 = .ok (.iload_n 2, 1) := by decide +kernel
theorem dX7_sendAll_13 : decode cX7_sendAll 13 = .ok (.if_icmp .eq 27, 3) := by decide +kernel
theorem dX7_sendAll_16 : decode cX7_sendAll 16 = .ok (.aload_n 0, 1) := by decide +kernel
theorem dX7_sendAll_17 : decode cX7_sendAll 17 = .ok (.iload_n 1, 1) := by decide +kernel
theorem dX7_sendAll_18 : decode cX7_sendAll 18 = .ok (.iload 7, 2) := by decide +kernel
theorem dX7_sendAll_20 : decode cX7_sendAll 20 = .ok (.invokevirtual 110, 3) := by decide +kernel
theorem dX7_sendAll_23 : decode cX7_sendAll 23 = .ok (.ifCond .eq 17, 3) := by decide +kernel
theorem dX7_sendAll_26 : decode cX7_sendAll 26 = .ok (.aload_n 0, 1) := by decide +kernel
theorem dX7_sendAll_27 : decode cX7_sendAll 27 = .ok (.iload_n 1, 1) := by decide +kernel
theorem dX7_sendAll_28 : decode cX7_sendAll 28 = .ok (.iload 7, 2) := by decide +kernel
theorem dX7_sendAll_30 : decode cX7_sendAll 30 = .ok (.iload_n 3, 1) := by decide +kernel
theorem dX7_sendAll_31 : decode cX7_sendAll 31 = .ok (.iload 4, 2) := by decide +kernel
theorem dX7_sendAll_33 : decode cX7_sendAll 33 = .ok (.iload 5, 2) := by decide +kernel
theorem dX7_sendAll_35 : decode cX7_sendAll 35 = .ok (.iload 6, 2) := by decide +kernel
theorem dX7_sendAll_37 : decode cX7_sendAll 37 = .ok (.invokevirtual 113, 3) := by decide +kernel
theorem dX7_sendAll_40 : decode cX7_sendAll 40 = .ok (.iinc 7 1, 3) := by decide +kernel
theorem dX7_sendAll_43 : decode cX7_sendAll 43 = .ok (.goto (-40), 3) := by decide +kernel
theorem dX7_sendAll_46 : decode cX7_sendAll 46 = .ok (.return_, 1) := by decide +kernel
theorem dX7_bodyOf_0 : decode cX7_bodyOf 0 = .ok (.aload_n 0, 1) := by decide +kernel
theorem dX7_bodyOf_1 : decode cX7_bodyOf 1 = .ok (.getfield 32, 3) := by decide +kernel
theorem dX7_bodyOf_4 : decode cX7_bodyOf 4 = .ok (.bipush 8, 2) := by decide +kernel
theorem dX7_bodyOf_6 : decode cX7_bodyOf 6 = .ok (.iload_n 1, 1) := by decide +kernel
theorem dX7_bodyOf_7 : decode cX7_bodyOf 7 = .ok (.imul, 1) := by decide +kernel
theorem dX7_bodyOf_8 : decode cX7_bodyOf 8 = .ok (.iload_n 2, 1) := by decide +kernel
theorem dX7_bodyOf_9 : decode cX7_bodyOf 9 = .ok (.iadd, 1) := by decide +kernel
theorem dX7_bodyOf_10 : decode cX7_bodyOf 10 = .ok (.iaload, 1) := by decide +kernel
theorem dX7_bodyOf_11 : decode cX7_bodyOf 11 = .ok (.aload_n 0, 1) := by decide +kernel
theorem dX7_bodyOf_12 : decode cX7_bodyOf 12 = .ok (.getfield 35, 3) := by decide +kernel
theorem dX7_bodyOf_15 : decode cX7_bodyOf 15 = .ok (.bipush 8, 2) := by decide +kernel
theorem dX7_bodyOf_17 : decode cX7_bodyOf 17 = .ok (.iload_n 1, 1) := by decide +kernel
theorem dX7_bodyOf_18 : decode cX7_bodyOf 18 = .ok (.imul, 1) := by decide +kernel
theorem dX7_bodyOf_19 : decode cX7_bodyOf 19 = .ok (.iload_n 2, 1) := by decide +kernel
theorem dX7_bodyOf_20 : decode cX7_bodyOf 20 = .ok (.iadd, 1) := by decide +kernel
theorem dX7_bodyOf_21 : decode cX7_bodyOf 21 = .ok (.iaload, 1) := by decide +kernel
theorem dX7_bodyOf_22 : decode cX7_bodyOf 22 = .ok (.bipush 12, 2) := by decide +kernel
theorem dX7_bodyOf_24 : decode cX7_bodyOf 24 = .ok (.ishl, 1) := by decide +kernel
theorem dX7_bodyOf_25 : decode cX7_bodyOf 25 = .ok (.ior, 1) := by decide +kernel
theorem dX7_bodyOf_26 : decode cX7_bodyOf 26 = .ok (.ireturn, 1) := by decide +kernel
theorem dX7_tell_0 : decode cX7_tell 0 = .ok (.iconst 0, 1) := by decide +kernel
theorem dX7_tell_1 : decode cX7_tell 1 = .ok (.istore_n 2, 1) := by decide +kernel
theorem dX7_tell_2 : decode cX7_tell 2 = .ok (.iconst 0, 1) := by decide +kernel
theorem dX7_tell_3 : decode cX7_tell 3 = .ok (.istore_n 3, 1) := by decide +kernel
theorem dX7_tell_4 : decode cX7_tell 4 = .ok (.iconst 0, 1) := by decide +kernel
theorem dX7_tell_5 : decode cX7_tell 5 = .ok (.istore 4, 2) := by decide +kernel
theorem dX7_tell_7 : decode cX7_tell 7 = .ok (.iload 4, 2) := by decide +kernel
theorem dX7_tell_9 : decode cX7_tell 9 = .ok (.bipush 12, 2) := by decide +kernel
theorem dX7_tell_11 : decode cX7_tell 11 = .ok (.if_icmp .ge 30, 3) := by decide +kernel
theorem dX7_tell_14 : decode cX7_tell 14 = .ok (.iload_n 2, 1) := by decide +kernel
theorem dX7_tell_15 : decode cX7_tell 15 = .ok (.aload_n 0, 1) := by decide +kernel
theorem dX7_tell_16 : decode cX7_tell 16 = .ok (.iload_n 1, 1) := by decide +kernel
theorem dX7_tell_17 : decode cX7_tell 17 = .ok (.iload 4, 2) := by decide +kernel
theorem dX7_tell_19 : decode cX7_tell 19 = .ok (.invokevirtual 110, 3) := by decide +kernel
theorem dX7_tell_22 : decode cX7_tell 22 = .ok (.ifCond .eq 10, 3) := by decide +kernel
theorem dX7_tell_25 : decode cX7_tell 25 = .ok (.iconst 1, 1) := by decide +kernel
theorem dX7_tell_26 : decode cX7_tell 26 = .ok (.iload 4, 2) := by decide +kernel
theorem dX7_tell_28 : decode cX7_tell 28 = .ok (.ishl, 1) := by decide +kernel
theorem dX7_tell_29 : decode cX7_tell 29 = .ok (.goto 4, 3) := by decide +kernel
theorem dX7_tell_32 : decode cX7_tell 32 = .ok (.iconst 0, 1) := by decide +kernel
theorem dX7_tell_33 : decode cX7_tell 33 = .ok (.ior, 1) := by decide +kernel
theorem dX7_tell_34 : decode cX7_tell 34 = .ok (.istore_n 2, 1) := by decide +kernel
theorem dX7_tell_35 : decode cX7_tell 35 = .ok (.iinc 4 1, 3) := by decide +kernel
theorem dX7_tell_38 : decode cX7_tell 38 = .ok (.goto (-31), 3) := by decide +kernel
theorem dX7_tell_41 : decode cX7_tell 41 = .ok (.iconst 0, 1) := by decide +kernel
theorem dX7_tell_42 : decode cX7_tell 42 = .ok (.istore 4, 2) := by decide +kernel
theorem dX7_tell_44 : decode cX7_tell 44 = .ok (.iload 4, 2) := by decide +kernel
theorem dX7_tell_46 : decode cX7_tell 46 = .ok (.bipush 8, 2) := by decide +kernel
theorem dX7_tell_48 : decode cX7_tell 48 = .ok (.if_icmp .ge 31, 3) := by decide +kernel
theorem dX7_tell_51 : decode cX7_tell 51 = .ok (.iload_n 3, 1) := by decide +kernel
theorem dX7_tell_52 : decode cX7_tell 52 = .ok (.aload_n 0, 1) := by decide +kernel
theorem dX7_tell_53 : decode cX7_tell 53 = .ok (.getfield 26, 3) := by decide +kernel
theorem dX7_tell_56 : decode cX7_tell 56 = .ok (.iload 4, 2) := by decide +kernel
theorem dX7_tell_58 : decode cX7_tell 58 = .ok (.iaload, 1) := by decide +kernel
theorem dX7_tell_59 : decode cX7_tell 59 = .ok (.iload_n 1, 1) := by decide +kernel
theorem dX7_tell_60 : decode cX7_tell 60 = .ok (.if_icmp .ne 10, 3) := by decide +kernel
theorem dX7_tell_63 : decode cX7_tell 63 = .ok (.iconst 1, 1) := by decide +kernel
theorem dX7_tell_64 : decode cX7_tell 64 = .ok (.iload 4, 2) := by decide +kernel
theorem dX7_tell_66 : decode cX7_tell 66 = .ok (.ishl, 1) := by decide +kernel
theorem dX7_tell_67 : decode cX7_tell 67 = .ok (.goto 4, 3) := by decide +kernel
theorem dX7_tell_70 : decode cX7_tell 70 = .ok (.iconst 0, 1) := by decide +kernel
theorem dX7_tell_71 : decode cX7_tell 71 = .ok (.ior, 1) := by decide +kernel
theorem dX7_tell_72 : decode cX7_tell 72 = .ok (.istore_n 3, 1) := by decide +kernel
theorem dX7_tell_73 : decode cX7_tell 73 = .ok (.iinc 4 1, 3) := by decide +kernel
theorem dX7_tell_76 : decode cX7_tell 76 = .ok (.goto (-32), 3) := by decide +kernel
theorem dX7_tell_79 : decode cX7_tell 79 = .ok (.aload_n 0, 1) := by decide +kernel
theorem dX7_tell_80 : decode cX7_tell 80 = .ok (.getfield 29, 3) := by decide +kernel
theorem dX7_tell_83 : decode cX7_tell 83 = .ok (.bipush 9, 2) := by decide +kernel
theorem dX7_tell_85 : decode cX7_tell 85 = .ok (.iload_n 1, 1) := by decide +kernel
theorem dX7_tell_86 : decode cX7_tell 86 = .ok (.imul, 1) := by decide +kernel
theorem dX7_tell_87 : decode cX7_tell 87 = .ok (.dup2, 1) := by decide +kernel
theorem dX7_tell_88 : decode cX7_tell 88 = .ok (.iaload, 1) := by decide +kernel
theorem dX7_tell_89 : decode cX7_tell 89 = .ok (.iconst 1, 1) := by decide +kernel
theorem dX7_tell_90 : decode cX7_tell 90 = .ok (.iadd, 1) := by decide +kernel
theorem dX7_tell_91 : decode cX7_tell 91 = .ok (.iastore, 1) := by decide +kernel
theorem dX7_tell_92 : decode cX7_tell 92 = .ok (.aload_n 0, 1) := by decide +kernel
theorem dX7_tell_93 : decode cX7_tell 93 = .ok (.getfield 32, 3) := by decide +kernel
theorem dX7_tell_96 : decode cX7_tell 96 = .ok (.bipush 9, 2) := by decide +kernel
theorem dX7_tell_98 : decode cX7_tell 98 = .ok (.iload_n 1, 1) := by decide +kernel
theorem dX7_tell_99 : decode cX7_tell 99 = .ok (.imul, 1) := by decide +kernel
theorem dX7_tell_100 : decode cX7_tell 100 = .ok (.iload_n 2, 1) := by decide +kernel
theorem dX7_tell_101 : decode cX7_tell 101 = .ok (.iastore, 1) := by decide +kernel
theorem dX7_tell_102 : decode cX7_tell 102 = .ok (.aload_n 0, 1) := by decide +kernel
theorem dX7_tell_103 : decode cX7_tell 103 = .ok (.getfield 35, 3) := by decide +kernel
theorem dX7_tell_106 : decode cX7_tell 106 = .ok (.bipush 9, 2) := by decide +kernel
theorem dX7_tell_108 : decode cX7_tell 108 = .ok (.iload_n 1, 1) := by decide +kernel
theorem dX7_tell_109 : decode cX7_tell 109 = .ok (.imul, 1) := by decide +kernel
theorem dX7_tell_110 : decode cX7_tell 110 = .ok (.iload_n 3, 1) := by decide +kernel
theorem dX7_tell_111 : decode cX7_tell 111 = .ok (.iastore, 1) := by decide +kernel
theorem dX7_tell_112 : decode cX7_tell 112 = .ok (.aload_n 0, 1) := by decide +kernel
theorem dX7_tell_113 : decode cX7_tell 113 = .ok (.iload_n 1, 1) := by decide +kernel
theorem dX7_tell_114 : decode cX7_tell 114 = .ok (.iconst (-1), 1) := by decide +kernel
theorem dX7_tell_115 : decode cX7_tell 115 = .ok (.iconst 0, 1) := by decide +kernel
theorem dX7_tell_116 : decode cX7_tell 116 = .ok (.iload_n 1, 1) := by decide +kernel
theorem dX7_tell_117 : decode cX7_tell 117 = .ok (.aload_n 0, 1) := by decide +kernel
theorem dX7_tell_118 : decode cX7_tell 118 = .ok (.getfield 29, 3) := by decide +kernel
theorem dX7_tell_121 : decode cX7_tell 121 = .ok (.bipush 9, 2) := by decide +kernel
theorem dX7_tell_123 : decode cX7_tell 123 = .ok (.iload_n 1, 1) := by decide +kernel
theorem dX7_tell_124 : decode cX7_tell 124 = .ok (.imul, 1) := by decide +kernel
theorem dX7_tell_125 : decode cX7_tell 125 = .ok (.iaload, 1) := by decide +kernel
theorem dX7_tell_126 : decode cX7_tell 126 = .ok (.aload_n 0, 1) := by decide +kernel
theorem dX7_tell_127 : decode cX7_tell 127 = .ok (.iload_n 1, 1) := by decide +kernel
theorem dX7_tell_128 : decode cX7_tell 128 = .ok (.iload_n 1, 1) := by decide +kernel
theorem dX7_tell_129 : decode cX7_tell 129 = .ok (.invokevirtual 117, 3) := by decide +kernel
theorem dX7_tell_132 : decode cX7_tell 132 = .ok (.invokevirtual 121, 3) := by decide +kernel
theorem dX7_tell_135 : decode cX7_tell 135 = .ok (.return_, 1) := by decide +kernel
theorem dX7_isStep_0 : decode cX7_isStep 0 = .ok (.aload_n 0, 1) := by decide +kernel
theorem dX7_isStep_1 : decode cX7_isStep 1 = .ok (.getfield 7, 3) := by decide +kernel
theorem dX7_isStep_4 : decode cX7_isStep 4 = .ok (.iload_n 2, 1) := by decide +kernel
theorem dX7_isStep_5 : decode cX7_isStep 5 = .ok (.baload, 1) := by decide +kernel
theorem dX7_isStep_6 : decode cX7_isStep 6 = .ok (.ifCond .eq 55, 3) := by decide +kernel
theorem dX7_isStep_9 : decode cX7_isStep 9 = .ok (.aload_n 0, 1) := by decide +kernel
theorem dX7_isStep_10 : decode cX7_isStep 10 = .ok (.getfield 32, 3) := by decide +kernel
theorem dX7_isStep_13 : decode cX7_isStep 13 = .ok (.bipush 8, 2) := by decide +kernel
theorem dX7_isStep_15 : decode cX7_isStep 15 = .ok (.iload_n 1, 1) := by decide +kernel
theorem dX7_isStep_16 : decode cX7_isStep 16 = .ok (.imul, 1) := by decide +kernel
theorem dX7_isStep_17 : decode cX7_isStep 17 = .ok (.aload_n 0, 1) := by decide +kernel
theorem dX7_isStep_18 : decode cX7_isStep 18 = .ok (.getfield 16, 3) := by decide +kernel
theorem dX7_isStep_21 : decode cX7_isStep 21 = .ok (.iload_n 2, 1) := by decide +kernel
theorem dX7_isStep_22 : decode cX7_isStep 22 = .ok (.iaload, 1) := by decide +kernel
theorem dX7_isStep_23 : decode cX7_isStep 23 = .ok (.iadd, 1) := by decide +kernel
theorem dX7_isStep_24 : decode cX7_isStep 24 = .ok (.iaload, 1) := by decide +kernel
theorem dX7_isStep_25 : decode cX7_isStep 25 = .ok (.iload_n 2, 1) := by decide +kernel
theorem dX7_isStep_26 : decode cX7_isStep 26 = .ok (.ishr, 1) := by decide +kernel
theorem dX7_isStep_27 : decode cX7_isStep 27 = .ok (.iconst 1, 1) := by decide +kernel
theorem dX7_isStep_28 : decode cX7_isStep 28 = .ok (.iand, 1) := by decide +kernel
theorem dX7_isStep_29 : decode cX7_isStep 29 = .ok (.iconst 1, 1) := by decide +kernel
theorem dX7_isStep_30 : decode cX7_isStep 30 = .ok (.if_icmp .ne 31, 3) := by decide +kernel
theorem dX7_isStep_33 : decode cX7_isStep 33 = .ok (.aload_n 0, 1) := by decide +kernel
theorem dX7_isStep_34 : decode cX7_isStep 34 = .ok (.getfield 32, 3) := by decide +kernel
theorem dX7_isStep_37 : decode cX7_isStep 37 = .ok (.bipush 8, 2) := by decide +kernel
theorem dX7_isStep_39 : decode cX7_isStep 39 = .ok (.iload_n 1, 1) := by decide +kernel
theorem dX7_isStep_40 : decode cX7_isStep 40 = .ok (.imul, 1) := by decide +kernel
theorem dX7_isStep_41 : decode cX7_isStep 41 = .ok (.aload_n 0, 1) := by decide +kernel
theorem dX7_isStep_42 : decode cX7_isStep 42 = .ok (.getfield 20, 3) := by decide +kernel
theorem dX7_isStep_45 : decode cX7_isStep 45 = .ok (.iload_n 2, 1) := by decide +kernel
theorem dX7_isStep_46 : decode cX7_isStep 46 = .ok (.iaload, 1) := by decide +kernel
theorem dX7_isStep_47 : decode cX7_isStep 47 = .ok (.iadd, 1) := by decide +kernel
theorem dX7_isStep_48 : decode cX7_isStep 48 = .ok (.iaload, 1) := by decide +kernel
theorem dX7_isStep_49 : decode cX7_isStep 49 = .ok (.iload_n 2, 1) := by decide +kernel
theorem dX7_isStep_50 : decode cX7_isStep 50 = .ok (.ishr, 1) := by decide +kernel
theorem dX7_isStep_51 : decode cX7_isStep 51 = .ok (.iconst 1, 1) := by decide +kernel
theorem dX7_isStep_52 : decode cX7_isStep 52 = .ok (.iand, 1) := by decide +kernel
theorem dX7_isStep_53 : decode cX7_isStep 53 = .ok (.iconst 1, 1) := by decide +kernel
theorem dX7_isStep_54 : decode cX7_isStep 54 = .ok (.if_icmp .ne 7, 3) := by decide +kernel
theorem dX7_isStep_57 : decode cX7_isStep 57 = .ok (.iconst 1, 1) := by decide +kernel
theorem dX7_isStep_58 : decode cX7_isStep 58 = .ok (.goto 4, 3) := by decide +kernel
theorem dX7_isStep_61 : decode cX7_isStep 61 = .ok (.iconst 0, 1) := by decide +kernel
theorem dX7_isStep_62 : decode cX7_isStep 62 = .ok (.ireturn, 1) := by decide +kernel
theorem dX7_shorten_0 : decode cX7_shorten 0 = .ok (.iload_n 3, 1) := by decide +kernel
theorem dX7_shorten_1 : decode cX7_shorten 1 = .ok (.aload_n 0, 1) := by decide +kernel
theorem dX7_shorten_2 : decode cX7_shorten 2 = .ok (.getfield 89, 3) := by decide +kernel
theorem dX7_shorten_5 : decode cX7_shorten 5 = .ok (.bipush 8, 2) := by decide +kernel
theorem dX7_shorten_7 : decode cX7_shorten 7 = .ok (.iload_n 1, 1) := by decide +kernel
theorem dX7_shorten_8 : decode cX7_shorten 8 = .ok (.imul, 1) := by decide +kernel
theorem dX7_shorten_9 : decode cX7_shorten 9 = .ok (.iload_n 2, 1) := by decide +kernel
theorem dX7_shorten_10 : decode cX7_shorten 10 = .ok (.iadd, 1) := by decide +kernel
theorem dX7_shorten_11 : decode cX7_shorten 11 = .ok (.iaload, 1) := by decide +kernel
theorem dX7_shorten_12 : decode cX7_shorten 12 = .ok (.if_icmp .ge 15, 3) := by decide +kernel
theorem dX7_shorten_15 : decode cX7_shorten 15 = .ok (.aload_n 0, 1) := by decide +kernel
theorem dX7_shorten_16 : decode cX7_shorten 16 = .ok (.getfield 89, 3) := by decide +kernel
theorem dX7_shorten_19 : decode cX7_shorten 19 = .ok (.bipush 8, 2) := by decide +kernel
theorem dX7_shorten_21 : decode cX7_shorten 21 = .ok (.iload_n 1, 1) := by decide +kernel
theorem dX7_shorten_22 : decode cX7_shorten 22 = .ok (.imul, 1) := by decide +kernel
theorem dX7_shorten_23 : decode cX7_shorten 23 = .ok (.iload_n 2, 1) := by decide +kernel
theorem dX7_shorten_24 : decode cX7_shorten 24 = .ok (.iadd, 1) := by decide +kernel
theorem dX7_shorten_25 : decode cX7_shorten 25 = .ok (.iload_n 3, 1) := by decide +kernel
theorem dX7_shorten_26 : decode cX7_shorten 26 = .ok (.iastore, 1) := by decide +kernel
theorem dX7_shorten_27 : decode cX7_shorten 27 = .ok (.return_, 1) := by decide +kernel
theorem dX7_measure_0 : decode cX7_measure 0 = .ok (.iconst 0, 1) := by decide +kernel
theorem dX7_measure_1 : decode cX7_measure 1 = .ok (.istore_n 2, 1) := by decide +kernel
theorem dX7_measure_2 : decode cX7_measure 2 = .ok (.iload_n 2, 1) := by decide +kernel
theorem dX7_measure_3 : decode cX7_measure 3 = .ok (.bipush 64, 2) := by decide +kernel
theorem dX7_measure_5 : decode cX7_measure 5 = .ok (.if_icmp .ge 28, 3) := by decide +kernel
theorem dX7_measure_8 : decode cX7_measure 8 = .ok (.aload_n 0, 1) := by decide +kernel
theorem dX7_measure_9 : decode cX7_measure 9 = .ok (.getfield 89, 3) := by decide +kernel
theorem dX7_measure_12 : decode cX7_measure 12 = .ok (.iload_n 2, 1) := by decide +kernel
theorem dX7_measure_13 : decode cX7_measure 13 = .ok (.iload_n 2, 1) := by decide +kernel
theorem dX7_measure_14 : decode cX7_measure 14 = .ok (.bipush 9, 2) := by decide +kernel
theorem dX7_measure_16 : decode cX7_measure 16 = .ok (.irem, 1) := by decide +kernel
theorem dX7_measure_17 : decode cX7_measure 17 = .ok (.ifCond .ne 7, 3) := by decide +kernel
theorem dX7_measure_20 : decode cX7_measure 20 = .ok (.iconst 0, 1) := by decide +kernel
theorem dX7_measure_21 : decode cX7_measure 21 = .ok (.goto 5, 3) := by decide +kernel
theorem dX7_measure_24 : decode cX7_measure 24 = .ok (.ldc 124, 2) := by decide +kernel
theorem dX7_measure_26 : decode cX7_measure 26 = .ok (.iastore, 1) := by decide +kernel
theorem dX7_measure_27 : decode cX7_measure 27 = .ok (.iinc 2 1, 3) := by decide +kernel
theorem dX7_measure_30 : decode cX7_measure 30 = .ok (.goto (-28), 3) := by decide +kernel
theorem dX7_measure_33 : decode cX7_measure 33 = .ok (.iconst 0, 1) := by decide +kernel
theorem dX7_measure_34 : decode cX7_measure 34 = .ok (.istore_n 2, 1) := by decide +kernel
theorem dX7_measure_35 : decode cX7_measure 35 = .ok (.iload_n 2, 1) := by decide +kernel
theorem dX7_measure_36 : decode cX7_measure 36 = .ok (.bipush 12, 2) := by decide +kernel
theorem dX7_measure_38 : decode cX7_measure 38 = .ok (.if_icmp .ge 62, 3) := by decide +kernel
theorem dX7_measure_41 : decode cX7_measure 41 = .ok (.aload_n 0, 1) := by decide +kernel
theorem dX7_measure_42 : decode cX7_measure 42 = .ok (.iload_n 1, 1) := by decide +kernel
theorem dX7_measure_43 : decode cX7_measure 43 = .ok (.iload_n 2, 1) := by decide +kernel
theorem dX7_measure_44 : decode cX7_measure 44 = .ok (.invokevirtual 125, 3) := by decide +kernel
theorem dX7_measure_47 : decode cX7_measure 47 = .ok (.ifCond .eq 47, 3) := by decide +kernel
theorem dX7_measure_50 : decode cX7_measure 50 = .ok (.aload_n 0, 1) := by decide +kernel
theorem dX7_measure_51 : decode cX7_measure 51 = .ok (.aload_n 0, 1) := by decide +kernel
theorem dX7_measure_52 : decode cX7_measure 52 = .ok (.getfield 16, 3) := by decide +kernel
theorem dX7_measure_55 : decode cX7_measure 55 = .ok (.iload_n 2, 1) := by decide +kernel
theorem dX7_measure_56 : decode cX7_measure 56 = .ok (.iaload, 1) := by decide +kernel
theorem dX7_measure_57 : decode cX7_measure 57 = .ok (.aload_n 0, 1) := by decide +kernel
theorem dX7_measure_58 : decode cX7_measure 58 = .ok (.getfield 20, 3) := by decide +kernel
theorem dX7_measure_61 : decode cX7_measure 61 = .ok (.iload_n 2, 1) := by decide +kernel
theorem dX7_measure_62 : decode cX7_measure 62 = .ok (.iaload, 1) := by decide +kernel
theorem dX7_measure_63 : decode cX7_measure 63 = .ok (.aload_n 0, 1) := by decide +kernel
theorem dX7_measure_64 : decode cX7_measure 64 = .ok (.getfield 23, 3) := by decide +kernel
theorem dX7_measure_67 : decode cX7_measure 67 = .ok (.iload_n 2, 1) := by decide +kernel
theorem dX7_measure_68 : decode cX7_measure 68 = .ok (.iaload, 1) := by decide +kernel
theorem dX7_measure_69 : decode cX7_measure 69 = .ok (.invokevirtual 128, 3) := by decide +kernel
theorem dX7_measure_72 : decode cX7_measure 72 = .ok (.aload_n 0, 1) := by decide +kernel
theorem dX7_measure_73 : decode cX7_measure 73 = .ok (.aload_n 0, 1) := by decide +kernel
theorem dX7_measure_74 : decode cX7_measure 74 = .ok (.getfield 20, 3) := by decide +kernel
theorem dX7_measure_77 : decode cX7_measure 77 = .ok (.iload_n 2, 1) := by decide +kernel
theorem dX7_measure_78 : decode cX7_measure 78 = .ok (.iaload, 1) := by decide +kernel
theorem dX7_measure_79 : decode cX7_measure 79 = .ok (.aload_n 0, 1) := by decide +kernel
theorem dX7_measure_80 : decode cX7_measure 80 = .ok (.getfield 16, 3) := by decide +kernel
theorem dX7_measure_83 : decode cX7_measure 83 = .ok (.iload_n 2, 1) := by decide +kernel
theorem dX7_measure_84 : decode cX7_measure 84 = .ok (.iaload, 1) := by decide +kernel
theorem dX7_measure_85 : decode cX7_measure 85 = .ok (.aload_n 0, 1) := by decide +kernel
theorem dX7_measure_86 : decode cX7_measure 86 = .ok (.getfield 23, 3) := by decide +kernel
theorem dX7_measure_89 : decode cX7_measure 89 = .ok (.iload_n 2, 1) := by decide +kernel
theorem dX7_measure_90 : decode cX7_measure 90 = .ok (.iaload, 1) := by decide +kernel
theorem dX7_measure_91 : decode cX7_measure 91 = .ok (.invokevirtual 128, 3) := by decide +kernel
theorem dX7_measure_94 : decode cX7_measure 94 = .ok (.iinc 2 1, 3) := by decide +kernel
theorem dX7_measure_97 : decode cX7_measure 97 = .ok (.goto (-62), 3) := by decide +kernel
theorem dX7_measure_100 : decode cX7_measure 100 = .ok (.iconst 0, 1) := by decide +kernel
theorem dX7_measure_101 : decode cX7_measure 101 = .ok (.istore_n 2, 1) := by decide +kernel
theorem dX7_measure_102 : decode cX7_measure 102 = .ok (.iload_n 2, 1) := by decide +kernel
theorem dX7_measure_103 : decode cX7_measure 103 = .ok (.aload_n 0, 1) := by decide +kernel
theorem dX7_measure_104 : decode cX7_measure 104 = .ok (.getfield 92, 3) := by decide +kernel
theorem dX7_measure_107 : decode cX7_measure 107 = .ok (.if_icmp .ge 74, 3) := by decide +kernel
theorem dX7_measure_110 : decode cX7_measure 110 = .ok (.iconst 0, 1) := by decide +kernel
theorem dX7_measure_111 : decode cX7_measure 111 = .ok (.istore_n 3, 1) := by decide +kernel
theorem dX7_measure_112 : decode cX7_measure 112 = .ok (.iload_n 3, 1) := by decide +kernel
theorem dX7_measure_113 : decode cX7_measure 113 = .ok (.aload_n 0, 1) := by decide +kernel
theorem dX7_measure_114 : decode cX7_measure 114 = .ok (.getfield 92, 3) := by decide +kernel
theorem dX7_measure_117 : decode cX7_measure 117 = .ok (.if_icmp .ge 58, 3) := by decide +kernel
theorem dX7_measure_120 : decode cX7_measure 120 = .ok (.iconst 0, 1) := by decide +kernel
theorem dX7_measure_121 : decode cX7_measure 121 = .ok (.istore 4, 2) := by decide +kernel
theorem dX7_measure_123 : decode cX7_measure 123 = .ok (.iload 4, 2) := by decide +kernel
theorem dX7_measure_125 : decode cX7_measure 125 = .ok (.aload_n 0, 1) := by decide +kernel
theorem dX7_measure_126 : decode cX7_measure 126 = .ok (.getfield 92, 3) := by decide +kernel
theorem dX7_measure_129 : decode cX7_measure 129 = .ok (.if_icmp .ge 40, 3) := by decide +kernel
theorem dX7_measure_132 : decode cX7_measure 132 = .ok (.aload_n 0, 1) := by decide +kernel
theorem dX7_measure_133 : decode cX7_measure 133 = .ok (.iload_n 3, 1) := by decide +kernel
theorem dX7_measure_134 : decode cX7_measure 134 = .ok (.iload 4, 2) := by decide +kernel
theorem dX7_measure_136 : decode cX7_measure 136 = .ok (.aload_n 0, 1) := by decide +kernel
theorem dX7_measure_137 : decode cX7_measure 137 = .ok (.getfield 89, 3) := by decide +kernel
theorem dX7_measure_140 : decode cX7_measure 140 = .ok (.bipush 8, 2) := by decide +kernel
theorem dX7_measure_142 : decode cX7_measure 142 = .ok (.iload_n 3, 1) := by decide +kernel
theorem dX7_measure_143 : decode cX7_measure 143 = .ok (.imul, 1) := by decide +kernel
theorem dX7_measure_144 : decode cX7_measure 144 = .ok (.iload_n 2, 1) := by decide +kernel
theorem dX7_measure_145 : decode cX7_measure 145 = .ok (.iadd, 1) := by decide +kernel
theorem dX7_measure_146 : decode cX7_measure 146 = .ok (.iaload, 1) := by decide +kernel
theorem dX7_measure_147 : decode cX7_measure 147 = .ok (.aload_n 0, 1) := by decide +kernel
theorem dX7_measure_148 : decode cX7_measure 148 = .ok (.getfield 89, 3) := by decide +kernel
theorem dX7_measure_151 : decode cX7_measure 151 = .ok (.bipush 8, 2) := by decide +kernel
theorem dX7_measure_153 : decode cX7_measure 153 = .ok (.iload_n 2, 1) := by decide +kernel
theorem dX7_measure_154 : decode cX7_measure 154 = .ok (.imul, 1) := by decide +kernel
theorem dX7_measure_155 : decode cX7_measure 155 = .ok (.iload 4, 2) := by decide +kernel
theorem dX7_measure_157 : decode cX7_measure 157 = .ok (.iadd, 1) := by decide +kernel
theorem dX7_measure_158 : decode cX7_measure 158 = .ok (.iaload, 1) := by decide +kernel
theorem dX7_measure_159 : decode cX7_measure 159 = .ok (.iadd, 1) := by decide +kernel
theorem dX7_measure_160 : decode cX7_measure 160 = .ok (.invokevirtual 128, 3) := by decide +kernel
theorem dX7_measure_163 : decode cX7_measure 163 = .ok (.iinc 4 1, 3) := by decide +kernel
theorem dX7_measure_166 : decode cX7_measure 166 = .ok (.goto (-43), 3) := by decide +kernel
theorem dX7_measure_169 : decode cX7_measure 169 = .ok (.iinc 3 1, 3) := by decide +kernel
theorem dX7_measure_172 : decode cX7_measure 172 = .ok (.goto (-60), 3) := by decide +kernel
theorem dX7_measure_175 : decode cX7_measure 175 = .ok (.iinc 2 1, 3) := by decide +kernel
theorem dX7_measure_178 : decode cX7_measure 178 = .ok (.goto (-76), 3) := by decide +kernel
theorem dX7_measure_181 : decode cX7_measure 181 = .ok (.return_, 1) := by decide +kernel
theorem dX7_hop_0 : decode cX7_hop 0 = .ok (.iload_n 2, 1) := by decide +kernel
theorem dX7_hop_1 : decode cX7_hop 1 = .ok (.iload_n 1, 1) := by decide +kernel
theorem dX7_hop_2 : decode cX7_hop 2 = .ok (.if_icmp .eq 19, 3) := by decide +kernel
theorem dX7_hop_5 : decode cX7_hop 5 = .ok (.aload_n 0, 1) := by decide +kernel
theorem dX7_hop_6 : decode cX7_hop 6 = .ok (.getfield 89, 3) := by decide +kernel
theorem dX7_hop_9 : decode cX7_hop 9 = .ok (.bipush 8, 2) := by decide +kernel
theorem dX7_hop_11 : decode cX7_hop 11 = .ok (.iload_n 1, 1) := by decide +kernel
theorem dX7_hop_12 : decode cX7_hop 12 = .ok (.imul, 1) := by decide +kernel
theorem dX7_hop_13 : decode cX7_hop 13 = .ok (.iload_n 2, 1) := by decide +kernel
theorem dX7_hop_14 : decode cX7_hop 14 = .ok (.iadd, 1) := by decide +kernel
theorem dX7_hop_15 : decode cX7_hop 15 = .ok (.iaload, 1) := by decide +kernel
theorem dX7_hop_16 : decode cX7_hop 16 = .ok (.ldc 124, 2) := by decide +kernel
theorem dX7_hop_18 : decode cX7_hop 18 = .ok (.if_icmp .lt 5, 3) := by decide +kernel
theorem dX7_hop_21 : decode cX7_hop 21 = .ok (.iconst (-1), 1) := by decide +kernel
theorem dX7_hop_22 : decode cX7_hop 22 = .ok (.ireturn, 1) := by decide +kernel
theorem dX7_hop_23 : decode cX7_hop 23 = .ok (.iconst 0, 1) := by decide +kernel
theorem dX7_hop_24 : decode cX7_hop 24 = .ok (.istore_n 3, 1) := by decide +kernel
theorem dX7_hop_25 : decode cX7_hop 25 = .ok (.iload_n 3, 1) := by decide +kernel
theorem dX7_hop_26 : decode cX7_hop 26 = .ok (.bipush 12, 2) := by decide +kernel
theorem dX7_hop_28 : decode cX7_hop 28 = .ok (.if_icmp .ge 66, 3) := by decide +kernel
theorem dX7_hop_31 : decode cX7_hop 31 = .ok (.aload_n 0, 1) := by decide +kernel
theorem dX7_hop_32 : decode cX7_hop 32 = .ok (.iload_n 1, 1) := by decide +kernel
theorem dX7_hop_33 : decode cX7_hop 33 = .ok (.iload_n 3, 1) := by decide +kernel
theorem dX7_hop_34 : decode cX7_hop 34 = .ok (.invokevirtual 110, 3) := by decide +kernel
theorem dX7_hop_37 : decode cX7_hop 37 = .ok (.ifCond .eq 51, 3) := by decide +kernel
theorem dX7_hop_40 : decode cX7_hop 40 = .ok (.aload_n 0, 1) := by decide +kernel
theorem dX7_hop_41 : decode cX7_hop 41 = .ok (.iload_n 1, 1) := by decide +kernel
theorem dX7_hop_42 : decode cX7_hop 42 = .ok (.iload_n 3, 1) := by decide +kernel
theorem dX7_hop_43 : decode cX7_hop 43 = .ok (.invokevirtual 125, 3) := by decide +kernel
theorem dX7_hop_46 : decode cX7_hop 46 = .ok (.ifCond .eq 42, 3) := by decide +kernel
theorem dX7_hop_49 : decode cX7_hop 49 = .ok (.aload_n 0, 1) := by decide +kernel
theorem dX7_hop_50 : decode cX7_hop 50 = .ok (.getfield 23, 3) := by decide +kernel
theorem dX7_hop_53 : decode cX7_hop 53 = .ok (.iload_n 3, 1) := by decide +kernel
theorem dX7_hop_54 : decode cX7_hop 54 = .ok (.iaload, 1) := by decide +kernel
theorem dX7_hop_55 : decode cX7_hop 55 = .ok (.aload_n 0, 1) := by decide +kernel
theorem dX7_hop_56 : decode cX7_hop 56 = .ok (.getfield 89, 3) := by decide +kernel
theorem dX7_hop_59 : decode cX7_hop 59 = .ok (.bipush 8, 2) := by decide +kernel
theorem dX7_hop_61 : decode cX7_hop 61 = .ok (.aload_n 0, 1) := by decide +kernel
theorem dX7_hop_62 : decode cX7_hop 62 = .ok (.iload_n 1, 1) := by decide +kernel
theorem dX7_hop_63 : decode cX7_hop 63 = .ok (.iload_n 3, 1) := by decide +kernel
theorem dX7_hop_64 : decode cX7_hop 64 = .ok (.invokevirtual 132, 3) := by decide +kernel
theorem dX7_hop_67 : decode cX7_hop 67 = .ok (.imul, 1) := by decide +kernel
theorem dX7_hop_68 : decode cX7_hop 68 = .ok (.iload_n 2, 1) := by decide +kernel
theorem dX7_hop_69 : decode cX7_hop 69 = .ok (.iadd, 1) := by decide +kernel
theorem dX7_hop_70 : decode cX7_hop 70 = .ok (.iaload, 1) := by decide +kernel
theorem dX7_hop_71 : decode cX7_hop 71 = .ok (.iadd, 1) := by decide +kernel
theorem dX7_hop_72 : decode cX7_hop 72 = .ok (.aload_n 0, 1) := by decide +kernel
theorem dX7_hop_73 : decode cX7_hop 73 = .ok (.getfield 89, 3) := by decide +kernel
theorem dX7_hop_76 : decode cX7_hop 76 = .ok (.bipush 8, 2) := by decide +kernel
theorem dX7_hop_78 : decode cX7_hop 78 = .ok (.iload_n 1, 1) := by decide +kernel
theorem dX7_hop_79 : decode cX7_hop 79 = .ok (.imul, 1) := by decide +kernel
theorem dX7_hop_80 : decode cX7_hop 80 = .ok (.iload_n 2, 1) := by decide +kernel
theorem dX7_hop_81 : decode cX7_hop 81 = .ok (.iadd, 1) := by decide +kernel
theorem dX7_hop_82 : decode cX7_hop 82 = .ok (.iaload, 1) := by decide +kernel
theorem dX7_hop_83 : decode cX7_hop 83 = .ok (.if_icmp .ne 5, 3) := by decide +kernel
theorem dX7_hop_86 : decode cX7_hop 86 = .ok (.iload_n 3, 1) := by decide +kernel
theorem dX7_hop_87 : decode cX7_hop 87 = .ok (.ireturn, 1) := by decide +kernel
theorem dX7_hop_88 : decode cX7_hop 88 = .ok (.iinc 3 1, 3) := by decide +kernel
theorem dX7_hop_91 : decode cX7_hop 91 = .ok (.goto (-66), 3) := by decide +kernel
theorem dX7_hop_94 : decode cX7_hop 94 = .ok (.iconst (-1), 1) := by decide +kernel
theorem dX7_hop_95 : decode cX7_hop 95 = .ok (.ireturn, 1) := by decide +kernel
theorem dX7_egress_0 : decode cX7_egress 0 = .ok (.iconst 0, 1) := by decide +kernel
theorem dX7_egress_1 : decode cX7_egress 1 = .ok (.istore_n 3, 1) := by decide +kernel
theorem dX7_egress_2 : decode cX7_egress 2 = .ok (.iload_n 3, 1) := by decide +kernel
theorem dX7_egress_3 : decode cX7_egress 3 = .ok (.aload_n 0, 1) := by decide +kernel
theorem dX7_egress_4 : decode cX7_egress 4 = .ok (.getfield 92, 3) := by decide +kernel
theorem dX7_egress_7 : decode cX7_egress 7 = .ok (.if_icmp .ge 46, 3) := by decide +kernel
theorem dX7_egress_10 : decode cX7_egress 10 = .ok (.aload_n 0, 1) := by decide +kernel
theorem dX7_egress_11 : decode cX7_egress 11 = .ok (.getfield 35, 3) := by decide +kernel
theorem dX7_egress_14 : decode cX7_egress 14 = .ok (.bipush 8, 2) := by decide +kernel
theorem dX7_egress_16 : decode cX7_egress 16 = .ok (.iload_n 1, 1) := by decide +kernel
theorem dX7_egress_17 : decode cX7_egress 17 = .ok (.imul, 1) := by decide +kernel
theorem dX7_egress_18 : decode cX7_egress 18 = .ok (.iload_n 3, 1) := by decide +kernel
theorem dX7_egress_19 : decode cX7_egress 19 = .ok (.iadd, 1) := by decide +kernel
theorem dX7_egress_20 : decode cX7_egress 20 = .ok (.iaload, 1) := by decide +kernel
theorem dX7_egress_21 : decode cX7_egress 21 = .ok (.iload_n 2, 1) := by decide +kernel
theorem dX7_egress_22 : decode cX7_egress 22 = .ok (.ishr, 1) := by decide +kernel
theorem dX7_egress_23 : decode cX7_egress 23 = .ok (.iconst 1, 1) := by decide +kernel
theorem dX7_egress_24 : decode cX7_egress 24 = .ok (.iand, 1) := by decide +kernel
theorem dX7_egress_25 : decode cX7_egress 25 = .ok (.iconst 1, 1) := by decide +kernel
theorem dX7_egress_26 : decode cX7_egress 26 = .ok (.if_icmp .ne 21, 3) := by decide +kernel
theorem dX7_egress_29 : decode cX7_egress 29 = .ok (.aload_n 0, 1) := by decide +kernel
theorem dX7_egress_30 : decode cX7_egress 30 = .ok (.getfield 89, 3) := by decide +kernel
theorem dX7_egress_33 : decode cX7_egress 33 = .ok (.bipush 8, 2) := by decide +kernel
theorem dX7_egress_35 : decode cX7_egress 35 = .ok (.iload_n 1, 1) := by decide +kernel
theorem dX7_egress_36 : decode cX7_egress 36 = .ok (.imul, 1) := by decide +kernel
theorem dX7_egress_37 : decode cX7_egress 37 = .ok (.iload_n 3, 1) := by decide +kernel
theorem dX7_egress_38 : decode cX7_egress 38 = .ok (.iadd, 1) := by decide +kernel
theorem dX7_egress_39 : decode cX7_egress 39 = .ok (.iaload, 1) := by decide +kernel
theorem dX7_egress_40 : decode cX7_egress 40 = .ok (.ldc 124, 2) := by decide +kernel
theorem dX7_egress_42 : decode cX7_egress 42 = .ok (.if_icmp .ge 5, 3) := by decide +kernel
theorem dX7_egress_45 : decode cX7_egress 45 = .ok (.iload_n 3, 1) := by decide +kernel
theorem dX7_egress_46 : decode cX7_egress 46 = .ok (.ireturn, 1) := by decide +kernel
theorem dX7_egress_47 : decode cX7_egress 47 = .ok (.iinc 3 1, 3) := by decide +kernel
theorem dX7_egress_50 : decode cX7_egress 50 = .ok (.goto (-48), 3) := by decide +kernel
theorem dX7_egress_53 : decode cX7_egress 53 = .ok (.iconst (-1), 1) := by decide +kernel
theorem dX7_egress_54 : decode cX7_egress 54 = .ok (.ireturn, 1) := by decide +kernel
theorem dX7_slot_0 : decode cX7_slot 0 = .ok (.bipush 12, 2) := by decide +kernel
theorem dX7_slot_2 : decode cX7_slot 2 = .ok (.bipush 8, 2) := by decide +kernel
theorem dX7_slot_4 : decode cX7_slot 4 = .ok (.iload_n 1, 1) := by decide +kernel
theorem dX7_slot_5 : decode cX7_slot 5 = .ok (.imul, 1) := by decide +kernel
theorem dX7_slot_6 : decode cX7_slot 6 = .ok (.iload_n 2, 1) := by decide +kernel
theorem dX7_slot_7 : decode cX7_slot 7 = .ok (.iadd, 1) := by decide +kernel
theorem dX7_slot_8 : decode cX7_slot 8 = .ok (.imul, 1) := by decide +kernel
theorem dX7_slot_9 : decode cX7_slot 9 = .ok (.iload_n 3, 1) := by decide +kernel
theorem dX7_slot_10 : decode cX7_slot 10 = .ok (.iadd, 1) := by decide +kernel
theorem dX7_slot_11 : decode cX7_slot 11 = .ok (.ireturn, 1) := by decide +kernel
theorem dX7_settle_0 : decode cX7_settle 0 = .ok (.bipush 64, 2) := by decide +kernel
theorem dX7_settle_2 : decode cX7_settle 2 = .ok (.iload_n 1, 1) := by decide +kernel
theorem dX7_settle_3 : decode cX7_settle 3 = .ok (.imul, 1) := by decide +kernel
theorem dX7_settle_4 : decode cX7_settle 4 = .ok (.iload_n 2, 1) := by decide +kernel
theorem dX7_settle_5 : decode cX7_settle 5 = .ok (.iadd, 1) := by decide +kernel
theorem dX7_settle_6 : decode cX7_settle 6 = .ok (.istore_n 3, 1) := by decide +kernel
theorem dX7_settle_7 : decode cX7_settle 7 = .ok (.aload_n 0, 1) := by decide +kernel
theorem dX7_settle_8 : decode cX7_settle 8 = .ok (.getfield 68, 3) := by decide +kernel
theorem dX7_settle_11 : decode cX7_settle 11 = .ok (.iload_n 3, 1) := by decide +kernel
theorem dX7_settle_12 : decode cX7_settle 12 = .ok (.iaload, 1) := by decide +kernel
theorem dX7_settle_13 : decode cX7_settle 13 = .ok (.ifCond .le 44, 3) := by decide +kernel
theorem dX7_settle_16 : decode cX7_settle 16 = .ok (.aload_n 0, 1) := by decide +kernel
theorem dX7_settle_17 : decode cX7_settle 17 = .ok (.getfield 71, 3) := by decide +kernel
theorem dX7_settle_20 : decode cX7_settle 20 = .ok (.iload_n 3, 1) := by decide +kernel
theorem dX7_settle_21 : decode cX7_settle 21 = .ok (.iaload, 1) := by decide +kernel
theorem dX7_settle_22 : decode cX7_settle 22 = .ok (.ifCond .ne 35, 3) := by decide +kernel
theorem dX7_settle_25 : decode cX7_settle 25 = .ok (.aload_n 0, 1) := by decide +kernel
theorem dX7_settle_26 : decode cX7_settle 26 = .ok (.getfield 62, 3) := by decide +kernel
theorem dX7_settle_29 : decode cX7_settle 29 = .ok (.bipush 8, 2) := by decide +kernel
theorem dX7_settle_31 : decode cX7_settle 31 = .ok (.iload_n 1, 1) := by decide +kernel
theorem dX7_settle_32 : decode cX7_settle 32 = .ok (.imul, 1) := by decide +kernel
theorem dX7_settle_33 : decode cX7_settle 33 = .ok (.aload_n 0, 1) := by decide +kernel
theorem dX7_settle_34 : decode cX7_settle 34 = .ok (.getfield 68, 3) := by decide +kernel
theorem dX7_settle_37 : decode cX7_settle 37 = .ok (.iload_n 3, 1) := by decide +kernel
theorem dX7_settle_38 : decode cX7_settle 38 = .ok (.iaload, 1) := by decide +kernel
theorem dX7_settle_39 : decode cX7_settle 39 = .ok (.iadd, 1) := by decide +kernel
theorem dX7_settle_40 : decode cX7_settle 40 = .ok (.iconst 1, 1) := by decide +kernel
theorem dX7_settle_41 : decode cX7_settle 41 = .ok (.isub, 1) := by decide +kernel
theorem dX7_settle_42 : decode cX7_settle 42 = .ok (.iaload, 1) := by decide +kernel
theorem dX7_settle_43 : decode cX7_settle 43 = .ok (.bipush 16, 2) := by decide +kernel
theorem dX7_settle_45 : decode cX7_settle 45 = .ok (.iload_n 2, 1) := by decide +kernel
theorem dX7_settle_46 : decode cX7_settle 46 = .ok (.iadd, 1) := by decide +kernel
theorem dX7_settle_47 : decode cX7_settle 47 = .ok (.if_icmp .eq 10, 3) := by decide +kernel
theorem dX7_settle_50 : decode cX7_settle 50 = .ok (.aload_n 0, 1) := by decide +kernel
theorem dX7_settle_51 : decode cX7_settle 51 = .ok (.getfield 68, 3) := by decide +kernel
theorem dX7_settle_54 : decode cX7_settle 54 = .ok (.iload_n 3, 1) := by decide +kernel
theorem dX7_settle_55 : decode cX7_settle 55 = .ok (.iconst 0, 1) := by decide +kernel
theorem dX7_settle_56 : decode cX7_settle 56 = .ok (.iastore, 1) := by decide +kernel
theorem dX7_settle_57 : decode cX7_settle 57 = .ok (.return_, 1) := by decide +kernel
theorem dX7_withdraw_0 : decode cX7_withdraw 0 = .ok (.aload_n 0, 1) := by decide +kernel
theorem dX7_withdraw_1 : decode cX7_withdraw 1 = .ok (.getfield 62, 3) := by decide +kernel
theorem dX7_withdraw_4 : decode cX7_withdraw 4 = .ok (.bipush 8, 2) := by decide +kernel
theorem dX7_withdraw_6 : decode cX7_withdraw 6 = .ok (.iload_n 1, 1) := by decide +kernel
theorem dX7_withdraw_7 : decode cX7_withdraw 7 = .ok (.imul, 1) := by decide +kernel
theorem dX7_withdraw_8 : decode cX7_withdraw 8 = .ok (.iload_n 2, 1) := by decide +kernel
theorem dX7_withdraw_9 : decode cX7_withdraw 9 = .ok (.iadd, 1) := by decide +kernel
theorem dX7_withdraw_10 : decode cX7_withdraw 10 = .ok (.iaload, 1) := by decide +kernel
theorem dX7_withdraw_11 : decode cX7_withdraw 11 = .ok (.istore_n 3, 1) := by decide +kernel
theorem dX7_withdraw_12 : decode cX7_withdraw 12 = .ok (.aload_n 0, 1) := by decide +kernel
theorem dX7_withdraw_13 : decode cX7_withdraw 13 = .ok (.getfield 62, 3) := by decide +kernel
theorem dX7_withdraw_16 : decode cX7_withdraw 16 = .ok (.bipush 8, 2) := by decide +kernel
theorem dX7_withdraw_18 : decode cX7_withdraw 18 = .ok (.iload_n 1, 1) := by decide +kernel
theorem dX7_withdraw_19 : decode cX7_withdraw 19 = .ok (.imul, 1) := by decide +kernel
theorem dX7_withdraw_20 : decode cX7_withdraw 20 = .ok (.iload_n 2, 1) := by decide +kernel
theorem dX7_withdraw_21 : decode cX7_withdraw 21 = .ok (.iadd, 1) := by decide +kernel
theorem dX7_withdraw_22 : decode cX7_withdraw 22 = .ok (.iconst (-1), 1) := by decide +kernel
theorem dX7_withdraw_23 : decode cX7_withdraw 23 = .ok (.iastore, 1) := by decide +kernel
theorem dX7_withdraw_24 : decode cX7_withdraw 24 = .ok (.aload_n 0, 1) := by decide +kernel
theorem dX7_withdraw_25 : decode cX7_withdraw 25 = .ok (.iload_n 1, 1) := by decide +kernel
theorem dX7_withdraw_26 : decode cX7_withdraw 26 = .ok (.iconst (-1), 1) := by decide +kernel
theorem dX7_withdraw_27 : decode cX7_withdraw 27 = .ok (.iconst 2, 1) := by decide +kernel
theorem dX7_withdraw_28 : decode cX7_withdraw 28 = .ok (.iload_n 2, 1) := by decide +kernel
theorem dX7_withdraw_29 : decode cX7_withdraw 29 = .ok (.iload_n 3, 1) := by decide +kernel
theorem dX7_withdraw_30 : decode cX7_withdraw 30 = .ok (.iconst 0, 1) := by decide +kernel
theorem dX7_withdraw_31 : decode cX7_withdraw 31 = .ok (.invokevirtual 121, 3) := by decide +kernel
theorem dX7_withdraw_34 : decode cX7_withdraw 34 = .ok (.iload_n 3, 1) := by decide +kernel
theorem dX7_withdraw_35 : decode cX7_withdraw 35 = .ok (.bipush 16, 2) := by decide +kernel
theorem dX7_withdraw_37 : decode cX7_withdraw 37 = .ok (.if_icmp .lt 12, 3) := by decide +kernel
theorem dX7_withdraw_40 : decode cX7_withdraw 40 = .ok (.aload_n 0, 1) := by decide +kernel
theorem dX7_withdraw_41 : decode cX7_withdraw 41 = .ok (.iload_n 1, 1) := by decide +kernel
theorem dX7_withdraw_42 : decode cX7_withdraw 42 = .ok (.iload_n 3, 1) := by decide +kernel
theorem dX7_withdraw_43 : decode cX7_withdraw 43 = .ok (.bipush 16, 2) := by decide +kernel
theorem dX7_withdraw_45 : decode cX7_withdraw 45 = .ok (.isub, 1) := by decide +kernel
theorem dX7_withdraw_46 : decode cX7_withdraw 46 = .ok (.invokevirtual 135, 3) := by decide +kernel
theorem dX7_withdraw_49 : decode cX7_withdraw 49 = .ok (.return_, 1) := by decide +kernel
theorem dX7_free_0 : decode cX7_free 0 = .ok (.iconst 0, 1) := by decide +kernel
theorem dX7_free_1 : decode cX7_free 1 = .ok (.istore_n 2, 1) := by decide +kernel
theorem dX7_free_2 : decode cX7_free 2 = .ok (.iload_n 2, 1) := by decide +kernel
theorem dX7_free_3 : decode cX7_free 3 = .ok (.bipush 64, 2) := by decide +kernel
theorem dX7_free_5 : decode cX7_free 5 = .ok (.if_icmp .ge 25, 3) := by decide +kernel
theorem dX7_free_8 : decode cX7_free 8 = .ok (.aload_n 0, 1) := by decide +kernel
theorem dX7_free_9 : decode cX7_free 9 = .ok (.getfield 68, 3) := by decide +kernel
theorem dX7_free_12 : decode cX7_free 12 = .ok (.bipush 64, 2) := by decide +kernel
theorem dX7_free_14 : decode cX7_free 14 = .ok (.iload_n 1, 1) := by decide +kernel
theorem dX7_free_15 : decode cX7_free 15 = .ok (.imul, 1) := by decide +kernel
theorem dX7_free_16 : decode cX7_free 16 = .ok (.iload_n 2, 1) := by decide +kernel
theorem dX7_free_17 : decode cX7_free 17 = .ok (.iadd, 1) := by decide +kernel
theorem dX7_free_18 : decode cX7_free 18 = .ok (.iaload, 1) := by decide +kernel
theorem dX7_free_19 : decode cX7_free 19 = .ok (.ifCond .ne 5, 3) := by decide +kernel
theorem dX7_free_22 : decode cX7_free 22 = .ok (.iload_n 2, 1) := by decide +kernel
theorem dX7_free_23 : decode cX7_free 23 = .ok (.ireturn, 1) := by decide +kernel
theorem dX7_free_24 : decode cX7_free 24 = .ok (.iinc 2 1, 3) := by decide +kernel
theorem dX7_free_27 : decode cX7_free 27 = .ok (.goto (-25), 3) := by decide +kernel
theorem dX7_free_30 : decode cX7_free 30 = .ok (.iconst (-1), 1) := by decide +kernel
theorem dX7_free_31 : decode cX7_free 31 = .ok (.ireturn, 1) := by decide +kernel
theorem dX7_become_0 : decode cX7_become 0 = .ok (.aload_n 0, 1) := by decide +kernel
theorem dX7_become_1 : decode cX7_become 1 = .ok (.getfield 62, 3) := by decide +kernel
theorem dX7_become_4 : decode cX7_become 4 = .ok (.bipush 8, 2) := by decide +kernel
theorem dX7_become_6 : decode cX7_become 6 = .ok (.iload_n 1, 1) := by decide +kernel
theorem dX7_become_7 : decode cX7_become 7 = .ok (.imul, 1) := by decide +kernel
theorem dX7_become_8 : decode cX7_become 8 = .ok (.iload_n 2, 1) := by decide +kernel
theorem dX7_become_9 : decode cX7_become 9 = .ok (.iadd, 1) := by decide +kernel
theorem dX7_become_10 : decode cX7_become 10 = .ok (.iload_n 3, 1) := by decide +kernel
theorem dX7_become_11 : decode cX7_become 11 = .ok (.iastore, 1) := by decide +kernel
theorem dX7_become_12 : decode cX7_become 12 = .ok (.aload_n 0, 1) := by decide +kernel
theorem dX7_become_13 : decode cX7_become 13 = .ok (.getfield 65, 3) := by decide +kernel
theorem dX7_become_16 : decode cX7_become 16 = .ok (.bipush 8, 2) := by decide +kernel
theorem dX7_become_18 : decode cX7_become 18 = .ok (.iload_n 1, 1) := by decide +kernel
theorem dX7_become_19 : decode cX7_become 19 = .ok (.imul, 1) := by decide +kernel
theorem dX7_become_20 : decode cX7_become 20 = .ok (.iload_n 2, 1) := by decide +kernel
theorem dX7_become_21 : decode cX7_become 21 = .ok (.iadd, 1) := by decide +kernel
theorem dX7_become_22 : decode cX7_become 22 = .ok (.iload 4, 2) := by decide +kernel
theorem dX7_become_24 : decode cX7_become 24 = .ok (.iastore, 1) := by decide +kernel
theorem dX7_become_25 : decode cX7_become 25 = .ok (.aload_n 0, 1) := by decide +kernel
theorem dX7_become_26 : decode cX7_become 26 = .ok (.iload_n 1, 1) := by decide +kernel
theorem dX7_become_27 : decode cX7_become 27 = .ok (.iconst (-1), 1) := by decide +kernel
theorem dX7_become_28 : decode cX7_become 28 = .ok (.iconst 1, 1) := by decide +kernel
theorem dX7_become_29 : decode cX7_become 29 = .ok (.iload_n 2, 1) := by decide +kernel
theorem dX7_become_30 : decode cX7_become 30 = .ok (.iload_n 3, 1) := by decide +kernel
theorem dX7_become_31 : decode cX7_become 31 = .ok (.iload 4, 2) := by decide +kernel
theorem dX7_become_33 : decode cX7_become 33 = .ok (.invokevirtual 121, 3) := by decide +kernel
theorem dX7_become_36 : decode cX7_become 36 = .ok (.return_, 1) := by decide +kernel
theorem dX7_byHop_0 : decode cX7_byHop 0 = .ok (.aload_n 0, 1) := by decide +kernel
theorem dX7_byHop_1 : decode cX7_byHop 1 = .ok (.iload_n 1, 1) := by decide +kernel
theorem dX7_byHop_2 : decode cX7_byHop 2 = .ok (.iload_n 2, 1) := by decide +kernel
theorem dX7_byHop_3 : decode cX7_byHop 3 = .ok (.invokevirtual 139, 3) := by decide +kernel
theorem dX7_byHop_6 : decode cX7_byHop 6 = .ok (.istore_n 3, 1) := by decide +kernel
theorem dX7_byHop_7 : decode cX7_byHop 7 = .ok (.iload_n 3, 1) := by decide +kernel
theorem dX7_byHop_8 : decode cX7_byHop 8 = .ok (.iconst (-1), 1) := by decide +kernel
theorem dX7_byHop_9 : decode cX7_byHop 9 = .ok (.if_icmp .ne 7, 3) := by decide +kernel
theorem dX7_byHop_12 : decode cX7_byHop 12 = .ok (.iconst (-1), 1) := by decide +kernel
theorem dX7_byHop_13 : decode cX7_byHop 13 = .ok (.goto 9, 3) := by decide +kernel
theorem dX7_byHop_16 : decode cX7_byHop 16 = .ok (.aload_n 0, 1) := by decide +kernel
theorem dX7_byHop_17 : decode cX7_byHop 17 = .ok (.iload_n 1, 1) := by decide +kernel
theorem dX7_byHop_18 : decode cX7_byHop 18 = .ok (.iload_n 3, 1) := by decide +kernel
theorem dX7_byHop_19 : decode cX7_byHop 19 = .ok (.invokevirtual 142, 3) := by decide +kernel
theorem dX7_byHop_22 : decode cX7_byHop 22 = .ok (.istore 4, 2) := by decide +kernel
theorem dX7_byHop_24 : decode cX7_byHop 24 = .ok (.iload 4, 2) := by decide +kernel
theorem dX7_byHop_26 : decode cX7_byHop 26 = .ok (.iconst (-1), 1) := by decide +kernel
theorem dX7_byHop_27 : decode cX7_byHop 27 = .ok (.if_icmp .eq 20, 3) := by decide +kernel
theorem dX7_byHop_30 : decode cX7_byHop 30 = .ok (.aload_n 0, 1) := by decide +kernel
theorem dX7_byHop_31 : decode cX7_byHop 31 = .ok (.getfield 56, 3) := by decide +kernel
theorem dX7_byHop_34 : decode cX7_byHop 34 = .ok (.aload_n 0, 1) := by decide +kernel
theorem dX7_byHop_35 : decode cX7_byHop 35 = .ok (.iload_n 1, 1) := by decide +kernel
theorem dX7_byHop_36 : decode cX7_byHop 36 = .ok (.iload_n 2, 1) := by decide +kernel
theorem dX7_byHop_37 : decode cX7_byHop 37 = .ok (.iload 4, 2) := by decide +kernel
theorem dX7_byHop_39 : decode cX7_byHop 39 = .ok (.invokevirtual 145, 3) := by decide +kernel
theorem dX7_byHop_42 : decode cX7_byHop 42 = .ok (.iaload, 1) := by decide +kernel
theorem dX7_byHop_43 : decode cX7_byHop 43 = .ok (.iconst (-1), 1) := by decide +kernel
theorem dX7_byHop_44 : decode cX7_byHop 44 = .ok (.if_icmp .ne 7, 3) := by decide +kernel
theorem dX7_byHop_47 : decode cX7_byHop 47 = .ok (.iconst (-1), 1) := by decide +kernel
theorem dX7_byHop_48 : decode cX7_byHop 48 = .ok (.goto 11, 3) := by decide +kernel
theorem dX7_byHop_51 : decode cX7_byHop 51 = .ok (.aload_n 0, 1) := by decide +kernel
theorem dX7_byHop_52 : decode cX7_byHop 52 = .ok (.iload_n 1, 1) := by decide +kernel
theorem dX7_byHop_53 : decode cX7_byHop 53 = .ok (.iload_n 2, 1) := by decide +kernel
theorem dX7_byHop_54 : decode cX7_byHop 54 = .ok (.iload 4, 2) := by decide +kernel
theorem dX7_byHop_56 : decode cX7_byHop 56 = .ok (.invokevirtual 145, 3) := by decide +kernel
theorem dX7_byHop_59 : decode cX7_byHop 59 = .ok (.ireturn, 1) := by decide +kernel
theorem dX7_checkOne_0 : decode cX7_checkOne 0 = .ok (.aload_n 0, 1) := by decide +kernel
theorem dX7_checkOne_1 : decode cX7_checkOne 1 = .ok (.getfield 62, 3) := by decide +kernel
theorem dX7_checkOne_4 : decode cX7_checkOne 4 = .ok (.bipush 8, 2) := by decide +kernel
theorem dX7_checkOne_6 : decode cX7_checkOne 6 = .ok (.iload_n 1, 1) := by decide +kernel
theorem dX7_checkOne_7 : decode cX7_checkOne 7 = .ok (.imul, 1) := by decide +kernel
theorem dX7_checkOne_8 : decode cX7_checkOne 8 = .ok (.iload_n 2, 1) := by decide +kernel
theorem dX7_checkOne_9 : decode cX7_checkOne 9 = .ok (.iadd, 1) := by decide +kernel
theorem dX7_checkOne_10 : decode cX7_checkOne 10 = .ok (.iaload, 1) := by decide +kernel
theorem dX7_checkOne_11 : decode cX7_checkOne 11 = .ok (.istore_n 3, 1) := by decide +kernel
theorem dX7_checkOne_12 : decode cX7_checkOne 12 = .ok (.aload_n 0, 1) := by decide +kernel
theorem dX7_checkOne_13 : decode cX7_checkOne 13 = .ok (.iload_n 1, 1) := by decide +kernel
theorem dX7_checkOne_14 : decode cX7_checkOne 14 = .ok (.iload_n 2, 1) := by decide +kernel
theorem dX7_checkOne_15 : decode cX7_checkOne 15 = .ok (.invokevirtual 149, 3) := by decide +kernel
theorem dX7_checkOne_18 : decode cX7_checkOne 18 = .ok (.istore 4, 2) := by decide +kernel
theorem dX7_checkOne_20 : decode cX7_checkOne 20 = .ok (.aload_n 0, 1) := by decide +kernel
theorem dX7_checkOne_21 : decode cX7_checkOne 21 = .ok (.iload_n 1, 1) := by decide +kernel
theorem dX7_checkOne_22 : decode cX7_checkOne 22 = .ok (.iload_n 2, 1) := by decide +kernel
theorem dX7_checkOne_23 : decode cX7_checkOne 23 = .ok (.invokevirtual 139, 3) := by decide +kernel
theorem dX7_checkOne_26 : decode cX7_checkOne 26 = .ok (.iload_n 1, 1) := by decide +kernel
theorem dX7_checkOne_27 : decode cX7_checkOne 27 = .ok (.if_icmp .ne 31, 3) := by decide +kernel
theorem dX7_checkOne_30 : decode cX7_checkOne 30 = .ok (.iload_n 3, 1) := by decide +kernel
theorem dX7_checkOne_31 : decode cX7_checkOne 31 = .ok (.bipush 16, 2) := by decide +kernel
theorem dX7_checkOne_33 : decode cX7_checkOne 33 = .ok (.if_icmp .lt 9, 3) := by decide +kernel
theorem dX7_checkOne_36 : decode cX7_checkOne 36 = .ok (.aload_n 0, 1) := by decide +kernel
theorem dX7_checkOne_37 : decode cX7_checkOne 37 = .ok (.iload_n 1, 1) := by decide +kernel
theorem dX7_checkOne_38 : decode cX7_checkOne 38 = .ok (.iload_n 2, 1) := by decide +kernel
theorem dX7_checkOne_39 : decode cX7_checkOne 39 = .ok (.invokevirtual 152, 3) := by decide +kernel
theorem dX7_checkOne_42 : decode cX7_checkOne 42 = .ok (.iload_n 3, 1) := by decide +kernel
theorem dX7_checkOne_43 : decode cX7_checkOne 43 = .ok (.iconst 3, 1) := by decide +kernel
theorem dX7_checkOne_44 : decode cX7_checkOne 44 = .ok (.if_icmp .eq 13, 3) := by decide +kernel
theorem dX7_checkOne_47 : decode cX7_checkOne 47 = .ok (.aload_n 0, 1) := by decide +kernel
theorem dX7_checkOne_48 : decode cX7_checkOne 48 = .ok (.iload_n 1, 1) := by decide +kernel
theorem dX7_checkOne_49 : decode cX7_checkOne 49 = .ok (.iload_n 2, 1) := by decide +kernel
theorem dX7_checkOne_50 : decode cX7_checkOne 50 = .ok (.iconst 3, 1) := by decide +kernel
theorem dX7_checkOne_51 : decode cX7_checkOne 51 = .ok (.iconst 1, 1) := by decide +kernel
theorem dX7_checkOne_52 : decode cX7_checkOne 52 = .ok (.iload_n 1, 1) := by decide +kernel
theorem dX7_checkOne_53 : decode cX7_checkOne 53 = .ok (.ishl, 1) := by decide +kernel
theorem dX7_checkOne_54 : decode cX7_checkOne 54 = .ok (.invokevirtual 155, 3) := by decide +kernel
theorem dX7_checkOne_57 : decode cX7_checkOne 57 = .ok (.return_, 1) := by decide +kernel
theorem dX7_checkOne_58 : decode cX7_checkOne 58 = .ok (.iload_n 3, 1) := by decide +kernel
theorem dX7_checkOne_59 : decode cX7_checkOne 59 = .ok (.iconst (-1), 1) := by decide +kernel
theorem dX7_checkOne_60 : decode cX7_checkOne 60 = .ok (.if_icmp .eq 20, 3) := by decide +kernel
theorem dX7_checkOne_63 : decode cX7_checkOne 63 = .ok (.iload 4, 2) := by decide +kernel
theorem dX7_checkOne_65 : decode cX7_checkOne 65 = .ok (.iconst (-1), 1) := by decide +kernel
theorem dX7_checkOne_66 : decode cX7_checkOne 66 = .ok (.if_icmp .eq 8, 3) := by decide +kernel
theorem dX7_checkOne_69 : decode cX7_checkOne 69 = .ok (.iload_n 3, 1) := by decide +kernel
theorem dX7_checkOne_70 : decode cX7_checkOne 70 = .ok (.iconst 3, 1) := by decide +kernel
theorem dX7_checkOne_71 : decode cX7_checkOne 71 = .ok (.if_icmp .ne 9, 3) := by decide +kernel
theorem dX7_checkOne_74 : decode cX7_checkOne 74 = .ok (.aload_n 0, 1) := by decide +kernel
theorem dX7_checkOne_75 : decode cX7_checkOne 75 = .ok (.iload_n 1, 1) := by decide +kernel
theorem dX7_checkOne_76 : decode cX7_checkOne 76 = .ok (.iload_n 2, 1) := by decide +kernel
theorem dX7_checkOne_77 : decode cX7_checkOne 77 = .ok (.invokevirtual 152, 3) := by decide +kernel
theorem dX7_checkOne_80 : decode cX7_checkOne 80 = .ok (.iload 4, 2) := by decide +kernel
theorem dX7_checkOne_82 : decode cX7_checkOne 82 = .ok (.iconst (-1), 1) := by decide +kernel
theorem dX7_checkOne_83 : decode cX7_checkOne 83 = .ok (.if_icmp .ne 4, 3) := by decide +kernel
theorem dX7_checkOne_86 : decode cX7_checkOne 86 = .ok (.return_, 1) := by decide +kernel
theorem dX7_checkOne_87 : decode cX7_checkOne 87 = .ok (.aload_n 0, 1) := by decide +kernel
theorem dX7_checkOne_88 : decode cX7_checkOne 88 = .ok (.getfield 59, 3) := by decide +kernel
theorem dX7_checkOne_91 : decode cX7_checkOne 91 = .ok (.iload 4, 2) := by decide +kernel
theorem dX7_checkOne_93 : decode cX7_checkOne 93 = .ok (.iaload, 1) := by decide +kernel
theorem dX7_checkOne_94 : decode cX7_checkOne 94 = .ok (.iconst 1, 1) := by decide +kernel
theorem dX7_checkOne_95 : decode cX7_checkOne 95 = .ok (.iload_n 1, 1) := by decide +kernel
theorem dX7_checkOne_96 : decode cX7_checkOne 96 = .ok (.ishl, 1) := by decide +kernel
theorem dX7_checkOne_97 : decode cX7_checkOne 97 = .ok (.ior, 1) := by decide +kernel
theorem dX7_checkOne_98 : decode cX7_checkOne 98 = .ok (.istore 5, 2) := by decide +kernel
theorem dX7_checkOne_100 : decode cX7_checkOne 100 = .ok (.iload_n 3, 1) := by decide +kernel
theorem dX7_checkOne_101 : decode cX7_checkOne 101 = .ok (.bipush 16, 2) := by decide +kernel
theorem dX7_checkOne_103 : decode cX7_checkOne 103 = .ok (.if_icmp .lt 29, 3) := by decide +kernel
theorem dX7_checkOne_106 : decode cX7_checkOne 106 = .ok (.aload_n 0, 1) := by decide +kernel
theorem dX7_checkOne_107 : decode cX7_checkOne 107 = .ok (.getfield 65, 3) := by decide +kernel
theorem dX7_checkOne_110 : decode cX7_checkOne 110 = .ok (.bipush 8, 2) := by decide +kernel
theorem dX7_checkOne_112 : decode cX7_checkOne 112 = .ok (.iload_n 1, 1) := by decide +kernel
theorem dX7_checkOne_113 : decode cX7_checkOne 113 = .ok (.imul, 1) := by decide +kernel
theorem dX7_checkOne_114 : decode cX7_checkOne 114 = .ok (.iload_n 2, 1) := by decide +kernel
theorem dX7_checkOne_115 : decode cX7_checkOne 115 = .ok (.iadd, 1) := by decide +kernel
theorem dX7_checkOne_116 : decode cX7_checkOne 116 = .ok (.iaload, 1) := by decide +kernel
theorem dX7_checkOne_117 : decode cX7_checkOne 117 = .ok (.iload 5, 2) := by decide +kernel
theorem dX7_checkOne_119 : decode cX7_checkOne 119 = .ok (.if_icmp .eq 12, 3) := by decide +kernel
theorem dX7_checkOne_122 : decode cX7_checkOne 122 = .ok (.aload_n 0, 1) := by decide +kernel
theorem dX7_checkOne_123 : decode cX7_checkOne 123 = .ok (.iload_n 1, 1) := by decide +kernel
theorem dX7_checkOne_124 : decode cX7_checkOne 124 = .ok (.iload_n 2, 1) := by decide +kernel
theorem dX7_checkOne_125 : decode cX7_checkOne 125 = .ok (.iload_n 3, 1) := by decide +kernel
theorem dX7_checkOne_126 : decode cX7_checkOne 126 = .ok (.iload 5, 2) := by decide +kernel
theorem dX7_checkOne_128 : decode cX7_checkOne 128 = .ok (.invokevirtual 155, 3) := by decide +kernel
theorem dX7_checkOne_131 : decode cX7_checkOne 131 = .ok (.return_, 1) := by decide +kernel
theorem dX7_checkOne_132 : decode cX7_checkOne 132 = .ok (.aload_n 0, 1) := by decide +kernel
theorem dX7_checkOne_133 : decode cX7_checkOne 133 = .ok (.iload_n 1, 1) := by decide +kernel
theorem dX7_checkOne_134 : decode cX7_checkOne 134 = .ok (.invokevirtual 159, 3) := by decide +kernel
theorem dX7_checkOne_137 : decode cX7_checkOne 137 = .ok (.istore 6, 2) := by decide +kernel
theorem dX7_checkOne_139 : decode cX7_checkOne 139 = .ok (.iload 6, 2) := by decide +kernel
theorem dX7_checkOne_141 : decode cX7_checkOne 141 = .ok (.iconst (-1), 1) := by decide +kernel
theorem dX7_checkOne_142 : decode cX7_checkOne 142 = .ok (.if_icmp .eq 44, 3) := by decide +kernel
theorem dX7_checkOne_145 : decode cX7_checkOne 145 = .ok (.aload_n 0, 1) := by decide +kernel
theorem dX7_checkOne_146 : decode cX7_checkOne 146 = .ok (.getfield 68, 3) := by decide +kernel
theorem dX7_checkOne_149 : decode cX7_checkOne 149 = .ok (.bipush 64, 2) := by decide +kernel
theorem dX7_checkOne_151 : decode cX7_checkOne 151 = .ok (.iload_n 1, 1) := by decide +kernel
theorem dX7_checkOne_152 : decode cX7_checkOne 152 = .ok (.imul, 1) := by decide +kernel
theorem dX7_checkOne_153 : decode cX7_checkOne 153 = .ok (.iload 6, 2) := by decide +kernel
theorem dX7_checkOne_155 : decode cX7_checkOne 155 = .ok (.iadd, 1) := by decide +kernel
theorem dX7_checkOne_156 : decode cX7_checkOne 156 = .ok (.iload_n 2, 1) := by decide +kernel
theorem dX7_checkOne_157 : decode cX7_checkOne 157 = .ok (.iconst 1, 1) := by decide +kernel
theorem dX7_checkOne_158 : decode cX7_checkOne 158 = .ok (.iadd, 1) := by decide +kernel
theorem dX7_checkOne_159 : decode cX7_checkOne 159 = .ok (.iastore, 1) := by decide +kernel
theorem dX7_checkOne_160 : decode cX7_checkOne 160 = .ok (.aload_n 0, 1) := by decide +kernel
theorem dX7_checkOne_161 : decode cX7_checkOne 161 = .ok (.getfield 71, 3) := by decide +kernel
theorem dX7_checkOne_164 : decode cX7_checkOne 164 = .ok (.bipush 64, 2) := by decide +kernel
theorem dX7_checkOne_166 : decode cX7_checkOne 166 = .ok (.iload_n 1, 1) := by decide +kernel
theorem dX7_checkOne_167 : decode cX7_checkOne 167 = .ok (.imul, 1) := by decide +kernel
theorem dX7_checkOne_168 : decode cX7_checkOne 168 = .ok (.iload 6, 2) := by decide +kernel
theorem dX7_checkOne_170 : decode cX7_checkOne 170 = .ok (.iadd, 1) := by decide +kernel
theorem dX7_checkOne_171 : decode cX7_checkOne 171 = .ok (.iconst 0, 1) := by decide +kernel
theorem dX7_checkOne_172 : decode cX7_checkOne 172 = .ok (.iastore, 1) := by decide +kernel
theorem dX7_checkOne_173 : decode cX7_checkOne 173 = .ok (.aload_n 0, 1) := by decide +kernel
theorem dX7_checkOne_174 : decode cX7_checkOne 174 = .ok (.iload_n 1, 1) := by decide +kernel
theorem dX7_checkOne_175 : decode cX7_checkOne 175 = .ok (.iload_n 2, 1) := by decide +kernel
theorem dX7_checkOne_176 : decode cX7_checkOne 176 = .ok (.bipush 16, 2) := by decide +kernel
theorem dX7_checkOne_178 : decode cX7_checkOne 178 = .ok (.iload 6, 2) := by decide +kernel
theorem dX7_checkOne_180 : decode cX7_checkOne 180 = .ok (.iadd, 1) := by decide +kernel
theorem dX7_checkOne_181 : decode cX7_checkOne 181 = .ok (.iload 5, 2) := by decide +kernel
theorem dX7_checkOne_183 : decode cX7_checkOne 183 = .ok (.invokevirtual 155, 3) := by decide +kernel
theorem dX7_checkOne_186 : decode cX7_checkOne 186 = .ok (.return_, 1) := by decide +kernel
theorem dX7_check_0 : decode cX7_check 0 = .ok (.aload_n 0, 1) := by decide +kernel
theorem dX7_check_1 : decode cX7_check 1 = .ok (.iload_n 1, 1) := by decide +kernel
theorem dX7_check_2 : decode cX7_check 2 = .ok (.invokevirtual 163, 3) := by decide +kernel
theorem dX7_check_5 : decode cX7_check 5 = .ok (.iconst 0, 1) := by decide +kernel
theorem dX7_check_6 : decode cX7_check 6 = .ok (.istore_n 2, 1) := by decide +kernel
theorem dX7_check_7 : decode cX7_check 7 = .ok (.iload_n 2, 1) := by decide +kernel
theorem dX7_check_8 : decode cX7_check 8 = .ok (.bipush 8, 2) := by decide +kernel
theorem dX7_check_10 : decode cX7_check 10 = .ok (.if_icmp .ge 15, 3) := by decide +kernel
theorem dX7_check_13 : decode cX7_check 13 = .ok (.aload_n 0, 1) := by decide +kernel
theorem dX7_check_14 : decode cX7_check 14 = .ok (.iload_n 1, 1) := by decide +kernel
theorem dX7_check_15 : decode cX7_check 15 = .ok (.iload_n 2, 1) := by decide +kernel
theorem dX7_check_16 : decode cX7_check 16 = .ok (.invokevirtual 167, 3) := by decide +kernel
theorem dX7_check_19 : decode cX7_check 19 = .ok (.iinc 2 1, 3) := by decide +kernel
theorem dX7_check_22 : decode cX7_check 22 = .ok (.goto (-15), 3) := by decide +kernel
theorem dX7_check_25 : decode cX7_check 25 = .ok (.return_, 1) := by decide +kernel
theorem dX7_noted_0 : decode cX7_noted 0 = .ok (.aload_n 0, 1) := by decide +kernel
theorem dX7_noted_1 : decode cX7_noted 1 = .ok (.getfield 29, 3) := by decide +kernel
theorem dX7_noted_4 : decode cX7_noted 4 = .ok (.bipush 8, 2) := by decide +kernel
theorem dX7_noted_6 : decode cX7_noted 6 = .ok (.iload_n 1, 1) := by decide +kernel
theorem dX7_noted_7 : decode cX7_noted 7 = .ok (.imul, 1) := by decide +kernel
theorem dX7_noted_8 : decode cX7_noted 8 = .ok (.iload_n 3, 1) := by decide +kernel
theorem dX7_noted_9 : decode cX7_noted 9 = .ok (.iadd, 1) := by decide +kernel
theorem dX7_noted_10 : decode cX7_noted 10 = .ok (.iaload, 1) := by decide +kernel
theorem dX7_noted_11 : decode cX7_noted 11 = .ok (.istore 6, 2) := by decide +kernel
theorem dX7_noted_13 : decode cX7_noted 13 = .ok (.iload_n 3, 1) := by decide +kernel
theorem dX7_noted_14 : decode cX7_noted 14 = .ok (.iload_n 1, 1) := by decide +kernel
theorem dX7_noted_15 : decode cX7_noted 15 = .ok (.if_icmp .eq 10, 3) := by decide +kernel
theorem dX7_noted_18 : decode cX7_noted 18 = .ok (.iload 4, 2) := by decide +kernel
theorem dX7_noted_20 : decode cX7_noted 20 = .ok (.iload 6, 2) := by decide +kernel
theorem dX7_noted_22 : decode cX7_noted 22 = .ok (.if_icmp .ne 4, 3) := by decide +kernel
theorem dX7_noted_25 : decode cX7_noted 25 = .ok (.return_, 1) := by decide +kernel
theorem dX7_noted_26 : decode cX7_noted 26 = .ok (.iload 4, 2) := by decide +kernel
theorem dX7_noted_28 : decode cX7_noted 28 = .ok (.iload 6, 2) := by decide +kernel
theorem dX7_noted_30 : decode cX7_noted 30 = .ok (.if_icmp .ge 20, 3) := by decide +kernel
theorem dX7_noted_33 : decode cX7_noted 33 = .ok (.aload_n 0, 1) := by decide +kernel
theorem dX7_noted_34 : decode cX7_noted 34 = .ok (.iload_n 1, 1) := by decide +kernel
theorem dX7_noted_35 : decode cX7_noted 35 = .ok (.iload_n 2, 1) := by decide +kernel
theorem dX7_noted_36 : decode cX7_noted 36 = .ok (.iconst 0, 1) := by decide +kernel
theorem dX7_noted_37 : decode cX7_noted 37 = .ok (.iload_n 3, 1) := by decide +kernel
theorem dX7_noted_38 : decode cX7_noted 38 = .ok (.iload 6, 2) := by decide +kernel
theorem dX7_noted_40 : decode cX7_noted 40 = .ok (.aload_n 0, 1) := by decide +kernel
theorem dX7_noted_41 : decode cX7_noted 41 = .ok (.iload_n 1, 1) := by decide +kernel
theorem dX7_noted_42 : decode cX7_noted 42 = .ok (.iload_n 3, 1) := by decide +kernel
theorem dX7_noted_43 : decode cX7_noted 43 = .ok (.invokevirtual 117, 3) := by decide +kernel
theorem dX7_noted_46 : decode cX7_noted 46 = .ok (.invokevirtual 113, 3) := by decide +kernel
theorem dX7_noted_49 : decode cX7_noted 49 = .ok (.return_, 1) := by decide +kernel
theorem dX7_noted_50 : decode cX7_noted 50 = .ok (.aload_n 0, 1) := by decide +kernel
theorem dX7_noted_51 : decode cX7_noted 51 = .ok (.getfield 29, 3) := by decide +kernel
theorem dX7_noted_54 : decode cX7_noted 54 = .ok (.bipush 8, 2) := by decide +kernel
theorem dX7_noted_56 : decode cX7_noted 56 = .ok (.iload_n 1, 1) := by decide +kernel
theorem dX7_noted_57 : decode cX7_noted 57 = .ok (.imul, 1) := by decide +kernel
theorem dX7_noted_58 : decode cX7_noted 58 = .ok (.iload_n 3, 1) := by decide +kernel
theorem dX7_noted_59 : decode cX7_noted 59 = .ok (.iadd, 1) := by decide +kernel
theorem dX7_noted_60 : decode cX7_noted 60 = .ok (.iload 4, 2) := by decide +kernel
theorem dX7_noted_62 : decode cX7_noted 62 = .ok (.iastore, 1) := by decide +kernel
theorem dX7_noted_63 : decode cX7_noted 63 = .ok (.aload_n 0, 1) := by decide +kernel
theorem dX7_noted_64 : decode cX7_noted 64 = .ok (.getfield 32, 3) := by decide +kernel
theorem dX7_noted_67 : decode cX7_noted 67 = .ok (.bipush 8, 2) := by decide +kernel
theorem dX7_noted_69 : decode cX7_noted 69 = .ok (.iload_n 1, 1) := by decide +kernel
theorem dX7_noted_70 : decode cX7_noted 70 = .ok (.imul, 1) := by decide +kernel
theorem dX7_noted_71 : decode cX7_noted 71 = .ok (.iload_n 3, 1) := by decide +kernel
theorem dX7_noted_72 : decode cX7_noted 72 = .ok (.iadd, 1) := by decide +kernel
theorem dX7_noted_73 : decode cX7_noted 73 = .ok (.iload 5, 2) := by decide +kernel
theorem dX7_noted_75 : decode cX7_noted 75 = .ok (.sipush 4095, 3) := by decide +kernel
theorem dX7_noted_78 : decode cX7_noted 78 = .ok (.iand, 1) := by decide +kernel
theorem dX7_noted_79 : decode cX7_noted 79 = .ok (.iastore, 1) := by decide +kernel
theorem dX7_noted_80 : decode cX7_noted 80 = .ok (.aload_n 0, 1) := by decide +kernel
theorem dX7_noted_81 : decode cX7_noted 81 = .ok (.getfield 35, 3) := by decide +kernel
theorem dX7_noted_84 : decode cX7_noted 84 = .ok (.bipush 8, 2) := by decide +kernel
theorem dX7_noted_86 : decode cX7_noted 86 = .ok (.iload_n 1, 1) := by decide +kernel
theorem dX7_noted_87 : decode cX7_noted 87 = .ok (.imul, 1) := by decide +kernel
theorem dX7_noted_88 : decode cX7_noted 88 = .ok (.iload_n 3, 1) := by decide +kernel
theorem dX7_noted_89 : decode cX7_noted 89 = .ok (.iadd, 1) := by decide +kernel
theorem dX7_noted_90 : decode cX7_noted 90 = .ok (.iload 5, 2) := by decide +kernel
theorem dX7_noted_92 : decode cX7_noted 92 = .ok (.bipush 12, 2) := by decide +kernel
theorem dX7_noted_94 : decode cX7_noted 94 = .ok (.ishr, 1) := by decide +kernel
theorem dX7_noted_95 : decode cX7_noted 95 = .ok (.iastore, 1) := by decide +kernel
theorem dX7_noted_96 : decode cX7_noted 96 = .ok (.aload_n 0, 1) := by decide +kernel
theorem dX7_noted_97 : decode cX7_noted 97 = .ok (.iload_n 1, 1) := by decide +kernel
theorem dX7_noted_98 : decode cX7_noted 98 = .ok (.iload_n 2, 1) := by decide +kernel
theorem dX7_noted_99 : decode cX7_noted 99 = .ok (.iconst 0, 1) := by decide +kernel
theorem dX7_noted_100 : decode cX7_noted 100 = .ok (.iload_n 3, 1) := by decide +kernel
theorem dX7_noted_101 : decode cX7_noted 101 = .ok (.iload 4, 2) := by decide +kernel
theorem dX7_noted_103 : decode cX7_noted 103 = .ok (.iload 5, 2) := by decide +kernel
theorem dX7_noted_105 : decode cX7_noted 105 = .ok (.invokevirtual 121, 3) := by decide +kernel
theorem dX7_noted_108 : decode cX7_noted 108 = .ok (.aload_n 0, 1) := by decide +kernel
theorem dX7_noted_109 : decode cX7_noted 109 = .ok (.iload_n 1, 1) := by decide +kernel
theorem dX7_noted_110 : decode cX7_noted 110 = .ok (.invokevirtual 170, 3) := by decide +kernel
theorem dX7_noted_113 : decode cX7_noted 113 = .ok (.return_, 1) := by decide +kernel
theorem dX7_mapped_0 : decode cX7_mapped 0 = .ok (.iload 5, 2) := by decide +kernel
theorem dX7_mapped_2 : decode cX7_mapped 2 = .ok (.iload_n 1, 1) := by decide +kernel
theorem dX7_mapped_3 : decode cX7_mapped 3 = .ok (.ishr, 1) := by decide +kernel
theorem dX7_mapped_4 : decode cX7_mapped 4 = .ok (.iconst 1, 1) := by decide +kernel
theorem dX7_mapped_5 : decode cX7_mapped 5 = .ok (.iand, 1) := by decide +kernel
theorem dX7_mapped_6 : decode cX7_mapped 6 = .ok (.iconst 1, 1) := by decide +kernel
theorem dX7_mapped_7 : decode cX7_mapped 7 = .ok (.if_icmp .ne 7, 3) := by decide +kernel
theorem dX7_mapped_10 : decode cX7_mapped 10 = .ok (.iconst 1, 1) := by decide +kernel
theorem dX7_mapped_11 : decode cX7_mapped 11 = .ok (.goto 4, 3) := by decide +kernel
theorem dX7_mapped_14 : decode cX7_mapped 14 = .ok (.iconst 0, 1) := by decide +kernel
theorem dX7_mapped_15 : decode cX7_mapped 15 = .ok (.istore 6, 2) := by decide +kernel
theorem dX7_mapped_17 : decode cX7_mapped 17 = .ok (.aload_n 0, 1) := by decide +kernel
theorem dX7_mapped_18 : decode cX7_mapped 18 = .ok (.getfield 56, 3) := by decide +kernel
theorem dX7_mapped_21 : decode cX7_mapped 21 = .ok (.aload_n 0, 1) := by decide +kernel
theorem dX7_mapped_22 : decode cX7_mapped 22 = .ok (.iload_n 1, 1) := by decide +kernel
theorem dX7_mapped_23 : decode cX7_mapped 23 = .ok (.iload_n 3, 1) := by decide +kernel
theorem dX7_mapped_24 : decode cX7_mapped 24 = .ok (.iload_n 2, 1) := by decide +kernel
theorem dX7_mapped_25 : decode cX7_mapped 25 = .ok (.invokevirtual 145, 3) := by decide +kernel
theorem dX7_mapped_28 : decode cX7_mapped 28 = .ok (.iload 6, 2) := by decide +kernel
theorem dX7_mapped_30 : decode cX7_mapped 30 = .ok (.ifCond .eq 7, 3) := by decide +kernel
theorem dX7_mapped_33 : decode cX7_mapped 33 = .ok (.iconst (-1), 1) := by decide +kernel
theorem dX7_mapped_34 : decode cX7_mapped 34 = .ok (.goto 5, 3) := by decide +kernel
theorem dX7_mapped_37 : decode cX7_mapped 37 = .ok (.iload 4, 2) := by decide +kernel
theorem dX7_mapped_39 : decode cX7_mapped 39 = .ok (.iastore, 1) := by decide +kernel
theorem dX7_mapped_40 : decode cX7_mapped 40 = .ok (.aload_n 0, 1) := by decide +kernel
theorem dX7_mapped_41 : decode cX7_mapped 41 = .ok (.getfield 59, 3) := by decide +kernel
theorem dX7_mapped_44 : decode cX7_mapped 44 = .ok (.aload_n 0, 1) := by decide +kernel
theorem dX7_mapped_45 : decode cX7_mapped 45 = .ok (.iload_n 1, 1) := by decide +kernel
theorem dX7_mapped_46 : decode cX7_mapped 46 = .ok (.iload_n 3, 1) := by decide +kernel
theorem dX7_mapped_47 : decode cX7_mapped 47 = .ok (.iload_n 2, 1) := by decide +kernel
theorem dX7_mapped_48 : decode cX7_mapped 48 = .ok (.invokevirtual 145, 3) := by decide +kernel
theorem dX7_mapped_51 : decode cX7_mapped 51 = .ok (.iload 6, 2) := by decide +kernel
theorem dX7_mapped_53 : decode cX7_mapped 53 = .ok (.ifCond .eq 7, 3) := by decide +kernel
theorem dX7_mapped_56 : decode cX7_mapped 56 = .ok (.iconst 0, 1) := by decide +kernel
theorem dX7_mapped_57 : decode cX7_mapped 57 = .ok (.goto 5, 3) := by decide +kernel
theorem dX7_mapped_60 : decode cX7_mapped 60 = .ok (.iload 5, 2) := by decide +kernel
theorem dX7_mapped_62 : decode cX7_mapped 62 = .ok (.iastore, 1) := by decide +kernel
theorem dX7_mapped_63 : decode cX7_mapped 63 = .ok (.iload 6, 2) := by decide +kernel
theorem dX7_mapped_65 : decode cX7_mapped 65 = .ok (.ifCond .eq 14, 3) := by decide +kernel
theorem dX7_mapped_68 : decode cX7_mapped 68 = .ok (.aload_n 0, 1) := by decide +kernel
theorem dX7_mapped_69 : decode cX7_mapped 69 = .ok (.iload_n 1, 1) := by decide +kernel
theorem dX7_mapped_70 : decode cX7_mapped 70 = .ok (.iload_n 2, 1) := by decide +kernel
theorem dX7_mapped_71 : decode cX7_mapped 71 = .ok (.iconst 3, 1) := by decide +kernel
theorem dX7_mapped_72 : decode cX7_mapped 72 = .ok (.iload_n 3, 1) := by decide +kernel
theorem dX7_mapped_73 : decode cX7_mapped 73 = .ok (.iload 4, 2) := by decide +kernel
theorem dX7_mapped_75 : decode cX7_mapped 75 = .ok (.iconst 0, 1) := by decide +kernel
theorem dX7_mapped_76 : decode cX7_mapped 76 = .ok (.invokevirtual 113, 3) := by decide +kernel
theorem dX7_mapped_79 : decode cX7_mapped 79 = .ok (.aload_n 0, 1) := by decide +kernel
theorem dX7_mapped_80 : decode cX7_mapped 80 = .ok (.iload_n 1, 1) := by decide +kernel
theorem dX7_mapped_81 : decode cX7_mapped 81 = .ok (.invokevirtual 170, 3) := by decide +kernel
theorem dX7_mapped_84 : decode cX7_mapped 84 = .ok (.return_, 1) := by decide +kernel
theorem dX7_withdrawn_0 : decode cX7_withdrawn 0 = .ok (.aload_n 0, 1) := by decide +kernel
theorem dX7_withdrawn_1 : decode cX7_withdrawn 1 = .ok (.getfield 56, 3) := by decide +kernel
theorem dX7_withdrawn_4 : decode cX7_withdrawn 4 = .ok (.aload_n 0, 1) := by decide +kernel
theorem dX7_withdrawn_5 : decode cX7_withdrawn 5 = .ok (.iload_n 1, 1) := by decide +kernel
theorem dX7_withdrawn_6 : decode cX7_withdrawn 6 = .ok (.iload_n 3, 1) := by decide +kernel
theorem dX7_withdrawn_7 : decode cX7_withdrawn 7 = .ok (.iload_n 2, 1) := by decide +kernel
theorem dX7_withdrawn_8 : decode cX7_withdrawn 8 = .ok (.invokevirtual 145, 3) := by decide +kernel
theorem dX7_withdrawn_11 : decode cX7_withdrawn 11 = .ok (.iaload, 1) := by decide +kernel
theorem dX7_withdrawn_12 : decode cX7_withdrawn 12 = .ok (.iload 4, 2) := by decide +kernel
theorem dX7_withdrawn_14 : decode cX7_withdrawn 14 = .ok (.if_icmp .ne 16, 3) := by decide +kernel
theorem dX7_withdrawn_17 : decode cX7_withdrawn 17 = .ok (.aload_n 0, 1) := by decide +kernel
theorem dX7_withdrawn_18 : decode cX7_withdrawn 18 = .ok (.getfield 56, 3) := by decide +kernel
theorem dX7_withdrawn_21 : decode cX7_withdrawn 21 = .ok (.aload_n 0, 1) := by decide +kernel
theorem dX7_withdrawn_22 : decode cX7_withdrawn 22 = .ok (.iload_n 1, 1) := by decide +kernel
theorem dX7_withdrawn_23 : decode cX7_withdrawn 23 = .ok (.iload_n 3, 1) := by decide +kernel
theorem dX7_withdrawn_24 : decode cX7_withdrawn 24 = .ok (.iload_n 2, 1) := by decide +kernel
theorem dX7_withdrawn_25 : decode cX7_withdrawn 25 = .ok (.invokevirtual 145, 3) := by decide +kernel
theorem dX7_withdrawn_28 : decode cX7_withdrawn 28 = .ok (.iconst (-1), 1) := by decide +kernel
theorem dX7_withdrawn_29 : decode cX7_withdrawn 29 = .ok (.iastore, 1) := by decide +kernel
theorem dX7_withdrawn_30 : decode cX7_withdrawn 30 = .ok (.aload_n 0, 1) := by decide +kernel
theorem dX7_withdrawn_31 : decode cX7_withdrawn 31 = .ok (.iload_n 1, 1) := by decide +kernel
theorem dX7_withdrawn_32 : decode cX7_withdrawn 32 = .ok (.iload_n 2, 1) := by decide +kernel
theorem dX7_withdrawn_33 : decode cX7_withdrawn 33 = .ok (.iconst 3, 1) := by decide +kernel
theorem dX7_withdrawn_34 : decode cX7_withdrawn 34 = .ok (.iload_n 3, 1) := by decide +kernel
theorem dX7_withdrawn_35 : decode cX7_withdrawn 35 = .ok (.iload 4, 2) := by decide +kernel
theorem dX7_withdrawn_37 : decode cX7_withdrawn 37 = .ok (.iconst 0, 1) := by decide +kernel
theorem dX7_withdrawn_38 : decode cX7_withdrawn 38 = .ok (.invokevirtual 113, 3) := by decide +kernel
theorem dX7_withdrawn_41 : decode cX7_withdrawn 41 = .ok (.aload_n 0, 1) := by decide +kernel
theorem dX7_withdrawn_42 : decode cX7_withdrawn 42 = .ok (.iload_n 1, 1) := by decide +kernel
theorem dX7_withdrawn_43 : decode cX7_withdrawn 43 = .ok (.invokevirtual 170, 3) := by decide +kernel
theorem dX7_withdrawn_46 : decode cX7_withdrawn 46 = .ok (.return_, 1) := by decide +kernel
theorem dX7_released_0 : decode cX7_released 0 = .ok (.iload 4, 2) := by decide +kernel
theorem dX7_released_2 : decode cX7_released 2 = .ok (.bipush 16, 2) := by decide +kernel
theorem dX7_released_4 : decode cX7_released 4 = .ok (.if_icmp .lt 24, 3) := by decide +kernel
theorem dX7_released_7 : decode cX7_released 7 = .ok (.aload_n 0, 1) := by decide +kernel
theorem dX7_released_8 : decode cX7_released 8 = .ok (.getfield 68, 3) := by decide +kernel
theorem dX7_released_11 : decode cX7_released 11 = .ok (.bipush 64, 2) := by decide +kernel
theorem dX7_released_13 : decode cX7_released 13 = .ok (.iload_n 1, 1) := by decide +kernel
theorem dX7_released_14 : decode cX7_released 14 = .ok (.imul, 1) := by decide +kernel
theorem dX7_released_15 : decode cX7_released 15 = .ok (.iload 4, 2) := by decide +kernel
theorem dX7_released_17 : decode cX7_released 17 = .ok (.iadd, 1) := by decide +kernel
theorem dX7_released_18 : decode cX7_released 18 = .ok (.bipush 16, 2) := by decide +kernel
theorem dX7_released_20 : decode cX7_released 20 = .ok (.isub, 1) := by decide +kernel
theorem dX7_released_21 : decode cX7_released 21 = .ok (.iaload, 1) := by decide +kernel
theorem dX7_released_22 : decode cX7_released 22 = .ok (.iload_n 3, 1) := by decide +kernel
theorem dX7_released_23 : decode cX7_released 23 = .ok (.iconst 1, 1) := by decide +kernel
theorem dX7_released_24 : decode cX7_released 24 = .ok (.iadd, 1) := by decide +kernel
theorem dX7_released_25 : decode cX7_released 25 = .ok (.if_icmp .eq 4, 3) := by decide +kernel
theorem dX7_released_28 : decode cX7_released 28 = .ok (.return_, 1) := by decide +kernel
theorem dX7_released_29 : decode cX7_released 29 = .ok (.aload_n 0, 1) := by decide +kernel
theorem dX7_released_30 : decode cX7_released 30 = .ok (.getfield 71, 3) := by decide +kernel
theorem dX7_released_33 : decode cX7_released 33 = .ok (.bipush 64, 2) := by decide +kernel
theorem dX7_released_35 : decode cX7_released 35 = .ok (.iload_n 1, 1) := by decide +kernel
theorem dX7_released_36 : decode cX7_released 36 = .ok (.imul, 1) := by decide +kernel
theorem dX7_released_37 : decode cX7_released 37 = .ok (.iload 4, 2) := by decide +kernel
theorem dX7_released_39 : decode cX7_released 39 = .ok (.iadd, 1) := by decide +kernel
theorem dX7_released_40 : decode cX7_released 40 = .ok (.bipush 16, 2) := by decide +kernel
theorem dX7_released_42 : decode cX7_released 42 = .ok (.isub, 1) := by decide +kernel
theorem dX7_released_43 : decode cX7_released 43 = .ok (.dup2, 1) := by decide +kernel
theorem dX7_released_44 : decode cX7_released 44 = .ok (.iaload, 1) := by decide +kernel
theorem dX7_released_45 : decode cX7_released 45 = .ok (.iconst 1, 1) := by decide +kernel
theorem dX7_released_46 : decode cX7_released 46 = .ok (.iload_n 2, 1) := by decide +kernel
theorem dX7_released_47 : decode cX7_released 47 = .ok (.ishl, 1) := by decide +kernel
theorem dX7_released_48 : decode cX7_released 48 = .ok (.iconst (-1), 1) := by decide +kernel
theorem dX7_released_49 : decode cX7_released 49 = .ok (.ixor, 1) := by decide +kernel
theorem dX7_released_50 : decode cX7_released 50 = .ok (.iand, 1) := by decide +kernel
theorem dX7_released_51 : decode cX7_released 51 = .ok (.iastore, 1) := by decide +kernel
theorem dX7_released_52 : decode cX7_released 52 = .ok (.aload_n 0, 1) := by decide +kernel
theorem dX7_released_53 : decode cX7_released 53 = .ok (.iload_n 1, 1) := by decide +kernel
theorem dX7_released_54 : decode cX7_released 54 = .ok (.iload 4, 2) := by decide +kernel
theorem dX7_released_56 : decode cX7_released 56 = .ok (.bipush 16, 2) := by decide +kernel
theorem dX7_released_58 : decode cX7_released 58 = .ok (.isub, 1) := by decide +kernel
theorem dX7_released_59 : decode cX7_released 59 = .ok (.invokevirtual 135, 3) := by decide +kernel
theorem dX7_released_62 : decode cX7_released 62 = .ok (.aload_n 0, 1) := by decide +kernel
theorem dX7_released_63 : decode cX7_released 63 = .ok (.iload_n 1, 1) := by decide +kernel
theorem dX7_released_64 : decode cX7_released 64 = .ok (.invokevirtual 170, 3) := by decide +kernel
theorem dX7_released_67 : decode cX7_released 67 = .ok (.return_, 1) := by decide +kernel
theorem dX7_go_0 : decode cX7_go 0 = .ok (.aload_n 0, 1) := by decide +kernel
theorem dX7_go_1 : decode cX7_go 1 = .ok (.getfield 80, 3) := by decide +kernel
theorem dX7_go_4 : decode cX7_go 4 = .ok (.iload_n 1, 1) := by decide +kernel
theorem dX7_go_5 : decode cX7_go 5 = .ok (.iload_n 2, 1) := by decide +kernel
theorem dX7_go_6 : decode cX7_go 6 = .ok (.iastore, 1) := by decide +kernel
theorem dX7_go_7 : decode cX7_go 7 = .ok (.iload_n 3, 1) := by decide +kernel
theorem dX7_go_8 : decode cX7_go 8 = .ok (.iconst (-1), 1) := by decide +kernel
theorem dX7_go_9 : decode cX7_go 9 = .ok (.if_icmp .ne 12, 3) := by decide +kernel
theorem dX7_go_12 : decode cX7_go 12 = .ok (.aload_n 0, 1) := by decide +kernel
theorem dX7_go_13 : decode cX7_go 13 = .ok (.getfield 74, 3) := by decide +kernel
theorem dX7_go_16 : decode cX7_go 16 = .ok (.iload_n 1, 1) := by decide +kernel
theorem dX7_go_17 : decode cX7_go 17 = .ok (.iaload, 1) := by decide +kernel
theorem dX7_go_18 : decode cX7_go 18 = .ok (.goto 4, 3) := by decide +kernel
theorem dX7_go_21 : decode cX7_go 21 = .ok (.iconst (-1), 1) := by decide +kernel
theorem dX7_go_22 : decode cX7_go 22 = .ok (.istore 4, 2) := by decide +kernel
theorem dX7_go_24 : decode cX7_go 24 = .ok (.iconst 0, 1) := by decide +kernel
theorem dX7_go_25 : decode cX7_go 25 = .ok (.istore 5, 2) := by decide +kernel
theorem dX7_go_27 : decode cX7_go 27 = .ok (.iload 5, 2) := by decide +kernel
theorem dX7_go_29 : decode cX7_go 29 = .ok (.bipush 8, 2) := by decide +kernel
theorem dX7_go_31 : decode cX7_go 31 = .ok (.if_icmp .ge 40, 3) := by decide +kernel
theorem dX7_go_34 : decode cX7_go 34 = .ok (.iload_n 3, 1) := by decide +kernel
theorem dX7_go_35 : decode cX7_go 35 = .ok (.bipush 16, 2) := by decide +kernel
theorem dX7_go_37 : decode cX7_go 37 = .ok (.if_icmp .lt 34, 3) := by decide +kernel
theorem dX7_go_40 : decode cX7_go 40 = .ok (.aload_n 0, 1) := by decide +kernel
theorem dX7_go_41 : decode cX7_go 41 = .ok (.getfield 62, 3) := by decide +kernel
theorem dX7_go_44 : decode cX7_go 44 = .ok (.bipush 8, 2) := by decide +kernel
theorem dX7_go_46 : decode cX7_go 46 = .ok (.iload_n 2, 1) := by decide +kernel
theorem dX7_go_47 : decode cX7_go 47 = .ok (.imul, 1) := by decide +kernel
theorem dX7_go_48 : decode cX7_go 48 = .ok (.iload 5, 2) := by decide +kernel
theorem dX7_go_50 : decode cX7_go 50 = .ok (.iadd, 1) := by decide +kernel
theorem dX7_go_51 : decode cX7_go 51 = .ok (.iaload, 1) := by decide +kernel
theorem dX7_go_52 : decode cX7_go 52 = .ok (.iload_n 3, 1) := by decide +kernel
theorem dX7_go_53 : decode cX7_go 53 = .ok (.if_icmp .ne 8, 3) := by decide +kernel
theorem dX7_go_56 : decode cX7_go 56 = .ok (.iload 5, 2) := by decide +kernel
theorem dX7_go_58 : decode cX7_go 58 = .ok (.goto 5, 3) := by decide +kernel
theorem dX7_go_61 : decode cX7_go 61 = .ok (.iload 4, 2) := by decide +kernel
theorem dX7_go_63 : decode cX7_go 63 = .ok (.istore 4, 2) := by decide +kernel
theorem dX7_go_65 : decode cX7_go 65 = .ok (.iinc 5 1, 3) := by decide +kernel
theorem dX7_go_68 : decode cX7_go 68 = .ok (.goto (-41), 3) := by decide +kernel
theorem dX7_go_71 : decode cX7_go 71 = .ok (.aload_n 0, 1) := by decide +kernel
theorem dX7_go_72 : decode cX7_go 72 = .ok (.iload_n 2, 1) := by decide +kernel
theorem dX7_go_73 : decode cX7_go 73 = .ok (.invokevirtual 163, 3) := by decide +kernel
theorem dX7_go_76 : decode cX7_go 76 = .ok (.iload 4, 2) := by decide +kernel
theorem dX7_go_78 : decode cX7_go 78 = .ok (.iconst (-1), 1) := by decide +kernel
theorem dX7_go_79 : decode cX7_go 79 = .ok (.if_icmp .ne 7, 3) := by decide +kernel
theorem dX7_go_82 : decode cX7_go 82 = .ok (.iconst (-1), 1) := by decide +kernel
theorem dX7_go_83 : decode cX7_go 83 = .ok (.goto 10, 3) := by decide +kernel
theorem dX7_go_86 : decode cX7_go 86 = .ok (.aload_n 0, 1) := by decide +kernel
theorem dX7_go_87 : decode cX7_go 87 = .ok (.iload_n 2, 1) := by decide +kernel
theorem dX7_go_88 : decode cX7_go 88 = .ok (.iload 4, 2) := by decide +kernel
theorem dX7_go_90 : decode cX7_go 90 = .ok (.invokevirtual 139, 3) := by decide +kernel
theorem dX7_go_93 : decode cX7_go 93 = .ok (.istore 5, 2) := by decide +kernel
theorem dX7_go_95 : decode cX7_go 95 = .ok (.iload_n 3, 1) := by decide +kernel
theorem dX7_go_96 : decode cX7_go 96 = .ok (.iconst (-1), 1) := by decide +kernel
theorem dX7_go_97 : decode cX7_go 97 = .ok (.if_icmp .ne 24, 3) := by decide +kernel
theorem dX7_go_100 : decode cX7_go 100 = .ok (.aload_n 0, 1) := by decide +kernel
theorem dX7_go_101 : decode cX7_go 101 = .ok (.getfield 26, 3) := by decide +kernel
theorem dX7_go_104 : decode cX7_go 104 = .ok (.iload 4, 2) := by decide +kernel
theorem dX7_go_106 : decode cX7_go 106 = .ok (.iaload, 1) := by decide +kernel
theorem dX7_go_107 : decode cX7_go 107 = .ok (.iload_n 2, 1) := by decide +kernel
theorem dX7_go_108 : decode cX7_go 108 = .ok (.if_icmp .ne 13, 3) := by decide +kernel
theorem dX7_go_111 : decode cX7_go 111 = .ok (.aload_n 0, 1) := by decide +kernel
theorem dX7_go_112 : decode cX7_go 112 = .ok (.getfield 83, 3) := by decide +kernel
theorem dX7_go_115 : decode cX7_go 115 = .ok (.iload_n 1, 1) := by decide +kernel
theorem dX7_go_116 : decode cX7_go 116 = .ok (.iconst 1, 1) := by decide +kernel
theorem dX7_go_117 : decode cX7_go 117 = .ok (.iastore, 1) := by decide +kernel
theorem dX7_go_118 : decode cX7_go 118 = .ok (.goto 156, 3) := by decide +kernel
theorem dX7_go_121 : decode cX7_go 121 = .ok (.iload_n 3, 1) := by decide +kernel
theorem dX7_go_122 : decode cX7_go 122 = .ok (.iconst (-1), 1) := by decide +kernel
theorem dX7_go_123 : decode cX7_go 123 = .ok (.if_icmp .eq 19, 3) := by decide +kernel
theorem dX7_go_126 : decode cX7_go 126 = .ok (.iload 4, 2) := by decide +kernel
theorem dX7_go_128 : decode cX7_go 128 = .ok (.iconst (-1), 1) := by decide +kernel
theorem dX7_go_129 : decode cX7_go 129 = .ok (.if_icmp .ne 13, 3) := by decide +kernel
theorem dX7_go_132 : decode cX7_go 132 = .ok (.aload_n 0, 1) := by decide +kernel
theorem dX7_go_133 : decode cX7_go 133 = .ok (.getfield 83, 3) := by decide +kernel
theorem dX7_go_136 : decode cX7_go 136 = .ok (.iload_n 1, 1) := by decide +kernel
theorem dX7_go_137 : decode cX7_go 137 = .ok (.iconst 3, 1) := by decide +kernel
theorem dX7_go_138 : decode cX7_go 138 = .ok (.iastore, 1) := by decide +kernel
theorem dX7_go_139 : decode cX7_go 139 = .ok (.goto 135, 3) := by decide +kernel
theorem dX7_go_142 : decode cX7_go 142 = .ok (.iload 5, 2) := by decide +kernel
theorem dX7_go_144 : decode cX7_go 144 = .ok (.iconst (-1), 1) := by decide +kernel
theorem dX7_go_145 : decode cX7_go 145 = .ok (.if_icmp .eq 9, 3) := by decide +kernel
theorem dX7_go_148 : decode cX7_go 148 = .ok (.iload 5, 2) := by decide +kernel
theorem dX7_go_150 : decode cX7_go 150 = .ok (.iload_n 2, 1) := by decide +kernel
theorem dX7_go_151 : decode cX7_go 151 = .ok (.if_icmp .ne 13, 3) := by decide +kernel
theorem dX7_go_154 : decode cX7_go 154 = .ok (.aload_n 0, 1) := by decide +kernel
theorem dX7_go_155 : decode cX7_go 155 = .ok (.getfield 83, 3) := by decide +kernel
theorem dX7_go_158 : decode cX7_go 158 = .ok (.iload_n 1, 1) := by decide +kernel
theorem dX7_go_159 : decode cX7_go 159 = .ok (.iconst 2, 1) := by decide +kernel
theorem dX7_go_160 : decode cX7_go 160 = .ok (.iastore, 1) := by decide +kernel
theorem dX7_go_161 : decode cX7_go 161 = .ok (.goto 113, 3) := by decide +kernel
theorem dX7_go_164 : decode cX7_go 164 = .ok (.aload_n 0, 1) := by decide +kernel
theorem dX7_go_165 : decode cX7_go 165 = .ok (.getfield 77, 3) := by decide +kernel
theorem dX7_go_168 : decode cX7_go 168 = .ok (.iload_n 1, 1) := by decide +kernel
theorem dX7_go_169 : decode cX7_go 169 = .ok (.iaload, 1) := by decide +kernel
theorem dX7_go_170 : decode cX7_go 170 = .ok (.ifCond .ne 13, 3) := by decide +kernel
theorem dX7_go_173 : decode cX7_go 173 = .ok (.aload_n 0, 1) := by decide +kernel
theorem dX7_go_174 : decode cX7_go 174 = .ok (.getfield 83, 3) := by decide +kernel
theorem dX7_go_177 : decode cX7_go 177 = .ok (.iload_n 1, 1) := by decide +kernel
theorem dX7_go_178 : decode cX7_go 178 = .ok (.iconst 4, 1) := by decide +kernel
theorem dX7_go_179 : decode cX7_go 179 = .ok (.iastore, 1) := by decide +kernel
theorem dX7_go_180 : decode cX7_go 180 = .ok (.goto 94, 3) := by decide +kernel
theorem dX7_go_183 : decode cX7_go 183 = .ok (.aload_n 0, 1) := by decide +kernel
theorem dX7_go_184 : decode cX7_go 184 = .ok (.iload_n 2, 1) := by decide +kernel
theorem dX7_go_185 : decode cX7_go 185 = .ok (.iload 5, 2) := by decide +kernel
theorem dX7_go_187 : decode cX7_go 187 = .ok (.invokevirtual 142, 3) := by decide +kernel
theorem dX7_go_190 : decode cX7_go 190 = .ok (.istore 6, 2) := by decide +kernel
theorem dX7_go_192 : decode cX7_go 192 = .ok (.aload_n 0, 1) := by decide +kernel
theorem dX7_go_193 : decode cX7_go 193 = .ok (.getfield 56, 3) := by decide +kernel
theorem dX7_go_196 : decode cX7_go 196 = .ok (.aload_n 0, 1) := by decide +kernel
theorem dX7_go_197 : decode cX7_go 197 = .ok (.iload_n 2, 1) := by decide +kernel
theorem dX7_go_198 : decode cX7_go 198 = .ok (.iload 4, 2) := by decide +kernel
theorem dX7_go_200 : decode cX7_go 200 = .ok (.iload 6, 2) := by decide +kernel
theorem dX7_go_202 : decode cX7_go 202 = .ok (.invokevirtual 145, 3) := by decide +kernel
theorem dX7_go_205 : decode cX7_go 205 = .ok (.iaload, 1) := by decide +kernel
theorem dX7_go_206 : decode cX7_go 206 = .ok (.bipush 16, 2) := by decide +kernel
theorem dX7_go_208 : decode cX7_go 208 = .ok (.if_icmp .ge 7, 3) := by decide +kernel
theorem dX7_go_211 : decode cX7_go 211 = .ok (.iconst (-1), 1) := by decide +kernel
theorem dX7_go_212 : decode cX7_go 212 = .ok (.goto 17, 3) := by decide +kernel
theorem dX7_go_215 : decode cX7_go 215 = .ok (.aload_n 0, 1) := by decide +kernel
theorem dX7_go_216 : decode cX7_go 216 = .ok (.getfield 56, 3) := by decide +kernel
theorem dX7_go_219 : decode cX7_go 219 = .ok (.aload_n 0, 1) := by decide +kernel
theorem dX7_go_220 : decode cX7_go 220 = .ok (.iload_n 2, 1) := by decide +kernel
theorem dX7_go_221 : decode cX7_go 221 = .ok (.iload 4, 2) := by decide +kernel
theorem dX7_go_223 : decode cX7_go 223 = .ok (.iload 6, 2) := by decide +kernel
theorem dX7_go_225 : decode cX7_go 225 = .ok (.invokevirtual 145, 3) := by decide +kernel
theorem dX7_go_228 : decode cX7_go 228 = .ok (.iaload, 1) := by decide +kernel
theorem dX7_go_229 : decode cX7_go 229 = .ok (.istore 7, 2) := by decide +kernel
theorem dX7_go_231 : decode cX7_go 231 = .ok (.aload_n 0, 1) := by decide +kernel
theorem dX7_go_232 : decode cX7_go 232 = .ok (.getfield 77, 3) := by decide +kernel
theorem dX7_go_235 : decode cX7_go 235 = .ok (.iload_n 1, 1) := by decide +kernel
theorem dX7_go_236 : decode cX7_go 236 = .ok (.dup2, 1) := by decide +kernel
theorem dX7_go_237 : decode cX7_go 237 = .ok (.iaload, 1) := by decide +kernel
theorem dX7_go_238 : decode cX7_go 238 = .ok (.iconst 1, 1) := by decide +kernel
theorem dX7_go_239 : decode cX7_go 239 = .ok (.isub, 1) := by decide +kernel
theorem dX7_go_240 : decode cX7_go 240 = .ok (.iastore, 1) := by decide +kernel
theorem dX7_go_241 : decode cX7_go 241 = .ok (.aload_n 0, 1) := by decide +kernel
theorem dX7_go_242 : decode cX7_go 242 = .ok (.iload_n 2, 1) := by decide +kernel
theorem dX7_go_243 : decode cX7_go 243 = .ok (.iload 6, 2) := by decide +kernel
theorem dX7_go_245 : decode cX7_go 245 = .ok (.iconst 4, 1) := by decide +kernel
theorem dX7_go_246 : decode cX7_go 246 = .ok (.iload_n 1, 1) := by decide +kernel
theorem dX7_go_247 : decode cX7_go 247 = .ok (.iload 7, 2) := by decide +kernel
theorem dX7_go_249 : decode cX7_go 249 = .ok (.iconst 0, 1) := by decide +kernel
theorem dX7_go_250 : decode cX7_go 250 = .ok (.invokevirtual 103, 3) := by decide +kernel
theorem dX7_go_253 : decode cX7_go 253 = .ok (.ifCond .eq 14, 3) := by decide +kernel
theorem dX7_go_256 : decode cX7_go 256 = .ok (.aload_n 0, 1) := by decide +kernel
theorem dX7_go_257 : decode cX7_go 257 = .ok (.getfield 86, 3) := by decide +kernel
theorem dX7_go_260 : decode cX7_go 260 = .ok (.iload_n 1, 1) := by decide +kernel
theorem dX7_go_261 : decode cX7_go 261 = .ok (.iload 7, 2) := by decide +kernel
theorem dX7_go_263 : decode cX7_go 263 = .ok (.iastore, 1) := by decide +kernel
theorem dX7_go_264 : decode cX7_go 264 = .ok (.goto 10, 3) := by decide +kernel
theorem dX7_go_267 : decode cX7_go 267 = .ok (.aload_n 0, 1) := by decide +kernel
theorem dX7_go_268 : decode cX7_go 268 = .ok (.getfield 83, 3) := by decide +kernel
theorem dX7_go_271 : decode cX7_go 271 = .ok (.iload_n 1, 1) := by decide +kernel
theorem dX7_go_272 : decode cX7_go 272 = .ok (.iconst 5, 1) := by decide +kernel
theorem dX7_go_273 : decode cX7_go 273 = .ok (.iastore, 1) := by decide +kernel
theorem dX7_go_274 : decode cX7_go 274 = .ok (.return_, 1) := by decide +kernel
theorem dX7_come_0 : decode cX7_come 0 = .ok (.bipush 16, 2) := by decide +kernel
theorem dX7_come_2 : decode cX7_come 2 = .ok (.iload_n 1, 1) := by decide +kernel
theorem dX7_come_3 : decode cX7_come 3 = .ok (.imul, 1) := by decide +kernel
theorem dX7_come_4 : decode cX7_come 4 = .ok (.istore_n 2, 1) := by decide +kernel
theorem dX7_come_5 : decode cX7_come 5 = .ok (.iload_n 1, 1) := by decide +kernel
theorem dX7_come_6 : decode cX7_come 6 = .ok (.iconst 2, 1) := by decide +kernel
theorem dX7_come_7 : decode cX7_come 7 = .ok (.idiv, 1) := by decide +kernel
theorem dX7_come_8 : decode cX7_come 8 = .ok (.istore_n 3, 1) := by decide +kernel
theorem dX7_come_9 : decode cX7_come 9 = .ok (.iload_n 1, 1) := by decide +kernel
theorem dX7_come_10 : decode cX7_come 10 = .ok (.iconst 2, 1) := by decide +kernel
theorem dX7_come_11 : decode cX7_come 11 = .ok (.irem, 1) := by decide +kernel
theorem dX7_come_12 : decode cX7_come 12 = .ok (.ifCond .ne 12, 3) := by decide +kernel
theorem dX7_come_15 : decode cX7_come 15 = .ok (.aload_n 0, 1) := by decide +kernel
theorem dX7_come_16 : decode cX7_come 16 = .ok (.getfield 20, 3) := by decide +kernel
theorem dX7_come_19 : decode cX7_come 19 = .ok (.iload_n 3, 1) := by decide +kernel
theorem dX7_come_20 : decode cX7_come 20 = .ok (.iaload, 1) := by decide +kernel
theorem dX7_come_21 : decode cX7_come 21 = .ok (.goto 9, 3) := by decide +kernel
theorem dX7_come_24 : decode cX7_come 24 = .ok (.aload_n 0, 1) := by decide +kernel
theorem dX7_come_25 : decode cX7_come 25 = .ok (.getfield 16, 3) := by decide +kernel
theorem dX7_come_28 : decode cX7_come 28 = .ok (.iload_n 3, 1) := by decide +kernel
theorem dX7_come_29 : decode cX7_come 29 = .ok (.iaload, 1) := by decide +kernel
theorem dX7_come_30 : decode cX7_come 30 = .ok (.istore 4, 2) := by decide +kernel
theorem dX7_come_32 : decode cX7_come 32 = .ok (.aload_n 0, 1) := by decide +kernel
theorem dX7_come_33 : decode cX7_come 33 = .ok (.getfield 41, 3) := by decide +kernel
theorem dX7_come_36 : decode cX7_come 36 = .ok (.iload_n 2, 1) := by decide +kernel
theorem dX7_come_37 : decode cX7_come 37 = .ok (.iaload, 1) := by decide +kernel
theorem dX7_come_38 : decode cX7_come 38 = .ok (.istore 5, 2) := by decide +kernel
theorem dX7_come_40 : decode cX7_come 40 = .ok (.aload_n 0, 1) := by decide +kernel
theorem dX7_come_41 : decode cX7_come 41 = .ok (.getfield 44, 3) := by decide +kernel
theorem dX7_come_44 : decode cX7_come 44 = .ok (.iload_n 2, 1) := by decide +kernel
theorem dX7_come_45 : decode cX7_come 45 = .ok (.iaload, 1) := by decide +kernel
theorem dX7_come_46 : decode cX7_come 46 = .ok (.istore 6, 2) := by decide +kernel
theorem dX7_come_48 : decode cX7_come 48 = .ok (.aload_n 0, 1) := by decide +kernel
theorem dX7_come_49 : decode cX7_come 49 = .ok (.getfield 47, 3) := by decide +kernel
theorem dX7_come_52 : decode cX7_come 52 = .ok (.iload_n 2, 1) := by decide +kernel
theorem dX7_come_53 : decode cX7_come 53 = .ok (.iaload, 1) := by decide +kernel
theorem dX7_come_54 : decode cX7_come 54 = .ok (.istore 7, 2) := by decide +kernel
theorem dX7_come_56 : decode cX7_come 56 = .ok (.aload_n 0, 1) := by decide +kernel
theorem dX7_come_57 : decode cX7_come 57 = .ok (.getfield 50, 3) := by decide +kernel
theorem dX7_come_60 : decode cX7_come 60 = .ok (.iload_n 2, 1) := by decide +kernel
theorem dX7_come_61 : decode cX7_come 61 = .ok (.iaload, 1) := by decide +kernel
theorem dX7_come_62 : decode cX7_come 62 = .ok (.istore 8, 2) := by decide +kernel
theorem dX7_come_64 : decode cX7_come 64 = .ok (.aload_n 0, 1) := by decide +kernel
theorem dX7_come_65 : decode cX7_come 65 = .ok (.getfield 53, 3) := by decide +kernel
theorem dX7_come_68 : decode cX7_come 68 = .ok (.iload_n 2, 1) := by decide +kernel
theorem dX7_come_69 : decode cX7_come 69 = .ok (.baload, 1) := by decide +kernel
theorem dX7_come_70 : decode cX7_come 70 = .ok (.istore 9, 2) := by decide +kernel
theorem dX7_come_72 : decode cX7_come 72 = .ok (.aload_n 0, 1) := by decide +kernel
theorem dX7_come_73 : decode cX7_come 73 = .ok (.getfield 38, 3) := by decide +kernel
theorem dX7_come_76 : decode cX7_come 76 = .ok (.iload_n 1, 1) := by decide +kernel
theorem dX7_come_77 : decode cX7_come 77 = .ok (.dup2, 1) := by decide +kernel
theorem dX7_come_78 : decode cX7_come 78 = .ok (.iaload, 1) := by decide +kernel
theorem dX7_come_79 : decode cX7_come 79 = .ok (.iconst 1, 1) := by decide +kernel
theorem dX7_come_80 : decode cX7_come 80 = .ok (.isub, 1) := by decide +kernel
theorem dX7_come_81 : decode cX7_come 81 = .ok (.iastore, 1) := by decide +kernel
theorem dX7_come_82 : decode cX7_come 82 = .ok (.iload_n 2, 1) := by decide +kernel
theorem dX7_come_83 : decode cX7_come 83 = .ok (.istore 10, 2) := by decide +kernel
theorem dX7_come_85 : decode cX7_come 85 = .ok (.iload 10, 2) := by decide +kernel
theorem dX7_come_87 : decode cX7_come 87 = .ok (.iload_n 2, 1) := by decide +kernel
theorem dX7_come_88 : decode cX7_come 88 = .ok (.aload_n 0, 1) := by decide +kernel
theorem dX7_come_89 : decode cX7_come 89 = .ok (.getfield 38, 3) := by decide +kernel
theorem dX7_come_92 : decode cX7_come 92 = .ok (.iload_n 1, 1) := by decide +kernel
theorem dX7_come_93 : decode cX7_come 93 = .ok (.iaload, 1) := by decide +kernel
theorem dX7_come_94 : decode cX7_come 94 = .ok (.iadd, 1) := by decide +kernel
theorem dX7_come_95 : decode cX7_come 95 = .ok (.if_icmp .ge 89, 3) := by decide +kernel
theorem dX7_come_98 : decode cX7_come 98 = .ok (.aload_n 0, 1) := by decide +kernel
theorem dX7_come_99 : decode cX7_come 99 = .ok (.getfield 41, 3) := by decide +kernel
theorem dX7_come_102 : decode cX7_come 102 = .ok (.iload 10, 2) := by decide +kernel
theorem dX7_come_104 : decode cX7_come 104 = .ok (.aload_n 0, 1) := by decide +kernel
theorem dX7_come_105 : decode cX7_come 105 = .ok (.getfield 41, 3) := by decide +kernel
theorem dX7_come_108 : decode cX7_come 108 = .ok (.iload 10, 2) := by decide +kernel
theorem dX7_come_110 : decode cX7_come 110 = .ok (.iconst 1, 1) := by decide +kernel
theorem dX7_come_111 : decode cX7_come 111 = .ok (.iadd, 1) := by decide +kernel
theorem dX7_come_112 : decode cX7_come 112 = .ok (.iaload, 1) := by decide +kernel
theorem dX7_come_113 : decode cX7_come 113 = .ok (.iastore, 1) := by decide +kernel
theorem dX7_come_114 : decode cX7_come 114 = .ok (.aload_n 0, 1) := by decide +kernel
theorem dX7_come_115 : decode cX7_come 115 = .ok (.getfield 44, 3) := by decide +kernel
theorem dX7_come_118 : decode cX7_come 118 = .ok (.iload 10, 2) := by decide +kernel
theorem dX7_come_120 : decode cX7_come 120 = .ok (.aload_n 0, 1) := by decide +kernel
theorem dX7_come_121 : decode cX7_come 121 = .ok (.getfield 44, 3) := by decide +kernel
theorem dX7_come_124 : decode cX7_come 124 = .ok (.iload 10, 2) := by decide +kernel
theorem dX7_come_126 : decode cX7_come 126 = .ok (.iconst 1, 1) := by decide +kernel
theorem dX7_come_127 : decode cX7_come 127 = .ok (.iadd, 1) := by decide +kernel
theorem dX7_come_128 : decode cX7_come 128 = .ok (.iaload, 1) := by decide +kernel
theorem dX7_come_129 : decode cX7_come 129 = .ok (.iastore, 1) := by decide +kernel
theorem dX7_come_130 : decode cX7_come 130 = .ok (.aload_n 0, 1) := by decide +kernel
theorem dX7_come_131 : decode cX7_come 131 = .ok (.getfield 47, 3) := by decide +kernel
theorem dX7_come_134 : decode cX7_come 134 = .ok (.iload 10, 2) := by decide +kernel
theorem dX7_come_136 : decode cX7_come 136 = .ok (.aload_n 0, 1) := by decide +kernel
theorem dX7_come_137 : decode cX7_come 137 = .ok (.getfield 47, 3) := by decide +kernel
theorem dX7_come_140 : decode cX7_come 140 = .ok (.iload 10, 2) := by decide +kernel
theorem dX7_come_142 : decode cX7_come 142 = .ok (.iconst 1, 1) := by decide +kernel
theorem dX7_come_143 : decode cX7_come 143 = .ok (.iadd, 1) := by decide +kernel
theorem dX7_come_144 : decode cX7_come 144 = .ok (.iaload, 1) := by decide +kernel
theorem dX7_come_145 : decode cX7_come 145 = .ok (.iastore, 1) := by decide +kernel
theorem dX7_come_146 : decode cX7_come 146 = .ok (.aload_n 0, 1) := by decide +kernel
theorem dX7_come_147 : decode cX7_come 147 = .ok (.getfield 50, 3) := by decide +kernel
theorem dX7_come_150 : decode cX7_come 150 = .ok (.iload 10, 2) := by decide +kernel
theorem dX7_come_152 : decode cX7_come 152 = .ok (.aload_n 0, 1) := by decide +kernel
theorem dX7_come_153 : decode cX7_come 153 = .ok (.getfield 50, 3) := by decide +kernel
theorem dX7_come_156 : decode cX7_come 156 = .ok (.iload 10, 2) := by decide +kernel
theorem dX7_come_158 : decode cX7_come 158 = .ok (.iconst 1, 1) := by decide +kernel
theorem dX7_come_159 : decode cX7_come 159 = .ok (.iadd, 1) := by decide +kernel
theorem dX7_come_160 : decode cX7_come 160 = .ok (.iaload, 1) := by decide +kernel
theorem dX7_come_161 : decode cX7_come 161 = .ok (.iastore, 1) := by decide +kernel
theorem dX7_come_162 : decode cX7_come 162 = .ok (.aload_n 0, 1) := by decide +kernel
theorem dX7_come_163 : decode cX7_come 163 = .ok (.getfield 53, 3) := by decide +kernel
theorem dX7_come_166 : decode cX7_come 166 = .ok (.iload 10, 2) := by decide +kernel
theorem dX7_come_168 : decode cX7_come 168 = .ok (.aload_n 0, 1) := by decide +kernel
theorem dX7_come_169 : decode cX7_come 169 = .ok (.getfield 53, 3) := by decide +kernel
theorem dX7_come_172 : decode cX7_come 172 = .ok (.iload 10, 2) := by decide +kernel
theorem dX7_come_174 : decode cX7_come 174 = .ok (.iconst 1, 1) := by decide +kernel
theorem dX7_come_175 : decode cX7_come 175 = .ok (.iadd, 1) := by decide +kernel
theorem dX7_come_176 : decode cX7_come 176 = .ok (.baload, 1) := by decide +kernel
theorem dX7_come_177 : decode cX7_come 177 = .ok (.bastore, 1) := by decide +kernel
theorem dX7_come_178 : decode cX7_come 178 = .ok (.iinc 10 1, 3) := by decide +kernel
theorem dX7_come_181 : decode cX7_come 181 = .ok (.goto (-96), 3) := by decide +kernel
theorem dX7_come_184 : decode cX7_come 184 = .ok (.iload 9, 2) := by decide +kernel
theorem dX7_come_186 : decode cX7_come 186 = .ok (.ifCond .eq 24, 3) := by decide +kernel
theorem dX7_come_189 : decode cX7_come 189 = .ok (.iload 5, 2) := by decide +kernel
theorem dX7_come_191 : decode cX7_come 191 = .ok (.iconst 4, 1) := by decide +kernel
theorem dX7_come_192 : decode cX7_come 192 = .ok (.if_icmp .ne 12, 3) := by decide +kernel
theorem dX7_come_195 : decode cX7_come 195 = .ok (.aload_n 0, 1) := by decide +kernel
theorem dX7_come_196 : decode cX7_come 196 = .ok (.getfield 83, 3) := by decide +kernel
theorem dX7_come_199 : decode cX7_come 199 = .ok (.iload 6, 2) := by decide +kernel
theorem dX7_come_201 : decode cX7_come 201 = .ok (.bipush 7, 2) := by decide +kernel
theorem dX7_come_203 : decode cX7_come 203 = .ok (.iastore, 1) := by decide +kernel
theorem dX7_come_204 : decode cX7_come 204 = .ok (.iload 5, 2) := by decide +kernel
theorem dX7_come_206 : decode cX7_come 206 = .ok (.bipush 8, 2) := by decide +kernel
theorem dX7_come_208 : decode cX7_come 208 = .ok (.iadd, 1) := by decide +kernel
theorem dX7_come_209 : decode cX7_come 209 = .ok (.ireturn, 1) := by decide +kernel
theorem dX7_come_210 : decode cX7_come 210 = .ok (.iload 5, 2) := by decide +kernel
theorem dX7_come_212 : decode cX7_come 212 = .ok (.tableswitch 92 0 3 #[32, 48, 64, 78], 32) := by decide +kernel
theorem dX7_come_244 : decode cX7_come 244 = .ok (.aload_n 0, 1) := by decide +kernel
theorem dX7_come_245 : decode cX7_come 245 = .ok (.iload 4, 2) := by decide +kernel
theorem dX7_come_247 : decode cX7_come 247 = .ok (.iload_n 3, 1) := by decide +kernel
theorem dX7_come_248 : decode cX7_come 248 = .ok (.iload 6, 2) := by decide +kernel
theorem dX7_come_250 : decode cX7_come 250 = .ok (.iload 7, 2) := by decide +kernel
theorem dX7_come_252 : decode cX7_come 252 = .ok (.iload 8, 2) := by decide +kernel
theorem dX7_come_254 : decode cX7_come 254 = .ok (.invokevirtual 173, 3) := by decide +kernel
theorem dX7_come_257 : decode cX7_come 257 = .ok (.goto 57, 3) := by decide +kernel
theorem dX7_come_260 : decode cX7_come 260 = .ok (.aload_n 0, 1) := by decide +kernel
theorem dX7_come_261 : decode cX7_come 261 = .ok (.iload 4, 2) := by decide +kernel
theorem dX7_come_263 : decode cX7_come 263 = .ok (.iload_n 3, 1) := by decide +kernel
theorem dX7_come_264 : decode cX7_come 264 = .ok (.iload 6, 2) := by decide +kernel
theorem dX7_come_266 : decode cX7_come 266 = .ok (.iload 7, 2) := by decide +kernel
theorem dX7_come_268 : decode cX7_come 268 = .ok (.iload 8, 2) := by decide +kernel
theorem dX7_come_270 : decode cX7_come 270 = .ok (.invokevirtual 177, 3) := by decide +kernel
theorem dX7_come_273 : decode cX7_come 273 = .ok (.goto 41, 3) := by decide +kernel
theorem dX7_come_276 : decode cX7_come 276 = .ok (.aload_n 0, 1) := by decide +kernel
theorem dX7_come_277 : decode cX7_come 277 = .ok (.iload 4, 2) := by decide +kernel
theorem dX7_come_279 : decode cX7_come 279 = .ok (.iload_n 3, 1) := by decide +kernel
theorem dX7_come_280 : decode cX7_come 280 = .ok (.iload 6, 2) := by decide +kernel
theorem dX7_come_282 : decode cX7_come 282 = .ok (.iload 7, 2) := by decide +kernel
theorem dX7_come_284 : decode cX7_come 284 = .ok (.invokevirtual 180, 3) := by decide +kernel
theorem dX7_come_287 : decode cX7_come 287 = .ok (.goto 27, 3) := by decide +kernel
theorem dX7_come_290 : decode cX7_come 290 = .ok (.aload_n 0, 1) := by decide +kernel
theorem dX7_come_291 : decode cX7_come 291 = .ok (.iload 4, 2) := by decide +kernel
theorem dX7_come_293 : decode cX7_come 293 = .ok (.iload_n 3, 1) := by decide +kernel
theorem dX7_come_294 : decode cX7_come 294 = .ok (.iload 6, 2) := by decide +kernel
theorem dX7_come_296 : decode cX7_come 296 = .ok (.iload 7, 2) := by decide +kernel
theorem dX7_come_298 : decode cX7_come 298 = .ok (.invokevirtual 183, 3) := by decide +kernel
theorem dX7_come_301 : decode cX7_come 301 = .ok (.goto 13, 3) := by decide +kernel
theorem dX7_come_304 : decode cX7_come 304 = .ok (.aload_n 0, 1) := by decide +kernel
theorem dX7_come_305 : decode cX7_come 305 = .ok (.iload 6, 2) := by decide +kernel
theorem dX7_come_307 : decode cX7_come 307 = .ok (.iload 4, 2) := by decide +kernel
theorem dX7_come_309 : decode cX7_come 309 = .ok (.iload 7, 2) := by decide +kernel
theorem dX7_come_311 : decode cX7_come 311 = .ok (.invokevirtual 186, 3) := by decide +kernel
theorem dX7_come_314 : decode cX7_come 314 = .ok (.iload 5, 2) := by decide +kernel
theorem dX7_come_316 : decode cX7_come 316 = .ok (.ireturn, 1) := by decide +kernel
theorem dX7_lay_0 : decode cX7_lay 0 = .ok (.iload_n 1, 1) := by decide +kernel
theorem dX7_lay_1 : decode cX7_lay 1 = .ok (.bipush 12, 2) := by decide +kernel
theorem dX7_lay_3 : decode cX7_lay 3 = .ok (.invokestatic 99, 3) := by decide +kernel
theorem dX7_lay_6 : decode cX7_lay 6 = .ok (.ifCond .eq 23, 3) := by decide +kernel
theorem dX7_lay_9 : decode cX7_lay 9 = .ok (.aload_n 0, 1) := by decide +kernel
theorem dX7_lay_10 : decode cX7_lay 10 = .ok (.iload_n 2, 1) := by decide +kernel
theorem dX7_lay_11 : decode cX7_lay 11 = .ok (.invokevirtual 189, 3) := by decide +kernel
theorem dX7_lay_14 : decode cX7_lay 14 = .ok (.ifCond .eq 15, 3) := by decide +kernel
theorem dX7_lay_17 : decode cX7_lay 17 = .ok (.aload_n 0, 1) := by decide +kernel
theorem dX7_lay_18 : decode cX7_lay 18 = .ok (.iload_n 3, 1) := by decide +kernel
theorem dX7_lay_19 : decode cX7_lay 19 = .ok (.invokevirtual 189, 3) := by decide +kernel
theorem dX7_lay_22 : decode cX7_lay 22 = .ok (.ifCond .eq 7, 3) := by decide +kernel
theorem dX7_lay_25 : decode cX7_lay 25 = .ok (.iconst 1, 1) := by decide +kernel
theorem dX7_lay_26 : decode cX7_lay 26 = .ok (.goto 4, 3) := by decide +kernel
theorem dX7_lay_29 : decode cX7_lay 29 = .ok (.iconst 0, 1) := by decide +kernel
theorem dX7_lay_30 : decode cX7_lay 30 = .ok (.istore 5, 2) := by decide +kernel
theorem dX7_lay_32 : decode cX7_lay 32 = .ok (.aload_n 0, 1) := by decide +kernel
theorem dX7_lay_33 : decode cX7_lay 33 = .ok (.iload 5, 2) := by decide +kernel
theorem dX7_lay_35 : decode cX7_lay 35 = .ok (.iload 5, 2) := by decide +kernel
theorem dX7_lay_37 : decode cX7_lay 37 = .ok (.ifCond .eq 34, 3) := by decide +kernel
theorem dX7_lay_40 : decode cX7_lay 40 = .ok (.aload_n 0, 1) := by decide +kernel
theorem dX7_lay_41 : decode cX7_lay 41 = .ok (.getfield 7, 3) := by decide +kernel
theorem dX7_lay_44 : decode cX7_lay 44 = .ok (.iload_n 1, 1) := by decide +kernel
theorem dX7_lay_45 : decode cX7_lay 45 = .ok (.baload, 1) := by decide +kernel
theorem dX7_lay_46 : decode cX7_lay 46 = .ok (.ifCond .ne 25, 3) := by decide +kernel
theorem dX7_lay_49 : decode cX7_lay 49 = .ok (.iload_n 2, 1) := by decide +kernel
theorem dX7_lay_50 : decode cX7_lay 50 = .ok (.iload_n 3, 1) := by decide +kernel
theorem dX7_lay_51 : decode cX7_lay 51 = .ok (.if_icmp .eq 20, 3) := by decide +kernel
theorem dX7_lay_54 : decode cX7_lay 54 = .ok (.iload 4, 2) := by decide +kernel
theorem dX7_lay_56 : decode cX7_lay 56 = .ok (.iconst 1, 1) := by decide +kernel
theorem dX7_lay_57 : decode cX7_lay 57 = .ok (.if_icmp .lt 14, 3) := by decide +kernel
theorem dX7_lay_60 : decode cX7_lay 60 = .ok (.iload 4, 2) := by decide +kernel
theorem dX7_lay_62 : decode cX7_lay 62 = .ok (.bipush 60, 2) := by decide +kernel
theorem dX7_lay_64 : decode cX7_lay 64 = .ok (.if_icmp .gt 7, 3) := by decide +kernel
theorem dX7_lay_67 : decode cX7_lay 67 = .ok (.iconst 1, 1) := by decide +kernel
theorem dX7_lay_68 : decode cX7_lay 68 = .ok (.goto 4, 3) := by decide +kernel
theorem dX7_lay_71 : decode cX7_lay 71 = .ok (.iconst 0, 1) := by decide +kernel
theorem dX7_lay_72 : decode cX7_lay 72 = .ok (.invokevirtual 193, 3) := by decide +kernel
theorem dX7_lay_75 : decode cX7_lay 75 = .ok (.ifCond .ne 4, 3) := by decide +kernel
theorem dX7_lay_78 : decode cX7_lay 78 = .ok (.return_, 1) := by decide +kernel
theorem dX7_lay_79 : decode cX7_lay 79 = .ok (.aload_n 0, 1) := by decide +kernel
theorem dX7_lay_80 : decode cX7_lay 80 = .ok (.getfield 7, 3) := by decide +kernel
theorem dX7_lay_83 : decode cX7_lay 83 = .ok (.iload_n 1, 1) := by decide +kernel
theorem dX7_lay_84 : decode cX7_lay 84 = .ok (.iconst 1, 1) := by decide +kernel
theorem dX7_lay_85 : decode cX7_lay 85 = .ok (.bastore, 1) := by decide +kernel
theorem dX7_lay_86 : decode cX7_lay 86 = .ok (.aload_n 0, 1) := by decide +kernel
theorem dX7_lay_87 : decode cX7_lay 87 = .ok (.getfield 16, 3) := by decide +kernel
theorem dX7_lay_90 : decode cX7_lay 90 = .ok (.iload_n 1, 1) := by decide +kernel
theorem dX7_lay_91 : decode cX7_lay 91 = .ok (.iload_n 2, 1) := by decide +kernel
theorem dX7_lay_92 : decode cX7_lay 92 = .ok (.iload_n 3, 1) := by decide +kernel
theorem dX7_lay_93 : decode cX7_lay 93 = .ok (.if_icmp .ge 7, 3) := by decide +kernel
theorem dX7_lay_96 : decode cX7_lay 96 = .ok (.iload_n 2, 1) := by decide +kernel
theorem dX7_lay_97 : decode cX7_lay 97 = .ok (.goto 4, 3) := by decide +kernel
theorem dX7_lay_100 : decode cX7_lay 100 = .ok (.iload_n 3, 1) := by decide +kernel
theorem dX7_lay_101 : decode cX7_lay 101 = .ok (.iastore, 1) := by decide +kernel
theorem dX7_lay_102 : decode cX7_lay 102 = .ok (.aload_n 0, 1) := by decide +kernel
theorem dX7_lay_103 : decode cX7_lay 103 = .ok (.getfield 20, 3) := by decide +kernel
theorem dX7_lay_106 : decode cX7_lay 106 = .ok (.iload_n 1, 1) := by decide +kernel
theorem dX7_lay_107 : decode cX7_lay 107 = .ok (.iload_n 2, 1) := by decide +kernel
theorem dX7_lay_108 : decode cX7_lay 108 = .ok (.iload_n 3, 1) := by decide +kernel
theorem dX7_lay_109 : decode cX7_lay 109 = .ok (.if_icmp .ge 7, 3) := by decide +kernel
theorem dX7_lay_112 : decode cX7_lay 112 = .ok (.iload_n 3, 1) := by decide +kernel
theorem dX7_lay_113 : decode cX7_lay 113 = .ok (.goto 4, 3) := by decide +kernel
theorem dX7_lay_116 : decode cX7_lay 116 = .ok (.iload_n 2, 1) := by decide +kernel
theorem dX7_lay_117 : decode cX7_lay 117 = .ok (.iastore, 1) := by decide +kernel
theorem dX7_lay_118 : decode cX7_lay 118 = .ok (.aload_n 0, 1) := by decide +kernel
theorem dX7_lay_119 : decode cX7_lay 119 = .ok (.getfield 23, 3) := by decide +kernel
theorem dX7_lay_122 : decode cX7_lay 122 = .ok (.iload_n 1, 1) := by decide +kernel
theorem dX7_lay_123 : decode cX7_lay 123 = .ok (.iload 4, 2) := by decide +kernel
theorem dX7_lay_125 : decode cX7_lay 125 = .ok (.iastore, 1) := by decide +kernel
theorem dX7_lay_126 : decode cX7_lay 126 = .ok (.return_, 1) := by decide +kernel
theorem dX7_showNotes_0 : decode cX7_showNotes 0 = .ok (.iconst 0, 1) := by decide +kernel
theorem dX7_showNotes_1 : decode cX7_showNotes 1 = .ok (.istore_n 3, 1) := by decide +kernel
theorem dX7_showNotes_2 : decode cX7_showNotes 2 = .ok (.iload_n 3, 1) := by decide +kernel
theorem dX7_showNotes_3 : decode cX7_showNotes 3 = .ok (.aload_n 0, 1) := by decide +kernel
theorem dX7_showNotes_4 : decode cX7_showNotes 4 = .ok (.getfield 92, 3) := by decide +kernel
theorem dX7_showNotes_7 : decode cX7_showNotes 7 = .ok (.if_icmp .ge 53, 3) := by decide +kernel
theorem dX7_showNotes_10 : decode cX7_showNotes 10 = .ok (.iload_n 3, 1) := by decide +kernel
theorem dX7_showNotes_11 : decode cX7_showNotes 11 = .ok (.iload_n 1, 1) := by decide +kernel
theorem dX7_showNotes_12 : decode cX7_showNotes 12 = .ok (.if_icmp .eq 42, 3) := by decide +kernel
theorem dX7_showNotes_15 : decode cX7_showNotes 15 = .ok (.aload_n 0, 1) := by decide +kernel
theorem dX7_showNotes_16 : decode cX7_showNotes 16 = .ok (.getfield 29, 3) := by decide +kernel
theorem dX7_showNotes_19 : decode cX7_showNotes 19 = .ok (.bipush 8, 2) := by decide +kernel
theorem dX7_showNotes_21 : decode cX7_showNotes 21 = .ok (.iload_n 1, 1) := by decide +kernel
theorem dX7_showNotes_22 : decode cX7_showNotes 22 = .ok (.imul, 1) := by decide +kernel
theorem dX7_showNotes_23 : decode cX7_showNotes 23 = .ok (.iload_n 3, 1) := by decide +kernel
theorem dX7_showNotes_24 : decode cX7_showNotes 24 = .ok (.iadd, 1) := by decide +kernel
theorem dX7_showNotes_25 : decode cX7_showNotes 25 = .ok (.iaload, 1) := by decide +kernel
theorem dX7_showNotes_26 : decode cX7_showNotes 26 = .ok (.ifCond .le 28, 3) := by decide +kernel
theorem dX7_showNotes_29 : decode cX7_showNotes 29 = .ok (.aload_n 0, 1) := by decide +kernel
theorem dX7_showNotes_30 : decode cX7_showNotes 30 = .ok (.iload_n 1, 1) := by decide +kernel
theorem dX7_showNotes_31 : decode cX7_showNotes 31 = .ok (.iload_n 2, 1) := by decide +kernel
theorem dX7_showNotes_32 : decode cX7_showNotes 32 = .ok (.iconst 0, 1) := by decide +kernel
theorem dX7_showNotes_33 : decode cX7_showNotes 33 = .ok (.iload_n 3, 1) := by decide +kernel
theorem dX7_showNotes_34 : decode cX7_showNotes 34 = .ok (.aload_n 0, 1) := by decide +kernel
theorem dX7_showNotes_35 : decode cX7_showNotes 35 = .ok (.getfield 29, 3) := by decide +kernel
theorem dX7_showNotes_38 : decode cX7_showNotes 38 = .ok (.bipush 8, 2) := by decide +kernel
theorem dX7_showNotes_40 : decode cX7_showNotes 40 = .ok (.iload_n 1, 1) := by decide +kernel
theorem dX7_showNotes_41 : decode cX7_showNotes 41 = .ok (.imul, 1) := by decide +kernel
theorem dX7_showNotes_42 : decode cX7_showNotes 42 = .ok (.iload_n 3, 1) := by decide +kernel
theorem dX7_showNotes_43 : decode cX7_showNotes 43 = .ok (.iadd, 1) := by decide +kernel
theorem dX7_showNotes_44 : decode cX7_showNotes 44 = .ok (.iaload, 1) := by decide +kernel
theorem dX7_showNotes_45 : decode cX7_showNotes 45 = .ok (.aload_n 0, 1) := by decide +kernel
theorem dX7_showNotes_46 : decode cX7_showNotes 46 = .ok (.iload_n 1, 1) := by decide +kernel
theorem dX7_showNotes_47 : decode cX7_showNotes 47 = .ok (.iload_n 3, 1) := by decide +kernel
theorem dX7_showNotes_48 : decode cX7_showNotes 48 = .ok (.invokevirtual 117, 3) := by decide +kernel
theorem dX7_showNotes_51 : decode cX7_showNotes 51 = .ok (.invokevirtual 113, 3) := by decide +kernel
theorem dX7_showNotes_54 : decode cX7_showNotes 54 = .ok (.iinc 3 1, 3) := by decide +kernel
theorem dX7_showNotes_57 : decode cX7_showNotes 57 = .ok (.goto (-55), 3) := by decide +kernel
theorem dX7_showNotes_60 : decode cX7_showNotes 60 = .ok (.return_, 1) := by decide +kernel
theorem dX7_showMappings_0 : decode cX7_showMappings 0 = .ok (.iconst 0, 1) := by decide +kernel
theorem dX7_showMappings_1 : decode cX7_showMappings 1 = .ok (.istore_n 3, 1) := by decide +kernel
theorem dX7_showMappings_2 : decode cX7_showMappings 2 = .ok (.iload_n 3, 1) := by decide +kernel
theorem dX7_showMappings_3 : decode cX7_showMappings 3 = .ok (.bipush 8, 2) := by decide +kernel
theorem dX7_showMappings_5 : decode cX7_showMappings 5 = .ok (.if_icmp .ge 54, 3) := by decide +kernel
theorem dX7_showMappings_8 : decode cX7_showMappings 8 = .ok (.aload_n 0, 1) := by decide +kernel
theorem dX7_showMappings_9 : decode cX7_showMappings 9 = .ok (.getfield 62, 3) := by decide +kernel
theorem dX7_showMappings_12 : decode cX7_showMappings 12 = .ok (.bipush 8, 2) := by decide +kernel
theorem dX7_showMappings_14 : decode cX7_showMappings 14 = .ok (.iload_n 1, 1) := by decide +kernel
theorem dX7_showMappings_15 : decode cX7_showMappings 15 = .ok (.imul, 1) := by decide +kernel
theorem dX7_showMappings_16 : decode cX7_showMappings 16 = .ok (.iload_n 3, 1) := by decide +kernel
theorem dX7_showMappings_17 : decode cX7_showMappings 17 = .ok (.iadd, 1) := by decide +kernel
theorem dX7_showMappings_18 : decode cX7_showMappings 18 = .ok (.iaload, 1) := by decide +kernel
theorem dX7_showMappings_19 : decode cX7_showMappings 19 = .ok (.iconst (-1), 1) := by decide +kernel
theorem dX7_showMappings_20 : decode cX7_showMappings 20 = .ok (.if_icmp .eq 33, 3) := by decide +kernel
theorem dX7_showMappings_23 : decode cX7_showMappings 23 = .ok (.aload_n 0, 1) := by decide +kernel
theorem dX7_showMappings_24 : decode cX7_showMappings 24 = .ok (.iload_n 1, 1) := by decide +kernel
theorem dX7_showMappings_25 : decode cX7_showMappings 25 = .ok (.iload_n 2, 1) := by decide +kernel
theorem dX7_showMappings_26 : decode cX7_showMappings 26 = .ok (.iconst 1, 1) := by decide +kernel
theorem dX7_showMappings_27 : decode cX7_showMappings 27 = .ok (.iload_n 3, 1) := by decide +kernel
theorem dX7_showMappings_28 : decode cX7_showMappings 28 = .ok (.aload_n 0, 1) := by decide +kernel
theorem dX7_showMappings_29 : decode cX7_showMappings 29 = .ok (.getfield 62, 3) := by decide +kernel
theorem dX7_showMappings_32 : decode cX7_showMappings 32 = .ok (.bipush 8, 2) := by decide +kernel
theorem dX7_showMappings_34 : decode cX7_showMappings 34 = .ok (.iload_n 1, 1) := by decide +kernel
theorem dX7_showMappings_35 : decode cX7_showMappings 35 = .ok (.imul, 1) := by decide +kernel
theorem dX7_showMappings_36 : decode cX7_showMappings 36 = .ok (.iload_n 3, 1) := by decide +kernel
theorem dX7_showMappings_37 : decode cX7_showMappings 37 = .ok (.iadd, 1) := by decide +kernel
theorem dX7_showMappings_38 : decode cX7_showMappings 38 = .ok (.iaload, 1) := by decide +kernel
theorem dX7_showMappings_39 : decode cX7_showMappings 39 = .ok (.aload_n 0, 1) := by decide +kernel
theorem dX7_showMappings_40 : decode cX7_showMappings 40 = .ok (.getfield 65, 3) := by decide +kernel
theorem dX7_showMappings_43 : decode cX7_showMappings 43 = .ok (.bipush 8, 2) := by decide +kernel
theorem dX7_showMappings_45 : decode cX7_showMappings 45 = .ok (.iload_n 1, 1) := by decide +kernel
theorem dX7_showMappings_46 : decode cX7_showMappings 46 = .ok (.imul, 1) := by decide +kernel
theorem dX7_showMappings_47 : decode cX7_showMappings 47 = .ok (.iload_n 3, 1) := by decide +kernel
theorem dX7_showMappings_48 : decode cX7_showMappings 48 = .ok (.iadd, 1) := by decide +kernel
theorem dX7_showMappings_49 : decode cX7_showMappings 49 = .ok (.iaload, 1) := by decide +kernel
theorem dX7_showMappings_50 : decode cX7_showMappings 50 = .ok (.invokevirtual 113, 3) := by decide +kernel
theorem dX7_showMappings_53 : decode cX7_showMappings 53 = .ok (.iinc 3 1, 3) := by decide +kernel
theorem dX7_showMappings_56 : decode cX7_showMappings 56 = .ok (.goto (-54), 3) := by decide +kernel
theorem dX7_showMappings_59 : decode cX7_showMappings 59 = .ok (.return_, 1) := by decide +kernel
theorem dX7_empty_0 : decode cX7_empty 0 = .ok (.bipush 16, 2) := by decide +kernel
theorem dX7_empty_2 : decode cX7_empty 2 = .ok (.iload_n 1, 1) := by decide +kernel
theorem dX7_empty_3 : decode cX7_empty 3 = .ok (.imul, 1) := by decide +kernel
theorem dX7_empty_4 : decode cX7_empty 4 = .ok (.istore_n 2, 1) := by decide +kernel
theorem dX7_empty_5 : decode cX7_empty 5 = .ok (.iload_n 2, 1) := by decide +kernel
theorem dX7_empty_6 : decode cX7_empty 6 = .ok (.bipush 16, 2) := by decide +kernel
theorem dX7_empty_8 : decode cX7_empty 8 = .ok (.iload_n 1, 1) := by decide +kernel
theorem dX7_empty_9 : decode cX7_empty 9 = .ok (.imul, 1) := by decide +kernel
theorem dX7_empty_10 : decode cX7_empty 10 = .ok (.aload_n 0, 1) := by decide +kernel
theorem dX7_empty_11 : decode cX7_empty 11 = .ok (.getfield 38, 3) := by decide +kernel
theorem dX7_empty_14 : decode cX7_empty 14 = .ok (.iload_n 1, 1) := by decide +kernel
theorem dX7_empty_15 : decode cX7_empty 15 = .ok (.iaload, 1) := by decide +kernel
theorem dX7_empty_16 : decode cX7_empty 16 = .ok (.iadd, 1) := by decide +kernel
theorem dX7_empty_17 : decode cX7_empty 17 = .ok (.if_icmp .ge 32, 3) := by decide +kernel
theorem dX7_empty_20 : decode cX7_empty 20 = .ok (.aload_n 0, 1) := by decide +kernel
theorem dX7_empty_21 : decode cX7_empty 21 = .ok (.getfield 41, 3) := by decide +kernel
theorem dX7_empty_24 : decode cX7_empty 24 = .ok (.iload_n 2, 1) := by decide +kernel
theorem dX7_empty_25 : decode cX7_empty 25 = .ok (.iaload, 1) := by decide +kernel
theorem dX7_empty_26 : decode cX7_empty 26 = .ok (.iconst 4, 1) := by decide +kernel
theorem dX7_empty_27 : decode cX7_empty 27 = .ok (.if_icmp .ne 16, 3) := by decide +kernel
theorem dX7_empty_30 : decode cX7_empty 30 = .ok (.aload_n 0, 1) := by decide +kernel
theorem dX7_empty_31 : decode cX7_empty 31 = .ok (.getfield 83, 3) := by decide +kernel
theorem dX7_empty_34 : decode cX7_empty 34 = .ok (.aload_n 0, 1) := by decide +kernel
theorem dX7_empty_35 : decode cX7_empty 35 = .ok (.getfield 44, 3) := by decide +kernel
theorem dX7_empty_38 : decode cX7_empty 38 = .ok (.iload_n 2, 1) := by decide +kernel
theorem dX7_empty_39 : decode cX7_empty 39 = .ok (.iaload, 1) := by decide +kernel
theorem dX7_empty_40 : decode cX7_empty 40 = .ok (.bipush 6, 2) := by decide +kernel
theorem dX7_empty_42 : decode cX7_empty 42 = .ok (.iastore, 1) := by decide +kernel
theorem dX7_empty_43 : decode cX7_empty 43 = .ok (.iinc 2 1, 3) := by decide +kernel
theorem dX7_empty_46 : decode cX7_empty 46 = .ok (.goto (-41), 3) := by decide +kernel
theorem dX7_empty_49 : decode cX7_empty 49 = .ok (.aload_n 0, 1) := by decide +kernel
theorem dX7_empty_50 : decode cX7_empty 50 = .ok (.getfield 38, 3) := by decide +kernel
theorem dX7_empty_53 : decode cX7_empty 53 = .ok (.iload_n 1, 1) := by decide +kernel
theorem dX7_empty_54 : decode cX7_empty 54 = .ok (.iconst 0, 1) := by decide +kernel
theorem dX7_empty_55 : decode cX7_empty 55 = .ok (.iastore, 1) := by decide +kernel
theorem dX7_empty_56 : decode cX7_empty 56 = .ok (.return_, 1) := by decide +kernel
theorem dX7_sever_0 : decode cX7_sever 0 = .ok (.iconst 0, 1) := by decide +kernel
theorem dX7_sever_1 : decode cX7_sever 1 = .ok (.istore_n 3, 1) := by decide +kernel
theorem dX7_sever_2 : decode cX7_sever 2 = .ok (.iload_n 3, 1) := by decide +kernel
theorem dX7_sever_3 : decode cX7_sever 3 = .ok (.bipush 8, 2) := by decide +kernel
theorem dX7_sever_5 : decode cX7_sever 5 = .ok (.if_icmp .ge 22, 3) := by decide +kernel
theorem dX7_sever_8 : decode cX7_sever 8 = .ok (.aload_n 0, 1) := by decide +kernel
theorem dX7_sever_9 : decode cX7_sever 9 = .ok (.getfield 56, 3) := by decide +kernel
theorem dX7_sever_12 : decode cX7_sever 12 = .ok (.aload_n 0, 1) := by decide +kernel
theorem dX7_sever_13 : decode cX7_sever 13 = .ok (.iload_n 1, 1) := by decide +kernel
theorem dX7_sever_14 : decode cX7_sever 14 = .ok (.iload_n 3, 1) := by decide +kernel
theorem dX7_sever_15 : decode cX7_sever 15 = .ok (.iload_n 2, 1) := by decide +kernel
theorem dX7_sever_16 : decode cX7_sever 16 = .ok (.invokevirtual 145, 3) := by decide +kernel
theorem dX7_sever_19 : decode cX7_sever 19 = .ok (.iconst (-1), 1) := by decide +kernel
theorem dX7_sever_20 : decode cX7_sever 20 = .ok (.iastore, 1) := by decide +kernel
theorem dX7_sever_21 : decode cX7_sever 21 = .ok (.iinc 3 1, 3) := by decide +kernel
theorem dX7_sever_24 : decode cX7_sever 24 = .ok (.goto (-22), 3) := by decide +kernel
theorem dX7_sever_27 : decode cX7_sever 27 = .ok (.iconst 0, 1) := by decide +kernel
theorem dX7_sever_28 : decode cX7_sever 28 = .ok (.istore_n 3, 1) := by decide +kernel
theorem dX7_sever_29 : decode cX7_sever 29 = .ok (.iload_n 3, 1) := by decide +kernel
theorem dX7_sever_30 : decode cX7_sever 30 = .ok (.bipush 64, 2) := by decide +kernel
theorem dX7_sever_32 : decode cX7_sever 32 = .ok (.if_icmp .ge 34, 3) := by decide +kernel
theorem dX7_sever_35 : decode cX7_sever 35 = .ok (.aload_n 0, 1) := by decide +kernel
theorem dX7_sever_36 : decode cX7_sever 36 = .ok (.getfield 71, 3) := by decide +kernel
theorem dX7_sever_39 : decode cX7_sever 39 = .ok (.bipush 64, 2) := by decide +kernel
theorem dX7_sever_41 : decode cX7_sever 41 = .ok (.iload_n 1, 1) := by decide +kernel
theorem dX7_sever_42 : decode cX7_sever 42 = .ok (.imul, 1) := by decide +kernel
theorem dX7_sever_43 : decode cX7_sever 43 = .ok (.iload_n 3, 1) := by decide +kernel
theorem dX7_sever_44 : decode cX7_sever 44 = .ok (.iadd, 1) := by decide +kernel
theorem dX7_sever_45 : decode cX7_sever 45 = .ok (.dup2, 1) := by decide +kernel
theorem dX7_sever_46 : decode cX7_sever 46 = .ok (.iaload, 1) := by decide +kernel
theorem dX7_sever_47 : decode cX7_sever 47 = .ok (.iconst 1, 1) := by decide +kernel
theorem dX7_sever_48 : decode cX7_sever 48 = .ok (.iload_n 2, 1) := by decide +kernel
theorem dX7_sever_49 : decode cX7_sever 49 = .ok (.ishl, 1) := by decide +kernel
theorem dX7_sever_50 : decode cX7_sever 50 = .ok (.iconst (-1), 1) := by decide +kernel
theorem dX7_sever_51 : decode cX7_sever 51 = .ok (.ixor, 1) := by decide +kernel
theorem dX7_sever_52 : decode cX7_sever 52 = .ok (.iand, 1) := by decide +kernel
theorem dX7_sever_53 : decode cX7_sever 53 = .ok (.iastore, 1) := by decide +kernel
theorem dX7_sever_54 : decode cX7_sever 54 = .ok (.aload_n 0, 1) := by decide +kernel
theorem dX7_sever_55 : decode cX7_sever 55 = .ok (.iload_n 1, 1) := by decide +kernel
theorem dX7_sever_56 : decode cX7_sever 56 = .ok (.iload_n 3, 1) := by decide +kernel
theorem dX7_sever_57 : decode cX7_sever 57 = .ok (.invokevirtual 135, 3) := by decide +kernel
theorem dX7_sever_60 : decode cX7_sever 60 = .ok (.iinc 3 1, 3) := by decide +kernel
theorem dX7_sever_63 : decode cX7_sever 63 = .ok (.goto (-34), 3) := by decide +kernel
theorem dX7_sever_66 : decode cX7_sever 66 = .ok (.return_, 1) := by decide +kernel
theorem dX7_turn_0 : decode cX7_turn 0 = .ok (.iload_n 1, 1) := by decide +kernel
theorem dX7_turn_1 : decode cX7_turn 1 = .ok (.bipush 12, 2) := by decide +kernel
theorem dX7_turn_3 : decode cX7_turn 3 = .ok (.invokestatic 99, 3) := by decide +kernel
theorem dX7_turn_6 : decode cX7_turn 6 = .ok (.istore_n 3, 1) := by decide +kernel
theorem dX7_turn_7 : decode cX7_turn 7 = .ok (.aload_n 0, 1) := by decide +kernel
theorem dX7_turn_8 : decode cX7_turn 8 = .ok (.iload_n 3, 1) := by decide +kernel
theorem dX7_turn_9 : decode cX7_turn 9 = .ok (.iload_n 3, 1) := by decide +kernel
theorem dX7_turn_10 : decode cX7_turn 10 = .ok (.ifCond .eq 26, 3) := by decide +kernel
theorem dX7_turn_13 : decode cX7_turn 13 = .ok (.aload_n 0, 1) := by decide +kernel
theorem dX7_turn_14 : decode cX7_turn 14 = .ok (.getfield 7, 3) := by decide +kernel
theorem dX7_turn_17 : decode cX7_turn 17 = .ok (.iload_n 1, 1) := by decide +kernel
theorem dX7_turn_18 : decode cX7_turn 18 = .ok (.baload, 1) := by decide +kernel
theorem dX7_turn_19 : decode cX7_turn 19 = .ok (.ifCond .eq 17, 3) := by decide +kernel
theorem dX7_turn_22 : decode cX7_turn 22 = .ok (.aload_n 0, 1) := by decide +kernel
theorem dX7_turn_23 : decode cX7_turn 23 = .ok (.getfield 13, 3) := by decide +kernel
theorem dX7_turn_26 : decode cX7_turn 26 = .ok (.iload_n 1, 1) := by decide +kernel
theorem dX7_turn_27 : decode cX7_turn 27 = .ok (.baload, 1) := by decide +kernel
theorem dX7_turn_28 : decode cX7_turn 28 = .ok (.iload_n 2, 1) := by decide +kernel
theorem dX7_turn_29 : decode cX7_turn 29 = .ok (.if_icmp .eq 7, 3) := by decide +kernel
theorem dX7_turn_32 : decode cX7_turn 32 = .ok (.iconst 1, 1) := by decide +kernel
theorem dX7_turn_33 : decode cX7_turn 33 = .ok (.goto 4, 3) := by decide +kernel
theorem dX7_turn_36 : decode cX7_turn 36 = .ok (.iconst 0, 1) := by decide +kernel
theorem dX7_turn_37 : decode cX7_turn 37 = .ok (.invokevirtual 193, 3) := by decide +kernel
theorem dX7_turn_40 : decode cX7_turn 40 = .ok (.ifCond .ne 4, 3) := by decide +kernel
theorem dX7_turn_43 : decode cX7_turn 43 = .ok (.return_, 1) := by decide +kernel
theorem dX7_turn_44 : decode cX7_turn 44 = .ok (.aload_n 0, 1) := by decide +kernel
theorem dX7_turn_45 : decode cX7_turn 45 = .ok (.getfield 16, 3) := by decide +kernel
theorem dX7_turn_48 : decode cX7_turn 48 = .ok (.iload_n 1, 1) := by decide +kernel
theorem dX7_turn_49 : decode cX7_turn 49 = .ok (.iaload, 1) := by decide +kernel
theorem dX7_turn_50 : decode cX7_turn 50 = .ok (.istore 4, 2) := by decide +kernel
theorem dX7_turn_52 : decode cX7_turn 52 = .ok (.aload_n 0, 1) := by decide +kernel
theorem dX7_turn_53 : decode cX7_turn 53 = .ok (.getfield 20, 3) := by decide +kernel
theorem dX7_turn_56 : decode cX7_turn 56 = .ok (.iload_n 1, 1) := by decide +kernel
theorem dX7_turn_57 : decode cX7_turn 57 = .ok (.iaload, 1) := by decide +kernel
theorem dX7_turn_58 : decode cX7_turn 58 = .ok (.istore 5, 2) := by decide +kernel
theorem dX7_turn_60 : decode cX7_turn 60 = .ok (.aload_n 0, 1) := by decide +kernel
theorem dX7_turn_61 : decode cX7_turn 61 = .ok (.getfield 13, 3) := by decide +kernel
theorem dX7_turn_64 : decode cX7_turn 64 = .ok (.iload_n 1, 1) := by decide +kernel
theorem dX7_turn_65 : decode cX7_turn 65 = .ok (.iload_n 2, 1) := by decide +kernel
theorem dX7_turn_66 : decode cX7_turn 66 = .ok (.bastore, 1) := by decide +kernel
theorem dX7_turn_67 : decode cX7_turn 67 = .ok (.iload_n 2, 1) := by decide +kernel
theorem dX7_turn_68 : decode cX7_turn 68 = .ok (.ifCond .ne 19, 3) := by decide +kernel
theorem dX7_turn_71 : decode cX7_turn 71 = .ok (.aload_n 0, 1) := by decide +kernel
theorem dX7_turn_72 : decode cX7_turn 72 = .ok (.iconst 2, 1) := by decide +kernel
theorem dX7_turn_73 : decode cX7_turn 73 = .ok (.iload_n 1, 1) := by decide +kernel
theorem dX7_turn_74 : decode cX7_turn 74 = .ok (.imul, 1) := by decide +kernel
theorem dX7_turn_75 : decode cX7_turn 75 = .ok (.invokevirtual 197, 3) := by decide +kernel
theorem dX7_turn_78 : decode cX7_turn 78 = .ok (.aload_n 0, 1) := by decide +kernel
theorem dX7_turn_79 : decode cX7_turn 79 = .ok (.iconst 2, 1) := by decide +kernel
theorem dX7_turn_80 : decode cX7_turn 80 = .ok (.iload_n 1, 1) := by decide +kernel
theorem dX7_turn_81 : decode cX7_turn 81 = .ok (.imul, 1) := by decide +kernel
theorem dX7_turn_82 : decode cX7_turn 82 = .ok (.iconst 1, 1) := by decide +kernel
theorem dX7_turn_83 : decode cX7_turn 83 = .ok (.iadd, 1) := by decide +kernel
theorem dX7_turn_84 : decode cX7_turn 84 = .ok (.invokevirtual 197, 3) := by decide +kernel
theorem dX7_turn_87 : decode cX7_turn 87 = .ok (.aload_n 0, 1) := by decide +kernel
theorem dX7_turn_88 : decode cX7_turn 88 = .ok (.iload 4, 2) := by decide +kernel
theorem dX7_turn_90 : decode cX7_turn 90 = .ok (.invokevirtual 200, 3) := by decide +kernel
theorem dX7_turn_93 : decode cX7_turn 93 = .ok (.aload_n 0, 1) := by decide +kernel
theorem dX7_turn_94 : decode cX7_turn 94 = .ok (.iload 5, 2) := by decide +kernel
theorem dX7_turn_96 : decode cX7_turn 96 = .ok (.invokevirtual 200, 3) := by decide +kernel
theorem dX7_turn_99 : decode cX7_turn 99 = .ok (.iload_n 2, 1) := by decide +kernel
theorem dX7_turn_100 : decode cX7_turn 100 = .ok (.ifCond .eq 34, 3) := by decide +kernel
theorem dX7_turn_103 : decode cX7_turn 103 = .ok (.aload_n 0, 1) := by decide +kernel
theorem dX7_turn_104 : decode cX7_turn 104 = .ok (.iload 4, 2) := by decide +kernel
theorem dX7_turn_106 : decode cX7_turn 106 = .ok (.iload_n 1, 1) := by decide +kernel
theorem dX7_turn_107 : decode cX7_turn 107 = .ok (.invokevirtual 203, 3) := by decide +kernel
theorem dX7_turn_110 : decode cX7_turn 110 = .ok (.aload_n 0, 1) := by decide +kernel
theorem dX7_turn_111 : decode cX7_turn 111 = .ok (.iload 5, 2) := by decide +kernel
theorem dX7_turn_113 : decode cX7_turn 113 = .ok (.iload_n 1, 1) := by decide +kernel
theorem dX7_turn_114 : decode cX7_turn 114 = .ok (.invokevirtual 203, 3) := by decide +kernel
theorem dX7_turn_117 : decode cX7_turn 117 = .ok (.aload_n 0, 1) := by decide +kernel
theorem dX7_turn_118 : decode cX7_turn 118 = .ok (.iload 4, 2) := by decide +kernel
theorem dX7_turn_120 : decode cX7_turn 120 = .ok (.iload_n 1, 1) := by decide +kernel
theorem dX7_turn_121 : decode cX7_turn 121 = .ok (.invokevirtual 206, 3) := by decide +kernel
theorem dX7_turn_124 : decode cX7_turn 124 = .ok (.aload_n 0, 1) := by decide +kernel
theorem dX7_turn_125 : decode cX7_turn 125 = .ok (.iload 5, 2) := by decide +kernel
theorem dX7_turn_127 : decode cX7_turn 127 = .ok (.iload_n 1, 1) := by decide +kernel
theorem dX7_turn_128 : decode cX7_turn 128 = .ok (.invokevirtual 206, 3) := by decide +kernel
theorem dX7_turn_131 : decode cX7_turn 131 = .ok (.goto 17, 3) := by decide +kernel
theorem dX7_turn_134 : decode cX7_turn 134 = .ok (.aload_n 0, 1) := by decide +kernel
theorem dX7_turn_135 : decode cX7_turn 135 = .ok (.iload 4, 2) := by decide +kernel
theorem dX7_turn_137 : decode cX7_turn 137 = .ok (.iload_n 1, 1) := by decide +kernel
theorem dX7_turn_138 : decode cX7_turn 138 = .ok (.invokevirtual 209, 3) := by decide +kernel
theorem dX7_turn_141 : decode cX7_turn 141 = .ok (.aload_n 0, 1) := by decide +kernel
theorem dX7_turn_142 : decode cX7_turn 142 = .ok (.iload 5, 2) := by decide +kernel
theorem dX7_turn_144 : decode cX7_turn 144 = .ok (.iload_n 1, 1) := by decide +kernel
theorem dX7_turn_145 : decode cX7_turn 145 = .ok (.invokevirtual 209, 3) := by decide +kernel
theorem dX7_turn_148 : decode cX7_turn 148 = .ok (.aload_n 0, 1) := by decide +kernel
theorem dX7_turn_149 : decode cX7_turn 149 = .ok (.iload 4, 2) := by decide +kernel
theorem dX7_turn_151 : decode cX7_turn 151 = .ok (.invokevirtual 170, 3) := by decide +kernel
theorem dX7_turn_154 : decode cX7_turn 154 = .ok (.aload_n 0, 1) := by decide +kernel
theorem dX7_turn_155 : decode cX7_turn 155 = .ok (.iload 5, 2) := by decide +kernel
theorem dX7_turn_157 : decode cX7_turn 157 = .ok (.invokevirtual 170, 3) := by decide +kernel
theorem dX7_turn_160 : decode cX7_turn 160 = .ok (.return_, 1) := by decide +kernel
theorem dX7_attach_0 : decode cX7_attach 0 = .ok (.iload_n 1, 1) := by decide +kernel
theorem dX7_attach_1 : decode cX7_attach 1 = .ok (.bipush 8, 2) := by decide +kernel
theorem dX7_attach_3 : decode cX7_attach 3 = .ok (.invokestatic 99, 3) := by decide +kernel
theorem dX7_attach_6 : decode cX7_attach 6 = .ok (.ifCond .eq 20, 3) := by decide +kernel
theorem dX7_attach_9 : decode cX7_attach 9 = .ok (.iload_n 2, 1) := by decide +kernel
theorem dX7_attach_10 : decode cX7_attach 10 = .ok (.iconst (-1), 1) := by decide +kernel
theorem dX7_attach_11 : decode cX7_attach 11 = .ok (.if_icmp .eq 11, 3) := by decide +kernel
theorem dX7_attach_14 : decode cX7_attach 14 = .ok (.aload_n 0, 1) := by decide +kernel
theorem dX7_attach_15 : decode cX7_attach 15 = .ok (.iload_n 2, 1) := by decide +kernel
theorem dX7_attach_16 : decode cX7_attach 16 = .ok (.invokevirtual 189, 3) := by decide +kernel
theorem dX7_attach_19 : decode cX7_attach 19 = .ok (.ifCond .eq 7, 3) := by decide +kernel
theorem dX7_attach_22 : decode cX7_attach 22 = .ok (.iconst 1, 1) := by decide +kernel
theorem dX7_attach_23 : decode cX7_attach 23 = .ok (.goto 4, 3) := by decide +kernel
theorem dX7_attach_26 : decode cX7_attach 26 = .ok (.iconst 0, 1) := by decide +kernel
theorem dX7_attach_27 : decode cX7_attach 27 = .ok (.istore_n 3, 1) := by decide +kernel
theorem dX7_attach_28 : decode cX7_attach 28 = .ok (.aload_n 0, 1) := by decide +kernel
theorem dX7_attach_29 : decode cX7_attach 29 = .ok (.iload_n 3, 1) := by decide +kernel
theorem dX7_attach_30 : decode cX7_attach 30 = .ok (.iload_n 3, 1) := by decide +kernel
theorem dX7_attach_31 : decode cX7_attach 31 = .ok (.ifCond .eq 17, 3) := by decide +kernel
theorem dX7_attach_34 : decode cX7_attach 34 = .ok (.aload_n 0, 1) := by decide +kernel
theorem dX7_attach_35 : decode cX7_attach 35 = .ok (.getfield 26, 3) := by decide +kernel
theorem dX7_attach_38 : decode cX7_attach 38 = .ok (.iload_n 1, 1) := by decide +kernel
theorem dX7_attach_39 : decode cX7_attach 39 = .ok (.iaload, 1) := by decide +kernel
theorem dX7_attach_40 : decode cX7_attach 40 = .ok (.iload_n 2, 1) := by decide +kernel
theorem dX7_attach_41 : decode cX7_attach 41 = .ok (.if_icmp .eq 7, 3) := by decide +kernel
theorem dX7_attach_44 : decode cX7_attach 44 = .ok (.iconst 1, 1) := by decide +kernel
theorem dX7_attach_45 : decode cX7_attach 45 = .ok (.goto 4, 3) := by decide +kernel
theorem dX7_attach_48 : decode cX7_attach 48 = .ok (.iconst 0, 1) := by decide +kernel
theorem dX7_attach_49 : decode cX7_attach 49 = .ok (.invokevirtual 193, 3) := by decide +kernel
theorem dX7_attach_52 : decode cX7_attach 52 = .ok (.ifCond .ne 4, 3) := by decide +kernel
theorem dX7_attach_55 : decode cX7_attach 55 = .ok (.return_, 1) := by decide +kernel
theorem dX7_attach_56 : decode cX7_attach 56 = .ok (.aload_n 0, 1) := by decide +kernel
theorem dX7_attach_57 : decode cX7_attach 57 = .ok (.getfield 26, 3) := by decide +kernel
theorem dX7_attach_60 : decode cX7_attach 60 = .ok (.iload_n 1, 1) := by decide +kernel
theorem dX7_attach_61 : decode cX7_attach 61 = .ok (.iaload, 1) := by decide +kernel
theorem dX7_attach_62 : decode cX7_attach 62 = .ok (.istore 4, 2) := by decide +kernel
theorem dX7_attach_64 : decode cX7_attach 64 = .ok (.aload_n 0, 1) := by decide +kernel
theorem dX7_attach_65 : decode cX7_attach 65 = .ok (.getfield 26, 3) := by decide +kernel
theorem dX7_attach_68 : decode cX7_attach 68 = .ok (.iload_n 1, 1) := by decide +kernel
theorem dX7_attach_69 : decode cX7_attach 69 = .ok (.iload_n 2, 1) := by decide +kernel
theorem dX7_attach_70 : decode cX7_attach 70 = .ok (.iastore, 1) := by decide +kernel
theorem dX7_attach_71 : decode cX7_attach 71 = .ok (.iload 4, 2) := by decide +kernel
theorem dX7_attach_73 : decode cX7_attach 73 = .ok (.iconst (-1), 1) := by decide +kernel
theorem dX7_attach_74 : decode cX7_attach 74 = .ok (.if_icmp .eq 15, 3) := by decide +kernel
theorem dX7_attach_77 : decode cX7_attach 77 = .ok (.aload_n 0, 1) := by decide +kernel
theorem dX7_attach_78 : decode cX7_attach 78 = .ok (.iload 4, 2) := by decide +kernel
theorem dX7_attach_80 : decode cX7_attach 80 = .ok (.invokevirtual 200, 3) := by decide +kernel
theorem dX7_attach_83 : decode cX7_attach 83 = .ok (.aload_n 0, 1) := by decide +kernel
theorem dX7_attach_84 : decode cX7_attach 84 = .ok (.iload 4, 2) := by decide +kernel
theorem dX7_attach_86 : decode cX7_attach 86 = .ok (.invokevirtual 170, 3) := by decide +kernel
theorem dX7_attach_89 : decode cX7_attach 89 = .ok (.iload_n 2, 1) := by decide +kernel
theorem dX7_attach_90 : decode cX7_attach 90 = .ok (.iconst (-1), 1) := by decide +kernel
theorem dX7_attach_91 : decode cX7_attach 91 = .ok (.if_icmp .eq 13, 3) := by decide +kernel
theorem dX7_attach_94 : decode cX7_attach 94 = .ok (.aload_n 0, 1) := by decide +kernel
theorem dX7_attach_95 : decode cX7_attach 95 = .ok (.iload_n 2, 1) := by decide +kernel
theorem dX7_attach_96 : decode cX7_attach 96 = .ok (.invokevirtual 200, 3) := by decide +kernel
theorem dX7_attach_99 : decode cX7_attach 99 = .ok (.aload_n 0, 1) := by decide +kernel
theorem dX7_attach_100 : decode cX7_attach 100 = .ok (.iload_n 2, 1) := by decide +kernel
theorem dX7_attach_101 : decode cX7_attach 101 = .ok (.invokevirtual 170, 3) := by decide +kernel
theorem dX7_attach_104 : decode cX7_attach 104 = .ok (.return_, 1) := by decide +kernel
theorem dX7_isEnd_0 : decode cX7_isEnd 0 = .ok (.iload_n 0, 1) := by decide +kernel
theorem dX7_isEnd_1 : decode cX7_isEnd 1 = .ok (.bipush 12, 2) := by decide +kernel
theorem dX7_isEnd_3 : decode cX7_isEnd 3 = .ok (.invokestatic 99, 3) := by decide +kernel
theorem dX7_isEnd_6 : decode cX7_isEnd 6 = .ok (.ifCond .eq 15, 3) := by decide +kernel
theorem dX7_isEnd_9 : decode cX7_isEnd 9 = .ok (.iload_n 1, 1) := by decide +kernel
theorem dX7_isEnd_10 : decode cX7_isEnd 10 = .ok (.iconst 2, 1) := by decide +kernel
theorem dX7_isEnd_11 : decode cX7_isEnd 11 = .ok (.invokestatic 99, 3) := by decide +kernel
theorem dX7_isEnd_14 : decode cX7_isEnd 14 = .ok (.ifCond .eq 7, 3) := by decide +kernel
theorem dX7_isEnd_17 : decode cX7_isEnd 17 = .ok (.iconst 1, 1) := by decide +kernel
theorem dX7_isEnd_18 : decode cX7_isEnd 18 = .ok (.goto 4, 3) := by decide +kernel
theorem dX7_isEnd_21 : decode cX7_isEnd 21 = .ok (.iconst 0, 1) := by decide +kernel
theorem dX7_isEnd_22 : decode cX7_isEnd 22 = .ok (.ireturn, 1) := by decide +kernel
theorem dX7_deliver_0 : decode cX7_deliver 0 = .ok (.aload_n 0, 1) := by decide +kernel
theorem dX7_deliver_1 : decode cX7_deliver 1 = .ok (.iload_n 1, 1) := by decide +kernel
theorem dX7_deliver_2 : decode cX7_deliver 2 = .ok (.iload_n 2, 1) := by decide +kernel
theorem dX7_deliver_3 : decode cX7_deliver 3 = .ok (.invokestatic 212, 3) := by decide +kernel
theorem dX7_deliver_6 : decode cX7_deliver 6 = .ok (.iconst 1, 1) := by decide +kernel
theorem dX7_deliver_7 : decode cX7_deliver 7 = .ok (.invokevirtual 193, 3) := by decide +kernel
theorem dX7_deliver_10 : decode cX7_deliver 10 = .ok (.ifCond .ne 5, 3) := by decide +kernel
theorem dX7_deliver_13 : decode cX7_deliver 13 = .ok (.iconst 0, 1) := by decide +kernel
theorem dX7_deliver_14 : decode cX7_deliver 14 = .ok (.ireturn, 1) := by decide +kernel
theorem dX7_deliver_15 : decode cX7_deliver 15 = .ok (.aload_n 0, 1) := by decide +kernel
theorem dX7_deliver_16 : decode cX7_deliver 16 = .ok (.getfield 38, 3) := by decide +kernel
theorem dX7_deliver_19 : decode cX7_deliver 19 = .ok (.iconst 2, 1) := by decide +kernel
theorem dX7_deliver_20 : decode cX7_deliver 20 = .ok (.iload_n 1, 1) := by decide +kernel
theorem dX7_deliver_21 : decode cX7_deliver 21 = .ok (.imul, 1) := by decide +kernel
theorem dX7_deliver_22 : decode cX7_deliver 22 = .ok (.iload_n 2, 1) := by decide +kernel
theorem dX7_deliver_23 : decode cX7_deliver 23 = .ok (.iadd, 1) := by decide +kernel
theorem dX7_deliver_24 : decode cX7_deliver 24 = .ok (.iaload, 1) := by decide +kernel
theorem dX7_deliver_25 : decode cX7_deliver 25 = .ok (.ifCond .ne 7, 3) := by decide +kernel
theorem dX7_deliver_28 : decode cX7_deliver 28 = .ok (.iconst (-1), 1) := by decide +kernel
theorem dX7_deliver_29 : decode cX7_deliver 29 = .ok (.goto 12, 3) := by decide +kernel
theorem dX7_deliver_32 : decode cX7_deliver 32 = .ok (.aload_n 0, 1) := by decide +kernel
theorem dX7_deliver_33 : decode cX7_deliver 33 = .ok (.iconst 2, 1) := by decide +kernel
theorem dX7_deliver_34 : decode cX7_deliver 34 = .ok (.iload_n 1, 1) := by decide +kernel
theorem dX7_deliver_35 : decode cX7_deliver 35 = .ok (.imul, 1) := by decide +kernel
theorem dX7_deliver_36 : decode cX7_deliver 36 = .ok (.iload_n 2, 1) := by decide +kernel
theorem dX7_deliver_37 : decode cX7_deliver 37 = .ok (.iadd, 1) := by decide +kernel
theorem dX7_deliver_38 : decode cX7_deliver 38 = .ok (.invokevirtual 215, 3) := by decide +kernel
theorem dX7_deliver_41 : decode cX7_deliver 41 = .ok (.ireturn, 1) := by decide +kernel
theorem dX7_run_0 : decode cX7_run 0 = .ok (.aload_n 0, 1) := by decide +kernel
theorem dX7_run_1 : decode cX7_run 1 = .ok (.iload_n 1, 1) := by decide +kernel
theorem dX7_run_2 : decode cX7_run 2 = .ok (.sipush 501, 3) := by decide +kernel
theorem dX7_run_5 : decode cX7_run 5 = .ok (.invokestatic 99, 3) := by decide +kernel
theorem dX7_run_8 : decode cX7_run 8 = .ok (.iconst 1, 1) := by decide +kernel
theorem dX7_run_9 : decode cX7_run 9 = .ok (.invokevirtual 193, 3) := by decide +kernel
theorem dX7_run_12 : decode cX7_run 12 = .ok (.ifCond .ne 5, 3) := by decide +kernel
theorem dX7_run_15 : decode cX7_run 15 = .ok (.iconst 0, 1) := by decide +kernel
theorem dX7_run_16 : decode cX7_run 16 = .ok (.ireturn, 1) := by decide +kernel
theorem dX7_run_17 : decode cX7_run 17 = .ok (.iconst 0, 1) := by decide +kernel
theorem dX7_run_18 : decode cX7_run 18 = .ok (.istore_n 2, 1) := by decide +kernel
theorem dX7_run_19 : decode cX7_run 19 = .ok (.iconst 1, 1) := by decide +kernel
theorem dX7_run_20 : decode cX7_run 20 = .ok (.istore_n 3, 1) := by decide +kernel
theorem dX7_run_21 : decode cX7_run 21 = .ok (.iload_n 2, 1) := by decide +kernel
theorem dX7_run_22 : decode cX7_run 22 = .ok (.iload_n 1, 1) := by decide +kernel
theorem dX7_run_23 : decode cX7_run 23 = .ok (.if_icmp .ge 64, 3) := by decide +kernel
theorem dX7_run_26 : decode cX7_run 26 = .ok (.iload_n 3, 1) := by decide +kernel
theorem dX7_run_27 : decode cX7_run 27 = .ok (.ifCond .eq 60, 3) := by decide +kernel
theorem dX7_run_30 : decode cX7_run 30 = .ok (.iconst 0, 1) := by decide +kernel
theorem dX7_run_31 : decode cX7_run 31 = .ok (.istore 4, 2) := by decide +kernel
theorem dX7_run_33 : decode cX7_run 33 = .ok (.iload 4, 2) := by decide +kernel
theorem dX7_run_35 : decode cX7_run 35 = .ok (.bipush 24, 2) := by decide +kernel
theorem dX7_run_37 : decode cX7_run 37 = .ok (.if_icmp .ge 19, 3) := by decide +kernel
theorem dX7_run_40 : decode cX7_run 40 = .ok (.aload_n 0, 1) := by decide +kernel
theorem dX7_run_41 : decode cX7_run 41 = .ok (.getfield 38, 3) := by decide +kernel
theorem dX7_run_44 : decode cX7_run 44 = .ok (.iload 4, 2) := by decide +kernel
theorem dX7_run_46 : decode cX7_run 46 = .ok (.iaload, 1) := by decide +kernel
theorem dX7_run_47 : decode cX7_run 47 = .ok (.ifCond .ne 9, 3) := by decide +kernel
theorem dX7_run_50 : decode cX7_run 50 = .ok (.iinc 4 1, 3) := by decide +kernel
theorem dX7_run_53 : decode cX7_run 53 = .ok (.goto (-20), 3) := by decide +kernel
theorem dX7_run_56 : decode cX7_run 56 = .ok (.iload 4, 2) := by decide +kernel
theorem dX7_run_58 : decode cX7_run 58 = .ok (.bipush 24, 2) := by decide +kernel
theorem dX7_run_60 : decode cX7_run 60 = .ok (.if_icmp .ge 7, 3) := by decide +kernel
theorem dX7_run_63 : decode cX7_run 63 = .ok (.iconst 1, 1) := by decide +kernel
theorem dX7_run_64 : decode cX7_run 64 = .ok (.goto 4, 3) := by decide +kernel
theorem dX7_run_67 : decode cX7_run 67 = .ok (.iconst 0, 1) := by decide +kernel
theorem dX7_run_68 : decode cX7_run 68 = .ok (.istore_n 3, 1) := by decide +kernel
theorem dX7_run_69 : decode cX7_run 69 = .ok (.iload_n 3, 1) := by decide +kernel
theorem dX7_run_70 : decode cX7_run 70 = .ok (.ifCond .eq 14, 3) := by decide +kernel
theorem dX7_run_73 : decode cX7_run 73 = .ok (.aload_n 0, 1) := by decide +kernel
theorem dX7_run_74 : decode cX7_run 74 = .ok (.iload 4, 2) := by decide +kernel
theorem dX7_run_76 : decode cX7_run 76 = .ok (.invokevirtual 215, 3) := by decide +kernel
theorem dX7_run_79 : decode cX7_run 79 = .ok (.istore 5, 2) := by decide +kernel
theorem dX7_run_81 : decode cX7_run 81 = .ok (.iinc 2 1, 3) := by decide +kernel
theorem dX7_run_84 : decode cX7_run 84 = .ok (.goto (-63), 3) := by decide +kernel
theorem dX7_run_87 : decode cX7_run 87 = .ok (.iload_n 2, 1) := by decide +kernel
theorem dX7_run_88 : decode cX7_run 88 = .ok (.ireturn, 1) := by decide +kernel
theorem dX7_spoil_0 : decode cX7_spoil 0 = .ok (.aload_n 0, 1) := by decide +kernel
theorem dX7_spoil_1 : decode cX7_spoil 1 = .ok (.iload_n 1, 1) := by decide +kernel
theorem dX7_spoil_2 : decode cX7_spoil 2 = .ok (.iload_n 2, 1) := by decide +kernel
theorem dX7_spoil_3 : decode cX7_spoil 3 = .ok (.invokestatic 212, 3) := by decide +kernel
theorem dX7_spoil_6 : decode cX7_spoil 6 = .ok (.iconst 1, 1) := by decide +kernel
theorem dX7_spoil_7 : decode cX7_spoil 7 = .ok (.invokevirtual 193, 3) := by decide +kernel
theorem dX7_spoil_10 : decode cX7_spoil 10 = .ok (.ifCond .ne 5, 3) := by decide +kernel
theorem dX7_spoil_13 : decode cX7_spoil 13 = .ok (.iconst 0, 1) := by decide +kernel
theorem dX7_spoil_14 : decode cX7_spoil 14 = .ok (.ireturn, 1) := by decide +kernel
theorem dX7_spoil_15 : decode cX7_spoil 15 = .ok (.iconst 2, 1) := by decide +kernel
theorem dX7_spoil_16 : decode cX7_spoil 16 = .ok (.iload_n 1, 1) := by decide +kernel
theorem dX7_spoil_17 : decode cX7_spoil 17 = .ok (.imul, 1) := by decide +kernel
theorem dX7_spoil_18 : decode cX7_spoil 18 = .ok (.iload_n 2, 1) := by decide +kernel
theorem dX7_spoil_19 : decode cX7_spoil 19 = .ok (.iadd, 1) := by decide +kernel
theorem dX7_spoil_20 : decode cX7_spoil 20 = .ok (.istore 4, 2) := by decide +kernel
theorem dX7_spoil_22 : decode cX7_spoil 22 = .ok (.iload_n 3, 1) := by decide +kernel
theorem dX7_spoil_23 : decode cX7_spoil 23 = .ok (.aload_n 0, 1) := by decide +kernel
theorem dX7_spoil_24 : decode cX7_spoil 24 = .ok (.getfield 38, 3) := by decide +kernel
theorem dX7_spoil_27 : decode cX7_spoil 27 = .ok (.iload 4, 2) := by decide +kernel
theorem dX7_spoil_29 : decode cX7_spoil 29 = .ok (.iaload, 1) := by decide +kernel
theorem dX7_spoil_30 : decode cX7_spoil 30 = .ok (.invokestatic 99, 3) := by decide +kernel
theorem dX7_spoil_33 : decode cX7_spoil 33 = .ok (.ifCond .ne 5, 3) := by decide +kernel
theorem dX7_spoil_36 : decode cX7_spoil 36 = .ok (.iconst 0, 1) := by decide +kernel
theorem dX7_spoil_37 : decode cX7_spoil 37 = .ok (.ireturn, 1) := by decide +kernel
theorem dX7_spoil_38 : decode cX7_spoil 38 = .ok (.aload_n 0, 1) := by decide +kernel
theorem dX7_spoil_39 : decode cX7_spoil 39 = .ok (.getfield 53, 3) := by decide +kernel
theorem dX7_spoil_42 : decode cX7_spoil 42 = .ok (.bipush 16, 2) := by decide +kernel
theorem dX7_spoil_44 : decode cX7_spoil 44 = .ok (.iload 4, 2) := by decide +kernel
theorem dX7_spoil_46 : decode cX7_spoil 46 = .ok (.imul, 1) := by decide +kernel
theorem dX7_spoil_47 : decode cX7_spoil 47 = .ok (.iload_n 3, 1) := by decide +kernel
theorem dX7_spoil_48 : decode cX7_spoil 48 = .ok (.iadd, 1) := by decide +kernel
theorem dX7_spoil_49 : decode cX7_spoil 49 = .ok (.iconst 1, 1) := by decide +kernel
theorem dX7_spoil_50 : decode cX7_spoil 50 = .ok (.bastore, 1) := by decide +kernel
theorem dX7_spoil_51 : decode cX7_spoil 51 = .ok (.iconst 1, 1) := by decide +kernel
theorem dX7_spoil_52 : decode cX7_spoil 52 = .ok (.ireturn, 1) := by decide +kernel
theorem dX7_inject_0 : decode cX7_inject 0 = .ok (.aload_n 0, 1) := by decide +kernel
theorem dX7_inject_1 : decode cX7_inject 1 = .ok (.aload_n 0, 1) := by decide +kernel
theorem dX7_inject_2 : decode cX7_inject 2 = .ok (.iload_n 1, 1) := by decide +kernel
theorem dX7_inject_3 : decode cX7_inject 3 = .ok (.invokevirtual 189, 3) := by decide +kernel
theorem dX7_inject_6 : decode cX7_inject 6 = .ok (.ifCond .eq 16, 3) := by decide +kernel
theorem dX7_inject_9 : decode cX7_inject 9 = .ok (.iload_n 2, 1) := by decide +kernel
theorem dX7_inject_10 : decode cX7_inject 10 = .ok (.bipush 8, 2) := by decide +kernel
theorem dX7_inject_12 : decode cX7_inject 12 = .ok (.invokestatic 99, 3) := by decide +kernel
theorem dX7_inject_15 : decode cX7_inject 15 = .ok (.ifCond .eq 7, 3) := by decide +kernel
theorem dX7_inject_18 : decode cX7_inject 18 = .ok (.iconst 1, 1) := by decide +kernel
theorem dX7_inject_19 : decode cX7_inject 19 = .ok (.goto 4, 3) := by decide +kernel
theorem dX7_inject_22 : decode cX7_inject 22 = .ok (.iconst 0, 1) := by decide +kernel
theorem dX7_inject_23 : decode cX7_inject 23 = .ok (.iload_n 3, 1) := by decide +kernel
theorem dX7_inject_24 : decode cX7_inject 24 = .ok (.bipush 61, 2) := by decide +kernel
theorem dX7_inject_26 : decode cX7_inject 26 = .ok (.invokestatic 99, 3) := by decide +kernel
theorem dX7_inject_29 : decode cX7_inject 29 = .ok (.ifCond .eq 16, 3) := by decide +kernel
theorem dX7_inject_32 : decode cX7_inject 32 = .ok (.aload_n 0, 1) := by decide +kernel
theorem dX7_inject_33 : decode cX7_inject 33 = .ok (.getfield 218, 3) := by decide +kernel
theorem dX7_inject_36 : decode cX7_inject 36 = .ok (.bipush 64, 2) := by decide +kernel
theorem dX7_inject_38 : decode cX7_inject 38 = .ok (.if_icmp .ge 7, 3) := by decide +kernel
theorem dX7_inject_41 : decode cX7_inject 41 = .ok (.iconst 1, 1) := by decide +kernel
theorem dX7_inject_42 : decode cX7_inject 42 = .ok (.goto 4, 3) := by decide +kernel
theorem dX7_inject_45 : decode cX7_inject 45 = .ok (.iconst 0, 1) := by decide +kernel
theorem dX7_inject_46 : decode cX7_inject 46 = .ok (.invokevirtual 193, 3) := by decide +kernel
theorem dX7_inject_49 : decode cX7_inject 49 = .ok (.ifCond .ne 5, 3) := by decide +kernel
theorem dX7_inject_52 : decode cX7_inject 52 = .ok (.iconst 0, 1) := by decide +kernel
theorem dX7_inject_53 : decode cX7_inject 53 = .ok (.ireturn, 1) := by decide +kernel
theorem dX7_inject_54 : decode cX7_inject 54 = .ok (.aload_n 0, 1) := by decide +kernel
theorem dX7_inject_55 : decode cX7_inject 55 = .ok (.getfield 218, 3) := by decide +kernel
theorem dX7_inject_58 : decode cX7_inject 58 = .ok (.istore 4, 2) := by decide +kernel
theorem dX7_inject_60 : decode cX7_inject 60 = .ok (.aload_n 0, 1) := by decide +kernel
theorem dX7_inject_61 : decode cX7_inject 61 = .ok (.dup, 1) := by decide +kernel
theorem dX7_inject_62 : decode cX7_inject 62 = .ok (.getfield 218, 3) := by decide +kernel
theorem dX7_inject_65 : decode cX7_inject 65 = .ok (.iconst 1, 1) := by decide +kernel
theorem dX7_inject_66 : decode cX7_inject 66 = .ok (.iadd, 1) := by decide +kernel
theorem dX7_inject_67 : decode cX7_inject 67 = .ok (.putfield 218, 3) := by decide +kernel
theorem dX7_inject_70 : decode cX7_inject 70 = .ok (.aload_n 0, 1) := by decide +kernel
theorem dX7_inject_71 : decode cX7_inject 71 = .ok (.getfield 74, 3) := by decide +kernel
theorem dX7_inject_74 : decode cX7_inject 74 = .ok (.iload 4, 2) := by decide +kernel
theorem dX7_inject_76 : decode cX7_inject 76 = .ok (.iload_n 2, 1) := by decide +kernel
theorem dX7_inject_77 : decode cX7_inject 77 = .ok (.iastore, 1) := by decide +kernel
theorem dX7_inject_78 : decode cX7_inject 78 = .ok (.aload_n 0, 1) := by decide +kernel
theorem dX7_inject_79 : decode cX7_inject 79 = .ok (.getfield 77, 3) := by decide +kernel
theorem dX7_inject_82 : decode cX7_inject 82 = .ok (.iload 4, 2) := by decide +kernel
theorem dX7_inject_84 : decode cX7_inject 84 = .ok (.iload_n 3, 1) := by decide +kernel
theorem dX7_inject_85 : decode cX7_inject 85 = .ok (.iastore, 1) := by decide +kernel
theorem dX7_inject_86 : decode cX7_inject 86 = .ok (.aload_n 0, 1) := by decide +kernel
theorem dX7_inject_87 : decode cX7_inject 87 = .ok (.getfield 86, 3) := by decide +kernel
theorem dX7_inject_90 : decode cX7_inject 90 = .ok (.iload 4, 2) := by decide +kernel
theorem dX7_inject_92 : decode cX7_inject 92 = .ok (.iconst (-1), 1) := by decide +kernel
theorem dX7_inject_93 : decode cX7_inject 93 = .ok (.iastore, 1) := by decide +kernel
theorem dX7_inject_94 : decode cX7_inject 94 = .ok (.aload_n 0, 1) := by decide +kernel
theorem dX7_inject_95 : decode cX7_inject 95 = .ok (.iload 4, 2) := by decide +kernel
theorem dX7_inject_97 : decode cX7_inject 97 = .ok (.iload_n 1, 1) := by decide +kernel
theorem dX7_inject_98 : decode cX7_inject 98 = .ok (.iconst (-1), 1) := by decide +kernel
theorem dX7_inject_99 : decode cX7_inject 99 = .ok (.invokevirtual 186, 3) := by decide +kernel
theorem dX7_inject_102 : decode cX7_inject 102 = .ok (.iload 4, 2) := by decide +kernel
theorem dX7_inject_104 : decode cX7_inject 104 = .ok (.ireturn, 1) := by decide +kernel
theorem dX7_packet_0 : decode cX7_packet 0 = .ok (.aload_n 0, 1) := by decide +kernel
theorem dX7_packet_1 : decode cX7_packet 1 = .ok (.iconst 0, 1) := by decide +kernel
theorem dX7_packet_2 : decode cX7_packet 2 = .ok (.putfield 96, 3) := by decide +kernel
theorem dX7_packet_5 : decode cX7_packet 5 = .ok (.iload_n 1, 1) := by decide +kernel
theorem dX7_packet_6 : decode cX7_packet 6 = .ok (.aload_n 0, 1) := by decide +kernel
theorem dX7_packet_7 : decode cX7_packet 7 = .ok (.getfield 218, 3) := by decide +kernel
theorem dX7_packet_10 : decode cX7_packet 10 = .ok (.invokestatic 99, 3) := by decide +kernel
theorem dX7_packet_13 : decode cX7_packet 13 = .ok (.ifCond .ne 5, 3) := by decide +kernel
theorem dX7_packet_16 : decode cX7_packet 16 = .ok (.iconst (-1), 1) := by decide +kernel
theorem dX7_packet_17 : decode cX7_packet 17 = .ok (.ireturn, 1) := by decide +kernel
theorem dX7_packet_18 : decode cX7_packet 18 = .ok (.iload_n 2, 1) := by decide +kernel
theorem dX7_packet_19 : decode cX7_packet 19 = .ok (.tableswitch 68 0 4 #[33, 40, 47, 54, 61], 33) := by decide +kernel
theorem dX7_packet_52 : decode cX7_packet 52 = .ok (.aload_n 0, 1) := by decide +kernel
theorem dX7_packet_53 : decode cX7_packet 53 = .ok (.getfield 83, 3) := by decide +kernel
theorem dX7_packet_56 : decode cX7_packet 56 = .ok (.iload_n 1, 1) := by decide +kernel
theorem dX7_packet_57 : decode cX7_packet 57 = .ok (.iaload, 1) := by decide +kernel
theorem dX7_packet_58 : decode cX7_packet 58 = .ok (.ireturn, 1) := by decide +kernel
theorem dX7_packet_59 : decode cX7_packet 59 = .ok (.aload_n 0, 1) := by decide +kernel
theorem dX7_packet_60 : decode cX7_packet 60 = .ok (.getfield 80, 3) := by decide +kernel
theorem dX7_packet_63 : decode cX7_packet 63 = .ok (.iload_n 1, 1) := by decide +kernel
theorem dX7_packet_64 : decode cX7_packet 64 = .ok (.iaload, 1) := by decide +kernel
theorem dX7_packet_65 : decode cX7_packet 65 = .ok (.ireturn, 1) := by decide +kernel
theorem dX7_packet_66 : decode cX7_packet 66 = .ok (.aload_n 0, 1) := by decide +kernel
theorem dX7_packet_67 : decode cX7_packet 67 = .ok (.getfield 77, 3) := by decide +kernel
theorem dX7_packet_70 : decode cX7_packet 70 = .ok (.iload_n 1, 1) := by decide +kernel
theorem dX7_packet_71 : decode cX7_packet 71 = .ok (.iaload, 1) := by decide +kernel
theorem dX7_packet_72 : decode cX7_packet 72 = .ok (.ireturn, 1) := by decide +kernel
theorem dX7_packet_73 : decode cX7_packet 73 = .ok (.aload_n 0, 1) := by decide +kernel
theorem dX7_packet_74 : decode cX7_packet 74 = .ok (.getfield 86, 3) := by decide +kernel
theorem dX7_packet_77 : decode cX7_packet 77 = .ok (.iload_n 1, 1) := by decide +kernel
theorem dX7_packet_78 : decode cX7_packet 78 = .ok (.iaload, 1) := by decide +kernel
theorem dX7_packet_79 : decode cX7_packet 79 = .ok (.ireturn, 1) := by decide +kernel
theorem dX7_packet_80 : decode cX7_packet 80 = .ok (.aload_n 0, 1) := by decide +kernel
theorem dX7_packet_81 : decode cX7_packet 81 = .ok (.getfield 74, 3) := by decide +kernel
theorem dX7_packet_84 : decode cX7_packet 84 = .ok (.iload_n 1, 1) := by decide +kernel
theorem dX7_packet_85 : decode cX7_packet 85 = .ok (.iaload, 1) := by decide +kernel
theorem dX7_packet_86 : decode cX7_packet 86 = .ok (.ireturn, 1) := by decide +kernel
theorem dX7_packet_87 : decode cX7_packet 87 = .ok (.iconst (-1), 1) := by decide +kernel
theorem dX7_packet_88 : decode cX7_packet 88 = .ok (.ireturn, 1) := by decide +kernel
theorem dX7_queue_0 : decode cX7_queue 0 = .ok (.aload_n 0, 1) := by decide +kernel
theorem dX7_queue_1 : decode cX7_queue 1 = .ok (.iconst 0, 1) := by decide +kernel
theorem dX7_queue_2 : decode cX7_queue 2 = .ok (.putfield 96, 3) := by decide +kernel
theorem dX7_queue_5 : decode cX7_queue 5 = .ok (.iload_n 1, 1) := by decide +kernel
theorem dX7_queue_6 : decode cX7_queue 6 = .ok (.iload_n 2, 1) := by decide +kernel
theorem dX7_queue_7 : decode cX7_queue 7 = .ok (.invokestatic 212, 3) := by decide +kernel
theorem dX7_queue_10 : decode cX7_queue 10 = .ok (.ifCond .eq 12, 3) := by decide +kernel
theorem dX7_queue_13 : decode cX7_queue 13 = .ok (.aload_n 0, 1) := by decide +kernel
theorem dX7_queue_14 : decode cX7_queue 14 = .ok (.getfield 7, 3) := by decide +kernel
theorem dX7_queue_17 : decode cX7_queue 17 = .ok (.iload_n 1, 1) := by decide +kernel
theorem dX7_queue_18 : decode cX7_queue 18 = .ok (.baload, 1) := by decide +kernel
theorem dX7_queue_19 : decode cX7_queue 19 = .ok (.ifCond .ne 5, 3) := by decide +kernel
theorem dX7_queue_22 : decode cX7_queue 22 = .ok (.iconst (-1), 1) := by decide +kernel
theorem dX7_queue_23 : decode cX7_queue 23 = .ok (.ireturn, 1) := by decide +kernel
theorem dX7_queue_24 : decode cX7_queue 24 = .ok (.iconst 2, 1) := by decide +kernel
theorem dX7_queue_25 : decode cX7_queue 25 = .ok (.iload_n 1, 1) := by decide +kernel
theorem dX7_queue_26 : decode cX7_queue 26 = .ok (.imul, 1) := by decide +kernel
theorem dX7_queue_27 : decode cX7_queue 27 = .ok (.iload_n 2, 1) := by decide +kernel
theorem dX7_queue_28 : decode cX7_queue 28 = .ok (.iadd, 1) := by decide +kernel
theorem dX7_queue_29 : decode cX7_queue 29 = .ok (.istore 4, 2) := by decide +kernel
theorem dX7_queue_31 : decode cX7_queue 31 = .ok (.bipush 16, 2) := by decide +kernel
theorem dX7_queue_33 : decode cX7_queue 33 = .ok (.iload 4, 2) := by decide +kernel
theorem dX7_queue_35 : decode cX7_queue 35 = .ok (.imul, 1) := by decide +kernel
theorem dX7_queue_36 : decode cX7_queue 36 = .ok (.istore 5, 2) := by decide +kernel
theorem dX7_queue_38 : decode cX7_queue 38 = .ok (.iload_n 3, 1) := by decide +kernel
theorem dX7_queue_39 : decode cX7_queue 39 = .ok (.ifCond .ne 11, 3) := by decide +kernel
theorem dX7_queue_42 : decode cX7_queue 42 = .ok (.aload_n 0, 1) := by decide +kernel
theorem dX7_queue_43 : decode cX7_queue 43 = .ok (.getfield 38, 3) := by decide +kernel
theorem dX7_queue_46 : decode cX7_queue 46 = .ok (.iload 4, 2) := by decide +kernel
theorem dX7_queue_48 : decode cX7_queue 48 = .ok (.iaload, 1) := by decide +kernel
theorem dX7_queue_49 : decode cX7_queue 49 = .ok (.ireturn, 1) := by decide +kernel
theorem dX7_queue_50 : decode cX7_queue 50 = .ok (.aload_n 0, 1) := by decide +kernel
theorem dX7_queue_51 : decode cX7_queue 51 = .ok (.getfield 38, 3) := by decide +kernel
theorem dX7_queue_54 : decode cX7_queue 54 = .ok (.iload 4, 2) := by decide +kernel
theorem dX7_queue_56 : decode cX7_queue 56 = .ok (.iaload, 1) := by decide +kernel
theorem dX7_queue_57 : decode cX7_queue 57 = .ok (.ifCond .ne 5, 3) := by decide +kernel
theorem dX7_queue_60 : decode cX7_queue 60 = .ok (.iconst (-1), 1) := by decide +kernel
theorem dX7_queue_61 : decode cX7_queue 61 = .ok (.ireturn, 1) := by decide +kernel
theorem dX7_queue_62 : decode cX7_queue 62 = .ok (.iload_n 3, 1) := by decide +kernel
theorem dX7_queue_63 : decode cX7_queue 63 = .ok (.tableswitch 99 1 4 #[29, 60, 68, 76], 29) := by decide +kernel
theorem dX7_queue_92 : decode cX7_queue 92 = .ok (.aload_n 0, 1) := by decide +kernel
theorem dX7_queue_93 : decode cX7_queue 93 = .ok (.getfield 53, 3) := by decide +kernel
theorem dX7_queue_96 : decode cX7_queue 96 = .ok (.iload 5, 2) := by decide +kernel
theorem dX7_queue_98 : decode cX7_queue 98 = .ok (.baload, 1) := by decide +kernel
theorem dX7_queue_99 : decode cX7_queue 99 = .ok (.ifCond .eq 16, 3) := by decide +kernel
theorem dX7_queue_102 : decode cX7_queue 102 = .ok (.aload_n 0, 1) := by decide +kernel
theorem dX7_queue_103 : decode cX7_queue 103 = .ok (.getfield 41, 3) := by decide +kernel
theorem dX7_queue_106 : decode cX7_queue 106 = .ok (.iload 5, 2) := by decide +kernel
theorem dX7_queue_108 : decode cX7_queue 108 = .ok (.iaload, 1) := by decide +kernel
theorem dX7_queue_109 : decode cX7_queue 109 = .ok (.bipush 8, 2) := by decide +kernel
theorem dX7_queue_111 : decode cX7_queue 111 = .ok (.iadd, 1) := by decide +kernel
theorem dX7_queue_112 : decode cX7_queue 112 = .ok (.goto 10, 3) := by decide +kernel
theorem dX7_queue_115 : decode cX7_queue 115 = .ok (.aload_n 0, 1) := by decide +kernel
theorem dX7_queue_116 : decode cX7_queue 116 = .ok (.getfield 41, 3) := by decide +kernel
theorem dX7_queue_119 : decode cX7_queue 119 = .ok (.iload 5, 2) := by decide +kernel
theorem dX7_queue_121 : decode cX7_queue 121 = .ok (.iaload, 1) := by decide +kernel
theorem dX7_queue_122 : decode cX7_queue 122 = .ok (.ireturn, 1) := by decide +kernel
theorem dX7_queue_123 : decode cX7_queue 123 = .ok (.aload_n 0, 1) := by decide +kernel
theorem dX7_queue_124 : decode cX7_queue 124 = .ok (.getfield 44, 3) := by decide +kernel
theorem dX7_queue_127 : decode cX7_queue 127 = .ok (.iload 5, 2) := by decide +kernel
theorem dX7_queue_129 : decode cX7_queue 129 = .ok (.iaload, 1) := by decide +kernel
theorem dX7_queue_130 : decode cX7_queue 130 = .ok (.ireturn, 1) := by decide +kernel
theorem dX7_queue_131 : decode cX7_queue 131 = .ok (.aload_n 0, 1) := by decide +kernel
theorem dX7_queue_132 : decode cX7_queue 132 = .ok (.getfield 47, 3) := by decide +kernel
theorem dX7_queue_135 : decode cX7_queue 135 = .ok (.iload 5, 2) := by decide +kernel
theorem dX7_queue_137 : decode cX7_queue 137 = .ok (.iaload, 1) := by decide +kernel
theorem dX7_queue_138 : decode cX7_queue 138 = .ok (.ireturn, 1) := by decide +kernel
theorem dX7_queue_139 : decode cX7_queue 139 = .ok (.aload_n 0, 1) := by decide +kernel
theorem dX7_queue_140 : decode cX7_queue 140 = .ok (.getfield 41, 3) := by decide +kernel
theorem dX7_queue_143 : decode cX7_queue 143 = .ok (.iload 5, 2) := by decide +kernel
theorem dX7_queue_145 : decode cX7_queue 145 = .ok (.iaload, 1) := by decide +kernel
theorem dX7_queue_146 : decode cX7_queue 146 = .ok (.iconst 1, 1) := by decide +kernel
theorem dX7_queue_147 : decode cX7_queue 147 = .ok (.if_icmp .ne 13, 3) := by decide +kernel
theorem dX7_queue_150 : decode cX7_queue 150 = .ok (.aload_n 0, 1) := by decide +kernel
theorem dX7_queue_151 : decode cX7_queue 151 = .ok (.getfield 50, 3) := by decide +kernel
theorem dX7_queue_154 : decode cX7_queue 154 = .ok (.iload 5, 2) := by decide +kernel
theorem dX7_queue_156 : decode cX7_queue 156 = .ok (.iaload, 1) := by decide +kernel
theorem dX7_queue_157 : decode cX7_queue 157 = .ok (.goto 4, 3) := by decide +kernel
theorem dX7_queue_160 : decode cX7_queue 160 = .ok (.iconst 0, 1) := by decide +kernel
theorem dX7_queue_161 : decode cX7_queue 161 = .ok (.ireturn, 1) := by decide +kernel
theorem dX7_queue_162 : decode cX7_queue 162 = .ok (.iconst (-1), 1) := by decide +kernel
theorem dX7_queue_163 : decode cX7_queue 163 = .ok (.ireturn, 1) := by decide +kernel
theorem dX7_knows_0 : decode cX7_knows 0 = .ok (.aload_n 0, 1) := by decide +kernel
theorem dX7_knows_1 : decode cX7_knows 1 = .ok (.iconst 0, 1) := by decide +kernel
theorem dX7_knows_2 : decode cX7_knows 2 = .ok (.putfield 96, 3) := by decide +kernel
theorem dX7_knows_5 : decode cX7_knows 5 = .ok (.aload_n 0, 1) := by decide +kernel
theorem dX7_knows_6 : decode cX7_knows 6 = .ok (.iload_n 1, 1) := by decide +kernel
theorem dX7_knows_7 : decode cX7_knows 7 = .ok (.invokevirtual 189, 3) := by decide +kernel
theorem dX7_knows_10 : decode cX7_knows 10 = .ok (.ifCond .eq 25, 3) := by decide +kernel
theorem dX7_knows_13 : decode cX7_knows 13 = .ok (.aload_n 0, 1) := by decide +kernel
theorem dX7_knows_14 : decode cX7_knows 14 = .ok (.iload_n 2, 1) := by decide +kernel
theorem dX7_knows_15 : decode cX7_knows 15 = .ok (.invokevirtual 189, 3) := by decide +kernel
theorem dX7_knows_18 : decode cX7_knows 18 = .ok (.ifCond .eq 17, 3) := by decide +kernel
theorem dX7_knows_21 : decode cX7_knows 21 = .ok (.aload_n 0, 1) := by decide +kernel
theorem dX7_knows_22 : decode cX7_knows 22 = .ok (.getfield 29, 3) := by decide +kernel
theorem dX7_knows_25 : decode cX7_knows 25 = .ok (.bipush 8, 2) := by decide +kernel
theorem dX7_knows_27 : decode cX7_knows 27 = .ok (.iload_n 1, 1) := by decide +kernel
theorem dX7_knows_28 : decode cX7_knows 28 = .ok (.imul, 1) := by decide +kernel
theorem dX7_knows_29 : decode cX7_knows 29 = .ok (.iload_n 2, 1) := by decide +kernel
theorem dX7_knows_30 : decode cX7_knows 30 = .ok (.iadd, 1) := by decide +kernel
theorem dX7_knows_31 : decode cX7_knows 31 = .ok (.iaload, 1) := by decide +kernel
theorem dX7_knows_32 : decode cX7_knows 32 = .ok (.goto 4, 3) := by decide +kernel
theorem dX7_knows_35 : decode cX7_knows 35 = .ok (.iconst (-1), 1) := by decide +kernel
theorem dX7_knows_36 : decode cX7_knows 36 = .ok (.ireturn, 1) := by decide +kernel
theorem dX7_way_0 : decode cX7_way 0 = .ok (.aload_n 0, 1) := by decide +kernel
theorem dX7_way_1 : decode cX7_way 1 = .ok (.iconst 0, 1) := by decide +kernel
theorem dX7_way_2 : decode cX7_way 2 = .ok (.putfield 96, 3) := by decide +kernel
theorem dX7_way_5 : decode cX7_way 5 = .ok (.aload_n 0, 1) := by decide +kernel
theorem dX7_way_6 : decode cX7_way 6 = .ok (.iload_n 1, 1) := by decide +kernel
theorem dX7_way_7 : decode cX7_way 7 = .ok (.invokevirtual 189, 3) := by decide +kernel
theorem dX7_way_10 : decode cX7_way 10 = .ok (.ifCond .eq 11, 3) := by decide +kernel
theorem dX7_way_13 : decode cX7_way 13 = .ok (.aload_n 0, 1) := by decide +kernel
theorem dX7_way_14 : decode cX7_way 14 = .ok (.iload_n 2, 1) := by decide +kernel
theorem dX7_way_15 : decode cX7_way 15 = .ok (.invokevirtual 189, 3) := by decide +kernel
theorem dX7_way_18 : decode cX7_way 18 = .ok (.ifCond .ne 5, 3) := by decide +kernel
theorem dX7_way_21 : decode cX7_way 21 = .ok (.iconst (-1), 1) := by decide +kernel
theorem dX7_way_22 : decode cX7_way 22 = .ok (.ireturn, 1) := by decide +kernel
theorem dX7_way_23 : decode cX7_way 23 = .ok (.aload_n 0, 1) := by decide +kernel
theorem dX7_way_24 : decode cX7_way 24 = .ok (.iload_n 1, 1) := by decide +kernel
theorem dX7_way_25 : decode cX7_way 25 = .ok (.invokevirtual 163, 3) := by decide +kernel
theorem dX7_way_28 : decode cX7_way 28 = .ok (.iload_n 3, 1) := by decide +kernel
theorem dX7_way_29 : decode cX7_way 29 = .ok (.ifCond .ne 35, 3) := by decide +kernel
theorem dX7_way_32 : decode cX7_way 32 = .ok (.aload_n 0, 1) := by decide +kernel
theorem dX7_way_33 : decode cX7_way 33 = .ok (.getfield 89, 3) := by decide +kernel
theorem dX7_way_36 : decode cX7_way 36 = .ok (.bipush 8, 2) := by decide +kernel
theorem dX7_way_38 : decode cX7_way 38 = .ok (.iload_n 1, 1) := by decide +kernel
theorem dX7_way_39 : decode cX7_way 39 = .ok (.imul, 1) := by decide +kernel
theorem dX7_way_40 : decode cX7_way 40 = .ok (.iload_n 2, 1) := by decide +kernel
theorem dX7_way_41 : decode cX7_way 41 = .ok (.iadd, 1) := by decide +kernel
theorem dX7_way_42 : decode cX7_way 42 = .ok (.iaload, 1) := by decide +kernel
theorem dX7_way_43 : decode cX7_way 43 = .ok (.ldc 124, 2) := by decide +kernel
theorem dX7_way_45 : decode cX7_way 45 = .ok (.if_icmp .ge 17, 3) := by decide +kernel
theorem dX7_way_48 : decode cX7_way 48 = .ok (.aload_n 0, 1) := by decide +kernel
theorem dX7_way_49 : decode cX7_way 49 = .ok (.getfield 89, 3) := by decide +kernel
theorem dX7_way_52 : decode cX7_way 52 = .ok (.bipush 8, 2) := by decide +kernel
theorem dX7_way_54 : decode cX7_way 54 = .ok (.iload_n 1, 1) := by decide +kernel
theorem dX7_way_55 : decode cX7_way 55 = .ok (.imul, 1) := by decide +kernel
theorem dX7_way_56 : decode cX7_way 56 = .ok (.iload_n 2, 1) := by decide +kernel
theorem dX7_way_57 : decode cX7_way 57 = .ok (.iadd, 1) := by decide +kernel
theorem dX7_way_58 : decode cX7_way 58 = .ok (.iaload, 1) := by decide +kernel
theorem dX7_way_59 : decode cX7_way 59 = .ok (.goto 4, 3) := by decide +kernel
theorem dX7_way_62 : decode cX7_way 62 = .ok (.iconst (-1), 1) := by decide +kernel
theorem dX7_way_63 : decode cX7_way 63 = .ok (.ireturn, 1) := by decide +kernel
theorem dX7_way_64 : decode cX7_way 64 = .ok (.iload_n 3, 1) := by decide +kernel
theorem dX7_way_65 : decode cX7_way 65 = .ok (.iconst 1, 1) := by decide +kernel
theorem dX7_way_66 : decode cX7_way 66 = .ok (.if_icmp .ne 12, 3) := by decide +kernel
theorem dX7_way_69 : decode cX7_way 69 = .ok (.aload_n 0, 1) := by decide +kernel
theorem dX7_way_70 : decode cX7_way 70 = .ok (.iload_n 1, 1) := by decide +kernel
theorem dX7_way_71 : decode cX7_way 71 = .ok (.iload_n 2, 1) := by decide +kernel
theorem dX7_way_72 : decode cX7_way 72 = .ok (.invokevirtual 142, 3) := by decide +kernel
theorem dX7_way_75 : decode cX7_way 75 = .ok (.goto 4, 3) := by decide +kernel
theorem dX7_way_78 : decode cX7_way 78 = .ok (.iconst (-1), 1) := by decide +kernel
theorem dX7_way_79 : decode cX7_way 79 = .ok (.ireturn, 1) := by decide +kernel
theorem dX7_asked_0 : decode cX7_asked 0 = .ok (.iload_n 3, 1) := by decide +kernel
theorem dX7_asked_1 : decode cX7_asked 1 = .ok (.iconst (-1), 1) := by decide +kernel
theorem dX7_asked_2 : decode cX7_asked 2 = .ok (.if_icmp .ne 10, 3) := by decide +kernel
theorem dX7_asked_5 : decode cX7_asked 5 = .ok (.aload_n 0, 1) := by decide +kernel
theorem dX7_asked_6 : decode cX7_asked 6 = .ok (.iload_n 1, 1) := by decide +kernel
theorem dX7_asked_7 : decode cX7_asked 7 = .ok (.iload_n 2, 1) := by decide +kernel
theorem dX7_asked_8 : decode cX7_asked 8 = .ok (.invokevirtual 149, 3) := by decide +kernel
theorem dX7_asked_11 : decode cX7_asked 11 = .ok (.ireturn, 1) := by decide +kernel
theorem dX7_asked_12 : decode cX7_asked 12 = .ok (.iload_n 3, 1) := by decide +kernel
theorem dX7_asked_13 : decode cX7_asked 13 = .ok (.bipush 12, 2) := by decide +kernel
theorem dX7_asked_15 : decode cX7_asked 15 = .ok (.invokestatic 99, 3) := by decide +kernel
theorem dX7_asked_18 : decode cX7_asked 18 = .ok (.ifCond .eq 29, 3) := by decide +kernel
theorem dX7_asked_21 : decode cX7_asked 21 = .ok (.aload_n 0, 1) := by decide +kernel
theorem dX7_asked_22 : decode cX7_asked 22 = .ok (.getfield 56, 3) := by decide +kernel
theorem dX7_asked_25 : decode cX7_asked 25 = .ok (.aload_n 0, 1) := by decide +kernel
theorem dX7_asked_26 : decode cX7_asked 26 = .ok (.iload_n 1, 1) := by decide +kernel
theorem dX7_asked_27 : decode cX7_asked 27 = .ok (.iload_n 2, 1) := by decide +kernel
theorem dX7_asked_28 : decode cX7_asked 28 = .ok (.iload_n 3, 1) := by decide +kernel
theorem dX7_asked_29 : decode cX7_asked 29 = .ok (.invokevirtual 145, 3) := by decide +kernel
theorem dX7_asked_32 : decode cX7_asked 32 = .ok (.iaload, 1) := by decide +kernel
theorem dX7_asked_33 : decode cX7_asked 33 = .ok (.iconst (-1), 1) := by decide +kernel
theorem dX7_asked_34 : decode cX7_asked 34 = .ok (.if_icmp .eq 13, 3) := by decide +kernel
theorem dX7_asked_37 : decode cX7_asked 37 = .ok (.aload_n 0, 1) := by decide +kernel
theorem dX7_asked_38 : decode cX7_asked 38 = .ok (.iload_n 1, 1) := by decide +kernel
theorem dX7_asked_39 : decode cX7_asked 39 = .ok (.iload_n 2, 1) := by decide +kernel
theorem dX7_asked_40 : decode cX7_asked 40 = .ok (.iload_n 3, 1) := by decide +kernel
theorem dX7_asked_41 : decode cX7_asked 41 = .ok (.invokevirtual 145, 3) := by decide +kernel
theorem dX7_asked_44 : decode cX7_asked 44 = .ok (.goto 4, 3) := by decide +kernel
theorem dX7_asked_47 : decode cX7_asked 47 = .ok (.iconst (-1), 1) := by decide +kernel
theorem dX7_asked_48 : decode cX7_asked 48 = .ok (.ireturn, 1) := by decide +kernel
theorem dX7_label_0 : decode cX7_label 0 = .ok (.aload_n 0, 1) := by decide +kernel
theorem dX7_label_1 : decode cX7_label 1 = .ok (.iconst 0, 1) := by decide +kernel
theorem dX7_label_2 : decode cX7_label 2 = .ok (.putfield 96, 3) := by decide +kernel
theorem dX7_label_5 : decode cX7_label 5 = .ok (.aload_n 0, 1) := by decide +kernel
theorem dX7_label_6 : decode cX7_label 6 = .ok (.iload_n 1, 1) := by decide +kernel
theorem dX7_label_7 : decode cX7_label 7 = .ok (.invokevirtual 189, 3) := by decide +kernel
theorem dX7_label_10 : decode cX7_label 10 = .ok (.ifCond .eq 12, 3) := by decide +kernel
theorem dX7_label_13 : decode cX7_label 13 = .ok (.iload_n 2, 1) := by decide +kernel
theorem dX7_label_14 : decode cX7_label 14 = .ok (.bipush 8, 2) := by decide +kernel
theorem dX7_label_16 : decode cX7_label 16 = .ok (.invokestatic 99, 3) := by decide +kernel
theorem dX7_label_19 : decode cX7_label 19 = .ok (.ifCond .ne 5, 3) := by decide +kernel
theorem dX7_label_22 : decode cX7_label 22 = .ok (.iconst (-1), 1) := by decide +kernel
theorem dX7_label_23 : decode cX7_label 23 = .ok (.ireturn, 1) := by decide +kernel
theorem dX7_label_24 : decode cX7_label 24 = .ok (.aload_n 0, 1) := by decide +kernel
theorem dX7_label_25 : decode cX7_label 25 = .ok (.iload_n 1, 1) := by decide +kernel
theorem dX7_label_26 : decode cX7_label 26 = .ok (.invokevirtual 163, 3) := by decide +kernel
theorem dX7_label_29 : decode cX7_label 29 = .ok (.aload_n 0, 1) := by decide +kernel
theorem dX7_label_30 : decode cX7_label 30 = .ok (.iload_n 1, 1) := by decide +kernel
theorem dX7_label_31 : decode cX7_label 31 = .ok (.iload_n 2, 1) := by decide +kernel
theorem dX7_label_32 : decode cX7_label 32 = .ok (.iload_n 3, 1) := by decide +kernel
theorem dX7_label_33 : decode cX7_label 33 = .ok (.invokevirtual 221, 3) := by decide +kernel
theorem dX7_label_36 : decode cX7_label 36 = .ok (.istore 5, 2) := by decide +kernel
theorem dX7_label_38 : decode cX7_label 38 = .ok (.iload 4, 2) := by decide +kernel
theorem dX7_label_40 : decode cX7_label 40 = .ok (.tableswitch 122 0 4 #[36, 43, 55, 86, 104], 36) := by decide +kernel
theorem dX7_label_76 : decode cX7_label 76 = .ok (.aload_n 0, 1) := by decide +kernel
theorem dX7_label_77 : decode cX7_label 77 = .ok (.iload_n 1, 1) := by decide +kernel
theorem dX7_label_78 : decode cX7_label 78 = .ok (.iload_n 2, 1) := by decide +kernel
theorem dX7_label_79 : decode cX7_label 79 = .ok (.invokevirtual 139, 3) := by decide +kernel
theorem dX7_label_82 : decode cX7_label 82 = .ok (.ireturn, 1) := by decide +kernel
theorem dX7_label_83 : decode cX7_label 83 = .ok (.aload_n 0, 1) := by decide +kernel
theorem dX7_label_84 : decode cX7_label 84 = .ok (.getfield 62, 3) := by decide +kernel
theorem dX7_label_87 : decode cX7_label 87 = .ok (.bipush 8, 2) := by decide +kernel
theorem dX7_label_89 : decode cX7_label 89 = .ok (.iload_n 1, 1) := by decide +kernel
theorem dX7_label_90 : decode cX7_label 90 = .ok (.imul, 1) := by decide +kernel
theorem dX7_label_91 : decode cX7_label 91 = .ok (.iload_n 2, 1) := by decide +kernel
theorem dX7_label_92 : decode cX7_label 92 = .ok (.iadd, 1) := by decide +kernel
theorem dX7_label_93 : decode cX7_label 93 = .ok (.iaload, 1) := by decide +kernel
theorem dX7_label_94 : decode cX7_label 94 = .ok (.ireturn, 1) := by decide +kernel
theorem dX7_label_95 : decode cX7_label 95 = .ok (.aload_n 0, 1) := by decide +kernel
theorem dX7_label_96 : decode cX7_label 96 = .ok (.getfield 62, 3) := by decide +kernel
theorem dX7_label_99 : decode cX7_label 99 = .ok (.bipush 8, 2) := by decide +kernel
theorem dX7_label_101 : decode cX7_label 101 = .ok (.iload_n 1, 1) := by decide +kernel
theorem dX7_label_102 : decode cX7_label 102 = .ok (.imul, 1) := by decide +kernel
theorem dX7_label_103 : decode cX7_label 103 = .ok (.iload_n 2, 1) := by decide +kernel
theorem dX7_label_104 : decode cX7_label 104 = .ok (.iadd, 1) := by decide +kernel
theorem dX7_label_105 : decode cX7_label 105 = .ok (.iaload, 1) := by decide +kernel
theorem dX7_label_106 : decode cX7_label 106 = .ok (.iconst (-1), 1) := by decide +kernel
theorem dX7_label_107 : decode cX7_label 107 = .ok (.if_icmp .ne 7, 3) := by decide +kernel
theorem dX7_label_110 : decode cX7_label 110 = .ok (.iconst (-1), 1) := by decide +kernel
theorem dX7_label_111 : decode cX7_label 111 = .ok (.goto 14, 3) := by decide +kernel
theorem dX7_label_114 : decode cX7_label 114 = .ok (.aload_n 0, 1) := by decide +kernel
theorem dX7_label_115 : decode cX7_label 115 = .ok (.getfield 65, 3) := by decide +kernel
theorem dX7_label_118 : decode cX7_label 118 = .ok (.bipush 8, 2) := by decide +kernel
theorem dX7_label_120 : decode cX7_label 120 = .ok (.iload_n 1, 1) := by decide +kernel
theorem dX7_label_121 : decode cX7_label 121 = .ok (.imul, 1) := by decide +kernel
theorem dX7_label_122 : decode cX7_label 122 = .ok (.iload_n 2, 1) := by decide +kernel
theorem dX7_label_123 : decode cX7_label 123 = .ok (.iadd, 1) := by decide +kernel
theorem dX7_label_124 : decode cX7_label 124 = .ok (.iaload, 1) := by decide +kernel
theorem dX7_label_125 : decode cX7_label 125 = .ok (.ireturn, 1) := by decide +kernel
theorem dX7_label_126 : decode cX7_label 126 = .ok (.iload 5, 2) := by decide +kernel
theorem dX7_label_128 : decode cX7_label 128 = .ok (.iconst (-1), 1) := by decide +kernel
theorem dX7_label_129 : decode cX7_label 129 = .ok (.if_icmp .ne 7, 3) := by decide +kernel
theorem dX7_label_132 : decode cX7_label 132 = .ok (.iconst (-1), 1) := by decide +kernel
theorem dX7_label_133 : decode cX7_label 133 = .ok (.goto 10, 3) := by decide +kernel
theorem dX7_label_136 : decode cX7_label 136 = .ok (.aload_n 0, 1) := by decide +kernel
theorem dX7_label_137 : decode cX7_label 137 = .ok (.getfield 56, 3) := by decide +kernel
theorem dX7_label_140 : decode cX7_label 140 = .ok (.iload 5, 2) := by decide +kernel
theorem dX7_label_142 : decode cX7_label 142 = .ok (.iaload, 1) := by decide +kernel
theorem dX7_label_143 : decode cX7_label 143 = .ok (.ireturn, 1) := by decide +kernel
theorem dX7_label_144 : decode cX7_label 144 = .ok (.iload 5, 2) := by decide +kernel
theorem dX7_label_146 : decode cX7_label 146 = .ok (.iconst (-1), 1) := by decide +kernel
theorem dX7_label_147 : decode cX7_label 147 = .ok (.if_icmp .ne 7, 3) := by decide +kernel
theorem dX7_label_150 : decode cX7_label 150 = .ok (.iconst (-1), 1) := by decide +kernel
theorem dX7_label_151 : decode cX7_label 151 = .ok (.goto 10, 3) := by decide +kernel
theorem dX7_label_154 : decode cX7_label 154 = .ok (.aload_n 0, 1) := by decide +kernel
theorem dX7_label_155 : decode cX7_label 155 = .ok (.getfield 59, 3) := by decide +kernel
theorem dX7_label_158 : decode cX7_label 158 = .ok (.iload 5, 2) := by decide +kernel
theorem dX7_label_160 : decode cX7_label 160 = .ok (.iaload, 1) := by decide +kernel
theorem dX7_label_161 : decode cX7_label 161 = .ok (.ireturn, 1) := by decide +kernel
theorem dX7_label_162 : decode cX7_label 162 = .ok (.iconst (-1), 1) := by decide +kernel
theorem dX7_label_163 : decode cX7_label 163 = .ok (.ireturn, 1) := by decide +kernel
theorem dX7_count_0 : decode cX7_count 0 = .ok (.aload_n 0, 1) := by decide +kernel
theorem dX7_count_1 : decode cX7_count 1 = .ok (.iconst 0, 1) := by decide +kernel
theorem dX7_count_2 : decode cX7_count 2 = .ok (.putfield 96, 3) := by decide +kernel
theorem dX7_count_5 : decode cX7_count 5 = .ok (.iconst 0, 1) := by decide +kernel
theorem dX7_count_6 : decode cX7_count 6 = .ok (.istore_n 3, 1) := by decide +kernel
theorem dX7_count_7 : decode cX7_count 7 = .ok (.iload_n 2, 1) := by decide +kernel
theorem dX7_count_8 : decode cX7_count 8 = .ok (.tableswitch 172 0 3 #[32, 93, 98, 136], 32) := by decide +kernel
theorem dX7_count_40 : decode cX7_count 40 = .ok (.iconst 0, 1) := by decide +kernel
theorem dX7_count_41 : decode cX7_count 41 = .ok (.istore 4, 2) := by decide +kernel
theorem dX7_count_43 : decode cX7_count 43 = .ok (.iload 4, 2) := by decide +kernel
theorem dX7_count_45 : decode cX7_count 45 = .ok (.bipush 64, 2) := by decide +kernel
theorem dX7_count_47 : decode cX7_count 47 = .ok (.if_icmp .ge 40, 3) := by decide +kernel
theorem dX7_count_50 : decode cX7_count 50 = .ok (.aload_n 0, 1) := by decide +kernel
theorem dX7_count_51 : decode cX7_count 51 = .ok (.iload_n 1, 1) := by decide +kernel
theorem dX7_count_52 : decode cX7_count 52 = .ok (.invokevirtual 189, 3) := by decide +kernel
theorem dX7_count_55 : decode cX7_count 55 = .ok (.ifCond .eq 32, 3) := by decide +kernel
theorem dX7_count_58 : decode cX7_count 58 = .ok (.aload_n 0, 1) := by decide +kernel
theorem dX7_count_59 : decode cX7_count 59 = .ok (.getfield 68, 3) := by decide +kernel
theorem dX7_count_62 : decode cX7_count 62 = .ok (.bipush 64, 2) := by decide +kernel
theorem dX7_count_64 : decode cX7_count 64 = .ok (.iload_n 1, 1) := by decide +kernel
theorem dX7_count_65 : decode cX7_count 65 = .ok (.imul, 1) := by decide +kernel
theorem dX7_count_66 : decode cX7_count 66 = .ok (.iload 4, 2) := by decide +kernel
theorem dX7_count_68 : decode cX7_count 68 = .ok (.iadd, 1) := by decide +kernel
theorem dX7_count_69 : decode cX7_count 69 = .ok (.iaload, 1) := by decide +kernel
theorem dX7_count_70 : decode cX7_count 70 = .ok (.ifCond .le 9, 3) := by decide +kernel
theorem dX7_count_73 : decode cX7_count 73 = .ok (.iload_n 3, 1) := by decide +kernel
theorem dX7_count_74 : decode cX7_count 74 = .ok (.iconst 1, 1) := by decide +kernel
theorem dX7_count_75 : decode cX7_count 75 = .ok (.iadd, 1) := by decide +kernel
theorem dX7_count_76 : decode cX7_count 76 = .ok (.goto 4, 3) := by decide +kernel
theorem dX7_count_79 : decode cX7_count 79 = .ok (.iload_n 3, 1) := by decide +kernel
theorem dX7_count_80 : decode cX7_count 80 = .ok (.istore_n 3, 1) := by decide +kernel
theorem dX7_count_81 : decode cX7_count 81 = .ok (.iinc 4 1, 3) := by decide +kernel
theorem dX7_count_84 : decode cX7_count 84 = .ok (.goto (-41), 3) := by decide +kernel
theorem dX7_count_87 : decode cX7_count 87 = .ok (.aload_n 0, 1) := by decide +kernel
theorem dX7_count_88 : decode cX7_count 88 = .ok (.iload_n 1, 1) := by decide +kernel
theorem dX7_count_89 : decode cX7_count 89 = .ok (.invokevirtual 189, 3) := by decide +kernel
theorem dX7_count_92 : decode cX7_count 92 = .ok (.ifCond .eq 7, 3) := by decide +kernel
theorem dX7_count_95 : decode cX7_count 95 = .ok (.iload_n 3, 1) := by decide +kernel
theorem dX7_count_96 : decode cX7_count 96 = .ok (.goto 4, 3) := by decide +kernel
theorem dX7_count_99 : decode cX7_count 99 = .ok (.iconst (-1), 1) := by decide +kernel
theorem dX7_count_100 : decode cX7_count 100 = .ok (.ireturn, 1) := by decide +kernel
theorem dX7_count_101 : decode cX7_count 101 = .ok (.aload_n 0, 1) := by decide +kernel
theorem dX7_count_102 : decode cX7_count 102 = .ok (.getfield 107, 3) := by decide +kernel
theorem dX7_count_105 : decode cX7_count 105 = .ok (.ireturn, 1) := by decide +kernel
theorem dX7_count_106 : decode cX7_count 106 = .ok (.iconst 0, 1) := by decide +kernel
theorem dX7_count_107 : decode cX7_count 107 = .ok (.istore 4, 2) := by decide +kernel
theorem dX7_count_109 : decode cX7_count 109 = .ok (.iload 4, 2) := by decide +kernel
theorem dX7_count_111 : decode cX7_count 111 = .ok (.aload_n 0, 1) := by decide +kernel
theorem dX7_count_112 : decode cX7_count 112 = .ok (.getfield 218, 3) := by decide +kernel
theorem dX7_count_115 : decode cX7_count 115 = .ok (.if_icmp .ge 27, 3) := by decide +kernel
theorem dX7_count_118 : decode cX7_count 118 = .ok (.aload_n 0, 1) := by decide +kernel
theorem dX7_count_119 : decode cX7_count 119 = .ok (.getfield 83, 3) := by decide +kernel
theorem dX7_count_122 : decode cX7_count 122 = .ok (.iload 4, 2) := by decide +kernel
theorem dX7_count_124 : decode cX7_count 124 = .ok (.iaload, 1) := by decide +kernel
theorem dX7_count_125 : decode cX7_count 125 = .ok (.ifCond .ne 9, 3) := by decide +kernel
theorem dX7_count_128 : decode cX7_count 128 = .ok (.iload_n 3, 1) := by decide +kernel
theorem dX7_count_129 : decode cX7_count 129 = .ok (.iconst 1, 1) := by decide +kernel
theorem dX7_count_130 : decode cX7_count 130 = .ok (.iadd, 1) := by decide +kernel
theorem dX7_count_131 : decode cX7_count 131 = .ok (.goto 4, 3) := by decide +kernel
theorem dX7_count_134 : decode cX7_count 134 = .ok (.iload_n 3, 1) := by decide +kernel
theorem dX7_count_135 : decode cX7_count 135 = .ok (.istore_n 3, 1) := by decide +kernel
theorem dX7_count_136 : decode cX7_count 136 = .ok (.iinc 4 1, 3) := by decide +kernel
theorem dX7_count_139 : decode cX7_count 139 = .ok (.goto (-30), 3) := by decide +kernel
theorem dX7_count_142 : decode cX7_count 142 = .ok (.iload_n 3, 1) := by decide +kernel
theorem dX7_count_143 : decode cX7_count 143 = .ok (.ireturn, 1) := by decide +kernel
theorem dX7_count_144 : decode cX7_count 144 = .ok (.iconst 0, 1) := by decide +kernel
theorem dX7_count_145 : decode cX7_count 145 = .ok (.istore 4, 2) := by decide +kernel
theorem dX7_count_147 : decode cX7_count 147 = .ok (.iload 4, 2) := by decide +kernel
theorem dX7_count_149 : decode cX7_count 149 = .ok (.bipush 12, 2) := by decide +kernel
theorem dX7_count_151 : decode cX7_count 151 = .ok (.if_icmp .ge 27, 3) := by decide +kernel
theorem dX7_count_154 : decode cX7_count 154 = .ok (.aload_n 0, 1) := by decide +kernel
theorem dX7_count_155 : decode cX7_count 155 = .ok (.getfield 13, 3) := by decide +kernel
theorem dX7_count_158 : decode cX7_count 158 = .ok (.iload 4, 2) := by decide +kernel
theorem dX7_count_160 : decode cX7_count 160 = .ok (.baload, 1) := by decide +kernel
theorem dX7_count_161 : decode cX7_count 161 = .ok (.ifCond .eq 9, 3) := by decide +kernel
theorem dX7_count_164 : decode cX7_count 164 = .ok (.iload_n 3, 1) := by decide +kernel
theorem dX7_count_165 : decode cX7_count 165 = .ok (.iconst 1, 1) := by decide +kernel
theorem dX7_count_166 : decode cX7_count 166 = .ok (.iadd, 1) := by decide +kernel
theorem dX7_count_167 : decode cX7_count 167 = .ok (.goto 4, 3) := by decide +kernel
theorem dX7_count_170 : decode cX7_count 170 = .ok (.iload_n 3, 1) := by decide +kernel
theorem dX7_count_171 : decode cX7_count 171 = .ok (.istore_n 3, 1) := by decide +kernel
theorem dX7_count_172 : decode cX7_count 172 = .ok (.iinc 4 1, 3) := by decide +kernel
theorem dX7_count_175 : decode cX7_count 175 = .ok (.goto (-28), 3) := by decide +kernel
theorem dX7_count_178 : decode cX7_count 178 = .ok (.iload_n 3, 1) := by decide +kernel
theorem dX7_count_179 : decode cX7_count 179 = .ok (.ireturn, 1) := by decide +kernel
theorem dX7_count_180 : decode cX7_count 180 = .ok (.iconst (-1), 1) := by decide +kernel
theorem dX7_count_181 : decode cX7_count 181 = .ok (.ireturn, 1) := by decide +kernel
