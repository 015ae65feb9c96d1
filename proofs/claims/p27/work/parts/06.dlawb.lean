theorem dL_wants_250 : decode cL_wants 250 = .ok (.ior, 1) := by decide +kernel
theorem dL_wants_251 : decode cL_wants 251 = .ok (.istore 5, 2) := by decide +kernel
theorem dL_wants_253 : decode cL_wants 253 = .ok (.iinc 6 1, 3) := by decide +kernel
theorem dL_wants_256 : decode cL_wants 256 = .ok (.goto (-116), 3) := by decide +kernel
theorem dL_wants_259 : decode cL_wants 259 = .ok (.iload 5, 2) := by decide +kernel
theorem dL_wants_261 : decode cL_wants 261 = .ok (.ireturn, 1) := by decide +kernel
theorem dL_wants_262 : decode cL_wants 262 = .ok (.iload 4, 2) := by decide +kernel
theorem dL_wants_264 : decode cL_wants 264 = .ok (.bipush 6, 2) := by decide +kernel
theorem dL_wants_266 : decode cL_wants 266 = .ok (.if_icmp .ne 71, 3) := by decide +kernel
theorem dL_wants_269 : decode cL_wants 269 = .ok (.aload_n 0, 1) := by decide +kernel
theorem dL_wants_270 : decode cL_wants 270 = .ok (.aload_n 1, 1) := by decide +kernel
theorem dL_wants_271 : decode cL_wants 271 = .ok (.aload_n 0, 1) := by decide +kernel
theorem dL_wants_272 : decode cL_wants 272 = .ok (.iload_n 3, 1) := by decide +kernel
theorem dL_wants_273 : decode cL_wants 273 = .ok (.invokestatic 22, 3) := by decide +kernel
theorem dL_wants_276 : decode cL_wants 276 = .ok (.iconst (-1), 1) := by decide +kernel
theorem dL_wants_277 : decode cL_wants 277 = .ok (.invokestatic 49, 3) := by decide +kernel
theorem dL_wants_280 : decode cL_wants 280 = .ok (.aload_n 0, 1) := by decide +kernel
theorem dL_wants_281 : decode cL_wants 281 = .ok (.iload_n 3, 1) := by decide +kernel
theorem dL_wants_282 : decode cL_wants 282 = .ok (.invokestatic 36, 3) := by decide +kernel
theorem dL_wants_285 : decode cL_wants 285 = .ok (.ishr, 1) := by decide +kernel
theorem dL_wants_286 : decode cL_wants 286 = .ok (.iconst 1, 1) := by decide +kernel
theorem dL_wants_287 : decode cL_wants 287 = .ok (.iand, 1) := by decide +kernel
theorem dL_wants_288 : decode cL_wants 288 = .ok (.ifCond .ne 5, 3) := by decide +kernel
theorem dL_wants_291 : decode cL_wants 291 = .ok (.iconst 0, 1) := by decide +kernel
theorem dL_wants_292 : decode cL_wants 292 = .ok (.ireturn, 1) := by decide +kernel
theorem dL_wants_293 : decode cL_wants 293 = .ok (.aload_n 1, 1) := by decide +kernel
theorem dL_wants_294 : decode cL_wants 294 = .ok (.iload_n 3, 1) := by decide +kernel
theorem dL_wants_295 : decode cL_wants 295 = .ok (.iconst 1, 1) := by decide +kernel
theorem dL_wants_296 : decode cL_wants 296 = .ok (.iastore, 1) := by decide +kernel
theorem dL_wants_297 : decode cL_wants 297 = .ok (.aload_n 0, 1) := by decide +kernel
theorem dL_wants_298 : decode cL_wants 298 = .ok (.aload_n 1, 1) := by decide +kernel
theorem dL_wants_299 : decode cL_wants 299 = .ok (.invokestatic 63, 3) := by decide +kernel
theorem dL_wants_302 : decode cL_wants 302 = .ok (.ifCond .eq 17, 3) := by decide +kernel
theorem dL_wants_305 : decode cL_wants 305 = .ok (.aload_n 0, 1) := by decide +kernel
theorem dL_wants_306 : decode cL_wants 306 = .ok (.aload_n 1, 1) := by decide +kernel
theorem dL_wants_307 : decode cL_wants 307 = .ok (.aload_n 2, 1) := by decide +kernel
theorem dL_wants_308 : decode cL_wants 308 = .ok (.iconst (-1), 1) := by decide +kernel
theorem dL_wants_309 : decode cL_wants 309 = .ok (.invokestatic 55, 3) := by decide +kernel
theorem dL_wants_312 : decode cL_wants 312 = .ok (.ifCond .eq 7, 3) := by decide +kernel
theorem dL_wants_315 : decode cL_wants 315 = .ok (.iconst 1, 1) := by decide +kernel
theorem dL_wants_316 : decode cL_wants 316 = .ok (.goto 4, 3) := by decide +kernel
theorem dL_wants_319 : decode cL_wants 319 = .ok (.iconst 0, 1) := by decide +kernel
theorem dL_wants_320 : decode cL_wants 320 = .ok (.istore 5, 2) := by decide +kernel
theorem dL_wants_322 : decode cL_wants 322 = .ok (.aload_n 1, 1) := by decide +kernel
theorem dL_wants_323 : decode cL_wants 323 = .ok (.iload_n 3, 1) := by decide +kernel
theorem dL_wants_324 : decode cL_wants 324 = .ok (.iconst 0, 1) := by decide +kernel
theorem dL_wants_325 : decode cL_wants 325 = .ok (.iastore, 1) := by decide +kernel
theorem dL_wants_326 : decode cL_wants 326 = .ok (.iload 5, 2) := by decide +kernel
theorem dL_wants_328 : decode cL_wants 328 = .ok (.ifCond .eq 7, 3) := by decide +kernel
theorem dL_wants_331 : decode cL_wants 331 = .ok (.iconst 0, 1) := by decide +kernel
theorem dL_wants_332 : decode cL_wants 332 = .ok (.goto 4, 3) := by decide +kernel
theorem dL_wants_335 : decode cL_wants 335 = .ok (.iconst 2, 1) := by decide +kernel
theorem dL_wants_336 : decode cL_wants 336 = .ok (.ireturn, 1) := by decide +kernel
theorem dL_wants_337 : decode cL_wants 337 = .ok (.aload_n 0, 1) := by decide +kernel
theorem dL_wants_338 : decode cL_wants 338 = .ok (.aload_n 1, 1) := by decide +kernel
theorem dL_wants_339 : decode cL_wants 339 = .ok (.aload_n 0, 1) := by decide +kernel
theorem dL_wants_340 : decode cL_wants 340 = .ok (.iload_n 3, 1) := by decide +kernel
theorem dL_wants_341 : decode cL_wants 341 = .ok (.invokestatic 39, 3) := by decide +kernel
theorem dL_wants_344 : decode cL_wants 344 = .ok (.invokestatic 59, 3) := by decide +kernel
theorem dL_wants_347 : decode cL_wants 347 = .ok (.iconst 2, 1) := by decide +kernel
theorem dL_wants_348 : decode cL_wants 348 = .ok (.aload_n 0, 1) := by decide +kernel
theorem dL_wants_349 : decode cL_wants 349 = .ok (.iload_n 3, 1) := by decide +kernel
theorem dL_wants_350 : decode cL_wants 350 = .ok (.invokestatic 42, 3) := by decide +kernel
theorem dL_wants_353 : decode cL_wants 353 = .ok (.imul, 1) := by decide +kernel
theorem dL_wants_354 : decode cL_wants 354 = .ok (.ishr, 1) := by decide +kernel
theorem dL_wants_355 : decode cL_wants 355 = .ok (.istore 5, 2) := by decide +kernel
theorem dL_wants_357 : decode cL_wants 357 = .ok (.iload 5, 2) := by decide +kernel
theorem dL_wants_359 : decode cL_wants 359 = .ok (.iconst 1, 1) := by decide +kernel
theorem dL_wants_360 : decode cL_wants 360 = .ok (.iand, 1) := by decide +kernel
theorem dL_wants_361 : decode cL_wants 361 = .ok (.iconst 1, 1) := by decide +kernel
theorem dL_wants_362 : decode cL_wants 362 = .ok (.if_icmp .ne 7, 3) := by decide +kernel
theorem dL_wants_365 : decode cL_wants 365 = .ok (.iconst 2, 1) := by decide +kernel
theorem dL_wants_366 : decode cL_wants 366 = .ok (.goto 16, 3) := by decide +kernel
theorem dL_wants_369 : decode cL_wants 369 = .ok (.iload 5, 2) := by decide +kernel
theorem dL_wants_371 : decode cL_wants 371 = .ok (.iconst 2, 1) := by decide +kernel
theorem dL_wants_372 : decode cL_wants 372 = .ok (.iand, 1) := by decide +kernel
theorem dL_wants_373 : decode cL_wants 373 = .ok (.iconst 2, 1) := by decide +kernel
theorem dL_wants_374 : decode cL_wants 374 = .ok (.if_icmp .ne 7, 3) := by decide +kernel
theorem dL_wants_377 : decode cL_wants 377 = .ok (.iconst 1, 1) := by decide +kernel
theorem dL_wants_378 : decode cL_wants 378 = .ok (.goto 4, 3) := by decide +kernel
theorem dL_wants_381 : decode cL_wants 381 = .ok (.iconst 0, 1) := by decide +kernel
theorem dL_wants_382 : decode cL_wants 382 = .ok (.ireturn, 1) := by decide +kernel
theorem dL_follow_0 : decode cL_follow 0 = .ok (.bipush 24, 2) := by decide +kernel
theorem dL_follow_2 : decode cL_follow 2 = .ok (.newarray .int, 2) := by decide +kernel
theorem dL_follow_4 : decode cL_follow 4 = .ok (.astore 7, 2) := by decide +kernel
theorem dL_follow_6 : decode cL_follow 6 = .ok (.iconst 0, 1) := by decide +kernel
theorem dL_follow_7 : decode cL_follow 7 = .ok (.istore 8, 2) := by decide +kernel
theorem dL_follow_9 : decode cL_follow 9 = .ok (.iload 8, 2) := by decide +kernel
theorem dL_follow_11 : decode cL_follow 11 = .ok (.aload_n 0, 1) := by decide +kernel
theorem dL_follow_12 : decode cL_follow 12 = .ok (.invokestatic 32, 3) := by decide +kernel
theorem dL_follow_15 : decode cL_follow 15 = .ok (.if_icmp .ge 40, 3) := by decide +kernel
theorem dL_follow_18 : decode cL_follow 18 = .ok (.aload_n 3, 1) := by decide +kernel
theorem dL_follow_19 : decode cL_follow 19 = .ok (.iload 8, 2) := by decide +kernel
theorem dL_follow_21 : decode cL_follow 21 = .ok (.aload_n 1, 1) := by decide +kernel
theorem dL_follow_22 : decode cL_follow 22 = .ok (.iload 8, 2) := by decide +kernel
theorem dL_follow_24 : decode cL_follow 24 = .ok (.iaload, 1) := by decide +kernel
theorem dL_follow_25 : decode cL_follow 25 = .ok (.iastore, 1) := by decide +kernel
theorem dL_follow_26 : decode cL_follow 26 = .ok (.aload 4, 2) := by decide +kernel
theorem dL_follow_28 : decode cL_follow 28 = .ok (.iload 8, 2) := by decide +kernel
theorem dL_follow_30 : decode cL_follow 30 = .ok (.aload_n 1, 1) := by decide +kernel
theorem dL_follow_31 : decode cL_follow 31 = .ok (.iload 8, 2) := by decide +kernel
theorem dL_follow_33 : decode cL_follow 33 = .ok (.iaload, 1) := by decide +kernel
theorem dL_follow_34 : decode cL_follow 34 = .ok (.ifCond .ne 7, 3) := by decide +kernel
theorem dL_follow_37 : decode cL_follow 37 = .ok (.iconst (-1), 1) := by decide +kernel
theorem dL_follow_38 : decode cL_follow 38 = .ok (.goto 4, 3) := by decide +kernel
theorem dL_follow_41 : decode cL_follow 41 = .ok (.iconst 0, 1) := by decide +kernel
theorem dL_follow_42 : decode cL_follow 42 = .ok (.iastore, 1) := by decide +kernel
theorem dL_follow_43 : decode cL_follow 43 = .ok (.aload 5, 2) := by decide +kernel
theorem dL_follow_45 : decode cL_follow 45 = .ok (.iload 8, 2) := by decide +kernel
theorem dL_follow_47 : decode cL_follow 47 = .ok (.iconst (-1), 1) := by decide +kernel
theorem dL_follow_48 : decode cL_follow 48 = .ok (.iastore, 1) := by decide +kernel
theorem dL_follow_49 : decode cL_follow 49 = .ok (.iinc 8 1, 3) := by decide +kernel
theorem dL_follow_52 : decode cL_follow 52 = .ok (.goto (-43), 3) := by decide +kernel
theorem dL_follow_55 : decode cL_follow 55 = .ok (.aload 6, 2) := by decide +kernel
theorem dL_follow_57 : decode cL_follow 57 = .ok (.iconst 0, 1) := by decide +kernel
theorem dL_follow_58 : decode cL_follow 58 = .ok (.iconst 0, 1) := by decide +kernel
theorem dL_follow_59 : decode cL_follow 59 = .ok (.iastore, 1) := by decide +kernel
theorem dL_follow_60 : decode cL_follow 60 = .ok (.aload 6, 2) := by decide +kernel
theorem dL_follow_62 : decode cL_follow 62 = .ok (.iconst 2, 1) := by decide +kernel
theorem dL_follow_63 : decode cL_follow 63 = .ok (.iconst (-1), 1) := by decide +kernel
theorem dL_follow_64 : decode cL_follow 64 = .ok (.iastore, 1) := by decide +kernel
theorem dL_follow_65 : decode cL_follow 65 = .ok (.iconst 1, 1) := by decide +kernel
theorem dL_follow_66 : decode cL_follow 66 = .ok (.istore 8, 2) := by decide +kernel
theorem dL_follow_68 : decode cL_follow 68 = .ok (.iload 8, 2) := by decide +kernel
theorem dL_follow_70 : decode cL_follow 70 = .ok (.ifCond .eq 300, 3) := by decide +kernel
theorem dL_follow_73 : decode cL_follow 73 = .ok (.aload 6, 2) := by decide +kernel
theorem dL_follow_75 : decode cL_follow 75 = .ok (.iconst 1, 1) := by decide +kernel
theorem dL_follow_76 : decode cL_follow 76 = .ok (.aload_n 0, 1) := by decide +kernel
theorem dL_follow_77 : decode cL_follow 77 = .ok (.aload_n 3, 1) := by decide +kernel
theorem dL_follow_78 : decode cL_follow 78 = .ok (.aload_n 2, 1) := by decide +kernel
theorem dL_follow_79 : decode cL_follow 79 = .ok (.invokestatic 67, 3) := by decide +kernel
theorem dL_follow_82 : decode cL_follow 82 = .ok (.iastore, 1) := by decide +kernel
theorem dL_follow_83 : decode cL_follow 83 = .ok (.iconst 0, 1) := by decide +kernel
theorem dL_follow_84 : decode cL_follow 84 = .ok (.istore 8, 2) := by decide +kernel
theorem dL_follow_86 : decode cL_follow 86 = .ok (.iconst 0, 1) := by decide +kernel
theorem dL_follow_87 : decode cL_follow 87 = .ok (.istore 9, 2) := by decide +kernel
theorem dL_follow_89 : decode cL_follow 89 = .ok (.iload 9, 2) := by decide +kernel
theorem dL_follow_91 : decode cL_follow 91 = .ok (.aload_n 0, 1) := by decide +kernel
theorem dL_follow_92 : decode cL_follow 92 = .ok (.invokestatic 32, 3) := by decide +kernel
theorem dL_follow_95 : decode cL_follow 95 = .ok (.if_icmp .ge 164, 3) := by decide +kernel
theorem dL_follow_98 : decode cL_follow 98 = .ok (.aload 6, 2) := by decide +kernel
theorem dL_follow_100 : decode cL_follow 100 = .ok (.iconst 1, 1) := by decide +kernel
theorem dL_follow_101 : decode cL_follow 101 = .ok (.iaload, 1) := by decide +kernel
theorem dL_follow_102 : decode cL_follow 102 = .ok (.iconst 5, 1) := by decide +kernel
theorem dL_follow_103 : decode cL_follow 103 = .ok (.irem, 1) := by decide +kernel
theorem dL_follow_104 : decode cL_follow 104 = .ok (.ifCond .ne 155, 3) := by decide +kernel
theorem dL_follow_107 : decode cL_follow 107 = .ok (.aload 7, 2) := by decide +kernel
theorem dL_follow_109 : decode cL_follow 109 = .ok (.iload 9, 2) := by decide +kernel
theorem dL_follow_111 : decode cL_follow 111 = .ok (.iconst 0, 1) := by decide +kernel
theorem dL_follow_112 : decode cL_follow 112 = .ok (.iastore, 1) := by decide +kernel
theorem dL_follow_113 : decode cL_follow 113 = .ok (.bipush 7, 2) := by decide +kernel
theorem dL_follow_115 : decode cL_follow 115 = .ok (.istore 10, 2) := by decide +kernel
theorem dL_follow_117 : decode cL_follow 117 = .ok (.iload 10, 2) := by decide +kernel
theorem dL_follow_119 : decode cL_follow 119 = .ok (.ifCond .le 58, 3) := by decide +kernel
theorem dL_follow_122 : decode cL_follow 122 = .ok (.aload_n 3, 1) := by decide +kernel
theorem dL_follow_123 : decode cL_follow 123 = .ok (.iload 9, 2) := by decide +kernel
theorem dL_follow_125 : decode cL_follow 125 = .ok (.iaload, 1) := by decide +kernel
theorem dL_follow_126 : decode cL_follow 126 = .ok (.ifCond .ne 51, 3) := by decide +kernel
theorem dL_follow_129 : decode cL_follow 129 = .ok (.aload_n 0, 1) := by decide +kernel
theorem dL_follow_130 : decode cL_follow 130 = .ok (.aload_n 3, 1) := by decide +kernel
theorem dL_follow_131 : decode cL_follow 131 = .ok (.aload_n 2, 1) := by decide +kernel
theorem dL_follow_132 : decode cL_follow 132 = .ok (.iload 9, 2) := by decide +kernel
theorem dL_follow_134 : decode cL_follow 134 = .ok (.iload 10, 2) := by decide +kernel
theorem dL_follow_136 : decode cL_follow 136 = .ok (.invokestatic 71, 3) := by decide +kernel
theorem dL_follow_139 : decode cL_follow 139 = .ok (.istore 11, 2) := by decide +kernel
theorem dL_follow_141 : decode cL_follow 141 = .ok (.aload 7, 2) := by decide +kernel
theorem dL_follow_143 : decode cL_follow 143 = .ok (.iload 9, 2) := by decide +kernel
theorem dL_follow_145 : decode cL_follow 145 = .ok (.dup2, 1) := by decide +kernel
theorem dL_follow_146 : decode cL_follow 146 = .ok (.iaload, 1) := by decide +kernel
theorem dL_follow_147 : decode cL_follow 147 = .ok (.iload 11, 2) := by decide +kernel
theorem dL_follow_149 : decode cL_follow 149 = .ok (.ior, 1) := by decide +kernel
theorem dL_follow_150 : decode cL_follow 150 = .ok (.iastore, 1) := by decide +kernel
theorem dL_follow_151 : decode cL_follow 151 = .ok (.aload 5, 2) := by decide +kernel
theorem dL_follow_153 : decode cL_follow 153 = .ok (.iload 9, 2) := by decide +kernel
theorem dL_follow_155 : decode cL_follow 155 = .ok (.iload 11, 2) := by decide +kernel
theorem dL_follow_157 : decode cL_follow 157 = .ok (.ifCond .le 8, 3) := by decide +kernel
theorem dL_follow_160 : decode cL_follow 160 = .ok (.iload 10, 2) := by decide +kernel
theorem dL_follow_162 : decode cL_follow 162 = .ok (.goto 8, 3) := by decide +kernel
theorem dL_follow_165 : decode cL_follow 165 = .ok (.aload 5, 2) := by decide +kernel
theorem dL_follow_167 : decode cL_follow 167 = .ok (.iload 9, 2) := by decide +kernel
theorem dL_follow_169 : decode cL_follow 169 = .ok (.iaload, 1) := by decide +kernel
theorem dL_follow_170 : decode cL_follow 170 = .ok (.iastore, 1) := by decide +kernel
theorem dL_follow_171 : decode cL_follow 171 = .ok (.iinc 10 (-1), 3) := by decide +kernel
theorem dL_follow_174 : decode cL_follow 174 = .ok (.goto (-57), 3) := by decide +kernel
theorem dL_follow_177 : decode cL_follow 177 = .ok (.aload 6, 2) := by decide +kernel
theorem dL_follow_179 : decode cL_follow 179 = .ok (.iconst 2, 1) := by decide +kernel
theorem dL_follow_180 : decode cL_follow 180 = .ok (.aload 6, 2) := by decide +kernel
theorem dL_follow_182 : decode cL_follow 182 = .ok (.iconst 0, 1) := by decide +kernel
theorem dL_follow_183 : decode cL_follow 183 = .ok (.iaload, 1) := by decide +kernel
theorem dL_follow_184 : decode cL_follow 184 = .ok (.ifCond .ne 23, 3) := by decide +kernel
theorem dL_follow_187 : decode cL_follow 187 = .ok (.aload 6, 2) := by decide +kernel
theorem dL_follow_189 : decode cL_follow 189 = .ok (.iconst 2, 1) := by decide +kernel
theorem dL_follow_190 : decode cL_follow 190 = .ok (.iaload, 1) := by decide +kernel
theorem dL_follow_191 : decode cL_follow 191 = .ok (.ifCond .ge 16, 3) := by decide +kernel
theorem dL_follow_194 : decode cL_follow 194 = .ok (.aload 7, 2) := by decide +kernel
theorem dL_follow_196 : decode cL_follow 196 = .ok (.iload 9, 2) := by decide +kernel
theorem dL_follow_198 : decode cL_follow 198 = .ok (.iaload, 1) := by decide +kernel
theorem dL_follow_199 : decode cL_follow 199 = .ok (.ifCond .le 8, 3) := by decide +kernel
theorem dL_follow_202 : decode cL_follow 202 = .ok (.iload 9, 2) := by decide +kernel
theorem dL_follow_204 : decode cL_follow 204 = .ok (.goto 7, 3) := by decide +kernel
theorem dL_follow_207 : decode cL_follow 207 = .ok (.aload 6, 2) := by decide +kernel
theorem dL_follow_209 : decode cL_follow 209 = .ok (.iconst 2, 1) := by decide +kernel
theorem dL_follow_210 : decode cL_follow 210 = .ok (.iaload, 1) := by decide +kernel
theorem dL_follow_211 : decode cL_follow 211 = .ok (.iastore, 1) := by decide +kernel
theorem dL_follow_212 : decode cL_follow 212 = .ok (.aload 6, 2) := by decide +kernel
theorem dL_follow_214 : decode cL_follow 214 = .ok (.iconst 1, 1) := by decide +kernel
theorem dL_follow_215 : decode cL_follow 215 = .ok (.aload 7, 2) := by decide +kernel
theorem dL_follow_217 : decode cL_follow 217 = .ok (.iload 9, 2) := by decide +kernel
theorem dL_follow_219 : decode cL_follow 219 = .ok (.iaload, 1) := by decide +kernel
theorem dL_follow_220 : decode cL_follow 220 = .ok (.iconst 3, 1) := by decide +kernel
theorem dL_follow_221 : decode cL_follow 221 = .ok (.if_icmp .ne 7, 3) := by decide +kernel
theorem dL_follow_224 : decode cL_follow 224 = .ok (.iconst 5, 1) := by decide +kernel
theorem dL_follow_225 : decode cL_follow 225 = .ok (.goto 7, 3) := by decide +kernel
theorem dL_follow_228 : decode cL_follow 228 = .ok (.aload 6, 2) := by decide +kernel
theorem dL_follow_230 : decode cL_follow 230 = .ok (.iconst 1, 1) := by decide +kernel
theorem dL_follow_231 : decode cL_follow 231 = .ok (.iaload, 1) := by decide +kernel
theorem dL_follow_232 : decode cL_follow 232 = .ok (.iastore, 1) := by decide +kernel
theorem dL_follow_233 : decode cL_follow 233 = .ok (.iload 8, 2) := by decide +kernel
theorem dL_follow_235 : decode cL_follow 235 = .ok (.ifCond .ne 11, 3) := by decide +kernel
theorem dL_follow_238 : decode cL_follow 238 = .ok (.aload 7, 2) := by decide +kernel
theorem dL_follow_240 : decode cL_follow 240 = .ok (.iload 9, 2) := by decide +kernel
theorem dL_follow_242 : decode cL_follow 242 = .ok (.iaload, 1) := by decide +kernel
theorem dL_follow_243 : decode cL_follow 243 = .ok (.ifCond .le 7, 3) := by decide +kernel
theorem dL_follow_246 : decode cL_follow 246 = .ok (.iconst 1, 1) := by decide +kernel
theorem dL_follow_247 : decode cL_follow 247 = .ok (.goto 4, 3) := by decide +kernel
theorem dL_follow_250 : decode cL_follow 250 = .ok (.iconst 0, 1) := by decide +kernel
theorem dL_follow_251 : decode cL_follow 251 = .ok (.istore 8, 2) := by decide +kernel
theorem dL_follow_253 : decode cL_follow 253 = .ok (.iinc 9 1, 3) := by decide +kernel
theorem dL_follow_256 : decode cL_follow 256 = .ok (.goto (-167), 3) := by decide +kernel
theorem dL_follow_259 : decode cL_follow 259 = .ok (.iload 8, 2) := by decide +kernel
theorem dL_follow_261 : decode cL_follow 261 = .ok (.ifCond .eq 14, 3) := by decide +kernel
theorem dL_follow_264 : decode cL_follow 264 = .ok (.aload 6, 2) := by decide +kernel
theorem dL_follow_266 : decode cL_follow 266 = .ok (.iconst 1, 1) := by decide +kernel
theorem dL_follow_267 : decode cL_follow 267 = .ok (.iaload, 1) := by decide +kernel
theorem dL_follow_268 : decode cL_follow 268 = .ok (.ifCond .ne 7, 3) := by decide +kernel
theorem dL_follow_271 : decode cL_follow 271 = .ok (.iconst 1, 1) := by decide +kernel
theorem dL_follow_272 : decode cL_follow 272 = .ok (.goto 4, 3) := by decide +kernel
theorem dL_follow_275 : decode cL_follow 275 = .ok (.iconst 0, 1) := by decide +kernel
theorem dL_follow_276 : decode cL_follow 276 = .ok (.istore 8, 2) := by decide +kernel
theorem dL_follow_278 : decode cL_follow 278 = .ok (.aload 6, 2) := by decide +kernel
theorem dL_follow_280 : decode cL_follow 280 = .ok (.iconst 0, 1) := by decide +kernel
theorem dL_follow_281 : decode cL_follow 281 = .ok (.dup2, 1) := by decide +kernel
theorem dL_follow_282 : decode cL_follow 282 = .ok (.iaload, 1) := by decide +kernel
theorem dL_follow_283 : decode cL_follow 283 = .ok (.iload 8, 2) := by decide +kernel
theorem dL_follow_285 : decode cL_follow 285 = .ok (.ifCond .eq 7, 3) := by decide +kernel
theorem dL_follow_288 : decode cL_follow 288 = .ok (.iconst 1, 1) := by decide +kernel
theorem dL_follow_289 : decode cL_follow 289 = .ok (.goto 4, 3) := by decide +kernel
theorem dL_follow_292 : decode cL_follow 292 = .ok (.iconst 0, 1) := by decide +kernel
theorem dL_follow_293 : decode cL_follow 293 = .ok (.iadd, 1) := by decide +kernel
theorem dL_follow_294 : decode cL_follow 294 = .ok (.iastore, 1) := by decide +kernel
theorem dL_follow_295 : decode cL_follow 295 = .ok (.iconst 0, 1) := by decide +kernel
theorem dL_follow_296 : decode cL_follow 296 = .ok (.istore 9, 2) := by decide +kernel
theorem dL_follow_298 : decode cL_follow 298 = .ok (.iload 9, 2) := by decide +kernel
theorem dL_follow_300 : decode cL_follow 300 = .ok (.aload_n 0, 1) := by decide +kernel
theorem dL_follow_301 : decode cL_follow 301 = .ok (.invokestatic 32, 3) := by decide +kernel
theorem dL_follow_304 : decode cL_follow 304 = .ok (.if_icmp .ge 63, 3) := by decide +kernel
theorem dL_follow_307 : decode cL_follow 307 = .ok (.iload 8, 2) := by decide +kernel
theorem dL_follow_309 : decode cL_follow 309 = .ok (.ifCond .eq 29, 3) := by decide +kernel
theorem dL_follow_312 : decode cL_follow 312 = .ok (.aload 7, 2) := by decide +kernel
theorem dL_follow_314 : decode cL_follow 314 = .ok (.iload 9, 2) := by decide +kernel
theorem dL_follow_316 : decode cL_follow 316 = .ok (.iaload, 1) := by decide +kernel
theorem dL_follow_317 : decode cL_follow 317 = .ok (.ifCond .le 21, 3) := by decide +kernel
theorem dL_follow_320 : decode cL_follow 320 = .ok (.aload_n 3, 1) := by decide +kernel
theorem dL_follow_321 : decode cL_follow 321 = .ok (.iload 9, 2) := by decide +kernel
theorem dL_follow_323 : decode cL_follow 323 = .ok (.aload 7, 2) := by decide +kernel
theorem dL_follow_325 : decode cL_follow 325 = .ok (.iload 9, 2) := by decide +kernel
theorem dL_follow_327 : decode cL_follow 327 = .ok (.iaload, 1) := by decide +kernel
theorem dL_follow_328 : decode cL_follow 328 = .ok (.iastore, 1) := by decide +kernel
theorem dL_follow_329 : decode cL_follow 329 = .ok (.aload 4, 2) := by decide +kernel
theorem dL_follow_331 : decode cL_follow 331 = .ok (.iload 9, 2) := by decide +kernel
theorem dL_follow_333 : decode cL_follow 333 = .ok (.aload 6, 2) := by decide +kernel
theorem dL_follow_335 : decode cL_follow 335 = .ok (.iconst 0, 1) := by decide +kernel
theorem dL_follow_336 : decode cL_follow 336 = .ok (.iaload, 1) := by decide +kernel
theorem dL_follow_337 : decode cL_follow 337 = .ok (.iastore, 1) := by decide +kernel
theorem dL_follow_338 : decode cL_follow 338 = .ok (.aload 5, 2) := by decide +kernel
theorem dL_follow_340 : decode cL_follow 340 = .ok (.iload 9, 2) := by decide +kernel
theorem dL_follow_342 : decode cL_follow 342 = .ok (.aload 4, 2) := by decide +kernel
theorem dL_follow_344 : decode cL_follow 344 = .ok (.iload 9, 2) := by decide +kernel
theorem dL_follow_346 : decode cL_follow 346 = .ok (.iaload, 1) := by decide +kernel
theorem dL_follow_347 : decode cL_follow 347 = .ok (.iconst 1, 1) := by decide +kernel
theorem dL_follow_348 : decode cL_follow 348 = .ok (.if_icmp .ge 7, 3) := by decide +kernel
theorem dL_follow_351 : decode cL_follow 351 = .ok (.iconst (-1), 1) := by decide +kernel
theorem dL_follow_352 : decode cL_follow 352 = .ok (.goto 8, 3) := by decide +kernel
theorem dL_follow_355 : decode cL_follow 355 = .ok (.aload 5, 2) := by decide +kernel
theorem dL_follow_357 : decode cL_follow 357 = .ok (.iload 9, 2) := by decide +kernel
theorem dL_follow_359 : decode cL_follow 359 = .ok (.iaload, 1) := by decide +kernel
theorem dL_follow_360 : decode cL_follow 360 = .ok (.iastore, 1) := by decide +kernel
theorem dL_follow_361 : decode cL_follow 361 = .ok (.iinc 9 1, 3) := by decide +kernel
theorem dL_follow_364 : decode cL_follow 364 = .ok (.goto (-66), 3) := by decide +kernel
theorem dL_follow_367 : decode cL_follow 367 = .ok (.goto (-299), 3) := by decide +kernel
theorem dL_follow_370 : decode cL_follow 370 = .ok (.return_, 1) := by decide +kernel
theorem dL_isArea_0 : decode cL_isArea 0 = .ok (.aload_n 0, 1) := by decide +kernel
theorem dL_isArea_1 : decode cL_isArea 1 = .ok (.iconst 0, 1) := by decide +kernel
theorem dL_isArea_2 : decode cL_isArea 2 = .ok (.iaload, 1) := by decide +kernel
theorem dL_isArea_3 : decode cL_isArea 3 = .ok (.aload_n 0, 1) := by decide +kernel
theorem dL_isArea_4 : decode cL_isArea 4 = .ok (.iconst 1, 1) := by decide +kernel
theorem dL_isArea_5 : decode cL_isArea 5 = .ok (.iaload, 1) := by decide +kernel
theorem dL_isArea_6 : decode cL_isArea 6 = .ok (.imul, 1) := by decide +kernel
theorem dL_isArea_7 : decode cL_isArea 7 = .ok (.istore_n 2, 1) := by decide +kernel
theorem dL_isArea_8 : decode cL_isArea 8 = .ok (.iload_n 1, 1) := by decide +kernel
theorem dL_isArea_9 : decode cL_isArea 9 = .ok (.iload_n 1, 1) := by decide +kernel
theorem dL_isArea_10 : decode cL_isArea 10 = .ok (.ineg, 1) := by decide +kernel
theorem dL_isArea_11 : decode cL_isArea 11 = .ok (.iand, 1) := by decide +kernel
theorem dL_isArea_12 : decode cL_isArea 12 = .ok (.istore_n 3, 1) := by decide +kernel
theorem dL_isArea_13 : decode cL_isArea 13 = .ok (.iconst 1, 1) := by decide +kernel
theorem dL_isArea_14 : decode cL_isArea 14 = .ok (.iload_n 2, 1) := by decide +kernel
theorem dL_isArea_15 : decode cL_isArea 15 = .ok (.ishl, 1) := by decide +kernel
theorem dL_isArea_16 : decode cL_isArea 16 = .ok (.istore 4, 2) := by decide +kernel
theorem dL_isArea_18 : decode cL_isArea 18 = .ok (.iconst 0, 1) := by decide +kernel
theorem dL_isArea_19 : decode cL_isArea 19 = .ok (.istore 5, 2) := by decide +kernel
theorem dL_isArea_21 : decode cL_isArea 21 = .ok (.iload 5, 2) := by decide +kernel
theorem dL_isArea_23 : decode cL_isArea 23 = .ok (.bipush 10, 2) := by decide +kernel
theorem dL_isArea_25 : decode cL_isArea 25 = .ok (.if_icmp .ge 121, 3) := by decide +kernel
theorem dL_isArea_28 : decode cL_isArea 28 = .ok (.iconst 0, 1) := by decide +kernel
theorem dL_isArea_29 : decode cL_isArea 29 = .ok (.istore 6, 2) := by decide +kernel
theorem dL_isArea_31 : decode cL_isArea 31 = .ok (.iload 6, 2) := by decide +kernel
theorem dL_isArea_33 : decode cL_isArea 33 = .ok (.aload_n 0, 1) := by decide +kernel
theorem dL_isArea_34 : decode cL_isArea 34 = .ok (.invokestatic 32, 3) := by decide +kernel
theorem dL_isArea_37 : decode cL_isArea 37 = .ok (.if_icmp .ge 103, 3) := by decide +kernel
theorem dL_isArea_40 : decode cL_isArea 40 = .ok (.iconst 1, 1) := by decide +kernel
theorem dL_isArea_41 : decode cL_isArea 41 = .ok (.aload_n 0, 1) := by decide +kernel
theorem dL_isArea_42 : decode cL_isArea 42 = .ok (.iload 6, 2) := by decide +kernel
theorem dL_isArea_44 : decode cL_isArea 44 = .ok (.invokestatic 39, 3) := by decide +kernel
theorem dL_isArea_47 : decode cL_isArea 47 = .ok (.ishl, 1) := by decide +kernel
theorem dL_isArea_48 : decode cL_isArea 48 = .ok (.iconst 1, 1) := by decide +kernel
theorem dL_isArea_49 : decode cL_isArea 49 = .ok (.aload_n 0, 1) := by decide +kernel
theorem dL_isArea_50 : decode cL_isArea 50 = .ok (.iload 6, 2) := by decide +kernel
theorem dL_isArea_52 : decode cL_isArea 52 = .ok (.invokestatic 42, 3) := by decide +kernel
theorem dL_isArea_55 : decode cL_isArea 55 = .ok (.ishl, 1) := by decide +kernel
theorem dL_isArea_56 : decode cL_isArea 56 = .ok (.ior, 1) := by decide +kernel
theorem dL_isArea_57 : decode cL_isArea 57 = .ok (.istore 7, 2) := by decide +kernel
theorem dL_isArea_59 : decode cL_isArea 59 = .ok (.iload_n 1, 1) := by decide +kernel
theorem dL_isArea_60 : decode cL_isArea 60 = .ok (.iload 7, 2) := by decide +kernel
theorem dL_isArea_62 : decode cL_isArea 62 = .ok (.iand, 1) := by decide +kernel
theorem dL_isArea_63 : decode cL_isArea 63 = .ok (.iload 7, 2) := by decide +kernel
theorem dL_isArea_65 : decode cL_isArea 65 = .ok (.if_icmp .ne 7, 3) := by decide +kernel
theorem dL_isArea_68 : decode cL_isArea 68 = .ok (.iconst 1, 1) := by decide +kernel
theorem dL_isArea_69 : decode cL_isArea 69 = .ok (.goto 4, 3) := by decide +kernel
theorem dL_isArea_72 : decode cL_isArea 72 = .ok (.iconst 0, 1) := by decide +kernel
theorem dL_isArea_73 : decode cL_isArea 73 = .ok (.istore 8, 2) := by decide +kernel
theorem dL_isArea_75 : decode cL_isArea 75 = .ok (.iload_n 1, 1) := by decide +kernel
theorem dL_isArea_76 : decode cL_isArea 76 = .ok (.iload 7, 2) := by decide +kernel
theorem dL_isArea_78 : decode cL_isArea 78 = .ok (.iand, 1) := by decide +kernel
theorem dL_isArea_79 : decode cL_isArea 79 = .ok (.ifCond .ne 7, 3) := by decide +kernel
theorem dL_isArea_82 : decode cL_isArea 82 = .ok (.iconst 1, 1) := by decide +kernel
theorem dL_isArea_83 : decode cL_isArea 83 = .ok (.goto 4, 3) := by decide +kernel
theorem dL_isArea_86 : decode cL_isArea 86 = .ok (.iconst 0, 1) := by decide +kernel
theorem dL_isArea_87 : decode cL_isArea 87 = .ok (.istore 9, 2) := by decide +kernel
theorem dL_isArea_89 : decode cL_isArea 89 = .ok (.iload_n 3, 1) := by decide +kernel
theorem dL_isArea_90 : decode cL_isArea 90 = .ok (.iload 8, 2) := by decide +kernel
theorem dL_isArea_92 : decode cL_isArea 92 = .ok (.ifCond .eq 15, 3) := by decide +kernel
theorem dL_isArea_95 : decode cL_isArea 95 = .ok (.iload_n 3, 1) := by decide +kernel
theorem dL_isArea_96 : decode cL_isArea 96 = .ok (.iload 7, 2) := by decide +kernel
theorem dL_isArea_98 : decode cL_isArea 98 = .ok (.iand, 1) := by decide +kernel
theorem dL_isArea_99 : decode cL_isArea 99 = .ok (.ifCond .eq 8, 3) := by decide +kernel
theorem dL_isArea_102 : decode cL_isArea 102 = .ok (.iload 7, 2) := by decide +kernel
theorem dL_isArea_104 : decode cL_isArea 104 = .ok (.goto 4, 3) := by decide +kernel
theorem dL_isArea_107 : decode cL_isArea 107 = .ok (.iconst 0, 1) := by decide +kernel
theorem dL_isArea_108 : decode cL_isArea 108 = .ok (.ior, 1) := by decide +kernel
theorem dL_isArea_109 : decode cL_isArea 109 = .ok (.istore_n 3, 1) := by decide +kernel
theorem dL_isArea_110 : decode cL_isArea 110 = .ok (.iload 4, 2) := by decide +kernel
theorem dL_isArea_112 : decode cL_isArea 112 = .ok (.iload 9, 2) := by decide +kernel
theorem dL_isArea_114 : decode cL_isArea 114 = .ok (.ifCond .eq 16, 3) := by decide +kernel
theorem dL_isArea_117 : decode cL_isArea 117 = .ok (.iload 4, 2) := by decide +kernel
theorem dL_isArea_119 : decode cL_isArea 119 = .ok (.iload 7, 2) := by decide +kernel
theorem dL_isArea_121 : decode cL_isArea 121 = .ok (.iand, 1) := by decide +kernel
theorem dL_isArea_122 : decode cL_isArea 122 = .ok (.ifCond .eq 8, 3) := by decide +kernel
theorem dL_isArea_125 : decode cL_isArea 125 = .ok (.iload 7, 2) := by decide +kernel
theorem dL_isArea_127 : decode cL_isArea 127 = .ok (.goto 4, 3) := by decide +kernel
theorem dL_isArea_130 : decode cL_isArea 130 = .ok (.iconst 0, 1) := by decide +kernel
theorem dL_isArea_131 : decode cL_isArea 131 = .ok (.ior, 1) := by decide +kernel
theorem dL_isArea_132 : decode cL_isArea 132 = .ok (.istore 4, 2) := by decide +kernel
theorem dL_isArea_134 : decode cL_isArea 134 = .ok (.iinc 6 1, 3) := by decide +kernel
theorem dL_isArea_137 : decode cL_isArea 137 = .ok (.goto (-106), 3) := by decide +kernel
theorem dL_isArea_140 : decode cL_isArea 140 = .ok (.iinc 5 1, 3) := by decide +kernel
theorem dL_isArea_143 : decode cL_isArea 143 = .ok (.goto (-122), 3) := by decide +kernel
theorem dL_isArea_146 : decode cL_isArea 146 = .ok (.iload_n 3, 1) := by decide +kernel
theorem dL_isArea_147 : decode cL_isArea 147 = .ok (.iload_n 1, 1) := by decide +kernel
theorem dL_isArea_148 : decode cL_isArea 148 = .ok (.if_icmp .ne 15, 3) := by decide +kernel
theorem dL_isArea_151 : decode cL_isArea 151 = .ok (.iload_n 3, 1) := by decide +kernel
theorem dL_isArea_152 : decode cL_isArea 152 = .ok (.iload 4, 2) := by decide +kernel
theorem dL_isArea_154 : decode cL_isArea 154 = .ok (.ior, 1) := by decide +kernel
theorem dL_isArea_155 : decode cL_isArea 155 = .ok (.iconst 2, 1) := by decide +kernel
theorem dL_isArea_156 : decode cL_isArea 156 = .ok (.iload_n 2, 1) := by decide +kernel
theorem dL_isArea_157 : decode cL_isArea 157 = .ok (.ishl, 1) := by decide +kernel
theorem dL_isArea_158 : decode cL_isArea 158 = .ok (.iconst 1, 1) := by decide +kernel
theorem dL_isArea_159 : decode cL_isArea 159 = .ok (.isub, 1) := by decide +kernel
theorem dL_isArea_160 : decode cL_isArea 160 = .ok (.if_icmp .eq 5, 3) := by decide +kernel
theorem dL_isArea_163 : decode cL_isArea 163 = .ok (.iconst 0, 1) := by decide +kernel
theorem dL_isArea_164 : decode cL_isArea 164 = .ok (.ireturn, 1) := by decide +kernel
theorem dL_isArea_165 : decode cL_isArea 165 = .ok (.iconst 1, 1) := by decide +kernel
theorem dL_isArea_166 : decode cL_isArea 166 = .ok (.istore 5, 2) := by decide +kernel
theorem dL_isArea_168 : decode cL_isArea 168 = .ok (.iload 5, 2) := by decide +kernel
theorem dL_isArea_170 : decode cL_isArea 170 = .ok (.aload_n 0, 1) := by decide +kernel
theorem dL_isArea_171 : decode cL_isArea 171 = .ok (.iconst 1, 1) := by decide +kernel
theorem dL_isArea_172 : decode cL_isArea 172 = .ok (.iaload, 1) := by decide +kernel
theorem dL_isArea_173 : decode cL_isArea 173 = .ok (.if_icmp .ge 85, 3) := by decide +kernel
theorem dL_isArea_176 : decode cL_isArea 176 = .ok (.iconst 1, 1) := by decide +kernel
theorem dL_isArea_177 : decode cL_isArea 177 = .ok (.istore 6, 2) := by decide +kernel
theorem dL_isArea_179 : decode cL_isArea 179 = .ok (.iload 6, 2) := by decide +kernel
theorem dL_isArea_181 : decode cL_isArea 181 = .ok (.aload_n 0, 1) := by decide +kernel
theorem dL_isArea_182 : decode cL_isArea 182 = .ok (.iconst 0, 1) := by decide +kernel
theorem dL_isArea_183 : decode cL_isArea 183 = .ok (.iaload, 1) := by decide +kernel
theorem dL_isArea_184 : decode cL_isArea 184 = .ok (.if_icmp .ge 68, 3) := by decide +kernel
theorem dL_isArea_187 : decode cL_isArea 187 = .ok (.iload_n 1, 1) := by decide +kernel
theorem dL_isArea_188 : decode cL_isArea 188 = .ok (.iload 5, 2) := by decide +kernel
theorem dL_isArea_190 : decode cL_isArea 190 = .ok (.iconst 1, 1) := by decide +kernel
theorem dL_isArea_191 : decode cL_isArea 191 = .ok (.isub, 1) := by decide +kernel
theorem dL_isArea_192 : decode cL_isArea 192 = .ok (.aload_n 0, 1) := by decide +kernel
theorem dL_isArea_193 : decode cL_isArea 193 = .ok (.iconst 0, 1) := by decide +kernel
theorem dL_isArea_194 : decode cL_isArea 194 = .ok (.iaload, 1) := by decide +kernel
theorem dL_isArea_195 : decode cL_isArea 195 = .ok (.imul, 1) := by decide +kernel
theorem dL_isArea_196 : decode cL_isArea 196 = .ok (.iload 6, 2) := by decide +kernel
theorem dL_isArea_198 : decode cL_isArea 198 = .ok (.iadd, 1) := by decide +kernel
theorem dL_isArea_199 : decode cL_isArea 199 = .ok (.iconst 1, 1) := by decide +kernel
theorem dL_isArea_200 : decode cL_isArea 200 = .ok (.isub, 1) := by decide +kernel
theorem dL_isArea_201 : decode cL_isArea 201 = .ok (.ishr, 1) := by decide +kernel
theorem dL_isArea_202 : decode cL_isArea 202 = .ok (.iconst 3, 1) := by decide +kernel
theorem dL_isArea_203 : decode cL_isArea 203 = .ok (.iand, 1) := by decide +kernel
theorem dL_isArea_204 : decode cL_isArea 204 = .ok (.istore 7, 2) := by decide +kernel
theorem dL_isArea_206 : decode cL_isArea 206 = .ok (.iload_n 1, 1) := by decide +kernel
theorem dL_isArea_207 : decode cL_isArea 207 = .ok (.iload 5, 2) := by decide +kernel
theorem dL_isArea_209 : decode cL_isArea 209 = .ok (.aload_n 0, 1) := by decide +kernel
theorem dL_isArea_210 : decode cL_isArea 210 = .ok (.iconst 0, 1) := by decide +kernel
theorem dL_isArea_211 : decode cL_isArea 211 = .ok (.iaload, 1) := by decide +kernel
theorem dL_isArea_212 : decode cL_isArea 212 = .ok (.imul, 1) := by decide +kernel
theorem dL_isArea_213 : decode cL_isArea 213 = .ok (.iload 6, 2) := by decide +kernel
theorem dL_isArea_215 : decode cL_isArea 215 = .ok (.iadd, 1) := by decide +kernel
theorem dL_isArea_216 : decode cL_isArea 216 = .ok (.iconst 1, 1) := by decide +kernel
theorem dL_isArea_217 : decode cL_isArea 217 = .ok (.isub, 1) := by decide +kernel
theorem dL_isArea_218 : decode cL_isArea 218 = .ok (.ishr, 1) := by decide +kernel
theorem dL_isArea_219 : decode cL_isArea 219 = .ok (.iconst 3, 1) := by decide +kernel
theorem dL_isArea_220 : decode cL_isArea 220 = .ok (.iand, 1) := by decide +kernel
theorem dL_isArea_221 : decode cL_isArea 221 = .ok (.istore 8, 2) := by decide +kernel
theorem dL_isArea_223 : decode cL_isArea 223 = .ok (.iload 7, 2) := by decide +kernel
theorem dL_isArea_225 : decode cL_isArea 225 = .ok (.iload 8, 2) := by decide +kernel
theorem dL_isArea_227 : decode cL_isArea 227 = .ok (.iadd, 1) := by decide +kernel
theorem dL_isArea_228 : decode cL_isArea 228 = .ok (.iconst 3, 1) := by decide +kernel
theorem dL_isArea_229 : decode cL_isArea 229 = .ok (.if_icmp .ne 17, 3) := by decide +kernel
theorem dL_isArea_232 : decode cL_isArea 232 = .ok (.iload 7, 2) := by decide +kernel
theorem dL_isArea_234 : decode cL_isArea 234 = .ok (.iconst 1, 1) := by decide +kernel
theorem dL_isArea_235 : decode cL_isArea 235 = .ok (.if_icmp .eq 9, 3) := by decide +kernel
theorem dL_isArea_238 : decode cL_isArea 238 = .ok (.iload 7, 2) := by decide +kernel
theorem dL_isArea_240 : decode cL_isArea 240 = .ok (.iconst 2, 1) := by decide +kernel
theorem dL_isArea_241 : decode cL_isArea 241 = .ok (.if_icmp .ne 5, 3) := by decide +kernel
theorem dL_isArea_244 : decode cL_isArea 244 = .ok (.iconst 0, 1) := by decide +kernel
theorem dL_isArea_245 : decode cL_isArea 245 = .ok (.ireturn, 1) := by decide +kernel
theorem dL_isArea_246 : decode cL_isArea 246 = .ok (.iinc 6 1, 3) := by decide +kernel
theorem dL_isArea_249 : decode cL_isArea 249 = .ok (.goto (-70), 3) := by decide +kernel
theorem dL_isArea_252 : decode cL_isArea 252 = .ok (.iinc 5 1, 3) := by decide +kernel
theorem dL_isArea_255 : decode cL_isArea 255 = .ok (.goto (-87), 3) := by decide +kernel
theorem dL_isArea_258 : decode cL_isArea 258 = .ok (.iconst 1, 1) := by decide +kernel
theorem dL_isArea_259 : decode cL_isArea 259 = .ok (.ireturn, 1) := by decide +kernel
theorem dL_lines_0 : decode cL_lines 0 = .ok (.bipush 24, 2) := by decide +kernel
theorem dL_lines_2 : decode cL_lines 2 = .ok (.newarray .int, 2) := by decide +kernel
theorem dL_lines_4 : decode cL_lines 4 = .ok (.astore 5, 2) := by decide +kernel
theorem dL_lines_6 : decode cL_lines 6 = .ok (.lconst 0, 1) := by decide +kernel
theorem dL_lines_7 : decode cL_lines 7 = .ok (.lstore 6, 2) := by decide +kernel
theorem dL_lines_9 : decode cL_lines 9 = .ok (.iconst 0, 1) := by decide +kernel
theorem dL_lines_10 : decode cL_lines 10 = .ok (.istore 8, 2) := by decide +kernel
theorem dL_lines_12 : decode cL_lines 12 = .ok (.iload 8, 2) := by decide +kernel
theorem dL_lines_14 : decode cL_lines 14 = .ok (.aload_n 0, 1) := by decide +kernel
theorem dL_lines_15 : decode cL_lines 15 = .ok (.invokestatic 32, 3) := by decide +kernel
theorem dL_lines_18 : decode cL_lines 18 = .ok (.if_icmp .ge 93, 3) := by decide +kernel
theorem dL_lines_21 : decode cL_lines 21 = .ok (.iload_n 3, 1) := by decide +kernel
theorem dL_lines_22 : decode cL_lines 22 = .ok (.aload_n 0, 1) := by decide +kernel
theorem dL_lines_23 : decode cL_lines 23 = .ok (.iload 8, 2) := by decide +kernel
theorem dL_lines_25 : decode cL_lines 25 = .ok (.invokestatic 39, 3) := by decide +kernel
theorem dL_lines_28 : decode cL_lines 28 = .ok (.ishr, 1) := by decide +kernel
theorem dL_lines_29 : decode cL_lines 29 = .ok (.iconst 1, 1) := by decide +kernel
theorem dL_lines_30 : decode cL_lines 30 = .ok (.iand, 1) := by decide +kernel
theorem dL_lines_31 : decode cL_lines 31 = .ok (.iload_n 3, 1) := by decide +kernel
theorem dL_lines_32 : decode cL_lines 32 = .ok (.aload_n 0, 1) := by decide +kernel
theorem dL_lines_33 : decode cL_lines 33 = .ok (.iload 8, 2) := by decide +kernel
theorem dL_lines_35 : decode cL_lines 35 = .ok (.invokestatic 42, 3) := by decide +kernel
theorem dL_lines_38 : decode cL_lines 38 = .ok (.ishr, 1) := by decide +kernel
theorem dL_lines_39 : decode cL_lines 39 = .ok (.iconst 1, 1) := by decide +kernel
theorem dL_lines_40 : decode cL_lines 40 = .ok (.iand, 1) := by decide +kernel
theorem dL_lines_41 : decode cL_lines 41 = .ok (.if_icmp .eq 7, 3) := by decide +kernel
theorem dL_lines_44 : decode cL_lines 44 = .ok (.iconst 1, 1) := by decide +kernel
theorem dL_lines_45 : decode cL_lines 45 = .ok (.goto 4, 3) := by decide +kernel
theorem dL_lines_48 : decode cL_lines 48 = .ok (.iconst 0, 1) := by decide +kernel
theorem dL_lines_49 : decode cL_lines 49 = .ok (.istore 9, 2) := by decide +kernel
theorem dL_lines_51 : decode cL_lines 51 = .ok (.aload 5, 2) := by decide +kernel
theorem dL_lines_53 : decode cL_lines 53 = .ok (.iload 8, 2) := by decide +kernel
theorem dL_lines_55 : decode cL_lines 55 = .ok (.iload 9, 2) := by decide +kernel
theorem dL_lines_57 : decode cL_lines 57 = .ok (.ifCond .eq 7, 3) := by decide +kernel
theorem dL_lines_60 : decode cL_lines 60 = .ok (.iconst 1, 1) := by decide +kernel
theorem dL_lines_61 : decode cL_lines 61 = .ok (.goto 4, 3) := by decide +kernel
theorem dL_lines_64 : decode cL_lines 64 = .ok (.iconst 2, 1) := by decide +kernel
theorem dL_lines_65 : decode cL_lines 65 = .ok (.iastore, 1) := by decide +kernel
theorem dL_lines_66 : decode cL_lines 66 = .ok (.lload 6, 2) := by decide +kernel
theorem dL_lines_68 : decode cL_lines 68 = .ok (.iload 9, 2) := by decide +kernel
theorem dL_lines_70 : decode cL_lines 70 = .ok (.ifCond .eq 10, 3) := by decide +kernel
theorem dL_lines_73 : decode cL_lines 73 = .ok (.lconst 1, 1) := by decide +kernel
theorem dL_lines_74 : decode cL_lines 74 = .ok (.iload 8, 2) := by decide +kernel
theorem dL_lines_76 : decode cL_lines 76 = .ok (.lshl, 1) := by decide +kernel
theorem dL_lines_77 : decode cL_lines 77 = .ok (.goto 4, 3) := by decide +kernel
theorem dL_lines_80 : decode cL_lines 80 = .ok (.lconst 0, 1) := by decide +kernel
theorem dL_lines_81 : decode cL_lines 81 = .ok (.lor, 1) := by decide +kernel
theorem dL_lines_82 : decode cL_lines 82 = .ok (.lstore 6, 2) := by decide +kernel
theorem dL_lines_84 : decode cL_lines 84 = .ok (.aload_n 1, 1) := by decide +kernel
theorem dL_lines_85 : decode cL_lines 85 = .ok (.iload 8, 2) := by decide +kernel
theorem dL_lines_87 : decode cL_lines 87 = .ok (.iaload, 1) := by decide +kernel
theorem dL_lines_88 : decode cL_lines 88 = .ok (.ifCond .eq 17, 3) := by decide +kernel
theorem dL_lines_91 : decode cL_lines 91 = .ok (.aload_n 1, 1) := by decide +kernel
theorem dL_lines_92 : decode cL_lines 92 = .ok (.iload 8, 2) := by decide +kernel
theorem dL_lines_94 : decode cL_lines 94 = .ok (.iaload, 1) := by decide +kernel
theorem dL_lines_95 : decode cL_lines 95 = .ok (.aload 5, 2) := by decide +kernel
theorem dL_lines_97 : decode cL_lines 97 = .ok (.iload 8, 2) := by decide +kernel
theorem dL_lines_99 : decode cL_lines 99 = .ok (.iaload, 1) := by decide +kernel
theorem dL_lines_100 : decode cL_lines 100 = .ok (.if_icmp .eq 5, 3) := by decide +kernel
theorem dL_lines_103 : decode cL_lines 103 = .ok (.lconst 0, 1) := by decide +kernel
theorem dL_lines_104 : decode cL_lines 104 = .ok (.lreturn, 1) := by decide +kernel
theorem dL_lines_105 : decode cL_lines 105 = .ok (.iinc 8 1, 3) := by decide +kernel
theorem dL_lines_108 : decode cL_lines 108 = .ok (.goto (-96), 3) := by decide +kernel
theorem dL_lines_111 : decode cL_lines 111 = .ok (.aload_n 0, 1) := by decide +kernel
theorem dL_lines_112 : decode cL_lines 112 = .ok (.aload 5, 2) := by decide +kernel
theorem dL_lines_114 : decode cL_lines 114 = .ok (.aload_n 2, 1) := by decide +kernel
theorem dL_lines_115 : decode cL_lines 115 = .ok (.iload 4, 2) := by decide +kernel
theorem dL_lines_117 : decode cL_lines 117 = .ok (.invokestatic 55, 3) := by decide +kernel
theorem dL_lines_120 : decode cL_lines 120 = .ok (.ifCond .eq 8, 3) := by decide +kernel
theorem dL_lines_123 : decode cL_lines 123 = .ok (.lload 6, 2) := by decide +kernel
theorem dL_lines_125 : decode cL_lines 125 = .ok (.goto 4, 3) := by decide +kernel
theorem dL_lines_128 : decode cL_lines 128 = .ok (.lconst 0, 1) := by decide +kernel
theorem dL_lines_129 : decode cL_lines 129 = .ok (.lreturn, 1) := by decide +kernel
theorem dL_answers_0 : decode cL_answers 0 = .ok (.iconst 0, 1) := by decide +kernel
theorem dL_answers_1 : decode cL_answers 1 = .ok (.istore 8, 2) := by decide +kernel
theorem dL_answers_3 : decode cL_answers 3 = .ok (.aload 7, 2) := by decide +kernel
theorem dL_answers_5 : decode cL_answers 5 = .ok (.iconst 3, 1) := by decide +kernel
theorem dL_answers_6 : decode cL_answers 6 = .ok (.iconst 0, 1) := by decide +kernel
theorem dL_answers_7 : decode cL_answers 7 = .ok (.iastore, 1) := by decide +kernel
theorem dL_answers_8 : decode cL_answers 8 = .ok (.iconst 0, 1) := by decide +kernel
theorem dL_answers_9 : decode cL_answers 9 = .ok (.istore 9, 2) := by decide +kernel
theorem dL_answers_11 : decode cL_answers 11 = .ok (.iload 9, 2) := by decide +kernel
theorem dL_answers_13 : decode cL_answers 13 = .ok (.bipush 24, 2) := by decide +kernel
theorem dL_answers_15 : decode cL_answers 15 = .ok (.if_icmp .ge 15, 3) := by decide +kernel
theorem dL_answers_18 : decode cL_answers 18 = .ok (.aload 6, 2) := by decide +kernel
theorem dL_answers_20 : decode cL_answers 20 = .ok (.iload 9, 2) := by decide +kernel
theorem dL_answers_22 : decode cL_answers 22 = .ok (.iconst 0, 1) := by decide +kernel
theorem dL_answers_23 : decode cL_answers 23 = .ok (.iastore, 1) := by decide +kernel
theorem dL_answers_24 : decode cL_answers 24 = .ok (.iinc 9 1, 3) := by decide +kernel
theorem dL_answers_27 : decode cL_answers 27 = .ok (.goto (-16), 3) := by decide +kernel
theorem dL_answers_30 : decode cL_answers 30 = .ok (.iconst 1, 1) := by decide +kernel
theorem dL_answers_31 : decode cL_answers 31 = .ok (.istore 9, 2) := by decide +kernel
theorem dL_answers_33 : decode cL_answers 33 = .ok (.iload 9, 2) := by decide +kernel
theorem dL_answers_35 : decode cL_answers 35 = .ok (.iconst 1, 1) := by decide +kernel
theorem dL_answers_36 : decode cL_answers 36 = .ok (.aload_n 0, 1) := by decide +kernel
theorem dL_answers_37 : decode cL_answers 37 = .ok (.iconst 0, 1) := by decide +kernel
theorem dL_answers_38 : decode cL_answers 38 = .ok (.iaload, 1) := by decide +kernel
theorem dL_answers_39 : decode cL_answers 39 = .ok (.aload_n 0, 1) := by decide +kernel
theorem dL_answers_40 : decode cL_answers 40 = .ok (.iconst 1, 1) := by decide +kernel
theorem dL_answers_41 : decode cL_answers 41 = .ok (.iaload, 1) := by decide +kernel
theorem dL_answers_42 : decode cL_answers 42 = .ok (.imul, 1) := by decide +kernel
theorem dL_answers_43 : decode cL_answers 43 = .ok (.ishl, 1) := by decide +kernel
theorem dL_answers_44 : decode cL_answers 44 = .ok (.if_icmp .ge 136, 3) := by decide +kernel
theorem dL_answers_47 : decode cL_answers 47 = .ok (.aload_n 0, 1) := by decide +kernel
theorem dL_answers_48 : decode cL_answers 48 = .ok (.aload_n 1, 1) := by decide +kernel
theorem dL_answers_49 : decode cL_answers 49 = .ok (.aload_n 2, 1) := by decide +kernel
theorem dL_answers_50 : decode cL_answers 50 = .ok (.iload 9, 2) := by decide +kernel
theorem dL_answers_52 : decode cL_answers 52 = .ok (.iload_n 3, 1) := by decide +kernel
theorem dL_answers_53 : decode cL_answers 53 = .ok (.invokestatic 75, 3) := by decide +kernel
theorem dL_answers_56 : decode cL_answers 56 = .ok (.lstore 10, 2) := by decide +kernel
theorem dL_answers_58 : decode cL_answers 58 = .ok (.lload 10, 2) := by decide +kernel
theorem dL_answers_60 : decode cL_answers 60 = .ok (.lconst 0, 1) := by decide +kernel
theorem dL_answers_61 : decode cL_answers 61 = .ok (.lcmp, 1) := by decide +kernel
theorem dL_answers_62 : decode cL_answers 62 = .ok (.ifCond .eq 112, 3) := by decide +kernel
theorem dL_answers_65 : decode cL_answers 65 = .ok (.aload_n 0, 1) := by decide +kernel
theorem dL_answers_66 : decode cL_answers 66 = .ok (.iload 9, 2) := by decide +kernel
theorem dL_answers_68 : decode cL_answers 68 = .ok (.invokestatic 79, 3) := by decide +kernel
theorem dL_answers_71 : decode cL_answers 71 = .ok (.ifCond .eq 103, 3) := by decide +kernel
theorem dL_answers_74 : decode cL_answers 74 = .ok (.iinc 8 1, 3) := by decide +kernel
theorem dL_answers_77 : decode cL_answers 77 = .ok (.iconst 0, 1) := by decide +kernel
theorem dL_answers_78 : decode cL_answers 78 = .ok (.istore 12, 2) := by decide +kernel
theorem dL_answers_80 : decode cL_answers 80 = .ok (.iload 12, 2) := by decide +kernel
theorem dL_answers_82 : decode cL_answers 82 = .ok (.bipush 24, 2) := by decide +kernel
theorem dL_answers_84 : decode cL_answers 84 = .ok (.if_icmp .ge 27, 3) := by decide +kernel
theorem dL_answers_87 : decode cL_answers 87 = .ok (.lload 10, 2) := by decide +kernel
theorem dL_answers_89 : decode cL_answers 89 = .ok (.iload 12, 2) := by decide +kernel
theorem dL_answers_91 : decode cL_answers 91 = .ok (.lshr, 1) := by decide +kernel
theorem dL_answers_92 : decode cL_answers 92 = .ok (.lconst 1, 1) := by decide +kernel
theorem dL_answers_93 : decode cL_answers 93 = .ok (.land, 1) := by decide +kernel
theorem dL_answers_94 : decode cL_answers 94 = .ok (.lload 4, 2) := by decide +kernel
theorem dL_answers_96 : decode cL_answers 96 = .ok (.iload 12, 2) := by decide +kernel
theorem dL_answers_98 : decode cL_answers 98 = .ok (.lshr, 1) := by decide +kernel
theorem dL_answers_99 : decode cL_answers 99 = .ok (.lconst 1, 1) := by decide +kernel
theorem dL_answers_100 : decode cL_answers 100 = .ok (.land, 1) := by decide +kernel
theorem dL_answers_101 : decode cL_answers 101 = .ok (.lcmp, 1) := by decide +kernel
theorem dL_answers_102 : decode cL_answers 102 = .ok (.ifCond .ne 9, 3) := by decide +kernel
theorem dL_answers_105 : decode cL_answers 105 = .ok (.iinc 12 1, 3) := by decide +kernel
theorem dL_answers_108 : decode cL_answers 108 = .ok (.goto (-28), 3) := by decide +kernel
theorem dL_answers_111 : decode cL_answers 111 = .ok (.aload 7, 2) := by decide +kernel
theorem dL_answers_113 : decode cL_answers 113 = .ok (.iconst 3, 1) := by decide +kernel
theorem dL_answers_114 : decode cL_answers 114 = .ok (.dup2, 1) := by decide +kernel
theorem dL_answers_115 : decode cL_answers 115 = .ok (.iaload, 1) := by decide +kernel
theorem dL_answers_116 : decode cL_answers 116 = .ok (.iload 12, 2) := by decide +kernel
theorem dL_answers_118 : decode cL_answers 118 = .ok (.bipush 24, 2) := by decide +kernel
theorem dL_answers_120 : decode cL_answers 120 = .ok (.if_icmp .ge 19, 3) := by decide +kernel
theorem dL_answers_123 : decode cL_answers 123 = .ok (.lload 10, 2) := by decide +kernel
theorem dL_answers_125 : decode cL_answers 125 = .ok (.iload 12, 2) := by decide +kernel
theorem dL_answers_127 : decode cL_answers 127 = .ok (.lshr, 1) := by decide +kernel
theorem dL_answers_128 : decode cL_answers 128 = .ok (.lconst 1, 1) := by decide +kernel
theorem dL_answers_129 : decode cL_answers 129 = .ok (.land, 1) := by decide +kernel
theorem dL_answers_130 : decode cL_answers 130 = .ok (.lconst 1, 1) := by decide +kernel
theorem dL_answers_131 : decode cL_answers 131 = .ok (.lcmp, 1) := by decide +kernel
theorem dL_answers_132 : decode cL_answers 132 = .ok (.ifCond .ne 7, 3) := by decide +kernel
theorem dL_answers_135 : decode cL_answers 135 = .ok (.iconst 1, 1) := by decide +kernel
theorem dL_answers_136 : decode cL_answers 136 = .ok (.goto 4, 3) := by decide +kernel
theorem dL_answers_139 : decode cL_answers 139 = .ok (.iconst 0, 1) := by decide +kernel
theorem dL_answers_140 : decode cL_answers 140 = .ok (.iadd, 1) := by decide +kernel
theorem dL_answers_141 : decode cL_answers 141 = .ok (.iastore, 1) := by decide +kernel
theorem dL_answers_142 : decode cL_answers 142 = .ok (.iconst 0, 1) := by decide +kernel
theorem dL_answers_143 : decode cL_answers 143 = .ok (.istore 13, 2) := by decide +kernel
theorem dL_answers_145 : decode cL_answers 145 = .ok (.iload 13, 2) := by decide +kernel
theorem dL_answers_147 : decode cL_answers 147 = .ok (.bipush 24, 2) := by decide +kernel
theorem dL_answers_149 : decode cL_answers 149 = .ok (.if_icmp .ge 25, 3) := by decide +kernel
theorem dL_answers_152 : decode cL_answers 152 = .ok (.aload 6, 2) := by decide +kernel
theorem dL_answers_154 : decode cL_answers 154 = .ok (.iload 13, 2) := by decide +kernel
theorem dL_answers_156 : decode cL_answers 156 = .ok (.dup2, 1) := by decide +kernel
theorem dL_answers_157 : decode cL_answers 157 = .ok (.iaload, 1) := by decide +kernel
theorem dL_answers_158 : decode cL_answers 158 = .ok (.lload 10, 2) := by decide +kernel
theorem dL_answers_160 : decode cL_answers 160 = .ok (.iload 13, 2) := by decide +kernel
theorem dL_answers_162 : decode cL_answers 162 = .ok (.lshr, 1) := by decide +kernel
theorem dL_answers_163 : decode cL_answers 163 = .ok (.lconst 1, 1) := by decide +kernel
theorem dL_answers_164 : decode cL_answers 164 = .ok (.land, 1) := by decide +kernel
theorem dL_answers_165 : decode cL_answers 165 = .ok (.l2i, 1) := by decide +kernel
theorem dL_answers_166 : decode cL_answers 166 = .ok (.iadd, 1) := by decide +kernel
theorem dL_answers_167 : decode cL_answers 167 = .ok (.iastore, 1) := by decide +kernel
theorem dL_answers_168 : decode cL_answers 168 = .ok (.iinc 13 1, 3) := by decide +kernel
theorem dL_answers_171 : decode cL_answers 171 = .ok (.goto (-26), 3) := by decide +kernel
theorem dL_answers_174 : decode cL_answers 174 = .ok (.iinc 9 1, 3) := by decide +kernel
theorem dL_answers_177 : decode cL_answers 177 = .ok (.goto (-144), 3) := by decide +kernel
theorem dL_answers_180 : decode cL_answers 180 = .ok (.iload 8, 2) := by decide +kernel
theorem dL_answers_182 : decode cL_answers 182 = .ok (.ireturn, 1) := by decide +kernel
theorem dL_tells_0 : decode cL_tells 0 = .ok (.iload_n 1, 1) := by decide +kernel
theorem dL_tells_1 : decode cL_tells 1 = .ok (.ifCond .eq 12, 3) := by decide +kernel
theorem dL_tells_4 : decode cL_tells 4 = .ok (.aload_n 0, 1) := by decide +kernel
theorem dL_tells_5 : decode cL_tells 5 = .ok (.iload_n 2, 1) := by decide +kernel
theorem dL_tells_6 : decode cL_tells 6 = .ok (.iload_n 3, 1) := by decide +kernel
theorem dL_tells_7 : decode cL_tells 7 = .ok (.invokevirtual 82, 3) := by decide +kernel
theorem dL_tells_10 : decode cL_tells 10 = .ok (.goto 9, 3) := by decide +kernel
theorem dL_tells_13 : decode cL_tells 13 = .ok (.aload_n 0, 1) := by decide +kernel
theorem dL_tells_14 : decode cL_tells 14 = .ok (.iload_n 2, 1) := by decide +kernel
theorem dL_tells_15 : decode cL_tells 15 = .ok (.iload_n 3, 1) := by decide +kernel
theorem dL_tells_16 : decode cL_tells 16 = .ok (.invokevirtual 88, 3) := by decide +kernel
theorem dL_tells_19 : decode cL_tells 19 = .ok (.ireturn, 1) := by decide +kernel
theorem dL_tells_20 : decode cL_tells 20 = .ok (.astore 4, 2) := by decide +kernel
theorem dL_tells_22 : decode cL_tells 22 = .ok (.bipush (-101), 2) := by decide +kernel
theorem dL_tells_24 : decode cL_tells 24 = .ok (.ireturn, 1) := by decide +kernel
theorem dL_tells_25 : decode cL_tells 25 = .ok (.astore 4, 2) := by decide +kernel
theorem dL_tells_27 : decode cL_tells 27 = .ok (.bipush (-102), 2) := by decide +kernel
theorem dL_tells_29 : decode cL_tells 29 = .ok (.ireturn, 1) := by decide +kernel
theorem dL_laid_0 : decode cL_laid 0 = .ok (.aload_n 0, 1) := by decide +kernel
theorem dL_laid_1 : decode cL_laid 1 = .ok (.iload_n 1, 1) := by decide +kernel
theorem dL_laid_2 : decode cL_laid 2 = .ok (.iload_n 2, 1) := by decide +kernel
theorem dL_laid_3 : decode cL_laid 3 = .ok (.invokevirtual 95, 3) := by decide +kernel
theorem dL_laid_6 : decode cL_laid 6 = .ok (.iconst 0, 1) := by decide +kernel
theorem dL_laid_7 : decode cL_laid 7 = .ok (.ireturn, 1) := by decide +kernel
theorem dL_laid_8 : decode cL_laid 8 = .ok (.astore_n 3, 1) := by decide +kernel
theorem dL_laid_9 : decode cL_laid 9 = .ok (.bipush (-101), 2) := by decide +kernel
theorem dL_laid_11 : decode cL_laid 11 = .ok (.ireturn, 1) := by decide +kernel
theorem dL_of_0 : decode cL_of 0 = .ok (.iload_n 1, 1) := by decide +kernel
theorem dL_of_1 : decode cL_of 1 = .ok (.ifCond .ne 11, 3) := by decide +kernel
theorem dL_of_4 : decode cL_of 4 = .ok (.aload_n 0, 1) := by decide +kernel
theorem dL_of_5 : decode cL_of 5 = .ok (.iload_n 2, 1) := by decide +kernel
theorem dL_of_6 : decode cL_of 6 = .ok (.invokevirtual 99, 3) := by decide +kernel
theorem dL_of_9 : decode cL_of 9 = .ok (.goto 73, 3) := by decide +kernel
theorem dL_of_12 : decode cL_of 12 = .ok (.iload_n 1, 1) := by decide +kernel
theorem dL_of_13 : decode cL_of 13 = .ok (.iconst 1, 1) := by decide +kernel
theorem dL_of_14 : decode cL_of 14 = .ok (.if_icmp .ne 11, 3) := by decide +kernel
theorem dL_of_17 : decode cL_of 17 = .ok (.aload_n 0, 1) := by decide +kernel
theorem dL_of_18 : decode cL_of 18 = .ok (.iload_n 2, 1) := by decide +kernel
theorem dL_of_19 : decode cL_of 19 = .ok (.invokevirtual 103, 3) := by decide +kernel
theorem dL_of_22 : decode cL_of 22 = .ok (.goto 60, 3) := by decide +kernel
theorem dL_of_25 : decode cL_of 25 = .ok (.iload_n 1, 1) := by decide +kernel
theorem dL_of_26 : decode cL_of 26 = .ok (.iconst 2, 1) := by decide +kernel
theorem dL_of_27 : decode cL_of 27 = .ok (.if_icmp .ne 11, 3) := by decide +kernel
theorem dL_of_30 : decode cL_of 30 = .ok (.aload_n 0, 1) := by decide +kernel
theorem dL_of_31 : decode cL_of 31 = .ok (.iload_n 2, 1) := by decide +kernel
theorem dL_of_32 : decode cL_of 32 = .ok (.invokevirtual 106, 3) := by decide +kernel
theorem dL_of_35 : decode cL_of 35 = .ok (.goto 47, 3) := by decide +kernel
theorem dL_of_38 : decode cL_of 38 = .ok (.iload_n 1, 1) := by decide +kernel
theorem dL_of_39 : decode cL_of 39 = .ok (.iconst 3, 1) := by decide +kernel
theorem dL_of_40 : decode cL_of 40 = .ok (.if_icmp .ne 12, 3) := by decide +kernel
theorem dL_of_43 : decode cL_of 43 = .ok (.aload_n 0, 1) := by decide +kernel
theorem dL_of_44 : decode cL_of 44 = .ok (.iload_n 2, 1) := by decide +kernel
theorem dL_of_45 : decode cL_of 45 = .ok (.iload_n 3, 1) := by decide +kernel
theorem dL_of_46 : decode cL_of 46 = .ok (.invokevirtual 109, 3) := by decide +kernel
theorem dL_of_49 : decode cL_of 49 = .ok (.goto 33, 3) := by decide +kernel
theorem dL_of_52 : decode cL_of 52 = .ok (.iload_n 1, 1) := by decide +kernel
theorem dL_of_53 : decode cL_of 53 = .ok (.iconst 4, 1) := by decide +kernel
theorem dL_of_54 : decode cL_of 54 = .ok (.if_icmp .ne 14, 3) := by decide +kernel
theorem dL_of_57 : decode cL_of 57 = .ok (.aload_n 0, 1) := by decide +kernel
theorem dL_of_58 : decode cL_of 58 = .ok (.iload_n 2, 1) := by decide +kernel
theorem dL_of_59 : decode cL_of 59 = .ok (.invokevirtual 112, 3) := by decide +kernel
theorem dL_of_62 : decode cL_of 62 = .ok (.ifCond .eq 19, 3) := by decide +kernel
theorem dL_of_65 : decode cL_of 65 = .ok (.goto 12, 3) := by decide +kernel
theorem dL_of_68 : decode cL_of 68 = .ok (.aload_n 0, 1) := by decide +kernel
theorem dL_of_69 : decode cL_of 69 = .ok (.iload_n 2, 1) := by decide +kernel
theorem dL_of_70 : decode cL_of 70 = .ok (.iload_n 3, 1) := by decide +kernel
theorem dL_of_71 : decode cL_of 71 = .ok (.invokevirtual 116, 3) := by decide +kernel
theorem dL_of_74 : decode cL_of 74 = .ok (.ifCond .eq 7, 3) := by decide +kernel
theorem dL_of_77 : decode cL_of 77 = .ok (.iconst 1, 1) := by decide +kernel
theorem dL_of_78 : decode cL_of 78 = .ok (.goto 4, 3) := by decide +kernel
theorem dL_of_81 : decode cL_of 81 = .ok (.iconst 0, 1) := by decide +kernel
theorem dL_of_82 : decode cL_of 82 = .ok (.ireturn, 1) := by decide +kernel
theorem dL_of_83 : decode cL_of 83 = .ok (.astore 4, 2) := by decide +kernel
theorem dL_of_85 : decode cL_of 85 = .ok (.bipush (-101), 2) := by decide +kernel
theorem dL_of_87 : decode cL_of 87 = .ok (.ireturn, 1) := by decide +kernel
theorem dL_answer_0 : decode cL_answer 0 = .ok (.aload_n 0, 1) := by decide +kernel
theorem dL_answer_1 : decode cL_answer 1 = .ok (.iload_n 1, 1) := by decide +kernel
theorem dL_answer_2 : decode cL_answer 2 = .ok (.invokevirtual 120, 3) := by decide +kernel
theorem dL_answer_5 : decode cL_answer 5 = .ok (.lreturn, 1) := by decide +kernel
theorem dL_answer_6 : decode cL_answer 6 = .ok (.astore_n 2, 1) := by decide +kernel
theorem dL_answer_7 : decode cL_answer 7 = .ok (.ldc2_w 124, 3) := by decide +kernel
theorem dL_answer_10 : decode cL_answer 10 = .ok (.lreturn, 1) := by decide +kernel
theorem dL_proved_0 : decode cL_proved 0 = .ok (.aload_n 0, 1) := by decide +kernel
theorem dL_proved_1 : decode cL_proved 1 = .ok (.iload_n 1, 1) := by decide +kernel
theorem dL_proved_2 : decode cL_proved 2 = .ok (.invokevirtual 126, 3) := by decide +kernel
theorem dL_proved_5 : decode cL_proved 5 = .ok (.ireturn, 1) := by decide +kernel
theorem dL_proved_6 : decode cL_proved 6 = .ok (.astore_n 2, 1) := by decide +kernel
theorem dL_proved_7 : decode cL_proved 7 = .ok (.bipush (-101), 2) := by decide +kernel
theorem dL_proved_9 : decode cL_proved 9 = .ok (.ireturn, 1) := by decide +kernel
theorem dL_proved_10 : decode cL_proved 10 = .ok (.astore_n 2, 1) := by decide +kernel
theorem dL_proved_11 : decode cL_proved 11 = .ok (.bipush (-102), 2) := by decide +kernel
theorem dL_proved_13 : decode cL_proved 13 = .ok (.ireturn, 1) := by decide +kernel
theorem dL_beyond_0 : decode cL_beyond 0 = .ok (.aload_n 0, 1) := by decide +kernel
theorem dL_beyond_1 : decode cL_beyond 1 = .ok (.invokevirtual 131, 3) := by decide +kernel
theorem dL_beyond_4 : decode cL_beyond 4 = .ok (.ireturn, 1) := by decide +kernel
theorem dL_beyond_5 : decode cL_beyond 5 = .ok (.astore_n 1, 1) := by decide +kernel
theorem dL_beyond_6 : decode cL_beyond 6 = .ok (.bipush (-101), 2) := by decide +kernel
theorem dL_beyond_8 : decode cL_beyond 8 = .ok (.ireturn, 1) := by decide +kernel
theorem dL_acts_0 : decode cL_acts 0 = .ok (.iload_n 1, 1) := by decide +kernel
theorem dL_acts_1 : decode cL_acts 1 = .ok (.ifCond .ne 165, 3) := by decide +kernel
theorem dL_acts_4 : decode cL_acts 4 = .ok (.iload_n 2, 1) := by decide +kernel
theorem dL_acts_5 : decode cL_acts 5 = .ok (.bipush 30, 2) := by decide +kernel
theorem dL_acts_7 : decode cL_acts 7 = .ok (.invokestatic 135, 3) := by decide +kernel
theorem dL_acts_10 : decode cL_acts 10 = .ok (.ifCond .ne 7, 3) := by decide +kernel
theorem dL_acts_13 : decode cL_acts 13 = .ok (.iconst 5, 1) := by decide +kernel
theorem dL_acts_14 : decode cL_acts 14 = .ok (.goto 10, 3) := by decide +kernel
theorem dL_acts_17 : decode cL_acts 17 = .ok (.iconst 1, 1) := by decide +kernel
theorem dL_acts_18 : decode cL_acts 18 = .ok (.iload_n 2, 1) := by decide +kernel
theorem dL_acts_19 : decode cL_acts 19 = .ok (.iconst 3, 1) := by decide +kernel
theorem dL_acts_20 : decode cL_acts 20 = .ok (.invokestatic 135, 3) := by decide +kernel
theorem dL_acts_23 : decode cL_acts 23 = .ok (.iadd, 1) := by decide +kernel
theorem dL_acts_24 : decode cL_acts 24 = .ok (.istore 6, 2) := by decide +kernel
theorem dL_acts_26 : decode cL_acts 26 = .ok (.iload_n 2, 1) := by decide +kernel
theorem dL_acts_27 : decode cL_acts 27 = .ok (.iconst 3, 1) := by decide +kernel
theorem dL_acts_28 : decode cL_acts 28 = .ok (.ishr, 1) := by decide +kernel
theorem dL_acts_29 : decode cL_acts 29 = .ok (.bipush 30, 2) := by decide +kernel
theorem dL_acts_31 : decode cL_acts 31 = .ok (.invokestatic 135, 3) := by decide +kernel
theorem dL_acts_34 : decode cL_acts 34 = .ok (.ifCond .ne 7, 3) := by decide +kernel
theorem dL_acts_37 : decode cL_acts 37 = .ok (.iconst 0, 1) := by decide +kernel
theorem dL_acts_38 : decode cL_acts 38 = .ok (.goto 12, 3) := by decide +kernel
theorem dL_acts_41 : decode cL_acts 41 = .ok (.iconst 1, 1) := by decide +kernel
theorem dL_acts_42 : decode cL_acts 42 = .ok (.iload_n 2, 1) := by decide +kernel
theorem dL_acts_43 : decode cL_acts 43 = .ok (.iconst 3, 1) := by decide +kernel
theorem dL_acts_44 : decode cL_acts 44 = .ok (.ishr, 1) := by decide +kernel
theorem dL_acts_45 : decode cL_acts 45 = .ok (.iconst 3, 1) := by decide +kernel
theorem dL_acts_46 : decode cL_acts 46 = .ok (.invokestatic 135, 3) := by decide +kernel
theorem dL_acts_49 : decode cL_acts 49 = .ok (.iadd, 1) := by decide +kernel
theorem dL_acts_50 : decode cL_acts 50 = .ok (.istore 7, 2) := by decide +kernel
theorem dL_acts_52 : decode cL_acts 52 = .ok (.iload 6, 2) := by decide +kernel
theorem dL_acts_54 : decode cL_acts 54 = .ok (.iconst 5, 1) := by decide +kernel
theorem dL_acts_55 : decode cL_acts 55 = .ok (.if_icmp .ge 12, 3) := by decide +kernel
theorem dL_acts_58 : decode cL_acts 58 = .ok (.iload 7, 2) := by decide +kernel
theorem dL_acts_60 : decode cL_acts 60 = .ok (.ifCond .le 7, 3) := by decide +kernel
theorem dL_acts_63 : decode cL_acts 63 = .ok (.iconst 1, 1) := by decide +kernel
theorem dL_acts_64 : decode cL_acts 64 = .ok (.goto 4, 3) := by decide +kernel
theorem dL_acts_67 : decode cL_acts 67 = .ok (.iconst 0, 1) := by decide +kernel
theorem dL_acts_68 : decode cL_acts 68 = .ok (.istore 8, 2) := by decide +kernel
theorem dL_acts_70 : decode cL_acts 70 = .ok (.iconst 0, 1) := by decide +kernel
theorem dL_acts_71 : decode cL_acts 71 = .ok (.istore 9, 2) := by decide +kernel
theorem dL_acts_73 : decode cL_acts 73 = .ok (.iload 9, 2) := by decide +kernel
theorem dL_acts_75 : decode cL_acts 75 = .ok (.bipush 24, 2) := by decide +kernel
theorem dL_acts_77 : decode cL_acts 77 = .ok (.if_icmp .ge 29, 3) := by decide +kernel
theorem dL_acts_80 : decode cL_acts 80 = .ok (.iload 8, 2) := by decide +kernel
theorem dL_acts_82 : decode cL_acts 82 = .ok (.ifCond .eq 24, 3) := by decide +kernel
theorem dL_acts_85 : decode cL_acts 85 = .ok (.aload 5, 2) := by decide +kernel
theorem dL_acts_87 : decode cL_acts 87 = .ok (.iload 9, 2) := by decide +kernel
theorem dL_acts_89 : decode cL_acts 89 = .ok (.iconst 0, 1) := by decide +kernel
theorem dL_acts_90 : decode cL_acts 90 = .ok (.iastore, 1) := by decide +kernel
theorem dL_acts_91 : decode cL_acts 91 = .ok (.aload 4, 2) := by decide +kernel
theorem dL_acts_93 : decode cL_acts 93 = .ok (.iload 9, 2) := by decide +kernel
theorem dL_acts_95 : decode cL_acts 95 = .ok (.bipush 9, 2) := by decide +kernel
theorem dL_acts_97 : decode cL_acts 97 = .ok (.irem, 1) := by decide +kernel
theorem dL_acts_98 : decode cL_acts 98 = .ok (.iconst (-1), 1) := by decide +kernel
theorem dL_acts_99 : decode cL_acts 99 = .ok (.iastore, 1) := by decide +kernel
theorem dL_acts_100 : decode cL_acts 100 = .ok (.iinc 9 1, 3) := by decide +kernel
theorem dL_acts_103 : decode cL_acts 103 = .ok (.goto (-30), 3) := by decide +kernel
theorem dL_acts_106 : decode cL_acts 106 = .ok (.aload_n 3, 1) := by decide +kernel
theorem dL_acts_107 : decode cL_acts 107 = .ok (.iconst 0, 1) := by decide +kernel
theorem dL_acts_108 : decode cL_acts 108 = .ok (.iload 8, 2) := by decide +kernel
theorem dL_acts_110 : decode cL_acts 110 = .ok (.ifCond .eq 8, 3) := by decide +kernel
theorem dL_acts_113 : decode cL_acts 113 = .ok (.iload 6, 2) := by decide +kernel
theorem dL_acts_115 : decode cL_acts 115 = .ok (.goto 6, 3) := by decide +kernel
theorem dL_acts_118 : decode cL_acts 118 = .ok (.aload_n 3, 1) := by decide +kernel
theorem dL_acts_119 : decode cL_acts 119 = .ok (.iconst 0, 1) := by decide +kernel
theorem dL_acts_120 : decode cL_acts 120 = .ok (.iaload, 1) := by decide +kernel
theorem dL_acts_121 : decode cL_acts 121 = .ok (.iastore, 1) := by decide +kernel
theorem dL_acts_122 : decode cL_acts 122 = .ok (.aload_n 3, 1) := by decide +kernel
theorem dL_acts_123 : decode cL_acts 123 = .ok (.iconst 1, 1) := by decide +kernel
theorem dL_acts_124 : decode cL_acts 124 = .ok (.iload 8, 2) := by decide +kernel
theorem dL_acts_126 : decode cL_acts 126 = .ok (.ifCond .eq 8, 3) := by decide +kernel
theorem dL_acts_129 : decode cL_acts 129 = .ok (.iload 7, 2) := by decide +kernel
theorem dL_acts_131 : decode cL_acts 131 = .ok (.goto 6, 3) := by decide +kernel
theorem dL_acts_134 : decode cL_acts 134 = .ok (.aload_n 3, 1) := by decide +kernel
theorem dL_acts_135 : decode cL_acts 135 = .ok (.iconst 1, 1) := by decide +kernel
theorem dL_acts_136 : decode cL_acts 136 = .ok (.iaload, 1) := by decide +kernel
theorem dL_acts_137 : decode cL_acts 137 = .ok (.iastore, 1) := by decide +kernel
theorem dL_acts_138 : decode cL_acts 138 = .ok (.aload_n 0, 1) := by decide +kernel
theorem dL_acts_139 : decode cL_acts 139 = .ok (.iload 6, 2) := by decide +kernel
theorem dL_acts_141 : decode cL_acts 141 = .ok (.iload 7, 2) := by decide +kernel
theorem dL_acts_143 : decode cL_acts 143 = .ok (.invokestatic 138, 3) := by decide +kernel
theorem dL_acts_146 : decode cL_acts 146 = .ok (.iload 8, 2) := by decide +kernel
theorem dL_acts_148 : decode cL_acts 148 = .ok (.ifCond .eq 7, 3) := by decide +kernel
theorem dL_acts_151 : decode cL_acts 151 = .ok (.iconst 0, 1) := by decide +kernel
theorem dL_acts_152 : decode cL_acts 152 = .ok (.goto 5, 3) := by decide +kernel
theorem dL_acts_155 : decode cL_acts 155 = .ok (.bipush (-101), 2) := by decide +kernel
theorem dL_acts_157 : decode cL_acts 157 = .ok (.if_icmp .ne 7, 3) := by decide +kernel
theorem dL_acts_160 : decode cL_acts 160 = .ok (.iconst 1, 1) := by decide +kernel
theorem dL_acts_161 : decode cL_acts 161 = .ok (.goto 4, 3) := by decide +kernel
theorem dL_acts_164 : decode cL_acts 164 = .ok (.iconst 0, 1) := by decide +kernel
theorem dL_acts_165 : decode cL_acts 165 = .ok (.ireturn, 1) := by decide +kernel
theorem dL_acts_166 : decode cL_acts 166 = .ok (.iload_n 1, 1) := by decide +kernel
theorem dL_acts_167 : decode cL_acts 167 = .ok (.iconst 5, 1) := by decide +kernel
theorem dL_acts_168 : decode cL_acts 168 = .ok (.if_icmp .ge 163, 3) := by decide +kernel
theorem dL_acts_171 : decode cL_acts 171 = .ok (.iload_n 2, 1) := by decide +kernel
theorem dL_acts_172 : decode cL_acts 172 = .ok (.aload_n 3, 1) := by decide +kernel
theorem dL_acts_173 : decode cL_acts 173 = .ok (.iconst 0, 1) := by decide +kernel
theorem dL_acts_174 : decode cL_acts 174 = .ok (.iaload, 1) := by decide +kernel
theorem dL_acts_175 : decode cL_acts 175 = .ok (.aload_n 3, 1) := by decide +kernel
theorem dL_acts_176 : decode cL_acts 176 = .ok (.iconst 1, 1) := by decide +kernel
theorem dL_acts_177 : decode cL_acts 177 = .ok (.iaload, 1) := by decide +kernel
theorem dL_acts_178 : decode cL_acts 178 = .ok (.imul, 1) := by decide +kernel
theorem dL_acts_179 : decode cL_acts 179 = .ok (.iconst 1, 1) := by decide +kernel
theorem dL_acts_180 : decode cL_acts 180 = .ok (.iadd, 1) := by decide +kernel
theorem dL_acts_181 : decode cL_acts 181 = .ok (.invokestatic 135, 3) := by decide +kernel
theorem dL_acts_184 : decode cL_acts 184 = .ok (.iload_n 2, 1) := by decide +kernel
theorem dL_acts_185 : decode cL_acts 185 = .ok (.bipush 9, 2) := by decide +kernel
theorem dL_acts_187 : decode cL_acts 187 = .ok (.ishr, 1) := by decide +kernel
theorem dL_acts_188 : decode cL_acts 188 = .ok (.bipush 17, 2) := by decide +kernel
theorem dL_acts_190 : decode cL_acts 190 = .ok (.invokestatic 135, 3) := by decide +kernel
theorem dL_acts_193 : decode cL_acts 193 = .ok (.ifCond .ne 7, 3) := by decide +kernel
theorem dL_acts_196 : decode cL_acts 196 = .ok (.iconst 1, 1) := by decide +kernel
theorem dL_acts_197 : decode cL_acts 197 = .ok (.goto 4, 3) := by decide +kernel
theorem dL_acts_200 : decode cL_acts 200 = .ok (.iconst 0, 1) := by decide +kernel
theorem dL_acts_201 : decode cL_acts 201 = .ok (.isub, 1) := by decide +kernel
theorem dL_acts_202 : decode cL_acts 202 = .ok (.istore 6, 2) := by decide +kernel
theorem dL_acts_204 : decode cL_acts 204 = .ok (.iload_n 2, 1) := by decide +kernel
theorem dL_acts_205 : decode cL_acts 205 = .ok (.iconst 4, 1) := by decide +kernel
theorem dL_acts_206 : decode cL_acts 206 = .ok (.ishr, 1) := by decide +kernel
theorem dL_acts_207 : decode cL_acts 207 = .ok (.bipush 19, 2) := by decide +kernel
theorem dL_acts_209 : decode cL_acts 209 = .ok (.invokestatic 135, 3) := by decide +kernel
theorem dL_acts_212 : decode cL_acts 212 = .ok (.ifCond .ne 16, 3) := by decide +kernel
theorem dL_acts_215 : decode cL_acts 215 = .ok (.iload_n 2, 1) := by decide +kernel
theorem dL_acts_216 : decode cL_acts 216 = .ok (.iconst 2, 1) := by decide +kernel
theorem dL_acts_217 : decode cL_acts 217 = .ok (.invokestatic 135, 3) := by decide +kernel
theorem dL_acts_220 : decode cL_acts 220 = .ok (.bipush 6, 2) := by decide +kernel
theorem dL_acts_222 : decode cL_acts 222 = .ok (.imul, 1) := by decide +kernel
theorem dL_acts_223 : decode cL_acts 223 = .ok (.iconst 2, 1) := by decide +kernel
theorem dL_acts_224 : decode cL_acts 224 = .ok (.isub, 1) := by decide +kernel
theorem dL_acts_225 : decode cL_acts 225 = .ok (.goto 12, 3) := by decide +kernel
theorem dL_acts_228 : decode cL_acts 228 = .ok (.iload_n 2, 1) := by decide +kernel
theorem dL_acts_229 : decode cL_acts 229 = .ok (.iconst 4, 1) := by decide +kernel
theorem dL_acts_230 : decode cL_acts 230 = .ok (.ishr, 1) := by decide +kernel
theorem dL_acts_231 : decode cL_acts 231 = .ok (.iconst 5, 1) := by decide +kernel
theorem dL_acts_232 : decode cL_acts 232 = .ok (.invokestatic 135, 3) := by decide +kernel
theorem dL_acts_235 : decode cL_acts 235 = .ok (.iconst 1, 1) := by decide +kernel
theorem dL_acts_236 : decode cL_acts 236 = .ok (.isub, 1) := by decide +kernel
theorem dL_acts_237 : decode cL_acts 237 = .ok (.istore 7, 2) := by decide +kernel
theorem dL_acts_239 : decode cL_acts 239 = .ok (.iload 6, 2) := by decide +kernel
theorem dL_acts_241 : decode cL_acts 241 = .ok (.ifCond .lt 19, 3) := by decide +kernel
theorem dL_acts_244 : decode cL_acts 244 = .ok (.iload 6, 2) := by decide +kernel
theorem dL_acts_246 : decode cL_acts 246 = .ok (.aload_n 3, 1) := by decide +kernel
theorem dL_acts_247 : decode cL_acts 247 = .ok (.iconst 0, 1) := by decide +kernel
theorem dL_acts_248 : decode cL_acts 248 = .ok (.iaload, 1) := by decide +kernel
theorem dL_acts_249 : decode cL_acts 249 = .ok (.aload_n 3, 1) := by decide +kernel
theorem dL_acts_250 : decode cL_acts 250 = .ok (.iconst 1, 1) := by decide +kernel
theorem dL_acts_251 : decode cL_acts 251 = .ok (.iaload, 1) := by decide +kernel
