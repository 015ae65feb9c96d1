theorem dX6_asks_64 : decode cX6_asks 64 = .ok (.aload_n 0, 1) := by decide +kernel
theorem dX6_asks_65 : decode cX6_asks 65 = .ok (.getfield 25, 3) := by decide +kernel
theorem dX6_asks_68 : decode cX6_asks 68 = .ok (.iload_n 1, 1) := by decide +kernel
theorem dX6_asks_69 : decode cX6_asks 69 = .ok (.iaload, 1) := by decide +kernel
theorem dX6_asks_70 : decode cX6_asks 70 = .ok (.iload_n 2, 1) := by decide +kernel
theorem dX6_asks_71 : decode cX6_asks 71 = .ok (.aload_n 0, 1) := by decide +kernel
theorem dX6_asks_72 : decode cX6_asks 72 = .ok (.iload_n 1, 1) := by decide +kernel
theorem dX6_asks_73 : decode cX6_asks 73 = .ok (.iconst 0, 1) := by decide +kernel
theorem dX6_asks_74 : decode cX6_asks 74 = .ok (.invokevirtual 111, 3) := by decide +kernel
theorem dX6_asks_77 : decode cX6_asks 77 = .ok (.iadd, 1) := by decide +kernel
theorem dX6_asks_78 : decode cX6_asks 78 = .ok (.if_icmp .ne 10, 3) := by decide +kernel
theorem dX6_asks_81 : decode cX6_asks 81 = .ok (.aload_n 0, 1) := by decide +kernel
theorem dX6_asks_82 : decode cX6_asks 82 = .ok (.iload_n 1, 1) := by decide +kernel
theorem dX6_asks_83 : decode cX6_asks 83 = .ok (.iconst 1, 1) := by decide +kernel
theorem dX6_asks_84 : decode cX6_asks 84 = .ok (.iconst 2, 1) := by decide +kernel
theorem dX6_asks_85 : decode cX6_asks 85 = .ok (.invokevirtual 141, 3) := by decide +kernel
theorem dX6_asks_88 : decode cX6_asks 88 = .ok (.iinc 1 1, 3) := by decide +kernel
theorem dX6_asks_91 : decode cX6_asks 91 = .ok (.goto (-59), 3) := by decide +kernel
theorem dX6_asks_94 : decode cX6_asks 94 = .ok (.iconst 0, 1) := by decide +kernel
theorem dX6_asks_95 : decode cX6_asks 95 = .ok (.istore_n 1, 1) := by decide +kernel
theorem dX6_asks_96 : decode cX6_asks 96 = .ok (.iload_n 1, 1) := by decide +kernel
theorem dX6_asks_97 : decode cX6_asks 97 = .ok (.aload_n 0, 1) := by decide +kernel
theorem dX6_asks_98 : decode cX6_asks 98 = .ok (.getfield 83, 3) := by decide +kernel
theorem dX6_asks_101 : decode cX6_asks 101 = .ok (.if_icmp .ge 68, 3) := by decide +kernel
theorem dX6_asks_104 : decode cX6_asks 104 = .ok (.aload_n 0, 1) := by decide +kernel
theorem dX6_asks_105 : decode cX6_asks 105 = .ok (.iload_n 1, 1) := by decide +kernel
theorem dX6_asks_106 : decode cX6_asks 106 = .ok (.iconst 1, 1) := by decide +kernel
theorem dX6_asks_107 : decode cX6_asks 107 = .ok (.invokevirtual 114, 3) := by decide +kernel
theorem dX6_asks_110 : decode cX6_asks 110 = .ok (.istore_n 2, 1) := by decide +kernel
theorem dX6_asks_111 : decode cX6_asks 111 = .ok (.aload_n 0, 1) := by decide +kernel
theorem dX6_asks_112 : decode cX6_asks 112 = .ok (.iload_n 1, 1) := by decide +kernel
theorem dX6_asks_113 : decode cX6_asks 113 = .ok (.iconst 0, 1) := by decide +kernel
theorem dX6_asks_114 : decode cX6_asks 114 = .ok (.invokevirtual 114, 3) := by decide +kernel
theorem dX6_asks_117 : decode cX6_asks 117 = .ok (.istore_n 3, 1) := by decide +kernel
theorem dX6_asks_118 : decode cX6_asks 118 = .ok (.iload_n 2, 1) := by decide +kernel
theorem dX6_asks_119 : decode cX6_asks 119 = .ok (.iconst 2, 1) := by decide +kernel
theorem dX6_asks_120 : decode cX6_asks 120 = .ok (.if_icmp .ne 10, 3) := by decide +kernel
theorem dX6_asks_123 : decode cX6_asks 123 = .ok (.aload_n 0, 1) := by decide +kernel
theorem dX6_asks_124 : decode cX6_asks 124 = .ok (.iload_n 1, 1) := by decide +kernel
theorem dX6_asks_125 : decode cX6_asks 125 = .ok (.iconst 2, 1) := by decide +kernel
theorem dX6_asks_126 : decode cX6_asks 126 = .ok (.iconst 3, 1) := by decide +kernel
theorem dX6_asks_127 : decode cX6_asks 127 = .ok (.invokevirtual 144, 3) := by decide +kernel
theorem dX6_asks_130 : decode cX6_asks 130 = .ok (.iload_n 2, 1) := by decide +kernel
theorem dX6_asks_131 : decode cX6_asks 131 = .ok (.iconst 1, 1) := by decide +kernel
theorem dX6_asks_132 : decode cX6_asks 132 = .ok (.if_icmp .ne 15, 3) := by decide +kernel
theorem dX6_asks_135 : decode cX6_asks 135 = .ok (.iload_n 3, 1) := by decide +kernel
theorem dX6_asks_136 : decode cX6_asks 136 = .ok (.iconst 1, 1) := by decide +kernel
theorem dX6_asks_137 : decode cX6_asks 137 = .ok (.if_icmp .ne 10, 3) := by decide +kernel
theorem dX6_asks_140 : decode cX6_asks 140 = .ok (.aload_n 0, 1) := by decide +kernel
theorem dX6_asks_141 : decode cX6_asks 141 = .ok (.iload_n 1, 1) := by decide +kernel
theorem dX6_asks_142 : decode cX6_asks 142 = .ok (.iconst 1, 1) := by decide +kernel
theorem dX6_asks_143 : decode cX6_asks 143 = .ok (.iconst 4, 1) := by decide +kernel
theorem dX6_asks_144 : decode cX6_asks 144 = .ok (.invokevirtual 144, 3) := by decide +kernel
theorem dX6_asks_147 : decode cX6_asks 147 = .ok (.iload_n 2, 1) := by decide +kernel
theorem dX6_asks_148 : decode cX6_asks 148 = .ok (.ifCond .ne 15, 3) := by decide +kernel
theorem dX6_asks_151 : decode cX6_asks 151 = .ok (.iload_n 3, 1) := by decide +kernel
theorem dX6_asks_152 : decode cX6_asks 152 = .ok (.iconst 1, 1) := by decide +kernel
theorem dX6_asks_153 : decode cX6_asks 153 = .ok (.if_icmp .ne 10, 3) := by decide +kernel
theorem dX6_asks_156 : decode cX6_asks 156 = .ok (.aload_n 0, 1) := by decide +kernel
theorem dX6_asks_157 : decode cX6_asks 157 = .ok (.iload_n 1, 1) := by decide +kernel
theorem dX6_asks_158 : decode cX6_asks 158 = .ok (.iconst 2, 1) := by decide +kernel
theorem dX6_asks_159 : decode cX6_asks 159 = .ok (.iconst 5, 1) := by decide +kernel
theorem dX6_asks_160 : decode cX6_asks 160 = .ok (.invokevirtual 144, 3) := by decide +kernel
theorem dX6_asks_163 : decode cX6_asks 163 = .ok (.iinc 1 1, 3) := by decide +kernel
theorem dX6_asks_166 : decode cX6_asks 166 = .ok (.goto (-70), 3) := by decide +kernel
theorem dX6_asks_169 : decode cX6_asks 169 = .ok (.aload_n 0, 1) := by decide +kernel
theorem dX6_asks_170 : decode cX6_asks 170 = .ok (.invokevirtual 121, 3) := by decide +kernel
theorem dX6_asks_173 : decode cX6_asks 173 = .ok (.aload_n 0, 1) := by decide +kernel
theorem dX6_asks_174 : decode cX6_asks 174 = .ok (.invokevirtual 131, 3) := by decide +kernel
theorem dX6_asks_177 : decode cX6_asks 177 = .ok (.pop, 1) := by decide +kernel
theorem dX6_asks_178 : decode cX6_asks 178 = .ok (.iconst 0, 1) := by decide +kernel
theorem dX6_asks_179 : decode cX6_asks 179 = .ok (.istore_n 1, 1) := by decide +kernel
theorem dX6_asks_180 : decode cX6_asks 180 = .ok (.iload_n 1, 1) := by decide +kernel
theorem dX6_asks_181 : decode cX6_asks 181 = .ok (.aload_n 0, 1) := by decide +kernel
theorem dX6_asks_182 : decode cX6_asks 182 = .ok (.getfield 74, 3) := by decide +kernel
theorem dX6_asks_185 : decode cX6_asks 185 = .ok (.if_icmp .ge 121, 3) := by decide +kernel
theorem dX6_asks_188 : decode cX6_asks 188 = .ok (.aload_n 0, 1) := by decide +kernel
theorem dX6_asks_189 : decode cX6_asks 189 = .ok (.getfield 31, 3) := by decide +kernel
theorem dX6_asks_192 : decode cX6_asks 192 = .ok (.iload_n 1, 1) := by decide +kernel
theorem dX6_asks_193 : decode cX6_asks 193 = .ok (.iaload, 1) := by decide +kernel
theorem dX6_asks_194 : decode cX6_asks 194 = .ok (.ifCond .ne 44, 3) := by decide +kernel
theorem dX6_asks_197 : decode cX6_asks 197 = .ok (.aload_n 0, 1) := by decide +kernel
theorem dX6_asks_198 : decode cX6_asks 198 = .ok (.getfield 46, 3) := by decide +kernel
theorem dX6_asks_201 : decode cX6_asks 201 = .ok (.aload_n 0, 1) := by decide +kernel
theorem dX6_asks_202 : decode cX6_asks 202 = .ok (.getfield 7, 3) := by decide +kernel
theorem dX6_asks_205 : decode cX6_asks 205 = .ok (.iload_n 1, 1) := by decide +kernel
theorem dX6_asks_206 : decode cX6_asks 206 = .ok (.iaload, 1) := by decide +kernel
theorem dX6_asks_207 : decode cX6_asks 207 = .ok (.iaload, 1) := by decide +kernel
theorem dX6_asks_208 : decode cX6_asks 208 = .ok (.aload_n 0, 1) := by decide +kernel
theorem dX6_asks_209 : decode cX6_asks 209 = .ok (.getfield 46, 3) := by decide +kernel
theorem dX6_asks_212 : decode cX6_asks 212 = .ok (.aload_n 0, 1) := by decide +kernel
theorem dX6_asks_213 : decode cX6_asks 213 = .ok (.getfield 13, 3) := by decide +kernel
theorem dX6_asks_216 : decode cX6_asks 216 = .ok (.iload_n 1, 1) := by decide +kernel
theorem dX6_asks_217 : decode cX6_asks 217 = .ok (.iaload, 1) := by decide +kernel
theorem dX6_asks_218 : decode cX6_asks 218 = .ok (.iaload, 1) := by decide +kernel
theorem dX6_asks_219 : decode cX6_asks 219 = .ok (.if_icmp .ne 19, 3) := by decide +kernel
theorem dX6_asks_222 : decode cX6_asks 222 = .ok (.aload_n 0, 1) := by decide +kernel
theorem dX6_asks_223 : decode cX6_asks 223 = .ok (.iload_n 1, 1) := by decide +kernel
theorem dX6_asks_224 : decode cX6_asks 224 = .ok (.invokevirtual 147, 3) := by decide +kernel
theorem dX6_asks_227 : decode cX6_asks 227 = .ok (.ifCond .ne 11, 3) := by decide +kernel
theorem dX6_asks_230 : decode cX6_asks 230 = .ok (.aload_n 0, 1) := by decide +kernel
theorem dX6_asks_231 : decode cX6_asks 231 = .ok (.iload_n 1, 1) := by decide +kernel
theorem dX6_asks_232 : decode cX6_asks 232 = .ok (.iconst 2, 1) := by decide +kernel
theorem dX6_asks_233 : decode cX6_asks 233 = .ok (.bipush 6, 2) := by decide +kernel
theorem dX6_asks_235 : decode cX6_asks 235 = .ok (.invokevirtual 134, 3) := by decide +kernel
theorem dX6_asks_238 : decode cX6_asks 238 = .ok (.aload_n 0, 1) := by decide +kernel
theorem dX6_asks_239 : decode cX6_asks 239 = .ok (.getfield 49, 3) := by decide +kernel
theorem dX6_asks_242 : decode cX6_asks 242 = .ok (.aload_n 0, 1) := by decide +kernel
theorem dX6_asks_243 : decode cX6_asks 243 = .ok (.getfield 16, 3) := by decide +kernel
theorem dX6_asks_246 : decode cX6_asks 246 = .ok (.iload_n 1, 1) := by decide +kernel
theorem dX6_asks_247 : decode cX6_asks 247 = .ok (.iaload, 1) := by decide +kernel
theorem dX6_asks_248 : decode cX6_asks 248 = .ok (.iaload, 1) := by decide +kernel
theorem dX6_asks_249 : decode cX6_asks 249 = .ok (.aload_n 0, 1) := by decide +kernel
theorem dX6_asks_250 : decode cX6_asks 250 = .ok (.getfield 49, 3) := by decide +kernel
theorem dX6_asks_253 : decode cX6_asks 253 = .ok (.aload_n 0, 1) := by decide +kernel
theorem dX6_asks_254 : decode cX6_asks 254 = .ok (.getfield 19, 3) := by decide +kernel
theorem dX6_asks_257 : decode cX6_asks 257 = .ok (.iload_n 1, 1) := by decide +kernel
theorem dX6_asks_258 : decode cX6_asks 258 = .ok (.iaload, 1) := by decide +kernel
theorem dX6_asks_259 : decode cX6_asks 259 = .ok (.iaload, 1) := by decide +kernel
theorem dX6_asks_260 : decode cX6_asks 260 = .ok (.if_icmp .ne 40, 3) := by decide +kernel
theorem dX6_asks_263 : decode cX6_asks 263 = .ok (.aload_n 0, 1) := by decide +kernel
theorem dX6_asks_264 : decode cX6_asks 264 = .ok (.iload_n 1, 1) := by decide +kernel
theorem dX6_asks_265 : decode cX6_asks 265 = .ok (.aload_n 0, 1) := by decide +kernel
theorem dX6_asks_266 : decode cX6_asks 266 = .ok (.getfield 52, 3) := by decide +kernel
theorem dX6_asks_269 : decode cX6_asks 269 = .ok (.aload_n 0, 1) := by decide +kernel
theorem dX6_asks_270 : decode cX6_asks 270 = .ok (.getfield 16, 3) := by decide +kernel
theorem dX6_asks_273 : decode cX6_asks 273 = .ok (.iload_n 1, 1) := by decide +kernel
theorem dX6_asks_274 : decode cX6_asks 274 = .ok (.iaload, 1) := by decide +kernel
theorem dX6_asks_275 : decode cX6_asks 275 = .ok (.baload, 1) := by decide +kernel
theorem dX6_asks_276 : decode cX6_asks 276 = .ok (.aload_n 0, 1) := by decide +kernel
theorem dX6_asks_277 : decode cX6_asks 277 = .ok (.getfield 52, 3) := by decide +kernel
theorem dX6_asks_280 : decode cX6_asks 280 = .ok (.aload_n 0, 1) := by decide +kernel
theorem dX6_asks_281 : decode cX6_asks 281 = .ok (.getfield 19, 3) := by decide +kernel
theorem dX6_asks_284 : decode cX6_asks 284 = .ok (.iload_n 1, 1) := by decide +kernel
theorem dX6_asks_285 : decode cX6_asks 285 = .ok (.iaload, 1) := by decide +kernel
theorem dX6_asks_286 : decode cX6_asks 286 = .ok (.baload, 1) := by decide +kernel
theorem dX6_asks_287 : decode cX6_asks 287 = .ok (.if_icmp .eq 7, 3) := by decide +kernel
theorem dX6_asks_290 : decode cX6_asks 290 = .ok (.iconst 1, 1) := by decide +kernel
theorem dX6_asks_291 : decode cX6_asks 291 = .ok (.goto 4, 3) := by decide +kernel
theorem dX6_asks_294 : decode cX6_asks 294 = .ok (.iconst 2, 1) := by decide +kernel
theorem dX6_asks_295 : decode cX6_asks 295 = .ok (.bipush 7, 2) := by decide +kernel
theorem dX6_asks_297 : decode cX6_asks 297 = .ok (.invokevirtual 134, 3) := by decide +kernel
theorem dX6_asks_300 : decode cX6_asks 300 = .ok (.iinc 1 1, 3) := by decide +kernel
theorem dX6_asks_303 : decode cX6_asks 303 = .ok (.goto (-123), 3) := by decide +kernel
theorem dX6_asks_306 : decode cX6_asks 306 = .ok (.return_, 1) := by decide +kernel
theorem dX6_follow_0 : decode cX6_follow 0 = .ok (.aload_n 0, 1) := by decide +kernel
theorem dX6_follow_1 : decode cX6_follow 1 = .ok (.invokevirtual 150, 3) := by decide +kernel
theorem dX6_follow_4 : decode cX6_follow 4 = .ok (.aload_n 0, 1) := by decide +kernel
theorem dX6_follow_5 : decode cX6_follow 5 = .ok (.iconst 0, 1) := by decide +kernel
theorem dX6_follow_6 : decode cX6_follow 6 = .ok (.putfield 153, 3) := by decide +kernel
theorem dX6_follow_9 : decode cX6_follow 9 = .ok (.iconst 0, 1) := by decide +kernel
theorem dX6_follow_10 : decode cX6_follow 10 = .ok (.istore_n 1, 1) := by decide +kernel
theorem dX6_follow_11 : decode cX6_follow 11 = .ok (.iload_n 1, 1) := by decide +kernel
theorem dX6_follow_12 : decode cX6_follow 12 = .ok (.aload_n 0, 1) := by decide +kernel
theorem dX6_follow_13 : decode cX6_follow 13 = .ok (.getfield 74, 3) := by decide +kernel
theorem dX6_follow_16 : decode cX6_follow 16 = .ok (.if_icmp .ge 36, 3) := by decide +kernel
theorem dX6_follow_19 : decode cX6_follow 19 = .ok (.aload_n 0, 1) := by decide +kernel
theorem dX6_follow_20 : decode cX6_follow 20 = .ok (.getfield 40, 3) := by decide +kernel
theorem dX6_follow_23 : decode cX6_follow 23 = .ok (.iload_n 1, 1) := by decide +kernel
theorem dX6_follow_24 : decode cX6_follow 24 = .ok (.aload_n 0, 1) := by decide +kernel
theorem dX6_follow_25 : decode cX6_follow 25 = .ok (.getfield 28, 3) := by decide +kernel
theorem dX6_follow_28 : decode cX6_follow 28 = .ok (.iload_n 1, 1) := by decide +kernel
theorem dX6_follow_29 : decode cX6_follow 29 = .ok (.iaload, 1) := by decide +kernel
theorem dX6_follow_30 : decode cX6_follow 30 = .ok (.ifCond .ne 7, 3) := by decide +kernel
theorem dX6_follow_33 : decode cX6_follow 33 = .ok (.iconst (-1), 1) := by decide +kernel
theorem dX6_follow_34 : decode cX6_follow 34 = .ok (.goto 4, 3) := by decide +kernel
theorem dX6_follow_37 : decode cX6_follow 37 = .ok (.iconst 0, 1) := by decide +kernel
theorem dX6_follow_38 : decode cX6_follow 38 = .ok (.iastore, 1) := by decide +kernel
theorem dX6_follow_39 : decode cX6_follow 39 = .ok (.aload_n 0, 1) := by decide +kernel
theorem dX6_follow_40 : decode cX6_follow 40 = .ok (.getfield 43, 3) := by decide +kernel
theorem dX6_follow_43 : decode cX6_follow 43 = .ok (.iload_n 1, 1) := by decide +kernel
theorem dX6_follow_44 : decode cX6_follow 44 = .ok (.iconst (-1), 1) := by decide +kernel
theorem dX6_follow_45 : decode cX6_follow 45 = .ok (.iastore, 1) := by decide +kernel
theorem dX6_follow_46 : decode cX6_follow 46 = .ok (.iinc 1 1, 3) := by decide +kernel
theorem dX6_follow_49 : decode cX6_follow 49 = .ok (.goto (-38), 3) := by decide +kernel
theorem dX6_follow_52 : decode cX6_follow 52 = .ok (.iconst 1, 1) := by decide +kernel
theorem dX6_follow_53 : decode cX6_follow 53 = .ok (.istore_n 1, 1) := by decide +kernel
theorem dX6_follow_54 : decode cX6_follow 54 = .ok (.iload_n 1, 1) := by decide +kernel
theorem dX6_follow_55 : decode cX6_follow 55 = .ok (.ifCond .eq 174, 3) := by decide +kernel
theorem dX6_follow_58 : decode cX6_follow 58 = .ok (.aload_n 0, 1) := by decide +kernel
theorem dX6_follow_59 : decode cX6_follow 59 = .ok (.aload_n 0, 1) := by decide +kernel
theorem dX6_follow_60 : decode cX6_follow 60 = .ok (.invokevirtual 156, 3) := by decide +kernel
theorem dX6_follow_63 : decode cX6_follow 63 = .ok (.putfield 108, 3) := by decide +kernel
theorem dX6_follow_66 : decode cX6_follow 66 = .ok (.iconst 0, 1) := by decide +kernel
theorem dX6_follow_67 : decode cX6_follow 67 = .ok (.istore_n 1, 1) := by decide +kernel
theorem dX6_follow_68 : decode cX6_follow 68 = .ok (.aload_n 0, 1) := by decide +kernel
theorem dX6_follow_69 : decode cX6_follow 69 = .ok (.getfield 108, 3) := by decide +kernel
theorem dX6_follow_72 : decode cX6_follow 72 = .ok (.ifCond .ne 81, 3) := by decide +kernel
theorem dX6_follow_75 : decode cX6_follow 75 = .ok (.aload_n 0, 1) := by decide +kernel
theorem dX6_follow_76 : decode cX6_follow 76 = .ok (.invokevirtual 159, 3) := by decide +kernel
theorem dX6_follow_79 : decode cX6_follow 79 = .ok (.iconst 0, 1) := by decide +kernel
theorem dX6_follow_80 : decode cX6_follow 80 = .ok (.istore_n 2, 1) := by decide +kernel
theorem dX6_follow_81 : decode cX6_follow 81 = .ok (.iload_n 2, 1) := by decide +kernel
theorem dX6_follow_82 : decode cX6_follow 82 = .ok (.aload_n 0, 1) := by decide +kernel
theorem dX6_follow_83 : decode cX6_follow 83 = .ok (.getfield 74, 3) := by decide +kernel
theorem dX6_follow_86 : decode cX6_follow 86 = .ok (.if_icmp .ge 50, 3) := by decide +kernel
theorem dX6_follow_89 : decode cX6_follow 89 = .ok (.aload_n 0, 1) := by decide +kernel
theorem dX6_follow_90 : decode cX6_follow 90 = .ok (.aload_n 0, 1) := by decide +kernel
theorem dX6_follow_91 : decode cX6_follow 91 = .ok (.getfield 34, 3) := by decide +kernel
theorem dX6_follow_94 : decode cX6_follow 94 = .ok (.iload_n 2, 1) := by decide +kernel
theorem dX6_follow_95 : decode cX6_follow 95 = .ok (.iaload, 1) := by decide +kernel
theorem dX6_follow_96 : decode cX6_follow 96 = .ok (.iconst 3, 1) := by decide +kernel
theorem dX6_follow_97 : decode cX6_follow 97 = .ok (.if_icmp .ne 7, 3) := by decide +kernel
theorem dX6_follow_100 : decode cX6_follow 100 = .ok (.iconst 5, 1) := by decide +kernel
theorem dX6_follow_101 : decode cX6_follow 101 = .ok (.goto 7, 3) := by decide +kernel
theorem dX6_follow_104 : decode cX6_follow 104 = .ok (.aload_n 0, 1) := by decide +kernel
theorem dX6_follow_105 : decode cX6_follow 105 = .ok (.getfield 108, 3) := by decide +kernel
theorem dX6_follow_108 : decode cX6_follow 108 = .ok (.putfield 108, 3) := by decide +kernel
theorem dX6_follow_111 : decode cX6_follow 111 = .ok (.iload_n 1, 1) := by decide +kernel
theorem dX6_follow_112 : decode cX6_follow 112 = .ok (.ifCond .ne 12, 3) := by decide +kernel
theorem dX6_follow_115 : decode cX6_follow 115 = .ok (.aload_n 0, 1) := by decide +kernel
theorem dX6_follow_116 : decode cX6_follow 116 = .ok (.getfield 34, 3) := by decide +kernel
theorem dX6_follow_119 : decode cX6_follow 119 = .ok (.iload_n 2, 1) := by decide +kernel
theorem dX6_follow_120 : decode cX6_follow 120 = .ok (.iaload, 1) := by decide +kernel
theorem dX6_follow_121 : decode cX6_follow 121 = .ok (.ifCond .eq 7, 3) := by decide +kernel
theorem dX6_follow_124 : decode cX6_follow 124 = .ok (.iconst 1, 1) := by decide +kernel
theorem dX6_follow_125 : decode cX6_follow 125 = .ok (.goto 4, 3) := by decide +kernel
theorem dX6_follow_128 : decode cX6_follow 128 = .ok (.iconst 0, 1) := by decide +kernel
theorem dX6_follow_129 : decode cX6_follow 129 = .ok (.istore_n 1, 1) := by decide +kernel
theorem dX6_follow_130 : decode cX6_follow 130 = .ok (.iinc 2 1, 3) := by decide +kernel
theorem dX6_follow_133 : decode cX6_follow 133 = .ok (.goto (-52), 3) := by decide +kernel
theorem dX6_follow_136 : decode cX6_follow 136 = .ok (.iload_n 1, 1) := by decide +kernel
theorem dX6_follow_137 : decode cX6_follow 137 = .ok (.ifCond .eq 14, 3) := by decide +kernel
theorem dX6_follow_140 : decode cX6_follow 140 = .ok (.aload_n 0, 1) := by decide +kernel
theorem dX6_follow_141 : decode cX6_follow 141 = .ok (.getfield 108, 3) := by decide +kernel
theorem dX6_follow_144 : decode cX6_follow 144 = .ok (.ifCond .ne 7, 3) := by decide +kernel
theorem dX6_follow_147 : decode cX6_follow 147 = .ok (.iconst 1, 1) := by decide +kernel
theorem dX6_follow_148 : decode cX6_follow 148 = .ok (.goto 4, 3) := by decide +kernel
theorem dX6_follow_151 : decode cX6_follow 151 = .ok (.iconst 0, 1) := by decide +kernel
theorem dX6_follow_152 : decode cX6_follow 152 = .ok (.istore_n 1, 1) := by decide +kernel
theorem dX6_follow_153 : decode cX6_follow 153 = .ok (.iload_n 1, 1) := by decide +kernel
theorem dX6_follow_154 : decode cX6_follow 154 = .ok (.ifCond .eq (-100), 3) := by decide +kernel
theorem dX6_follow_157 : decode cX6_follow 157 = .ok (.aload_n 0, 1) := by decide +kernel
theorem dX6_follow_158 : decode cX6_follow 158 = .ok (.dup, 1) := by decide +kernel
theorem dX6_follow_159 : decode cX6_follow 159 = .ok (.getfield 153, 3) := by decide +kernel
theorem dX6_follow_162 : decode cX6_follow 162 = .ok (.iconst 1, 1) := by decide +kernel
theorem dX6_follow_163 : decode cX6_follow 163 = .ok (.iadd, 1) := by decide +kernel
theorem dX6_follow_164 : decode cX6_follow 164 = .ok (.putfield 153, 3) := by decide +kernel
theorem dX6_follow_167 : decode cX6_follow 167 = .ok (.iconst 0, 1) := by decide +kernel
theorem dX6_follow_168 : decode cX6_follow 168 = .ok (.istore_n 2, 1) := by decide +kernel
theorem dX6_follow_169 : decode cX6_follow 169 = .ok (.iload_n 2, 1) := by decide +kernel
theorem dX6_follow_170 : decode cX6_follow 170 = .ok (.aload_n 0, 1) := by decide +kernel
theorem dX6_follow_171 : decode cX6_follow 171 = .ok (.getfield 74, 3) := by decide +kernel
theorem dX6_follow_174 : decode cX6_follow 174 = .ok (.if_icmp .ge 52, 3) := by decide +kernel
theorem dX6_follow_177 : decode cX6_follow 177 = .ok (.aload_n 0, 1) := by decide +kernel
theorem dX6_follow_178 : decode cX6_follow 178 = .ok (.getfield 34, 3) := by decide +kernel
theorem dX6_follow_181 : decode cX6_follow 181 = .ok (.iload_n 2, 1) := by decide +kernel
theorem dX6_follow_182 : decode cX6_follow 182 = .ok (.iaload, 1) := by decide +kernel
theorem dX6_follow_183 : decode cX6_follow 183 = .ok (.ifCond .eq 37, 3) := by decide +kernel
theorem dX6_follow_186 : decode cX6_follow 186 = .ok (.aload_n 0, 1) := by decide +kernel
theorem dX6_follow_187 : decode cX6_follow 187 = .ok (.getfield 31, 3) := by decide +kernel
theorem dX6_follow_190 : decode cX6_follow 190 = .ok (.iload_n 2, 1) := by decide +kernel
theorem dX6_follow_191 : decode cX6_follow 191 = .ok (.aload_n 0, 1) := by decide +kernel
theorem dX6_follow_192 : decode cX6_follow 192 = .ok (.getfield 34, 3) := by decide +kernel
theorem dX6_follow_195 : decode cX6_follow 195 = .ok (.iload_n 2, 1) := by decide +kernel
theorem dX6_follow_196 : decode cX6_follow 196 = .ok (.iaload, 1) := by decide +kernel
theorem dX6_follow_197 : decode cX6_follow 197 = .ok (.iastore, 1) := by decide +kernel
theorem dX6_follow_198 : decode cX6_follow 198 = .ok (.aload_n 0, 1) := by decide +kernel
theorem dX6_follow_199 : decode cX6_follow 199 = .ok (.getfield 40, 3) := by decide +kernel
theorem dX6_follow_202 : decode cX6_follow 202 = .ok (.iload_n 2, 1) := by decide +kernel
theorem dX6_follow_203 : decode cX6_follow 203 = .ok (.aload_n 0, 1) := by decide +kernel
theorem dX6_follow_204 : decode cX6_follow 204 = .ok (.getfield 153, 3) := by decide +kernel
theorem dX6_follow_207 : decode cX6_follow 207 = .ok (.iastore, 1) := by decide +kernel
theorem dX6_follow_208 : decode cX6_follow 208 = .ok (.aload_n 0, 1) := by decide +kernel
theorem dX6_follow_209 : decode cX6_follow 209 = .ok (.getfield 43, 3) := by decide +kernel
theorem dX6_follow_212 : decode cX6_follow 212 = .ok (.iload_n 2, 1) := by decide +kernel
theorem dX6_follow_213 : decode cX6_follow 213 = .ok (.aload_n 0, 1) := by decide +kernel
theorem dX6_follow_214 : decode cX6_follow 214 = .ok (.getfield 37, 3) := by decide +kernel
theorem dX6_follow_217 : decode cX6_follow 217 = .ok (.iload_n 2, 1) := by decide +kernel
theorem dX6_follow_218 : decode cX6_follow 218 = .ok (.iaload, 1) := by decide +kernel
theorem dX6_follow_219 : decode cX6_follow 219 = .ok (.iastore, 1) := by decide +kernel
theorem dX6_follow_220 : decode cX6_follow 220 = .ok (.iinc 2 1, 3) := by decide +kernel
theorem dX6_follow_223 : decode cX6_follow 223 = .ok (.goto (-54), 3) := by decide +kernel
theorem dX6_follow_226 : decode cX6_follow 226 = .ok (.goto (-172), 3) := by decide +kernel
theorem dX6_follow_229 : decode cX6_follow 229 = .ok (.return_, 1) := by decide +kernel
theorem dX6_lines_0 : decode cX6_lines 0 = .ok (.aload_n 0, 1) := by decide +kernel
theorem dX6_lines_1 : decode cX6_lines 1 = .ok (.iconst 0, 1) := by decide +kernel
theorem dX6_lines_2 : decode cX6_lines 2 = .ok (.putfield 67, 3) := by decide +kernel
theorem dX6_lines_5 : decode cX6_lines 5 = .ok (.aload_n 0, 1) := by decide +kernel
theorem dX6_lines_6 : decode cX6_lines 6 = .ok (.invokevirtual 150, 3) := by decide +kernel
theorem dX6_lines_9 : decode cX6_lines 9 = .ok (.aload_n 0, 1) := by decide +kernel
theorem dX6_lines_10 : decode cX6_lines 10 = .ok (.iconst 1, 1) := by decide +kernel
theorem dX6_lines_11 : decode cX6_lines 11 = .ok (.invokevirtual 162, 3) := by decide +kernel
theorem dX6_lines_14 : decode cX6_lines 14 = .ok (.ireturn, 1) := by decide +kernel
theorem dX6_ways_0 : decode cX6_ways 0 = .ok (.aload_n 0, 1) := by decide +kernel
theorem dX6_ways_1 : decode cX6_ways 1 = .ok (.iconst 0, 1) := by decide +kernel
theorem dX6_ways_2 : decode cX6_ways 2 = .ok (.putfield 67, 3) := by decide +kernel
theorem dX6_ways_5 : decode cX6_ways 5 = .ok (.aload_n 0, 1) := by decide +kernel
theorem dX6_ways_6 : decode cX6_ways 6 = .ok (.invokevirtual 150, 3) := by decide +kernel
theorem dX6_ways_9 : decode cX6_ways 9 = .ok (.aload_n 0, 1) := by decide +kernel
theorem dX6_ways_10 : decode cX6_ways 10 = .ok (.invokevirtual 121, 3) := by decide +kernel
theorem dX6_ways_13 : decode cX6_ways 13 = .ok (.aload_n 0, 1) := by decide +kernel
theorem dX6_ways_14 : decode cX6_ways 14 = .ok (.invokevirtual 117, 3) := by decide +kernel
theorem dX6_ways_17 : decode cX6_ways 17 = .ok (.ireturn, 1) := by decide +kernel
theorem dX6_broken_0 : decode cX6_broken 0 = .ok (.aload_n 0, 1) := by decide +kernel
theorem dX6_broken_1 : decode cX6_broken 1 = .ok (.iconst 0, 1) := by decide +kernel
theorem dX6_broken_2 : decode cX6_broken 2 = .ok (.putfield 67, 3) := by decide +kernel
theorem dX6_broken_5 : decode cX6_broken 5 = .ok (.aload_n 0, 1) := by decide +kernel
theorem dX6_broken_6 : decode cX6_broken 6 = .ok (.invokevirtual 150, 3) := by decide +kernel
theorem dX6_broken_9 : decode cX6_broken 9 = .ok (.aload_n 0, 1) := by decide +kernel
theorem dX6_broken_10 : decode cX6_broken 10 = .ok (.invokevirtual 156, 3) := by decide +kernel
theorem dX6_broken_13 : decode cX6_broken 13 = .ok (.ireturn, 1) := by decide +kernel
theorem dX6_isAnswer_0 : decode cX6_isAnswer 0 = .ok (.aload_n 0, 1) := by decide +kernel
theorem dX6_isAnswer_1 : decode cX6_isAnswer 1 = .ok (.iconst 0, 1) := by decide +kernel
theorem dX6_isAnswer_2 : decode cX6_isAnswer 2 = .ok (.putfield 67, 3) := by decide +kernel
theorem dX6_isAnswer_5 : decode cX6_isAnswer 5 = .ok (.aload_n 0, 1) := by decide +kernel
theorem dX6_isAnswer_6 : decode cX6_isAnswer 6 = .ok (.invokevirtual 150, 3) := by decide +kernel
theorem dX6_isAnswer_9 : decode cX6_isAnswer 9 = .ok (.aload_n 0, 1) := by decide +kernel
theorem dX6_isAnswer_10 : decode cX6_isAnswer 10 = .ok (.invokevirtual 121, 3) := by decide +kernel
theorem dX6_isAnswer_13 : decode cX6_isAnswer 13 = .ok (.aload_n 0, 1) := by decide +kernel
theorem dX6_isAnswer_14 : decode cX6_isAnswer 14 = .ok (.invokevirtual 138, 3) := by decide +kernel
theorem dX6_isAnswer_17 : decode cX6_isAnswer 17 = .ok (.ifCond .eq 14, 3) := by decide +kernel
theorem dX6_isAnswer_20 : decode cX6_isAnswer 20 = .ok (.aload_n 0, 1) := by decide +kernel
theorem dX6_isAnswer_21 : decode cX6_isAnswer 21 = .ok (.invokevirtual 128, 3) := by decide +kernel
theorem dX6_isAnswer_24 : decode cX6_isAnswer 24 = .ok (.ifCond .eq 7, 3) := by decide +kernel
theorem dX6_isAnswer_27 : decode cX6_isAnswer 27 = .ok (.iconst 1, 1) := by decide +kernel
theorem dX6_isAnswer_28 : decode cX6_isAnswer 28 = .ok (.goto 4, 3) := by decide +kernel
theorem dX6_isAnswer_31 : decode cX6_isAnswer 31 = .ok (.iconst 0, 1) := by decide +kernel
theorem dX6_isAnswer_32 : decode cX6_isAnswer 32 = .ok (.ireturn, 1) := by decide +kernel
theorem dX6_follows_0 : decode cX6_follows 0 = .ok (.aload_n 0, 1) := by decide +kernel
theorem dX6_follows_1 : decode cX6_follows 1 = .ok (.aload_n 0, 1) := by decide +kernel
theorem dX6_follows_2 : decode cX6_follows 2 = .ok (.iload_n 1, 1) := by decide +kernel
theorem dX6_follows_3 : decode cX6_follows 3 = .ok (.invokevirtual 102, 3) := by decide +kernel
theorem dX6_follows_6 : decode cX6_follows 6 = .ok (.invokevirtual 90, 3) := by decide +kernel
theorem dX6_follows_9 : decode cX6_follows 9 = .ok (.ifCond .ne 5, 3) := by decide +kernel
theorem dX6_follows_12 : decode cX6_follows 12 = .ok (.iconst 0, 1) := by decide +kernel
theorem dX6_follows_13 : decode cX6_follows 13 = .ok (.ireturn, 1) := by decide +kernel
theorem dX6_follows_14 : decode cX6_follows 14 = .ok (.aload_n 0, 1) := by decide +kernel
theorem dX6_follows_15 : decode cX6_follows 15 = .ok (.invokevirtual 105, 3) := by decide +kernel
theorem dX6_follows_18 : decode cX6_follows 18 = .ok (.aload_n 0, 1) := by decide +kernel
theorem dX6_follows_19 : decode cX6_follows 19 = .ok (.getfield 31, 3) := by decide +kernel
theorem dX6_follows_22 : decode cX6_follows 22 = .ok (.iload_n 1, 1) := by decide +kernel
theorem dX6_follows_23 : decode cX6_follows 23 = .ok (.iaload, 1) := by decide +kernel
theorem dX6_follows_24 : decode cX6_follows 24 = .ok (.ireturn, 1) := by decide +kernel
theorem dX6_roundOf_0 : decode cX6_roundOf 0 = .ok (.aload_n 0, 1) := by decide +kernel
theorem dX6_roundOf_1 : decode cX6_roundOf 1 = .ok (.aload_n 0, 1) := by decide +kernel
theorem dX6_roundOf_2 : decode cX6_roundOf 2 = .ok (.iload_n 1, 1) := by decide +kernel
theorem dX6_roundOf_3 : decode cX6_roundOf 3 = .ok (.invokevirtual 102, 3) := by decide +kernel
theorem dX6_roundOf_6 : decode cX6_roundOf 6 = .ok (.invokevirtual 90, 3) := by decide +kernel
theorem dX6_roundOf_9 : decode cX6_roundOf 9 = .ok (.ifCond .ne 5, 3) := by decide +kernel
theorem dX6_roundOf_12 : decode cX6_roundOf 12 = .ok (.iconst 0, 1) := by decide +kernel
theorem dX6_roundOf_13 : decode cX6_roundOf 13 = .ok (.ireturn, 1) := by decide +kernel
theorem dX6_roundOf_14 : decode cX6_roundOf 14 = .ok (.aload_n 0, 1) := by decide +kernel
theorem dX6_roundOf_15 : decode cX6_roundOf 15 = .ok (.invokevirtual 105, 3) := by decide +kernel
theorem dX6_roundOf_18 : decode cX6_roundOf 18 = .ok (.aload_n 0, 1) := by decide +kernel
theorem dX6_roundOf_19 : decode cX6_roundOf 19 = .ok (.getfield 40, 3) := by decide +kernel
theorem dX6_roundOf_22 : decode cX6_roundOf 22 = .ok (.iload_n 1, 1) := by decide +kernel
theorem dX6_roundOf_23 : decode cX6_roundOf 23 = .ok (.iaload, 1) := by decide +kernel
theorem dX6_roundOf_24 : decode cX6_roundOf 24 = .ok (.ireturn, 1) := by decide +kernel
theorem dX6_ruleOf_0 : decode cX6_ruleOf 0 = .ok (.aload_n 0, 1) := by decide +kernel
theorem dX6_ruleOf_1 : decode cX6_ruleOf 1 = .ok (.aload_n 0, 1) := by decide +kernel
theorem dX6_ruleOf_2 : decode cX6_ruleOf 2 = .ok (.iload_n 1, 1) := by decide +kernel
theorem dX6_ruleOf_3 : decode cX6_ruleOf 3 = .ok (.invokevirtual 102, 3) := by decide +kernel
theorem dX6_ruleOf_6 : decode cX6_ruleOf 6 = .ok (.invokevirtual 90, 3) := by decide +kernel
theorem dX6_ruleOf_9 : decode cX6_ruleOf 9 = .ok (.ifCond .ne 5, 3) := by decide +kernel
theorem dX6_ruleOf_12 : decode cX6_ruleOf 12 = .ok (.iconst 0, 1) := by decide +kernel
theorem dX6_ruleOf_13 : decode cX6_ruleOf 13 = .ok (.ireturn, 1) := by decide +kernel
theorem dX6_ruleOf_14 : decode cX6_ruleOf 14 = .ok (.aload_n 0, 1) := by decide +kernel
theorem dX6_ruleOf_15 : decode cX6_ruleOf 15 = .ok (.invokevirtual 105, 3) := by decide +kernel
theorem dX6_ruleOf_18 : decode cX6_ruleOf 18 = .ok (.aload_n 0, 1) := by decide +kernel
theorem dX6_ruleOf_19 : decode cX6_ruleOf 19 = .ok (.getfield 43, 3) := by decide +kernel
theorem dX6_ruleOf_22 : decode cX6_ruleOf 22 = .ok (.iload_n 1, 1) := by decide +kernel
theorem dX6_ruleOf_23 : decode cX6_ruleOf 23 = .ok (.iaload, 1) := by decide +kernel
theorem dX6_ruleOf_24 : decode cX6_ruleOf 24 = .ok (.ireturn, 1) := by decide +kernel
theorem dX6_rounds_0 : decode cX6_rounds 0 = .ok (.aload_n 0, 1) := by decide +kernel
theorem dX6_rounds_1 : decode cX6_rounds 1 = .ok (.iconst 0, 1) := by decide +kernel
theorem dX6_rounds_2 : decode cX6_rounds 2 = .ok (.putfield 67, 3) := by decide +kernel
theorem dX6_rounds_5 : decode cX6_rounds 5 = .ok (.aload_n 0, 1) := by decide +kernel
theorem dX6_rounds_6 : decode cX6_rounds 6 = .ok (.invokevirtual 105, 3) := by decide +kernel
theorem dX6_rounds_9 : decode cX6_rounds 9 = .ok (.aload_n 0, 1) := by decide +kernel
theorem dX6_rounds_10 : decode cX6_rounds 10 = .ok (.getfield 153, 3) := by decide +kernel
theorem dX6_rounds_13 : decode cX6_rounds 13 = .ok (.ireturn, 1) := by decide +kernel
theorem dX6_end_0 : decode cX6_end 0 = .ok (.aload_n 0, 1) := by decide +kernel
theorem dX6_end_1 : decode cX6_end 1 = .ok (.iconst 0, 1) := by decide +kernel
theorem dX6_end_2 : decode cX6_end 2 = .ok (.putfield 67, 3) := by decide +kernel
theorem dX6_end_5 : decode cX6_end 5 = .ok (.aload_n 0, 1) := by decide +kernel
theorem dX6_end_6 : decode cX6_end 6 = .ok (.invokevirtual 105, 3) := by decide +kernel
theorem dX6_end_9 : decode cX6_end 9 = .ok (.aload_n 0, 1) := by decide +kernel
theorem dX6_end_10 : decode cX6_end 10 = .ok (.getfield 108, 3) := by decide +kernel
theorem dX6_end_13 : decode cX6_end 13 = .ok (.ireturn, 1) := by decide +kernel
theorem dX6_hint_0 : decode cX6_hint 0 = .ok (.aload_n 0, 1) := by decide +kernel
theorem dX6_hint_1 : decode cX6_hint 1 = .ok (.iconst 0, 1) := by decide +kernel
theorem dX6_hint_2 : decode cX6_hint 2 = .ok (.putfield 67, 3) := by decide +kernel
theorem dX6_hint_5 : decode cX6_hint 5 = .ok (.aload_n 0, 1) := by decide +kernel
theorem dX6_hint_6 : decode cX6_hint 6 = .ok (.invokevirtual 150, 3) := by decide +kernel
theorem dX6_hint_9 : decode cX6_hint 9 = .ok (.aload_n 0, 1) := by decide +kernel
theorem dX6_hint_10 : decode cX6_hint 10 = .ok (.invokevirtual 156, 3) := by decide +kernel
theorem dX6_hint_13 : decode cX6_hint 13 = .ok (.ifCond .eq 5, 3) := by decide +kernel
theorem dX6_hint_16 : decode cX6_hint 16 = .ok (.iconst (-1), 1) := by decide +kernel
theorem dX6_hint_17 : decode cX6_hint 17 = .ok (.ireturn, 1) := by decide +kernel
theorem dX6_hint_18 : decode cX6_hint 18 = .ok (.aload_n 0, 1) := by decide +kernel
theorem dX6_hint_19 : decode cX6_hint 19 = .ok (.invokevirtual 159, 3) := by decide +kernel
theorem dX6_hint_22 : decode cX6_hint 22 = .ok (.iconst 0, 1) := by decide +kernel
theorem dX6_hint_23 : decode cX6_hint 23 = .ok (.istore_n 1, 1) := by decide +kernel
theorem dX6_hint_24 : decode cX6_hint 24 = .ok (.iload_n 1, 1) := by decide +kernel
theorem dX6_hint_25 : decode cX6_hint 25 = .ok (.aload_n 0, 1) := by decide +kernel
theorem dX6_hint_26 : decode cX6_hint 26 = .ok (.getfield 74, 3) := by decide +kernel
theorem dX6_hint_29 : decode cX6_hint 29 = .ok (.if_icmp .ge 20, 3) := by decide +kernel
theorem dX6_hint_32 : decode cX6_hint 32 = .ok (.aload_n 0, 1) := by decide +kernel
theorem dX6_hint_33 : decode cX6_hint 33 = .ok (.getfield 34, 3) := by decide +kernel
theorem dX6_hint_36 : decode cX6_hint 36 = .ok (.iload_n 1, 1) := by decide +kernel
theorem dX6_hint_37 : decode cX6_hint 37 = .ok (.iaload, 1) := by decide +kernel
theorem dX6_hint_38 : decode cX6_hint 38 = .ok (.ifCond .eq 5, 3) := by decide +kernel
theorem dX6_hint_41 : decode cX6_hint 41 = .ok (.iload_n 1, 1) := by decide +kernel
theorem dX6_hint_42 : decode cX6_hint 42 = .ok (.ireturn, 1) := by decide +kernel
theorem dX6_hint_43 : decode cX6_hint 43 = .ok (.iinc 1 1, 3) := by decide +kernel
theorem dX6_hint_46 : decode cX6_hint 46 = .ok (.goto (-22), 3) := by decide +kernel
theorem dX6_hint_49 : decode cX6_hint 49 = .ok (.iconst (-1), 1) := by decide +kernel
theorem dX6_hint_50 : decode cX6_hint 50 = .ok (.ireturn, 1) := by decide +kernel
theorem dX6_has_0 : decode cX6_has 0 = .ok (.lload_n 0, 1) := by decide +kernel
theorem dX6_has_1 : decode cX6_has 1 = .ok (.iload_n 2, 1) := by decide +kernel
theorem dX6_has_2 : decode cX6_has 2 = .ok (.lshr, 1) := by decide +kernel
theorem dX6_has_3 : decode cX6_has 3 = .ok (.lconst 1, 1) := by decide +kernel
theorem dX6_has_4 : decode cX6_has 4 = .ok (.land, 1) := by decide +kernel
theorem dX6_has_5 : decode cX6_has 5 = .ok (.lconst 1, 1) := by decide +kernel
theorem dX6_has_6 : decode cX6_has 6 = .ok (.lcmp, 1) := by decide +kernel
theorem dX6_has_7 : decode cX6_has 7 = .ok (.ifCond .ne 7, 3) := by decide +kernel
theorem dX6_has_10 : decode cX6_has 10 = .ok (.iconst 1, 1) := by decide +kernel
theorem dX6_has_11 : decode cX6_has 11 = .ok (.goto 4, 3) := by decide +kernel
theorem dX6_has_14 : decode cX6_has 14 = .ok (.iconst 0, 1) := by decide +kernel
theorem dX6_has_15 : decode cX6_has 15 = .ok (.ireturn, 1) := by decide +kernel
theorem dX6_border_0 : decode cX6_border 0 = .ok (.lconst 0, 1) := by decide +kernel
theorem dX6_border_1 : decode cX6_border 1 = .ok (.lstore_n 2, 1) := by decide +kernel
theorem dX6_border_2 : decode cX6_border 2 = .ok (.iconst 0, 1) := by decide +kernel
theorem dX6_border_3 : decode cX6_border 3 = .ok (.istore 4, 2) := by decide +kernel
theorem dX6_border_5 : decode cX6_border 5 = .ok (.iconst (-1), 1) := by decide +kernel
theorem dX6_border_6 : decode cX6_border 6 = .ok (.istore 5, 2) := by decide +kernel
theorem dX6_border_8 : decode cX6_border 8 = .ok (.iconst 0, 1) := by decide +kernel
theorem dX6_border_9 : decode cX6_border 9 = .ok (.istore 6, 2) := by decide +kernel
theorem dX6_border_11 : decode cX6_border 11 = .ok (.iload 6, 2) := by decide +kernel
theorem dX6_border_13 : decode cX6_border 13 = .ok (.aload_n 0, 1) := by decide +kernel
theorem dX6_border_14 : decode cX6_border 14 = .ok (.getfield 83, 3) := by decide +kernel
theorem dX6_border_17 : decode cX6_border 17 = .ok (.if_icmp .ge 17, 3) := by decide +kernel
theorem dX6_border_20 : decode cX6_border 20 = .ok (.aload_n 0, 1) := by decide +kernel
theorem dX6_border_21 : decode cX6_border 21 = .ok (.getfield 56, 3) := by decide +kernel
theorem dX6_border_24 : decode cX6_border 24 = .ok (.iload 6, 2) := by decide +kernel
theorem dX6_border_26 : decode cX6_border 26 = .ok (.iconst 0, 1) := by decide +kernel
theorem dX6_border_27 : decode cX6_border 27 = .ok (.iastore, 1) := by decide +kernel
theorem dX6_border_28 : decode cX6_border 28 = .ok (.iinc 6 1, 3) := by decide +kernel
theorem dX6_border_31 : decode cX6_border 31 = .ok (.goto (-20), 3) := by decide +kernel
theorem dX6_border_34 : decode cX6_border 34 = .ok (.iconst 0, 1) := by decide +kernel
theorem dX6_border_35 : decode cX6_border 35 = .ok (.istore 6, 2) := by decide +kernel
theorem dX6_border_37 : decode cX6_border 37 = .ok (.iload 6, 2) := by decide +kernel
theorem dX6_border_39 : decode cX6_border 39 = .ok (.aload_n 0, 1) := by decide +kernel
theorem dX6_border_40 : decode cX6_border 40 = .ok (.getfield 74, 3) := by decide +kernel
theorem dX6_border_43 : decode cX6_border 43 = .ok (.if_icmp .ge 91, 3) := by decide +kernel
theorem dX6_border_46 : decode cX6_border 46 = .ok (.iload_n 1, 1) := by decide +kernel
theorem dX6_border_47 : decode cX6_border 47 = .ok (.aload_n 0, 1) := by decide +kernel
theorem dX6_border_48 : decode cX6_border 48 = .ok (.getfield 16, 3) := by decide +kernel
theorem dX6_border_51 : decode cX6_border 51 = .ok (.iload 6, 2) := by decide +kernel
theorem dX6_border_53 : decode cX6_border 53 = .ok (.iaload, 1) := by decide +kernel
theorem dX6_border_54 : decode cX6_border 54 = .ok (.ishr, 1) := by decide +kernel
theorem dX6_border_55 : decode cX6_border 55 = .ok (.iconst 1, 1) := by decide +kernel
theorem dX6_border_56 : decode cX6_border 56 = .ok (.iand, 1) := by decide +kernel
theorem dX6_border_57 : decode cX6_border 57 = .ok (.iload_n 1, 1) := by decide +kernel
theorem dX6_border_58 : decode cX6_border 58 = .ok (.aload_n 0, 1) := by decide +kernel
theorem dX6_border_59 : decode cX6_border 59 = .ok (.getfield 19, 3) := by decide +kernel
theorem dX6_border_62 : decode cX6_border 62 = .ok (.iload 6, 2) := by decide +kernel
theorem dX6_border_64 : decode cX6_border 64 = .ok (.iaload, 1) := by decide +kernel
theorem dX6_border_65 : decode cX6_border 65 = .ok (.ishr, 1) := by decide +kernel
theorem dX6_border_66 : decode cX6_border 66 = .ok (.iconst 1, 1) := by decide +kernel
theorem dX6_border_67 : decode cX6_border 67 = .ok (.iand, 1) := by decide +kernel
theorem dX6_border_68 : decode cX6_border 68 = .ok (.if_icmp .eq 60, 3) := by decide +kernel
theorem dX6_border_71 : decode cX6_border 71 = .ok (.lload_n 2, 1) := by decide +kernel
theorem dX6_border_72 : decode cX6_border 72 = .ok (.lconst 1, 1) := by decide +kernel
theorem dX6_border_73 : decode cX6_border 73 = .ok (.iload 6, 2) := by decide +kernel
theorem dX6_border_75 : decode cX6_border 75 = .ok (.lshl, 1) := by decide +kernel
theorem dX6_border_76 : decode cX6_border 76 = .ok (.lor, 1) := by decide +kernel
theorem dX6_border_77 : decode cX6_border 77 = .ok (.lstore_n 2, 1) := by decide +kernel
theorem dX6_border_78 : decode cX6_border 78 = .ok (.iinc 4 1, 3) := by decide +kernel
theorem dX6_border_81 : decode cX6_border 81 = .ok (.iload 5, 2) := by decide +kernel
theorem dX6_border_83 : decode cX6_border 83 = .ok (.iconst (-1), 1) := by decide +kernel
theorem dX6_border_84 : decode cX6_border 84 = .ok (.if_icmp .ne 8, 3) := by decide +kernel
theorem dX6_border_87 : decode cX6_border 87 = .ok (.iload 6, 2) := by decide +kernel
theorem dX6_border_89 : decode cX6_border 89 = .ok (.goto 5, 3) := by decide +kernel
theorem dX6_border_92 : decode cX6_border 92 = .ok (.iload 5, 2) := by decide +kernel
theorem dX6_border_94 : decode cX6_border 94 = .ok (.istore 5, 2) := by decide +kernel
theorem dX6_border_96 : decode cX6_border 96 = .ok (.aload_n 0, 1) := by decide +kernel
theorem dX6_border_97 : decode cX6_border 97 = .ok (.getfield 56, 3) := by decide +kernel
theorem dX6_border_100 : decode cX6_border 100 = .ok (.aload_n 0, 1) := by decide +kernel
theorem dX6_border_101 : decode cX6_border 101 = .ok (.getfield 7, 3) := by decide +kernel
theorem dX6_border_104 : decode cX6_border 104 = .ok (.iload 6, 2) := by decide +kernel
theorem dX6_border_106 : decode cX6_border 106 = .ok (.iaload, 1) := by decide +kernel
theorem dX6_border_107 : decode cX6_border 107 = .ok (.dup2, 1) := by decide +kernel
theorem dX6_border_108 : decode cX6_border 108 = .ok (.iaload, 1) := by decide +kernel
theorem dX6_border_109 : decode cX6_border 109 = .ok (.iconst 1, 1) := by decide +kernel
theorem dX6_border_110 : decode cX6_border 110 = .ok (.iadd, 1) := by decide +kernel
theorem dX6_border_111 : decode cX6_border 111 = .ok (.iastore, 1) := by decide +kernel
theorem dX6_border_112 : decode cX6_border 112 = .ok (.aload_n 0, 1) := by decide +kernel
theorem dX6_border_113 : decode cX6_border 113 = .ok (.getfield 56, 3) := by decide +kernel
theorem dX6_border_116 : decode cX6_border 116 = .ok (.aload_n 0, 1) := by decide +kernel
theorem dX6_border_117 : decode cX6_border 117 = .ok (.getfield 13, 3) := by decide +kernel
theorem dX6_border_120 : decode cX6_border 120 = .ok (.iload 6, 2) := by decide +kernel
theorem dX6_border_122 : decode cX6_border 122 = .ok (.iaload, 1) := by decide +kernel
theorem dX6_border_123 : decode cX6_border 123 = .ok (.dup2, 1) := by decide +kernel
theorem dX6_border_124 : decode cX6_border 124 = .ok (.iaload, 1) := by decide +kernel
theorem dX6_border_125 : decode cX6_border 125 = .ok (.iconst 1, 1) := by decide +kernel
theorem dX6_border_126 : decode cX6_border 126 = .ok (.iadd, 1) := by decide +kernel
theorem dX6_border_127 : decode cX6_border 127 = .ok (.iastore, 1) := by decide +kernel
theorem dX6_border_128 : decode cX6_border 128 = .ok (.iinc 6 1, 3) := by decide +kernel
theorem dX6_border_131 : decode cX6_border 131 = .ok (.goto (-94), 3) := by decide +kernel
theorem dX6_border_134 : decode cX6_border 134 = .ok (.iconst 0, 1) := by decide +kernel
theorem dX6_border_135 : decode cX6_border 135 = .ok (.istore 6, 2) := by decide +kernel
theorem dX6_border_137 : decode cX6_border 137 = .ok (.iload 6, 2) := by decide +kernel
theorem dX6_border_139 : decode cX6_border 139 = .ok (.aload_n 0, 1) := by decide +kernel
theorem dX6_border_140 : decode cX6_border 140 = .ok (.getfield 83, 3) := by decide +kernel
theorem dX6_border_143 : decode cX6_border 143 = .ok (.if_icmp .ge 22, 3) := by decide +kernel
theorem dX6_border_146 : decode cX6_border 146 = .ok (.aload_n 0, 1) := by decide +kernel
theorem dX6_border_147 : decode cX6_border 147 = .ok (.getfield 56, 3) := by decide +kernel
theorem dX6_border_150 : decode cX6_border 150 = .ok (.iload 6, 2) := by decide +kernel
theorem dX6_border_152 : decode cX6_border 152 = .ok (.iaload, 1) := by decide +kernel
theorem dX6_border_153 : decode cX6_border 153 = .ok (.iconst 2, 1) := by decide +kernel
theorem dX6_border_154 : decode cX6_border 154 = .ok (.if_icmp .le 5, 3) := by decide +kernel
theorem dX6_border_157 : decode cX6_border 157 = .ok (.lconst 0, 1) := by decide +kernel
theorem dX6_border_158 : decode cX6_border 158 = .ok (.lreturn, 1) := by decide +kernel
theorem dX6_border_159 : decode cX6_border 159 = .ok (.iinc 6 1, 3) := by decide +kernel
theorem dX6_border_162 : decode cX6_border 162 = .ok (.goto (-25), 3) := by decide +kernel
theorem dX6_border_165 : decode cX6_border 165 = .ok (.iconst 1, 1) := by decide +kernel
theorem dX6_border_166 : decode cX6_border 166 = .ok (.istore 6, 2) := by decide +kernel
theorem dX6_border_168 : decode cX6_border 168 = .ok (.iload 5, 2) := by decide +kernel
theorem dX6_border_170 : decode cX6_border 170 = .ok (.istore 7, 2) := by decide +kernel
theorem dX6_border_172 : decode cX6_border 172 = .ok (.aload_n 0, 1) := by decide +kernel
theorem dX6_border_173 : decode cX6_border 173 = .ok (.getfield 13, 3) := by decide +kernel
theorem dX6_border_176 : decode cX6_border 176 = .ok (.iload 5, 2) := by decide +kernel
theorem dX6_border_178 : decode cX6_border 178 = .ok (.iaload, 1) := by decide +kernel
theorem dX6_border_179 : decode cX6_border 179 = .ok (.istore 8, 2) := by decide +kernel
theorem dX6_border_181 : decode cX6_border 181 = .ok (.iload 8, 2) := by decide +kernel
theorem dX6_border_183 : decode cX6_border 183 = .ok (.aload_n 0, 1) := by decide +kernel
theorem dX6_border_184 : decode cX6_border 184 = .ok (.getfield 7, 3) := by decide +kernel
theorem dX6_border_187 : decode cX6_border 187 = .ok (.iload 5, 2) := by decide +kernel
theorem dX6_border_189 : decode cX6_border 189 = .ok (.iaload, 1) := by decide +kernel
theorem dX6_border_190 : decode cX6_border 190 = .ok (.if_icmp .eq 119, 3) := by decide +kernel
theorem dX6_border_193 : decode cX6_border 193 = .ok (.iconst (-1), 1) := by decide +kernel
theorem dX6_border_194 : decode cX6_border 194 = .ok (.istore 9, 2) := by decide +kernel
theorem dX6_border_196 : decode cX6_border 196 = .ok (.iconst 0, 1) := by decide +kernel
theorem dX6_border_197 : decode cX6_border 197 = .ok (.istore 10, 2) := by decide +kernel
theorem dX6_border_199 : decode cX6_border 199 = .ok (.iload 10, 2) := by decide +kernel
theorem dX6_border_201 : decode cX6_border 201 = .ok (.aload_n 0, 1) := by decide +kernel
theorem dX6_border_202 : decode cX6_border 202 = .ok (.getfield 74, 3) := by decide +kernel
theorem dX6_border_205 : decode cX6_border 205 = .ok (.if_icmp .ge 63, 3) := by decide +kernel
theorem dX6_border_208 : decode cX6_border 208 = .ok (.iload 9, 2) := by decide +kernel
theorem dX6_border_210 : decode cX6_border 210 = .ok (.iconst (-1), 1) := by decide +kernel
theorem dX6_border_211 : decode cX6_border 211 = .ok (.if_icmp .ne 57, 3) := by decide +kernel
theorem dX6_border_214 : decode cX6_border 214 = .ok (.iload 10, 2) := by decide +kernel
theorem dX6_border_216 : decode cX6_border 216 = .ok (.iload 7, 2) := by decide +kernel
theorem dX6_border_218 : decode cX6_border 218 = .ok (.if_icmp .eq 41, 3) := by decide +kernel
theorem dX6_border_221 : decode cX6_border 221 = .ok (.lload_n 2, 1) := by decide +kernel
theorem dX6_border_222 : decode cX6_border 222 = .ok (.iload 10, 2) := by decide +kernel
theorem dX6_border_224 : decode cX6_border 224 = .ok (.invokestatic 166, 3) := by decide +kernel
theorem dX6_border_227 : decode cX6_border 227 = .ok (.ifCond .eq 32, 3) := by decide +kernel
theorem dX6_border_230 : decode cX6_border 230 = .ok (.aload_n 0, 1) := by decide +kernel
theorem dX6_border_231 : decode cX6_border 231 = .ok (.getfield 7, 3) := by decide +kernel
theorem dX6_border_234 : decode cX6_border 234 = .ok (.iload 10, 2) := by decide +kernel
theorem dX6_border_236 : decode cX6_border 236 = .ok (.iaload, 1) := by decide +kernel
theorem dX6_border_237 : decode cX6_border 237 = .ok (.iload 8, 2) := by decide +kernel
theorem dX6_border_239 : decode cX6_border 239 = .ok (.if_icmp .eq 15, 3) := by decide +kernel
theorem dX6_border_242 : decode cX6_border 242 = .ok (.aload_n 0, 1) := by decide +kernel
theorem dX6_border_243 : decode cX6_border 243 = .ok (.getfield 13, 3) := by decide +kernel
theorem dX6_border_246 : decode cX6_border 246 = .ok (.iload 10, 2) := by decide +kernel
theorem dX6_border_248 : decode cX6_border 248 = .ok (.iaload, 1) := by decide +kernel
theorem dX6_border_249 : decode cX6_border 249 = .ok (.iload 8, 2) := by decide +kernel
theorem dX6_border_251 : decode cX6_border 251 = .ok (.if_icmp .ne 8, 3) := by decide +kernel
theorem dX6_border_254 : decode cX6_border 254 = .ok (.iload 10, 2) := by decide +kernel
theorem dX6_border_256 : decode cX6_border 256 = .ok (.goto 4, 3) := by decide +kernel
theorem dX6_border_259 : decode cX6_border 259 = .ok (.iconst (-1), 1) := by decide +kernel
theorem dX6_border_260 : decode cX6_border 260 = .ok (.istore 9, 2) := by decide +kernel
theorem dX6_border_262 : decode cX6_border 262 = .ok (.iinc 10 1, 3) := by decide +kernel
theorem dX6_border_265 : decode cX6_border 265 = .ok (.goto (-66), 3) := by decide +kernel
theorem dX6_border_268 : decode cX6_border 268 = .ok (.aload_n 0, 1) := by decide +kernel
theorem dX6_border_269 : decode cX6_border 269 = .ok (.getfield 7, 3) := by decide +kernel
theorem dX6_border_272 : decode cX6_border 272 = .ok (.iload 9, 2) := by decide +kernel
theorem dX6_border_274 : decode cX6_border 274 = .ok (.iaload, 1) := by decide +kernel
theorem dX6_border_275 : decode cX6_border 275 = .ok (.iload 8, 2) := by decide +kernel
theorem dX6_border_277 : decode cX6_border 277 = .ok (.if_icmp .ne 13, 3) := by decide +kernel
theorem dX6_border_280 : decode cX6_border 280 = .ok (.aload_n 0, 1) := by decide +kernel
theorem dX6_border_281 : decode cX6_border 281 = .ok (.getfield 13, 3) := by decide +kernel
theorem dX6_border_284 : decode cX6_border 284 = .ok (.iload 9, 2) := by decide +kernel
theorem dX6_border_286 : decode cX6_border 286 = .ok (.iaload, 1) := by decide +kernel
theorem dX6_border_287 : decode cX6_border 287 = .ok (.goto 10, 3) := by decide +kernel
theorem dX6_border_290 : decode cX6_border 290 = .ok (.aload_n 0, 1) := by decide +kernel
theorem dX6_border_291 : decode cX6_border 291 = .ok (.getfield 7, 3) := by decide +kernel
theorem dX6_border_294 : decode cX6_border 294 = .ok (.iload 9, 2) := by decide +kernel
theorem dX6_border_296 : decode cX6_border 296 = .ok (.iaload, 1) := by decide +kernel
theorem dX6_border_297 : decode cX6_border 297 = .ok (.istore 8, 2) := by decide +kernel
theorem dX6_border_299 : decode cX6_border 299 = .ok (.iload 9, 2) := by decide +kernel
theorem dX6_border_301 : decode cX6_border 301 = .ok (.istore 7, 2) := by decide +kernel
theorem dX6_border_303 : decode cX6_border 303 = .ok (.iinc 6 1, 3) := by decide +kernel
theorem dX6_border_306 : decode cX6_border 306 = .ok (.goto (-125), 3) := by decide +kernel
theorem dX6_border_309 : decode cX6_border 309 = .ok (.iload 6, 2) := by decide +kernel
theorem dX6_border_311 : decode cX6_border 311 = .ok (.iload 4, 2) := by decide +kernel
theorem dX6_border_313 : decode cX6_border 313 = .ok (.if_icmp .ne 7, 3) := by decide +kernel
theorem dX6_border_316 : decode cX6_border 316 = .ok (.lload_n 2, 1) := by decide +kernel
theorem dX6_border_317 : decode cX6_border 317 = .ok (.goto 4, 3) := by decide +kernel
theorem dX6_border_320 : decode cX6_border 320 = .ok (.lconst 0, 1) := by decide +kernel
theorem dX6_border_321 : decode cX6_border 321 = .ok (.lreturn, 1) := by decide +kernel
theorem dX6_isAhead_0 : decode cX6_isAhead 0 = .ok (.lload_n 0, 1) := by decide +kernel
theorem dX6_isAhead_1 : decode cX6_isAhead 1 = .ok (.lload_n 2, 1) := by decide +kernel
theorem dX6_isAhead_2 : decode cX6_isAhead 2 = .ok (.lxor, 1) := by decide +kernel
theorem dX6_isAhead_3 : decode cX6_isAhead 3 = .ok (.lstore 4, 2) := by decide +kernel
theorem dX6_isAhead_5 : decode cX6_isAhead 5 = .ok (.lload_n 0, 1) := by decide +kernel
theorem dX6_isAhead_6 : decode cX6_isAhead 6 = .ok (.lload 4, 2) := by decide +kernel
theorem dX6_isAhead_8 : decode cX6_isAhead 8 = .ok (.land, 1) := by decide +kernel
theorem dX6_isAhead_9 : decode cX6_isAhead 9 = .ok (.lload 4, 2) := by decide +kernel
theorem dX6_isAhead_11 : decode cX6_isAhead 11 = .ok (.lneg, 1) := by decide +kernel
theorem dX6_isAhead_12 : decode cX6_isAhead 12 = .ok (.land, 1) := by decide +kernel
theorem dX6_isAhead_13 : decode cX6_isAhead 13 = .ok (.lconst 0, 1) := by decide +kernel
theorem dX6_isAhead_14 : decode cX6_isAhead 14 = .ok (.lcmp, 1) := by decide +kernel
theorem dX6_isAhead_15 : decode cX6_isAhead 15 = .ok (.ifCond .eq 7, 3) := by decide +kernel
theorem dX6_isAhead_18 : decode cX6_isAhead 18 = .ok (.iconst 1, 1) := by decide +kernel
theorem dX6_isAhead_19 : decode cX6_isAhead 19 = .ok (.goto 4, 3) := by decide +kernel
theorem dX6_isAhead_22 : decode cX6_isAhead 22 = .ok (.iconst 0, 1) := by decide +kernel
theorem dX6_isAhead_23 : decode cX6_isAhead 23 = .ok (.ireturn, 1) := by decide +kernel
theorem dX6_findLoops_0 : decode cX6_findLoops 0 = .ok (.aload_n 0, 1) := by decide +kernel
theorem dX6_findLoops_1 : decode cX6_findLoops 1 = .ok (.getfield 170, 3) := by decide +kernel
theorem dX6_findLoops_4 : decode cX6_findLoops 4 = .ok (.bipush 10, 2) := by decide +kernel
theorem dX6_findLoops_6 : decode cX6_findLoops 6 = .ok (.aload_n 0, 1) := by decide +kernel
theorem dX6_findLoops_7 : decode cX6_findLoops 7 = .ok (.getfield 80, 3) := by decide +kernel
theorem dX6_findLoops_10 : decode cX6_findLoops 10 = .ok (.imul, 1) := by decide +kernel
theorem dX6_findLoops_11 : decode cX6_findLoops 11 = .ok (.aload_n 0, 1) := by decide +kernel
theorem dX6_findLoops_12 : decode cX6_findLoops 12 = .ok (.getfield 77, 3) := by decide +kernel
theorem dX6_findLoops_15 : decode cX6_findLoops 15 = .ok (.iadd, 1) := by decide +kernel
theorem dX6_findLoops_16 : decode cX6_findLoops 16 = .ok (.if_icmp .ne 4, 3) := by decide +kernel
theorem dX6_findLoops_19 : decode cX6_findLoops 19 = .ok (.return_, 1) := by decide +kernel
theorem dX6_findLoops_20 : decode cX6_findLoops 20 = .ok (.aload_n 0, 1) := by decide +kernel
theorem dX6_findLoops_21 : decode cX6_findLoops 21 = .ok (.bipush 10, 2) := by decide +kernel
theorem dX6_findLoops_23 : decode cX6_findLoops 23 = .ok (.aload_n 0, 1) := by decide +kernel
theorem dX6_findLoops_24 : decode cX6_findLoops 24 = .ok (.getfield 80, 3) := by decide +kernel
theorem dX6_findLoops_27 : decode cX6_findLoops 27 = .ok (.imul, 1) := by decide +kernel
theorem dX6_findLoops_28 : decode cX6_findLoops 28 = .ok (.aload_n 0, 1) := by decide +kernel
theorem dX6_findLoops_29 : decode cX6_findLoops 29 = .ok (.getfield 77, 3) := by decide +kernel
theorem dX6_findLoops_32 : decode cX6_findLoops 32 = .ok (.iadd, 1) := by decide +kernel
theorem dX6_findLoops_33 : decode cX6_findLoops 33 = .ok (.putfield 170, 3) := by decide +kernel
theorem dX6_findLoops_36 : decode cX6_findLoops 36 = .ok (.aload_n 0, 1) := by decide +kernel
theorem dX6_findLoops_37 : decode cX6_findLoops 37 = .ok (.iconst 0, 1) := by decide +kernel
theorem dX6_findLoops_38 : decode cX6_findLoops 38 = .ok (.putfield 173, 3) := by decide +kernel
theorem dX6_findLoops_41 : decode cX6_findLoops 41 = .ok (.iconst 1, 1) := by decide +kernel
theorem dX6_findLoops_42 : decode cX6_findLoops 42 = .ok (.istore_n 1, 1) := by decide +kernel
theorem dX6_findLoops_43 : decode cX6_findLoops 43 = .ok (.iload_n 1, 1) := by decide +kernel
theorem dX6_findLoops_44 : decode cX6_findLoops 44 = .ok (.iconst 1, 1) := by decide +kernel
theorem dX6_findLoops_45 : decode cX6_findLoops 45 = .ok (.aload_n 0, 1) := by decide +kernel
theorem dX6_findLoops_46 : decode cX6_findLoops 46 = .ok (.getfield 71, 3) := by decide +kernel
theorem dX6_findLoops_49 : decode cX6_findLoops 49 = .ok (.ishl, 1) := by decide +kernel
theorem dX6_findLoops_50 : decode cX6_findLoops 50 = .ok (.if_icmp .ge 41, 3) := by decide +kernel
theorem dX6_findLoops_53 : decode cX6_findLoops 53 = .ok (.aload_n 0, 1) := by decide +kernel
theorem dX6_findLoops_54 : decode cX6_findLoops 54 = .ok (.iload_n 1, 1) := by decide +kernel
theorem dX6_findLoops_55 : decode cX6_findLoops 55 = .ok (.invokevirtual 176, 3) := by decide +kernel
theorem dX6_findLoops_58 : decode cX6_findLoops 58 = .ok (.lstore_n 2, 1) := by decide +kernel
theorem dX6_findLoops_59 : decode cX6_findLoops 59 = .ok (.lload_n 2, 1) := by decide +kernel
theorem dX6_findLoops_60 : decode cX6_findLoops 60 = .ok (.lconst 0, 1) := by decide +kernel
theorem dX6_findLoops_61 : decode cX6_findLoops 61 = .ok (.lcmp, 1) := by decide +kernel
theorem dX6_findLoops_62 : decode cX6_findLoops 62 = .ok (.ifCond .eq 23, 3) := by decide +kernel
theorem dX6_findLoops_65 : decode cX6_findLoops 65 = .ok (.aload_n 0, 1) := by decide +kernel
theorem dX6_findLoops_66 : decode cX6_findLoops 66 = .ok (.getfield 59, 3) := by decide +kernel
theorem dX6_findLoops_69 : decode cX6_findLoops 69 = .ok (.aload_n 0, 1) := by decide +kernel
theorem dX6_findLoops_70 : decode cX6_findLoops 70 = .ok (.getfield 173, 3) := by decide +kernel
theorem dX6_findLoops_73 : decode cX6_findLoops 73 = .ok (.lload_n 2, 1) := by decide +kernel
theorem dX6_findLoops_74 : decode cX6_findLoops 74 = .ok (.lastore, 1) := by decide +kernel
theorem dX6_findLoops_75 : decode cX6_findLoops 75 = .ok (.aload_n 0, 1) := by decide +kernel
theorem dX6_findLoops_76 : decode cX6_findLoops 76 = .ok (.dup, 1) := by decide +kernel
theorem dX6_findLoops_77 : decode cX6_findLoops 77 = .ok (.getfield 173, 3) := by decide +kernel
theorem dX6_findLoops_80 : decode cX6_findLoops 80 = .ok (.iconst 1, 1) := by decide +kernel
theorem dX6_findLoops_81 : decode cX6_findLoops 81 = .ok (.iadd, 1) := by decide +kernel
theorem dX6_findLoops_82 : decode cX6_findLoops 82 = .ok (.putfield 173, 3) := by decide +kernel
theorem dX6_findLoops_85 : decode cX6_findLoops 85 = .ok (.iinc 1 1, 3) := by decide +kernel
theorem dX6_findLoops_88 : decode cX6_findLoops 88 = .ok (.goto (-45), 3) := by decide +kernel
theorem dX6_findLoops_91 : decode cX6_findLoops 91 = .ok (.aload_n 0, 1) := by decide +kernel
theorem dX6_findLoops_92 : decode cX6_findLoops 92 = .ok (.getfield 173, 3) := by decide +kernel
theorem dX6_findLoops_95 : decode cX6_findLoops 95 = .ok (.iconst 2, 1) := by decide +kernel
theorem dX6_findLoops_96 : decode cX6_findLoops 96 = .ok (.idiv, 1) := by decide +kernel
theorem dX6_findLoops_97 : decode cX6_findLoops 97 = .ok (.istore_n 1, 1) := by decide +kernel
theorem dX6_findLoops_98 : decode cX6_findLoops 98 = .ok (.iload_n 1, 1) := by decide +kernel
theorem dX6_findLoops_99 : decode cX6_findLoops 99 = .ok (.ifCond .le 91, 3) := by decide +kernel
theorem dX6_findLoops_102 : decode cX6_findLoops 102 = .ok (.iload_n 1, 1) := by decide +kernel
theorem dX6_findLoops_103 : decode cX6_findLoops 103 = .ok (.istore_n 2, 1) := by decide +kernel
theorem dX6_findLoops_104 : decode cX6_findLoops 104 = .ok (.iload_n 2, 1) := by decide +kernel
theorem dX6_findLoops_105 : decode cX6_findLoops 105 = .ok (.aload_n 0, 1) := by decide +kernel
theorem dX6_findLoops_106 : decode cX6_findLoops 106 = .ok (.getfield 173, 3) := by decide +kernel
theorem dX6_findLoops_109 : decode cX6_findLoops 109 = .ok (.if_icmp .ge 74, 3) := by decide +kernel
theorem dX6_findLoops_112 : decode cX6_findLoops 112 = .ok (.aload_n 0, 1) := by decide +kernel
theorem dX6_findLoops_113 : decode cX6_findLoops 113 = .ok (.getfield 59, 3) := by decide +kernel
theorem dX6_findLoops_116 : decode cX6_findLoops 116 = .ok (.iload_n 2, 1) := by decide +kernel
theorem dX6_findLoops_117 : decode cX6_findLoops 117 = .ok (.laload, 1) := by decide +kernel
theorem dX6_findLoops_118 : decode cX6_findLoops 118 = .ok (.lstore_n 3, 1) := by decide +kernel
theorem dX6_findLoops_119 : decode cX6_findLoops 119 = .ok (.iload_n 2, 1) := by decide +kernel
theorem dX6_findLoops_120 : decode cX6_findLoops 120 = .ok (.istore 5, 2) := by decide +kernel
theorem dX6_findLoops_122 : decode cX6_findLoops 122 = .ok (.iload 5, 2) := by decide +kernel
theorem dX6_findLoops_124 : decode cX6_findLoops 124 = .ok (.iload_n 1, 1) := by decide +kernel
theorem dX6_findLoops_125 : decode cX6_findLoops 125 = .ok (.if_icmp .lt 44, 3) := by decide +kernel
theorem dX6_findLoops_128 : decode cX6_findLoops 128 = .ok (.lload_n 3, 1) := by decide +kernel
theorem dX6_findLoops_129 : decode cX6_findLoops 129 = .ok (.aload_n 0, 1) := by decide +kernel
theorem dX6_findLoops_130 : decode cX6_findLoops 130 = .ok (.getfield 59, 3) := by decide +kernel
theorem dX6_findLoops_133 : decode cX6_findLoops 133 = .ok (.iload 5, 2) := by decide +kernel
theorem dX6_findLoops_135 : decode cX6_findLoops 135 = .ok (.iload_n 1, 1) := by decide +kernel
theorem dX6_findLoops_136 : decode cX6_findLoops 136 = .ok (.isub, 1) := by decide +kernel
theorem dX6_findLoops_137 : decode cX6_findLoops 137 = .ok (.laload, 1) := by decide +kernel
theorem dX6_findLoops_138 : decode cX6_findLoops 138 = .ok (.invokestatic 180, 3) := by decide +kernel
theorem dX6_findLoops_141 : decode cX6_findLoops 141 = .ok (.ifCond .eq 28, 3) := by decide +kernel
theorem dX6_findLoops_144 : decode cX6_findLoops 144 = .ok (.aload_n 0, 1) := by decide +kernel
theorem dX6_findLoops_145 : decode cX6_findLoops 145 = .ok (.getfield 59, 3) := by decide +kernel
theorem dX6_findLoops_148 : decode cX6_findLoops 148 = .ok (.iload 5, 2) := by decide +kernel
theorem dX6_findLoops_150 : decode cX6_findLoops 150 = .ok (.aload_n 0, 1) := by decide +kernel
theorem dX6_findLoops_151 : decode cX6_findLoops 151 = .ok (.getfield 59, 3) := by decide +kernel
theorem dX6_findLoops_154 : decode cX6_findLoops 154 = .ok (.iload 5, 2) := by decide +kernel
theorem dX6_findLoops_156 : decode cX6_findLoops 156 = .ok (.iload_n 1, 1) := by decide +kernel
theorem dX6_findLoops_157 : decode cX6_findLoops 157 = .ok (.isub, 1) := by decide +kernel
theorem dX6_findLoops_158 : decode cX6_findLoops 158 = .ok (.laload, 1) := by decide +kernel
theorem dX6_findLoops_159 : decode cX6_findLoops 159 = .ok (.lastore, 1) := by decide +kernel
theorem dX6_findLoops_160 : decode cX6_findLoops 160 = .ok (.iload 5, 2) := by decide +kernel
theorem dX6_findLoops_162 : decode cX6_findLoops 162 = .ok (.iload_n 1, 1) := by decide +kernel
theorem dX6_findLoops_163 : decode cX6_findLoops 163 = .ok (.isub, 1) := by decide +kernel
theorem dX6_findLoops_164 : decode cX6_findLoops 164 = .ok (.istore 5, 2) := by decide +kernel
theorem dX6_findLoops_166 : decode cX6_findLoops 166 = .ok (.goto (-44), 3) := by decide +kernel
theorem dX6_findLoops_169 : decode cX6_findLoops 169 = .ok (.aload_n 0, 1) := by decide +kernel
theorem dX6_findLoops_170 : decode cX6_findLoops 170 = .ok (.getfield 59, 3) := by decide +kernel
theorem dX6_findLoops_173 : decode cX6_findLoops 173 = .ok (.iload 5, 2) := by decide +kernel
theorem dX6_findLoops_175 : decode cX6_findLoops 175 = .ok (.lload_n 3, 1) := by decide +kernel
theorem dX6_findLoops_176 : decode cX6_findLoops 176 = .ok (.lastore, 1) := by decide +kernel
theorem dX6_findLoops_177 : decode cX6_findLoops 177 = .ok (.iinc 2 1, 3) := by decide +kernel
theorem dX6_findLoops_180 : decode cX6_findLoops 180 = .ok (.goto (-76), 3) := by decide +kernel
theorem dX6_findLoops_183 : decode cX6_findLoops 183 = .ok (.iload_n 1, 1) := by decide +kernel
theorem dX6_findLoops_184 : decode cX6_findLoops 184 = .ok (.iconst 2, 1) := by decide +kernel
theorem dX6_findLoops_185 : decode cX6_findLoops 185 = .ok (.idiv, 1) := by decide +kernel
theorem dX6_findLoops_186 : decode cX6_findLoops 186 = .ok (.istore_n 1, 1) := by decide +kernel
theorem dX6_findLoops_187 : decode cX6_findLoops 187 = .ok (.goto (-89), 3) := by decide +kernel
theorem dX6_findLoops_190 : decode cX6_findLoops 190 = .ok (.return_, 1) := by decide +kernel
theorem dX6_fits_0 : decode cX6_fits 0 = .ok (.iconst 0, 1) := by decide +kernel
theorem dX6_fits_1 : decode cX6_fits 1 = .ok (.istore 4, 2) := by decide +kernel
theorem dX6_fits_3 : decode cX6_fits 3 = .ok (.iload 4, 2) := by decide +kernel
theorem dX6_fits_5 : decode cX6_fits 5 = .ok (.aload_n 0, 1) := by decide +kernel
theorem dX6_fits_6 : decode cX6_fits 6 = .ok (.getfield 74, 3) := by decide +kernel
theorem dX6_fits_9 : decode cX6_fits 9 = .ok (.if_icmp .ge 46, 3) := by decide +kernel
theorem dX6_fits_12 : decode cX6_fits 12 = .ok (.aload_n 0, 1) := by decide +kernel
theorem dX6_fits_13 : decode cX6_fits 13 = .ok (.getfield 28, 3) := by decide +kernel
theorem dX6_fits_16 : decode cX6_fits 16 = .ok (.iload 4, 2) := by decide +kernel
theorem dX6_fits_18 : decode cX6_fits 18 = .ok (.iaload, 1) := by decide +kernel
theorem dX6_fits_19 : decode cX6_fits 19 = .ok (.ifCond .eq 30, 3) := by decide +kernel
theorem dX6_fits_22 : decode cX6_fits 22 = .ok (.lload_n 1, 1) := by decide +kernel
theorem dX6_fits_23 : decode cX6_fits 23 = .ok (.iload 4, 2) := by decide +kernel
theorem dX6_fits_25 : decode cX6_fits 25 = .ok (.invokestatic 166, 3) := by decide +kernel
theorem dX6_fits_28 : decode cX6_fits 28 = .ok (.aload_n 0, 1) := by decide +kernel
theorem dX6_fits_29 : decode cX6_fits 29 = .ok (.getfield 28, 3) := by decide +kernel
theorem dX6_fits_32 : decode cX6_fits 32 = .ok (.iload 4, 2) := by decide +kernel
theorem dX6_fits_34 : decode cX6_fits 34 = .ok (.iaload, 1) := by decide +kernel
theorem dX6_fits_35 : decode cX6_fits 35 = .ok (.iconst 1, 1) := by decide +kernel
theorem dX6_fits_36 : decode cX6_fits 36 = .ok (.if_icmp .ne 7, 3) := by decide +kernel
theorem dX6_fits_39 : decode cX6_fits 39 = .ok (.iconst 1, 1) := by decide +kernel
theorem dX6_fits_40 : decode cX6_fits 40 = .ok (.goto 4, 3) := by decide +kernel
theorem dX6_fits_43 : decode cX6_fits 43 = .ok (.iconst 0, 1) := by decide +kernel
theorem dX6_fits_44 : decode cX6_fits 44 = .ok (.if_icmp .eq 5, 3) := by decide +kernel
theorem dX6_fits_47 : decode cX6_fits 47 = .ok (.iconst 0, 1) := by decide +kernel
theorem dX6_fits_48 : decode cX6_fits 48 = .ok (.ireturn, 1) := by decide +kernel
theorem dX6_fits_49 : decode cX6_fits 49 = .ok (.iinc 4 1, 3) := by decide +kernel
theorem dX6_fits_52 : decode cX6_fits 52 = .ok (.goto (-49), 3) := by decide +kernel
theorem dX6_fits_55 : decode cX6_fits 55 = .ok (.iconst 0, 1) := by decide +kernel
theorem dX6_fits_56 : decode cX6_fits 56 = .ok (.istore 4, 2) := by decide +kernel
theorem dX6_fits_58 : decode cX6_fits 58 = .ok (.iload 4, 2) := by decide +kernel
theorem dX6_fits_60 : decode cX6_fits 60 = .ok (.aload_n 0, 1) := by decide +kernel
theorem dX6_fits_61 : decode cX6_fits 61 = .ok (.getfield 71, 3) := by decide +kernel
theorem dX6_fits_64 : decode cX6_fits 64 = .ok (.if_icmp .ge 87, 3) := by decide +kernel
theorem dX6_fits_67 : decode cX6_fits 67 = .ok (.iconst 0, 1) := by decide +kernel
theorem dX6_fits_68 : decode cX6_fits 68 = .ok (.istore 5, 2) := by decide +kernel
theorem dX6_fits_70 : decode cX6_fits 70 = .ok (.iconst 0, 1) := by decide +kernel
theorem dX6_fits_71 : decode cX6_fits 71 = .ok (.istore 6, 2) := by decide +kernel
theorem dX6_fits_73 : decode cX6_fits 73 = .ok (.iload 6, 2) := by decide +kernel
theorem dX6_fits_75 : decode cX6_fits 75 = .ok (.iconst 4, 1) := by decide +kernel
theorem dX6_fits_76 : decode cX6_fits 76 = .ok (.if_icmp .ge 38, 3) := by decide +kernel
theorem dX6_fits_79 : decode cX6_fits 79 = .ok (.iload 5, 2) := by decide +kernel
theorem dX6_fits_81 : decode cX6_fits 81 = .ok (.lload_n 1, 1) := by decide +kernel
theorem dX6_fits_82 : decode cX6_fits 82 = .ok (.aload_n 0, 1) := by decide +kernel
theorem dX6_fits_83 : decode cX6_fits 83 = .ok (.getfield 22, 3) := by decide +kernel
theorem dX6_fits_86 : decode cX6_fits 86 = .ok (.iconst 4, 1) := by decide +kernel
theorem dX6_fits_87 : decode cX6_fits 87 = .ok (.iload 4, 2) := by decide +kernel
theorem dX6_fits_89 : decode cX6_fits 89 = .ok (.imul, 1) := by decide +kernel
theorem dX6_fits_90 : decode cX6_fits 90 = .ok (.iload 6, 2) := by decide +kernel
theorem dX6_fits_92 : decode cX6_fits 92 = .ok (.iadd, 1) := by decide +kernel
theorem dX6_fits_93 : decode cX6_fits 93 = .ok (.iaload, 1) := by decide +kernel
theorem dX6_fits_94 : decode cX6_fits 94 = .ok (.invokestatic 166, 3) := by decide +kernel
theorem dX6_fits_97 : decode cX6_fits 97 = .ok (.ifCond .eq 7, 3) := by decide +kernel
theorem dX6_fits_100 : decode cX6_fits 100 = .ok (.iconst 1, 1) := by decide +kernel
theorem dX6_fits_101 : decode cX6_fits 101 = .ok (.goto 4, 3) := by decide +kernel
theorem dX6_fits_104 : decode cX6_fits 104 = .ok (.iconst 0, 1) := by decide +kernel
theorem dX6_fits_105 : decode cX6_fits 105 = .ok (.iadd, 1) := by decide +kernel
theorem dX6_fits_106 : decode cX6_fits 106 = .ok (.istore 5, 2) := by decide +kernel
theorem dX6_fits_108 : decode cX6_fits 108 = .ok (.iinc 6 1, 3) := by decide +kernel
theorem dX6_fits_111 : decode cX6_fits 111 = .ok (.goto (-38), 3) := by decide +kernel
theorem dX6_fits_114 : decode cX6_fits 114 = .ok (.aload_n 0, 1) := by decide +kernel
theorem dX6_fits_115 : decode cX6_fits 115 = .ok (.getfield 25, 3) := by decide +kernel
theorem dX6_fits_118 : decode cX6_fits 118 = .ok (.iload 4, 2) := by decide +kernel
theorem dX6_fits_120 : decode cX6_fits 120 = .ok (.iaload, 1) := by decide +kernel
theorem dX6_fits_121 : decode cX6_fits 121 = .ok (.iconst (-1), 1) := by decide +kernel
theorem dX6_fits_122 : decode cX6_fits 122 = .ok (.if_icmp .eq 23, 3) := by decide +kernel
theorem dX6_fits_125 : decode cX6_fits 125 = .ok (.iload 4, 2) := by decide +kernel
theorem dX6_fits_127 : decode cX6_fits 127 = .ok (.iload_n 3, 1) := by decide +kernel
theorem dX6_fits_128 : decode cX6_fits 128 = .ok (.if_icmp .eq 17, 3) := by decide +kernel
theorem dX6_fits_131 : decode cX6_fits 131 = .ok (.iload 5, 2) := by decide +kernel
theorem dX6_fits_133 : decode cX6_fits 133 = .ok (.aload_n 0, 1) := by decide +kernel
theorem dX6_fits_134 : decode cX6_fits 134 = .ok (.getfield 25, 3) := by decide +kernel
theorem dX6_fits_137 : decode cX6_fits 137 = .ok (.iload 4, 2) := by decide +kernel
theorem dX6_fits_139 : decode cX6_fits 139 = .ok (.iaload, 1) := by decide +kernel
theorem dX6_fits_140 : decode cX6_fits 140 = .ok (.if_icmp .eq 5, 3) := by decide +kernel
theorem dX6_fits_143 : decode cX6_fits 143 = .ok (.iconst 0, 1) := by decide +kernel
theorem dX6_fits_144 : decode cX6_fits 144 = .ok (.ireturn, 1) := by decide +kernel
theorem dX6_fits_145 : decode cX6_fits 145 = .ok (.iinc 4 1, 3) := by decide +kernel
theorem dX6_fits_148 : decode cX6_fits 148 = .ok (.goto (-90), 3) := by decide +kernel
theorem dX6_fits_151 : decode cX6_fits 151 = .ok (.iconst 1, 1) := by decide +kernel
theorem dX6_fits_152 : decode cX6_fits 152 = .ok (.ireturn, 1) := by decide +kernel
theorem dX6_answersWithout_0 : decode cX6_answersWithout 0 = .ok (.aload_n 0, 1) := by decide +kernel
theorem dX6_answersWithout_1 : decode cX6_answersWithout 1 = .ok (.invokevirtual 184, 3) := by decide +kernel
theorem dX6_answersWithout_4 : decode cX6_answersWithout 4 = .ok (.iconst 0, 1) := by decide +kernel
theorem dX6_answersWithout_5 : decode cX6_answersWithout 5 = .ok (.istore_n 2, 1) := by decide +kernel
theorem dX6_answersWithout_6 : decode cX6_answersWithout 6 = .ok (.iconst 0, 1) := by decide +kernel
theorem dX6_answersWithout_7 : decode cX6_answersWithout 7 = .ok (.istore_n 3, 1) := by decide +kernel
theorem dX6_answersWithout_8 : decode cX6_answersWithout 8 = .ok (.iload_n 3, 1) := by decide +kernel
theorem dX6_answersWithout_9 : decode cX6_answersWithout 9 = .ok (.aload_n 0, 1) := by decide +kernel
theorem dX6_answersWithout_10 : decode cX6_answersWithout 10 = .ok (.getfield 173, 3) := by decide +kernel
theorem dX6_answersWithout_13 : decode cX6_answersWithout 13 = .ok (.if_icmp .ge 31, 3) := by decide +kernel
theorem dX6_answersWithout_16 : decode cX6_answersWithout 16 = .ok (.iload_n 2, 1) := by decide +kernel
theorem dX6_answersWithout_17 : decode cX6_answersWithout 17 = .ok (.aload_n 0, 1) := by decide +kernel
theorem dX6_answersWithout_18 : decode cX6_answersWithout 18 = .ok (.aload_n 0, 1) := by decide +kernel
theorem dX6_answersWithout_19 : decode cX6_answersWithout 19 = .ok (.getfield 59, 3) := by decide +kernel
theorem dX6_answersWithout_22 : decode cX6_answersWithout 22 = .ok (.iload_n 3, 1) := by decide +kernel
theorem dX6_answersWithout_23 : decode cX6_answersWithout 23 = .ok (.laload, 1) := by decide +kernel
theorem dX6_answersWithout_24 : decode cX6_answersWithout 24 = .ok (.iload_n 1, 1) := by decide +kernel
theorem dX6_answersWithout_25 : decode cX6_answersWithout 25 = .ok (.invokevirtual 187, 3) := by decide +kernel
theorem dX6_answersWithout_28 : decode cX6_answersWithout 28 = .ok (.ifCond .eq 7, 3) := by decide +kernel
theorem dX6_answersWithout_31 : decode cX6_answersWithout 31 = .ok (.iconst 1, 1) := by decide +kernel
theorem dX6_answersWithout_32 : decode cX6_answersWithout 32 = .ok (.goto 4, 3) := by decide +kernel
theorem dX6_answersWithout_35 : decode cX6_answersWithout 35 = .ok (.iconst 0, 1) := by decide +kernel
theorem dX6_answersWithout_36 : decode cX6_answersWithout 36 = .ok (.iadd, 1) := by decide +kernel
theorem dX6_answersWithout_37 : decode cX6_answersWithout 37 = .ok (.istore_n 2, 1) := by decide +kernel
theorem dX6_answersWithout_38 : decode cX6_answersWithout 38 = .ok (.iinc 3 1, 3) := by decide +kernel
theorem dX6_answersWithout_41 : decode cX6_answersWithout 41 = .ok (.goto (-33), 3) := by decide +kernel
theorem dX6_answersWithout_44 : decode cX6_answersWithout 44 = .ok (.iload_n 2, 1) := by decide +kernel
theorem dX6_answersWithout_45 : decode cX6_answersWithout 45 = .ok (.ireturn, 1) := by decide +kernel
theorem dX6_find_0 : decode cX6_find 0 = .ok (.aload_n 0, 1) := by decide +kernel
theorem dX6_find_1 : decode cX6_find 1 = .ok (.invokevirtual 184, 3) := by decide +kernel
theorem dX6_find_4 : decode cX6_find 4 = .ok (.iload_n 1, 1) := by decide +kernel
theorem dX6_find_5 : decode cX6_find 5 = .ok (.istore_n 2, 1) := by decide +kernel
theorem dX6_find_6 : decode cX6_find 6 = .ok (.iconst 0, 1) := by decide +kernel
theorem dX6_find_7 : decode cX6_find 7 = .ok (.istore_n 3, 1) := by decide +kernel
theorem dX6_find_8 : decode cX6_find 8 = .ok (.iload_n 3, 1) := by decide +kernel
theorem dX6_find_9 : decode cX6_find 9 = .ok (.aload_n 0, 1) := by decide +kernel
theorem dX6_find_10 : decode cX6_find 10 = .ok (.getfield 173, 3) := by decide +kernel
theorem dX6_find_13 : decode cX6_find 13 = .ok (.if_icmp .ge 41, 3) := by decide +kernel
theorem dX6_find_16 : decode cX6_find 16 = .ok (.iload_n 1, 1) := by decide +kernel
theorem dX6_find_17 : decode cX6_find 17 = .ok (.ifCond .lt 37, 3) := by decide +kernel
theorem dX6_find_20 : decode cX6_find 20 = .ok (.aload_n 0, 1) := by decide +kernel
theorem dX6_find_21 : decode cX6_find 21 = .ok (.aload_n 0, 1) := by decide +kernel
theorem dX6_find_22 : decode cX6_find 22 = .ok (.getfield 59, 3) := by decide +kernel
theorem dX6_find_25 : decode cX6_find 25 = .ok (.iload_n 3, 1) := by decide +kernel
theorem dX6_find_26 : decode cX6_find 26 = .ok (.laload, 1) := by decide +kernel
theorem dX6_find_27 : decode cX6_find 27 = .ok (.iconst (-1), 1) := by decide +kernel
theorem dX6_find_28 : decode cX6_find 28 = .ok (.invokevirtual 187, 3) := by decide +kernel
theorem dX6_find_31 : decode cX6_find 31 = .ok (.ifCond .eq 17, 3) := by decide +kernel
theorem dX6_find_34 : decode cX6_find 34 = .ok (.iload_n 2, 1) := by decide +kernel
theorem dX6_find_35 : decode cX6_find 35 = .ok (.ifCond .ne 10, 3) := by decide +kernel
theorem dX6_find_38 : decode cX6_find 38 = .ok (.aload_n 0, 1) := by decide +kernel
theorem dX6_find_39 : decode cX6_find 39 = .ok (.getfield 59, 3) := by decide +kernel
theorem dX6_find_42 : decode cX6_find 42 = .ok (.iload_n 3, 1) := by decide +kernel
theorem dX6_find_43 : decode cX6_find 43 = .ok (.laload, 1) := by decide +kernel
theorem dX6_find_44 : decode cX6_find 44 = .ok (.lreturn, 1) := by decide +kernel
theorem dX6_find_45 : decode cX6_find 45 = .ok (.iinc 2 (-1), 3) := by decide +kernel
theorem dX6_find_48 : decode cX6_find 48 = .ok (.iinc 3 1, 3) := by decide +kernel
theorem dX6_find_51 : decode cX6_find 51 = .ok (.goto (-43), 3) := by decide +kernel
theorem dX6_find_54 : decode cX6_find 54 = .ok (.lconst 0, 1) := by decide +kernel
theorem dX6_find_55 : decode cX6_find 55 = .ok (.lreturn, 1) := by decide +kernel
theorem dX6_answers_0 : decode cX6_answers 0 = .ok (.aload_n 0, 1) := by decide +kernel
theorem dX6_answers_1 : decode cX6_answers 1 = .ok (.iconst 0, 1) := by decide +kernel
theorem dX6_answers_2 : decode cX6_answers 2 = .ok (.putfield 67, 3) := by decide +kernel
theorem dX6_answers_5 : decode cX6_answers 5 = .ok (.aload_n 0, 1) := by decide +kernel
theorem dX6_answers_6 : decode cX6_answers 6 = .ok (.iconst (-1), 1) := by decide +kernel
theorem dX6_answers_7 : decode cX6_answers 7 = .ok (.invokevirtual 190, 3) := by decide +kernel
theorem dX6_answers_10 : decode cX6_answers 10 = .ok (.ireturn, 1) := by decide +kernel
theorem dX6_answer_0 : decode cX6_answer 0 = .ok (.aload_n 0, 1) := by decide +kernel
theorem dX6_answer_1 : decode cX6_answer 1 = .ok (.iload_n 1, 1) := by decide +kernel
theorem dX6_answer_2 : decode cX6_answer 2 = .ok (.invokevirtual 193, 3) := by decide +kernel
theorem dX6_answer_5 : decode cX6_answer 5 = .ok (.lstore_n 2, 1) := by decide +kernel
theorem dX6_answer_6 : decode cX6_answer 6 = .ok (.aload_n 0, 1) := by decide +kernel
theorem dX6_answer_7 : decode cX6_answer 7 = .ok (.lload_n 2, 1) := by decide +kernel
theorem dX6_answer_8 : decode cX6_answer 8 = .ok (.lconst 0, 1) := by decide +kernel
theorem dX6_answer_9 : decode cX6_answer 9 = .ok (.lcmp, 1) := by decide +kernel
theorem dX6_answer_10 : decode cX6_answer 10 = .ok (.ifCond .eq 7, 3) := by decide +kernel
theorem dX6_answer_13 : decode cX6_answer 13 = .ok (.iconst 1, 1) := by decide +kernel
theorem dX6_answer_14 : decode cX6_answer 14 = .ok (.goto 4, 3) := by decide +kernel
theorem dX6_answer_17 : decode cX6_answer 17 = .ok (.iconst 0, 1) := by decide +kernel
theorem dX6_answer_18 : decode cX6_answer 18 = .ok (.invokevirtual 90, 3) := by decide +kernel
theorem dX6_answer_21 : decode cX6_answer 21 = .ok (.ifCond .eq 7, 3) := by decide +kernel
theorem dX6_answer_24 : decode cX6_answer 24 = .ok (.lload_n 2, 1) := by decide +kernel
theorem dX6_answer_25 : decode cX6_answer 25 = .ok (.goto 4, 3) := by decide +kernel
theorem dX6_answer_28 : decode cX6_answer 28 = .ok (.lconst 0, 1) := by decide +kernel
theorem dX6_answer_29 : decode cX6_answer 29 = .ok (.lreturn, 1) := by decide +kernel
theorem dX6_isInside_0 : decode cX6_isInside 0 = .ok (.aload_n 0, 1) := by decide +kernel
theorem dX6_isInside_1 : decode cX6_isInside 1 = .ok (.iload_n 1, 1) := by decide +kernel
theorem dX6_isInside_2 : decode cX6_isInside 2 = .ok (.invokevirtual 193, 3) := by decide +kernel
theorem dX6_isInside_5 : decode cX6_isInside 5 = .ok (.lstore_n 3, 1) := by decide +kernel
theorem dX6_isInside_6 : decode cX6_isInside 6 = .ok (.aload_n 0, 1) := by decide +kernel
theorem dX6_isInside_7 : decode cX6_isInside 7 = .ok (.lload_n 3, 1) := by decide +kernel
theorem dX6_isInside_8 : decode cX6_isInside 8 = .ok (.lconst 0, 1) := by decide +kernel
theorem dX6_isInside_9 : decode cX6_isInside 9 = .ok (.lcmp, 1) := by decide +kernel
theorem dX6_isInside_10 : decode cX6_isInside 10 = .ok (.ifCond .eq 15, 3) := by decide +kernel
theorem dX6_isInside_13 : decode cX6_isInside 13 = .ok (.aload_n 0, 1) := by decide +kernel
theorem dX6_isInside_14 : decode cX6_isInside 14 = .ok (.iload_n 2, 1) := by decide +kernel
theorem dX6_isInside_15 : decode cX6_isInside 15 = .ok (.invokevirtual 94, 3) := by decide +kernel
theorem dX6_isInside_18 : decode cX6_isInside 18 = .ok (.ifCond .eq 7, 3) := by decide +kernel
theorem dX6_isInside_21 : decode cX6_isInside 21 = .ok (.iconst 1, 1) := by decide +kernel
theorem dX6_isInside_22 : decode cX6_isInside 22 = .ok (.goto 4, 3) := by decide +kernel
theorem dX6_isInside_25 : decode cX6_isInside 25 = .ok (.iconst 0, 1) := by decide +kernel
theorem dX6_isInside_26 : decode cX6_isInside 26 = .ok (.invokevirtual 90, 3) := by decide +kernel
theorem dX6_isInside_29 : decode cX6_isInside 29 = .ok (.ifCond .ne 5, 3) := by decide +kernel
theorem dX6_isInside_32 : decode cX6_isInside 32 = .ok (.iconst 0, 1) := by decide +kernel
theorem dX6_isInside_33 : decode cX6_isInside 33 = .ok (.ireturn, 1) := by decide +kernel
theorem dX6_isInside_34 : decode cX6_isInside 34 = .ok (.iconst 0, 1) := by decide +kernel
theorem dX6_isInside_35 : decode cX6_isInside 35 = .ok (.istore 5, 2) := by decide +kernel
theorem dX6_isInside_37 : decode cX6_isInside 37 = .ok (.iload_n 2, 1) := by decide +kernel
theorem dX6_isInside_38 : decode cX6_isInside 38 = .ok (.aload_n 0, 1) := by decide +kernel
theorem dX6_isInside_39 : decode cX6_isInside 39 = .ok (.getfield 80, 3) := by decide +kernel
theorem dX6_isInside_42 : decode cX6_isInside 42 = .ok (.idiv, 1) := by decide +kernel
theorem dX6_isInside_43 : decode cX6_isInside 43 = .ok (.aload_n 0, 1) := by decide +kernel
theorem dX6_isInside_44 : decode cX6_isInside 44 = .ok (.getfield 80, 3) := by decide +kernel
theorem dX6_isInside_47 : decode cX6_isInside 47 = .ok (.imul, 1) := by decide +kernel
theorem dX6_isInside_48 : decode cX6_isInside 48 = .ok (.istore 6, 2) := by decide +kernel
theorem dX6_isInside_50 : decode cX6_isInside 50 = .ok (.iload 6, 2) := by decide +kernel
theorem dX6_isInside_52 : decode cX6_isInside 52 = .ok (.iload_n 2, 1) := by decide +kernel
theorem dX6_isInside_53 : decode cX6_isInside 53 = .ok (.if_icmp .gt 36, 3) := by decide +kernel
theorem dX6_isInside_56 : decode cX6_isInside 56 = .ok (.iload 5, 2) := by decide +kernel
theorem dX6_isInside_58 : decode cX6_isInside 58 = .ok (.lload_n 3, 1) := by decide +kernel
theorem dX6_isInside_59 : decode cX6_isInside 59 = .ok (.aload_n 0, 1) := by decide +kernel
theorem dX6_isInside_60 : decode cX6_isInside 60 = .ok (.getfield 22, 3) := by decide +kernel
theorem dX6_isInside_63 : decode cX6_isInside 63 = .ok (.iconst 4, 1) := by decide +kernel
theorem dX6_isInside_64 : decode cX6_isInside 64 = .ok (.iload 6, 2) := by decide +kernel
theorem dX6_isInside_66 : decode cX6_isInside 66 = .ok (.imul, 1) := by decide +kernel
theorem dX6_isInside_67 : decode cX6_isInside 67 = .ok (.iconst 2, 1) := by decide +kernel
theorem dX6_isInside_68 : decode cX6_isInside 68 = .ok (.iadd, 1) := by decide +kernel
theorem dX6_isInside_69 : decode cX6_isInside 69 = .ok (.iaload, 1) := by decide +kernel
theorem dX6_isInside_70 : decode cX6_isInside 70 = .ok (.invokestatic 166, 3) := by decide +kernel
theorem dX6_isInside_73 : decode cX6_isInside 73 = .ok (.if_icmp .eq 7, 3) := by decide +kernel
theorem dX6_isInside_76 : decode cX6_isInside 76 = .ok (.iconst 1, 1) := by decide +kernel
theorem dX6_isInside_77 : decode cX6_isInside 77 = .ok (.goto 4, 3) := by decide +kernel
theorem dX6_isInside_80 : decode cX6_isInside 80 = .ok (.iconst 0, 1) := by decide +kernel
theorem dX6_isInside_81 : decode cX6_isInside 81 = .ok (.istore 5, 2) := by decide +kernel
theorem dX6_isInside_83 : decode cX6_isInside 83 = .ok (.iinc 6 1, 3) := by decide +kernel
theorem dX6_isInside_86 : decode cX6_isInside 86 = .ok (.goto (-36), 3) := by decide +kernel
theorem dX6_isInside_89 : decode cX6_isInside 89 = .ok (.iload 5, 2) := by decide +kernel
theorem dX6_isInside_91 : decode cX6_isInside 91 = .ok (.ireturn, 1) := by decide +kernel
theorem dX6_having_0 : decode cX6_having 0 = .ok (.iconst 0, 1) := by decide +kernel
theorem dX6_having_1 : decode cX6_having 1 = .ok (.istore_n 2, 1) := by decide +kernel
theorem dX6_having_2 : decode cX6_having 2 = .ok (.iconst 0, 1) := by decide +kernel
theorem dX6_having_3 : decode cX6_having 3 = .ok (.istore_n 3, 1) := by decide +kernel
theorem dX6_having_4 : decode cX6_having 4 = .ok (.iload_n 3, 1) := by decide +kernel
theorem dX6_having_5 : decode cX6_having 5 = .ok (.aload_n 0, 1) := by decide +kernel
theorem dX6_having_6 : decode cX6_having 6 = .ok (.getfield 173, 3) := by decide +kernel
theorem dX6_having_9 : decode cX6_having 9 = .ok (.if_icmp .ge 44, 3) := by decide +kernel
theorem dX6_having_12 : decode cX6_having 12 = .ok (.iload_n 2, 1) := by decide +kernel
theorem dX6_having_13 : decode cX6_having 13 = .ok (.aload_n 0, 1) := by decide +kernel
theorem dX6_having_14 : decode cX6_having 14 = .ok (.getfield 59, 3) := by decide +kernel
theorem dX6_having_17 : decode cX6_having 17 = .ok (.iload_n 3, 1) := by decide +kernel
theorem dX6_having_18 : decode cX6_having 18 = .ok (.laload, 1) := by decide +kernel
theorem dX6_having_19 : decode cX6_having 19 = .ok (.iload_n 1, 1) := by decide +kernel
theorem dX6_having_20 : decode cX6_having 20 = .ok (.invokestatic 166, 3) := by decide +kernel
theorem dX6_having_23 : decode cX6_having 23 = .ok (.ifCond .eq 21, 3) := by decide +kernel
theorem dX6_having_26 : decode cX6_having 26 = .ok (.aload_n 0, 1) := by decide +kernel
theorem dX6_having_27 : decode cX6_having 27 = .ok (.aload_n 0, 1) := by decide +kernel
theorem dX6_having_28 : decode cX6_having 28 = .ok (.getfield 59, 3) := by decide +kernel
theorem dX6_having_31 : decode cX6_having 31 = .ok (.iload_n 3, 1) := by decide +kernel
theorem dX6_having_32 : decode cX6_having 32 = .ok (.laload, 1) := by decide +kernel
theorem dX6_having_33 : decode cX6_having 33 = .ok (.iconst (-1), 1) := by decide +kernel
theorem dX6_having_34 : decode cX6_having 34 = .ok (.invokevirtual 187, 3) := by decide +kernel
theorem dX6_having_37 : decode cX6_having 37 = .ok (.ifCond .eq 7, 3) := by decide +kernel
theorem dX6_having_40 : decode cX6_having 40 = .ok (.iconst 1, 1) := by decide +kernel
theorem dX6_having_41 : decode cX6_having 41 = .ok (.goto 4, 3) := by decide +kernel
theorem dX6_having_44 : decode cX6_having 44 = .ok (.iconst 0, 1) := by decide +kernel
theorem dX6_having_45 : decode cX6_having 45 = .ok (.iadd, 1) := by decide +kernel
theorem dX6_having_46 : decode cX6_having 46 = .ok (.istore_n 2, 1) := by decide +kernel
theorem dX6_having_47 : decode cX6_having 47 = .ok (.iinc 3 1, 3) := by decide +kernel
theorem dX6_having_50 : decode cX6_having 50 = .ok (.goto (-46), 3) := by decide +kernel
theorem dX6_having_53 : decode cX6_having 53 = .ok (.iload_n 2, 1) := by decide +kernel
theorem dX6_having_54 : decode cX6_having 54 = .ok (.ireturn, 1) := by decide +kernel
theorem dX6_proved_0 : decode cX6_proved 0 = .ok (.aload_n 0, 1) := by decide +kernel
theorem dX6_proved_1 : decode cX6_proved 1 = .ok (.iconst (-1), 1) := by decide +kernel
theorem dX6_proved_2 : decode cX6_proved 2 = .ok (.invokevirtual 190, 3) := by decide +kernel
theorem dX6_proved_5 : decode cX6_proved 5 = .ok (.istore_n 2, 1) := by decide +kernel
theorem dX6_proved_6 : decode cX6_proved 6 = .ok (.aload_n 0, 1) := by decide +kernel
theorem dX6_proved_7 : decode cX6_proved 7 = .ok (.aload_n 0, 1) := by decide +kernel
theorem dX6_proved_8 : decode cX6_proved 8 = .ok (.iload_n 1, 1) := by decide +kernel
theorem dX6_proved_9 : decode cX6_proved 9 = .ok (.invokevirtual 102, 3) := by decide +kernel
theorem dX6_proved_12 : decode cX6_proved 12 = .ok (.iload_n 2, 1) := by decide +kernel
theorem dX6_proved_13 : decode cX6_proved 13 = .ok (.ifCond .le 7, 3) := by decide +kernel
theorem dX6_proved_16 : decode cX6_proved 16 = .ok (.iconst 1, 1) := by decide +kernel
theorem dX6_proved_17 : decode cX6_proved 17 = .ok (.goto 4, 3) := by decide +kernel
theorem dX6_proved_20 : decode cX6_proved 20 = .ok (.iconst 0, 1) := by decide +kernel
theorem dX6_proved_21 : decode cX6_proved 21 = .ok (.invokevirtual 98, 3) := by decide +kernel
theorem dX6_proved_24 : decode cX6_proved 24 = .ok (.ifCond .ne 5, 3) := by decide +kernel
theorem dX6_proved_27 : decode cX6_proved 27 = .ok (.iconst 0, 1) := by decide +kernel
theorem dX6_proved_28 : decode cX6_proved 28 = .ok (.ireturn, 1) := by decide +kernel
theorem dX6_proved_29 : decode cX6_proved 29 = .ok (.aload_n 0, 1) := by decide +kernel
theorem dX6_proved_30 : decode cX6_proved 30 = .ok (.iload_n 1, 1) := by decide +kernel
theorem dX6_proved_31 : decode cX6_proved 31 = .ok (.invokevirtual 196, 3) := by decide +kernel
theorem dX6_proved_34 : decode cX6_proved 34 = .ok (.istore_n 3, 1) := by decide +kernel
theorem dX6_proved_35 : decode cX6_proved 35 = .ok (.iload_n 3, 1) := by decide +kernel
theorem dX6_proved_36 : decode cX6_proved 36 = .ok (.iload_n 2, 1) := by decide +kernel
theorem dX6_proved_37 : decode cX6_proved 37 = .ok (.if_icmp .ne 7, 3) := by decide +kernel
theorem dX6_proved_40 : decode cX6_proved 40 = .ok (.iconst 1, 1) := by decide +kernel
theorem dX6_proved_41 : decode cX6_proved 41 = .ok (.goto 12, 3) := by decide +kernel
theorem dX6_proved_44 : decode cX6_proved 44 = .ok (.iload_n 3, 1) := by decide +kernel
theorem dX6_proved_45 : decode cX6_proved 45 = .ok (.ifCond .ne 7, 3) := by decide +kernel
theorem dX6_proved_48 : decode cX6_proved 48 = .ok (.iconst 2, 1) := by decide +kernel
theorem dX6_proved_49 : decode cX6_proved 49 = .ok (.goto 4, 3) := by decide +kernel
theorem dX6_proved_52 : decode cX6_proved 52 = .ok (.iconst 0, 1) := by decide +kernel
theorem dX6_proved_53 : decode cX6_proved 53 = .ok (.ireturn, 1) := by decide +kernel
theorem dX6_beyondRules_0 : decode cX6_beyondRules 0 = .ok (.aload_n 0, 1) := by decide +kernel
theorem dX6_beyondRules_1 : decode cX6_beyondRules 1 = .ok (.iconst (-1), 1) := by decide +kernel
theorem dX6_beyondRules_2 : decode cX6_beyondRules 2 = .ok (.invokevirtual 190, 3) := by decide +kernel
theorem dX6_beyondRules_5 : decode cX6_beyondRules 5 = .ok (.istore_n 1, 1) := by decide +kernel
theorem dX6_beyondRules_6 : decode cX6_beyondRules 6 = .ok (.aload_n 0, 1) := by decide +kernel
theorem dX6_beyondRules_7 : decode cX6_beyondRules 7 = .ok (.iload_n 1, 1) := by decide +kernel
theorem dX6_beyondRules_8 : decode cX6_beyondRules 8 = .ok (.ifCond .le 7, 3) := by decide +kernel
theorem dX6_beyondRules_11 : decode cX6_beyondRules 11 = .ok (.iconst 1, 1) := by decide +kernel
theorem dX6_beyondRules_12 : decode cX6_beyondRules 12 = .ok (.goto 4, 3) := by decide +kernel
theorem dX6_beyondRules_15 : decode cX6_beyondRules 15 = .ok (.iconst 0, 1) := by decide +kernel
theorem dX6_beyondRules_16 : decode cX6_beyondRules 16 = .ok (.invokevirtual 90, 3) := by decide +kernel
theorem dX6_beyondRules_19 : decode cX6_beyondRules 19 = .ok (.ifCond .ne 5, 3) := by decide +kernel
theorem dX6_beyondRules_22 : decode cX6_beyondRules 22 = .ok (.iconst 0, 1) := by decide +kernel
theorem dX6_beyondRules_23 : decode cX6_beyondRules 23 = .ok (.ireturn, 1) := by decide +kernel
theorem dX6_beyondRules_24 : decode cX6_beyondRules 24 = .ok (.aload_n 0, 1) := by decide +kernel
theorem dX6_beyondRules_25 : decode cX6_beyondRules 25 = .ok (.invokevirtual 105, 3) := by decide +kernel
theorem dX6_beyondRules_28 : decode cX6_beyondRules 28 = .ok (.iconst 0, 1) := by decide +kernel
theorem dX6_beyondRules_29 : decode cX6_beyondRules 29 = .ok (.istore_n 2, 1) := by decide +kernel
theorem dX6_beyondRules_30 : decode cX6_beyondRules 30 = .ok (.iconst 0, 1) := by decide +kernel
theorem dX6_beyondRules_31 : decode cX6_beyondRules 31 = .ok (.istore_n 3, 1) := by decide +kernel
theorem dX6_beyondRules_32 : decode cX6_beyondRules 32 = .ok (.iload_n 3, 1) := by decide +kernel
theorem dX6_beyondRules_33 : decode cX6_beyondRules 33 = .ok (.aload_n 0, 1) := by decide +kernel
theorem dX6_beyondRules_34 : decode cX6_beyondRules 34 = .ok (.getfield 74, 3) := by decide +kernel
theorem dX6_beyondRules_37 : decode cX6_beyondRules 37 = .ok (.if_icmp .ge 57, 3) := by decide +kernel
theorem dX6_beyondRules_40 : decode cX6_beyondRules 40 = .ok (.aload_n 0, 1) := by decide +kernel
theorem dX6_beyondRules_41 : decode cX6_beyondRules 41 = .ok (.getfield 31, 3) := by decide +kernel
theorem dX6_beyondRules_44 : decode cX6_beyondRules 44 = .ok (.iload_n 3, 1) := by decide +kernel
theorem dX6_beyondRules_45 : decode cX6_beyondRules 45 = .ok (.iaload, 1) := by decide +kernel
theorem dX6_beyondRules_46 : decode cX6_beyondRules 46 = .ok (.ifCond .ne 11, 3) := by decide +kernel
theorem dX6_beyondRules_49 : decode cX6_beyondRules 49 = .ok (.aload_n 0, 1) := by decide +kernel
theorem dX6_beyondRules_50 : decode cX6_beyondRules 50 = .ok (.iload_n 3, 1) := by decide +kernel
theorem dX6_beyondRules_51 : decode cX6_beyondRules 51 = .ok (.invokevirtual 196, 3) := by decide +kernel
theorem dX6_beyondRules_54 : decode cX6_beyondRules 54 = .ok (.goto 4, 3) := by decide +kernel
theorem dX6_beyondRules_57 : decode cX6_beyondRules 57 = .ok (.iconst 1, 1) := by decide +kernel
theorem dX6_beyondRules_58 : decode cX6_beyondRules 58 = .ok (.istore 4, 2) := by decide +kernel
theorem dX6_beyondRules_60 : decode cX6_beyondRules 60 = .ok (.iload_n 2, 1) := by decide +kernel
theorem dX6_beyondRules_61 : decode cX6_beyondRules 61 = .ok (.aload_n 0, 1) := by decide +kernel
theorem dX6_beyondRules_62 : decode cX6_beyondRules 62 = .ok (.getfield 31, 3) := by decide +kernel
theorem dX6_beyondRules_65 : decode cX6_beyondRules 65 = .ok (.iload_n 3, 1) := by decide +kernel
theorem dX6_beyondRules_66 : decode cX6_beyondRules 66 = .ok (.iaload, 1) := by decide +kernel
theorem dX6_beyondRules_67 : decode cX6_beyondRules 67 = .ok (.ifCond .ne 18, 3) := by decide +kernel
theorem dX6_beyondRules_70 : decode cX6_beyondRules 70 = .ok (.iload 4, 2) := by decide +kernel
theorem dX6_beyondRules_72 : decode cX6_beyondRules 72 = .ok (.iload_n 1, 1) := by decide +kernel
theorem dX6_beyondRules_73 : decode cX6_beyondRules 73 = .ok (.if_icmp .eq 8, 3) := by decide +kernel
theorem dX6_beyondRules_76 : decode cX6_beyondRules 76 = .ok (.iload 4, 2) := by decide +kernel
theorem dX6_beyondRules_78 : decode cX6_beyondRules 78 = .ok (.ifCond .ne 7, 3) := by decide +kernel
theorem dX6_beyondRules_81 : decode cX6_beyondRules 81 = .ok (.iconst 1, 1) := by decide +kernel
theorem dX6_beyondRules_82 : decode cX6_beyondRules 82 = .ok (.goto 4, 3) := by decide +kernel
theorem dX6_beyondRules_85 : decode cX6_beyondRules 85 = .ok (.iconst 0, 1) := by decide +kernel
theorem dX6_beyondRules_86 : decode cX6_beyondRules 86 = .ok (.iadd, 1) := by decide +kernel
theorem dX6_beyondRules_87 : decode cX6_beyondRules 87 = .ok (.istore_n 2, 1) := by decide +kernel
theorem dX6_beyondRules_88 : decode cX6_beyondRules 88 = .ok (.iinc 3 1, 3) := by decide +kernel
theorem dX6_beyondRules_91 : decode cX6_beyondRules 91 = .ok (.goto (-59), 3) := by decide +kernel
theorem dX6_beyondRules_94 : decode cX6_beyondRules 94 = .ok (.iload_n 2, 1) := by decide +kernel
theorem dX6_beyondRules_95 : decode cX6_beyondRules 95 = .ok (.ireturn, 1) := by decide +kernel
theorem dX6_isNeeded_0 : decode cX6_isNeeded 0 = .ok (.aload_n 0, 1) := by decide +kernel
theorem dX6_isNeeded_1 : decode cX6_isNeeded 1 = .ok (.aload_n 0, 1) := by decide +kernel
theorem dX6_isNeeded_2 : decode cX6_isNeeded 2 = .ok (.iload_n 1, 1) := by decide +kernel
theorem dX6_isNeeded_3 : decode cX6_isNeeded 3 = .ok (.invokevirtual 94, 3) := by decide +kernel
theorem dX6_isNeeded_6 : decode cX6_isNeeded 6 = .ok (.invokevirtual 90, 3) := by decide +kernel
theorem dX6_isNeeded_9 : decode cX6_isNeeded 9 = .ok (.ifCond .eq 30, 3) := by decide +kernel
theorem dX6_isNeeded_12 : decode cX6_isNeeded 12 = .ok (.aload_n 0, 1) := by decide +kernel
theorem dX6_isNeeded_13 : decode cX6_isNeeded 13 = .ok (.getfield 25, 3) := by decide +kernel
theorem dX6_isNeeded_16 : decode cX6_isNeeded 16 = .ok (.iload_n 1, 1) := by decide +kernel
theorem dX6_isNeeded_17 : decode cX6_isNeeded 17 = .ok (.iaload, 1) := by decide +kernel
theorem dX6_isNeeded_18 : decode cX6_isNeeded 18 = .ok (.iconst (-1), 1) := by decide +kernel
theorem dX6_isNeeded_19 : decode cX6_isNeeded 19 = .ok (.if_icmp .eq 20, 3) := by decide +kernel
theorem dX6_isNeeded_22 : decode cX6_isNeeded 22 = .ok (.aload_n 0, 1) := by decide +kernel
theorem dX6_isNeeded_23 : decode cX6_isNeeded 23 = .ok (.iload_n 1, 1) := by decide +kernel
theorem dX6_isNeeded_24 : decode cX6_isNeeded 24 = .ok (.invokevirtual 190, 3) := by decide +kernel
theorem dX6_isNeeded_27 : decode cX6_isNeeded 27 = .ok (.aload_n 0, 1) := by decide +kernel
theorem dX6_isNeeded_28 : decode cX6_isNeeded 28 = .ok (.iconst (-1), 1) := by decide +kernel
theorem dX6_isNeeded_29 : decode cX6_isNeeded 29 = .ok (.invokevirtual 190, 3) := by decide +kernel
theorem dX6_isNeeded_32 : decode cX6_isNeeded 32 = .ok (.if_icmp .le 7, 3) := by decide +kernel
theorem dX6_isNeeded_35 : decode cX6_isNeeded 35 = .ok (.iconst 1, 1) := by decide +kernel
theorem dX6_isNeeded_36 : decode cX6_isNeeded 36 = .ok (.goto 4, 3) := by decide +kernel
theorem dX6_isNeeded_39 : decode cX6_isNeeded 39 = .ok (.iconst 0, 1) := by decide +kernel
theorem dX6_isNeeded_40 : decode cX6_isNeeded 40 = .ok (.ireturn, 1) := by decide +kernel
