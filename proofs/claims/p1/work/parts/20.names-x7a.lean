set_option maxRecDepth 20000 in
theorem ggX7_init_X7_first : GoodIn wsX7_init wsX7_first := goodIn_r _ [43] (by decide +kernel) (by decide +kernel)
set_option maxRecDepth 20000 in
theorem gX7_init_X7_first : GoodIn wsX7_init (va_wsS RX7 114 yX7_first wsX7_first) := goodIn_app (goodIn_of _ (by decide +kernel)) ggX7_init_X7_first
theorem dX7_init_0 : decode cX7_init 0 = .ok (.aload_n 0, 1) := by decide +kernel
theorem dX7_init_1 : decode cX7_init 1 = .ok (.invokespecial 1, 3) := by decide +kernel
theorem dX7_init_4 : decode cX7_init 4 = .ok (.aload_n 0, 1) := by decide +kernel
theorem dX7_init_5 : decode cX7_init 5 = .ok (.iconst 0, 1) := by decide +kernel
theorem dX7_init_6 : decode cX7_init 6 = .ok (.putfield 7, 3) := by decide +kernel
theorem dX7_init_9 : decode cX7_init 9 = .ok (.aload_n 0, 1) := by decide +kernel
theorem dX7_init_10 : decode cX7_init 10 = .ok (.bipush 100, 2) := by decide +kernel
theorem dX7_init_12 : decode cX7_init 12 = .ok (.newarray .int, 2) := by decide +kernel
theorem dX7_init_14 : decode cX7_init 14 = .ok (.putfield 13, 3) := by decide +kernel
theorem dX7_init_17 : decode cX7_init 17 = .ok (.aload_n 0, 1) := by decide +kernel
theorem dX7_init_18 : decode cX7_init 18 = .ok (.bipush 32, 2) := by decide +kernel
theorem dX7_init_20 : decode cX7_init 20 = .ok (.newarray .int, 2) := by decide +kernel
theorem dX7_init_22 : decode cX7_init 22 = .ok (.putfield 17, 3) := by decide +kernel
theorem dX7_init_25 : decode cX7_init 25 = .ok (.aload_n 0, 1) := by decide +kernel
theorem dX7_init_26 : decode cX7_init 26 = .ok (.bipush 32, 2) := by decide +kernel
theorem dX7_init_28 : decode cX7_init 28 = .ok (.newarray .int, 2) := by decide +kernel
theorem dX7_init_30 : decode cX7_init 30 = .ok (.putfield 20, 3) := by decide +kernel
theorem dX7_init_33 : decode cX7_init 33 = .ok (.aload_n 0, 1) := by decide +kernel
theorem dX7_init_34 : decode cX7_init 34 = .ok (.iconst 4, 1) := by decide +kernel
theorem dX7_init_35 : decode cX7_init 35 = .ok (.newarray .int, 2) := by decide +kernel
theorem dX7_init_37 : decode cX7_init 37 = .ok (.putfield 23, 3) := by decide +kernel
theorem dX7_init_40 : decode cX7_init 40 = .ok (.aload_n 0, 1) := by decide +kernel
theorem dX7_init_41 : decode cX7_init 41 = .ok (.sipush 260, 3) := by decide +kernel
theorem dX7_init_44 : decode cX7_init 44 = .ok (.newarray .int, 2) := by decide +kernel
theorem dX7_init_46 : decode cX7_init 46 = .ok (.putfield 26, 3) := by decide +kernel
theorem dX7_init_49 : decode cX7_init 49 = .ok (.aload_n 0, 1) := by decide +kernel
theorem dX7_init_50 : decode cX7_init 50 = .ok (.sipush 260, 3) := by decide +kernel
theorem dX7_init_53 : decode cX7_init 53 = .ok (.newarray .boolean, 2) := by decide +kernel
theorem dX7_init_55 : decode cX7_init 55 = .ok (.putfield 29, 3) := by decide +kernel
theorem dX7_init_58 : decode cX7_init 58 = .ok (.aload_n 0, 1) := by decide +kernel
theorem dX7_init_59 : decode cX7_init 59 = .ok (.iconst 4, 1) := by decide +kernel
theorem dX7_init_60 : decode cX7_init 60 = .ok (.newarray .int, 2) := by decide +kernel
theorem dX7_init_62 : decode cX7_init 62 = .ok (.putfield 33, 3) := by decide +kernel
theorem dX7_init_65 : decode cX7_init 65 = .ok (.aload_n 0, 1) := by decide +kernel
theorem dX7_init_66 : decode cX7_init 66 = .ok (.iconst 4, 1) := by decide +kernel
theorem dX7_init_67 : decode cX7_init 67 = .ok (.newarray .int, 2) := by decide +kernel
theorem dX7_init_69 : decode cX7_init 69 = .ok (.putfield 36, 3) := by decide +kernel
theorem dX7_init_72 : decode cX7_init 72 = .ok (.aload_n 0, 1) := by decide +kernel
theorem dX7_init_73 : decode cX7_init 73 = .ok (.iconst 4, 1) := by decide +kernel
theorem dX7_init_74 : decode cX7_init 74 = .ok (.newarray .int, 2) := by decide +kernel
theorem dX7_init_76 : decode cX7_init 76 = .ok (.putfield 39, 3) := by decide +kernel
theorem dX7_init_79 : decode cX7_init 79 = .ok (.aload_n 0, 1) := by decide +kernel
theorem dX7_init_80 : decode cX7_init 80 = .ok (.sipush 256, 3) := by decide +kernel
theorem dX7_init_83 : decode cX7_init 83 = .ok (.newarray .int, 2) := by decide +kernel
theorem dX7_init_85 : decode cX7_init 85 = .ok (.putfield 42, 3) := by decide +kernel
theorem dX7_init_88 : decode cX7_init 88 = .ok (.aload_n 0, 1) := by decide +kernel
theorem dX7_init_89 : decode cX7_init 89 = .ok (.iconst 4, 1) := by decide +kernel
theorem dX7_init_90 : decode cX7_init 90 = .ok (.newarray .int, 2) := by decide +kernel
theorem dX7_init_92 : decode cX7_init 92 = .ok (.putfield 45, 3) := by decide +kernel
theorem dX7_init_95 : decode cX7_init 95 = .ok (.aload_n 0, 1) := by decide +kernel
theorem dX7_init_96 : decode cX7_init 96 = .ok (.bipush 32, 2) := by decide +kernel
theorem dX7_init_98 : decode cX7_init 98 = .ok (.newarray .int, 2) := by decide +kernel
theorem dX7_init_100 : decode cX7_init 100 = .ok (.putfield 48, 3) := by decide +kernel
theorem dX7_init_103 : decode cX7_init 103 = .ok (.aload_n 0, 1) := by decide +kernel
theorem dX7_init_104 : decode cX7_init 104 = .ok (.iconst 4, 1) := by decide +kernel
theorem dX7_init_105 : decode cX7_init 105 = .ok (.newarray .int, 2) := by decide +kernel
theorem dX7_init_107 : decode cX7_init 107 = .ok (.putfield 51, 3) := by decide +kernel
theorem dX7_init_110 : decode cX7_init 110 = .ok (.aload_n 0, 1) := by decide +kernel
theorem dX7_init_111 : decode cX7_init 111 = .ok (.iconst 4, 1) := by decide +kernel
theorem dX7_init_112 : decode cX7_init 112 = .ok (.newarray .boolean, 2) := by decide +kernel
theorem dX7_init_114 : decode cX7_init 114 = .ok (.putfield 54, 3) := by decide +kernel
theorem dX7_init_117 : decode cX7_init 117 = .ok (.aload_n 0, 1) := by decide +kernel
theorem dX7_init_118 : decode cX7_init 118 = .ok (.iconst 4, 1) := by decide +kernel
theorem dX7_init_119 : decode cX7_init 119 = .ok (.newarray .boolean, 2) := by decide +kernel
theorem dX7_init_121 : decode cX7_init 121 = .ok (.putfield 57, 3) := by decide +kernel
theorem dX7_init_124 : decode cX7_init 124 = .ok (.aload_n 0, 1) := by decide +kernel
theorem dX7_init_125 : decode cX7_init 125 = .ok (.iconst 4, 1) := by decide +kernel
theorem dX7_init_126 : decode cX7_init 126 = .ok (.newarray .int, 2) := by decide +kernel
theorem dX7_init_128 : decode cX7_init 128 = .ok (.putfield 60, 3) := by decide +kernel
theorem dX7_init_131 : decode cX7_init 131 = .ok (.aload_n 0, 1) := by decide +kernel
theorem dX7_init_132 : decode cX7_init 132 = .ok (.iconst 4, 1) := by decide +kernel
theorem dX7_init_133 : decode cX7_init 133 = .ok (.newarray .boolean, 2) := by decide +kernel
theorem dX7_init_135 : decode cX7_init 135 = .ok (.putfield 63, 3) := by decide +kernel
theorem dX7_init_138 : decode cX7_init 138 = .ok (.aload_n 0, 1) := by decide +kernel
theorem dX7_init_139 : decode cX7_init 139 = .ok (.iconst 4, 1) := by decide +kernel
theorem dX7_init_140 : decode cX7_init 140 = .ok (.newarray .int, 2) := by decide +kernel
theorem dX7_init_142 : decode cX7_init 142 = .ok (.putfield 66, 3) := by decide +kernel
theorem dX7_init_145 : decode cX7_init 145 = .ok (.aload_n 0, 1) := by decide +kernel
theorem dX7_init_146 : decode cX7_init 146 = .ok (.iconst 4, 1) := by decide +kernel
theorem dX7_init_147 : decode cX7_init 147 = .ok (.newarray .boolean, 2) := by decide +kernel
theorem dX7_init_149 : decode cX7_init 149 = .ok (.putfield 69, 3) := by decide +kernel
theorem dX7_init_152 : decode cX7_init 152 = .ok (.aload_n 0, 1) := by decide +kernel
theorem dX7_init_153 : decode cX7_init 153 = .ok (.iconst 4, 1) := by decide +kernel
theorem dX7_init_154 : decode cX7_init 154 = .ok (.newarray .boolean, 2) := by decide +kernel
theorem dX7_init_156 : decode cX7_init 156 = .ok (.putfield 72, 3) := by decide +kernel
theorem dX7_init_159 : decode cX7_init 159 = .ok (.aload_n 0, 1) := by decide +kernel
theorem dX7_init_160 : decode cX7_init 160 = .ok (.iconst 4, 1) := by decide +kernel
theorem dX7_init_161 : decode cX7_init 161 = .ok (.newarray .boolean, 2) := by decide +kernel
theorem dX7_init_163 : decode cX7_init 163 = .ok (.putfield 75, 3) := by decide +kernel
theorem dX7_init_166 : decode cX7_init 166 = .ok (.aload_n 0, 1) := by decide +kernel
theorem dX7_init_167 : decode cX7_init 167 = .ok (.iconst 4, 1) := by decide +kernel
theorem dX7_init_168 : decode cX7_init 168 = .ok (.newarray .int, 2) := by decide +kernel
theorem dX7_init_170 : decode cX7_init 170 = .ok (.putfield 78, 3) := by decide +kernel
theorem dX7_init_173 : decode cX7_init 173 = .ok (.aload_n 0, 1) := by decide +kernel
theorem dX7_init_174 : decode cX7_init 174 = .ok (.iconst 4, 1) := by decide +kernel
theorem dX7_init_175 : decode cX7_init 175 = .ok (.newarray .int, 2) := by decide +kernel
theorem dX7_init_177 : decode cX7_init 177 = .ok (.putfield 81, 3) := by decide +kernel
theorem dX7_init_180 : decode cX7_init 180 = .ok (.aload_n 0, 1) := by decide +kernel
theorem dX7_init_181 : decode cX7_init 181 = .ok (.bipush 12, 2) := by decide +kernel
theorem dX7_init_183 : decode cX7_init 183 = .ok (.newarray .int, 2) := by decide +kernel
theorem dX7_init_185 : decode cX7_init 185 = .ok (.putfield 84, 3) := by decide +kernel
theorem dX7_init_188 : decode cX7_init 188 = .ok (.aload_n 0, 1) := by decide +kernel
theorem dX7_init_189 : decode cX7_init 189 = .ok (.bipush 12, 2) := by decide +kernel
theorem dX7_init_191 : decode cX7_init 191 = .ok (.newarray .int, 2) := by decide +kernel
theorem dX7_init_193 : decode cX7_init 193 = .ok (.putfield 87, 3) := by decide +kernel
theorem dX7_init_196 : decode cX7_init 196 = .ok (.aload_n 0, 1) := by decide +kernel
theorem dX7_init_197 : decode cX7_init 197 = .ok (.bipush 12, 2) := by decide +kernel
theorem dX7_init_199 : decode cX7_init 199 = .ok (.newarray .boolean, 2) := by decide +kernel
theorem dX7_init_201 : decode cX7_init 201 = .ok (.putfield 90, 3) := by decide +kernel
theorem dX7_init_204 : decode cX7_init 204 = .ok (.aload_n 0, 1) := by decide +kernel
theorem dX7_init_205 : decode cX7_init 205 = .ok (.bipush 12, 2) := by decide +kernel
theorem dX7_init_207 : decode cX7_init 207 = .ok (.newarray .int, 2) := by decide +kernel
theorem dX7_init_209 : decode cX7_init 209 = .ok (.putfield 93, 3) := by decide +kernel
theorem dX7_init_212 : decode cX7_init 212 = .ok (.aload_n 0, 1) := by decide +kernel
theorem dX7_init_213 : decode cX7_init 213 = .ok (.bipush 32, 2) := by decide +kernel
theorem dX7_init_215 : decode cX7_init 215 = .ok (.newarray .boolean, 2) := by decide +kernel
theorem dX7_init_217 : decode cX7_init 217 = .ok (.putfield 96, 3) := by decide +kernel
theorem dX7_init_220 : decode cX7_init 220 = .ok (.aload_n 0, 1) := by decide +kernel
theorem dX7_init_221 : decode cX7_init 221 = .ok (.bipush 8, 2) := by decide +kernel
theorem dX7_init_223 : decode cX7_init 223 = .ok (.newarray .int, 2) := by decide +kernel
theorem dX7_init_225 : decode cX7_init 225 = .ok (.putfield 99, 3) := by decide +kernel
theorem dX7_init_228 : decode cX7_init 228 = .ok (.aload_n 0, 1) := by decide +kernel
theorem dX7_init_229 : decode cX7_init 229 = .ok (.bipush 8, 2) := by decide +kernel
theorem dX7_init_231 : decode cX7_init 231 = .ok (.newarray .int, 2) := by decide +kernel
theorem dX7_init_233 : decode cX7_init 233 = .ok (.putfield 102, 3) := by decide +kernel
theorem dX7_init_236 : decode cX7_init 236 = .ok (.aload_n 0, 1) := by decide +kernel
theorem dX7_init_237 : decode cX7_init 237 = .ok (.bipush 20, 2) := by decide +kernel
theorem dX7_init_239 : decode cX7_init 239 = .ok (.newarray .int, 2) := by decide +kernel
theorem dX7_init_241 : decode cX7_init 241 = .ok (.putfield 105, 3) := by decide +kernel
theorem dX7_init_244 : decode cX7_init 244 = .ok (.aload_n 0, 1) := by decide +kernel
theorem dX7_init_245 : decode cX7_init 245 = .ok (.sipush 400, 3) := by decide +kernel
theorem dX7_init_248 : decode cX7_init 248 = .ok (.newarray .int, 2) := by decide +kernel
theorem dX7_init_250 : decode cX7_init 250 = .ok (.putfield 108, 3) := by decide +kernel
theorem dX7_init_253 : decode cX7_init 253 = .ok (.aload_n 0, 1) := by decide +kernel
theorem dX7_init_254 : decode cX7_init 254 = .ok (.iconst 0, 1) := by decide +kernel
theorem dX7_init_255 : decode cX7_init 255 = .ok (.putfield 111, 3) := by decide +kernel
theorem dX7_init_258 : decode cX7_init 258 = .ok (.iconst 0, 1) := by decide +kernel
theorem dX7_init_259 : decode cX7_init 259 = .ok (.istore_n 1, 1) := by decide +kernel
theorem dX7_init_260 : decode cX7_init 260 = .ok (.iload_n 1, 1) := by decide +kernel
theorem dX7_init_261 : decode cX7_init 261 = .ok (.iconst 4, 1) := by decide +kernel
theorem dX7_init_262 : decode cX7_init 262 = .ok (.if_icmp .ge 59, 3) := by decide +kernel
theorem dX7_init_265 : decode cX7_init 265 = .ok (.iconst 0, 1) := by decide +kernel
theorem dX7_init_266 : decode cX7_init 266 = .ok (.istore_n 2, 1) := by decide +kernel
theorem dX7_init_267 : decode cX7_init 267 = .ok (.iload_n 2, 1) := by decide +kernel
theorem dX7_init_268 : decode cX7_init 268 = .ok (.bipush 25, 2) := by decide +kernel
theorem dX7_init_270 : decode cX7_init 270 = .ok (.if_icmp .ge 24, 3) := by decide +kernel
theorem dX7_init_273 : decode cX7_init 273 = .ok (.aload_n 0, 1) := by decide +kernel
theorem dX7_init_274 : decode cX7_init 274 = .ok (.getfield 13, 3) := by decide +kernel
theorem dX7_init_277 : decode cX7_init 277 = .ok (.bipush 25, 2) := by decide +kernel
theorem dX7_init_279 : decode cX7_init 279 = .ok (.iload_n 1, 1) := by decide +kernel
theorem dX7_init_280 : decode cX7_init 280 = .ok (.imul, 1) := by decide +kernel
theorem dX7_init_281 : decode cX7_init 281 = .ok (.iload_n 2, 1) := by decide +kernel
theorem dX7_init_282 : decode cX7_init 282 = .ok (.iadd, 1) := by decide +kernel
theorem dX7_init_283 : decode cX7_init 283 = .ok (.iload_n 2, 1) := by decide +kernel
theorem dX7_init_284 : decode cX7_init 284 = .ok (.invokestatic 114, 3) := by decide +kernel
theorem dX7_init_287 : decode cX7_init 287 = .ok (.iastore, 1) := by decide +kernel
theorem dX7_init_288 : decode cX7_init 288 = .ok (.iinc 2 1, 3) := by decide +kernel
theorem dX7_init_291 : decode cX7_init 291 = .ok (.goto (-24), 3) := by decide +kernel
theorem dX7_init_294 : decode cX7_init 294 = .ok (.aload_n 0, 1) := by decide +kernel
theorem dX7_init_295 : decode cX7_init 295 = .ok (.getfield 69, 3) := by decide +kernel
theorem dX7_init_298 : decode cX7_init 298 = .ok (.iload_n 1, 1) := by decide +kernel
theorem dX7_init_299 : decode cX7_init 299 = .ok (.iconst 1, 1) := by decide +kernel
theorem dX7_init_300 : decode cX7_init 300 = .ok (.bastore, 1) := by decide +kernel
theorem dX7_init_301 : decode cX7_init 301 = .ok (.aload_n 0, 1) := by decide +kernel
theorem dX7_init_302 : decode cX7_init 302 = .ok (.getfield 72, 3) := by decide +kernel
theorem dX7_init_305 : decode cX7_init 305 = .ok (.iload_n 1, 1) := by decide +kernel
theorem dX7_init_306 : decode cX7_init 306 = .ok (.iconst 1, 1) := by decide +kernel
theorem dX7_init_307 : decode cX7_init 307 = .ok (.bastore, 1) := by decide +kernel
theorem dX7_init_308 : decode cX7_init 308 = .ok (.aload_n 0, 1) := by decide +kernel
theorem dX7_init_309 : decode cX7_init 309 = .ok (.getfield 78, 3) := by decide +kernel
theorem dX7_init_312 : decode cX7_init 312 = .ok (.iload_n 1, 1) := by decide +kernel
theorem dX7_init_313 : decode cX7_init 313 = .ok (.iconst (-1), 1) := by decide +kernel
theorem dX7_init_314 : decode cX7_init 314 = .ok (.iastore, 1) := by decide +kernel
theorem dX7_init_315 : decode cX7_init 315 = .ok (.iinc 1 1, 3) := by decide +kernel
theorem dX7_init_318 : decode cX7_init 318 = .ok (.goto (-58), 3) := by decide +kernel
theorem dX7_init_321 : decode cX7_init 321 = .ok (.iconst 0, 1) := by decide +kernel
theorem dX7_init_322 : decode cX7_init 322 = .ok (.istore_n 1, 1) := by decide +kernel
theorem dX7_init_323 : decode cX7_init 323 = .ok (.iload_n 1, 1) := by decide +kernel
theorem dX7_init_324 : decode cX7_init 324 = .ok (.bipush 8, 2) := by decide +kernel
theorem dX7_init_326 : decode cX7_init 326 = .ok (.if_icmp .ge 16, 3) := by decide +kernel
theorem dX7_init_329 : decode cX7_init 329 = .ok (.aload_n 0, 1) := by decide +kernel
theorem dX7_init_330 : decode cX7_init 330 = .ok (.getfield 99, 3) := by decide +kernel
theorem dX7_init_333 : decode cX7_init 333 = .ok (.iload_n 1, 1) := by decide +kernel
theorem dX7_init_334 : decode cX7_init 334 = .ok (.iload_n 1, 1) := by decide +kernel
theorem dX7_init_335 : decode cX7_init 335 = .ok (.iastore, 1) := by decide +kernel
theorem dX7_init_336 : decode cX7_init 336 = .ok (.iinc 1 1, 3) := by decide +kernel
theorem dX7_init_339 : decode cX7_init 339 = .ok (.goto (-16), 3) := by decide +kernel
theorem dX7_init_342 : decode cX7_init 342 = .ok (.return_, 1) := by decide +kernel
theorem dX7_first_0 : decode cX7_first 0 = .ok (.iload_n 0, 1) := by decide +kernel
theorem dX7_first_1 : decode cX7_first 1 = .ok (.bipush 14, 2) := by decide +kernel
theorem dX7_first_3 : decode cX7_first 3 = .ok (.if_icmp .ne 6, 3) := by decide +kernel
theorem dX7_first_6 : decode cX7_first 6 = .ok (.bipush 127, 2) := by decide +kernel
theorem dX7_first_8 : decode cX7_first 8 = .ok (.ireturn, 1) := by decide +kernel
theorem dX7_first_9 : decode cX7_first 9 = .ok (.iload_n 0, 1) := by decide +kernel
theorem dX7_first_10 : decode cX7_first 10 = .ok (.bipush 15, 2) := by decide +kernel
theorem dX7_first_12 : decode cX7_first 12 = .ok (.if_icmp .ne 6, 3) := by decide +kernel
theorem dX7_first_15 : decode cX7_first 15 = .ok (.bipush 23, 2) := by decide +kernel
theorem dX7_first_17 : decode cX7_first 17 = .ok (.ireturn, 1) := by decide +kernel
theorem dX7_first_18 : decode cX7_first 18 = .ok (.iload_n 0, 1) := by decide +kernel
theorem dX7_first_19 : decode cX7_first 19 = .ok (.bipush 16, 2) := by decide +kernel
theorem dX7_first_21 : decode cX7_first 21 = .ok (.if_icmp .ne 6, 3) := by decide +kernel
theorem dX7_first_24 : decode cX7_first 24 = .ok (.bipush 21, 2) := by decide +kernel
theorem dX7_first_26 : decode cX7_first 26 = .ok (.ireturn, 1) := by decide +kernel
theorem dX7_first_27 : decode cX7_first 27 = .ok (.iload_n 0, 1) := by decide +kernel
theorem dX7_first_28 : decode cX7_first 28 = .ok (.bipush 17, 2) := by decide +kernel
theorem dX7_first_30 : decode cX7_first 30 = .ok (.if_icmp .ne 6, 3) := by decide +kernel
theorem dX7_first_33 : decode cX7_first 33 = .ok (.bipush 22, 2) := by decide +kernel
theorem dX7_first_35 : decode cX7_first 35 = .ok (.ireturn, 1) := by decide +kernel
theorem dX7_first_36 : decode cX7_first 36 = .ok (.iload_n 0, 1) := by decide +kernel
theorem dX7_first_37 : decode cX7_first 37 = .ok (.bipush 18, 2) := by decide +kernel
theorem dX7_first_39 : decode cX7_first 39 = .ok (.if_icmp .ne 6, 3) := by decide +kernel
theorem dX7_first_42 : decode cX7_first 42 = .ok (.bipush 18, 2) := by decide +kernel
theorem dX7_first_44 : decode cX7_first 44 = .ok (.ireturn, 1) := by decide +kernel
theorem dX7_first_45 : decode cX7_first 45 = .ok (.iload_n 0, 1) := by decide +kernel
theorem dX7_first_46 : decode cX7_first 46 = .ok (.bipush 19, 2) := by decide +kernel
theorem dX7_first_48 : decode cX7_first 48 = .ok (.if_icmp .ne 5, 3) := by decide +kernel
theorem dX7_first_51 : decode cX7_first 51 = .ok (.iconst 4, 1) := by decide +kernel
theorem dX7_first_52 : decode cX7_first 52 = .ok (.ireturn, 1) := by decide +kernel
theorem dX7_first_53 : decode cX7_first 53 = .ok (.iload_n 0, 1) := by decide +kernel
theorem dX7_first_54 : decode cX7_first 54 = .ok (.bipush 20, 2) := by decide +kernel
theorem dX7_first_56 : decode cX7_first 56 = .ok (.if_icmp .ne 5, 3) := by decide +kernel
theorem dX7_first_59 : decode cX7_first 59 = .ok (.iconst 3, 1) := by decide +kernel
theorem dX7_first_60 : decode cX7_first 60 = .ok (.ireturn, 1) := by decide +kernel
theorem dX7_first_61 : decode cX7_first 61 = .ok (.iload_n 0, 1) := by decide +kernel
theorem dX7_first_62 : decode cX7_first 62 = .ok (.bipush 21, 2) := by decide +kernel
theorem dX7_first_64 : decode cX7_first 64 = .ok (.if_icmp .ne 6, 3) := by decide +kernel
theorem dX7_first_67 : decode cX7_first 67 = .ok (.bipush 28, 2) := by decide +kernel
theorem dX7_first_69 : decode cX7_first 69 = .ok (.ireturn, 1) := by decide +kernel
theorem dX7_first_70 : decode cX7_first 70 = .ok (.iload_n 0, 1) := by decide +kernel
theorem dX7_first_71 : decode cX7_first 71 = .ok (.bipush 22, 2) := by decide +kernel
theorem dX7_first_73 : decode cX7_first 73 = .ok (.if_icmp .ne 6, 3) := by decide +kernel
theorem dX7_first_76 : decode cX7_first 76 = .ok (.bipush 26, 2) := by decide +kernel
theorem dX7_first_78 : decode cX7_first 78 = .ok (.ireturn, 1) := by decide +kernel
theorem dX7_first_79 : decode cX7_first 79 = .ok (.iload_n 0, 1) := by decide +kernel
theorem dX7_first_80 : decode cX7_first 80 = .ok (.bipush 23, 2) := by decide +kernel
theorem dX7_first_82 : decode cX7_first 82 = .ok (.if_icmp .ne 6, 3) := by decide +kernel
theorem dX7_first_85 : decode cX7_first 85 = .ok (.bipush 17, 2) := by decide +kernel
theorem dX7_first_87 : decode cX7_first 87 = .ok (.ireturn, 1) := by decide +kernel
theorem dX7_first_88 : decode cX7_first 88 = .ok (.iload_n 0, 1) := by decide +kernel
theorem dX7_first_89 : decode cX7_first 89 = .ok (.bipush 24, 2) := by decide +kernel
theorem dX7_first_91 : decode cX7_first 91 = .ok (.if_icmp .ne 6, 3) := by decide +kernel
theorem dX7_first_94 : decode cX7_first 94 = .ok (.bipush 19, 2) := by decide +kernel
theorem dX7_first_96 : decode cX7_first 96 = .ok (.ireturn, 1) := by decide +kernel
theorem dX7_first_97 : decode cX7_first 97 = .ok (.iload_n 0, 1) := by decide +kernel
theorem dX7_first_98 : decode cX7_first 98 = .ok (.iconst 5, 1) := by decide +kernel
theorem dX7_first_99 : decode cX7_first 99 = .ok (.if_icmp .eq 27, 3) := by decide +kernel
theorem dX7_first_102 : decode cX7_first 102 = .ok (.iload_n 0, 1) := by decide +kernel
theorem dX7_first_103 : decode cX7_first 103 = .ok (.bipush 6, 2) := by decide +kernel
theorem dX7_first_105 : decode cX7_first 105 = .ok (.if_icmp .eq 21, 3) := by decide +kernel
theorem dX7_first_108 : decode cX7_first 108 = .ok (.iload_n 0, 1) := by decide +kernel
theorem dX7_first_109 : decode cX7_first 109 = .ok (.bipush 7, 2) := by decide +kernel
theorem dX7_first_111 : decode cX7_first 111 = .ok (.if_icmp .le 9, 3) := by decide +kernel
theorem dX7_first_114 : decode cX7_first 114 = .ok (.iload_n 0, 1) := by decide +kernel
theorem dX7_first_115 : decode cX7_first 115 = .ok (.bipush 12, 2) := by decide +kernel
theorem dX7_first_117 : decode cX7_first 117 = .ok (.if_icmp .lt 9, 3) := by decide +kernel
theorem dX7_first_120 : decode cX7_first 120 = .ok (.iload_n 0, 1) := by decide +kernel
theorem dX7_first_121 : decode cX7_first 121 = .ok (.bipush 13, 2) := by decide +kernel
theorem dX7_first_123 : decode cX7_first 123 = .ok (.if_icmp .ne 5, 3) := by decide +kernel
theorem dX7_first_126 : decode cX7_first 126 = .ok (.iconst 0, 1) := by decide +kernel
theorem dX7_first_127 : decode cX7_first 127 = .ok (.ireturn, 1) := by decide +kernel
theorem dX7_first_128 : decode cX7_first 128 = .ok (.iconst 1, 1) := by decide +kernel
theorem dX7_first_129 : decode cX7_first 129 = .ok (.ireturn, 1) := by decide +kernel
theorem dX7_most_0 : decode cX7_most 0 = .ok (.iload_n 0, 1) := by decide +kernel
theorem dX7_most_1 : decode cX7_most 1 = .ok (.bipush 12, 2) := by decide +kernel
theorem dX7_most_3 : decode cX7_most 3 = .ok (.if_icmp .ge 5, 3) := by decide +kernel
theorem dX7_most_6 : decode cX7_most 6 = .ok (.iconst 1, 1) := by decide +kernel
theorem dX7_most_7 : decode cX7_most 7 = .ok (.ireturn, 1) := by decide +kernel
theorem dX7_most_8 : decode cX7_most 8 = .ok (.iload_n 0, 1) := by decide +kernel
theorem dX7_most_9 : decode cX7_most 9 = .ok (.bipush 12, 2) := by decide +kernel
theorem dX7_most_11 : decode cX7_most 11 = .ok (.if_icmp .ne 6, 3) := by decide +kernel
theorem dX7_most_14 : decode cX7_most 14 = .ok (.bipush 32, 2) := by decide +kernel
theorem dX7_most_16 : decode cX7_most 16 = .ok (.ireturn, 1) := by decide +kernel
theorem dX7_most_17 : decode cX7_most 17 = .ok (.iload_n 0, 1) := by decide +kernel
theorem dX7_most_18 : decode cX7_most 18 = .ok (.bipush 13, 2) := by decide +kernel
theorem dX7_most_20 : decode cX7_most 20 = .ok (.if_icmp .ne 6, 3) := by decide +kernel
theorem dX7_most_23 : decode cX7_most 23 = .ok (.bipush 20, 2) := by decide +kernel
theorem dX7_most_25 : decode cX7_most 25 = .ok (.ireturn, 1) := by decide +kernel
theorem dX7_most_26 : decode cX7_most 26 = .ok (.sipush 256, 3) := by decide +kernel
theorem dX7_most_29 : decode cX7_most 29 = .ok (.ireturn, 1) := by decide +kernel
theorem dX7_isPort_0 : decode cX7_isPort 0 = .ok (.iload_n 0, 1) := by decide +kernel
theorem dX7_isPort_1 : decode cX7_isPort 1 = .ok (.ifCond .lt 12, 3) := by decide +kernel
theorem dX7_isPort_4 : decode cX7_isPort 4 = .ok (.iload_n 0, 1) := by decide +kernel
theorem dX7_isPort_5 : decode cX7_isPort 5 = .ok (.iconst 4, 1) := by decide +kernel
theorem dX7_isPort_6 : decode cX7_isPort 6 = .ok (.if_icmp .ge 7, 3) := by decide +kernel
theorem dX7_isPort_9 : decode cX7_isPort 9 = .ok (.iconst 1, 1) := by decide +kernel
theorem dX7_isPort_10 : decode cX7_isPort 10 = .ok (.goto 4, 3) := by decide +kernel
theorem dX7_isPort_13 : decode cX7_isPort 13 = .ok (.iconst 0, 1) := by decide +kernel
theorem dX7_isPort_14 : decode cX7_isPort 14 = .ok (.ireturn, 1) := by decide +kernel
theorem dX7_isProcess_0 : decode cX7_isProcess 0 = .ok (.iload_n 0, 1) := by decide +kernel
theorem dX7_isProcess_1 : decode cX7_isProcess 1 = .ok (.ifCond .lt 13, 3) := by decide +kernel
theorem dX7_isProcess_4 : decode cX7_isProcess 4 = .ok (.iload_n 0, 1) := by decide +kernel
theorem dX7_isProcess_5 : decode cX7_isProcess 5 = .ok (.bipush 8, 2) := by decide +kernel
theorem dX7_isProcess_7 : decode cX7_isProcess 7 = .ok (.if_icmp .ge 7, 3) := by decide +kernel
theorem dX7_isProcess_10 : decode cX7_isProcess 10 = .ok (.iconst 1, 1) := by decide +kernel
theorem dX7_isProcess_11 : decode cX7_isProcess 11 = .ok (.goto 4, 3) := by decide +kernel
theorem dX7_isProcess_14 : decode cX7_isProcess 14 = .ok (.iconst 0, 1) := by decide +kernel
theorem dX7_isProcess_15 : decode cX7_isProcess 15 = .ok (.ireturn, 1) := by decide +kernel
theorem dX7_mode1_0 : decode cX7_mode1 0 = .ok (.aload_n 0, 1) := by decide +kernel
theorem dX7_mode1_1 : decode cX7_mode1 1 = .ok (.getfield 13, 3) := by decide +kernel
theorem dX7_mode1_4 : decode cX7_mode1 4 = .ok (.bipush 25, 2) := by decide +kernel
theorem dX7_mode1_6 : decode cX7_mode1 6 = .ok (.iload_n 1, 1) := by decide +kernel
theorem dX7_mode1_7 : decode cX7_mode1 7 = .ok (.imul, 1) := by decide +kernel
theorem dX7_mode1_8 : decode cX7_mode1 8 = .ok (.iload_n 2, 1) := by decide +kernel
theorem dX7_mode1_9 : decode cX7_mode1 9 = .ok (.iadd, 1) := by decide +kernel
theorem dX7_mode1_10 : decode cX7_mode1 10 = .ok (.iaload, 1) := by decide +kernel
theorem dX7_mode1_11 : decode cX7_mode1 11 = .ok (.ireturn, 1) := by decide +kernel
theorem dX7_on_0 : decode cX7_on 0 = .ok (.aload_n 0, 1) := by decide +kernel
theorem dX7_on_1 : decode cX7_on 1 = .ok (.getfield 13, 3) := by decide +kernel
theorem dX7_on_4 : decode cX7_on 4 = .ok (.bipush 25, 2) := by decide +kernel
theorem dX7_on_6 : decode cX7_on 6 = .ok (.iload_n 1, 1) := by decide +kernel
theorem dX7_on_7 : decode cX7_on 7 = .ok (.imul, 1) := by decide +kernel
theorem dX7_on_8 : decode cX7_on 8 = .ok (.iload_n 2, 1) := by decide +kernel
theorem dX7_on_9 : decode cX7_on 9 = .ok (.iadd, 1) := by decide +kernel
theorem dX7_on_10 : decode cX7_on 10 = .ok (.iaload, 1) := by decide +kernel
theorem dX7_on_11 : decode cX7_on 11 = .ok (.iconst 1, 1) := by decide +kernel
theorem dX7_on_12 : decode cX7_on 12 = .ok (.if_icmp .ne 7, 3) := by decide +kernel
theorem dX7_on_15 : decode cX7_on 15 = .ok (.iconst 1, 1) := by decide +kernel
theorem dX7_on_16 : decode cX7_on 16 = .ok (.goto 4, 3) := by decide +kernel
theorem dX7_on_19 : decode cX7_on 19 = .ok (.iconst 0, 1) := by decide +kernel
theorem dX7_on_20 : decode cX7_on 20 = .ok (.ireturn, 1) := by decide +kernel
theorem dX7_raise_0 : decode cX7_raise 0 = .ok (.iload_n 1, 1) := by decide +kernel
theorem dX7_raise_1 : decode cX7_raise 1 = .ok (.ifCond .ge 4, 3) := by decide +kernel
theorem dX7_raise_4 : decode cX7_raise 4 = .ok (.return_, 1) := by decide +kernel
theorem dX7_raise_5 : decode cX7_raise 5 = .ok (.iconst 0, 1) := by decide +kernel
theorem dX7_raise_6 : decode cX7_raise 6 = .ok (.istore_n 3, 1) := by decide +kernel
theorem dX7_raise_7 : decode cX7_raise 7 = .ok (.iload_n 3, 1) := by decide +kernel
theorem dX7_raise_8 : decode cX7_raise 8 = .ok (.bipush 8, 2) := by decide +kernel
theorem dX7_raise_10 : decode cX7_raise 10 = .ok (.if_icmp .ge 29, 3) := by decide +kernel
theorem dX7_raise_13 : decode cX7_raise 13 = .ok (.aload_n 0, 1) := by decide +kernel
theorem dX7_raise_14 : decode cX7_raise 14 = .ok (.getfield 99, 3) := by decide +kernel
theorem dX7_raise_17 : decode cX7_raise 17 = .ok (.iload_n 3, 1) := by decide +kernel
theorem dX7_raise_18 : decode cX7_raise 18 = .ok (.iaload, 1) := by decide +kernel
theorem dX7_raise_19 : decode cX7_raise 19 = .ok (.iload_n 1, 1) := by decide +kernel
theorem dX7_raise_20 : decode cX7_raise 20 = .ok (.if_icmp .ne 13, 3) := by decide +kernel
theorem dX7_raise_23 : decode cX7_raise 23 = .ok (.aload_n 0, 1) := by decide +kernel
theorem dX7_raise_24 : decode cX7_raise 24 = .ok (.getfield 102, 3) := by decide +kernel
theorem dX7_raise_27 : decode cX7_raise 27 = .ok (.iload_n 3, 1) := by decide +kernel
theorem dX7_raise_28 : decode cX7_raise 28 = .ok (.dup2, 1) := by decide +kernel
theorem dX7_raise_29 : decode cX7_raise 29 = .ok (.iaload, 1) := by decide +kernel
theorem dX7_raise_30 : decode cX7_raise 30 = .ok (.iload_n 2, 1) := by decide +kernel
theorem dX7_raise_31 : decode cX7_raise 31 = .ok (.ior, 1) := by decide +kernel
theorem dX7_raise_32 : decode cX7_raise 32 = .ok (.iastore, 1) := by decide +kernel
theorem dX7_raise_33 : decode cX7_raise 33 = .ok (.iinc 3 1, 3) := by decide +kernel
theorem dX7_raise_36 : decode cX7_raise 36 = .ok (.goto (-29), 3) := by decide +kernel
theorem dX7_raise_39 : decode cX7_raise 39 = .ok (.return_, 1) := by decide +kernel
theorem dX7_column1_0 : decode cX7_column1 0 = .ok (.iload_n 2, 1) := by decide +kernel
theorem dX7_column1_1 : decode cX7_column1 1 = .ok (.bipush 13, 2) := by decide +kernel
theorem dX7_column1_3 : decode cX7_column1 3 = .ok (.if_icmp .ne 5, 3) := by decide +kernel
theorem dX7_column1_6 : decode cX7_column1 6 = .ok (.iconst 0, 1) := by decide +kernel
theorem dX7_column1_7 : decode cX7_column1 7 = .ok (.ireturn, 1) := by decide +kernel
theorem dX7_column1_8 : decode cX7_column1 8 = .ok (.iload_n 2, 1) := by decide +kernel
theorem dX7_column1_9 : decode cX7_column1 9 = .ok (.bipush 8, 2) := by decide +kernel
theorem dX7_column1_11 : decode cX7_column1 11 = .ok (.if_icmp .ne 11, 3) := by decide +kernel
theorem dX7_column1_14 : decode cX7_column1 14 = .ok (.iload_n 1, 1) := by decide +kernel
theorem dX7_column1_15 : decode cX7_column1 15 = .ok (.ifCond .le 7, 3) := by decide +kernel
theorem dX7_column1_18 : decode cX7_column1 18 = .ok (.iload_n 1, 1) := by decide +kernel
theorem dX7_column1_19 : decode cX7_column1 19 = .ok (.iconst 1, 1) := by decide +kernel
theorem dX7_column1_20 : decode cX7_column1 20 = .ok (.isub, 1) := by decide +kernel
theorem dX7_column1_21 : decode cX7_column1 21 = .ok (.ireturn, 1) := by decide +kernel
theorem dX7_column1_22 : decode cX7_column1 22 = .ok (.iload_n 2, 1) := by decide +kernel
theorem dX7_column1_23 : decode cX7_column1 23 = .ok (.bipush 9, 2) := by decide +kernel
theorem dX7_column1_25 : decode cX7_column1 25 = .ok (.if_icmp .ne 14, 3) := by decide +kernel
theorem dX7_column1_28 : decode cX7_column1 28 = .ok (.iload_n 1, 1) := by decide +kernel
theorem dX7_column1_29 : decode cX7_column1 29 = .ok (.bipush 8, 2) := by decide +kernel
theorem dX7_column1_31 : decode cX7_column1 31 = .ok (.idiv, 1) := by decide +kernel
theorem dX7_column1_32 : decode cX7_column1 32 = .ok (.bipush 8, 2) := by decide +kernel
theorem dX7_column1_34 : decode cX7_column1 34 = .ok (.imul, 1) := by decide +kernel
theorem dX7_column1_35 : decode cX7_column1 35 = .ok (.bipush 8, 2) := by decide +kernel
theorem dX7_column1_37 : decode cX7_column1 37 = .ok (.iadd, 1) := by decide +kernel
theorem dX7_column1_38 : decode cX7_column1 38 = .ok (.ireturn, 1) := by decide +kernel
theorem dX7_column1_39 : decode cX7_column1 39 = .ok (.iload_n 2, 1) := by decide +kernel
theorem dX7_column1_40 : decode cX7_column1 40 = .ok (.bipush 32, 2) := by decide +kernel
theorem dX7_column1_42 : decode cX7_column1 42 = .ok (.if_icmp .lt 13, 3) := by decide +kernel
theorem dX7_column1_45 : decode cX7_column1 45 = .ok (.iload_n 2, 1) := by decide +kernel
theorem dX7_column1_46 : decode cX7_column1 46 = .ok (.bipush 127, 2) := by decide +kernel
theorem dX7_column1_48 : decode cX7_column1 48 = .ok (.if_icmp .eq 7, 3) := by decide +kernel
theorem dX7_column1_51 : decode cX7_column1 51 = .ok (.iload_n 1, 1) := by decide +kernel
theorem dX7_column1_52 : decode cX7_column1 52 = .ok (.iconst 1, 1) := by decide +kernel
theorem dX7_column1_53 : decode cX7_column1 53 = .ok (.iadd, 1) := by decide +kernel
theorem dX7_column1_54 : decode cX7_column1 54 = .ok (.ireturn, 1) := by decide +kernel
theorem dX7_column1_55 : decode cX7_column1 55 = .ok (.iload_n 1, 1) := by decide +kernel
theorem dX7_column1_56 : decode cX7_column1 56 = .ok (.ireturn, 1) := by decide +kernel
set_option maxRecDepth 20000 in
theorem ggX7_give_X7_column1 : GoodIn wsX7_give wsX7_column1 := goodIn_r _ [8] (by decide +kernel) (by decide +kernel)
set_option maxRecDepth 20000 in
theorem gX7_give_X7_column1 : GoodIn wsX7_give (wsV RX7 118 RX7 yX7_column1 wsX7_column1) := goodIn_app (goodIn_of _ (by decide +kernel)) ggX7_give_X7_column1
theorem dX7_give_0 : decode cX7_give 0 = .ok (.aload_n 0, 1) := by decide +kernel
theorem dX7_give_1 : decode cX7_give 1 = .ok (.getfield 42, 3) := by decide +kernel
theorem dX7_give_4 : decode cX7_give 4 = .ok (.bipush 64, 2) := by decide +kernel
theorem dX7_give_6 : decode cX7_give 6 = .ok (.iload_n 1, 1) := by decide +kernel
theorem dX7_give_7 : decode cX7_give 7 = .ok (.imul, 1) := by decide +kernel
theorem dX7_give_8 : decode cX7_give 8 = .ok (.aload_n 0, 1) := by decide +kernel
theorem dX7_give_9 : decode cX7_give 9 = .ok (.getfield 45, 3) := by decide +kernel
theorem dX7_give_12 : decode cX7_give 12 = .ok (.iload_n 1, 1) := by decide +kernel
theorem dX7_give_13 : decode cX7_give 13 = .ok (.iaload, 1) := by decide +kernel
theorem dX7_give_14 : decode cX7_give 14 = .ok (.iadd, 1) := by decide +kernel
theorem dX7_give_15 : decode cX7_give 15 = .ok (.iload_n 2, 1) := by decide +kernel
theorem dX7_give_16 : decode cX7_give 16 = .ok (.iastore, 1) := by decide +kernel
theorem dX7_give_17 : decode cX7_give 17 = .ok (.aload_n 0, 1) := by decide +kernel
theorem dX7_give_18 : decode cX7_give 18 = .ok (.getfield 45, 3) := by decide +kernel
theorem dX7_give_21 : decode cX7_give 21 = .ok (.iload_n 1, 1) := by decide +kernel
theorem dX7_give_22 : decode cX7_give 22 = .ok (.dup2, 1) := by decide +kernel
theorem dX7_give_23 : decode cX7_give 23 = .ok (.iaload, 1) := by decide +kernel
theorem dX7_give_24 : decode cX7_give 24 = .ok (.iconst 1, 1) := by decide +kernel
theorem dX7_give_25 : decode cX7_give 25 = .ok (.iadd, 1) := by decide +kernel
theorem dX7_give_26 : decode cX7_give 26 = .ok (.iastore, 1) := by decide +kernel
theorem dX7_give_27 : decode cX7_give 27 = .ok (.aload_n 0, 1) := by decide +kernel
theorem dX7_give_28 : decode cX7_give 28 = .ok (.getfield 60, 3) := by decide +kernel
theorem dX7_give_31 : decode cX7_give 31 = .ok (.iload_n 1, 1) := by decide +kernel
theorem dX7_give_32 : decode cX7_give 32 = .ok (.aload_n 0, 1) := by decide +kernel
theorem dX7_give_33 : decode cX7_give 33 = .ok (.aload_n 0, 1) := by decide +kernel
theorem dX7_give_34 : decode cX7_give 34 = .ok (.getfield 60, 3) := by decide +kernel
theorem dX7_give_37 : decode cX7_give 37 = .ok (.iload_n 1, 1) := by decide +kernel
theorem dX7_give_38 : decode cX7_give 38 = .ok (.iaload, 1) := by decide +kernel
theorem dX7_give_39 : decode cX7_give 39 = .ok (.iload_n 2, 1) := by decide +kernel
theorem dX7_give_40 : decode cX7_give 40 = .ok (.invokevirtual 118, 3) := by decide +kernel
theorem dX7_give_43 : decode cX7_give 43 = .ok (.iastore, 1) := by decide +kernel
theorem dX7_give_44 : decode cX7_give 44 = .ok (.return_, 1) := by decide +kernel
theorem dX7_push_0 : decode cX7_push 0 = .ok (.aload_n 0, 1) := by decide +kernel
theorem dX7_push_1 : decode cX7_push 1 = .ok (.getfield 45, 3) := by decide +kernel
theorem dX7_push_4 : decode cX7_push 4 = .ok (.iload_n 1, 1) := by decide +kernel
theorem dX7_push_5 : decode cX7_push 5 = .ok (.iaload, 1) := by decide +kernel
theorem dX7_push_6 : decode cX7_push 6 = .ok (.ifCond .le 104, 3) := by decide +kernel
theorem dX7_push_9 : decode cX7_push 9 = .ok (.aload_n 0, 1) := by decide +kernel
theorem dX7_push_10 : decode cX7_push 10 = .ok (.getfield 51, 3) := by decide +kernel
theorem dX7_push_13 : decode cX7_push 13 = .ok (.iload_n 1, 1) := by decide +kernel
theorem dX7_push_14 : decode cX7_push 14 = .ok (.iaload, 1) := by decide +kernel
theorem dX7_push_15 : decode cX7_push 15 = .ok (.bipush 8, 2) := by decide +kernel
theorem dX7_push_17 : decode cX7_push 17 = .ok (.if_icmp .ge 93, 3) := by decide +kernel
theorem dX7_push_20 : decode cX7_push 20 = .ok (.aload_n 0, 1) := by decide +kernel
theorem dX7_push_21 : decode cX7_push 21 = .ok (.getfield 48, 3) := by decide +kernel
theorem dX7_push_24 : decode cX7_push 24 = .ok (.bipush 8, 2) := by decide +kernel
theorem dX7_push_26 : decode cX7_push 26 = .ok (.iload_n 1, 1) := by decide +kernel
theorem dX7_push_27 : decode cX7_push 27 = .ok (.imul, 1) := by decide +kernel
theorem dX7_push_28 : decode cX7_push 28 = .ok (.aload_n 0, 1) := by decide +kernel
theorem dX7_push_29 : decode cX7_push 29 = .ok (.getfield 51, 3) := by decide +kernel
theorem dX7_push_32 : decode cX7_push 32 = .ok (.iload_n 1, 1) := by decide +kernel
theorem dX7_push_33 : decode cX7_push 33 = .ok (.iaload, 1) := by decide +kernel
theorem dX7_push_34 : decode cX7_push 34 = .ok (.iadd, 1) := by decide +kernel
theorem dX7_push_35 : decode cX7_push 35 = .ok (.aload_n 0, 1) := by decide +kernel
theorem dX7_push_36 : decode cX7_push 36 = .ok (.getfield 42, 3) := by decide +kernel
theorem dX7_push_39 : decode cX7_push 39 = .ok (.bipush 64, 2) := by decide +kernel
theorem dX7_push_41 : decode cX7_push 41 = .ok (.iload_n 1, 1) := by decide +kernel
theorem dX7_push_42 : decode cX7_push 42 = .ok (.imul, 1) := by decide +kernel
theorem dX7_push_43 : decode cX7_push 43 = .ok (.iaload, 1) := by decide +kernel
theorem dX7_push_44 : decode cX7_push 44 = .ok (.iastore, 1) := by decide +kernel
theorem dX7_push_45 : decode cX7_push 45 = .ok (.aload_n 0, 1) := by decide +kernel
theorem dX7_push_46 : decode cX7_push 46 = .ok (.getfield 51, 3) := by decide +kernel
theorem dX7_push_49 : decode cX7_push 49 = .ok (.iload_n 1, 1) := by decide +kernel
theorem dX7_push_50 : decode cX7_push 50 = .ok (.dup2, 1) := by decide +kernel
theorem dX7_push_51 : decode cX7_push 51 = .ok (.iaload, 1) := by decide +kernel
theorem dX7_push_52 : decode cX7_push 52 = .ok (.iconst 1, 1) := by decide +kernel
theorem dX7_push_53 : decode cX7_push 53 = .ok (.iadd, 1) := by decide +kernel
theorem dX7_push_54 : decode cX7_push 54 = .ok (.iastore, 1) := by decide +kernel
theorem dX7_push_55 : decode cX7_push 55 = .ok (.aload_n 0, 1) := by decide +kernel
theorem dX7_push_56 : decode cX7_push 56 = .ok (.getfield 45, 3) := by decide +kernel
theorem dX7_push_59 : decode cX7_push 59 = .ok (.iload_n 1, 1) := by decide +kernel
theorem dX7_push_60 : decode cX7_push 60 = .ok (.dup2, 1) := by decide +kernel
theorem dX7_push_61 : decode cX7_push 61 = .ok (.iaload, 1) := by decide +kernel
theorem dX7_push_62 : decode cX7_push 62 = .ok (.iconst 1, 1) := by decide +kernel
theorem dX7_push_63 : decode cX7_push 63 = .ok (.isub, 1) := by decide +kernel
theorem dX7_push_64 : decode cX7_push 64 = .ok (.iastore, 1) := by decide +kernel
theorem dX7_push_65 : decode cX7_push 65 = .ok (.iconst 0, 1) := by decide +kernel
theorem dX7_push_66 : decode cX7_push 66 = .ok (.istore_n 2, 1) := by decide +kernel
theorem dX7_push_67 : decode cX7_push 67 = .ok (.iload_n 2, 1) := by decide +kernel
theorem dX7_push_68 : decode cX7_push 68 = .ok (.aload_n 0, 1) := by decide +kernel
theorem dX7_push_69 : decode cX7_push 69 = .ok (.getfield 45, 3) := by decide +kernel
theorem dX7_push_72 : decode cX7_push 72 = .ok (.iload_n 1, 1) := by decide +kernel
theorem dX7_push_73 : decode cX7_push 73 = .ok (.iaload, 1) := by decide +kernel
theorem dX7_push_74 : decode cX7_push 74 = .ok (.if_icmp .ge 33, 3) := by decide +kernel
theorem dX7_push_77 : decode cX7_push 77 = .ok (.aload_n 0, 1) := by decide +kernel
theorem dX7_push_78 : decode cX7_push 78 = .ok (.getfield 42, 3) := by decide +kernel
theorem dX7_push_81 : decode cX7_push 81 = .ok (.bipush 64, 2) := by decide +kernel
theorem dX7_push_83 : decode cX7_push 83 = .ok (.iload_n 1, 1) := by decide +kernel
theorem dX7_push_84 : decode cX7_push 84 = .ok (.imul, 1) := by decide +kernel
theorem dX7_push_85 : decode cX7_push 85 = .ok (.iload_n 2, 1) := by decide +kernel
theorem dX7_push_86 : decode cX7_push 86 = .ok (.iadd, 1) := by decide +kernel
theorem dX7_push_87 : decode cX7_push 87 = .ok (.aload_n 0, 1) := by decide +kernel
theorem dX7_push_88 : decode cX7_push 88 = .ok (.getfield 42, 3) := by decide +kernel
theorem dX7_push_91 : decode cX7_push 91 = .ok (.bipush 64, 2) := by decide +kernel
theorem dX7_push_93 : decode cX7_push 93 = .ok (.iload_n 1, 1) := by decide +kernel
theorem dX7_push_94 : decode cX7_push 94 = .ok (.imul, 1) := by decide +kernel
theorem dX7_push_95 : decode cX7_push 95 = .ok (.iload_n 2, 1) := by decide +kernel
theorem dX7_push_96 : decode cX7_push 96 = .ok (.iadd, 1) := by decide +kernel
theorem dX7_push_97 : decode cX7_push 97 = .ok (.iconst 1, 1) := by decide +kernel
theorem dX7_push_98 : decode cX7_push 98 = .ok (.iadd, 1) := by decide +kernel
theorem dX7_push_99 : decode cX7_push 99 = .ok (.iaload, 1) := by decide +kernel
theorem dX7_push_100 : decode cX7_push 100 = .ok (.iastore, 1) := by decide +kernel
theorem dX7_push_101 : decode cX7_push 101 = .ok (.iinc 2 1, 3) := by decide +kernel
theorem dX7_push_104 : decode cX7_push 104 = .ok (.goto (-37), 3) := by decide +kernel
theorem dX7_push_107 : decode cX7_push 107 = .ok (.goto (-107), 3) := by decide +kernel
theorem dX7_push_110 : decode cX7_push 110 = .ok (.return_, 1) := by decide +kernel
theorem dX7_add_0 : decode cX7_add 0 = .ok (.aload_n 0, 1) := by decide +kernel
theorem dX7_add_1 : decode cX7_add 1 = .ok (.getfield 108, 3) := by decide +kernel
theorem dX7_add_4 : decode cX7_add 4 = .ok (.aload_n 0, 1) := by decide +kernel
theorem dX7_add_5 : decode cX7_add 5 = .ok (.getfield 111, 3) := by decide +kernel
theorem dX7_add_8 : decode cX7_add 8 = .ok (.iload_n 1, 1) := by decide +kernel
theorem dX7_add_9 : decode cX7_add 9 = .ok (.iastore, 1) := by decide +kernel
theorem dX7_add_10 : decode cX7_add 10 = .ok (.aload_n 0, 1) := by decide +kernel
theorem dX7_add_11 : decode cX7_add 11 = .ok (.dup, 1) := by decide +kernel
theorem dX7_add_12 : decode cX7_add 12 = .ok (.getfield 111, 3) := by decide +kernel
theorem dX7_add_15 : decode cX7_add 15 = .ok (.iconst 1, 1) := by decide +kernel
theorem dX7_add_16 : decode cX7_add 16 = .ok (.iadd, 1) := by decide +kernel
theorem dX7_add_17 : decode cX7_add 17 = .ok (.putfield 111, 3) := by decide +kernel
theorem dX7_add_20 : decode cX7_add 20 = .ok (.return_, 1) := by decide +kernel
theorem dX7_isPlain_0 : decode cX7_isPlain 0 = .ok (.iload_n 0, 1) := by decide +kernel
theorem dX7_isPlain_1 : decode cX7_isPlain 1 = .ok (.bipush 32, 2) := by decide +kernel
theorem dX7_isPlain_3 : decode cX7_isPlain 3 = .ok (.if_icmp .lt 13, 3) := by decide +kernel
theorem dX7_isPlain_6 : decode cX7_isPlain 6 = .ok (.iload_n 0, 1) := by decide +kernel
theorem dX7_isPlain_7 : decode cX7_isPlain 7 = .ok (.bipush 127, 2) := by decide +kernel
theorem dX7_isPlain_9 : decode cX7_isPlain 9 = .ok (.if_icmp .eq 7, 3) := by decide +kernel
theorem dX7_isPlain_12 : decode cX7_isPlain 12 = .ok (.iconst 1, 1) := by decide +kernel
theorem dX7_isPlain_13 : decode cX7_isPlain 13 = .ok (.goto 4, 3) := by decide +kernel
theorem dX7_isPlain_16 : decode cX7_isPlain 16 = .ok (.iconst 0, 1) := by decide +kernel
theorem dX7_isPlain_17 : decode cX7_isPlain 17 = .ok (.ireturn, 1) := by decide +kernel
set_option maxRecDepth 20000 in
theorem ggX7_addForm_X7_isPlain : GoodIn wsX7_addForm wsX7_isPlain := goodIn_r _ [4] (by decide +kernel) (by decide +kernel)
set_option maxRecDepth 20000 in
theorem gX7_addForm_X7_isPlain : GoodIn wsX7_addForm (va_wsS RX7 122 yX7_isPlain wsX7_isPlain) := goodIn_app (goodIn_of _ (by decide +kernel)) ggX7_addForm_X7_isPlain
set_option maxRecDepth 20000 in
theorem ggX7_addForm_X7_add : GoodIn wsX7_addForm wsX7_add := goodIn_r _ [8, 9, 10, 11, 12, 13, 14, 15, 16, 17, 18, 19, 20, 21, 22, 23, 24, 25, 26, 27, 28, 29, 30, 31, 32, 33, 34, 35, 36, 37, 38, 39, 40, 41, 42, 43, 44] (by decide +kernel) (by decide +kernel)
set_option maxRecDepth 20000 in
theorem gX7_addForm_X7_add : GoodIn wsX7_addForm (wsV RX7 126 RX7 yX7_add wsX7_add) := goodIn_app (goodIn_of _ (by decide +kernel)) ggX7_addForm_X7_add
theorem dX7_addForm_0 : decode cX7_addForm 0 = .ok (.iload_n 1, 1) := by decide +kernel
theorem dX7_addForm_1 : decode cX7_addForm 1 = .ok (.invokestatic 122, 3) := by decide +kernel
theorem dX7_addForm_4 : decode cX7_addForm 4 = .ok (.ifCond .eq 9, 3) := by decide +kernel
theorem dX7_addForm_7 : decode cX7_addForm 7 = .ok (.aload_n 0, 1) := by decide +kernel
theorem dX7_addForm_8 : decode cX7_addForm 8 = .ok (.iload_n 1, 1) := by decide +kernel
theorem dX7_addForm_9 : decode cX7_addForm 9 = .ok (.invokevirtual 126, 3) := by decide +kernel
theorem dX7_addForm_12 : decode cX7_addForm 12 = .ok (.return_, 1) := by decide +kernel
theorem dX7_addForm_13 : decode cX7_addForm 13 = .ok (.aload_n 0, 1) := by decide +kernel
theorem dX7_addForm_14 : decode cX7_addForm 14 = .ok (.bipush 94, 2) := by decide +kernel
theorem dX7_addForm_16 : decode cX7_addForm 16 = .ok (.invokevirtual 126, 3) := by decide +kernel
theorem dX7_addForm_19 : decode cX7_addForm 19 = .ok (.iload_n 1, 1) := by decide +kernel
theorem dX7_addForm_20 : decode cX7_addForm 20 = .ok (.bipush 127, 2) := by decide +kernel
theorem dX7_addForm_22 : decode cX7_addForm 22 = .ok (.if_icmp .ne 12, 3) := by decide +kernel
theorem dX7_addForm_25 : decode cX7_addForm 25 = .ok (.aload_n 0, 1) := by decide +kernel
theorem dX7_addForm_26 : decode cX7_addForm 26 = .ok (.bipush 63, 2) := by decide +kernel
theorem dX7_addForm_28 : decode cX7_addForm 28 = .ok (.invokevirtual 126, 3) := by decide +kernel
theorem dX7_addForm_31 : decode cX7_addForm 31 = .ok (.goto 11, 3) := by decide +kernel
theorem dX7_addForm_34 : decode cX7_addForm 34 = .ok (.aload_n 0, 1) := by decide +kernel
theorem dX7_addForm_35 : decode cX7_addForm 35 = .ok (.iload_n 1, 1) := by decide +kernel
theorem dX7_addForm_36 : decode cX7_addForm 36 = .ok (.bipush 64, 2) := by decide +kernel
theorem dX7_addForm_38 : decode cX7_addForm 38 = .ok (.iadd, 1) := by decide +kernel
theorem dX7_addForm_39 : decode cX7_addForm 39 = .ok (.invokevirtual 126, 3) := by decide +kernel
theorem dX7_addForm_42 : decode cX7_addForm 42 = .ok (.return_, 1) := by decide +kernel
set_option maxRecDepth 20000 in
theorem ggX7_echo_X7_on : GoodIn wsX7_echo wsX7_on := goodIn_r _ [9, 10, 21, 22, 23, 24, 25, 26, 27, 28, 29, 30, 31, 32, 33, 34, 35, 36, 37, 38, 39, 40, 41, 42, 43, 44, 45, 46, 47, 48, 49, 50, 51, 52, 53, 54] (by decide +kernel) (by decide +kernel)
set_option maxRecDepth 20000 in
theorem gX7_echo_X7_on : GoodIn wsX7_echo (wsV RX7 130 RX7 yX7_on wsX7_on) := goodIn_app (goodIn_of _ (by decide +kernel)) ggX7_echo_X7_on
set_option maxRecDepth 20000 in
theorem ggX7_echo_X7_give : GoodIn wsX7_echo wsX7_give := goodIn_r _ [14, 15, 1, 16, 17, 18, 19, 8, 20, 21, 22, 23, 24, 25, 26, 27, 28, 29, 30, 31, 32, 33, 34, 35, 36, 37, 38, 39, 40, 41, 42, 43, 44, 45, 46, 47, 48, 49, 50, 51, 52, 53, 54] (by decide +kernel) (by decide +kernel)
set_option maxRecDepth 20000 in
theorem gX7_echo_X7_give : GoodIn wsX7_echo (wsV RX7 134 RX7 yX7_give wsX7_give) := goodIn_app (goodIn_of _ (by decide +kernel)) ggX7_echo_X7_give
theorem dX7_echo_0 : decode cX7_echo 0 = .ok (.aload_n 0, 1) := by decide +kernel
theorem dX7_echo_1 : decode cX7_echo 1 = .ok (.iload_n 1, 1) := by decide +kernel
theorem dX7_echo_2 : decode cX7_echo 2 = .ok (.iconst 1, 1) := by decide +kernel
theorem dX7_echo_3 : decode cX7_echo 3 = .ok (.invokevirtual 130, 3) := by decide +kernel
theorem dX7_echo_6 : decode cX7_echo 6 = .ok (.ifCond .eq 63, 3) := by decide +kernel
theorem dX7_echo_9 : decode cX7_echo 9 = .ok (.aload_n 0, 1) := by decide +kernel
theorem dX7_echo_10 : decode cX7_echo 10 = .ok (.getfield 45, 3) := by decide +kernel
theorem dX7_echo_13 : decode cX7_echo 13 = .ok (.iload_n 1, 1) := by decide +kernel
theorem dX7_echo_14 : decode cX7_echo 14 = .ok (.iaload, 1) := by decide +kernel
theorem dX7_echo_15 : decode cX7_echo 15 = .ok (.aload_n 0, 1) := by decide +kernel
theorem dX7_echo_16 : decode cX7_echo 16 = .ok (.getfield 111, 3) := by decide +kernel
theorem dX7_echo_19 : decode cX7_echo 19 = .ok (.iadd, 1) := by decide +kernel
theorem dX7_echo_20 : decode cX7_echo 20 = .ok (.bipush 64, 2) := by decide +kernel
theorem dX7_echo_22 : decode cX7_echo 22 = .ok (.if_icmp .gt 47, 3) := by decide +kernel
theorem dX7_echo_25 : decode cX7_echo 25 = .ok (.iconst 0, 1) := by decide +kernel
theorem dX7_echo_26 : decode cX7_echo 26 = .ok (.istore_n 2, 1) := by decide +kernel
theorem dX7_echo_27 : decode cX7_echo 27 = .ok (.iload_n 2, 1) := by decide +kernel
theorem dX7_echo_28 : decode cX7_echo 28 = .ok (.aload_n 0, 1) := by decide +kernel
theorem dX7_echo_29 : decode cX7_echo 29 = .ok (.getfield 111, 3) := by decide +kernel
theorem dX7_echo_32 : decode cX7_echo 32 = .ok (.if_icmp .ge 20, 3) := by decide +kernel
theorem dX7_echo_35 : decode cX7_echo 35 = .ok (.aload_n 0, 1) := by decide +kernel
theorem dX7_echo_36 : decode cX7_echo 36 = .ok (.iload_n 1, 1) := by decide +kernel
theorem dX7_echo_37 : decode cX7_echo 37 = .ok (.aload_n 0, 1) := by decide +kernel
theorem dX7_echo_38 : decode cX7_echo 38 = .ok (.getfield 108, 3) := by decide +kernel
theorem dX7_echo_41 : decode cX7_echo 41 = .ok (.iload_n 2, 1) := by decide +kernel
theorem dX7_echo_42 : decode cX7_echo 42 = .ok (.iaload, 1) := by decide +kernel
theorem dX7_echo_43 : decode cX7_echo 43 = .ok (.invokevirtual 134, 3) := by decide +kernel
theorem dX7_echo_46 : decode cX7_echo 46 = .ok (.iinc 2 1, 3) := by decide +kernel
theorem dX7_echo_49 : decode cX7_echo 49 = .ok (.goto (-22), 3) := by decide +kernel
theorem dX7_echo_52 : decode cX7_echo 52 = .ok (.aload_n 0, 1) := by decide +kernel
theorem dX7_echo_53 : decode cX7_echo 53 = .ok (.getfield 105, 3) := by decide +kernel
theorem dX7_echo_56 : decode cX7_echo 56 = .ok (.iconst 5, 1) := by decide +kernel
theorem dX7_echo_57 : decode cX7_echo 57 = .ok (.iload_n 1, 1) := by decide +kernel
theorem dX7_echo_58 : decode cX7_echo 58 = .ok (.imul, 1) := by decide +kernel
theorem dX7_echo_59 : decode cX7_echo 59 = .ok (.iconst 3, 1) := by decide +kernel
theorem dX7_echo_60 : decode cX7_echo 60 = .ok (.iadd, 1) := by decide +kernel
theorem dX7_echo_61 : decode cX7_echo 61 = .ok (.dup2, 1) := by decide +kernel
theorem dX7_echo_62 : decode cX7_echo 62 = .ok (.iaload, 1) := by decide +kernel
theorem dX7_echo_63 : decode cX7_echo 63 = .ok (.aload_n 0, 1) := by decide +kernel
theorem dX7_echo_64 : decode cX7_echo 64 = .ok (.getfield 111, 3) := by decide +kernel
theorem dX7_echo_67 : decode cX7_echo 67 = .ok (.iadd, 1) := by decide +kernel
theorem dX7_echo_68 : decode cX7_echo 68 = .ok (.iastore, 1) := by decide +kernel
theorem dX7_echo_69 : decode cX7_echo 69 = .ok (.aload_n 0, 1) := by decide +kernel
theorem dX7_echo_70 : decode cX7_echo 70 = .ok (.iconst 0, 1) := by decide +kernel
theorem dX7_echo_71 : decode cX7_echo 71 = .ok (.putfield 111, 3) := by decide +kernel
theorem dX7_echo_74 : decode cX7_echo 74 = .ok (.return_, 1) := by decide +kernel
set_option maxRecDepth 20000 in
theorem ggX7_echoForm_X7_addForm : GoodIn wsX7_echoForm wsX7_addForm := goodIn_r _ [5, 6, 7, 4, 8, 9, 10, 11, 12, 13, 14, 36, 37, 38, 39, 40, 41, 42, 43, 44, 45, 46, 47, 48, 49, 50, 51, 52, 53, 54, 55, 56, 57, 58, 59, 60, 61, 62, 63, 64, 65, 66, 67, 68, 69] (by decide +kernel) (by decide +kernel)
set_option maxRecDepth 20000 in
theorem gX7_echoForm_X7_addForm : GoodIn wsX7_echoForm (wsV RX7 138 RX7 yX7_addForm wsX7_addForm) := goodIn_app (goodIn_of _ (by decide +kernel)) ggX7_echoForm_X7_addForm
set_option maxRecDepth 20000 in
theorem ggX7_echoForm_X7_echo : GoodIn wsX7_echoForm wsX7_echo := goodIn_r _ [18, 19, 14, 13, 20, 21, 22, 23, 4, 24, 25, 26, 27, 28, 29, 30, 31, 32, 33, 34, 35, 36, 37, 38, 39, 40, 41, 42, 43, 44, 45, 46, 47, 48, 49, 50, 51, 52, 53, 54, 55, 56, 57, 58, 59, 60, 61, 62, 63, 64, 65, 66, 67, 68, 69] (by decide +kernel) (by decide +kernel)
set_option maxRecDepth 20000 in
theorem gX7_echoForm_X7_echo : GoodIn wsX7_echoForm (wsV RX7 141 RX7 yX7_echo wsX7_echo) := goodIn_app (goodIn_of _ (by decide +kernel)) ggX7_echoForm_X7_echo
theorem dX7_echoForm_0 : decode cX7_echoForm 0 = .ok (.aload_n 0, 1) := by decide +kernel
theorem dX7_echoForm_1 : decode cX7_echoForm 1 = .ok (.iload_n 2, 1) := by decide +kernel
theorem dX7_echoForm_2 : decode cX7_echoForm 2 = .ok (.invokevirtual 138, 3) := by decide +kernel
theorem dX7_echoForm_5 : decode cX7_echoForm 5 = .ok (.aload_n 0, 1) := by decide +kernel
theorem dX7_echoForm_6 : decode cX7_echoForm 6 = .ok (.iload_n 1, 1) := by decide +kernel
theorem dX7_echoForm_7 : decode cX7_echoForm 7 = .ok (.invokevirtual 141, 3) := by decide +kernel
theorem dX7_echoForm_10 : decode cX7_echoForm 10 = .ok (.return_, 1) := by decide +kernel
set_option maxRecDepth 20000 in
theorem ggX7_flowUp_X7_on : GoodIn wsX7_flowUp wsX7_on := goodIn_r _ [8, 9, 10, 11, 12, 13, 14, 15, 16, 17, 18, 19, 20, 21, 22, 23, 24, 25, 26, 27, 28, 29, 30, 31, 32, 33, 34, 35, 36, 37, 38, 39, 40, 41, 42, 43] (by decide +kernel) (by decide +kernel)
set_option maxRecDepth 20000 in
theorem gX7_flowUp_X7_on : GoodIn wsX7_flowUp (wsV RX7 130 RX7 yX7_on wsX7_on) := goodIn_app (goodIn_of _ (by decide +kernel)) ggX7_flowUp_X7_on
theorem dX7_flowUp_0 : decode cX7_flowUp 0 = .ok (.aload_n 0, 1) := by decide +kernel
theorem dX7_flowUp_1 : decode cX7_flowUp 1 = .ok (.iload_n 1, 1) := by decide +kernel
theorem dX7_flowUp_2 : decode cX7_flowUp 2 = .ok (.bipush 6, 2) := by decide +kernel
theorem dX7_flowUp_4 : decode cX7_flowUp 4 = .ok (.invokevirtual 130, 3) := by decide +kernel
theorem dX7_flowUp_7 : decode cX7_flowUp 7 = .ok (.ifCond .eq 23, 3) := by decide +kernel
theorem dX7_flowUp_10 : decode cX7_flowUp 10 = .ok (.aload_n 0, 1) := by decide +kernel
theorem dX7_flowUp_11 : decode cX7_flowUp 11 = .ok (.getfield 63, 3) := by decide +kernel
theorem dX7_flowUp_14 : decode cX7_flowUp 14 = .ok (.iload_n 1, 1) := by decide +kernel
theorem dX7_flowUp_15 : decode cX7_flowUp 15 = .ok (.baload, 1) := by decide +kernel
theorem dX7_flowUp_16 : decode cX7_flowUp 16 = .ok (.ifCond .ne 14, 3) := by decide +kernel
theorem dX7_flowUp_19 : decode cX7_flowUp 19 = .ok (.aload_n 0, 1) := by decide +kernel
theorem dX7_flowUp_20 : decode cX7_flowUp 20 = .ok (.getfield 33, 3) := by decide +kernel
theorem dX7_flowUp_23 : decode cX7_flowUp 23 = .ok (.iload_n 1, 1) := by decide +kernel
theorem dX7_flowUp_24 : decode cX7_flowUp 24 = .ok (.iaload, 1) := by decide +kernel
theorem dX7_flowUp_25 : decode cX7_flowUp 25 = .ok (.bipush 48, 2) := by decide +kernel
theorem dX7_flowUp_27 : decode cX7_flowUp 27 = .ok (.if_icmp .gt 4, 3) := by decide +kernel
theorem dX7_flowUp_30 : decode cX7_flowUp 30 = .ok (.return_, 1) := by decide +kernel
theorem dX7_flowUp_31 : decode cX7_flowUp 31 = .ok (.aload_n 0, 1) := by decide +kernel
theorem dX7_flowUp_32 : decode cX7_flowUp 32 = .ok (.getfield 63, 3) := by decide +kernel
theorem dX7_flowUp_35 : decode cX7_flowUp 35 = .ok (.iload_n 1, 1) := by decide +kernel
theorem dX7_flowUp_36 : decode cX7_flowUp 36 = .ok (.iconst 1, 1) := by decide +kernel
theorem dX7_flowUp_37 : decode cX7_flowUp 37 = .ok (.bastore, 1) := by decide +kernel
theorem dX7_flowUp_38 : decode cX7_flowUp 38 = .ok (.aload_n 0, 1) := by decide +kernel
theorem dX7_flowUp_39 : decode cX7_flowUp 39 = .ok (.getfield 66, 3) := by decide +kernel
theorem dX7_flowUp_42 : decode cX7_flowUp 42 = .ok (.iload_n 1, 1) := by decide +kernel
theorem dX7_flowUp_43 : decode cX7_flowUp 43 = .ok (.iconst 1, 1) := by decide +kernel
theorem dX7_flowUp_44 : decode cX7_flowUp 44 = .ok (.iastore, 1) := by decide +kernel
theorem dX7_flowUp_45 : decode cX7_flowUp 45 = .ok (.return_, 1) := by decide +kernel
theorem dX7_flowDown_0 : decode cX7_flowDown 0 = .ok (.aload_n 0, 1) := by decide +kernel
theorem dX7_flowDown_1 : decode cX7_flowDown 1 = .ok (.getfield 63, 3) := by decide +kernel
theorem dX7_flowDown_4 : decode cX7_flowDown 4 = .ok (.iload_n 1, 1) := by decide +kernel
theorem dX7_flowDown_5 : decode cX7_flowDown 5 = .ok (.baload, 1) := by decide +kernel
theorem dX7_flowDown_6 : decode cX7_flowDown 6 = .ok (.ifCond .eq 14, 3) := by decide +kernel
theorem dX7_flowDown_9 : decode cX7_flowDown 9 = .ok (.aload_n 0, 1) := by decide +kernel
theorem dX7_flowDown_10 : decode cX7_flowDown 10 = .ok (.getfield 33, 3) := by decide +kernel
theorem dX7_flowDown_13 : decode cX7_flowDown 13 = .ok (.iload_n 1, 1) := by decide +kernel
theorem dX7_flowDown_14 : decode cX7_flowDown 14 = .ok (.iaload, 1) := by decide +kernel
theorem dX7_flowDown_15 : decode cX7_flowDown 15 = .ok (.bipush 16, 2) := by decide +kernel
theorem dX7_flowDown_17 : decode cX7_flowDown 17 = .ok (.if_icmp .le 4, 3) := by decide +kernel
theorem dX7_flowDown_20 : decode cX7_flowDown 20 = .ok (.return_, 1) := by decide +kernel
theorem dX7_flowDown_21 : decode cX7_flowDown 21 = .ok (.aload_n 0, 1) := by decide +kernel
theorem dX7_flowDown_22 : decode cX7_flowDown 22 = .ok (.getfield 63, 3) := by decide +kernel
theorem dX7_flowDown_25 : decode cX7_flowDown 25 = .ok (.iload_n 1, 1) := by decide +kernel
theorem dX7_flowDown_26 : decode cX7_flowDown 26 = .ok (.iconst 0, 1) := by decide +kernel
theorem dX7_flowDown_27 : decode cX7_flowDown 27 = .ok (.bastore, 1) := by decide +kernel
theorem dX7_flowDown_28 : decode cX7_flowDown 28 = .ok (.aload_n 0, 1) := by decide +kernel
theorem dX7_flowDown_29 : decode cX7_flowDown 29 = .ok (.getfield 66, 3) := by decide +kernel
theorem dX7_flowDown_32 : decode cX7_flowDown 32 = .ok (.iload_n 1, 1) := by decide +kernel
theorem dX7_flowDown_33 : decode cX7_flowDown 33 = .ok (.iconst 2, 1) := by decide +kernel
theorem dX7_flowDown_34 : decode cX7_flowDown 34 = .ok (.iastore, 1) := by decide +kernel
theorem dX7_flowDown_35 : decode cX7_flowDown 35 = .ok (.return_, 1) := by decide +kernel
set_option maxRecDepth 20000 in
theorem ggX7_isCanon_X7_on : GoodIn wsX7_isCanon wsX7_on := goodIn_r _ [5, 6, 7, 8, 9, 10, 11, 12, 13, 14, 15, 16, 17, 18, 19, 20, 21, 22, 23, 24, 25, 26, 27, 28, 29, 30, 31, 32, 33, 34, 35, 36, 37, 38, 39, 40] (by decide +kernel) (by decide +kernel)
set_option maxRecDepth 20000 in
theorem gX7_isCanon_X7_on : GoodIn wsX7_isCanon (wsV RX7 130 RX7 yX7_on wsX7_on) := goodIn_app (goodIn_of _ (by decide +kernel)) ggX7_isCanon_X7_on
theorem dX7_isCanon_0 : decode cX7_isCanon 0 = .ok (.aload_n 0, 1) := by decide +kernel
theorem dX7_isCanon_1 : decode cX7_isCanon 1 = .ok (.iload_n 1, 1) := by decide +kernel
theorem dX7_isCanon_2 : decode cX7_isCanon 2 = .ok (.iconst 0, 1) := by decide +kernel
theorem dX7_isCanon_3 : decode cX7_isCanon 3 = .ok (.invokevirtual 130, 3) := by decide +kernel
theorem dX7_isCanon_6 : decode cX7_isCanon 6 = .ok (.ireturn, 1) := by decide +kernel
set_option maxRecDepth 20000 in
theorem ggX7_release_X7_isCanon : GoodIn wsX7_release wsX7_isCanon := goodIn_r _ [9, 10, 11, 12, 8, 13, 14, 19, 20, 21, 22, 23, 24, 25, 26, 27, 28, 29, 30, 31, 32, 33, 34, 35, 36, 37, 38, 39, 40, 41, 42, 43, 44, 45, 46, 47, 48, 49, 50, 51, 52] (by decide +kernel) (by decide +kernel)
set_option maxRecDepth 20000 in
theorem gX7_release_X7_isCanon : GoodIn wsX7_release (wsV RX7 144 RX7 yX7_isCanon wsX7_isCanon) := goodIn_app (goodIn_of _ (by decide +kernel)) ggX7_release_X7_isCanon
set_option maxRecDepth 20000 in
theorem ggX7_release_X7_mode1 : GoodIn wsX7_release wsX7_mode1 := goodIn_r _ [18, 14, 19, 20, 21, 22, 23, 24, 25, 26, 27, 28, 29, 30, 31, 32, 33, 34, 35, 36, 37, 38, 39, 40, 41, 42, 43, 44, 45, 46, 47, 48, 49, 50, 51, 52] (by decide +kernel) (by decide +kernel)
set_option maxRecDepth 20000 in
theorem gX7_release_X7_mode1 : GoodIn wsX7_release (wsV RX7 147 RX7 yX7_mode1 wsX7_mode1) := goodIn_app (goodIn_of _ (by decide +kernel)) ggX7_release_X7_mode1
theorem dX7_release_0 : decode cX7_release 0 = .ok (.aload_n 0, 1) := by decide +kernel
theorem dX7_release_1 : decode cX7_release 1 = .ok (.iload_n 1, 1) := by decide +kernel
theorem dX7_release_2 : decode cX7_release 2 = .ok (.invokevirtual 144, 3) := by decide +kernel
theorem dX7_release_5 : decode cX7_release 5 = .ok (.ifCond .eq 75, 3) := by decide +kernel
theorem dX7_release_8 : decode cX7_release 8 = .ok (.aload_n 0, 1) := by decide +kernel
theorem dX7_release_9 : decode cX7_release 9 = .ok (.getfield 36, 3) := by decide +kernel
theorem dX7_release_12 : decode cX7_release 12 = .ok (.iload_n 1, 1) := by decide +kernel
theorem dX7_release_13 : decode cX7_release 13 = .ok (.iaload, 1) := by decide +kernel
theorem dX7_release_14 : decode cX7_release 14 = .ok (.istore_n 2, 1) := by decide +kernel
theorem dX7_release_15 : decode cX7_release 15 = .ok (.iload_n 2, 1) := by decide +kernel
theorem dX7_release_16 : decode cX7_release 16 = .ok (.aload_n 0, 1) := by decide +kernel
theorem dX7_release_17 : decode cX7_release 17 = .ok (.getfield 33, 3) := by decide +kernel
theorem dX7_release_20 : decode cX7_release 20 = .ok (.iload_n 1, 1) := by decide +kernel
theorem dX7_release_21 : decode cX7_release 21 = .ok (.iaload, 1) := by decide +kernel
theorem dX7_release_22 : decode cX7_release 22 = .ok (.if_icmp .ge 57, 3) := by decide +kernel
theorem dX7_release_25 : decode cX7_release 25 = .ok (.aload_n 0, 1) := by decide +kernel
theorem dX7_release_26 : decode cX7_release 26 = .ok (.getfield 26, 3) := by decide +kernel
theorem dX7_release_29 : decode cX7_release 29 = .ok (.bipush 65, 2) := by decide +kernel
theorem dX7_release_31 : decode cX7_release 31 = .ok (.iload_n 1, 1) := by decide +kernel
theorem dX7_release_32 : decode cX7_release 32 = .ok (.imul, 1) := by decide +kernel
theorem dX7_release_33 : decode cX7_release 33 = .ok (.iload_n 2, 1) := by decide +kernel
theorem dX7_release_34 : decode cX7_release 34 = .ok (.iadd, 1) := by decide +kernel
theorem dX7_release_35 : decode cX7_release 35 = .ok (.iaload, 1) := by decide +kernel
theorem dX7_release_36 : decode cX7_release 36 = .ok (.istore_n 3, 1) := by decide +kernel
theorem dX7_release_37 : decode cX7_release 37 = .ok (.iload_n 3, 1) := by decide +kernel
theorem dX7_release_38 : decode cX7_release 38 = .ok (.sipush 256, 3) := by decide +kernel
theorem dX7_release_41 : decode cX7_release 41 = .ok (.if_icmp .eq 23, 3) := by decide +kernel
theorem dX7_release_44 : decode cX7_release 44 = .ok (.iload_n 3, 1) := by decide +kernel
theorem dX7_release_45 : decode cX7_release 45 = .ok (.bipush 10, 2) := by decide +kernel
theorem dX7_release_47 : decode cX7_release 47 = .ok (.if_icmp .ne 26, 3) := by decide +kernel
theorem dX7_release_50 : decode cX7_release 50 = .ok (.aload_n 0, 1) := by decide +kernel
theorem dX7_release_51 : decode cX7_release 51 = .ok (.getfield 29, 3) := by decide +kernel
theorem dX7_release_54 : decode cX7_release 54 = .ok (.bipush 65, 2) := by decide +kernel
theorem dX7_release_56 : decode cX7_release 56 = .ok (.iload_n 1, 1) := by decide +kernel
theorem dX7_release_57 : decode cX7_release 57 = .ok (.imul, 1) := by decide +kernel
theorem dX7_release_58 : decode cX7_release 58 = .ok (.iload_n 2, 1) := by decide +kernel
theorem dX7_release_59 : decode cX7_release 59 = .ok (.iadd, 1) := by decide +kernel
theorem dX7_release_60 : decode cX7_release 60 = .ok (.baload, 1) := by decide +kernel
theorem dX7_release_61 : decode cX7_release 61 = .ok (.ifCond .ne 12, 3) := by decide +kernel
theorem dX7_release_64 : decode cX7_release 64 = .ok (.aload_n 0, 1) := by decide +kernel
theorem dX7_release_65 : decode cX7_release 65 = .ok (.getfield 36, 3) := by decide +kernel
theorem dX7_release_68 : decode cX7_release 68 = .ok (.iload_n 1, 1) := by decide +kernel
theorem dX7_release_69 : decode cX7_release 69 = .ok (.iload_n 2, 1) := by decide +kernel
theorem dX7_release_70 : decode cX7_release 70 = .ok (.iconst 1, 1) := by decide +kernel
theorem dX7_release_71 : decode cX7_release 71 = .ok (.iadd, 1) := by decide +kernel
theorem dX7_release_72 : decode cX7_release 72 = .ok (.iastore, 1) := by decide +kernel
theorem dX7_release_73 : decode cX7_release 73 = .ok (.iinc 2 1, 3) := by decide +kernel
theorem dX7_release_76 : decode cX7_release 76 = .ok (.goto (-61), 3) := by decide +kernel
theorem dX7_release_79 : decode cX7_release 79 = .ok (.return_, 1) := by decide +kernel
theorem dX7_release_80 : decode cX7_release 80 = .ok (.aload_n 0, 1) := by decide +kernel
theorem dX7_release_81 : decode cX7_release 81 = .ok (.iload_n 1, 1) := by decide +kernel
theorem dX7_release_82 : decode cX7_release 82 = .ok (.bipush 12, 2) := by decide +kernel
theorem dX7_release_84 : decode cX7_release 84 = .ok (.invokevirtual 147, 3) := by decide +kernel
theorem dX7_release_87 : decode cX7_release 87 = .ok (.istore_n 2, 1) := by decide +kernel
theorem dX7_release_88 : decode cX7_release 88 = .ok (.iload_n 2, 1) := by decide +kernel
theorem dX7_release_89 : decode cX7_release 89 = .ok (.ifCond .ne 5, 3) := by decide +kernel
theorem dX7_release_92 : decode cX7_release 92 = .ok (.iconst 1, 1) := by decide +kernel
theorem dX7_release_93 : decode cX7_release 93 = .ok (.istore_n 2, 1) := by decide +kernel
theorem dX7_release_94 : decode cX7_release 94 = .ok (.aload_n 0, 1) := by decide +kernel
theorem dX7_release_95 : decode cX7_release 95 = .ok (.getfield 33, 3) := by decide +kernel
theorem dX7_release_98 : decode cX7_release 98 = .ok (.iload_n 1, 1) := by decide +kernel
theorem dX7_release_99 : decode cX7_release 99 = .ok (.iaload, 1) := by decide +kernel
theorem dX7_release_100 : decode cX7_release 100 = .ok (.iload_n 2, 1) := by decide +kernel
theorem dX7_release_101 : decode cX7_release 101 = .ok (.if_icmp .lt 15, 3) := by decide +kernel
theorem dX7_release_104 : decode cX7_release 104 = .ok (.aload_n 0, 1) := by decide +kernel
theorem dX7_release_105 : decode cX7_release 105 = .ok (.getfield 36, 3) := by decide +kernel
theorem dX7_release_108 : decode cX7_release 108 = .ok (.iload_n 1, 1) := by decide +kernel
theorem dX7_release_109 : decode cX7_release 109 = .ok (.aload_n 0, 1) := by decide +kernel
theorem dX7_release_110 : decode cX7_release 110 = .ok (.getfield 33, 3) := by decide +kernel
theorem dX7_release_113 : decode cX7_release 113 = .ok (.iload_n 1, 1) := by decide +kernel
theorem dX7_release_114 : decode cX7_release 114 = .ok (.iaload, 1) := by decide +kernel
theorem dX7_release_115 : decode cX7_release 115 = .ok (.iastore, 1) := by decide +kernel
theorem dX7_release_116 : decode cX7_release 116 = .ok (.return_, 1) := by decide +kernel
set_option maxRecDepth 20000 in
theorem ggX7_comesIn_X7_isCanon : GoodIn wsX7_comesIn wsX7_isCanon := goodIn_r _ [11, 12, 13, 14, 10, 15, 16, 31, 32, 33, 34, 35, 36, 37, 38, 39, 40, 41, 42, 43, 44, 45, 46, 47, 48, 49, 50, 51, 52, 53, 54, 55, 56, 57, 58, 59, 60, 61, 62, 63, 64] (by decide +kernel) (by decide +kernel)
set_option maxRecDepth 20000 in
theorem gX7_comesIn_X7_isCanon : GoodIn wsX7_comesIn (wsV RX7 144 RX7 yX7_isCanon wsX7_isCanon) := goodIn_app (goodIn_of _ (by decide +kernel)) ggX7_comesIn_X7_isCanon
set_option maxRecDepth 20000 in
theorem ggX7_comesIn_X7_release : GoodIn wsX7_comesIn wsX7_release := goodIn_r _ [20, 6, 1, 3, 4, 7, 8, 9, 10, 11, 12, 13, 14, 15, 16, 21, 22, 23, 24, 31, 32, 33, 34, 35, 36, 37, 38, 39, 40, 41, 42, 43, 44, 45, 46, 47, 48, 49, 50, 51, 52, 53, 54, 55, 56, 57, 58, 59, 60, 61, 62, 63, 64] (by decide +kernel) (by decide +kernel)
set_option maxRecDepth 20000 in
theorem gX7_comesIn_X7_release : GoodIn wsX7_comesIn (wsV RX7 150 RX7 yX7_release wsX7_release) := goodIn_app (goodIn_of _ (by decide +kernel)) ggX7_comesIn_X7_release
set_option maxRecDepth 20000 in
theorem ggX7_comesIn_X7_flowUp : GoodIn wsX7_comesIn wsX7_flowUp := goodIn_r _ [28, 29, 1, 30, 12, 13, 14, 10, 15, 16, 31, 32, 33, 34, 35, 36, 37, 38, 39, 40, 41, 42, 43, 44, 45, 46, 47, 48, 49, 50, 51, 52, 53, 54, 55, 56, 57, 58, 59, 60, 61, 62, 63, 64] (by decide +kernel) (by decide +kernel)
set_option maxRecDepth 20000 in
theorem gX7_comesIn_X7_flowUp : GoodIn wsX7_comesIn (wsV RX7 153 RX7 yX7_flowUp wsX7_flowUp) := goodIn_app (goodIn_of _ (by decide +kernel)) ggX7_comesIn_X7_flowUp
theorem dX7_comesIn_0 : decode cX7_comesIn 0 = .ok (.aload_n 0, 1) := by decide +kernel
theorem dX7_comesIn_1 : decode cX7_comesIn 1 = .ok (.iload_n 1, 1) := by decide +kernel
theorem dX7_comesIn_2 : decode cX7_comesIn 2 = .ok (.invokevirtual 144, 3) := by decide +kernel
theorem dX7_comesIn_5 : decode cX7_comesIn 5 = .ok (.ifCond .eq 24, 3) := by decide +kernel
theorem dX7_comesIn_8 : decode cX7_comesIn 8 = .ok (.iload_n 3, 1) := by decide +kernel
theorem dX7_comesIn_9 : decode cX7_comesIn 9 = .ok (.ifCond .ne 20, 3) := by decide +kernel
theorem dX7_comesIn_12 : decode cX7_comesIn 12 = .ok (.iload_n 2, 1) := by decide +kernel
theorem dX7_comesIn_13 : decode cX7_comesIn 13 = .ok (.bipush 10, 2) := by decide +kernel
theorem dX7_comesIn_15 : decode cX7_comesIn 15 = .ok (.if_icmp .eq 10, 3) := by decide +kernel
theorem dX7_comesIn_18 : decode cX7_comesIn 18 = .ok (.iload_n 2, 1) := by decide +kernel
theorem dX7_comesIn_19 : decode cX7_comesIn 19 = .ok (.sipush 256, 3) := by decide +kernel
theorem dX7_comesIn_22 : decode cX7_comesIn 22 = .ok (.if_icmp .ne 7, 3) := by decide +kernel
theorem dX7_comesIn_25 : decode cX7_comesIn 25 = .ok (.iconst 1, 1) := by decide +kernel
theorem dX7_comesIn_26 : decode cX7_comesIn 26 = .ok (.goto 4, 3) := by decide +kernel
theorem dX7_comesIn_29 : decode cX7_comesIn 29 = .ok (.iconst 0, 1) := by decide +kernel
theorem dX7_comesIn_30 : decode cX7_comesIn 30 = .ok (.istore 4, 2) := by decide +kernel
theorem dX7_comesIn_32 : decode cX7_comesIn 32 = .ok (.aload_n 0, 1) := by decide +kernel
theorem dX7_comesIn_33 : decode cX7_comesIn 33 = .ok (.getfield 33, 3) := by decide +kernel
theorem dX7_comesIn_36 : decode cX7_comesIn 36 = .ok (.iload_n 1, 1) := by decide +kernel
theorem dX7_comesIn_37 : decode cX7_comesIn 37 = .ok (.iaload, 1) := by decide +kernel
theorem dX7_comesIn_38 : decode cX7_comesIn 38 = .ok (.bipush 64, 2) := by decide +kernel
theorem dX7_comesIn_40 : decode cX7_comesIn 40 = .ok (.if_icmp .gt 19, 3) := by decide +kernel
theorem dX7_comesIn_43 : decode cX7_comesIn 43 = .ok (.aload_n 0, 1) := by decide +kernel
theorem dX7_comesIn_44 : decode cX7_comesIn 44 = .ok (.getfield 33, 3) := by decide +kernel
theorem dX7_comesIn_47 : decode cX7_comesIn 47 = .ok (.iload_n 1, 1) := by decide +kernel
theorem dX7_comesIn_48 : decode cX7_comesIn 48 = .ok (.iaload, 1) := by decide +kernel
theorem dX7_comesIn_49 : decode cX7_comesIn 49 = .ok (.bipush 64, 2) := by decide +kernel
theorem dX7_comesIn_51 : decode cX7_comesIn 51 = .ok (.if_icmp .ne 24, 3) := by decide +kernel
theorem dX7_comesIn_54 : decode cX7_comesIn 54 = .ok (.iload 4, 2) := by decide +kernel
theorem dX7_comesIn_56 : decode cX7_comesIn 56 = .ok (.ifCond .ne 19, 3) := by decide +kernel
theorem dX7_comesIn_59 : decode cX7_comesIn 59 = .ok (.aload_n 0, 1) := by decide +kernel
theorem dX7_comesIn_60 : decode cX7_comesIn 60 = .ok (.getfield 105, 3) := by decide +kernel
theorem dX7_comesIn_63 : decode cX7_comesIn 63 = .ok (.iconst 5, 1) := by decide +kernel
theorem dX7_comesIn_64 : decode cX7_comesIn 64 = .ok (.iload_n 1, 1) := by decide +kernel
theorem dX7_comesIn_65 : decode cX7_comesIn 65 = .ok (.imul, 1) := by decide +kernel
theorem dX7_comesIn_66 : decode cX7_comesIn 66 = .ok (.iconst 2, 1) := by decide +kernel
theorem dX7_comesIn_67 : decode cX7_comesIn 67 = .ok (.iadd, 1) := by decide +kernel
theorem dX7_comesIn_68 : decode cX7_comesIn 68 = .ok (.dup2, 1) := by decide +kernel
theorem dX7_comesIn_69 : decode cX7_comesIn 69 = .ok (.iaload, 1) := by decide +kernel
theorem dX7_comesIn_70 : decode cX7_comesIn 70 = .ok (.iconst 1, 1) := by decide +kernel
theorem dX7_comesIn_71 : decode cX7_comesIn 71 = .ok (.iadd, 1) := by decide +kernel
theorem dX7_comesIn_72 : decode cX7_comesIn 72 = .ok (.iastore, 1) := by decide +kernel
theorem dX7_comesIn_73 : decode cX7_comesIn 73 = .ok (.iconst 0, 1) := by decide +kernel
theorem dX7_comesIn_74 : decode cX7_comesIn 74 = .ok (.ireturn, 1) := by decide +kernel
theorem dX7_comesIn_75 : decode cX7_comesIn 75 = .ok (.aload_n 0, 1) := by decide +kernel
theorem dX7_comesIn_76 : decode cX7_comesIn 76 = .ok (.getfield 26, 3) := by decide +kernel
theorem dX7_comesIn_79 : decode cX7_comesIn 79 = .ok (.bipush 65, 2) := by decide +kernel
theorem dX7_comesIn_81 : decode cX7_comesIn 81 = .ok (.iload_n 1, 1) := by decide +kernel
theorem dX7_comesIn_82 : decode cX7_comesIn 82 = .ok (.imul, 1) := by decide +kernel
theorem dX7_comesIn_83 : decode cX7_comesIn 83 = .ok (.aload_n 0, 1) := by decide +kernel
theorem dX7_comesIn_84 : decode cX7_comesIn 84 = .ok (.getfield 33, 3) := by decide +kernel
theorem dX7_comesIn_87 : decode cX7_comesIn 87 = .ok (.iload_n 1, 1) := by decide +kernel
theorem dX7_comesIn_88 : decode cX7_comesIn 88 = .ok (.iaload, 1) := by decide +kernel
theorem dX7_comesIn_89 : decode cX7_comesIn 89 = .ok (.iadd, 1) := by decide +kernel
theorem dX7_comesIn_90 : decode cX7_comesIn 90 = .ok (.iload_n 2, 1) := by decide +kernel
theorem dX7_comesIn_91 : decode cX7_comesIn 91 = .ok (.iastore, 1) := by decide +kernel
theorem dX7_comesIn_92 : decode cX7_comesIn 92 = .ok (.aload_n 0, 1) := by decide +kernel
theorem dX7_comesIn_93 : decode cX7_comesIn 93 = .ok (.getfield 29, 3) := by decide +kernel
theorem dX7_comesIn_96 : decode cX7_comesIn 96 = .ok (.bipush 65, 2) := by decide +kernel
theorem dX7_comesIn_98 : decode cX7_comesIn 98 = .ok (.iload_n 1, 1) := by decide +kernel
theorem dX7_comesIn_99 : decode cX7_comesIn 99 = .ok (.imul, 1) := by decide +kernel
theorem dX7_comesIn_100 : decode cX7_comesIn 100 = .ok (.aload_n 0, 1) := by decide +kernel
theorem dX7_comesIn_101 : decode cX7_comesIn 101 = .ok (.getfield 33, 3) := by decide +kernel
theorem dX7_comesIn_104 : decode cX7_comesIn 104 = .ok (.iload_n 1, 1) := by decide +kernel
theorem dX7_comesIn_105 : decode cX7_comesIn 105 = .ok (.iaload, 1) := by decide +kernel
theorem dX7_comesIn_106 : decode cX7_comesIn 106 = .ok (.iadd, 1) := by decide +kernel
theorem dX7_comesIn_107 : decode cX7_comesIn 107 = .ok (.iload_n 3, 1) := by decide +kernel
theorem dX7_comesIn_108 : decode cX7_comesIn 108 = .ok (.bastore, 1) := by decide +kernel
theorem dX7_comesIn_109 : decode cX7_comesIn 109 = .ok (.aload_n 0, 1) := by decide +kernel
theorem dX7_comesIn_110 : decode cX7_comesIn 110 = .ok (.getfield 33, 3) := by decide +kernel
theorem dX7_comesIn_113 : decode cX7_comesIn 113 = .ok (.iload_n 1, 1) := by decide +kernel
theorem dX7_comesIn_114 : decode cX7_comesIn 114 = .ok (.dup2, 1) := by decide +kernel
theorem dX7_comesIn_115 : decode cX7_comesIn 115 = .ok (.iaload, 1) := by decide +kernel
theorem dX7_comesIn_116 : decode cX7_comesIn 116 = .ok (.iconst 1, 1) := by decide +kernel
theorem dX7_comesIn_117 : decode cX7_comesIn 117 = .ok (.iadd, 1) := by decide +kernel
theorem dX7_comesIn_118 : decode cX7_comesIn 118 = .ok (.iastore, 1) := by decide +kernel
theorem dX7_comesIn_119 : decode cX7_comesIn 119 = .ok (.aload_n 0, 1) := by decide +kernel
theorem dX7_comesIn_120 : decode cX7_comesIn 120 = .ok (.getfield 39, 3) := by decide +kernel
theorem dX7_comesIn_123 : decode cX7_comesIn 123 = .ok (.iload_n 1, 1) := by decide +kernel
theorem dX7_comesIn_124 : decode cX7_comesIn 124 = .ok (.iconst 0, 1) := by decide +kernel
theorem dX7_comesIn_125 : decode cX7_comesIn 125 = .ok (.iastore, 1) := by decide +kernel
theorem dX7_comesIn_126 : decode cX7_comesIn 126 = .ok (.aload_n 0, 1) := by decide +kernel
theorem dX7_comesIn_127 : decode cX7_comesIn 127 = .ok (.iload_n 1, 1) := by decide +kernel
theorem dX7_comesIn_128 : decode cX7_comesIn 128 = .ok (.invokevirtual 144, 3) := by decide +kernel
theorem dX7_comesIn_131 : decode cX7_comesIn 131 = .ok (.ifCond .ne 11, 3) := by decide +kernel
theorem dX7_comesIn_134 : decode cX7_comesIn 134 = .ok (.aload_n 0, 1) := by decide +kernel
theorem dX7_comesIn_135 : decode cX7_comesIn 135 = .ok (.iload_n 1, 1) := by decide +kernel
theorem dX7_comesIn_136 : decode cX7_comesIn 136 = .ok (.invokevirtual 150, 3) := by decide +kernel
theorem dX7_comesIn_139 : decode cX7_comesIn 139 = .ok (.goto 20, 3) := by decide +kernel
theorem dX7_comesIn_142 : decode cX7_comesIn 142 = .ok (.iload 4, 2) := by decide +kernel
theorem dX7_comesIn_144 : decode cX7_comesIn 144 = .ok (.ifCond .eq 15, 3) := by decide +kernel
theorem dX7_comesIn_147 : decode cX7_comesIn 147 = .ok (.aload_n 0, 1) := by decide +kernel
theorem dX7_comesIn_148 : decode cX7_comesIn 148 = .ok (.getfield 36, 3) := by decide +kernel
theorem dX7_comesIn_151 : decode cX7_comesIn 151 = .ok (.iload_n 1, 1) := by decide +kernel
theorem dX7_comesIn_152 : decode cX7_comesIn 152 = .ok (.aload_n 0, 1) := by decide +kernel
theorem dX7_comesIn_153 : decode cX7_comesIn 153 = .ok (.getfield 33, 3) := by decide +kernel
theorem dX7_comesIn_156 : decode cX7_comesIn 156 = .ok (.iload_n 1, 1) := by decide +kernel
theorem dX7_comesIn_157 : decode cX7_comesIn 157 = .ok (.iaload, 1) := by decide +kernel
theorem dX7_comesIn_158 : decode cX7_comesIn 158 = .ok (.iastore, 1) := by decide +kernel
theorem dX7_comesIn_159 : decode cX7_comesIn 159 = .ok (.aload_n 0, 1) := by decide +kernel
theorem dX7_comesIn_160 : decode cX7_comesIn 160 = .ok (.iload_n 1, 1) := by decide +kernel
theorem dX7_comesIn_161 : decode cX7_comesIn 161 = .ok (.invokevirtual 153, 3) := by decide +kernel
theorem dX7_comesIn_164 : decode cX7_comesIn 164 = .ok (.iconst 1, 1) := by decide +kernel
theorem dX7_comesIn_165 : decode cX7_comesIn 165 = .ok (.ireturn, 1) := by decide +kernel
set_option maxRecDepth 20000 in
theorem ggX7_emptyStore_X7_flowDown : GoodIn wsX7_emptyStore wsX7_flowDown := goodIn_r _ [7, 8, 1, 9, 10, 11, 12, 13, 14, 15, 16, 17, 18, 19, 20, 21, 22, 23, 24, 25, 26, 27, 28, 29, 30, 31, 32, 33, 34, 35, 36, 37, 38, 39, 40, 41, 42, 43] (by decide +kernel) (by decide +kernel)
set_option maxRecDepth 20000 in
theorem gX7_emptyStore_X7_flowDown : GoodIn wsX7_emptyStore (wsV RX7 156 RX7 yX7_flowDown wsX7_flowDown) := goodIn_app (goodIn_of _ (by decide +kernel)) ggX7_emptyStore_X7_flowDown
theorem dX7_emptyStore_0 : decode cX7_emptyStore 0 = .ok (.aload_n 0, 1) := by decide +kernel
theorem dX7_emptyStore_1 : decode cX7_emptyStore 1 = .ok (.getfield 33, 3) := by decide +kernel
theorem dX7_emptyStore_4 : decode cX7_emptyStore 4 = .ok (.iload_n 1, 1) := by decide +kernel
theorem dX7_emptyStore_5 : decode cX7_emptyStore 5 = .ok (.iconst 0, 1) := by decide +kernel
theorem dX7_emptyStore_6 : decode cX7_emptyStore 6 = .ok (.iastore, 1) := by decide +kernel
theorem dX7_emptyStore_7 : decode cX7_emptyStore 7 = .ok (.aload_n 0, 1) := by decide +kernel
theorem dX7_emptyStore_8 : decode cX7_emptyStore 8 = .ok (.getfield 36, 3) := by decide +kernel
theorem dX7_emptyStore_11 : decode cX7_emptyStore 11 = .ok (.iload_n 1, 1) := by decide +kernel
theorem dX7_emptyStore_12 : decode cX7_emptyStore 12 = .ok (.iconst 0, 1) := by decide +kernel
theorem dX7_emptyStore_13 : decode cX7_emptyStore 13 = .ok (.iastore, 1) := by decide +kernel
theorem dX7_emptyStore_14 : decode cX7_emptyStore 14 = .ok (.aload_n 0, 1) := by decide +kernel
theorem dX7_emptyStore_15 : decode cX7_emptyStore 15 = .ok (.iload_n 1, 1) := by decide +kernel
theorem dX7_emptyStore_16 : decode cX7_emptyStore 16 = .ok (.invokevirtual 156, 3) := by decide +kernel
theorem dX7_emptyStore_19 : decode cX7_emptyStore 19 = .ok (.return_, 1) := by decide +kernel
theorem dX7_emptyOut_0 : decode cX7_emptyOut 0 = .ok (.aload_n 0, 1) := by decide +kernel
theorem dX7_emptyOut_1 : decode cX7_emptyOut 1 = .ok (.getfield 45, 3) := by decide +kernel
theorem dX7_emptyOut_4 : decode cX7_emptyOut 4 = .ok (.iload_n 1, 1) := by decide +kernel
theorem dX7_emptyOut_5 : decode cX7_emptyOut 5 = .ok (.iconst 0, 1) := by decide +kernel
theorem dX7_emptyOut_6 : decode cX7_emptyOut 6 = .ok (.iastore, 1) := by decide +kernel
theorem dX7_emptyOut_7 : decode cX7_emptyOut 7 = .ok (.iconst 0, 1) := by decide +kernel
theorem dX7_emptyOut_8 : decode cX7_emptyOut 8 = .ok (.istore_n 2, 1) := by decide +kernel
theorem dX7_emptyOut_9 : decode cX7_emptyOut 9 = .ok (.iload_n 2, 1) := by decide +kernel
theorem dX7_emptyOut_10 : decode cX7_emptyOut 10 = .ok (.aload_n 0, 1) := by decide +kernel
theorem dX7_emptyOut_11 : decode cX7_emptyOut 11 = .ok (.getfield 81, 3) := by decide +kernel
theorem dX7_emptyOut_14 : decode cX7_emptyOut 14 = .ok (.iload_n 1, 1) := by decide +kernel
theorem dX7_emptyOut_15 : decode cX7_emptyOut 15 = .ok (.iaload, 1) := by decide +kernel
theorem dX7_emptyOut_16 : decode cX7_emptyOut 16 = .ok (.if_icmp .ge 44, 3) := by decide +kernel
theorem dX7_emptyOut_19 : decode cX7_emptyOut 19 = .ok (.aload_n 0, 1) := by decide +kernel
theorem dX7_emptyOut_20 : decode cX7_emptyOut 20 = .ok (.getfield 93, 3) := by decide +kernel
theorem dX7_emptyOut_23 : decode cX7_emptyOut 23 = .ok (.iconst 3, 1) := by decide +kernel
theorem dX7_emptyOut_24 : decode cX7_emptyOut 24 = .ok (.iload_n 1, 1) := by decide +kernel
theorem dX7_emptyOut_25 : decode cX7_emptyOut 25 = .ok (.imul, 1) := by decide +kernel
theorem dX7_emptyOut_26 : decode cX7_emptyOut 26 = .ok (.iload_n 2, 1) := by decide +kernel
theorem dX7_emptyOut_27 : decode cX7_emptyOut 27 = .ok (.iadd, 1) := by decide +kernel
theorem dX7_emptyOut_28 : decode cX7_emptyOut 28 = .ok (.iaload, 1) := by decide +kernel
theorem dX7_emptyOut_29 : decode cX7_emptyOut 29 = .ok (.aload_n 0, 1) := by decide +kernel
theorem dX7_emptyOut_30 : decode cX7_emptyOut 30 = .ok (.getfield 51, 3) := by decide +kernel
theorem dX7_emptyOut_33 : decode cX7_emptyOut 33 = .ok (.iload_n 1, 1) := by decide +kernel
theorem dX7_emptyOut_34 : decode cX7_emptyOut 34 = .ok (.iaload, 1) := by decide +kernel
theorem dX7_emptyOut_35 : decode cX7_emptyOut 35 = .ok (.if_icmp .le 19, 3) := by decide +kernel
theorem dX7_emptyOut_38 : decode cX7_emptyOut 38 = .ok (.aload_n 0, 1) := by decide +kernel
theorem dX7_emptyOut_39 : decode cX7_emptyOut 39 = .ok (.getfield 93, 3) := by decide +kernel
theorem dX7_emptyOut_42 : decode cX7_emptyOut 42 = .ok (.iconst 3, 1) := by decide +kernel
theorem dX7_emptyOut_43 : decode cX7_emptyOut 43 = .ok (.iload_n 1, 1) := by decide +kernel
theorem dX7_emptyOut_44 : decode cX7_emptyOut 44 = .ok (.imul, 1) := by decide +kernel
theorem dX7_emptyOut_45 : decode cX7_emptyOut 45 = .ok (.iload_n 2, 1) := by decide +kernel
theorem dX7_emptyOut_46 : decode cX7_emptyOut 46 = .ok (.iadd, 1) := by decide +kernel
theorem dX7_emptyOut_47 : decode cX7_emptyOut 47 = .ok (.aload_n 0, 1) := by decide +kernel
theorem dX7_emptyOut_48 : decode cX7_emptyOut 48 = .ok (.getfield 51, 3) := by decide +kernel
theorem dX7_emptyOut_51 : decode cX7_emptyOut 51 = .ok (.iload_n 1, 1) := by decide +kernel
theorem dX7_emptyOut_52 : decode cX7_emptyOut 52 = .ok (.iaload, 1) := by decide +kernel
theorem dX7_emptyOut_53 : decode cX7_emptyOut 53 = .ok (.iastore, 1) := by decide +kernel
theorem dX7_emptyOut_54 : decode cX7_emptyOut 54 = .ok (.iinc 2 1, 3) := by decide +kernel
theorem dX7_emptyOut_57 : decode cX7_emptyOut 57 = .ok (.goto (-48), 3) := by decide +kernel
theorem dX7_emptyOut_60 : decode cX7_emptyOut 60 = .ok (.return_, 1) := by decide +kernel
set_option maxRecDepth 20000 in
theorem ggX7_erase_X7_isPlain : GoodIn wsX7_erase wsX7_isPlain := goodIn_r _ [6] (by decide +kernel) (by decide +kernel)
set_option maxRecDepth 20000 in
theorem gX7_erase_X7_isPlain : GoodIn wsX7_erase (va_wsS RX7 122 yX7_isPlain wsX7_isPlain) := goodIn_app (goodIn_of _ (by decide +kernel)) ggX7_erase_X7_isPlain
set_option maxRecDepth 20000 in
theorem ggX7_erase_X7_add : GoodIn wsX7_erase wsX7_add := goodIn_r _ [10, 11, 12, 34, 35, 36, 37, 38, 39, 40, 41, 42, 43, 44, 45, 46, 47, 48, 49, 50, 51, 52, 53, 54, 55, 56, 57, 58, 59, 60, 61, 62, 63, 64, 65, 66, 67] (by decide +kernel) (by decide +kernel)
set_option maxRecDepth 20000 in
theorem gX7_erase_X7_add : GoodIn wsX7_erase (wsV RX7 126 RX7 yX7_add wsX7_add) := goodIn_app (goodIn_of _ (by decide +kernel)) ggX7_erase_X7_add
set_option maxRecDepth 20000 in
theorem ggX7_erase_X7_echo : GoodIn wsX7_erase wsX7_echo := goodIn_r _ [16, 17, 12, 11, 18, 19, 20, 21, 5, 22, 23, 24, 25, 26, 27, 28, 29, 30, 31, 32, 33, 34, 35, 36, 37, 38, 39, 40, 41, 42, 43, 44, 45, 46, 47, 48, 49, 50, 51, 52, 53, 54, 55, 56, 57, 58, 59, 60, 61, 62, 63, 64, 65, 66, 67] (by decide +kernel) (by decide +kernel)
set_option maxRecDepth 20000 in
theorem gX7_erase_X7_echo : GoodIn wsX7_erase (wsV RX7 141 RX7 yX7_echo wsX7_echo) := goodIn_app (goodIn_of _ (by decide +kernel)) ggX7_erase_X7_echo
theorem dX7_erase_0 : decode cX7_erase 0 = .ok (.aload_n 0, 1) := by decide +kernel
theorem dX7_erase_1 : decode cX7_erase 1 = .ok (.getfield 33, 3) := by decide +kernel
theorem dX7_erase_4 : decode cX7_erase 4 = .ok (.iload_n 1, 1) := by decide +kernel
theorem dX7_erase_5 : decode cX7_erase 5 = .ok (.dup2, 1) := by decide +kernel
theorem dX7_erase_6 : decode cX7_erase 6 = .ok (.iaload, 1) := by decide +kernel
theorem dX7_erase_7 : decode cX7_erase 7 = .ok (.iconst 1, 1) := by decide +kernel
theorem dX7_erase_8 : decode cX7_erase 8 = .ok (.isub, 1) := by decide +kernel
theorem dX7_erase_9 : decode cX7_erase 9 = .ok (.iastore, 1) := by decide +kernel
theorem dX7_erase_10 : decode cX7_erase 10 = .ok (.aload_n 0, 1) := by decide +kernel
theorem dX7_erase_11 : decode cX7_erase 11 = .ok (.getfield 26, 3) := by decide +kernel
theorem dX7_erase_14 : decode cX7_erase 14 = .ok (.bipush 65, 2) := by decide +kernel
theorem dX7_erase_16 : decode cX7_erase 16 = .ok (.iload_n 1, 1) := by decide +kernel
theorem dX7_erase_17 : decode cX7_erase 17 = .ok (.imul, 1) := by decide +kernel
theorem dX7_erase_18 : decode cX7_erase 18 = .ok (.aload_n 0, 1) := by decide +kernel
theorem dX7_erase_19 : decode cX7_erase 19 = .ok (.getfield 33, 3) := by decide +kernel
theorem dX7_erase_22 : decode cX7_erase 22 = .ok (.iload_n 1, 1) := by decide +kernel
theorem dX7_erase_23 : decode cX7_erase 23 = .ok (.iaload, 1) := by decide +kernel
theorem dX7_erase_24 : decode cX7_erase 24 = .ok (.iadd, 1) := by decide +kernel
theorem dX7_erase_25 : decode cX7_erase 25 = .ok (.iaload, 1) := by decide +kernel
theorem dX7_erase_26 : decode cX7_erase 26 = .ok (.istore_n 2, 1) := by decide +kernel
theorem dX7_erase_27 : decode cX7_erase 27 = .ok (.iconst 2, 1) := by decide +kernel
theorem dX7_erase_28 : decode cX7_erase 28 = .ok (.istore_n 3, 1) := by decide +kernel
theorem dX7_erase_29 : decode cX7_erase 29 = .ok (.iload_n 2, 1) := by decide +kernel
theorem dX7_erase_30 : decode cX7_erase 30 = .ok (.invokestatic 122, 3) := by decide +kernel
theorem dX7_erase_33 : decode cX7_erase 33 = .ok (.ifCond .eq 5, 3) := by decide +kernel
theorem dX7_erase_36 : decode cX7_erase 36 = .ok (.iconst 1, 1) := by decide +kernel
theorem dX7_erase_37 : decode cX7_erase 37 = .ok (.istore_n 3, 1) := by decide +kernel
theorem dX7_erase_38 : decode cX7_erase 38 = .ok (.iconst 0, 1) := by decide +kernel
theorem dX7_erase_39 : decode cX7_erase 39 = .ok (.istore 4, 2) := by decide +kernel
theorem dX7_erase_41 : decode cX7_erase 41 = .ok (.iload 4, 2) := by decide +kernel
theorem dX7_erase_43 : decode cX7_erase 43 = .ok (.iload_n 3, 1) := by decide +kernel
theorem dX7_erase_44 : decode cX7_erase 44 = .ok (.if_icmp .ge 27, 3) := by decide +kernel
theorem dX7_erase_47 : decode cX7_erase 47 = .ok (.aload_n 0, 1) := by decide +kernel
theorem dX7_erase_48 : decode cX7_erase 48 = .ok (.bipush 8, 2) := by decide +kernel
theorem dX7_erase_50 : decode cX7_erase 50 = .ok (.invokevirtual 126, 3) := by decide +kernel
theorem dX7_erase_53 : decode cX7_erase 53 = .ok (.aload_n 0, 1) := by decide +kernel
theorem dX7_erase_54 : decode cX7_erase 54 = .ok (.bipush 32, 2) := by decide +kernel
theorem dX7_erase_56 : decode cX7_erase 56 = .ok (.invokevirtual 126, 3) := by decide +kernel
theorem dX7_erase_59 : decode cX7_erase 59 = .ok (.aload_n 0, 1) := by decide +kernel
theorem dX7_erase_60 : decode cX7_erase 60 = .ok (.bipush 8, 2) := by decide +kernel
theorem dX7_erase_62 : decode cX7_erase 62 = .ok (.invokevirtual 126, 3) := by decide +kernel
theorem dX7_erase_65 : decode cX7_erase 65 = .ok (.iinc 4 1, 3) := by decide +kernel
theorem dX7_erase_68 : decode cX7_erase 68 = .ok (.goto (-27), 3) := by decide +kernel
theorem dX7_erase_71 : decode cX7_erase 71 = .ok (.aload_n 0, 1) := by decide +kernel
theorem dX7_erase_72 : decode cX7_erase 72 = .ok (.iload_n 1, 1) := by decide +kernel
theorem dX7_erase_73 : decode cX7_erase 73 = .ok (.invokevirtual 141, 3) := by decide +kernel
theorem dX7_erase_76 : decode cX7_erase 76 = .ok (.return_, 1) := by decide +kernel
theorem dX7_openLine_0 : decode cX7_openLine 0 = .ok (.aload_n 0, 1) := by decide +kernel
theorem dX7_openLine_1 : decode cX7_openLine 1 = .ok (.getfield 33, 3) := by decide +kernel
theorem dX7_openLine_4 : decode cX7_openLine 4 = .ok (.iload_n 1, 1) := by decide +kernel
theorem dX7_openLine_5 : decode cX7_openLine 5 = .ok (.iaload, 1) := by decide +kernel
theorem dX7_openLine_6 : decode cX7_openLine 6 = .ok (.aload_n 0, 1) := by decide +kernel
theorem dX7_openLine_7 : decode cX7_openLine 7 = .ok (.getfield 36, 3) := by decide +kernel
theorem dX7_openLine_10 : decode cX7_openLine 10 = .ok (.iload_n 1, 1) := by decide +kernel
theorem dX7_openLine_11 : decode cX7_openLine 11 = .ok (.iaload, 1) := by decide +kernel
theorem dX7_openLine_12 : decode cX7_openLine 12 = .ok (.if_icmp .le 7, 3) := by decide +kernel
theorem dX7_openLine_15 : decode cX7_openLine 15 = .ok (.iconst 1, 1) := by decide +kernel
theorem dX7_openLine_16 : decode cX7_openLine 16 = .ok (.goto 4, 3) := by decide +kernel
theorem dX7_openLine_19 : decode cX7_openLine 19 = .ok (.iconst 0, 1) := by decide +kernel
theorem dX7_openLine_20 : decode cX7_openLine 20 = .ok (.ireturn, 1) := by decide +kernel
theorem dX7_lastEntry_0 : decode cX7_lastEntry 0 = .ok (.aload_n 0, 1) := by decide +kernel
theorem dX7_lastEntry_1 : decode cX7_lastEntry 1 = .ok (.getfield 26, 3) := by decide +kernel
theorem dX7_lastEntry_4 : decode cX7_lastEntry 4 = .ok (.bipush 65, 2) := by decide +kernel
theorem dX7_lastEntry_6 : decode cX7_lastEntry 6 = .ok (.iload_n 1, 1) := by decide +kernel
theorem dX7_lastEntry_7 : decode cX7_lastEntry 7 = .ok (.imul, 1) := by decide +kernel
theorem dX7_lastEntry_8 : decode cX7_lastEntry 8 = .ok (.aload_n 0, 1) := by decide +kernel
theorem dX7_lastEntry_9 : decode cX7_lastEntry 9 = .ok (.getfield 33, 3) := by decide +kernel
theorem dX7_lastEntry_12 : decode cX7_lastEntry 12 = .ok (.iload_n 1, 1) := by decide +kernel
theorem dX7_lastEntry_13 : decode cX7_lastEntry 13 = .ok (.iaload, 1) := by decide +kernel
theorem dX7_lastEntry_14 : decode cX7_lastEntry 14 = .ok (.iadd, 1) := by decide +kernel
theorem dX7_lastEntry_15 : decode cX7_lastEntry 15 = .ok (.iconst 1, 1) := by decide +kernel
theorem dX7_lastEntry_16 : decode cX7_lastEntry 16 = .ok (.isub, 1) := by decide +kernel
theorem dX7_lastEntry_17 : decode cX7_lastEntry 17 = .ok (.iaload, 1) := by decide +kernel
theorem dX7_lastEntry_18 : decode cX7_lastEntry 18 = .ok (.ireturn, 1) := by decide +kernel
set_option maxRecDepth 20000 in
theorem ggX7_lastBlank_X7_openLine : GoodIn wsX7_lastBlank wsX7_openLine := goodIn_r _ [5, 6, 7, 13, 14, 15, 16, 17, 18, 19, 20, 21, 22, 23, 24, 25, 26, 27, 28, 29, 30, 31, 32, 33, 34, 35, 36, 37, 38, 39, 40, 41, 42, 43, 44, 45, 46] (by decide +kernel) (by decide +kernel)
set_option maxRecDepth 20000 in
theorem gX7_lastBlank_X7_openLine : GoodIn wsX7_lastBlank (wsV RX7 159 RX7 yX7_openLine wsX7_openLine) := goodIn_app (goodIn_of _ (by decide +kernel)) ggX7_lastBlank_X7_openLine
set_option maxRecDepth 20000 in
theorem ggX7_lastBlank_X7_lastEntry : GoodIn wsX7_lastBlank wsX7_lastEntry := goodIn_r _ [11, 12, 6, 13, 14, 15, 16, 17, 18, 19, 20, 21, 22, 23, 24, 25, 26, 27, 28, 29, 30, 31, 32, 33, 34, 35, 36, 37, 38, 39, 40, 41, 42, 43, 44, 45, 46] (by decide +kernel) (by decide +kernel)
set_option maxRecDepth 20000 in
theorem gX7_lastBlank_X7_lastEntry : GoodIn wsX7_lastBlank (wsV RX7 162 RX7 yX7_lastEntry wsX7_lastEntry) := goodIn_app (goodIn_of _ (by decide +kernel)) ggX7_lastBlank_X7_lastEntry
theorem dX7_lastBlank_0 : decode cX7_lastBlank 0 = .ok (.aload_n 0, 1) := by decide +kernel
theorem dX7_lastBlank_1 : decode cX7_lastBlank 1 = .ok (.iload_n 1, 1) := by decide +kernel
theorem dX7_lastBlank_2 : decode cX7_lastBlank 2 = .ok (.invokevirtual 159, 3) := by decide +kernel
theorem dX7_lastBlank_5 : decode cX7_lastBlank 5 = .ok (.ifCond .eq 27, 3) := by decide +kernel
theorem dX7_lastBlank_8 : decode cX7_lastBlank 8 = .ok (.aload_n 0, 1) := by decide +kernel
theorem dX7_lastBlank_9 : decode cX7_lastBlank 9 = .ok (.iload_n 1, 1) := by decide +kernel
theorem dX7_lastBlank_10 : decode cX7_lastBlank 10 = .ok (.invokevirtual 162, 3) := by decide +kernel
theorem dX7_lastBlank_13 : decode cX7_lastBlank 13 = .ok (.bipush 32, 2) := by decide +kernel
theorem dX7_lastBlank_15 : decode cX7_lastBlank 15 = .ok (.if_icmp .eq 13, 3) := by decide +kernel
theorem dX7_lastBlank_18 : decode cX7_lastBlank 18 = .ok (.aload_n 0, 1) := by decide +kernel
theorem dX7_lastBlank_19 : decode cX7_lastBlank 19 = .ok (.iload_n 1, 1) := by decide +kernel
theorem dX7_lastBlank_20 : decode cX7_lastBlank 20 = .ok (.invokevirtual 162, 3) := by decide +kernel
theorem dX7_lastBlank_23 : decode cX7_lastBlank 23 = .ok (.bipush 9, 2) := by decide +kernel
theorem dX7_lastBlank_25 : decode cX7_lastBlank 25 = .ok (.if_icmp .ne 7, 3) := by decide +kernel
theorem dX7_lastBlank_28 : decode cX7_lastBlank 28 = .ok (.iconst 1, 1) := by decide +kernel
theorem dX7_lastBlank_29 : decode cX7_lastBlank 29 = .ok (.goto 4, 3) := by decide +kernel
theorem dX7_lastBlank_32 : decode cX7_lastBlank 32 = .ok (.iconst 0, 1) := by decide +kernel
theorem dX7_lastBlank_33 : decode cX7_lastBlank 33 = .ok (.ireturn, 1) := by decide +kernel
set_option maxRecDepth 20000 in
theorem ggX7_editing_X7_mode1 : GoodIn wsX7_editing wsX7_mode1 := goodIn_r _ [5, 6, 61, 62, 63, 64, 65, 66, 67, 68, 69, 70, 71, 72, 73, 74, 75, 76, 77, 78, 79, 80, 81, 82, 83, 84, 85, 86, 87, 88, 89, 90, 91, 92, 93, 94] (by decide +kernel) (by decide +kernel)
set_option maxRecDepth 20000 in
theorem gX7_editing_X7_mode1 : GoodIn wsX7_editing (wsV RX7 147 RX7 yX7_mode1 wsX7_mode1) := goodIn_app (goodIn_of _ (by decide +kernel)) ggX7_editing_X7_mode1
set_option maxRecDepth 20000 in
theorem ggX7_editing_X7_openLine : GoodIn wsX7_editing wsX7_openLine := goodIn_r _ [10, 11, 12, 61, 62, 63, 64, 65, 66, 67, 68, 69, 70, 71, 72, 73, 74, 75, 76, 77, 78, 79, 80, 81, 82, 83, 84, 85, 86, 87, 88, 89, 90, 91, 92, 93, 94] (by decide +kernel) (by decide +kernel)
set_option maxRecDepth 20000 in
theorem gX7_editing_X7_openLine : GoodIn wsX7_editing (wsV RX7 159 RX7 yX7_openLine wsX7_openLine) := goodIn_app (goodIn_of _ (by decide +kernel)) ggX7_editing_X7_openLine
set_option maxRecDepth 20000 in
theorem ggX7_editing_X7_erase : GoodIn wsX7_editing wsX7_erase := goodIn_r _ [16, 11, 17, 18, 19, 4, 20, 21, 22, 23, 24, 25, 26, 27, 28, 29, 30, 31, 32, 33, 34, 35, 36, 6, 37, 38, 39, 40, 41, 42, 43, 44, 45, 46, 61, 62, 63, 64, 65, 66, 67, 68, 69, 70, 71, 72, 73, 74, 75, 76, 77, 78, 79, 80, 81, 82, 83, 84, 85, 86, 87, 88, 89, 90, 91, 92, 93, 94] (by decide +kernel) (by decide +kernel)
set_option maxRecDepth 20000 in
theorem gX7_editing_X7_erase : GoodIn wsX7_editing (wsV RX7 165 RX7 yX7_erase wsX7_erase) := goodIn_app (goodIn_of _ (by decide +kernel)) ggX7_editing_X7_erase
set_option maxRecDepth 20000 in
theorem ggX7_editing_X7_lastBlank : GoodIn wsX7_editing wsX7_lastBlank := goodIn_r _ [50, 7, 8, 9, 4, 10, 11, 12, 51, 52, 53, 54, 17, 61, 62, 63, 64, 65, 66, 67, 68, 69, 70, 71, 72, 73, 74, 75, 76, 77, 78, 79, 80, 81, 82, 83, 84, 85, 86, 87, 88, 89, 90, 91, 92, 93, 94] (by decide +kernel) (by decide +kernel)
set_option maxRecDepth 20000 in
theorem gX7_editing_X7_lastBlank : GoodIn wsX7_editing (wsV RX7 168 RX7 yX7_lastBlank wsX7_lastBlank) := goodIn_app (goodIn_of _ (by decide +kernel)) ggX7_editing_X7_lastBlank
set_option maxRecDepth 20000 in
theorem ggX7_editing_X7_flowDown : GoodIn wsX7_editing wsX7_flowDown := goodIn_r _ [58, 59, 11, 60, 61, 62, 63, 64, 65, 66, 67, 68, 69, 70, 71, 72, 73, 74, 75, 76, 77, 78, 79, 80, 81, 82, 83, 84, 85, 86, 87, 88, 89, 90, 91, 92, 93, 94] (by decide +kernel) (by decide +kernel)
set_option maxRecDepth 20000 in
theorem gX7_editing_X7_flowDown : GoodIn wsX7_editing (wsV RX7 156 RX7 yX7_flowDown wsX7_flowDown) := goodIn_app (goodIn_of _ (by decide +kernel)) ggX7_editing_X7_flowDown
theorem dX7_editing_0 : decode cX7_editing 0 = .ok (.iload_n 2, 1) := by decide +kernel
theorem dX7_editing_1 : decode cX7_editing 1 = .ok (.aload_n 0, 1) := by decide +kernel
theorem dX7_editing_2 : decode cX7_editing 2 = .ok (.iload_n 1, 1) := by decide +kernel
theorem dX7_editing_3 : decode cX7_editing 3 = .ok (.bipush 14, 2) := by decide +kernel
theorem dX7_editing_5 : decode cX7_editing 5 = .ok (.invokevirtual 147, 3) := by decide +kernel
theorem dX7_editing_8 : decode cX7_editing 8 = .ok (.if_icmp .ne 19, 3) := by decide +kernel
theorem dX7_editing_11 : decode cX7_editing 11 = .ok (.aload_n 0, 1) := by decide +kernel
theorem dX7_editing_12 : decode cX7_editing 12 = .ok (.iload_n 1, 1) := by decide +kernel
theorem dX7_editing_13 : decode cX7_editing 13 = .ok (.invokevirtual 159, 3) := by decide +kernel
theorem dX7_editing_16 : decode cX7_editing 16 = .ok (.ifCond .eq 78, 3) := by decide +kernel
theorem dX7_editing_19 : decode cX7_editing 19 = .ok (.aload_n 0, 1) := by decide +kernel
theorem dX7_editing_20 : decode cX7_editing 20 = .ok (.iload_n 1, 1) := by decide +kernel
theorem dX7_editing_21 : decode cX7_editing 21 = .ok (.invokevirtual 165, 3) := by decide +kernel
theorem dX7_editing_24 : decode cX7_editing 24 = .ok (.goto 70, 3) := by decide +kernel
theorem dX7_editing_27 : decode cX7_editing 27 = .ok (.iload_n 2, 1) := by decide +kernel
theorem dX7_editing_28 : decode cX7_editing 28 = .ok (.aload_n 0, 1) := by decide +kernel
theorem dX7_editing_29 : decode cX7_editing 29 = .ok (.iload_n 1, 1) := by decide +kernel
theorem dX7_editing_30 : decode cX7_editing 30 = .ok (.bipush 15, 2) := by decide +kernel
theorem dX7_editing_32 : decode cX7_editing 32 = .ok (.invokevirtual 147, 3) := by decide +kernel
theorem dX7_editing_35 : decode cX7_editing 35 = .ok (.if_icmp .ne 43, 3) := by decide +kernel
theorem dX7_editing_38 : decode cX7_editing 38 = .ok (.aload_n 0, 1) := by decide +kernel
theorem dX7_editing_39 : decode cX7_editing 39 = .ok (.iload_n 1, 1) := by decide +kernel
theorem dX7_editing_40 : decode cX7_editing 40 = .ok (.invokevirtual 168, 3) := by decide +kernel
theorem dX7_editing_43 : decode cX7_editing 43 = .ok (.ifCond .eq 11, 3) := by decide +kernel
theorem dX7_editing_46 : decode cX7_editing 46 = .ok (.aload_n 0, 1) := by decide +kernel
theorem dX7_editing_47 : decode cX7_editing 47 = .ok (.iload_n 1, 1) := by decide +kernel
theorem dX7_editing_48 : decode cX7_editing 48 = .ok (.invokevirtual 165, 3) := by decide +kernel
theorem dX7_editing_51 : decode cX7_editing 51 = .ok (.goto (-13), 3) := by decide +kernel
theorem dX7_editing_54 : decode cX7_editing 54 = .ok (.aload_n 0, 1) := by decide +kernel
theorem dX7_editing_55 : decode cX7_editing 55 = .ok (.iload_n 1, 1) := by decide +kernel
theorem dX7_editing_56 : decode cX7_editing 56 = .ok (.invokevirtual 159, 3) := by decide +kernel
theorem dX7_editing_59 : decode cX7_editing 59 = .ok (.ifCond .eq 35, 3) := by decide +kernel
theorem dX7_editing_62 : decode cX7_editing 62 = .ok (.aload_n 0, 1) := by decide +kernel
theorem dX7_editing_63 : decode cX7_editing 63 = .ok (.iload_n 1, 1) := by decide +kernel
theorem dX7_editing_64 : decode cX7_editing 64 = .ok (.invokevirtual 168, 3) := by decide +kernel
theorem dX7_editing_67 : decode cX7_editing 67 = .ok (.ifCond .ne 27, 3) := by decide +kernel
theorem dX7_editing_70 : decode cX7_editing 70 = .ok (.aload_n 0, 1) := by decide +kernel
theorem dX7_editing_71 : decode cX7_editing 71 = .ok (.iload_n 1, 1) := by decide +kernel
theorem dX7_editing_72 : decode cX7_editing 72 = .ok (.invokevirtual 165, 3) := by decide +kernel
theorem dX7_editing_75 : decode cX7_editing 75 = .ok (.goto (-21), 3) := by decide +kernel
theorem dX7_editing_78 : decode cX7_editing 78 = .ok (.aload_n 0, 1) := by decide +kernel
theorem dX7_editing_79 : decode cX7_editing 79 = .ok (.iload_n 1, 1) := by decide +kernel
theorem dX7_editing_80 : decode cX7_editing 80 = .ok (.invokevirtual 159, 3) := by decide +kernel
theorem dX7_editing_83 : decode cX7_editing 83 = .ok (.ifCond .eq 11, 3) := by decide +kernel
theorem dX7_editing_86 : decode cX7_editing 86 = .ok (.aload_n 0, 1) := by decide +kernel
theorem dX7_editing_87 : decode cX7_editing 87 = .ok (.iload_n 1, 1) := by decide +kernel
theorem dX7_editing_88 : decode cX7_editing 88 = .ok (.invokevirtual 165, 3) := by decide +kernel
theorem dX7_editing_91 : decode cX7_editing 91 = .ok (.goto (-13), 3) := by decide +kernel
theorem dX7_editing_94 : decode cX7_editing 94 = .ok (.aload_n 0, 1) := by decide +kernel
theorem dX7_editing_95 : decode cX7_editing 95 = .ok (.iload_n 1, 1) := by decide +kernel
theorem dX7_editing_96 : decode cX7_editing 96 = .ok (.invokevirtual 156, 3) := by decide +kernel
theorem dX7_editing_99 : decode cX7_editing 99 = .ok (.return_, 1) := by decide +kernel
set_option maxRecDepth 20000 in
theorem ggX7_reprint_X7_addForm : GoodIn wsX7_reprint wsX7_addForm := goodIn_r _ [8, 9, 10, 7, 11, 12, 13, 14, 15, 16, 17, 39, 40, 41, 42, 43, 44, 45, 46, 47, 48, 49, 50, 51, 52, 53, 54, 55, 56, 57, 58, 59, 60, 61, 62, 63, 64, 65, 66, 67, 68, 69, 70, 71, 72] (by decide +kernel) (by decide +kernel)
set_option maxRecDepth 20000 in
theorem gX7_reprint_X7_addForm : GoodIn wsX7_reprint (wsV RX7 138 RX7 yX7_addForm wsX7_addForm) := goodIn_app (goodIn_of _ (by decide +kernel)) ggX7_reprint_X7_addForm
set_option maxRecDepth 20000 in
theorem ggX7_reprint_X7_add : GoodIn wsX7_reprint wsX7_add := goodIn_r _ [15, 16, 17, 39, 40, 41, 42, 43, 44, 45, 46, 47, 48, 49, 50, 51, 52, 53, 54, 55, 56, 57, 58, 59, 60, 61, 62, 63, 64, 65, 66, 67, 68, 69, 70, 71, 72] (by decide +kernel) (by decide +kernel)
set_option maxRecDepth 20000 in
theorem gX7_reprint_X7_add : GoodIn wsX7_reprint (wsV RX7 126 RX7 yX7_add wsX7_add) := goodIn_app (goodIn_of _ (by decide +kernel)) ggX7_reprint_X7_add
set_option maxRecDepth 20000 in
theorem ggX7_reprint_X7_echo : GoodIn wsX7_reprint wsX7_echo := goodIn_r _ [21, 22, 17, 16, 23, 24, 25, 26, 7, 27, 28, 29, 30, 31, 32, 33, 34, 35, 36, 37, 38, 39, 40, 41, 42, 43, 44, 45, 46, 47, 48, 49, 50, 51, 52, 53, 54, 55, 56, 57, 58, 59, 60, 61, 62, 63, 64, 65, 66, 67, 68, 69, 70, 71, 72] (by decide +kernel) (by decide +kernel)
set_option maxRecDepth 20000 in
theorem gX7_reprint_X7_echo : GoodIn wsX7_reprint (wsV RX7 141 RX7 yX7_echo wsX7_echo) := goodIn_app (goodIn_of _ (by decide +kernel)) ggX7_reprint_X7_echo
theorem dX7_reprint_0 : decode cX7_reprint 0 = .ok (.aload_n 0, 1) := by decide +kernel
theorem dX7_reprint_1 : decode cX7_reprint 1 = .ok (.iload_n 2, 1) := by decide +kernel
theorem dX7_reprint_2 : decode cX7_reprint 2 = .ok (.invokevirtual 138, 3) := by decide +kernel
theorem dX7_reprint_5 : decode cX7_reprint 5 = .ok (.aload_n 0, 1) := by decide +kernel
theorem dX7_reprint_6 : decode cX7_reprint 6 = .ok (.bipush 13, 2) := by decide +kernel
theorem dX7_reprint_8 : decode cX7_reprint 8 = .ok (.invokevirtual 126, 3) := by decide +kernel
theorem dX7_reprint_11 : decode cX7_reprint 11 = .ok (.aload_n 0, 1) := by decide +kernel
theorem dX7_reprint_12 : decode cX7_reprint 12 = .ok (.bipush 10, 2) := by decide +kernel
theorem dX7_reprint_14 : decode cX7_reprint 14 = .ok (.invokevirtual 126, 3) := by decide +kernel
theorem dX7_reprint_17 : decode cX7_reprint 17 = .ok (.aload_n 0, 1) := by decide +kernel
theorem dX7_reprint_18 : decode cX7_reprint 18 = .ok (.getfield 36, 3) := by decide +kernel
theorem dX7_reprint_21 : decode cX7_reprint 21 = .ok (.iload_n 1, 1) := by decide +kernel
theorem dX7_reprint_22 : decode cX7_reprint 22 = .ok (.iaload, 1) := by decide +kernel
theorem dX7_reprint_23 : decode cX7_reprint 23 = .ok (.istore_n 3, 1) := by decide +kernel
theorem dX7_reprint_24 : decode cX7_reprint 24 = .ok (.iload_n 3, 1) := by decide +kernel
theorem dX7_reprint_25 : decode cX7_reprint 25 = .ok (.aload_n 0, 1) := by decide +kernel
theorem dX7_reprint_26 : decode cX7_reprint 26 = .ok (.getfield 33, 3) := by decide +kernel
theorem dX7_reprint_29 : decode cX7_reprint 29 = .ok (.iload_n 1, 1) := by decide +kernel
theorem dX7_reprint_30 : decode cX7_reprint 30 = .ok (.iaload, 1) := by decide +kernel
theorem dX7_reprint_31 : decode cX7_reprint 31 = .ok (.if_icmp .ge 24, 3) := by decide +kernel
theorem dX7_reprint_34 : decode cX7_reprint 34 = .ok (.aload_n 0, 1) := by decide +kernel
theorem dX7_reprint_35 : decode cX7_reprint 35 = .ok (.aload_n 0, 1) := by decide +kernel
theorem dX7_reprint_36 : decode cX7_reprint 36 = .ok (.getfield 26, 3) := by decide +kernel
theorem dX7_reprint_39 : decode cX7_reprint 39 = .ok (.bipush 65, 2) := by decide +kernel
theorem dX7_reprint_41 : decode cX7_reprint 41 = .ok (.iload_n 1, 1) := by decide +kernel
theorem dX7_reprint_42 : decode cX7_reprint 42 = .ok (.imul, 1) := by decide +kernel
theorem dX7_reprint_43 : decode cX7_reprint 43 = .ok (.iload_n 3, 1) := by decide +kernel
theorem dX7_reprint_44 : decode cX7_reprint 44 = .ok (.iadd, 1) := by decide +kernel
theorem dX7_reprint_45 : decode cX7_reprint 45 = .ok (.iaload, 1) := by decide +kernel
theorem dX7_reprint_46 : decode cX7_reprint 46 = .ok (.invokevirtual 138, 3) := by decide +kernel
theorem dX7_reprint_49 : decode cX7_reprint 49 = .ok (.iinc 3 1, 3) := by decide +kernel
theorem dX7_reprint_52 : decode cX7_reprint 52 = .ok (.goto (-28), 3) := by decide +kernel
theorem dX7_reprint_55 : decode cX7_reprint 55 = .ok (.aload_n 0, 1) := by decide +kernel
theorem dX7_reprint_56 : decode cX7_reprint 56 = .ok (.iload_n 1, 1) := by decide +kernel
theorem dX7_reprint_57 : decode cX7_reprint 57 = .ok (.invokevirtual 141, 3) := by decide +kernel
theorem dX7_reprint_60 : decode cX7_reprint 60 = .ok (.return_, 1) := by decide +kernel
set_option maxRecDepth 20000 in
theorem ggX7_signal_X7_raise : GoodIn wsX7_signal wsX7_raise := goodIn_r _ [6, 7, 8, 66, 67, 68, 69, 70, 71, 72, 73, 74, 75, 76, 77, 78, 79, 80, 81, 82, 83, 84, 85, 86, 87, 88, 89, 90, 91, 92, 93, 94, 95, 96, 97, 98, 99] (by decide +kernel) (by decide +kernel)
set_option maxRecDepth 20000 in
theorem gX7_signal_X7_raise : GoodIn wsX7_signal (wsV RX7 171 RX7 yX7_raise wsX7_raise) := goodIn_app (goodIn_of _ (by decide +kernel)) ggX7_signal_X7_raise
set_option maxRecDepth 20000 in
theorem ggX7_signal_X7_on : GoodIn wsX7_signal wsX7_on := goodIn_r _ [12, 13, 66, 67, 68, 69, 70, 71, 72, 73, 74, 75, 76, 77, 78, 79, 80, 81, 82, 83, 84, 85, 86, 87, 88, 89, 90, 91, 92, 93, 94, 95, 96, 97, 98, 99] (by decide +kernel) (by decide +kernel)
set_option maxRecDepth 20000 in
theorem gX7_signal_X7_on : GoodIn wsX7_signal (wsV RX7 130 RX7 yX7_on wsX7_on) := goodIn_app (goodIn_of _ (by decide +kernel)) ggX7_signal_X7_on
set_option maxRecDepth 20000 in
theorem ggX7_signal_X7_emptyStore : GoodIn wsX7_signal wsX7_emptyStore := goodIn_r _ [17, 18, 19, 20, 21, 22, 5, 23, 24, 25, 66, 67, 68, 69, 70, 71, 72, 73, 74, 75, 76, 77, 78, 79, 80, 81, 82, 83, 84, 85, 86, 87, 88, 89, 90, 91, 92, 93, 94, 95, 96, 97, 98, 99] (by decide +kernel) (by decide +kernel)
set_option maxRecDepth 20000 in
theorem gX7_signal_X7_emptyStore : GoodIn wsX7_signal (wsV RX7 174 RX7 yX7_emptyStore wsX7_emptyStore) := goodIn_app (goodIn_of _ (by decide +kernel)) ggX7_signal_X7_emptyStore
set_option maxRecDepth 20000 in
theorem ggX7_signal_X7_emptyOut : GoodIn wsX7_signal wsX7_emptyOut := goodIn_r _ [29, 30, 31, 32, 33, 66, 67, 68, 69, 70, 71, 72, 73, 74, 75, 76, 77, 78, 79, 80, 81, 82, 83, 84, 85, 86, 87, 88, 89, 90, 91, 92, 93, 94, 95, 96, 97, 98, 99] (by decide +kernel) (by decide +kernel)
set_option maxRecDepth 20000 in
theorem gX7_signal_X7_emptyOut : GoodIn wsX7_signal (wsV RX7 177 RX7 yX7_emptyOut wsX7_emptyOut) := goodIn_app (goodIn_of _ (by decide +kernel)) ggX7_signal_X7_emptyOut
set_option maxRecDepth 20000 in
theorem ggX7_signal_X7_echoForm : GoodIn wsX7_signal wsX7_echoForm := goodIn_r _ [37, 38, 39, 40, 5, 41, 42, 43, 44, 45, 46, 47, 48, 49, 50, 51, 52, 53, 54, 30, 55, 9, 10, 11, 12, 13, 56, 57, 58, 59, 60, 61, 62, 63, 64, 65, 66, 67, 68, 69, 70, 71, 72, 73, 74, 75, 76, 77, 78, 79, 80, 81, 82, 83, 84, 85, 86, 87, 88, 89, 90, 91, 92, 93, 94, 95, 96, 97, 98, 99] (by decide +kernel) (by decide +kernel)
set_option maxRecDepth 20000 in
theorem gX7_signal_X7_echoForm : GoodIn wsX7_signal (wsV RX7 180 RX7 yX7_echoForm wsX7_echoForm) := goodIn_app (goodIn_of _ (by decide +kernel)) ggX7_signal_X7_echoForm
theorem dX7_signal_0 : decode cX7_signal 0 = .ok (.aload_n 0, 1) := by decide +kernel
theorem dX7_signal_1 : decode cX7_signal 1 = .ok (.aload_n 0, 1) := by decide +kernel
theorem dX7_signal_2 : decode cX7_signal 2 = .ok (.getfield 78, 3) := by decide +kernel
theorem dX7_signal_5 : decode cX7_signal 5 = .ok (.iload_n 1, 1) := by decide +kernel
theorem dX7_signal_6 : decode cX7_signal 6 = .ok (.iaload, 1) := by decide +kernel
theorem dX7_signal_7 : decode cX7_signal 7 = .ok (.iload_n 3, 1) := by decide +kernel
theorem dX7_signal_8 : decode cX7_signal 8 = .ok (.invokevirtual 171, 3) := by decide +kernel
theorem dX7_signal_11 : decode cX7_signal 11 = .ok (.aload_n 0, 1) := by decide +kernel
theorem dX7_signal_12 : decode cX7_signal 12 = .ok (.iload_n 1, 1) := by decide +kernel
theorem dX7_signal_13 : decode cX7_signal 13 = .ok (.bipush 9, 2) := by decide +kernel
theorem dX7_signal_15 : decode cX7_signal 15 = .ok (.invokevirtual 130, 3) := by decide +kernel
theorem dX7_signal_18 : decode cX7_signal 18 = .ok (.ifCond .ne 18, 3) := by decide +kernel
theorem dX7_signal_21 : decode cX7_signal 21 = .ok (.aload_n 0, 1) := by decide +kernel
theorem dX7_signal_22 : decode cX7_signal 22 = .ok (.iload_n 1, 1) := by decide +kernel
theorem dX7_signal_23 : decode cX7_signal 23 = .ok (.invokevirtual 174, 3) := by decide +kernel
theorem dX7_signal_26 : decode cX7_signal 26 = .ok (.iload_n 3, 1) := by decide +kernel
theorem dX7_signal_27 : decode cX7_signal 27 = .ok (.iconst 4, 1) := by decide +kernel
theorem dX7_signal_28 : decode cX7_signal 28 = .ok (.if_icmp .eq 8, 3) := by decide +kernel
theorem dX7_signal_31 : decode cX7_signal 31 = .ok (.aload_n 0, 1) := by decide +kernel
theorem dX7_signal_32 : decode cX7_signal 32 = .ok (.iload_n 1, 1) := by decide +kernel
theorem dX7_signal_33 : decode cX7_signal 33 = .ok (.invokevirtual 177, 3) := by decide +kernel
theorem dX7_signal_36 : decode cX7_signal 36 = .ok (.iload_n 2, 1) := by decide +kernel
theorem dX7_signal_37 : decode cX7_signal 37 = .ok (.sipush 256, 3) := by decide +kernel
theorem dX7_signal_40 : decode cX7_signal 40 = .ok (.if_icmp .ge 9, 3) := by decide +kernel
theorem dX7_signal_43 : decode cX7_signal 43 = .ok (.aload_n 0, 1) := by decide +kernel
theorem dX7_signal_44 : decode cX7_signal 44 = .ok (.iload_n 1, 1) := by decide +kernel
theorem dX7_signal_45 : decode cX7_signal 45 = .ok (.iload_n 2, 1) := by decide +kernel
theorem dX7_signal_46 : decode cX7_signal 46 = .ok (.invokevirtual 180, 3) := by decide +kernel
theorem dX7_signal_49 : decode cX7_signal 49 = .ok (.return_, 1) := by decide +kernel
set_option maxRecDepth 20000 in
theorem ggX7_asItIs_X7_comesIn : GoodIn wsX7_asItIs wsX7_comesIn := goodIn_r _ [6, 7, 8, 9, 10, 11, 12, 13, 14, 15, 5, 16, 17, 18, 19, 20, 21, 22, 23, 24, 25, 26, 27, 28, 29, 30, 31, 32, 33, 34, 35, 68, 69, 70, 71, 72, 73, 74, 75, 76, 77, 78, 79, 80, 81, 82, 83, 84, 85, 86, 87, 88, 89, 90, 91, 92, 93, 94, 95, 96, 97, 98, 99, 100, 101] (by decide +kernel) (by decide +kernel)
set_option maxRecDepth 20000 in
theorem gX7_asItIs_X7_comesIn : GoodIn wsX7_asItIs (wsV RX7 183 RX7 yX7_comesIn wsX7_comesIn) := goodIn_app (goodIn_of _ (by decide +kernel)) ggX7_asItIs_X7_comesIn
set_option maxRecDepth 20000 in
theorem ggX7_asItIs_X7_echoForm : GoodIn wsX7_asItIs wsX7_echoForm := goodIn_r _ [39, 40, 41, 42, 5, 43, 44, 45, 46, 47, 48, 49, 50, 51, 52, 53, 54, 55, 56, 57, 8, 17, 18, 19, 20, 21, 58, 59, 60, 61, 62, 63, 64, 65, 66, 67, 68, 69, 70, 71, 72, 73, 74, 75, 76, 77, 78, 79, 80, 81, 82, 83, 84, 85, 86, 87, 88, 89, 90, 91, 92, 93, 94, 95, 96, 97, 98, 99, 100, 101] (by decide +kernel) (by decide +kernel)
set_option maxRecDepth 20000 in
theorem gX7_asItIs_X7_echoForm : GoodIn wsX7_asItIs (wsV RX7 180 RX7 yX7_echoForm wsX7_echoForm) := goodIn_app (goodIn_of _ (by decide +kernel)) ggX7_asItIs_X7_echoForm
theorem dX7_asItIs_0 : decode cX7_asItIs 0 = .ok (.aload_n 0, 1) := by decide +kernel
theorem dX7_asItIs_1 : decode cX7_asItIs 1 = .ok (.getfield 57, 3) := by decide +kernel
theorem dX7_asItIs_4 : decode cX7_asItIs 4 = .ok (.iload_n 1, 1) := by decide +kernel
theorem dX7_asItIs_5 : decode cX7_asItIs 5 = .ok (.iconst 0, 1) := by decide +kernel
theorem dX7_asItIs_6 : decode cX7_asItIs 6 = .ok (.bastore, 1) := by decide +kernel
theorem dX7_asItIs_7 : decode cX7_asItIs 7 = .ok (.aload_n 0, 1) := by decide +kernel
theorem dX7_asItIs_8 : decode cX7_asItIs 8 = .ok (.iload_n 1, 1) := by decide +kernel
theorem dX7_asItIs_9 : decode cX7_asItIs 9 = .ok (.iload_n 2, 1) := by decide +kernel
theorem dX7_asItIs_10 : decode cX7_asItIs 10 = .ok (.iconst 1, 1) := by decide +kernel
theorem dX7_asItIs_11 : decode cX7_asItIs 11 = .ok (.invokevirtual 183, 3) := by decide +kernel
theorem dX7_asItIs_14 : decode cX7_asItIs 14 = .ok (.ifCond .eq 9, 3) := by decide +kernel
theorem dX7_asItIs_17 : decode cX7_asItIs 17 = .ok (.aload_n 0, 1) := by decide +kernel
theorem dX7_asItIs_18 : decode cX7_asItIs 18 = .ok (.iload_n 1, 1) := by decide +kernel
theorem dX7_asItIs_19 : decode cX7_asItIs 19 = .ok (.iload_n 2, 1) := by decide +kernel
theorem dX7_asItIs_20 : decode cX7_asItIs 20 = .ok (.invokevirtual 180, 3) := by decide +kernel
theorem dX7_asItIs_23 : decode cX7_asItIs 23 = .ok (.return_, 1) := by decide +kernel
set_option maxRecDepth 20000 in
theorem ggX7_takes_X7_on : GoodIn wsX7_takes wsX7_on := goodIn_r _ [8, 9, 123, 124, 125, 126, 127, 128, 129, 130, 131, 132, 133, 134, 135, 136, 137, 138, 139, 140, 141, 142, 143, 144, 145, 146, 147, 148, 149, 150, 151, 152, 153, 154, 155, 156] (by decide +kernel) (by decide +kernel)
set_option maxRecDepth 20000 in
theorem gX7_takes_X7_on : GoodIn wsX7_takes (wsV RX7 130 RX7 yX7_on wsX7_on) := goodIn_app (goodIn_of _ (by decide +kernel)) ggX7_takes_X7_on
set_option maxRecDepth 20000 in
theorem ggX7_takes_X7_mode1 : GoodIn wsX7_takes wsX7_mode1 := goodIn_r _ [13, 9, 123, 124, 125, 126, 127, 128, 129, 130, 131, 132, 133, 134, 135, 136, 137, 138, 139, 140, 141, 142, 143, 144, 145, 146, 147, 148, 149, 150, 151, 152, 153, 154, 155, 156] (by decide +kernel) (by decide +kernel)
set_option maxRecDepth 20000 in
theorem gX7_takes_X7_mode1 : GoodIn wsX7_takes (wsV RX7 147 RX7 yX7_mode1 wsX7_mode1) := goodIn_app (goodIn_of _ (by decide +kernel)) ggX7_takes_X7_mode1
set_option maxRecDepth 20000 in
theorem ggX7_takes_X7_signal : GoodIn wsX7_takes wsX7_signal := goodIn_r _ [17, 18, 19, 20, 21, 7, 22, 23, 24, 4, 5, 6, 8, 9, 25, 26, 27, 28, 29, 30, 31, 32, 33, 34, 35, 36, 37, 38, 39, 40, 41, 42, 43, 44, 45, 46, 47, 48, 49, 50, 51, 52, 53, 54, 55, 56, 57, 58, 59, 60, 61, 62, 63, 64, 65, 1, 66, 67, 68, 69, 70, 71, 72, 73, 74, 75, 123, 124, 125, 126, 127, 128, 129, 130, 131, 132, 133, 134, 135, 136, 137, 138, 139, 140, 141, 142, 143, 144, 145, 146, 147, 148, 149, 150, 151, 152, 153, 154, 155, 156] (by decide +kernel) (by decide +kernel)
set_option maxRecDepth 20000 in
theorem gX7_takes_X7_signal : GoodIn wsX7_takes (wsV RX7 187 RX7 yX7_signal wsX7_signal) := goodIn_app (goodIn_of _ (by decide +kernel)) ggX7_takes_X7_signal
set_option maxRecDepth 20000 in
theorem ggX7_takes_X7_asItIs : GoodIn wsX7_takes wsX7_asItIs := goodIn_r _ [79, 2, 80, 81, 82, 7, 83, 29, 1, 84, 85, 86, 30, 87, 88, 89, 90, 4, 5, 6, 8, 9, 91, 92, 93, 94, 10, 11, 12, 13, 95, 96, 97, 98, 35, 36, 45, 46, 47, 48, 49, 50, 51, 52, 53, 54, 55, 56, 57, 58, 59, 60, 61, 62, 63, 64, 65, 41, 66, 67, 68, 69, 70, 71, 72, 73, 74, 75, 123, 124, 125, 126, 127, 128, 129, 130, 131, 132, 133, 134, 135, 136, 137, 138, 139, 140, 141, 142, 143, 144, 145, 146, 147, 148, 149, 150, 151, 152, 153, 154, 155, 156] (by decide +kernel) (by decide +kernel)
set_option maxRecDepth 20000 in
theorem gX7_takes_X7_asItIs : GoodIn wsX7_takes (wsV RX7 191 RX7 yX7_asItIs wsX7_asItIs) := goodIn_app (goodIn_of _ (by decide +kernel)) ggX7_takes_X7_asItIs
set_option maxRecDepth 20000 in
theorem ggX7_takes_X7_isCanon : GoodIn wsX7_takes wsX7_isCanon := goodIn_r _ [90, 4, 5, 6, 7, 8, 9, 123, 124, 125, 126, 127, 128, 129, 130, 131, 132, 133, 134, 135, 136, 137, 138, 139, 140, 141, 142, 143, 144, 145, 146, 147, 148, 149, 150, 151, 152, 153, 154, 155, 156] (by decide +kernel) (by decide +kernel)
set_option maxRecDepth 20000 in
theorem gX7_takes_X7_isCanon : GoodIn wsX7_takes (wsV RX7 144 RX7 yX7_isCanon wsX7_isCanon) := goodIn_app (goodIn_of _ (by decide +kernel)) ggX7_takes_X7_isCanon
set_option maxRecDepth 20000 in
theorem ggX7_takes_X7_editing : GoodIn wsX7_takes wsX7_editing := goodIn_r _ [102, 10, 11, 12, 7, 13, 9, 103, 104, 105, 106, 29, 30, 107, 108, 109, 110, 84, 53, 54, 55, 56, 57, 58, 59, 60, 61, 62, 63, 64, 65, 41, 1, 4, 5, 6, 8, 66, 67, 68, 69, 70, 71, 72, 73, 74, 75, 111, 112, 113, 114, 115, 116, 117, 118, 31, 32, 33, 34, 35, 36, 123, 124, 125, 126, 127, 128, 129, 130, 131, 132, 133, 134, 135, 136, 137, 138, 139, 140, 141, 142, 143, 144, 145, 146, 147, 148, 149, 150, 151, 152, 153, 154, 155, 156] (by decide +kernel) (by decide +kernel)
set_option maxRecDepth 20000 in
theorem gX7_takes_X7_editing : GoodIn wsX7_takes (wsV RX7 194 RX7 yX7_editing wsX7_editing) := goodIn_app (goodIn_of _ (by decide +kernel)) ggX7_takes_X7_editing
set_option maxRecDepth 20000 in
theorem ggX7_takes_X7_reprint : GoodIn wsX7_takes wsX7_reprint := goodIn_r _ [122, 30, 29, 84, 49, 50, 51, 7, 52, 53, 54, 55, 56, 57, 58, 59, 60, 61, 62, 63, 64, 65, 41, 1, 4, 5, 6, 8, 9, 66, 67, 68, 69, 70, 71, 72, 73, 74, 75, 123, 124, 125, 126, 127, 128, 129, 130, 131, 132, 133, 134, 135, 136, 137, 138, 139, 140, 141, 142, 143, 144, 145, 146, 147, 148, 149, 150, 151, 152, 153, 154, 155, 156] (by decide +kernel) (by decide +kernel)
set_option maxRecDepth 20000 in
theorem gX7_takes_X7_reprint : GoodIn wsX7_takes (wsV RX7 197 RX7 yX7_reprint wsX7_reprint) := goodIn_app (goodIn_of _ (by decide +kernel)) ggX7_takes_X7_reprint
set_option maxRecDepth 20000 in
theorem ggX7_takes_X7_comesIn : GoodIn wsX7_takes wsX7_comesIn := goodIn_r _ [83, 29, 1, 84, 85, 86, 30, 87, 88, 89, 7, 90, 4, 5, 6, 8, 9, 91, 92, 93, 94, 10, 11, 12, 13, 95, 96, 97, 98, 35, 36, 123, 124, 125, 126, 127, 128, 129, 130, 131, 132, 133, 134, 135, 136, 137, 138, 139, 140, 141, 142, 143, 144, 145, 146, 147, 148, 149, 150, 151, 152, 153, 154, 155, 156] (by decide +kernel) (by decide +kernel)
set_option maxRecDepth 20000 in
theorem gX7_takes_X7_comesIn : GoodIn wsX7_takes (wsV RX7 183 RX7 yX7_comesIn wsX7_comesIn) := goodIn_app (goodIn_of _ (by decide +kernel)) ggX7_takes_X7_comesIn
set_option maxRecDepth 20000 in
theorem ggX7_takes_X7_add : GoodIn wsX7_takes wsX7_add := goodIn_r _ [59, 60, 61, 123, 124, 125, 126, 127, 128, 129, 130, 131, 132, 133, 134, 135, 136, 137, 138, 139, 140, 141, 142, 143, 144, 145, 146, 147, 148, 149, 150, 151, 152, 153, 154, 155, 156] (by decide +kernel) (by decide +kernel)
set_option maxRecDepth 20000 in
theorem gX7_takes_X7_add : GoodIn wsX7_takes (wsV RX7 126 RX7 yX7_add wsX7_add) := goodIn_app (goodIn_of _ (by decide +kernel)) ggX7_takes_X7_add
set_option maxRecDepth 20000 in
theorem ggX7_takes_X7_echo : GoodIn wsX7_takes wsX7_echo := goodIn_r _ [65, 41, 61, 60, 1, 4, 5, 6, 7, 8, 9, 66, 67, 68, 69, 70, 71, 72, 73, 74, 75, 123, 124, 125, 126, 127, 128, 129, 130, 131, 132, 133, 134, 135, 136, 137, 138, 139, 140, 141, 142, 143, 144, 145, 146, 147, 148, 149, 150, 151, 152, 153, 154, 155, 156] (by decide +kernel) (by decide +kernel)
set_option maxRecDepth 20000 in
theorem gX7_takes_X7_echo : GoodIn wsX7_takes (wsV RX7 141 RX7 yX7_echo wsX7_echo) := goodIn_app (goodIn_of _ (by decide +kernel)) ggX7_takes_X7_echo
set_option maxRecDepth 20000 in
theorem ggX7_takes_X7_echoForm : GoodIn wsX7_takes wsX7_echoForm := goodIn_r _ [48, 49, 50, 51, 7, 52, 53, 54, 55, 56, 57, 58, 59, 60, 61, 62, 63, 64, 65, 41, 1, 4, 5, 6, 8, 9, 66, 67, 68, 69, 70, 71, 72, 73, 74, 75, 123, 124, 125, 126, 127, 128, 129, 130, 131, 132, 133, 134, 135, 136, 137, 138, 139, 140, 141, 142, 143, 144, 145, 146, 147, 148, 149, 150, 151, 152, 153, 154, 155, 156] (by decide +kernel) (by decide +kernel)
set_option maxRecDepth 20000 in
theorem gX7_takes_X7_echoForm : GoodIn wsX7_takes (wsV RX7 180 RX7 yX7_echoForm wsX7_echoForm) := goodIn_app (goodIn_of _ (by decide +kernel)) ggX7_takes_X7_echoForm
theorem dX7_takes_0 : decode cX7_takes 0 = .ok (.iload_n 2, 1) := by decide +kernel
theorem dX7_takes_1 : decode cX7_takes 1 = .ok (.istore 4, 2) := by decide +kernel
theorem dX7_takes_3 : decode cX7_takes 3 = .ok (.iload_n 3, 1) := by decide +kernel
theorem dX7_takes_4 : decode cX7_takes 4 = .ok (.iconst 2, 1) := by decide +kernel
theorem dX7_takes_5 : decode cX7_takes 5 = .ok (.if_icmp .lt 35, 3) := by decide +kernel
theorem dX7_takes_8 : decode cX7_takes 8 = .ok (.aload_n 0, 1) := by decide +kernel
theorem dX7_takes_9 : decode cX7_takes 9 = .ok (.iload_n 1, 1) := by decide +kernel
theorem dX7_takes_10 : decode cX7_takes 10 = .ok (.iconst 2, 1) := by decide +kernel
theorem dX7_takes_11 : decode cX7_takes 11 = .ok (.invokevirtual 130, 3) := by decide +kernel
theorem dX7_takes_14 : decode cX7_takes 14 = .ok (.ifCond .eq 19, 3) := by decide +kernel
theorem dX7_takes_17 : decode cX7_takes 17 = .ok (.aload_n 0, 1) := by decide +kernel
theorem dX7_takes_18 : decode cX7_takes 18 = .ok (.iload_n 1, 1) := by decide +kernel
theorem dX7_takes_19 : decode cX7_takes 19 = .ok (.aload_n 0, 1) := by decide +kernel
theorem dX7_takes_20 : decode cX7_takes 20 = .ok (.iload_n 1, 1) := by decide +kernel
theorem dX7_takes_21 : decode cX7_takes 21 = .ok (.bipush 20, 2) := by decide +kernel
theorem dX7_takes_23 : decode cX7_takes 23 = .ok (.invokevirtual 147, 3) := by decide +kernel
theorem dX7_takes_26 : decode cX7_takes 26 = .ok (.iconst 1, 1) := by decide +kernel
theorem dX7_takes_27 : decode cX7_takes 27 = .ok (.invokevirtual 187, 3) := by decide +kernel
theorem dX7_takes_30 : decode cX7_takes 30 = .ok (.goto 9, 3) := by decide +kernel
theorem dX7_takes_33 : decode cX7_takes 33 = .ok (.aload_n 0, 1) := by decide +kernel
theorem dX7_takes_34 : decode cX7_takes 34 = .ok (.iload_n 1, 1) := by decide +kernel
theorem dX7_takes_35 : decode cX7_takes 35 = .ok (.iconst 0, 1) := by decide +kernel
theorem dX7_takes_36 : decode cX7_takes 36 = .ok (.invokevirtual 191, 3) := by decide +kernel
theorem dX7_takes_39 : decode cX7_takes 39 = .ok (.return_, 1) := by decide +kernel
theorem dX7_takes_40 : decode cX7_takes 40 = .ok (.iload_n 3, 1) := by decide +kernel
theorem dX7_takes_41 : decode cX7_takes 41 = .ok (.iconst 1, 1) := by decide +kernel
theorem dX7_takes_42 : decode cX7_takes 42 = .ok (.if_icmp .ne 37, 3) := by decide +kernel
theorem dX7_takes_45 : decode cX7_takes 45 = .ok (.aload_n 0, 1) := by decide +kernel
theorem dX7_takes_46 : decode cX7_takes 46 = .ok (.iload_n 1, 1) := by decide +kernel
theorem dX7_takes_47 : decode cX7_takes 47 = .ok (.bipush 11, 2) := by decide +kernel
theorem dX7_takes_49 : decode cX7_takes 49 = .ok (.invokevirtual 130, 3) := by decide +kernel
theorem dX7_takes_52 : decode cX7_takes 52 = .ok (.ifCond .eq 12, 3) := by decide +kernel
theorem dX7_takes_55 : decode cX7_takes 55 = .ok (.aload_n 0, 1) := by decide +kernel
theorem dX7_takes_56 : decode cX7_takes 56 = .ok (.iload_n 1, 1) := by decide +kernel
theorem dX7_takes_57 : decode cX7_takes 57 = .ok (.iconst 0, 1) := by decide +kernel
theorem dX7_takes_58 : decode cX7_takes 58 = .ok (.invokevirtual 191, 3) := by decide +kernel
theorem dX7_takes_61 : decode cX7_takes 61 = .ok (.goto 17, 3) := by decide +kernel
theorem dX7_takes_64 : decode cX7_takes 64 = .ok (.aload_n 0, 1) := by decide +kernel
theorem dX7_takes_65 : decode cX7_takes 65 = .ok (.getfield 105, 3) := by decide +kernel
theorem dX7_takes_68 : decode cX7_takes 68 = .ok (.iconst 5, 1) := by decide +kernel
theorem dX7_takes_69 : decode cX7_takes 69 = .ok (.iload_n 1, 1) := by decide +kernel
theorem dX7_takes_70 : decode cX7_takes 70 = .ok (.imul, 1) := by decide +kernel
theorem dX7_takes_71 : decode cX7_takes 71 = .ok (.iconst 2, 1) := by decide +kernel
theorem dX7_takes_72 : decode cX7_takes 72 = .ok (.iadd, 1) := by decide +kernel
theorem dX7_takes_73 : decode cX7_takes 73 = .ok (.dup2, 1) := by decide +kernel
theorem dX7_takes_74 : decode cX7_takes 74 = .ok (.iaload, 1) := by decide +kernel
theorem dX7_takes_75 : decode cX7_takes 75 = .ok (.iconst 1, 1) := by decide +kernel
theorem dX7_takes_76 : decode cX7_takes 76 = .ok (.iadd, 1) := by decide +kernel
theorem dX7_takes_77 : decode cX7_takes 77 = .ok (.iastore, 1) := by decide +kernel
theorem dX7_takes_78 : decode cX7_takes 78 = .ok (.return_, 1) := by decide +kernel
theorem dX7_takes_79 : decode cX7_takes 79 = .ok (.aload_n 0, 1) := by decide +kernel
theorem dX7_takes_80 : decode cX7_takes 80 = .ok (.getfield 57, 3) := by decide +kernel
theorem dX7_takes_83 : decode cX7_takes 83 = .ok (.iload_n 1, 1) := by decide +kernel
theorem dX7_takes_84 : decode cX7_takes 84 = .ok (.baload, 1) := by decide +kernel
theorem dX7_takes_85 : decode cX7_takes 85 = .ok (.ifCond .eq 11, 3) := by decide +kernel
theorem dX7_takes_88 : decode cX7_takes 88 = .ok (.aload_n 0, 1) := by decide +kernel
theorem dX7_takes_89 : decode cX7_takes 89 = .ok (.iload_n 1, 1) := by decide +kernel
theorem dX7_takes_90 : decode cX7_takes 90 = .ok (.iload 4, 2) := by decide +kernel
theorem dX7_takes_92 : decode cX7_takes 92 = .ok (.invokevirtual 191, 3) := by decide +kernel
theorem dX7_takes_95 : decode cX7_takes 95 = .ok (.return_, 1) := by decide +kernel
theorem dX7_takes_96 : decode cX7_takes 96 = .ok (.aload_n 0, 1) := by decide +kernel
theorem dX7_takes_97 : decode cX7_takes 97 = .ok (.iload_n 1, 1) := by decide +kernel
theorem dX7_takes_98 : decode cX7_takes 98 = .ok (.iconst 4, 1) := by decide +kernel
theorem dX7_takes_99 : decode cX7_takes 99 = .ok (.invokevirtual 130, 3) := by decide +kernel
theorem dX7_takes_102 : decode cX7_takes 102 = .ok (.ifCond .eq 59, 3) := by decide +kernel
theorem dX7_takes_105 : decode cX7_takes 105 = .ok (.iload 4, 2) := by decide +kernel
theorem dX7_takes_107 : decode cX7_takes 107 = .ok (.aload_n 0, 1) := by decide +kernel
theorem dX7_takes_108 : decode cX7_takes 108 = .ok (.iload_n 1, 1) := by decide +kernel
theorem dX7_takes_109 : decode cX7_takes 109 = .ok (.bipush 24, 2) := by decide +kernel
theorem dX7_takes_111 : decode cX7_takes 111 = .ok (.invokevirtual 147, 3) := by decide +kernel
theorem dX7_takes_114 : decode cX7_takes 114 = .ok (.if_icmp .ne 11, 3) := by decide +kernel
theorem dX7_takes_117 : decode cX7_takes 117 = .ok (.aload_n 0, 1) := by decide +kernel
theorem dX7_takes_118 : decode cX7_takes 118 = .ok (.getfield 54, 3) := by decide +kernel
theorem dX7_takes_121 : decode cX7_takes 121 = .ok (.iload_n 1, 1) := by decide +kernel
theorem dX7_takes_122 : decode cX7_takes 122 = .ok (.iconst 1, 1) := by decide +kernel
theorem dX7_takes_123 : decode cX7_takes 123 = .ok (.bastore, 1) := by decide +kernel
theorem dX7_takes_124 : decode cX7_takes 124 = .ok (.return_, 1) := by decide +kernel
theorem dX7_takes_125 : decode cX7_takes 125 = .ok (.iload 4, 2) := by decide +kernel
theorem dX7_takes_127 : decode cX7_takes 127 = .ok (.aload_n 0, 1) := by decide +kernel
theorem dX7_takes_128 : decode cX7_takes 128 = .ok (.iload_n 1, 1) := by decide +kernel
theorem dX7_takes_129 : decode cX7_takes 129 = .ok (.bipush 23, 2) := by decide +kernel
theorem dX7_takes_131 : decode cX7_takes 131 = .ok (.invokevirtual 147, 3) := by decide +kernel
theorem dX7_takes_134 : decode cX7_takes 134 = .ok (.if_icmp .ne 11, 3) := by decide +kernel
theorem dX7_takes_137 : decode cX7_takes 137 = .ok (.aload_n 0, 1) := by decide +kernel
theorem dX7_takes_138 : decode cX7_takes 138 = .ok (.getfield 54, 3) := by decide +kernel
theorem dX7_takes_141 : decode cX7_takes 141 = .ok (.iload_n 1, 1) := by decide +kernel
theorem dX7_takes_142 : decode cX7_takes 142 = .ok (.iconst 0, 1) := by decide +kernel
theorem dX7_takes_143 : decode cX7_takes 143 = .ok (.bastore, 1) := by decide +kernel
theorem dX7_takes_144 : decode cX7_takes 144 = .ok (.return_, 1) := by decide +kernel
theorem dX7_takes_145 : decode cX7_takes 145 = .ok (.aload_n 0, 1) := by decide +kernel
theorem dX7_takes_146 : decode cX7_takes 146 = .ok (.iload_n 1, 1) := by decide +kernel
theorem dX7_takes_147 : decode cX7_takes 147 = .ok (.iconst 5, 1) := by decide +kernel
theorem dX7_takes_148 : decode cX7_takes 148 = .ok (.invokevirtual 130, 3) := by decide +kernel
theorem dX7_takes_151 : decode cX7_takes 151 = .ok (.ifCond .eq 10, 3) := by decide +kernel
theorem dX7_takes_154 : decode cX7_takes 154 = .ok (.aload_n 0, 1) := by decide +kernel
theorem dX7_takes_155 : decode cX7_takes 155 = .ok (.getfield 54, 3) := by decide +kernel
theorem dX7_takes_158 : decode cX7_takes 158 = .ok (.iload_n 1, 1) := by decide +kernel
theorem dX7_takes_159 : decode cX7_takes 159 = .ok (.iconst 0, 1) := by decide +kernel
theorem dX7_takes_160 : decode cX7_takes 160 = .ok (.bastore, 1) := by decide +kernel
theorem dX7_takes_161 : decode cX7_takes 161 = .ok (.aload_n 0, 1) := by decide +kernel
theorem dX7_takes_162 : decode cX7_takes 162 = .ok (.iload_n 1, 1) := by decide +kernel
theorem dX7_takes_163 : decode cX7_takes 163 = .ok (.iconst 2, 1) := by decide +kernel
theorem dX7_takes_164 : decode cX7_takes 164 = .ok (.invokevirtual 130, 3) := by decide +kernel
theorem dX7_takes_167 : decode cX7_takes 167 = .ok (.ifCond .eq 66, 3) := by decide +kernel
theorem dX7_takes_170 : decode cX7_takes 170 = .ok (.iconst 0, 1) := by decide +kernel
theorem dX7_takes_171 : decode cX7_takes 171 = .ok (.istore 5, 2) := by decide +kernel
theorem dX7_takes_173 : decode cX7_takes 173 = .ok (.iload 4, 2) := by decide +kernel
theorem dX7_takes_175 : decode cX7_takes 175 = .ok (.aload_n 0, 1) := by decide +kernel
theorem dX7_takes_176 : decode cX7_takes 176 = .ok (.iload_n 1, 1) := by decide +kernel
theorem dX7_takes_177 : decode cX7_takes 177 = .ok (.bipush 22, 2) := by decide +kernel
theorem dX7_takes_179 : decode cX7_takes 179 = .ok (.invokevirtual 147, 3) := by decide +kernel
theorem dX7_takes_182 : decode cX7_takes 182 = .ok (.if_icmp .ne 6, 3) := by decide +kernel
theorem dX7_takes_185 : decode cX7_takes 185 = .ok (.iconst 4, 1) := by decide +kernel
theorem dX7_takes_186 : decode cX7_takes 186 = .ok (.istore 5, 2) := by decide +kernel
theorem dX7_takes_188 : decode cX7_takes 188 = .ok (.iload 4, 2) := by decide +kernel
theorem dX7_takes_190 : decode cX7_takes 190 = .ok (.aload_n 0, 1) := by decide +kernel
theorem dX7_takes_191 : decode cX7_takes 191 = .ok (.iload_n 1, 1) := by decide +kernel
theorem dX7_takes_192 : decode cX7_takes 192 = .ok (.bipush 21, 2) := by decide +kernel
theorem dX7_takes_194 : decode cX7_takes 194 = .ok (.invokevirtual 147, 3) := by decide +kernel
theorem dX7_takes_197 : decode cX7_takes 197 = .ok (.if_icmp .ne 6, 3) := by decide +kernel
theorem dX7_takes_200 : decode cX7_takes 200 = .ok (.iconst 2, 1) := by decide +kernel
theorem dX7_takes_201 : decode cX7_takes 201 = .ok (.istore 5, 2) := by decide +kernel
theorem dX7_takes_203 : decode cX7_takes 203 = .ok (.iload 4, 2) := by decide +kernel
theorem dX7_takes_205 : decode cX7_takes 205 = .ok (.aload_n 0, 1) := by decide +kernel
theorem dX7_takes_206 : decode cX7_takes 206 = .ok (.iload_n 1, 1) := by decide +kernel
theorem dX7_takes_207 : decode cX7_takes 207 = .ok (.bipush 20, 2) := by decide +kernel
theorem dX7_takes_209 : decode cX7_takes 209 = .ok (.invokevirtual 147, 3) := by decide +kernel
theorem dX7_takes_212 : decode cX7_takes 212 = .ok (.if_icmp .ne 6, 3) := by decide +kernel
theorem dX7_takes_215 : decode cX7_takes 215 = .ok (.iconst 1, 1) := by decide +kernel
theorem dX7_takes_216 : decode cX7_takes 216 = .ok (.istore 5, 2) := by decide +kernel
theorem dX7_takes_218 : decode cX7_takes 218 = .ok (.iload 5, 2) := by decide +kernel
theorem dX7_takes_220 : decode cX7_takes 220 = .ok (.ifCond .le 13, 3) := by decide +kernel
theorem dX7_takes_223 : decode cX7_takes 223 = .ok (.aload_n 0, 1) := by decide +kernel
theorem dX7_takes_224 : decode cX7_takes 224 = .ok (.iload_n 1, 1) := by decide +kernel
theorem dX7_takes_225 : decode cX7_takes 225 = .ok (.iload 4, 2) := by decide +kernel
theorem dX7_takes_227 : decode cX7_takes 227 = .ok (.iload 5, 2) := by decide +kernel
theorem dX7_takes_229 : decode cX7_takes 229 = .ok (.invokevirtual 187, 3) := by decide +kernel
theorem dX7_takes_232 : decode cX7_takes 232 = .ok (.return_, 1) := by decide +kernel
theorem dX7_takes_233 : decode cX7_takes 233 = .ok (.aload_n 0, 1) := by decide +kernel
theorem dX7_takes_234 : decode cX7_takes 234 = .ok (.iload_n 1, 1) := by decide +kernel
theorem dX7_takes_235 : decode cX7_takes 235 = .ok (.iconst 3, 1) := by decide +kernel
theorem dX7_takes_236 : decode cX7_takes 236 = .ok (.invokevirtual 130, 3) := by decide +kernel
theorem dX7_takes_239 : decode cX7_takes 239 = .ok (.ifCond .eq 14, 3) := by decide +kernel
theorem dX7_takes_242 : decode cX7_takes 242 = .ok (.iload 4, 2) := by decide +kernel
theorem dX7_takes_244 : decode cX7_takes 244 = .ok (.bipush 13, 2) := by decide +kernel
theorem dX7_takes_246 : decode cX7_takes 246 = .ok (.if_icmp .ne 7, 3) := by decide +kernel
theorem dX7_takes_249 : decode cX7_takes 249 = .ok (.bipush 10, 2) := by decide +kernel
theorem dX7_takes_251 : decode cX7_takes 251 = .ok (.istore 4, 2) := by decide +kernel
theorem dX7_takes_253 : decode cX7_takes 253 = .ok (.aload_n 0, 1) := by decide +kernel
theorem dX7_takes_254 : decode cX7_takes 254 = .ok (.iload_n 1, 1) := by decide +kernel
theorem dX7_takes_255 : decode cX7_takes 255 = .ok (.invokevirtual 144, 3) := by decide +kernel
theorem dX7_takes_258 : decode cX7_takes 258 = .ok (.ifCond .eq 146, 3) := by decide +kernel
theorem dX7_takes_261 : decode cX7_takes 261 = .ok (.iload 4, 2) := by decide +kernel
theorem dX7_takes_263 : decode cX7_takes 263 = .ok (.aload_n 0, 1) := by decide +kernel
theorem dX7_takes_264 : decode cX7_takes 264 = .ok (.iload_n 1, 1) := by decide +kernel
theorem dX7_takes_265 : decode cX7_takes 265 = .ok (.bipush 14, 2) := by decide +kernel
theorem dX7_takes_267 : decode cX7_takes 267 = .ok (.invokevirtual 147, 3) := by decide +kernel
theorem dX7_takes_270 : decode cX7_takes 270 = .ok (.if_icmp .eq 27, 3) := by decide +kernel
theorem dX7_takes_273 : decode cX7_takes 273 = .ok (.iload 4, 2) := by decide +kernel
theorem dX7_takes_275 : decode cX7_takes 275 = .ok (.aload_n 0, 1) := by decide +kernel
theorem dX7_takes_276 : decode cX7_takes 276 = .ok (.iload_n 1, 1) := by decide +kernel
theorem dX7_takes_277 : decode cX7_takes 277 = .ok (.bipush 15, 2) := by decide +kernel
theorem dX7_takes_279 : decode cX7_takes 279 = .ok (.invokevirtual 147, 3) := by decide +kernel
theorem dX7_takes_282 : decode cX7_takes 282 = .ok (.if_icmp .eq 15, 3) := by decide +kernel
theorem dX7_takes_285 : decode cX7_takes 285 = .ok (.iload 4, 2) := by decide +kernel
theorem dX7_takes_287 : decode cX7_takes 287 = .ok (.aload_n 0, 1) := by decide +kernel
theorem dX7_takes_288 : decode cX7_takes 288 = .ok (.iload_n 1, 1) := by decide +kernel
theorem dX7_takes_289 : decode cX7_takes 289 = .ok (.bipush 16, 2) := by decide +kernel
theorem dX7_takes_291 : decode cX7_takes 291 = .ok (.invokevirtual 147, 3) := by decide +kernel
theorem dX7_takes_294 : decode cX7_takes 294 = .ok (.if_icmp .ne 11, 3) := by decide +kernel
theorem dX7_takes_297 : decode cX7_takes 297 = .ok (.aload_n 0, 1) := by decide +kernel
theorem dX7_takes_298 : decode cX7_takes 298 = .ok (.iload_n 1, 1) := by decide +kernel
theorem dX7_takes_299 : decode cX7_takes 299 = .ok (.iload 4, 2) := by decide +kernel
theorem dX7_takes_301 : decode cX7_takes 301 = .ok (.invokevirtual 194, 3) := by decide +kernel
theorem dX7_takes_304 : decode cX7_takes 304 = .ok (.return_, 1) := by decide +kernel
theorem dX7_takes_305 : decode cX7_takes 305 = .ok (.iload 4, 2) := by decide +kernel
theorem dX7_takes_307 : decode cX7_takes 307 = .ok (.aload_n 0, 1) := by decide +kernel
theorem dX7_takes_308 : decode cX7_takes 308 = .ok (.iload_n 1, 1) := by decide +kernel
theorem dX7_takes_309 : decode cX7_takes 309 = .ok (.bipush 17, 2) := by decide +kernel
theorem dX7_takes_311 : decode cX7_takes 311 = .ok (.invokevirtual 147, 3) := by decide +kernel
theorem dX7_takes_314 : decode cX7_takes 314 = .ok (.if_icmp .ne 11, 3) := by decide +kernel
theorem dX7_takes_317 : decode cX7_takes 317 = .ok (.aload_n 0, 1) := by decide +kernel
theorem dX7_takes_318 : decode cX7_takes 318 = .ok (.getfield 57, 3) := by decide +kernel
theorem dX7_takes_321 : decode cX7_takes 321 = .ok (.iload_n 1, 1) := by decide +kernel
theorem dX7_takes_322 : decode cX7_takes 322 = .ok (.iconst 1, 1) := by decide +kernel
theorem dX7_takes_323 : decode cX7_takes 323 = .ok (.bastore, 1) := by decide +kernel
theorem dX7_takes_324 : decode cX7_takes 324 = .ok (.return_, 1) := by decide +kernel
theorem dX7_takes_325 : decode cX7_takes 325 = .ok (.iload 4, 2) := by decide +kernel
theorem dX7_takes_327 : decode cX7_takes 327 = .ok (.aload_n 0, 1) := by decide +kernel
theorem dX7_takes_328 : decode cX7_takes 328 = .ok (.iload_n 1, 1) := by decide +kernel
theorem dX7_takes_329 : decode cX7_takes 329 = .ok (.bipush 18, 2) := by decide +kernel
theorem dX7_takes_331 : decode cX7_takes 331 = .ok (.invokevirtual 147, 3) := by decide +kernel
theorem dX7_takes_334 : decode cX7_takes 334 = .ok (.if_icmp .ne 11, 3) := by decide +kernel
theorem dX7_takes_337 : decode cX7_takes 337 = .ok (.aload_n 0, 1) := by decide +kernel
theorem dX7_takes_338 : decode cX7_takes 338 = .ok (.iload_n 1, 1) := by decide +kernel
theorem dX7_takes_339 : decode cX7_takes 339 = .ok (.iload 4, 2) := by decide +kernel
theorem dX7_takes_341 : decode cX7_takes 341 = .ok (.invokevirtual 197, 3) := by decide +kernel
theorem dX7_takes_344 : decode cX7_takes 344 = .ok (.return_, 1) := by decide +kernel
theorem dX7_takes_345 : decode cX7_takes 345 = .ok (.iload 4, 2) := by decide +kernel
theorem dX7_takes_347 : decode cX7_takes 347 = .ok (.aload_n 0, 1) := by decide +kernel
theorem dX7_takes_348 : decode cX7_takes 348 = .ok (.iload_n 1, 1) := by decide +kernel
theorem dX7_takes_349 : decode cX7_takes 349 = .ok (.bipush 19, 2) := by decide +kernel
theorem dX7_takes_351 : decode cX7_takes 351 = .ok (.invokevirtual 147, 3) := by decide +kernel
theorem dX7_takes_354 : decode cX7_takes 354 = .ok (.if_icmp .ne 14, 3) := by decide +kernel
theorem dX7_takes_357 : decode cX7_takes 357 = .ok (.aload_n 0, 1) := by decide +kernel
theorem dX7_takes_358 : decode cX7_takes 358 = .ok (.iload_n 1, 1) := by decide +kernel
theorem dX7_takes_359 : decode cX7_takes 359 = .ok (.sipush 256, 3) := by decide +kernel
theorem dX7_takes_362 : decode cX7_takes 362 = .ok (.iconst 0, 1) := by decide +kernel
theorem dX7_takes_363 : decode cX7_takes 363 = .ok (.invokevirtual 183, 3) := by decide +kernel
theorem dX7_takes_366 : decode cX7_takes 366 = .ok (.pop, 1) := by decide +kernel
theorem dX7_takes_367 : decode cX7_takes 367 = .ok (.return_, 1) := by decide +kernel
theorem dX7_takes_368 : decode cX7_takes 368 = .ok (.iload 4, 2) := by decide +kernel
theorem dX7_takes_370 : decode cX7_takes 370 = .ok (.bipush 10, 2) := by decide +kernel
theorem dX7_takes_372 : decode cX7_takes 372 = .ok (.if_icmp .ne 32, 3) := by decide +kernel
theorem dX7_takes_375 : decode cX7_takes 375 = .ok (.aload_n 0, 1) := by decide +kernel
theorem dX7_takes_376 : decode cX7_takes 376 = .ok (.iload_n 1, 1) := by decide +kernel
theorem dX7_takes_377 : decode cX7_takes 377 = .ok (.bipush 10, 2) := by decide +kernel
theorem dX7_takes_379 : decode cX7_takes 379 = .ok (.iconst 0, 1) := by decide +kernel
theorem dX7_takes_380 : decode cX7_takes 380 = .ok (.invokevirtual 183, 3) := by decide +kernel
theorem dX7_takes_383 : decode cX7_takes 383 = .ok (.ifCond .eq 20, 3) := by decide +kernel
theorem dX7_takes_386 : decode cX7_takes 386 = .ok (.aload_n 0, 1) := by decide +kernel
theorem dX7_takes_387 : decode cX7_takes 387 = .ok (.bipush 13, 2) := by decide +kernel
theorem dX7_takes_389 : decode cX7_takes 389 = .ok (.invokevirtual 126, 3) := by decide +kernel
theorem dX7_takes_392 : decode cX7_takes 392 = .ok (.aload_n 0, 1) := by decide +kernel
theorem dX7_takes_393 : decode cX7_takes 393 = .ok (.bipush 10, 2) := by decide +kernel
theorem dX7_takes_395 : decode cX7_takes 395 = .ok (.invokevirtual 126, 3) := by decide +kernel
theorem dX7_takes_398 : decode cX7_takes 398 = .ok (.aload_n 0, 1) := by decide +kernel
theorem dX7_takes_399 : decode cX7_takes 399 = .ok (.iload_n 1, 1) := by decide +kernel
theorem dX7_takes_400 : decode cX7_takes 400 = .ok (.invokevirtual 141, 3) := by decide +kernel
theorem dX7_takes_403 : decode cX7_takes 403 = .ok (.return_, 1) := by decide +kernel
theorem dX7_takes_404 : decode cX7_takes 404 = .ok (.aload_n 0, 1) := by decide +kernel
theorem dX7_takes_405 : decode cX7_takes 405 = .ok (.iload_n 1, 1) := by decide +kernel
theorem dX7_takes_406 : decode cX7_takes 406 = .ok (.iload 4, 2) := by decide +kernel
theorem dX7_takes_408 : decode cX7_takes 408 = .ok (.iconst 0, 1) := by decide +kernel
theorem dX7_takes_409 : decode cX7_takes 409 = .ok (.invokevirtual 183, 3) := by decide +kernel
theorem dX7_takes_412 : decode cX7_takes 412 = .ok (.ifCond .eq 10, 3) := by decide +kernel
theorem dX7_takes_415 : decode cX7_takes 415 = .ok (.aload_n 0, 1) := by decide +kernel
theorem dX7_takes_416 : decode cX7_takes 416 = .ok (.iload_n 1, 1) := by decide +kernel
theorem dX7_takes_417 : decode cX7_takes 417 = .ok (.iload 4, 2) := by decide +kernel
theorem dX7_takes_419 : decode cX7_takes 419 = .ok (.invokevirtual 180, 3) := by decide +kernel
theorem dX7_takes_422 : decode cX7_takes 422 = .ok (.return_, 1) := by decide +kernel
set_option maxRecDepth 20000 in
theorem ggX7_pass_X7_takes : GoodIn wsX7_pass wsX7_takes := goodIn_r _ [8, 9, 10, 11, 12, 13, 14, 7, 15, 16, 17, 18, 19, 20, 21, 22, 23, 24, 25, 26, 27, 28, 29, 30, 31, 32, 33, 34, 35, 36, 37, 38, 39, 40, 41, 42, 43, 44, 45, 46, 47, 48, 49, 50, 51, 52, 53, 54, 55, 56, 57, 58, 59, 60, 61, 62, 63, 64, 65, 66, 67, 68, 69, 70, 71, 72, 73, 74, 75, 76, 77, 78, 79, 80, 81, 82, 83, 84, 85, 86, 87, 88, 89, 90, 91, 92, 93, 94, 95, 96, 97, 98, 99, 100, 101, 102, 103, 104, 105, 106, 107, 108, 109, 110, 111, 112, 113, 114, 115, 116, 117, 118, 119, 120, 121, 122, 123, 124, 125, 126, 127, 128, 129, 130, 131, 132, 133, 134, 135, 136, 137, 138, 139, 140, 141, 142, 143, 144, 145, 146, 147, 148, 149, 150, 151, 152, 153, 154, 155, 156, 157, 158, 159, 160, 161, 162, 163] (by decide +kernel) (by decide +kernel)
set_option maxRecDepth 20000 in
theorem gX7_pass_X7_takes : GoodIn wsX7_pass (wsV RX7 200 RX7 yX7_takes wsX7_takes) := goodIn_app (goodIn_of _ (by decide +kernel)) ggX7_pass_X7_takes
theorem dX7_pass_0 : decode cX7_pass 0 = .ok (.iconst 0, 1) := by decide +kernel
theorem dX7_pass_1 : decode cX7_pass 1 = .ok (.istore_n 2, 1) := by decide +kernel
theorem dX7_pass_2 : decode cX7_pass 2 = .ok (.iload_n 2, 1) := by decide +kernel
theorem dX7_pass_3 : decode cX7_pass 3 = .ok (.aload_n 0, 1) := by decide +kernel
theorem dX7_pass_4 : decode cX7_pass 4 = .ok (.getfield 23, 3) := by decide +kernel
theorem dX7_pass_7 : decode cX7_pass 7 = .ok (.iload_n 1, 1) := by decide +kernel
theorem dX7_pass_8 : decode cX7_pass 8 = .ok (.iaload, 1) := by decide +kernel
theorem dX7_pass_9 : decode cX7_pass 9 = .ok (.if_icmp .ge 36, 3) := by decide +kernel
theorem dX7_pass_12 : decode cX7_pass 12 = .ok (.aload_n 0, 1) := by decide +kernel
theorem dX7_pass_13 : decode cX7_pass 13 = .ok (.iload_n 1, 1) := by decide +kernel
theorem dX7_pass_14 : decode cX7_pass 14 = .ok (.aload_n 0, 1) := by decide +kernel
theorem dX7_pass_15 : decode cX7_pass 15 = .ok (.getfield 17, 3) := by decide +kernel
theorem dX7_pass_18 : decode cX7_pass 18 = .ok (.bipush 8, 2) := by decide +kernel
theorem dX7_pass_20 : decode cX7_pass 20 = .ok (.iload_n 1, 1) := by decide +kernel
theorem dX7_pass_21 : decode cX7_pass 21 = .ok (.imul, 1) := by decide +kernel
theorem dX7_pass_22 : decode cX7_pass 22 = .ok (.iload_n 2, 1) := by decide +kernel
theorem dX7_pass_23 : decode cX7_pass 23 = .ok (.iadd, 1) := by decide +kernel
theorem dX7_pass_24 : decode cX7_pass 24 = .ok (.iaload, 1) := by decide +kernel
theorem dX7_pass_25 : decode cX7_pass 25 = .ok (.aload_n 0, 1) := by decide +kernel
theorem dX7_pass_26 : decode cX7_pass 26 = .ok (.getfield 20, 3) := by decide +kernel
theorem dX7_pass_29 : decode cX7_pass 29 = .ok (.bipush 8, 2) := by decide +kernel
theorem dX7_pass_31 : decode cX7_pass 31 = .ok (.iload_n 1, 1) := by decide +kernel
theorem dX7_pass_32 : decode cX7_pass 32 = .ok (.imul, 1) := by decide +kernel
theorem dX7_pass_33 : decode cX7_pass 33 = .ok (.iload_n 2, 1) := by decide +kernel
theorem dX7_pass_34 : decode cX7_pass 34 = .ok (.iadd, 1) := by decide +kernel
theorem dX7_pass_35 : decode cX7_pass 35 = .ok (.iaload, 1) := by decide +kernel
theorem dX7_pass_36 : decode cX7_pass 36 = .ok (.invokevirtual 200, 3) := by decide +kernel
theorem dX7_pass_39 : decode cX7_pass 39 = .ok (.iinc 2 1, 3) := by decide +kernel
theorem dX7_pass_42 : decode cX7_pass 42 = .ok (.goto (-40), 3) := by decide +kernel
theorem dX7_pass_45 : decode cX7_pass 45 = .ok (.aload_n 0, 1) := by decide +kernel
theorem dX7_pass_46 : decode cX7_pass 46 = .ok (.getfield 23, 3) := by decide +kernel
theorem dX7_pass_49 : decode cX7_pass 49 = .ok (.iload_n 1, 1) := by decide +kernel
theorem dX7_pass_50 : decode cX7_pass 50 = .ok (.iconst 0, 1) := by decide +kernel
theorem dX7_pass_51 : decode cX7_pass 51 = .ok (.iastore, 1) := by decide +kernel
theorem dX7_pass_52 : decode cX7_pass 52 = .ok (.return_, 1) := by decide +kernel
set_option maxRecDepth 20000 in
theorem ggX7_sets_X7_flowDown : GoodIn wsX7_sets wsX7_flowDown := goodIn_r _ [10, 11, 2, 12, 13, 14, 15, 16, 17, 18, 19, 20, 21, 22, 23, 24, 25, 26, 27, 28, 29, 30, 31, 32, 33, 34, 35, 36, 37, 38, 39, 40, 41, 42, 43, 44, 45, 46] (by decide +kernel) (by decide +kernel)
set_option maxRecDepth 20000 in
theorem gX7_sets_X7_flowDown : GoodIn wsX7_sets (wsV RX7 156 RX7 yX7_flowDown wsX7_flowDown) := goodIn_app (goodIn_of _ (by decide +kernel)) ggX7_sets_X7_flowDown
theorem dX7_sets_0 : decode cX7_sets 0 = .ok (.aload_n 0, 1) := by decide +kernel
theorem dX7_sets_1 : decode cX7_sets 1 = .ok (.getfield 13, 3) := by decide +kernel
theorem dX7_sets_4 : decode cX7_sets 4 = .ok (.bipush 25, 2) := by decide +kernel
theorem dX7_sets_6 : decode cX7_sets 6 = .ok (.iload_n 1, 1) := by decide +kernel
theorem dX7_sets_7 : decode cX7_sets 7 = .ok (.imul, 1) := by decide +kernel
theorem dX7_sets_8 : decode cX7_sets 8 = .ok (.iload_n 2, 1) := by decide +kernel
theorem dX7_sets_9 : decode cX7_sets 9 = .ok (.iadd, 1) := by decide +kernel
theorem dX7_sets_10 : decode cX7_sets 10 = .ok (.iload_n 3, 1) := by decide +kernel
theorem dX7_sets_11 : decode cX7_sets 11 = .ok (.iastore, 1) := by decide +kernel
theorem dX7_sets_12 : decode cX7_sets 12 = .ok (.iload_n 2, 1) := by decide +kernel
theorem dX7_sets_13 : decode cX7_sets 13 = .ok (.ifCond .ne 8, 3) := by decide +kernel
theorem dX7_sets_16 : decode cX7_sets 16 = .ok (.iload_n 3, 1) := by decide +kernel
theorem dX7_sets_17 : decode cX7_sets 17 = .ok (.iconst 1, 1) := by decide +kernel
theorem dX7_sets_18 : decode cX7_sets 18 = .ok (.if_icmp .ne 4, 3) := by decide +kernel
theorem dX7_sets_21 : decode cX7_sets 21 = .ok (.return_, 1) := by decide +kernel
theorem dX7_sets_22 : decode cX7_sets 22 = .ok (.iconst 0, 1) := by decide +kernel
theorem dX7_sets_23 : decode cX7_sets 23 = .ok (.istore 4, 2) := by decide +kernel
theorem dX7_sets_25 : decode cX7_sets 25 = .ok (.iconst 0, 1) := by decide +kernel
theorem dX7_sets_26 : decode cX7_sets 26 = .ok (.istore 5, 2) := by decide +kernel
theorem dX7_sets_28 : decode cX7_sets 28 = .ok (.iload 5, 2) := by decide +kernel
theorem dX7_sets_30 : decode cX7_sets 30 = .ok (.aload_n 0, 1) := by decide +kernel
theorem dX7_sets_31 : decode cX7_sets 31 = .ok (.getfield 33, 3) := by decide +kernel
theorem dX7_sets_34 : decode cX7_sets 34 = .ok (.iload_n 1, 1) := by decide +kernel
theorem dX7_sets_35 : decode cX7_sets 35 = .ok (.iaload, 1) := by decide +kernel
theorem dX7_sets_36 : decode cX7_sets 36 = .ok (.if_icmp .ge 81, 3) := by decide +kernel
theorem dX7_sets_39 : decode cX7_sets 39 = .ok (.aload_n 0, 1) := by decide +kernel
theorem dX7_sets_40 : decode cX7_sets 40 = .ok (.getfield 26, 3) := by decide +kernel
theorem dX7_sets_43 : decode cX7_sets 43 = .ok (.bipush 65, 2) := by decide +kernel
theorem dX7_sets_45 : decode cX7_sets 45 = .ok (.iload_n 1, 1) := by decide +kernel
theorem dX7_sets_46 : decode cX7_sets 46 = .ok (.imul, 1) := by decide +kernel
theorem dX7_sets_47 : decode cX7_sets 47 = .ok (.iload 5, 2) := by decide +kernel
theorem dX7_sets_49 : decode cX7_sets 49 = .ok (.iadd, 1) := by decide +kernel
theorem dX7_sets_50 : decode cX7_sets 50 = .ok (.iaload, 1) := by decide +kernel
theorem dX7_sets_51 : decode cX7_sets 51 = .ok (.sipush 256, 3) := by decide +kernel
theorem dX7_sets_54 : decode cX7_sets 54 = .ok (.if_icmp .ne 6, 3) := by decide +kernel
theorem dX7_sets_57 : decode cX7_sets 57 = .ok (.goto 54, 3) := by decide +kernel
theorem dX7_sets_60 : decode cX7_sets 60 = .ok (.aload_n 0, 1) := by decide +kernel
theorem dX7_sets_61 : decode cX7_sets 61 = .ok (.getfield 26, 3) := by decide +kernel
theorem dX7_sets_64 : decode cX7_sets 64 = .ok (.bipush 65, 2) := by decide +kernel
theorem dX7_sets_66 : decode cX7_sets 66 = .ok (.iload_n 1, 1) := by decide +kernel
theorem dX7_sets_67 : decode cX7_sets 67 = .ok (.imul, 1) := by decide +kernel
theorem dX7_sets_68 : decode cX7_sets 68 = .ok (.iload 4, 2) := by decide +kernel
theorem dX7_sets_70 : decode cX7_sets 70 = .ok (.iadd, 1) := by decide +kernel
theorem dX7_sets_71 : decode cX7_sets 71 = .ok (.aload_n 0, 1) := by decide +kernel
theorem dX7_sets_72 : decode cX7_sets 72 = .ok (.getfield 26, 3) := by decide +kernel
theorem dX7_sets_75 : decode cX7_sets 75 = .ok (.bipush 65, 2) := by decide +kernel
theorem dX7_sets_77 : decode cX7_sets 77 = .ok (.iload_n 1, 1) := by decide +kernel
theorem dX7_sets_78 : decode cX7_sets 78 = .ok (.imul, 1) := by decide +kernel
theorem dX7_sets_79 : decode cX7_sets 79 = .ok (.iload 5, 2) := by decide +kernel
theorem dX7_sets_81 : decode cX7_sets 81 = .ok (.iadd, 1) := by decide +kernel
theorem dX7_sets_82 : decode cX7_sets 82 = .ok (.iaload, 1) := by decide +kernel
theorem dX7_sets_83 : decode cX7_sets 83 = .ok (.iastore, 1) := by decide +kernel
theorem dX7_sets_84 : decode cX7_sets 84 = .ok (.aload_n 0, 1) := by decide +kernel
theorem dX7_sets_85 : decode cX7_sets 85 = .ok (.getfield 29, 3) := by decide +kernel
theorem dX7_sets_88 : decode cX7_sets 88 = .ok (.bipush 65, 2) := by decide +kernel
theorem dX7_sets_90 : decode cX7_sets 90 = .ok (.iload_n 1, 1) := by decide +kernel
theorem dX7_sets_91 : decode cX7_sets 91 = .ok (.imul, 1) := by decide +kernel
theorem dX7_sets_92 : decode cX7_sets 92 = .ok (.iload 4, 2) := by decide +kernel
theorem dX7_sets_94 : decode cX7_sets 94 = .ok (.iadd, 1) := by decide +kernel
theorem dX7_sets_95 : decode cX7_sets 95 = .ok (.aload_n 0, 1) := by decide +kernel
theorem dX7_sets_96 : decode cX7_sets 96 = .ok (.getfield 29, 3) := by decide +kernel
theorem dX7_sets_99 : decode cX7_sets 99 = .ok (.bipush 65, 2) := by decide +kernel
theorem dX7_sets_101 : decode cX7_sets 101 = .ok (.iload_n 1, 1) := by decide +kernel
theorem dX7_sets_102 : decode cX7_sets 102 = .ok (.imul, 1) := by decide +kernel
theorem dX7_sets_103 : decode cX7_sets 103 = .ok (.iload 5, 2) := by decide +kernel
theorem dX7_sets_105 : decode cX7_sets 105 = .ok (.iadd, 1) := by decide +kernel
theorem dX7_sets_106 : decode cX7_sets 106 = .ok (.baload, 1) := by decide +kernel
theorem dX7_sets_107 : decode cX7_sets 107 = .ok (.bastore, 1) := by decide +kernel
theorem dX7_sets_108 : decode cX7_sets 108 = .ok (.iinc 4 1, 3) := by decide +kernel
theorem dX7_sets_111 : decode cX7_sets 111 = .ok (.iinc 5 1, 3) := by decide +kernel
theorem dX7_sets_114 : decode cX7_sets 114 = .ok (.goto (-86), 3) := by decide +kernel
theorem dX7_sets_117 : decode cX7_sets 117 = .ok (.aload_n 0, 1) := by decide +kernel
theorem dX7_sets_118 : decode cX7_sets 118 = .ok (.getfield 33, 3) := by decide +kernel
theorem dX7_sets_121 : decode cX7_sets 121 = .ok (.iload_n 1, 1) := by decide +kernel
theorem dX7_sets_122 : decode cX7_sets 122 = .ok (.iload 4, 2) := by decide +kernel
theorem dX7_sets_124 : decode cX7_sets 124 = .ok (.iastore, 1) := by decide +kernel
theorem dX7_sets_125 : decode cX7_sets 125 = .ok (.aload_n 0, 1) := by decide +kernel
theorem dX7_sets_126 : decode cX7_sets 126 = .ok (.getfield 36, 3) := by decide +kernel
theorem dX7_sets_129 : decode cX7_sets 129 = .ok (.iload_n 1, 1) := by decide +kernel
theorem dX7_sets_130 : decode cX7_sets 130 = .ok (.iload 4, 2) := by decide +kernel
theorem dX7_sets_132 : decode cX7_sets 132 = .ok (.iastore, 1) := by decide +kernel
theorem dX7_sets_133 : decode cX7_sets 133 = .ok (.aload_n 0, 1) := by decide +kernel
theorem dX7_sets_134 : decode cX7_sets 134 = .ok (.iload_n 1, 1) := by decide +kernel
theorem dX7_sets_135 : decode cX7_sets 135 = .ok (.invokevirtual 156, 3) := by decide +kernel
theorem dX7_sets_138 : decode cX7_sets 138 = .ok (.return_, 1) := by decide +kernel
set_option maxRecDepth 20000 in
theorem ggX7_settle_X7_emptyStore : GoodIn wsX7_settle wsX7_emptyStore := goodIn_r _ [10, 11, 12, 13, 14, 15, 9, 16, 17, 18, 26, 27, 28, 29, 30, 31, 32, 33, 34, 35, 36, 37, 38, 39, 40, 41, 42, 43, 44, 45, 46, 47, 48, 49, 50, 51, 52, 53, 54, 55, 56, 57, 58, 59] (by decide +kernel) (by decide +kernel)
set_option maxRecDepth 20000 in
theorem gX7_settle_X7_emptyStore : GoodIn wsX7_settle (wsV RX7 174 RX7 yX7_emptyStore wsX7_emptyStore) := goodIn_app (goodIn_of _ (by decide +kernel)) ggX7_settle_X7_emptyStore
set_option maxRecDepth 20000 in
theorem ggX7_settle_X7_sets : GoodIn wsX7_settle wsX7_sets := goodIn_r _ [22, 23, 11, 24, 25, 12, 13, 14, 15, 9, 16, 17, 18, 26, 27, 28, 29, 30, 31, 32, 33, 34, 35, 36, 37, 38, 39, 40, 41, 42, 43, 44, 45, 46, 47, 48, 49, 50, 51, 52, 53, 54, 55, 56, 57, 58, 59] (by decide +kernel) (by decide +kernel)
set_option maxRecDepth 20000 in
theorem gX7_settle_X7_sets : GoodIn wsX7_settle (wsV RX7 203 RX7 yX7_sets wsX7_sets) := goodIn_app (goodIn_of _ (by decide +kernel)) ggX7_settle_X7_sets
theorem dX7_settle_0 : decode cX7_settle 0 = .ok (.aload_n 0, 1) := by decide +kernel
theorem dX7_settle_1 : decode cX7_settle 1 = .ok (.getfield 81, 3) := by decide +kernel
theorem dX7_settle_4 : decode cX7_settle 4 = .ok (.iload_n 1, 1) := by decide +kernel
theorem dX7_settle_5 : decode cX7_settle 5 = .ok (.iaload, 1) := by decide +kernel
theorem dX7_settle_6 : decode cX7_settle 6 = .ok (.ifCond .le 188, 3) := by decide +kernel
theorem dX7_settle_9 : decode cX7_settle 9 = .ok (.aload_n 0, 1) := by decide +kernel
theorem dX7_settle_10 : decode cX7_settle 10 = .ok (.getfield 93, 3) := by decide +kernel
theorem dX7_settle_13 : decode cX7_settle 13 = .ok (.iconst 3, 1) := by decide +kernel
theorem dX7_settle_14 : decode cX7_settle 14 = .ok (.iload_n 1, 1) := by decide +kernel
theorem dX7_settle_15 : decode cX7_settle 15 = .ok (.imul, 1) := by decide +kernel
theorem dX7_settle_16 : decode cX7_settle 16 = .ok (.iaload, 1) := by decide +kernel
theorem dX7_settle_17 : decode cX7_settle 17 = .ok (.ifCond .ne 177, 3) := by decide +kernel
theorem dX7_settle_20 : decode cX7_settle 20 = .ok (.aload_n 0, 1) := by decide +kernel
theorem dX7_settle_21 : decode cX7_settle 21 = .ok (.getfield 84, 3) := by decide +kernel
theorem dX7_settle_24 : decode cX7_settle 24 = .ok (.iconst 3, 1) := by decide +kernel
theorem dX7_settle_25 : decode cX7_settle 25 = .ok (.iload_n 1, 1) := by decide +kernel
theorem dX7_settle_26 : decode cX7_settle 26 = .ok (.imul, 1) := by decide +kernel
theorem dX7_settle_27 : decode cX7_settle 27 = .ok (.iaload, 1) := by decide +kernel
theorem dX7_settle_28 : decode cX7_settle 28 = .ok (.istore_n 2, 1) := by decide +kernel
theorem dX7_settle_29 : decode cX7_settle 29 = .ok (.aload_n 0, 1) := by decide +kernel
theorem dX7_settle_30 : decode cX7_settle 30 = .ok (.getfield 87, 3) := by decide +kernel
theorem dX7_settle_33 : decode cX7_settle 33 = .ok (.iconst 3, 1) := by decide +kernel
theorem dX7_settle_34 : decode cX7_settle 34 = .ok (.iload_n 1, 1) := by decide +kernel
theorem dX7_settle_35 : decode cX7_settle 35 = .ok (.imul, 1) := by decide +kernel
theorem dX7_settle_36 : decode cX7_settle 36 = .ok (.iaload, 1) := by decide +kernel
theorem dX7_settle_37 : decode cX7_settle 37 = .ok (.istore_n 3, 1) := by decide +kernel
theorem dX7_settle_38 : decode cX7_settle 38 = .ok (.aload_n 0, 1) := by decide +kernel
theorem dX7_settle_39 : decode cX7_settle 39 = .ok (.getfield 90, 3) := by decide +kernel
theorem dX7_settle_42 : decode cX7_settle 42 = .ok (.iconst 3, 1) := by decide +kernel
theorem dX7_settle_43 : decode cX7_settle 43 = .ok (.iload_n 1, 1) := by decide +kernel
theorem dX7_settle_44 : decode cX7_settle 44 = .ok (.imul, 1) := by decide +kernel
theorem dX7_settle_45 : decode cX7_settle 45 = .ok (.baload, 1) := by decide +kernel
theorem dX7_settle_46 : decode cX7_settle 46 = .ok (.istore 4, 2) := by decide +kernel
theorem dX7_settle_48 : decode cX7_settle 48 = .ok (.aload_n 0, 1) := by decide +kernel
theorem dX7_settle_49 : decode cX7_settle 49 = .ok (.getfield 81, 3) := by decide +kernel
theorem dX7_settle_52 : decode cX7_settle 52 = .ok (.iload_n 1, 1) := by decide +kernel
theorem dX7_settle_53 : decode cX7_settle 53 = .ok (.dup2, 1) := by decide +kernel
theorem dX7_settle_54 : decode cX7_settle 54 = .ok (.iaload, 1) := by decide +kernel
theorem dX7_settle_55 : decode cX7_settle 55 = .ok (.iconst 1, 1) := by decide +kernel
theorem dX7_settle_56 : decode cX7_settle 56 = .ok (.isub, 1) := by decide +kernel
theorem dX7_settle_57 : decode cX7_settle 57 = .ok (.iastore, 1) := by decide +kernel
theorem dX7_settle_58 : decode cX7_settle 58 = .ok (.iconst 0, 1) := by decide +kernel
theorem dX7_settle_59 : decode cX7_settle 59 = .ok (.istore 5, 2) := by decide +kernel
theorem dX7_settle_61 : decode cX7_settle 61 = .ok (.iload 5, 2) := by decide +kernel
theorem dX7_settle_63 : decode cX7_settle 63 = .ok (.aload_n 0, 1) := by decide +kernel
theorem dX7_settle_64 : decode cX7_settle 64 = .ok (.getfield 81, 3) := by decide +kernel
theorem dX7_settle_67 : decode cX7_settle 67 = .ok (.iload_n 1, 1) := by decide +kernel
theorem dX7_settle_68 : decode cX7_settle 68 = .ok (.iaload, 1) := by decide +kernel
theorem dX7_settle_69 : decode cX7_settle 69 = .ok (.if_icmp .ge 105, 3) := by decide +kernel
theorem dX7_settle_72 : decode cX7_settle 72 = .ok (.aload_n 0, 1) := by decide +kernel
theorem dX7_settle_73 : decode cX7_settle 73 = .ok (.getfield 84, 3) := by decide +kernel
theorem dX7_settle_76 : decode cX7_settle 76 = .ok (.iconst 3, 1) := by decide +kernel
theorem dX7_settle_77 : decode cX7_settle 77 = .ok (.iload_n 1, 1) := by decide +kernel
theorem dX7_settle_78 : decode cX7_settle 78 = .ok (.imul, 1) := by decide +kernel
theorem dX7_settle_79 : decode cX7_settle 79 = .ok (.iload 5, 2) := by decide +kernel
theorem dX7_settle_81 : decode cX7_settle 81 = .ok (.iadd, 1) := by decide +kernel
theorem dX7_settle_82 : decode cX7_settle 82 = .ok (.aload_n 0, 1) := by decide +kernel
theorem dX7_settle_83 : decode cX7_settle 83 = .ok (.getfield 84, 3) := by decide +kernel
theorem dX7_settle_86 : decode cX7_settle 86 = .ok (.iconst 3, 1) := by decide +kernel
theorem dX7_settle_87 : decode cX7_settle 87 = .ok (.iload_n 1, 1) := by decide +kernel
theorem dX7_settle_88 : decode cX7_settle 88 = .ok (.imul, 1) := by decide +kernel
theorem dX7_settle_89 : decode cX7_settle 89 = .ok (.iload 5, 2) := by decide +kernel
theorem dX7_settle_91 : decode cX7_settle 91 = .ok (.iadd, 1) := by decide +kernel
theorem dX7_settle_92 : decode cX7_settle 92 = .ok (.iconst 1, 1) := by decide +kernel
theorem dX7_settle_93 : decode cX7_settle 93 = .ok (.iadd, 1) := by decide +kernel
theorem dX7_settle_94 : decode cX7_settle 94 = .ok (.iaload, 1) := by decide +kernel
theorem dX7_settle_95 : decode cX7_settle 95 = .ok (.iastore, 1) := by decide +kernel
theorem dX7_settle_96 : decode cX7_settle 96 = .ok (.aload_n 0, 1) := by decide +kernel
theorem dX7_settle_97 : decode cX7_settle 97 = .ok (.getfield 87, 3) := by decide +kernel
theorem dX7_settle_100 : decode cX7_settle 100 = .ok (.iconst 3, 1) := by decide +kernel
theorem dX7_settle_101 : decode cX7_settle 101 = .ok (.iload_n 1, 1) := by decide +kernel
theorem dX7_settle_102 : decode cX7_settle 102 = .ok (.imul, 1) := by decide +kernel
theorem dX7_settle_103 : decode cX7_settle 103 = .ok (.iload 5, 2) := by decide +kernel
theorem dX7_settle_105 : decode cX7_settle 105 = .ok (.iadd, 1) := by decide +kernel
theorem dX7_settle_106 : decode cX7_settle 106 = .ok (.aload_n 0, 1) := by decide +kernel
theorem dX7_settle_107 : decode cX7_settle 107 = .ok (.getfield 87, 3) := by decide +kernel
theorem dX7_settle_110 : decode cX7_settle 110 = .ok (.iconst 3, 1) := by decide +kernel
theorem dX7_settle_111 : decode cX7_settle 111 = .ok (.iload_n 1, 1) := by decide +kernel
theorem dX7_settle_112 : decode cX7_settle 112 = .ok (.imul, 1) := by decide +kernel
theorem dX7_settle_113 : decode cX7_settle 113 = .ok (.iload 5, 2) := by decide +kernel
theorem dX7_settle_115 : decode cX7_settle 115 = .ok (.iadd, 1) := by decide +kernel
theorem dX7_settle_116 : decode cX7_settle 116 = .ok (.iconst 1, 1) := by decide +kernel
theorem dX7_settle_117 : decode cX7_settle 117 = .ok (.iadd, 1) := by decide +kernel
theorem dX7_settle_118 : decode cX7_settle 118 = .ok (.iaload, 1) := by decide +kernel
theorem dX7_settle_119 : decode cX7_settle 119 = .ok (.iastore, 1) := by decide +kernel
theorem dX7_settle_120 : decode cX7_settle 120 = .ok (.aload_n 0, 1) := by decide +kernel
theorem dX7_settle_121 : decode cX7_settle 121 = .ok (.getfield 90, 3) := by decide +kernel
theorem dX7_settle_124 : decode cX7_settle 124 = .ok (.iconst 3, 1) := by decide +kernel
theorem dX7_settle_125 : decode cX7_settle 125 = .ok (.iload_n 1, 1) := by decide +kernel
theorem dX7_settle_126 : decode cX7_settle 126 = .ok (.imul, 1) := by decide +kernel
theorem dX7_settle_127 : decode cX7_settle 127 = .ok (.iload 5, 2) := by decide +kernel
theorem dX7_settle_129 : decode cX7_settle 129 = .ok (.iadd, 1) := by decide +kernel
theorem dX7_settle_130 : decode cX7_settle 130 = .ok (.aload_n 0, 1) := by decide +kernel
theorem dX7_settle_131 : decode cX7_settle 131 = .ok (.getfield 90, 3) := by decide +kernel
theorem dX7_settle_134 : decode cX7_settle 134 = .ok (.iconst 3, 1) := by decide +kernel
theorem dX7_settle_135 : decode cX7_settle 135 = .ok (.iload_n 1, 1) := by decide +kernel
theorem dX7_settle_136 : decode cX7_settle 136 = .ok (.imul, 1) := by decide +kernel
theorem dX7_settle_137 : decode cX7_settle 137 = .ok (.iload 5, 2) := by decide +kernel
theorem dX7_settle_139 : decode cX7_settle 139 = .ok (.iadd, 1) := by decide +kernel
theorem dX7_settle_140 : decode cX7_settle 140 = .ok (.iconst 1, 1) := by decide +kernel
theorem dX7_settle_141 : decode cX7_settle 141 = .ok (.iadd, 1) := by decide +kernel
theorem dX7_settle_142 : decode cX7_settle 142 = .ok (.baload, 1) := by decide +kernel
theorem dX7_settle_143 : decode cX7_settle 143 = .ok (.bastore, 1) := by decide +kernel
theorem dX7_settle_144 : decode cX7_settle 144 = .ok (.aload_n 0, 1) := by decide +kernel
theorem dX7_settle_145 : decode cX7_settle 145 = .ok (.getfield 93, 3) := by decide +kernel
theorem dX7_settle_148 : decode cX7_settle 148 = .ok (.iconst 3, 1) := by decide +kernel
theorem dX7_settle_149 : decode cX7_settle 149 = .ok (.iload_n 1, 1) := by decide +kernel
theorem dX7_settle_150 : decode cX7_settle 150 = .ok (.imul, 1) := by decide +kernel
theorem dX7_settle_151 : decode cX7_settle 151 = .ok (.iload 5, 2) := by decide +kernel
theorem dX7_settle_153 : decode cX7_settle 153 = .ok (.iadd, 1) := by decide +kernel
theorem dX7_settle_154 : decode cX7_settle 154 = .ok (.aload_n 0, 1) := by decide +kernel
theorem dX7_settle_155 : decode cX7_settle 155 = .ok (.getfield 93, 3) := by decide +kernel
theorem dX7_settle_158 : decode cX7_settle 158 = .ok (.iconst 3, 1) := by decide +kernel
theorem dX7_settle_159 : decode cX7_settle 159 = .ok (.iload_n 1, 1) := by decide +kernel
theorem dX7_settle_160 : decode cX7_settle 160 = .ok (.imul, 1) := by decide +kernel
theorem dX7_settle_161 : decode cX7_settle 161 = .ok (.iload 5, 2) := by decide +kernel
theorem dX7_settle_163 : decode cX7_settle 163 = .ok (.iadd, 1) := by decide +kernel
theorem dX7_settle_164 : decode cX7_settle 164 = .ok (.iconst 1, 1) := by decide +kernel
theorem dX7_settle_165 : decode cX7_settle 165 = .ok (.iadd, 1) := by decide +kernel
theorem dX7_settle_166 : decode cX7_settle 166 = .ok (.iaload, 1) := by decide +kernel
theorem dX7_settle_167 : decode cX7_settle 167 = .ok (.iastore, 1) := by decide +kernel
theorem dX7_settle_168 : decode cX7_settle 168 = .ok (.iinc 5 1, 3) := by decide +kernel
theorem dX7_settle_171 : decode cX7_settle 171 = .ok (.goto (-110), 3) := by decide +kernel
theorem dX7_settle_174 : decode cX7_settle 174 = .ok (.iload 4, 2) := by decide +kernel
theorem dX7_settle_176 : decode cX7_settle 176 = .ok (.ifCond .eq 8, 3) := by decide +kernel
theorem dX7_settle_179 : decode cX7_settle 179 = .ok (.aload_n 0, 1) := by decide +kernel
theorem dX7_settle_180 : decode cX7_settle 180 = .ok (.iload_n 1, 1) := by decide +kernel
theorem dX7_settle_181 : decode cX7_settle 181 = .ok (.invokevirtual 174, 3) := by decide +kernel
theorem dX7_settle_184 : decode cX7_settle 184 = .ok (.aload_n 0, 1) := by decide +kernel
theorem dX7_settle_185 : decode cX7_settle 185 = .ok (.iload_n 1, 1) := by decide +kernel
theorem dX7_settle_186 : decode cX7_settle 186 = .ok (.iload_n 2, 1) := by decide +kernel
theorem dX7_settle_187 : decode cX7_settle 187 = .ok (.iload_n 3, 1) := by decide +kernel
theorem dX7_settle_188 : decode cX7_settle 188 = .ok (.invokevirtual 203, 3) := by decide +kernel
theorem dX7_settle_191 : decode cX7_settle 191 = .ok (.goto (-191), 3) := by decide +kernel
theorem dX7_settle_194 : decode cX7_settle 194 = .ok (.return_, 1) := by decide +kernel
set_option maxRecDepth 20000 in
theorem ggX7_emptyAll_X7_settle : GoodIn wsX7_emptyAll wsX7_settle := goodIn_r _ [9, 3, 4, 10, 11, 12, 13, 14, 15, 8, 16, 17, 18, 19, 20, 21, 22, 23, 24, 25, 26, 27, 28, 29, 30, 31, 32, 33, 34, 35, 36, 37, 38, 39, 40, 41, 42, 43, 44, 45, 46, 47, 48, 49, 50, 51, 52, 53, 54, 55, 56, 57, 58, 59, 60, 61, 62, 63, 64, 65] (by decide +kernel) (by decide +kernel)
