theorem dX10_init_0 : decode cX10_init 0 = .ok (.aload_n 0, 1) := by decide +kernel
theorem dX10_init_1 : decode cX10_init 1 = .ok (.invokespecial 1, 3) := by decide +kernel
theorem dX10_init_4 : decode cX10_init 4 = .ok (.aload_n 0, 1) := by decide +kernel
theorem dX10_init_5 : decode cX10_init 5 = .ok (.iconst 5, 1) := by decide +kernel
theorem dX10_init_6 : decode cX10_init 6 = .ok (.putfield 7, 3) := by decide +kernel
theorem dX10_init_9 : decode cX10_init 9 = .ok (.aload_n 0, 1) := by decide +kernel
theorem dX10_init_10 : decode cX10_init 10 = .ok (.iconst 5, 1) := by decide +kernel
theorem dX10_init_11 : decode cX10_init 11 = .ok (.putfield 13, 3) := by decide +kernel
theorem dX10_init_14 : decode cX10_init 14 = .ok (.aload_n 0, 1) := by decide +kernel
theorem dX10_init_15 : decode cX10_init 15 = .ok (.iconst 1, 1) := by decide +kernel
theorem dX10_init_16 : decode cX10_init 16 = .ok (.putfield 16, 3) := by decide +kernel
theorem dX10_init_19 : decode cX10_init 19 = .ok (.aload_n 0, 1) := by decide +kernel
theorem dX10_init_20 : decode cX10_init 20 = .ok (.iconst 0, 1) := by decide +kernel
theorem dX10_init_21 : decode cX10_init 21 = .ok (.putfield 19, 3) := by decide +kernel
theorem dX10_init_24 : decode cX10_init 24 = .ok (.aload_n 0, 1) := by decide +kernel
theorem dX10_init_25 : decode cX10_init 25 = .ok (.sipush 4160, 3) := by decide +kernel
theorem dX10_init_28 : decode cX10_init 28 = .ok (.newarray .int, 2) := by decide +kernel
theorem dX10_init_30 : decode cX10_init 30 = .ok (.putfield 22, 3) := by decide +kernel
theorem dX10_init_33 : decode cX10_init 33 = .ok (.aload_n 0, 1) := by decide +kernel
theorem dX10_init_34 : decode cX10_init 34 = .ok (.bipush 16, 2) := by decide +kernel
theorem dX10_init_36 : decode cX10_init 36 = .ok (.newarray .int, 2) := by decide +kernel
theorem dX10_init_38 : decode cX10_init 38 = .ok (.putfield 26, 3) := by decide +kernel
theorem dX10_init_41 : decode cX10_init 41 = .ok (.aload_n 0, 1) := by decide +kernel
theorem dX10_init_42 : decode cX10_init 42 = .ok (.sipush 128, 3) := by decide +kernel
theorem dX10_init_45 : decode cX10_init 45 = .ok (.newarray .int, 2) := by decide +kernel
theorem dX10_init_47 : decode cX10_init 47 = .ok (.putfield 29, 3) := by decide +kernel
theorem dX10_init_50 : decode cX10_init 50 = .ok (.aload_n 0, 1) := by decide +kernel
theorem dX10_init_51 : decode cX10_init 51 = .ok (.sipush 128, 3) := by decide +kernel
theorem dX10_init_54 : decode cX10_init 54 = .ok (.newarray .int, 2) := by decide +kernel
theorem dX10_init_56 : decode cX10_init 56 = .ok (.putfield 32, 3) := by decide +kernel
theorem dX10_init_59 : decode cX10_init 59 = .ok (.aload_n 0, 1) := by decide +kernel
theorem dX10_init_60 : decode cX10_init 60 = .ok (.iconst 0, 1) := by decide +kernel
theorem dX10_init_61 : decode cX10_init 61 = .ok (.putfield 35, 3) := by decide +kernel
theorem dX10_init_64 : decode cX10_init 64 = .ok (.aload_n 0, 1) := by decide +kernel
theorem dX10_init_65 : decode cX10_init 65 = .ok (.sipush 512, 3) := by decide +kernel
theorem dX10_init_68 : decode cX10_init 68 = .ok (.newarray .int, 2) := by decide +kernel
theorem dX10_init_70 : decode cX10_init 70 = .ok (.putfield 38, 3) := by decide +kernel
theorem dX10_init_73 : decode cX10_init 73 = .ok (.aload_n 0, 1) := by decide +kernel
theorem dX10_init_74 : decode cX10_init 74 = .ok (.sipush 128, 3) := by decide +kernel
theorem dX10_init_77 : decode cX10_init 77 = .ok (.newarray .int, 2) := by decide +kernel
theorem dX10_init_79 : decode cX10_init 79 = .ok (.putfield 41, 3) := by decide +kernel
theorem dX10_init_82 : decode cX10_init 82 = .ok (.aload_n 0, 1) := by decide +kernel
theorem dX10_init_83 : decode cX10_init 83 = .ok (.sipush 1024, 3) := by decide +kernel
theorem dX10_init_86 : decode cX10_init 86 = .ok (.newarray .int, 2) := by decide +kernel
theorem dX10_init_88 : decode cX10_init 88 = .ok (.putfield 44, 3) := by decide +kernel
theorem dX10_init_91 : decode cX10_init 91 = .ok (.aload_n 0, 1) := by decide +kernel
theorem dX10_init_92 : decode cX10_init 92 = .ok (.sipush 1024, 3) := by decide +kernel
theorem dX10_init_95 : decode cX10_init 95 = .ok (.newarray .int, 2) := by decide +kernel
theorem dX10_init_97 : decode cX10_init 97 = .ok (.putfield 47, 3) := by decide +kernel
theorem dX10_init_100 : decode cX10_init 100 = .ok (.aload_n 0, 1) := by decide +kernel
theorem dX10_init_101 : decode cX10_init 101 = .ok (.iconst (-1), 1) := by decide +kernel
theorem dX10_init_102 : decode cX10_init 102 = .ok (.putfield 50, 3) := by decide +kernel
theorem dX10_init_105 : decode cX10_init 105 = .ok (.aload_n 0, 1) := by decide +kernel
theorem dX10_init_106 : decode cX10_init 106 = .ok (.iconst 0, 1) := by decide +kernel
theorem dX10_init_107 : decode cX10_init 107 = .ok (.putfield 53, 3) := by decide +kernel
theorem dX10_init_110 : decode cX10_init 110 = .ok (.aload_n 0, 1) := by decide +kernel
theorem dX10_init_111 : decode cX10_init 111 = .ok (.bipush 8, 2) := by decide +kernel
theorem dX10_init_113 : decode cX10_init 113 = .ok (.newarray .int, 2) := by decide +kernel
theorem dX10_init_115 : decode cX10_init 115 = .ok (.putfield 56, 3) := by decide +kernel
theorem dX10_init_118 : decode cX10_init 118 = .ok (.aload_n 0, 1) := by decide +kernel
theorem dX10_init_119 : decode cX10_init 119 = .ok (.bipush 8, 2) := by decide +kernel
theorem dX10_init_121 : decode cX10_init 121 = .ok (.newarray .int, 2) := by decide +kernel
theorem dX10_init_123 : decode cX10_init 123 = .ok (.putfield 59, 3) := by decide +kernel
theorem dX10_init_126 : decode cX10_init 126 = .ok (.aload_n 0, 1) := by decide +kernel
theorem dX10_init_127 : decode cX10_init 127 = .ok (.iconst 0, 1) := by decide +kernel
theorem dX10_init_128 : decode cX10_init 128 = .ok (.putfield 62, 3) := by decide +kernel
theorem dX10_init_131 : decode cX10_init 131 = .ok (.aload_n 0, 1) := by decide +kernel
theorem dX10_init_132 : decode cX10_init 132 = .ok (.iconst 0, 1) := by decide +kernel
theorem dX10_init_133 : decode cX10_init 133 = .ok (.putfield 65, 3) := by decide +kernel
theorem dX10_init_136 : decode cX10_init 136 = .ok (.aload_n 0, 1) := by decide +kernel
theorem dX10_init_137 : decode cX10_init 137 = .ok (.iconst 0, 1) := by decide +kernel
theorem dX10_init_138 : decode cX10_init 138 = .ok (.putfield 68, 3) := by decide +kernel
theorem dX10_init_141 : decode cX10_init 141 = .ok (.aload_n 0, 1) := by decide +kernel
theorem dX10_init_142 : decode cX10_init 142 = .ok (.iconst (-1), 1) := by decide +kernel
theorem dX10_init_143 : decode cX10_init 143 = .ok (.putfield 71, 3) := by decide +kernel
theorem dX10_init_146 : decode cX10_init 146 = .ok (.aload_n 0, 1) := by decide +kernel
theorem dX10_init_147 : decode cX10_init 147 = .ok (.iconst 0, 1) := by decide +kernel
theorem dX10_init_148 : decode cX10_init 148 = .ok (.putfield 74, 3) := by decide +kernel
theorem dX10_init_151 : decode cX10_init 151 = .ok (.aload_n 0, 1) := by decide +kernel
theorem dX10_init_152 : decode cX10_init 152 = .ok (.iconst 0, 1) := by decide +kernel
theorem dX10_init_153 : decode cX10_init 153 = .ok (.putfield 77, 3) := by decide +kernel
theorem dX10_init_156 : decode cX10_init 156 = .ok (.aload_n 0, 1) := by decide +kernel
theorem dX10_init_157 : decode cX10_init 157 = .ok (.iconst 0, 1) := by decide +kernel
theorem dX10_init_158 : decode cX10_init 158 = .ok (.putfield 80, 3) := by decide +kernel
theorem dX10_init_161 : decode cX10_init 161 = .ok (.aload_n 0, 1) := by decide +kernel
theorem dX10_init_162 : decode cX10_init 162 = .ok (.iconst 0, 1) := by decide +kernel
theorem dX10_init_163 : decode cX10_init 163 = .ok (.putfield 83, 3) := by decide +kernel
theorem dX10_init_166 : decode cX10_init 166 = .ok (.aload_n 0, 1) := by decide +kernel
theorem dX10_init_167 : decode cX10_init 167 = .ok (.iconst 0, 1) := by decide +kernel
theorem dX10_init_168 : decode cX10_init 168 = .ok (.putfield 86, 3) := by decide +kernel
theorem dX10_init_171 : decode cX10_init 171 = .ok (.aload_n 0, 1) := by decide +kernel
theorem dX10_init_172 : decode cX10_init 172 = .ok (.bipush 64, 2) := by decide +kernel
theorem dX10_init_174 : decode cX10_init 174 = .ok (.newarray .int, 2) := by decide +kernel
theorem dX10_init_176 : decode cX10_init 176 = .ok (.putfield 89, 3) := by decide +kernel
theorem dX10_init_179 : decode cX10_init 179 = .ok (.aload_n 0, 1) := by decide +kernel
theorem dX10_init_180 : decode cX10_init 180 = .ok (.iconst 0, 1) := by decide +kernel
theorem dX10_init_181 : decode cX10_init 181 = .ok (.putfield 92, 3) := by decide +kernel
theorem dX10_init_184 : decode cX10_init 184 = .ok (.aload_n 0, 1) := by decide +kernel
theorem dX10_init_185 : decode cX10_init 185 = .ok (.iconst 0, 1) := by decide +kernel
theorem dX10_init_186 : decode cX10_init 186 = .ok (.putfield 95, 3) := by decide +kernel
theorem dX10_init_189 : decode cX10_init 189 = .ok (.aload_n 0, 1) := by decide +kernel
theorem dX10_init_190 : decode cX10_init 190 = .ok (.iconst 0, 1) := by decide +kernel
theorem dX10_init_191 : decode cX10_init 191 = .ok (.putfield 98, 3) := by decide +kernel
theorem dX10_init_194 : decode cX10_init 194 = .ok (.aload_n 0, 1) := by decide +kernel
theorem dX10_init_195 : decode cX10_init 195 = .ok (.iconst 0, 1) := by decide +kernel
theorem dX10_init_196 : decode cX10_init 196 = .ok (.putfield 101, 3) := by decide +kernel
theorem dX10_init_199 : decode cX10_init 199 = .ok (.aload_n 0, 1) := by decide +kernel
theorem dX10_init_200 : decode cX10_init 200 = .ok (.bipush 8, 2) := by decide +kernel
theorem dX10_init_202 : decode cX10_init 202 = .ok (.newarray .int, 2) := by decide +kernel
theorem dX10_init_204 : decode cX10_init 204 = .ok (.putfield 105, 3) := by decide +kernel
theorem dX10_init_207 : decode cX10_init 207 = .ok (.aload_n 0, 1) := by decide +kernel
theorem dX10_init_208 : decode cX10_init 208 = .ok (.bipush 8, 2) := by decide +kernel
theorem dX10_init_210 : decode cX10_init 210 = .ok (.newarray .int, 2) := by decide +kernel
theorem dX10_init_212 : decode cX10_init 212 = .ok (.putfield 108, 3) := by decide +kernel
theorem dX10_init_215 : decode cX10_init 215 = .ok (.aload_n 0, 1) := by decide +kernel
theorem dX10_init_216 : decode cX10_init 216 = .ok (.bipush 120, 2) := by decide +kernel
theorem dX10_init_218 : decode cX10_init 218 = .ok (.newarray .int, 2) := by decide +kernel
theorem dX10_init_220 : decode cX10_init 220 = .ok (.putfield 111, 3) := by decide +kernel
theorem dX10_init_223 : decode cX10_init 223 = .ok (.aload_n 0, 1) := by decide +kernel
theorem dX10_init_224 : decode cX10_init 224 = .ok (.sipush 300, 3) := by decide +kernel
theorem dX10_init_227 : decode cX10_init 227 = .ok (.newarray .int, 2) := by decide +kernel
theorem dX10_init_229 : decode cX10_init 229 = .ok (.putfield 114, 3) := by decide +kernel
theorem dX10_init_232 : decode cX10_init 232 = .ok (.aload_n 0, 1) := by decide +kernel
theorem dX10_init_233 : decode cX10_init 233 = .ok (.iconst 0, 1) := by decide +kernel
theorem dX10_init_234 : decode cX10_init 234 = .ok (.putfield 117, 3) := by decide +kernel
theorem dX10_init_237 : decode cX10_init 237 = .ok (.aload_n 0, 1) := by decide +kernel
theorem dX10_init_238 : decode cX10_init 238 = .ok (.iconst 0, 1) := by decide +kernel
theorem dX10_init_239 : decode cX10_init 239 = .ok (.putfield 120, 3) := by decide +kernel
theorem dX10_init_242 : decode cX10_init 242 = .ok (.aload_n 0, 1) := by decide +kernel
theorem dX10_init_243 : decode cX10_init 243 = .ok (.bipush 16, 2) := by decide +kernel
theorem dX10_init_245 : decode cX10_init 245 = .ok (.newarray .int, 2) := by decide +kernel
theorem dX10_init_247 : decode cX10_init 247 = .ok (.putfield 123, 3) := by decide +kernel
theorem dX10_init_250 : decode cX10_init 250 = .ok (.aload_n 0, 1) := by decide +kernel
theorem dX10_init_251 : decode cX10_init 251 = .ok (.sipush 128, 3) := by decide +kernel
theorem dX10_init_254 : decode cX10_init 254 = .ok (.newarray .int, 2) := by decide +kernel
theorem dX10_init_256 : decode cX10_init 256 = .ok (.putfield 126, 3) := by decide +kernel
theorem dX10_init_259 : decode cX10_init 259 = .ok (.aload_n 0, 1) := by decide +kernel
theorem dX10_init_260 : decode cX10_init 260 = .ok (.sipush 128, 3) := by decide +kernel
theorem dX10_init_263 : decode cX10_init 263 = .ok (.newarray .int, 2) := by decide +kernel
theorem dX10_init_265 : decode cX10_init 265 = .ok (.putfield 129, 3) := by decide +kernel
theorem dX10_init_268 : decode cX10_init 268 = .ok (.aload_n 0, 1) := by decide +kernel
theorem dX10_init_269 : decode cX10_init 269 = .ok (.iconst 0, 1) := by decide +kernel
theorem dX10_init_270 : decode cX10_init 270 = .ok (.putfield 132, 3) := by decide +kernel
theorem dX10_init_273 : decode cX10_init 273 = .ok (.aload_n 0, 1) := by decide +kernel
theorem dX10_init_274 : decode cX10_init 274 = .ok (.iconst 0, 1) := by decide +kernel
theorem dX10_init_275 : decode cX10_init 275 = .ok (.putfield 135, 3) := by decide +kernel
theorem dX10_init_278 : decode cX10_init 278 = .ok (.aload_n 0, 1) := by decide +kernel
theorem dX10_init_279 : decode cX10_init 279 = .ok (.iconst 0, 1) := by decide +kernel
theorem dX10_init_280 : decode cX10_init 280 = .ok (.putfield 138, 3) := by decide +kernel
theorem dX10_init_283 : decode cX10_init 283 = .ok (.aload_n 0, 1) := by decide +kernel
theorem dX10_init_284 : decode cX10_init 284 = .ok (.iconst 0, 1) := by decide +kernel
theorem dX10_init_285 : decode cX10_init 285 = .ok (.putfield 141, 3) := by decide +kernel
theorem dX10_init_288 : decode cX10_init 288 = .ok (.aload_n 0, 1) := by decide +kernel
theorem dX10_init_289 : decode cX10_init 289 = .ok (.bipush 64, 2) := by decide +kernel
theorem dX10_init_291 : decode cX10_init 291 = .ok (.newarray .int, 2) := by decide +kernel
theorem dX10_init_293 : decode cX10_init 293 = .ok (.putfield 144, 3) := by decide +kernel
theorem dX10_init_296 : decode cX10_init 296 = .ok (.aload_n 0, 1) := by decide +kernel
theorem dX10_init_297 : decode cX10_init 297 = .ok (.bipush 16, 2) := by decide +kernel
theorem dX10_init_299 : decode cX10_init 299 = .ok (.newarray .int, 2) := by decide +kernel
theorem dX10_init_301 : decode cX10_init 301 = .ok (.putfield 147, 3) := by decide +kernel
theorem dX10_init_304 : decode cX10_init 304 = .ok (.aload_n 0, 1) := by decide +kernel
theorem dX10_init_305 : decode cX10_init 305 = .ok (.sipush 128, 3) := by decide +kernel
theorem dX10_init_308 : decode cX10_init 308 = .ok (.newarray .int, 2) := by decide +kernel
theorem dX10_init_310 : decode cX10_init 310 = .ok (.putfield 150, 3) := by decide +kernel
theorem dX10_init_313 : decode cX10_init 313 = .ok (.aload_n 0, 1) := by decide +kernel
theorem dX10_init_314 : decode cX10_init 314 = .ok (.sipush 128, 3) := by decide +kernel
theorem dX10_init_317 : decode cX10_init 317 = .ok (.newarray .int, 2) := by decide +kernel
theorem dX10_init_319 : decode cX10_init 319 = .ok (.putfield 153, 3) := by decide +kernel
theorem dX10_init_322 : decode cX10_init 322 = .ok (.aload_n 0, 1) := by decide +kernel
theorem dX10_init_323 : decode cX10_init 323 = .ok (.iconst 3, 1) := by decide +kernel
theorem dX10_init_324 : decode cX10_init 324 = .ok (.newarray .int, 2) := by decide +kernel
theorem dX10_init_326 : decode cX10_init 326 = .ok (.dup, 1) := by decide +kernel
theorem dX10_init_327 : decode cX10_init 327 = .ok (.iconst 0, 1) := by decide +kernel
theorem dX10_init_328 : decode cX10_init 328 = .ok (.iconst (-1), 1) := by decide +kernel
theorem dX10_init_329 : decode cX10_init 329 = .ok (.iastore, 1) := by decide +kernel
theorem dX10_init_330 : decode cX10_init 330 = .ok (.dup, 1) := by decide +kernel
theorem dX10_init_331 : decode cX10_init 331 = .ok (.iconst 1, 1) := by decide +kernel
theorem dX10_init_332 : decode cX10_init 332 = .ok (.iconst (-1), 1) := by decide +kernel
theorem dX10_init_333 : decode cX10_init 333 = .ok (.iastore, 1) := by decide +kernel
theorem dX10_init_334 : decode cX10_init 334 = .ok (.dup, 1) := by decide +kernel
theorem dX10_init_335 : decode cX10_init 335 = .ok (.iconst 2, 1) := by decide +kernel
theorem dX10_init_336 : decode cX10_init 336 = .ok (.iconst (-1), 1) := by decide +kernel
theorem dX10_init_337 : decode cX10_init 337 = .ok (.iastore, 1) := by decide +kernel
theorem dX10_init_338 : decode cX10_init 338 = .ok (.putfield 156, 3) := by decide +kernel
theorem dX10_init_341 : decode cX10_init 341 = .ok (.aload_n 0, 1) := by decide +kernel
theorem dX10_init_342 : decode cX10_init 342 = .ok (.iconst 3, 1) := by decide +kernel
theorem dX10_init_343 : decode cX10_init 343 = .ok (.newarray .int, 2) := by decide +kernel
theorem dX10_init_345 : decode cX10_init 345 = .ok (.putfield 159, 3) := by decide +kernel
theorem dX10_init_348 : decode cX10_init 348 = .ok (.aload_n 0, 1) := by decide +kernel
theorem dX10_init_349 : decode cX10_init 349 = .ok (.sipush 192, 3) := by decide +kernel
theorem dX10_init_352 : decode cX10_init 352 = .ok (.newarray .int, 2) := by decide +kernel
theorem dX10_init_354 : decode cX10_init 354 = .ok (.putfield 162, 3) := by decide +kernel
theorem dX10_init_357 : decode cX10_init 357 = .ok (.aload_n 0, 1) := by decide +kernel
theorem dX10_init_358 : decode cX10_init 358 = .ok (.invokevirtual 165, 3) := by decide +kernel
theorem dX10_init_361 : decode cX10_init 361 = .ok (.return_, 1) := by decide +kernel
theorem dX10_within_0 : decode cX10_within 0 = .ok (.iload_n 1, 1) := by decide +kernel
theorem dX10_within_1 : decode cX10_within 1 = .ok (.iload_n 2, 1) := by decide +kernel
theorem dX10_within_2 : decode cX10_within 2 = .ok (.if_icmp .lt 12, 3) := by decide +kernel
theorem dX10_within_5 : decode cX10_within 5 = .ok (.iload_n 1, 1) := by decide +kernel
theorem dX10_within_6 : decode cX10_within 6 = .ok (.iload_n 3, 1) := by decide +kernel
theorem dX10_within_7 : decode cX10_within 7 = .ok (.if_icmp .gt 7, 3) := by decide +kernel
theorem dX10_within_10 : decode cX10_within 10 = .ok (.iconst 1, 1) := by decide +kernel
theorem dX10_within_11 : decode cX10_within 11 = .ok (.goto 4, 3) := by decide +kernel
theorem dX10_within_14 : decode cX10_within 14 = .ok (.iconst 0, 1) := by decide +kernel
theorem dX10_within_15 : decode cX10_within 15 = .ok (.ireturn, 1) := by decide +kernel
theorem dX10_open_0 : decode cX10_open 0 = .ok (.iconst 0, 1) := by decide +kernel
theorem dX10_open_1 : decode cX10_open 1 = .ok (.istore_n 1, 1) := by decide +kernel
theorem dX10_open_2 : decode cX10_open 2 = .ok (.iload_n 1, 1) := by decide +kernel
theorem dX10_open_3 : decode cX10_open 3 = .ok (.bipush 64, 2) := by decide +kernel
theorem dX10_open_5 : decode cX10_open 5 = .ok (.if_icmp .ge 23, 3) := by decide +kernel
theorem dX10_open_8 : decode cX10_open 8 = .ok (.aload_n 0, 1) := by decide +kernel
theorem dX10_open_9 : decode cX10_open 9 = .ok (.getfield 22, 3) := by decide +kernel
theorem dX10_open_12 : decode cX10_open 12 = .ok (.iload_n 1, 1) := by decide +kernel
theorem dX10_open_13 : decode cX10_open 13 = .ok (.iconst 2, 1) := by decide +kernel
theorem dX10_open_14 : decode cX10_open 14 = .ok (.aload_n 0, 1) := by decide +kernel
theorem dX10_open_15 : decode cX10_open 15 = .ok (.getfield 16, 3) := by decide +kernel
theorem dX10_open_18 : decode cX10_open 18 = .ok (.ishl, 1) := by decide +kernel
theorem dX10_open_19 : decode cX10_open 19 = .ok (.iconst 1, 1) := by decide +kernel
theorem dX10_open_20 : decode cX10_open 20 = .ok (.isub, 1) := by decide +kernel
theorem dX10_open_21 : decode cX10_open 21 = .ok (.iastore, 1) := by decide +kernel
theorem dX10_open_22 : decode cX10_open 22 = .ok (.iinc 1 1, 3) := by decide +kernel
theorem dX10_open_25 : decode cX10_open 25 = .ok (.goto (-23), 3) := by decide +kernel
theorem dX10_open_28 : decode cX10_open 28 = .ok (.return_, 1) := by decide +kernel
theorem dX10_lines_0 : decode cX10_lines 0 = .ok (.aload_n 0, 1) := by decide +kernel
theorem dX10_lines_1 : decode cX10_lines 1 = .ok (.getfield 7, 3) := by decide +kernel
theorem dX10_lines_4 : decode cX10_lines 4 = .ok (.aload_n 0, 1) := by decide +kernel
theorem dX10_lines_5 : decode cX10_lines 5 = .ok (.getfield 13, 3) := by decide +kernel
theorem dX10_lines_8 : decode cX10_lines 8 = .ok (.iadd, 1) := by decide +kernel
theorem dX10_lines_9 : decode cX10_lines 9 = .ok (.ireturn, 1) := by decide +kernel
theorem dX10_isLine_0 : decode cX10_isLine 0 = .ok (.aload_n 0, 1) := by decide +kernel
theorem dX10_isLine_1 : decode cX10_isLine 1 = .ok (.iload_n 1, 1) := by decide +kernel
theorem dX10_isLine_2 : decode cX10_isLine 2 = .ok (.iconst 0, 1) := by decide +kernel
theorem dX10_isLine_3 : decode cX10_isLine 3 = .ok (.aload_n 0, 1) := by decide +kernel
theorem dX10_isLine_4 : decode cX10_isLine 4 = .ok (.invokevirtual 168, 3) := by decide +kernel
theorem dX10_isLine_7 : decode cX10_isLine 7 = .ok (.iconst 1, 1) := by decide +kernel
theorem dX10_isLine_8 : decode cX10_isLine 8 = .ok (.isub, 1) := by decide +kernel
theorem dX10_isLine_9 : decode cX10_isLine 9 = .ok (.invokevirtual 172, 3) := by decide +kernel
theorem dX10_isLine_12 : decode cX10_isLine 12 = .ok (.ireturn, 1) := by decide +kernel
theorem dX10_isCell_0 : decode cX10_isCell 0 = .ok (.aload_n 0, 1) := by decide +kernel
theorem dX10_isCell_1 : decode cX10_isCell 1 = .ok (.iload_n 1, 1) := by decide +kernel
theorem dX10_isCell_2 : decode cX10_isCell 2 = .ok (.iconst 0, 1) := by decide +kernel
theorem dX10_isCell_3 : decode cX10_isCell 3 = .ok (.aload_n 0, 1) := by decide +kernel
theorem dX10_isCell_4 : decode cX10_isCell 4 = .ok (.getfield 7, 3) := by decide +kernel
theorem dX10_isCell_7 : decode cX10_isCell 7 = .ok (.iconst 1, 1) := by decide +kernel
theorem dX10_isCell_8 : decode cX10_isCell 8 = .ok (.isub, 1) := by decide +kernel
theorem dX10_isCell_9 : decode cX10_isCell 9 = .ok (.invokevirtual 172, 3) := by decide +kernel
theorem dX10_isCell_12 : decode cX10_isCell 12 = .ok (.ifCond .eq 22, 3) := by decide +kernel
theorem dX10_isCell_15 : decode cX10_isCell 15 = .ok (.aload_n 0, 1) := by decide +kernel
theorem dX10_isCell_16 : decode cX10_isCell 16 = .ok (.iload_n 2, 1) := by decide +kernel
theorem dX10_isCell_17 : decode cX10_isCell 17 = .ok (.iconst 0, 1) := by decide +kernel
theorem dX10_isCell_18 : decode cX10_isCell 18 = .ok (.aload_n 0, 1) := by decide +kernel
theorem dX10_isCell_19 : decode cX10_isCell 19 = .ok (.getfield 13, 3) := by decide +kernel
theorem dX10_isCell_22 : decode cX10_isCell 22 = .ok (.iconst 1, 1) := by decide +kernel
theorem dX10_isCell_23 : decode cX10_isCell 23 = .ok (.isub, 1) := by decide +kernel
theorem dX10_isCell_24 : decode cX10_isCell 24 = .ok (.invokevirtual 172, 3) := by decide +kernel
theorem dX10_isCell_27 : decode cX10_isCell 27 = .ok (.ifCond .eq 7, 3) := by decide +kernel
theorem dX10_isCell_30 : decode cX10_isCell 30 = .ok (.iconst 1, 1) := by decide +kernel
theorem dX10_isCell_31 : decode cX10_isCell 31 = .ok (.goto 4, 3) := by decide +kernel
theorem dX10_isCell_34 : decode cX10_isCell 34 = .ok (.iconst 0, 1) := by decide +kernel
theorem dX10_isCell_35 : decode cX10_isCell 35 = .ok (.ireturn, 1) := by decide +kernel
theorem dX10_isColor_0 : decode cX10_isColor 0 = .ok (.aload_n 0, 1) := by decide +kernel
theorem dX10_isColor_1 : decode cX10_isColor 1 = .ok (.iload_n 1, 1) := by decide +kernel
theorem dX10_isColor_2 : decode cX10_isColor 2 = .ok (.iconst 0, 1) := by decide +kernel
theorem dX10_isColor_3 : decode cX10_isColor 3 = .ok (.aload_n 0, 1) := by decide +kernel
theorem dX10_isColor_4 : decode cX10_isColor 4 = .ok (.getfield 16, 3) := by decide +kernel
theorem dX10_isColor_7 : decode cX10_isColor 7 = .ok (.invokevirtual 172, 3) := by decide +kernel
theorem dX10_isColor_10 : decode cX10_isColor 10 = .ok (.ireturn, 1) := by decide +kernel
theorem dX10_size_0 : decode cX10_size 0 = .ok (.iload_n 1, 1) := by decide +kernel
theorem dX10_size_1 : decode cX10_size 1 = .ok (.aload_n 0, 1) := by decide +kernel
theorem dX10_size_2 : decode cX10_size 2 = .ok (.getfield 7, 3) := by decide +kernel
theorem dX10_size_5 : decode cX10_size 5 = .ok (.if_icmp .ge 10, 3) := by decide +kernel
theorem dX10_size_8 : decode cX10_size 8 = .ok (.aload_n 0, 1) := by decide +kernel
theorem dX10_size_9 : decode cX10_size 9 = .ok (.getfield 13, 3) := by decide +kernel
theorem dX10_size_12 : decode cX10_size 12 = .ok (.goto 7, 3) := by decide +kernel
theorem dX10_size_15 : decode cX10_size 15 = .ok (.aload_n 0, 1) := by decide +kernel
theorem dX10_size_16 : decode cX10_size 16 = .ok (.getfield 7, 3) := by decide +kernel
theorem dX10_size_19 : decode cX10_size 19 = .ok (.ireturn, 1) := by decide +kernel
theorem dX10_cellOf_0 : decode cX10_cellOf 0 = .ok (.iload_n 1, 1) := by decide +kernel
theorem dX10_cellOf_1 : decode cX10_cellOf 1 = .ok (.aload_n 0, 1) := by decide +kernel
theorem dX10_cellOf_2 : decode cX10_cellOf 2 = .ok (.getfield 7, 3) := by decide +kernel
theorem dX10_cellOf_5 : decode cX10_cellOf 5 = .ok (.if_icmp .ge 12, 3) := by decide +kernel
theorem dX10_cellOf_8 : decode cX10_cellOf 8 = .ok (.bipush 8, 2) := by decide +kernel
theorem dX10_cellOf_10 : decode cX10_cellOf 10 = .ok (.iload_n 1, 1) := by decide +kernel
theorem dX10_cellOf_11 : decode cX10_cellOf 11 = .ok (.imul, 1) := by decide +kernel
theorem dX10_cellOf_12 : decode cX10_cellOf 12 = .ok (.iload_n 2, 1) := by decide +kernel
theorem dX10_cellOf_13 : decode cX10_cellOf 13 = .ok (.iadd, 1) := by decide +kernel
theorem dX10_cellOf_14 : decode cX10_cellOf 14 = .ok (.goto 14, 3) := by decide +kernel
theorem dX10_cellOf_17 : decode cX10_cellOf 17 = .ok (.bipush 8, 2) := by decide +kernel
theorem dX10_cellOf_19 : decode cX10_cellOf 19 = .ok (.iload_n 2, 1) := by decide +kernel
theorem dX10_cellOf_20 : decode cX10_cellOf 20 = .ok (.imul, 1) := by decide +kernel
theorem dX10_cellOf_21 : decode cX10_cellOf 21 = .ok (.iload_n 1, 1) := by decide +kernel
theorem dX10_cellOf_22 : decode cX10_cellOf 22 = .ok (.iadd, 1) := by decide +kernel
theorem dX10_cellOf_23 : decode cX10_cellOf 23 = .ok (.aload_n 0, 1) := by decide +kernel
theorem dX10_cellOf_24 : decode cX10_cellOf 24 = .ok (.getfield 7, 3) := by decide +kernel
theorem dX10_cellOf_27 : decode cX10_cellOf 27 = .ok (.isub, 1) := by decide +kernel
theorem dX10_cellOf_28 : decode cX10_cellOf 28 = .ok (.ireturn, 1) := by decide +kernel
theorem dX10_ones_0 : decode cX10_ones 0 = .ok (.iconst 0, 1) := by decide +kernel
theorem dX10_ones_1 : decode cX10_ones 1 = .ok (.istore_n 2, 1) := by decide +kernel
theorem dX10_ones_2 : decode cX10_ones 2 = .ok (.iload_n 1, 1) := by decide +kernel
theorem dX10_ones_3 : decode cX10_ones 3 = .ok (.istore_n 3, 1) := by decide +kernel
theorem dX10_ones_4 : decode cX10_ones 4 = .ok (.iload_n 3, 1) := by decide +kernel
theorem dX10_ones_5 : decode cX10_ones 5 = .ok (.ifCond .eq 15, 3) := by decide +kernel
theorem dX10_ones_8 : decode cX10_ones 8 = .ok (.iinc 2 1, 3) := by decide +kernel
theorem dX10_ones_11 : decode cX10_ones 11 = .ok (.iload_n 3, 1) := by decide +kernel
theorem dX10_ones_12 : decode cX10_ones 12 = .ok (.iload_n 3, 1) := by decide +kernel
theorem dX10_ones_13 : decode cX10_ones 13 = .ok (.iconst 1, 1) := by decide +kernel
theorem dX10_ones_14 : decode cX10_ones 14 = .ok (.isub, 1) := by decide +kernel
theorem dX10_ones_15 : decode cX10_ones 15 = .ok (.iand, 1) := by decide +kernel
theorem dX10_ones_16 : decode cX10_ones 16 = .ok (.istore_n 3, 1) := by decide +kernel
theorem dX10_ones_17 : decode cX10_ones 17 = .ok (.goto (-13), 3) := by decide +kernel
theorem dX10_ones_20 : decode cX10_ones 20 = .ok (.iload_n 2, 1) := by decide +kernel
theorem dX10_ones_21 : decode cX10_ones 21 = .ok (.ireturn, 1) := by decide +kernel
theorem dX10_isDecided_0 : decode cX10_isDecided 0 = .ok (.aload_n 0, 1) := by decide +kernel
theorem dX10_isDecided_1 : decode cX10_isDecided 1 = .ok (.getfield 22, 3) := by decide +kernel
theorem dX10_isDecided_4 : decode cX10_isDecided 4 = .ok (.iload_n 1, 1) := by decide +kernel
theorem dX10_isDecided_5 : decode cX10_isDecided 5 = .ok (.iaload, 1) := by decide +kernel
theorem dX10_isDecided_6 : decode cX10_isDecided 6 = .ok (.aload_n 0, 1) := by decide +kernel
theorem dX10_isDecided_7 : decode cX10_isDecided 7 = .ok (.getfield 22, 3) := by decide +kernel
theorem dX10_isDecided_10 : decode cX10_isDecided 10 = .ok (.iload_n 1, 1) := by decide +kernel
theorem dX10_isDecided_11 : decode cX10_isDecided 11 = .ok (.iaload, 1) := by decide +kernel
theorem dX10_isDecided_12 : decode cX10_isDecided 12 = .ok (.iconst 1, 1) := by decide +kernel
theorem dX10_isDecided_13 : decode cX10_isDecided 13 = .ok (.isub, 1) := by decide +kernel
theorem dX10_isDecided_14 : decode cX10_isDecided 14 = .ok (.iand, 1) := by decide +kernel
theorem dX10_isDecided_15 : decode cX10_isDecided 15 = .ok (.ifCond .ne 7, 3) := by decide +kernel
theorem dX10_isDecided_18 : decode cX10_isDecided 18 = .ok (.iconst 1, 1) := by decide +kernel
theorem dX10_isDecided_19 : decode cX10_isDecided 19 = .ok (.goto 4, 3) := by decide +kernel
theorem dX10_isDecided_22 : decode cX10_isDecided 22 = .ok (.iconst 0, 1) := by decide +kernel
theorem dX10_isDecided_23 : decode cX10_isDecided 23 = .ok (.ireturn, 1) := by decide +kernel
theorem dX10_colorAt_0 : decode cX10_colorAt 0 = .ok (.iconst 0, 1) := by decide +kernel
theorem dX10_colorAt_1 : decode cX10_colorAt 1 = .ok (.istore_n 2, 1) := by decide +kernel
theorem dX10_colorAt_2 : decode cX10_colorAt 2 = .ok (.aload_n 0, 1) := by decide +kernel
theorem dX10_colorAt_3 : decode cX10_colorAt 3 = .ok (.getfield 22, 3) := by decide +kernel
theorem dX10_colorAt_6 : decode cX10_colorAt 6 = .ok (.iload_n 1, 1) := by decide +kernel
theorem dX10_colorAt_7 : decode cX10_colorAt 7 = .ok (.iaload, 1) := by decide +kernel
theorem dX10_colorAt_8 : decode cX10_colorAt 8 = .ok (.iload_n 2, 1) := by decide +kernel
theorem dX10_colorAt_9 : decode cX10_colorAt 9 = .ok (.ishr, 1) := by decide +kernel
theorem dX10_colorAt_10 : decode cX10_colorAt 10 = .ok (.iconst 1, 1) := by decide +kernel
theorem dX10_colorAt_11 : decode cX10_colorAt 11 = .ok (.if_icmp .eq 9, 3) := by decide +kernel
theorem dX10_colorAt_14 : decode cX10_colorAt 14 = .ok (.iinc 2 1, 3) := by decide +kernel
theorem dX10_colorAt_17 : decode cX10_colorAt 17 = .ok (.goto (-15), 3) := by decide +kernel
theorem dX10_colorAt_20 : decode cX10_colorAt 20 = .ok (.iload_n 2, 1) := by decide +kernel
theorem dX10_colorAt_21 : decode cX10_colorAt 21 = .ok (.ireturn, 1) := by decide +kernel
theorem dX10_move_0 : decode cX10_move 0 = .ok (.iconst 0, 1) := by decide +kernel
theorem dX10_move_1 : decode cX10_move 1 = .ok (.istore_n 3, 1) := by decide +kernel
theorem dX10_move_2 : decode cX10_move 2 = .ok (.iload_n 3, 1) := by decide +kernel
theorem dX10_move_3 : decode cX10_move 3 = .ok (.bipush 64, 2) := by decide +kernel
theorem dX10_move_5 : decode cX10_move 5 = .ok (.if_icmp .ge 31, 3) := by decide +kernel
theorem dX10_move_8 : decode cX10_move 8 = .ok (.aload_n 0, 1) := by decide +kernel
theorem dX10_move_9 : decode cX10_move 9 = .ok (.getfield 38, 3) := by decide +kernel
theorem dX10_move_12 : decode cX10_move 12 = .ok (.bipush 64, 2) := by decide +kernel
theorem dX10_move_14 : decode cX10_move 14 = .ok (.iload_n 2, 1) := by decide +kernel
theorem dX10_move_15 : decode cX10_move 15 = .ok (.imul, 1) := by decide +kernel
theorem dX10_move_16 : decode cX10_move 16 = .ok (.iload_n 3, 1) := by decide +kernel
theorem dX10_move_17 : decode cX10_move 17 = .ok (.iadd, 1) := by decide +kernel
theorem dX10_move_18 : decode cX10_move 18 = .ok (.aload_n 0, 1) := by decide +kernel
theorem dX10_move_19 : decode cX10_move 19 = .ok (.getfield 38, 3) := by decide +kernel
theorem dX10_move_22 : decode cX10_move 22 = .ok (.bipush 64, 2) := by decide +kernel
theorem dX10_move_24 : decode cX10_move 24 = .ok (.iload_n 1, 1) := by decide +kernel
theorem dX10_move_25 : decode cX10_move 25 = .ok (.imul, 1) := by decide +kernel
theorem dX10_move_26 : decode cX10_move 26 = .ok (.iload_n 3, 1) := by decide +kernel
theorem dX10_move_27 : decode cX10_move 27 = .ok (.iadd, 1) := by decide +kernel
theorem dX10_move_28 : decode cX10_move 28 = .ok (.iaload, 1) := by decide +kernel
theorem dX10_move_29 : decode cX10_move 29 = .ok (.iastore, 1) := by decide +kernel
theorem dX10_move_30 : decode cX10_move 30 = .ok (.iinc 3 1, 3) := by decide +kernel
theorem dX10_move_33 : decode cX10_move 33 = .ok (.goto (-31), 3) := by decide +kernel
theorem dX10_move_36 : decode cX10_move 36 = .ok (.iconst 0, 1) := by decide +kernel
theorem dX10_move_37 : decode cX10_move 37 = .ok (.istore_n 3, 1) := by decide +kernel
theorem dX10_move_38 : decode cX10_move 38 = .ok (.iload_n 3, 1) := by decide +kernel
theorem dX10_move_39 : decode cX10_move 39 = .ok (.bipush 16, 2) := by decide +kernel
theorem dX10_move_41 : decode cX10_move 41 = .ok (.if_icmp .ge 31, 3) := by decide +kernel
theorem dX10_move_44 : decode cX10_move 44 = .ok (.aload_n 0, 1) := by decide +kernel
theorem dX10_move_45 : decode cX10_move 45 = .ok (.getfield 41, 3) := by decide +kernel
theorem dX10_move_48 : decode cX10_move 48 = .ok (.bipush 16, 2) := by decide +kernel
theorem dX10_move_50 : decode cX10_move 50 = .ok (.iload_n 2, 1) := by decide +kernel
theorem dX10_move_51 : decode cX10_move 51 = .ok (.imul, 1) := by decide +kernel
theorem dX10_move_52 : decode cX10_move 52 = .ok (.iload_n 3, 1) := by decide +kernel
theorem dX10_move_53 : decode cX10_move 53 = .ok (.iadd, 1) := by decide +kernel
theorem dX10_move_54 : decode cX10_move 54 = .ok (.aload_n 0, 1) := by decide +kernel
theorem dX10_move_55 : decode cX10_move 55 = .ok (.getfield 41, 3) := by decide +kernel
theorem dX10_move_58 : decode cX10_move 58 = .ok (.bipush 16, 2) := by decide +kernel
theorem dX10_move_60 : decode cX10_move 60 = .ok (.iload_n 1, 1) := by decide +kernel
theorem dX10_move_61 : decode cX10_move 61 = .ok (.imul, 1) := by decide +kernel
theorem dX10_move_62 : decode cX10_move 62 = .ok (.iload_n 3, 1) := by decide +kernel
theorem dX10_move_63 : decode cX10_move 63 = .ok (.iadd, 1) := by decide +kernel
theorem dX10_move_64 : decode cX10_move 64 = .ok (.iaload, 1) := by decide +kernel
theorem dX10_move_65 : decode cX10_move 65 = .ok (.iastore, 1) := by decide +kernel
theorem dX10_move_66 : decode cX10_move 66 = .ok (.iinc 3 1, 3) := by decide +kernel
theorem dX10_move_69 : decode cX10_move 69 = .ok (.goto (-31), 3) := by decide +kernel
theorem dX10_move_72 : decode cX10_move 72 = .ok (.iconst 0, 1) := by decide +kernel
theorem dX10_move_73 : decode cX10_move 73 = .ok (.istore_n 3, 1) := by decide +kernel
theorem dX10_move_74 : decode cX10_move 74 = .ok (.iload_n 3, 1) := by decide +kernel
theorem dX10_move_75 : decode cX10_move 75 = .ok (.sipush 128, 3) := by decide +kernel
theorem dX10_move_78 : decode cX10_move 78 = .ok (.if_icmp .ge 57, 3) := by decide +kernel
theorem dX10_move_81 : decode cX10_move 81 = .ok (.aload_n 0, 1) := by decide +kernel
theorem dX10_move_82 : decode cX10_move 82 = .ok (.getfield 44, 3) := by decide +kernel
theorem dX10_move_85 : decode cX10_move 85 = .ok (.sipush 128, 3) := by decide +kernel
theorem dX10_move_88 : decode cX10_move 88 = .ok (.iload_n 2, 1) := by decide +kernel
theorem dX10_move_89 : decode cX10_move 89 = .ok (.imul, 1) := by decide +kernel
theorem dX10_move_90 : decode cX10_move 90 = .ok (.iload_n 3, 1) := by decide +kernel
theorem dX10_move_91 : decode cX10_move 91 = .ok (.iadd, 1) := by decide +kernel
theorem dX10_move_92 : decode cX10_move 92 = .ok (.aload_n 0, 1) := by decide +kernel
theorem dX10_move_93 : decode cX10_move 93 = .ok (.getfield 44, 3) := by decide +kernel
theorem dX10_move_96 : decode cX10_move 96 = .ok (.sipush 128, 3) := by decide +kernel
theorem dX10_move_99 : decode cX10_move 99 = .ok (.iload_n 1, 1) := by decide +kernel
theorem dX10_move_100 : decode cX10_move 100 = .ok (.imul, 1) := by decide +kernel
theorem dX10_move_101 : decode cX10_move 101 = .ok (.iload_n 3, 1) := by decide +kernel
theorem dX10_move_102 : decode cX10_move 102 = .ok (.iadd, 1) := by decide +kernel
theorem dX10_move_103 : decode cX10_move 103 = .ok (.iaload, 1) := by decide +kernel
theorem dX10_move_104 : decode cX10_move 104 = .ok (.iastore, 1) := by decide +kernel
theorem dX10_move_105 : decode cX10_move 105 = .ok (.aload_n 0, 1) := by decide +kernel
theorem dX10_move_106 : decode cX10_move 106 = .ok (.getfield 47, 3) := by decide +kernel
theorem dX10_move_109 : decode cX10_move 109 = .ok (.sipush 128, 3) := by decide +kernel
theorem dX10_move_112 : decode cX10_move 112 = .ok (.iload_n 2, 1) := by decide +kernel
theorem dX10_move_113 : decode cX10_move 113 = .ok (.imul, 1) := by decide +kernel
theorem dX10_move_114 : decode cX10_move 114 = .ok (.iload_n 3, 1) := by decide +kernel
theorem dX10_move_115 : decode cX10_move 115 = .ok (.iadd, 1) := by decide +kernel
theorem dX10_move_116 : decode cX10_move 116 = .ok (.aload_n 0, 1) := by decide +kernel
theorem dX10_move_117 : decode cX10_move 117 = .ok (.getfield 47, 3) := by decide +kernel
theorem dX10_move_120 : decode cX10_move 120 = .ok (.sipush 128, 3) := by decide +kernel
theorem dX10_move_123 : decode cX10_move 123 = .ok (.iload_n 1, 1) := by decide +kernel
theorem dX10_move_124 : decode cX10_move 124 = .ok (.imul, 1) := by decide +kernel
theorem dX10_move_125 : decode cX10_move 125 = .ok (.iload_n 3, 1) := by decide +kernel
theorem dX10_move_126 : decode cX10_move 126 = .ok (.iadd, 1) := by decide +kernel
theorem dX10_move_127 : decode cX10_move 127 = .ok (.iaload, 1) := by decide +kernel
theorem dX10_move_128 : decode cX10_move 128 = .ok (.iastore, 1) := by decide +kernel
theorem dX10_move_129 : decode cX10_move 129 = .ok (.iinc 3 1, 3) := by decide +kernel
theorem dX10_move_132 : decode cX10_move 132 = .ok (.goto (-58), 3) := by decide +kernel
theorem dX10_move_135 : decode cX10_move 135 = .ok (.return_, 1) := by decide +kernel
theorem dX10_keep_0 : decode cX10_keep 0 = .ok (.aload_n 0, 1) := by decide +kernel
theorem dX10_keep_1 : decode cX10_keep 1 = .ok (.getfield 35, 3) := by decide +kernel
theorem dX10_keep_4 : decode cX10_keep 4 = .ok (.bipush 8, 2) := by decide +kernel
theorem dX10_keep_6 : decode cX10_keep 6 = .ok (.if_icmp .ne 31, 3) := by decide +kernel
theorem dX10_keep_9 : decode cX10_keep 9 = .ok (.iconst 1, 1) := by decide +kernel
theorem dX10_keep_10 : decode cX10_keep 10 = .ok (.istore_n 1, 1) := by decide +kernel
theorem dX10_keep_11 : decode cX10_keep 11 = .ok (.iload_n 1, 1) := by decide +kernel
theorem dX10_keep_12 : decode cX10_keep 12 = .ok (.bipush 8, 2) := by decide +kernel
theorem dX10_keep_14 : decode cX10_keep 14 = .ok (.if_icmp .ge 17, 3) := by decide +kernel
theorem dX10_keep_17 : decode cX10_keep 17 = .ok (.aload_n 0, 1) := by decide +kernel
theorem dX10_keep_18 : decode cX10_keep 18 = .ok (.iload_n 1, 1) := by decide +kernel
theorem dX10_keep_19 : decode cX10_keep 19 = .ok (.iload_n 1, 1) := by decide +kernel
theorem dX10_keep_20 : decode cX10_keep 20 = .ok (.iconst 1, 1) := by decide +kernel
theorem dX10_keep_21 : decode cX10_keep 21 = .ok (.isub, 1) := by decide +kernel
theorem dX10_keep_22 : decode cX10_keep 22 = .ok (.invokevirtual 176, 3) := by decide +kernel
theorem dX10_keep_25 : decode cX10_keep 25 = .ok (.iinc 1 1, 3) := by decide +kernel
theorem dX10_keep_28 : decode cX10_keep 28 = .ok (.goto (-17), 3) := by decide +kernel
theorem dX10_keep_31 : decode cX10_keep 31 = .ok (.aload_n 0, 1) := by decide +kernel
theorem dX10_keep_32 : decode cX10_keep 32 = .ok (.bipush 7, 2) := by decide +kernel
theorem dX10_keep_34 : decode cX10_keep 34 = .ok (.putfield 35, 3) := by decide +kernel
theorem dX10_keep_37 : decode cX10_keep 37 = .ok (.iconst 0, 1) := by decide +kernel
theorem dX10_keep_38 : decode cX10_keep 38 = .ok (.istore_n 1, 1) := by decide +kernel
theorem dX10_keep_39 : decode cX10_keep 39 = .ok (.iload_n 1, 1) := by decide +kernel
theorem dX10_keep_40 : decode cX10_keep 40 = .ok (.bipush 64, 2) := by decide +kernel
theorem dX10_keep_42 : decode cX10_keep 42 = .ok (.if_icmp .ge 29, 3) := by decide +kernel
theorem dX10_keep_45 : decode cX10_keep 45 = .ok (.aload_n 0, 1) := by decide +kernel
theorem dX10_keep_46 : decode cX10_keep 46 = .ok (.getfield 38, 3) := by decide +kernel
theorem dX10_keep_49 : decode cX10_keep 49 = .ok (.bipush 64, 2) := by decide +kernel
theorem dX10_keep_51 : decode cX10_keep 51 = .ok (.aload_n 0, 1) := by decide +kernel
theorem dX10_keep_52 : decode cX10_keep 52 = .ok (.getfield 35, 3) := by decide +kernel
theorem dX10_keep_55 : decode cX10_keep 55 = .ok (.imul, 1) := by decide +kernel
theorem dX10_keep_56 : decode cX10_keep 56 = .ok (.iload_n 1, 1) := by decide +kernel
theorem dX10_keep_57 : decode cX10_keep 57 = .ok (.iadd, 1) := by decide +kernel
theorem dX10_keep_58 : decode cX10_keep 58 = .ok (.aload_n 0, 1) := by decide +kernel
theorem dX10_keep_59 : decode cX10_keep 59 = .ok (.getfield 22, 3) := by decide +kernel
theorem dX10_keep_62 : decode cX10_keep 62 = .ok (.iload_n 1, 1) := by decide +kernel
theorem dX10_keep_63 : decode cX10_keep 63 = .ok (.iaload, 1) := by decide +kernel
theorem dX10_keep_64 : decode cX10_keep 64 = .ok (.iastore, 1) := by decide +kernel
theorem dX10_keep_65 : decode cX10_keep 65 = .ok (.iinc 1 1, 3) := by decide +kernel
theorem dX10_keep_68 : decode cX10_keep 68 = .ok (.goto (-29), 3) := by decide +kernel
theorem dX10_keep_71 : decode cX10_keep 71 = .ok (.iconst 0, 1) := by decide +kernel
theorem dX10_keep_72 : decode cX10_keep 72 = .ok (.istore_n 1, 1) := by decide +kernel
theorem dX10_keep_73 : decode cX10_keep 73 = .ok (.iload_n 1, 1) := by decide +kernel
theorem dX10_keep_74 : decode cX10_keep 74 = .ok (.bipush 16, 2) := by decide +kernel
theorem dX10_keep_76 : decode cX10_keep 76 = .ok (.if_icmp .ge 29, 3) := by decide +kernel
theorem dX10_keep_79 : decode cX10_keep 79 = .ok (.aload_n 0, 1) := by decide +kernel
theorem dX10_keep_80 : decode cX10_keep 80 = .ok (.getfield 41, 3) := by decide +kernel
theorem dX10_keep_83 : decode cX10_keep 83 = .ok (.bipush 16, 2) := by decide +kernel
theorem dX10_keep_85 : decode cX10_keep 85 = .ok (.aload_n 0, 1) := by decide +kernel
theorem dX10_keep_86 : decode cX10_keep 86 = .ok (.getfield 35, 3) := by decide +kernel
theorem dX10_keep_89 : decode cX10_keep 89 = .ok (.imul, 1) := by decide +kernel
theorem dX10_keep_90 : decode cX10_keep 90 = .ok (.iload_n 1, 1) := by decide +kernel
theorem dX10_keep_91 : decode cX10_keep 91 = .ok (.iadd, 1) := by decide +kernel
theorem dX10_keep_92 : decode cX10_keep 92 = .ok (.aload_n 0, 1) := by decide +kernel
theorem dX10_keep_93 : decode cX10_keep 93 = .ok (.getfield 26, 3) := by decide +kernel
theorem dX10_keep_96 : decode cX10_keep 96 = .ok (.iload_n 1, 1) := by decide +kernel
theorem dX10_keep_97 : decode cX10_keep 97 = .ok (.iaload, 1) := by decide +kernel
theorem dX10_keep_98 : decode cX10_keep 98 = .ok (.iastore, 1) := by decide +kernel
theorem dX10_keep_99 : decode cX10_keep 99 = .ok (.iinc 1 1, 3) := by decide +kernel
theorem dX10_keep_102 : decode cX10_keep 102 = .ok (.goto (-29), 3) := by decide +kernel
theorem dX10_keep_105 : decode cX10_keep 105 = .ok (.iconst 0, 1) := by decide +kernel
theorem dX10_keep_106 : decode cX10_keep 106 = .ok (.istore_n 1, 1) := by decide +kernel
theorem dX10_keep_107 : decode cX10_keep 107 = .ok (.iload_n 1, 1) := by decide +kernel
theorem dX10_keep_108 : decode cX10_keep 108 = .ok (.sipush 128, 3) := by decide +kernel
theorem dX10_keep_111 : decode cX10_keep 111 = .ok (.if_icmp .ge 51, 3) := by decide +kernel
theorem dX10_keep_114 : decode cX10_keep 114 = .ok (.aload_n 0, 1) := by decide +kernel
theorem dX10_keep_115 : decode cX10_keep 115 = .ok (.getfield 44, 3) := by decide +kernel
theorem dX10_keep_118 : decode cX10_keep 118 = .ok (.sipush 128, 3) := by decide +kernel
theorem dX10_keep_121 : decode cX10_keep 121 = .ok (.aload_n 0, 1) := by decide +kernel
theorem dX10_keep_122 : decode cX10_keep 122 = .ok (.getfield 35, 3) := by decide +kernel
theorem dX10_keep_125 : decode cX10_keep 125 = .ok (.imul, 1) := by decide +kernel
theorem dX10_keep_126 : decode cX10_keep 126 = .ok (.iload_n 1, 1) := by decide +kernel
theorem dX10_keep_127 : decode cX10_keep 127 = .ok (.iadd, 1) := by decide +kernel
theorem dX10_keep_128 : decode cX10_keep 128 = .ok (.aload_n 0, 1) := by decide +kernel
theorem dX10_keep_129 : decode cX10_keep 129 = .ok (.getfield 29, 3) := by decide +kernel
theorem dX10_keep_132 : decode cX10_keep 132 = .ok (.iload_n 1, 1) := by decide +kernel
theorem dX10_keep_133 : decode cX10_keep 133 = .ok (.iaload, 1) := by decide +kernel
theorem dX10_keep_134 : decode cX10_keep 134 = .ok (.iastore, 1) := by decide +kernel
theorem dX10_keep_135 : decode cX10_keep 135 = .ok (.aload_n 0, 1) := by decide +kernel
theorem dX10_keep_136 : decode cX10_keep 136 = .ok (.getfield 47, 3) := by decide +kernel
theorem dX10_keep_139 : decode cX10_keep 139 = .ok (.sipush 128, 3) := by decide +kernel
theorem dX10_keep_142 : decode cX10_keep 142 = .ok (.aload_n 0, 1) := by decide +kernel
theorem dX10_keep_143 : decode cX10_keep 143 = .ok (.getfield 35, 3) := by decide +kernel
theorem dX10_keep_146 : decode cX10_keep 146 = .ok (.imul, 1) := by decide +kernel
theorem dX10_keep_147 : decode cX10_keep 147 = .ok (.iload_n 1, 1) := by decide +kernel
theorem dX10_keep_148 : decode cX10_keep 148 = .ok (.iadd, 1) := by decide +kernel
theorem dX10_keep_149 : decode cX10_keep 149 = .ok (.aload_n 0, 1) := by decide +kernel
theorem dX10_keep_150 : decode cX10_keep 150 = .ok (.getfield 32, 3) := by decide +kernel
theorem dX10_keep_153 : decode cX10_keep 153 = .ok (.iload_n 1, 1) := by decide +kernel
theorem dX10_keep_154 : decode cX10_keep 154 = .ok (.iaload, 1) := by decide +kernel
theorem dX10_keep_155 : decode cX10_keep 155 = .ok (.iastore, 1) := by decide +kernel
theorem dX10_keep_156 : decode cX10_keep 156 = .ok (.iinc 1 1, 3) := by decide +kernel
theorem dX10_keep_159 : decode cX10_keep 159 = .ok (.goto (-52), 3) := by decide +kernel
theorem dX10_keep_162 : decode cX10_keep 162 = .ok (.aload_n 0, 1) := by decide +kernel
theorem dX10_keep_163 : decode cX10_keep 163 = .ok (.dup, 1) := by decide +kernel
theorem dX10_keep_164 : decode cX10_keep 164 = .ok (.getfield 35, 3) := by decide +kernel
theorem dX10_keep_167 : decode cX10_keep 167 = .ok (.iconst 1, 1) := by decide +kernel
theorem dX10_keep_168 : decode cX10_keep 168 = .ok (.iadd, 1) := by decide +kernel
theorem dX10_keep_169 : decode cX10_keep 169 = .ok (.putfield 35, 3) := by decide +kernel
theorem dX10_keep_172 : decode cX10_keep 172 = .ok (.return_, 1) := by decide +kernel
theorem dX10_undo_0 : decode cX10_undo 0 = .ok (.aload_n 0, 1) := by decide +kernel
theorem dX10_undo_1 : decode cX10_undo 1 = .ok (.getfield 35, 3) := by decide +kernel
theorem dX10_undo_4 : decode cX10_undo 4 = .ok (.ifCond .ne 6, 3) := by decide +kernel
theorem dX10_undo_7 : decode cX10_undo 7 = .ok (.bipush (-8), 2) := by decide +kernel
theorem dX10_undo_9 : decode cX10_undo 9 = .ok (.ireturn, 1) := by decide +kernel
theorem dX10_undo_10 : decode cX10_undo 10 = .ok (.aload_n 0, 1) := by decide +kernel
theorem dX10_undo_11 : decode cX10_undo 11 = .ok (.dup, 1) := by decide +kernel
theorem dX10_undo_12 : decode cX10_undo 12 = .ok (.getfield 35, 3) := by decide +kernel
theorem dX10_undo_15 : decode cX10_undo 15 = .ok (.iconst 1, 1) := by decide +kernel
theorem dX10_undo_16 : decode cX10_undo 16 = .ok (.isub, 1) := by decide +kernel
theorem dX10_undo_17 : decode cX10_undo 17 = .ok (.putfield 35, 3) := by decide +kernel
theorem dX10_undo_20 : decode cX10_undo 20 = .ok (.iconst 0, 1) := by decide +kernel
theorem dX10_undo_21 : decode cX10_undo 21 = .ok (.istore_n 1, 1) := by decide +kernel
theorem dX10_undo_22 : decode cX10_undo 22 = .ok (.iload_n 1, 1) := by decide +kernel
theorem dX10_undo_23 : decode cX10_undo 23 = .ok (.bipush 64, 2) := by decide +kernel
theorem dX10_undo_25 : decode cX10_undo 25 = .ok (.if_icmp .ge 29, 3) := by decide +kernel
theorem dX10_undo_28 : decode cX10_undo 28 = .ok (.aload_n 0, 1) := by decide +kernel
theorem dX10_undo_29 : decode cX10_undo 29 = .ok (.getfield 22, 3) := by decide +kernel
theorem dX10_undo_32 : decode cX10_undo 32 = .ok (.iload_n 1, 1) := by decide +kernel
theorem dX10_undo_33 : decode cX10_undo 33 = .ok (.aload_n 0, 1) := by decide +kernel
theorem dX10_undo_34 : decode cX10_undo 34 = .ok (.getfield 38, 3) := by decide +kernel
theorem dX10_undo_37 : decode cX10_undo 37 = .ok (.bipush 64, 2) := by decide +kernel
theorem dX10_undo_39 : decode cX10_undo 39 = .ok (.aload_n 0, 1) := by decide +kernel
theorem dX10_undo_40 : decode cX10_undo 40 = .ok (.getfield 35, 3) := by decide +kernel
theorem dX10_undo_43 : decode cX10_undo 43 = .ok (.imul, 1) := by decide +kernel
theorem dX10_undo_44 : decode cX10_undo 44 = .ok (.iload_n 1, 1) := by decide +kernel
theorem dX10_undo_45 : decode cX10_undo 45 = .ok (.iadd, 1) := by decide +kernel
theorem dX10_undo_46 : decode cX10_undo 46 = .ok (.iaload, 1) := by decide +kernel
theorem dX10_undo_47 : decode cX10_undo 47 = .ok (.iastore, 1) := by decide +kernel
theorem dX10_undo_48 : decode cX10_undo 48 = .ok (.iinc 1 1, 3) := by decide +kernel
theorem dX10_undo_51 : decode cX10_undo 51 = .ok (.goto (-29), 3) := by decide +kernel
theorem dX10_undo_54 : decode cX10_undo 54 = .ok (.iconst 0, 1) := by decide +kernel
theorem dX10_undo_55 : decode cX10_undo 55 = .ok (.istore_n 1, 1) := by decide +kernel
theorem dX10_undo_56 : decode cX10_undo 56 = .ok (.iload_n 1, 1) := by decide +kernel
theorem dX10_undo_57 : decode cX10_undo 57 = .ok (.bipush 16, 2) := by decide +kernel
theorem dX10_undo_59 : decode cX10_undo 59 = .ok (.if_icmp .ge 29, 3) := by decide +kernel
theorem dX10_undo_62 : decode cX10_undo 62 = .ok (.aload_n 0, 1) := by decide +kernel
theorem dX10_undo_63 : decode cX10_undo 63 = .ok (.getfield 26, 3) := by decide +kernel
theorem dX10_undo_66 : decode cX10_undo 66 = .ok (.iload_n 1, 1) := by decide +kernel
theorem dX10_undo_67 : decode cX10_undo 67 = .ok (.aload_n 0, 1) := by decide +kernel
theorem dX10_undo_68 : decode cX10_undo 68 = .ok (.getfield 41, 3) := by decide +kernel
theorem dX10_undo_71 : decode cX10_undo 71 = .ok (.bipush 16, 2) := by decide +kernel
theorem dX10_undo_73 : decode cX10_undo 73 = .ok (.aload_n 0, 1) := by decide +kernel
theorem dX10_undo_74 : decode cX10_undo 74 = .ok (.getfield 35, 3) := by decide +kernel
theorem dX10_undo_77 : decode cX10_undo 77 = .ok (.imul, 1) := by decide +kernel
theorem dX10_undo_78 : decode cX10_undo 78 = .ok (.iload_n 1, 1) := by decide +kernel
theorem dX10_undo_79 : decode cX10_undo 79 = .ok (.iadd, 1) := by decide +kernel
theorem dX10_undo_80 : decode cX10_undo 80 = .ok (.iaload, 1) := by decide +kernel
theorem dX10_undo_81 : decode cX10_undo 81 = .ok (.iastore, 1) := by decide +kernel
theorem dX10_undo_82 : decode cX10_undo 82 = .ok (.iinc 1 1, 3) := by decide +kernel
theorem dX10_undo_85 : decode cX10_undo 85 = .ok (.goto (-29), 3) := by decide +kernel
theorem dX10_undo_88 : decode cX10_undo 88 = .ok (.iconst 0, 1) := by decide +kernel
theorem dX10_undo_89 : decode cX10_undo 89 = .ok (.istore_n 1, 1) := by decide +kernel
theorem dX10_undo_90 : decode cX10_undo 90 = .ok (.iload_n 1, 1) := by decide +kernel
theorem dX10_undo_91 : decode cX10_undo 91 = .ok (.sipush 128, 3) := by decide +kernel
theorem dX10_undo_94 : decode cX10_undo 94 = .ok (.if_icmp .ge 51, 3) := by decide +kernel
theorem dX10_undo_97 : decode cX10_undo 97 = .ok (.aload_n 0, 1) := by decide +kernel
theorem dX10_undo_98 : decode cX10_undo 98 = .ok (.getfield 29, 3) := by decide +kernel
theorem dX10_undo_101 : decode cX10_undo 101 = .ok (.iload_n 1, 1) := by decide +kernel
theorem dX10_undo_102 : decode cX10_undo 102 = .ok (.aload_n 0, 1) := by decide +kernel
theorem dX10_undo_103 : decode cX10_undo 103 = .ok (.getfield 44, 3) := by decide +kernel
theorem dX10_undo_106 : decode cX10_undo 106 = .ok (.sipush 128, 3) := by decide +kernel
theorem dX10_undo_109 : decode cX10_undo 109 = .ok (.aload_n 0, 1) := by decide +kernel
theorem dX10_undo_110 : decode cX10_undo 110 = .ok (.getfield 35, 3) := by decide +kernel
theorem dX10_undo_113 : decode cX10_undo 113 = .ok (.imul, 1) := by decide +kernel
theorem dX10_undo_114 : decode cX10_undo 114 = .ok (.iload_n 1, 1) := by decide +kernel
theorem dX10_undo_115 : decode cX10_undo 115 = .ok (.iadd, 1) := by decide +kernel
theorem dX10_undo_116 : decode cX10_undo 116 = .ok (.iaload, 1) := by decide +kernel
theorem dX10_undo_117 : decode cX10_undo 117 = .ok (.iastore, 1) := by decide +kernel
theorem dX10_undo_118 : decode cX10_undo 118 = .ok (.aload_n 0, 1) := by decide +kernel
theorem dX10_undo_119 : decode cX10_undo 119 = .ok (.getfield 32, 3) := by decide +kernel
theorem dX10_undo_122 : decode cX10_undo 122 = .ok (.iload_n 1, 1) := by decide +kernel
theorem dX10_undo_123 : decode cX10_undo 123 = .ok (.aload_n 0, 1) := by decide +kernel
theorem dX10_undo_124 : decode cX10_undo 124 = .ok (.getfield 47, 3) := by decide +kernel
theorem dX10_undo_127 : decode cX10_undo 127 = .ok (.sipush 128, 3) := by decide +kernel
theorem dX10_undo_130 : decode cX10_undo 130 = .ok (.aload_n 0, 1) := by decide +kernel
theorem dX10_undo_131 : decode cX10_undo 131 = .ok (.getfield 35, 3) := by decide +kernel
theorem dX10_undo_134 : decode cX10_undo 134 = .ok (.imul, 1) := by decide +kernel
theorem dX10_undo_135 : decode cX10_undo 135 = .ok (.iload_n 1, 1) := by decide +kernel
theorem dX10_undo_136 : decode cX10_undo 136 = .ok (.iadd, 1) := by decide +kernel
theorem dX10_undo_137 : decode cX10_undo 137 = .ok (.iaload, 1) := by decide +kernel
theorem dX10_undo_138 : decode cX10_undo 138 = .ok (.iastore, 1) := by decide +kernel
theorem dX10_undo_139 : decode cX10_undo 139 = .ok (.iinc 1 1, 3) := by decide +kernel
theorem dX10_undo_142 : decode cX10_undo 142 = .ok (.goto (-52), 3) := by decide +kernel
theorem dX10_undo_145 : decode cX10_undo 145 = .ok (.aload_n 0, 1) := by decide +kernel
theorem dX10_undo_146 : decode cX10_undo 146 = .ok (.getfield 35, 3) := by decide +kernel
theorem dX10_undo_149 : decode cX10_undo 149 = .ok (.ireturn, 1) := by decide +kernel
theorem dX10_undoCount_0 : decode cX10_undoCount 0 = .ok (.aload_n 0, 1) := by decide +kernel
theorem dX10_undoCount_1 : decode cX10_undoCount 1 = .ok (.getfield 35, 3) := by decide +kernel
theorem dX10_undoCount_4 : decode cX10_undoCount 4 = .ok (.ireturn, 1) := by decide +kernel
theorem dX10_reset_0 : decode cX10_reset 0 = .ok (.aload_n 0, 1) := by decide +kernel
theorem dX10_reset_1 : decode cX10_reset 1 = .ok (.iload_n 1, 1) := by decide +kernel
theorem dX10_reset_2 : decode cX10_reset 2 = .ok (.iconst 1, 1) := by decide +kernel
theorem dX10_reset_3 : decode cX10_reset 3 = .ok (.bipush 8, 2) := by decide +kernel
theorem dX10_reset_5 : decode cX10_reset 5 = .ok (.invokevirtual 172, 3) := by decide +kernel
theorem dX10_reset_8 : decode cX10_reset 8 = .ok (.ifCond .eq 24, 3) := by decide +kernel
theorem dX10_reset_11 : decode cX10_reset 11 = .ok (.aload_n 0, 1) := by decide +kernel
theorem dX10_reset_12 : decode cX10_reset 12 = .ok (.iload_n 2, 1) := by decide +kernel
theorem dX10_reset_13 : decode cX10_reset 13 = .ok (.iconst 1, 1) := by decide +kernel
theorem dX10_reset_14 : decode cX10_reset 14 = .ok (.bipush 8, 2) := by decide +kernel
theorem dX10_reset_16 : decode cX10_reset 16 = .ok (.invokevirtual 172, 3) := by decide +kernel
theorem dX10_reset_19 : decode cX10_reset 19 = .ok (.ifCond .eq 13, 3) := by decide +kernel
theorem dX10_reset_22 : decode cX10_reset 22 = .ok (.aload_n 0, 1) := by decide +kernel
theorem dX10_reset_23 : decode cX10_reset 23 = .ok (.iload_n 3, 1) := by decide +kernel
theorem dX10_reset_24 : decode cX10_reset 24 = .ok (.iconst 1, 1) := by decide +kernel
theorem dX10_reset_25 : decode cX10_reset 25 = .ok (.iconst 3, 1) := by decide +kernel
theorem dX10_reset_26 : decode cX10_reset 26 = .ok (.invokevirtual 172, 3) := by decide +kernel
theorem dX10_reset_29 : decode cX10_reset 29 = .ok (.ifCond .ne 6, 3) := by decide +kernel
theorem dX10_reset_32 : decode cX10_reset 32 = .ok (.bipush (-2), 2) := by decide +kernel
theorem dX10_reset_34 : decode cX10_reset 34 = .ok (.ireturn, 1) := by decide +kernel
theorem dX10_reset_35 : decode cX10_reset 35 = .ok (.aload_n 0, 1) := by decide +kernel
theorem dX10_reset_36 : decode cX10_reset 36 = .ok (.iload_n 1, 1) := by decide +kernel
theorem dX10_reset_37 : decode cX10_reset 37 = .ok (.putfield 7, 3) := by decide +kernel
theorem dX10_reset_40 : decode cX10_reset 40 = .ok (.aload_n 0, 1) := by decide +kernel
theorem dX10_reset_41 : decode cX10_reset 41 = .ok (.iload_n 2, 1) := by decide +kernel
theorem dX10_reset_42 : decode cX10_reset 42 = .ok (.putfield 13, 3) := by decide +kernel
theorem dX10_reset_45 : decode cX10_reset 45 = .ok (.aload_n 0, 1) := by decide +kernel
theorem dX10_reset_46 : decode cX10_reset 46 = .ok (.iload_n 3, 1) := by decide +kernel
theorem dX10_reset_47 : decode cX10_reset 47 = .ok (.putfield 16, 3) := by decide +kernel
theorem dX10_reset_50 : decode cX10_reset 50 = .ok (.aload_n 0, 1) := by decide +kernel
theorem dX10_reset_51 : decode cX10_reset 51 = .ok (.invokevirtual 165, 3) := by decide +kernel
theorem dX10_reset_54 : decode cX10_reset 54 = .ok (.iconst 0, 1) := by decide +kernel
theorem dX10_reset_55 : decode cX10_reset 55 = .ok (.istore 4, 2) := by decide +kernel
theorem dX10_reset_57 : decode cX10_reset 57 = .ok (.iload 4, 2) := by decide +kernel
theorem dX10_reset_59 : decode cX10_reset 59 = .ok (.bipush 16, 2) := by decide +kernel
theorem dX10_reset_61 : decode cX10_reset 61 = .ok (.if_icmp .ge 17, 3) := by decide +kernel
theorem dX10_reset_64 : decode cX10_reset 64 = .ok (.aload_n 0, 1) := by decide +kernel
theorem dX10_reset_65 : decode cX10_reset 65 = .ok (.getfield 26, 3) := by decide +kernel
theorem dX10_reset_68 : decode cX10_reset 68 = .ok (.iload 4, 2) := by decide +kernel
theorem dX10_reset_70 : decode cX10_reset 70 = .ok (.iconst 0, 1) := by decide +kernel
theorem dX10_reset_71 : decode cX10_reset 71 = .ok (.iastore, 1) := by decide +kernel
theorem dX10_reset_72 : decode cX10_reset 72 = .ok (.iinc 4 1, 3) := by decide +kernel
theorem dX10_reset_75 : decode cX10_reset 75 = .ok (.goto (-18), 3) := by decide +kernel
theorem dX10_reset_78 : decode cX10_reset 78 = .ok (.aload_n 0, 1) := by decide +kernel
theorem dX10_reset_79 : decode cX10_reset 79 = .ok (.iconst 0, 1) := by decide +kernel
theorem dX10_reset_80 : decode cX10_reset 80 = .ok (.putfield 35, 3) := by decide +kernel
theorem dX10_reset_83 : decode cX10_reset 83 = .ok (.aload_n 0, 1) := by decide +kernel
theorem dX10_reset_84 : decode cX10_reset 84 = .ok (.iconst (-1), 1) := by decide +kernel
theorem dX10_reset_85 : decode cX10_reset 85 = .ok (.putfield 50, 3) := by decide +kernel
theorem dX10_reset_88 : decode cX10_reset 88 = .ok (.aload_n 0, 1) := by decide +kernel
theorem dX10_reset_89 : decode cX10_reset 89 = .ok (.invokevirtual 168, 3) := by decide +kernel
theorem dX10_reset_92 : decode cX10_reset 92 = .ok (.ireturn, 1) := by decide +kernel
theorem dX10_rowCount_0 : decode cX10_rowCount 0 = .ok (.aload_n 0, 1) := by decide +kernel
theorem dX10_rowCount_1 : decode cX10_rowCount 1 = .ok (.getfield 7, 3) := by decide +kernel
theorem dX10_rowCount_4 : decode cX10_rowCount 4 = .ok (.ireturn, 1) := by decide +kernel
theorem dX10_columnCount_0 : decode cX10_columnCount 0 = .ok (.aload_n 0, 1) := by decide +kernel
theorem dX10_columnCount_1 : decode cX10_columnCount 1 = .ok (.getfield 13, 3) := by decide +kernel
theorem dX10_columnCount_4 : decode cX10_columnCount 4 = .ok (.ireturn, 1) := by decide +kernel
theorem dX10_colorCount_0 : decode cX10_colorCount 0 = .ok (.aload_n 0, 1) := by decide +kernel
theorem dX10_colorCount_1 : decode cX10_colorCount 1 = .ok (.getfield 16, 3) := by decide +kernel
theorem dX10_colorCount_4 : decode cX10_colorCount 4 = .ok (.ireturn, 1) := by decide +kernel
theorem dX10_push_0 : decode cX10_push 0 = .ok (.aload_n 0, 1) := by decide +kernel
theorem dX10_push_1 : decode cX10_push 1 = .ok (.getfield 29, 3) := by decide +kernel
theorem dX10_push_4 : decode cX10_push 4 = .ok (.bipush 8, 2) := by decide +kernel
theorem dX10_push_6 : decode cX10_push 6 = .ok (.iload_n 1, 1) := by decide +kernel
theorem dX10_push_7 : decode cX10_push 7 = .ok (.imul, 1) := by decide +kernel
theorem dX10_push_8 : decode cX10_push 8 = .ok (.aload_n 0, 1) := by decide +kernel
theorem dX10_push_9 : decode cX10_push 9 = .ok (.getfield 26, 3) := by decide +kernel
theorem dX10_push_12 : decode cX10_push 12 = .ok (.iload_n 1, 1) := by decide +kernel
theorem dX10_push_13 : decode cX10_push 13 = .ok (.iaload, 1) := by decide +kernel
theorem dX10_push_14 : decode cX10_push 14 = .ok (.iadd, 1) := by decide +kernel
theorem dX10_push_15 : decode cX10_push 15 = .ok (.iload_n 2, 1) := by decide +kernel
theorem dX10_push_16 : decode cX10_push 16 = .ok (.iastore, 1) := by decide +kernel
theorem dX10_push_17 : decode cX10_push 17 = .ok (.aload_n 0, 1) := by decide +kernel
theorem dX10_push_18 : decode cX10_push 18 = .ok (.getfield 32, 3) := by decide +kernel
theorem dX10_push_21 : decode cX10_push 21 = .ok (.bipush 8, 2) := by decide +kernel
theorem dX10_push_23 : decode cX10_push 23 = .ok (.iload_n 1, 1) := by decide +kernel
theorem dX10_push_24 : decode cX10_push 24 = .ok (.imul, 1) := by decide +kernel
theorem dX10_push_25 : decode cX10_push 25 = .ok (.aload_n 0, 1) := by decide +kernel
theorem dX10_push_26 : decode cX10_push 26 = .ok (.getfield 26, 3) := by decide +kernel
theorem dX10_push_29 : decode cX10_push 29 = .ok (.iload_n 1, 1) := by decide +kernel
theorem dX10_push_30 : decode cX10_push 30 = .ok (.iaload, 1) := by decide +kernel
theorem dX10_push_31 : decode cX10_push 31 = .ok (.iadd, 1) := by decide +kernel
theorem dX10_push_32 : decode cX10_push 32 = .ok (.iload_n 3, 1) := by decide +kernel
theorem dX10_push_33 : decode cX10_push 33 = .ok (.iastore, 1) := by decide +kernel
theorem dX10_push_34 : decode cX10_push 34 = .ok (.aload_n 0, 1) := by decide +kernel
theorem dX10_push_35 : decode cX10_push 35 = .ok (.getfield 26, 3) := by decide +kernel
theorem dX10_push_38 : decode cX10_push 38 = .ok (.iload_n 1, 1) := by decide +kernel
theorem dX10_push_39 : decode cX10_push 39 = .ok (.dup2, 1) := by decide +kernel
theorem dX10_push_40 : decode cX10_push 40 = .ok (.iaload, 1) := by decide +kernel
theorem dX10_push_41 : decode cX10_push 41 = .ok (.iconst 1, 1) := by decide +kernel
theorem dX10_push_42 : decode cX10_push 42 = .ok (.iadd, 1) := by decide +kernel
theorem dX10_push_43 : decode cX10_push 43 = .ok (.iastore, 1) := by decide +kernel
theorem dX10_push_44 : decode cX10_push 44 = .ok (.return_, 1) := by decide +kernel
theorem dX10_addRun_0 : decode cX10_addRun 0 = .ok (.aload_n 0, 1) := by decide +kernel
theorem dX10_addRun_1 : decode cX10_addRun 1 = .ok (.iload_n 1, 1) := by decide +kernel
theorem dX10_addRun_2 : decode cX10_addRun 2 = .ok (.invokevirtual 180, 3) := by decide +kernel
theorem dX10_addRun_5 : decode cX10_addRun 5 = .ok (.ifCond .ne 5, 3) := by decide +kernel
theorem dX10_addRun_8 : decode cX10_addRun 8 = .ok (.iconst (-1), 1) := by decide +kernel
theorem dX10_addRun_9 : decode cX10_addRun 9 = .ok (.ireturn, 1) := by decide +kernel
theorem dX10_addRun_10 : decode cX10_addRun 10 = .ok (.aload_n 0, 1) := by decide +kernel
theorem dX10_addRun_11 : decode cX10_addRun 11 = .ok (.iload_n 2, 1) := by decide +kernel
theorem dX10_addRun_12 : decode cX10_addRun 12 = .ok (.iconst 1, 1) := by decide +kernel
theorem dX10_addRun_13 : decode cX10_addRun 13 = .ok (.bipush 8, 2) := by decide +kernel
theorem dX10_addRun_15 : decode cX10_addRun 15 = .ok (.invokevirtual 172, 3) := by decide +kernel
theorem dX10_addRun_18 : decode cX10_addRun 18 = .ok (.ifCond .eq 16, 3) := by decide +kernel
theorem dX10_addRun_21 : decode cX10_addRun 21 = .ok (.aload_n 0, 1) := by decide +kernel
theorem dX10_addRun_22 : decode cX10_addRun 22 = .ok (.iload_n 3, 1) := by decide +kernel
theorem dX10_addRun_23 : decode cX10_addRun 23 = .ok (.iconst 1, 1) := by decide +kernel
theorem dX10_addRun_24 : decode cX10_addRun 24 = .ok (.aload_n 0, 1) := by decide +kernel
theorem dX10_addRun_25 : decode cX10_addRun 25 = .ok (.getfield 16, 3) := by decide +kernel
theorem dX10_addRun_28 : decode cX10_addRun 28 = .ok (.invokevirtual 172, 3) := by decide +kernel
theorem dX10_addRun_31 : decode cX10_addRun 31 = .ok (.ifCond .ne 6, 3) := by decide +kernel
theorem dX10_addRun_34 : decode cX10_addRun 34 = .ok (.bipush (-2), 2) := by decide +kernel
theorem dX10_addRun_36 : decode cX10_addRun 36 = .ok (.ireturn, 1) := by decide +kernel
theorem dX10_addRun_37 : decode cX10_addRun 37 = .ok (.aload_n 0, 1) := by decide +kernel
theorem dX10_addRun_38 : decode cX10_addRun 38 = .ok (.getfield 26, 3) := by decide +kernel
theorem dX10_addRun_41 : decode cX10_addRun 41 = .ok (.iload_n 1, 1) := by decide +kernel
theorem dX10_addRun_42 : decode cX10_addRun 42 = .ok (.iaload, 1) := by decide +kernel
theorem dX10_addRun_43 : decode cX10_addRun 43 = .ok (.bipush 8, 2) := by decide +kernel
theorem dX10_addRun_45 : decode cX10_addRun 45 = .ok (.if_icmp .ne 6, 3) := by decide +kernel
theorem dX10_addRun_48 : decode cX10_addRun 48 = .ok (.bipush (-3), 2) := by decide +kernel
theorem dX10_addRun_50 : decode cX10_addRun 50 = .ok (.ireturn, 1) := by decide +kernel
theorem dX10_addRun_51 : decode cX10_addRun 51 = .ok (.aload_n 0, 1) := by decide +kernel
theorem dX10_addRun_52 : decode cX10_addRun 52 = .ok (.invokevirtual 184, 3) := by decide +kernel
theorem dX10_addRun_55 : decode cX10_addRun 55 = .ok (.aload_n 0, 1) := by decide +kernel
theorem dX10_addRun_56 : decode cX10_addRun 56 = .ok (.iload_n 1, 1) := by decide +kernel
theorem dX10_addRun_57 : decode cX10_addRun 57 = .ok (.iload_n 2, 1) := by decide +kernel
theorem dX10_addRun_58 : decode cX10_addRun 58 = .ok (.iload_n 3, 1) := by decide +kernel
theorem dX10_addRun_59 : decode cX10_addRun 59 = .ok (.invokevirtual 187, 3) := by decide +kernel
theorem dX10_addRun_62 : decode cX10_addRun 62 = .ok (.aload_n 0, 1) := by decide +kernel
theorem dX10_addRun_63 : decode cX10_addRun 63 = .ok (.getfield 26, 3) := by decide +kernel
theorem dX10_addRun_66 : decode cX10_addRun 66 = .ok (.iload_n 1, 1) := by decide +kernel
theorem dX10_addRun_67 : decode cX10_addRun 67 = .ok (.iaload, 1) := by decide +kernel
theorem dX10_addRun_68 : decode cX10_addRun 68 = .ok (.ireturn, 1) := by decide +kernel
theorem dX10_clearClue_0 : decode cX10_clearClue 0 = .ok (.aload_n 0, 1) := by decide +kernel
theorem dX10_clearClue_1 : decode cX10_clearClue 1 = .ok (.iload_n 1, 1) := by decide +kernel
theorem dX10_clearClue_2 : decode cX10_clearClue 2 = .ok (.invokevirtual 180, 3) := by decide +kernel
theorem dX10_clearClue_5 : decode cX10_clearClue 5 = .ok (.ifCond .ne 5, 3) := by decide +kernel
theorem dX10_clearClue_8 : decode cX10_clearClue 8 = .ok (.iconst (-1), 1) := by decide +kernel
theorem dX10_clearClue_9 : decode cX10_clearClue 9 = .ok (.ireturn, 1) := by decide +kernel
theorem dX10_clearClue_10 : decode cX10_clearClue 10 = .ok (.aload_n 0, 1) := by decide +kernel
theorem dX10_clearClue_11 : decode cX10_clearClue 11 = .ok (.getfield 26, 3) := by decide +kernel
theorem dX10_clearClue_14 : decode cX10_clearClue 14 = .ok (.iload_n 1, 1) := by decide +kernel
theorem dX10_clearClue_15 : decode cX10_clearClue 15 = .ok (.iaload, 1) := by decide +kernel
theorem dX10_clearClue_16 : decode cX10_clearClue 16 = .ok (.istore_n 2, 1) := by decide +kernel
theorem dX10_clearClue_17 : decode cX10_clearClue 17 = .ok (.aload_n 0, 1) := by decide +kernel
theorem dX10_clearClue_18 : decode cX10_clearClue 18 = .ok (.invokevirtual 184, 3) := by decide +kernel
theorem dX10_clearClue_21 : decode cX10_clearClue 21 = .ok (.aload_n 0, 1) := by decide +kernel
theorem dX10_clearClue_22 : decode cX10_clearClue 22 = .ok (.getfield 26, 3) := by decide +kernel
theorem dX10_clearClue_25 : decode cX10_clearClue 25 = .ok (.iload_n 1, 1) := by decide +kernel
theorem dX10_clearClue_26 : decode cX10_clearClue 26 = .ok (.iconst 0, 1) := by decide +kernel
theorem dX10_clearClue_27 : decode cX10_clearClue 27 = .ok (.iastore, 1) := by decide +kernel
theorem dX10_clearClue_28 : decode cX10_clearClue 28 = .ok (.iload_n 2, 1) := by decide +kernel
theorem dX10_clearClue_29 : decode cX10_clearClue 29 = .ok (.ireturn, 1) := by decide +kernel
theorem dX10_runCount_0 : decode cX10_runCount 0 = .ok (.aload_n 0, 1) := by decide +kernel
theorem dX10_runCount_1 : decode cX10_runCount 1 = .ok (.iload_n 1, 1) := by decide +kernel
theorem dX10_runCount_2 : decode cX10_runCount 2 = .ok (.invokevirtual 180, 3) := by decide +kernel
theorem dX10_runCount_5 : decode cX10_runCount 5 = .ok (.ifCond .eq 12, 3) := by decide +kernel
theorem dX10_runCount_8 : decode cX10_runCount 8 = .ok (.aload_n 0, 1) := by decide +kernel
theorem dX10_runCount_9 : decode cX10_runCount 9 = .ok (.getfield 26, 3) := by decide +kernel
theorem dX10_runCount_12 : decode cX10_runCount 12 = .ok (.iload_n 1, 1) := by decide +kernel
theorem dX10_runCount_13 : decode cX10_runCount 13 = .ok (.iaload, 1) := by decide +kernel
theorem dX10_runCount_14 : decode cX10_runCount 14 = .ok (.goto 4, 3) := by decide +kernel
theorem dX10_runCount_17 : decode cX10_runCount 17 = .ok (.iconst (-1), 1) := by decide +kernel
theorem dX10_runCount_18 : decode cX10_runCount 18 = .ok (.ireturn, 1) := by decide +kernel
theorem dX10_isRun_0 : decode cX10_isRun 0 = .ok (.aload_n 0, 1) := by decide +kernel
theorem dX10_isRun_1 : decode cX10_isRun 1 = .ok (.iload_n 1, 1) := by decide +kernel
theorem dX10_isRun_2 : decode cX10_isRun 2 = .ok (.invokevirtual 180, 3) := by decide +kernel
theorem dX10_isRun_5 : decode cX10_isRun 5 = .ok (.ifCond .eq 24, 3) := by decide +kernel
theorem dX10_isRun_8 : decode cX10_isRun 8 = .ok (.aload_n 0, 1) := by decide +kernel
theorem dX10_isRun_9 : decode cX10_isRun 9 = .ok (.iload_n 2, 1) := by decide +kernel
theorem dX10_isRun_10 : decode cX10_isRun 10 = .ok (.iconst 0, 1) := by decide +kernel
theorem dX10_isRun_11 : decode cX10_isRun 11 = .ok (.aload_n 0, 1) := by decide +kernel
theorem dX10_isRun_12 : decode cX10_isRun 12 = .ok (.getfield 26, 3) := by decide +kernel
theorem dX10_isRun_15 : decode cX10_isRun 15 = .ok (.iload_n 1, 1) := by decide +kernel
theorem dX10_isRun_16 : decode cX10_isRun 16 = .ok (.iaload, 1) := by decide +kernel
theorem dX10_isRun_17 : decode cX10_isRun 17 = .ok (.iconst 1, 1) := by decide +kernel
theorem dX10_isRun_18 : decode cX10_isRun 18 = .ok (.isub, 1) := by decide +kernel
theorem dX10_isRun_19 : decode cX10_isRun 19 = .ok (.invokevirtual 172, 3) := by decide +kernel
theorem dX10_isRun_22 : decode cX10_isRun 22 = .ok (.ifCond .eq 7, 3) := by decide +kernel
theorem dX10_isRun_25 : decode cX10_isRun 25 = .ok (.iconst 1, 1) := by decide +kernel
theorem dX10_isRun_26 : decode cX10_isRun 26 = .ok (.goto 4, 3) := by decide +kernel
theorem dX10_isRun_29 : decode cX10_isRun 29 = .ok (.iconst 0, 1) := by decide +kernel
theorem dX10_isRun_30 : decode cX10_isRun 30 = .ok (.ireturn, 1) := by decide +kernel
theorem dX10_runLength_0 : decode cX10_runLength 0 = .ok (.aload_n 0, 1) := by decide +kernel
theorem dX10_runLength_1 : decode cX10_runLength 1 = .ok (.iload_n 1, 1) := by decide +kernel
theorem dX10_runLength_2 : decode cX10_runLength 2 = .ok (.iload_n 2, 1) := by decide +kernel
theorem dX10_runLength_3 : decode cX10_runLength 3 = .ok (.invokevirtual 191, 3) := by decide +kernel
theorem dX10_runLength_6 : decode cX10_runLength 6 = .ok (.ifCond .eq 17, 3) := by decide +kernel
theorem dX10_runLength_9 : decode cX10_runLength 9 = .ok (.aload_n 0, 1) := by decide +kernel
theorem dX10_runLength_10 : decode cX10_runLength 10 = .ok (.getfield 29, 3) := by decide +kernel
theorem dX10_runLength_13 : decode cX10_runLength 13 = .ok (.bipush 8, 2) := by decide +kernel
theorem dX10_runLength_15 : decode cX10_runLength 15 = .ok (.iload_n 1, 1) := by decide +kernel
theorem dX10_runLength_16 : decode cX10_runLength 16 = .ok (.imul, 1) := by decide +kernel
theorem dX10_runLength_17 : decode cX10_runLength 17 = .ok (.iload_n 2, 1) := by decide +kernel
theorem dX10_runLength_18 : decode cX10_runLength 18 = .ok (.iadd, 1) := by decide +kernel
theorem dX10_runLength_19 : decode cX10_runLength 19 = .ok (.iaload, 1) := by decide +kernel
theorem dX10_runLength_20 : decode cX10_runLength 20 = .ok (.goto 4, 3) := by decide +kernel
theorem dX10_runLength_23 : decode cX10_runLength 23 = .ok (.iconst (-1), 1) := by decide +kernel
theorem dX10_runLength_24 : decode cX10_runLength 24 = .ok (.ireturn, 1) := by decide +kernel
theorem dX10_runColor_0 : decode cX10_runColor 0 = .ok (.aload_n 0, 1) := by decide +kernel
theorem dX10_runColor_1 : decode cX10_runColor 1 = .ok (.iload_n 1, 1) := by decide +kernel
theorem dX10_runColor_2 : decode cX10_runColor 2 = .ok (.iload_n 2, 1) := by decide +kernel
theorem dX10_runColor_3 : decode cX10_runColor 3 = .ok (.invokevirtual 191, 3) := by decide +kernel
theorem dX10_runColor_6 : decode cX10_runColor 6 = .ok (.ifCond .eq 17, 3) := by decide +kernel
theorem dX10_runColor_9 : decode cX10_runColor 9 = .ok (.aload_n 0, 1) := by decide +kernel
theorem dX10_runColor_10 : decode cX10_runColor 10 = .ok (.getfield 32, 3) := by decide +kernel
theorem dX10_runColor_13 : decode cX10_runColor 13 = .ok (.bipush 8, 2) := by decide +kernel
theorem dX10_runColor_15 : decode cX10_runColor 15 = .ok (.iload_n 1, 1) := by decide +kernel
theorem dX10_runColor_16 : decode cX10_runColor 16 = .ok (.imul, 1) := by decide +kernel
theorem dX10_runColor_17 : decode cX10_runColor 17 = .ok (.iload_n 2, 1) := by decide +kernel
theorem dX10_runColor_18 : decode cX10_runColor 18 = .ok (.iadd, 1) := by decide +kernel
theorem dX10_runColor_19 : decode cX10_runColor 19 = .ok (.iaload, 1) := by decide +kernel
theorem dX10_runColor_20 : decode cX10_runColor 20 = .ok (.goto 4, 3) := by decide +kernel
theorem dX10_runColor_23 : decode cX10_runColor 23 = .ok (.iconst (-1), 1) := by decide +kernel
theorem dX10_runColor_24 : decode cX10_runColor 24 = .ok (.ireturn, 1) := by decide +kernel
theorem dX10_minimumLength_0 : decode cX10_minimumLength 0 = .ok (.aload_n 0, 1) := by decide +kernel
theorem dX10_minimumLength_1 : decode cX10_minimumLength 1 = .ok (.iload_n 1, 1) := by decide +kernel
theorem dX10_minimumLength_2 : decode cX10_minimumLength 2 = .ok (.invokevirtual 180, 3) := by decide +kernel
theorem dX10_minimumLength_5 : decode cX10_minimumLength 5 = .ok (.ifCond .ne 5, 3) := by decide +kernel
theorem dX10_minimumLength_8 : decode cX10_minimumLength 8 = .ok (.iconst (-1), 1) := by decide +kernel
theorem dX10_minimumLength_9 : decode cX10_minimumLength 9 = .ok (.ireturn, 1) := by decide +kernel
theorem dX10_minimumLength_10 : decode cX10_minimumLength 10 = .ok (.iconst 0, 1) := by decide +kernel
theorem dX10_minimumLength_11 : decode cX10_minimumLength 11 = .ok (.istore_n 2, 1) := by decide +kernel
theorem dX10_minimumLength_12 : decode cX10_minimumLength 12 = .ok (.iconst 0, 1) := by decide +kernel
theorem dX10_minimumLength_13 : decode cX10_minimumLength 13 = .ok (.istore_n 3, 1) := by decide +kernel
theorem dX10_minimumLength_14 : decode cX10_minimumLength 14 = .ok (.iload_n 3, 1) := by decide +kernel
theorem dX10_minimumLength_15 : decode cX10_minimumLength 15 = .ok (.aload_n 0, 1) := by decide +kernel
theorem dX10_minimumLength_16 : decode cX10_minimumLength 16 = .ok (.getfield 26, 3) := by decide +kernel
theorem dX10_minimumLength_19 : decode cX10_minimumLength 19 = .ok (.iload_n 1, 1) := by decide +kernel
theorem dX10_minimumLength_20 : decode cX10_minimumLength 20 = .ok (.iaload, 1) := by decide +kernel
theorem dX10_minimumLength_21 : decode cX10_minimumLength 21 = .ok (.if_icmp .ge 60, 3) := by decide +kernel
theorem dX10_minimumLength_24 : decode cX10_minimumLength 24 = .ok (.iload_n 2, 1) := by decide +kernel
theorem dX10_minimumLength_25 : decode cX10_minimumLength 25 = .ok (.aload_n 0, 1) := by decide +kernel
theorem dX10_minimumLength_26 : decode cX10_minimumLength 26 = .ok (.getfield 29, 3) := by decide +kernel
theorem dX10_minimumLength_29 : decode cX10_minimumLength 29 = .ok (.bipush 8, 2) := by decide +kernel
theorem dX10_minimumLength_31 : decode cX10_minimumLength 31 = .ok (.iload_n 1, 1) := by decide +kernel
theorem dX10_minimumLength_32 : decode cX10_minimumLength 32 = .ok (.imul, 1) := by decide +kernel
theorem dX10_minimumLength_33 : decode cX10_minimumLength 33 = .ok (.iload_n 3, 1) := by decide +kernel
theorem dX10_minimumLength_34 : decode cX10_minimumLength 34 = .ok (.iadd, 1) := by decide +kernel
theorem dX10_minimumLength_35 : decode cX10_minimumLength 35 = .ok (.iaload, 1) := by decide +kernel
theorem dX10_minimumLength_36 : decode cX10_minimumLength 36 = .ok (.iload_n 3, 1) := by decide +kernel
theorem dX10_minimumLength_37 : decode cX10_minimumLength 37 = .ok (.ifCond .le 34, 3) := by decide +kernel
theorem dX10_minimumLength_40 : decode cX10_minimumLength 40 = .ok (.aload_n 0, 1) := by decide +kernel
theorem dX10_minimumLength_41 : decode cX10_minimumLength 41 = .ok (.getfield 32, 3) := by decide +kernel
theorem dX10_minimumLength_44 : decode cX10_minimumLength 44 = .ok (.bipush 8, 2) := by decide +kernel
theorem dX10_minimumLength_46 : decode cX10_minimumLength 46 = .ok (.iload_n 1, 1) := by decide +kernel
theorem dX10_minimumLength_47 : decode cX10_minimumLength 47 = .ok (.imul, 1) := by decide +kernel
theorem dX10_minimumLength_48 : decode cX10_minimumLength 48 = .ok (.iload_n 3, 1) := by decide +kernel
theorem dX10_minimumLength_49 : decode cX10_minimumLength 49 = .ok (.iadd, 1) := by decide +kernel
theorem dX10_minimumLength_50 : decode cX10_minimumLength 50 = .ok (.iaload, 1) := by decide +kernel
theorem dX10_minimumLength_51 : decode cX10_minimumLength 51 = .ok (.aload_n 0, 1) := by decide +kernel
theorem dX10_minimumLength_52 : decode cX10_minimumLength 52 = .ok (.getfield 32, 3) := by decide +kernel
theorem dX10_minimumLength_55 : decode cX10_minimumLength 55 = .ok (.bipush 8, 2) := by decide +kernel
theorem dX10_minimumLength_57 : decode cX10_minimumLength 57 = .ok (.iload_n 1, 1) := by decide +kernel
theorem dX10_minimumLength_58 : decode cX10_minimumLength 58 = .ok (.imul, 1) := by decide +kernel
theorem dX10_minimumLength_59 : decode cX10_minimumLength 59 = .ok (.iload_n 3, 1) := by decide +kernel
theorem dX10_minimumLength_60 : decode cX10_minimumLength 60 = .ok (.iadd, 1) := by decide +kernel
theorem dX10_minimumLength_61 : decode cX10_minimumLength 61 = .ok (.iconst 1, 1) := by decide +kernel
theorem dX10_minimumLength_62 : decode cX10_minimumLength 62 = .ok (.isub, 1) := by decide +kernel
theorem dX10_minimumLength_63 : decode cX10_minimumLength 63 = .ok (.iaload, 1) := by decide +kernel
theorem dX10_minimumLength_64 : decode cX10_minimumLength 64 = .ok (.if_icmp .ne 7, 3) := by decide +kernel
theorem dX10_minimumLength_67 : decode cX10_minimumLength 67 = .ok (.iconst 1, 1) := by decide +kernel
theorem dX10_minimumLength_68 : decode cX10_minimumLength 68 = .ok (.goto 4, 3) := by decide +kernel
theorem dX10_minimumLength_71 : decode cX10_minimumLength 71 = .ok (.iconst 0, 1) := by decide +kernel
theorem dX10_minimumLength_72 : decode cX10_minimumLength 72 = .ok (.iadd, 1) := by decide +kernel
theorem dX10_minimumLength_73 : decode cX10_minimumLength 73 = .ok (.iadd, 1) := by decide +kernel
theorem dX10_minimumLength_74 : decode cX10_minimumLength 74 = .ok (.istore_n 2, 1) := by decide +kernel
theorem dX10_minimumLength_75 : decode cX10_minimumLength 75 = .ok (.iinc 3 1, 3) := by decide +kernel
theorem dX10_minimumLength_78 : decode cX10_minimumLength 78 = .ok (.goto (-64), 3) := by decide +kernel
theorem dX10_minimumLength_81 : decode cX10_minimumLength 81 = .ok (.iload_n 2, 1) := by decide +kernel
theorem dX10_minimumLength_82 : decode cX10_minimumLength 82 = .ok (.ireturn, 1) := by decide +kernel
theorem dX10_candidates_0 : decode cX10_candidates 0 = .ok (.aload_n 0, 1) := by decide +kernel
theorem dX10_candidates_1 : decode cX10_candidates 1 = .ok (.iload_n 1, 1) := by decide +kernel
theorem dX10_candidates_2 : decode cX10_candidates 2 = .ok (.iload_n 2, 1) := by decide +kernel
theorem dX10_candidates_3 : decode cX10_candidates 3 = .ok (.invokevirtual 195, 3) := by decide +kernel
theorem dX10_candidates_6 : decode cX10_candidates 6 = .ok (.ifCond .eq 17, 3) := by decide +kernel
theorem dX10_candidates_9 : decode cX10_candidates 9 = .ok (.aload_n 0, 1) := by decide +kernel
theorem dX10_candidates_10 : decode cX10_candidates 10 = .ok (.getfield 22, 3) := by decide +kernel
theorem dX10_candidates_13 : decode cX10_candidates 13 = .ok (.bipush 8, 2) := by decide +kernel
theorem dX10_candidates_15 : decode cX10_candidates 15 = .ok (.iload_n 1, 1) := by decide +kernel
theorem dX10_candidates_16 : decode cX10_candidates 16 = .ok (.imul, 1) := by decide +kernel
theorem dX10_candidates_17 : decode cX10_candidates 17 = .ok (.iload_n 2, 1) := by decide +kernel
theorem dX10_candidates_18 : decode cX10_candidates 18 = .ok (.iadd, 1) := by decide +kernel
theorem dX10_candidates_19 : decode cX10_candidates 19 = .ok (.iaload, 1) := by decide +kernel
theorem dX10_candidates_20 : decode cX10_candidates 20 = .ok (.goto 4, 3) := by decide +kernel
theorem dX10_candidates_23 : decode cX10_candidates 23 = .ok (.iconst (-1), 1) := by decide +kernel
theorem dX10_candidates_24 : decode cX10_candidates 24 = .ok (.ireturn, 1) := by decide +kernel
theorem dX10_color_0 : decode cX10_color 0 = .ok (.aload_n 0, 1) := by decide +kernel
theorem dX10_color_1 : decode cX10_color 1 = .ok (.iload_n 1, 1) := by decide +kernel
theorem dX10_color_2 : decode cX10_color 2 = .ok (.iload_n 2, 1) := by decide +kernel
theorem dX10_color_3 : decode cX10_color 3 = .ok (.invokevirtual 195, 3) := by decide +kernel
theorem dX10_color_6 : decode cX10_color 6 = .ok (.ifCond .ne 5, 3) := by decide +kernel
theorem dX10_color_9 : decode cX10_color 9 = .ok (.iconst (-1), 1) := by decide +kernel
theorem dX10_color_10 : decode cX10_color 10 = .ok (.ireturn, 1) := by decide +kernel
theorem dX10_color_11 : decode cX10_color 11 = .ok (.aload_n 0, 1) := by decide +kernel
theorem dX10_color_12 : decode cX10_color 12 = .ok (.bipush 8, 2) := by decide +kernel
theorem dX10_color_14 : decode cX10_color 14 = .ok (.iload_n 1, 1) := by decide +kernel
theorem dX10_color_15 : decode cX10_color 15 = .ok (.imul, 1) := by decide +kernel
theorem dX10_color_16 : decode cX10_color 16 = .ok (.iload_n 2, 1) := by decide +kernel
theorem dX10_color_17 : decode cX10_color 17 = .ok (.iadd, 1) := by decide +kernel
theorem dX10_color_18 : decode cX10_color 18 = .ok (.invokevirtual 198, 3) := by decide +kernel
theorem dX10_color_21 : decode cX10_color 21 = .ok (.ifCond .eq 16, 3) := by decide +kernel
theorem dX10_color_24 : decode cX10_color 24 = .ok (.aload_n 0, 1) := by decide +kernel
theorem dX10_color_25 : decode cX10_color 25 = .ok (.bipush 8, 2) := by decide +kernel
theorem dX10_color_27 : decode cX10_color 27 = .ok (.iload_n 1, 1) := by decide +kernel
theorem dX10_color_28 : decode cX10_color 28 = .ok (.imul, 1) := by decide +kernel
theorem dX10_color_29 : decode cX10_color 29 = .ok (.iload_n 2, 1) := by decide +kernel
theorem dX10_color_30 : decode cX10_color 30 = .ok (.iadd, 1) := by decide +kernel
theorem dX10_color_31 : decode cX10_color 31 = .ok (.invokevirtual 201, 3) := by decide +kernel
theorem dX10_color_34 : decode cX10_color 34 = .ok (.goto 5, 3) := by decide +kernel
theorem dX10_color_37 : decode cX10_color 37 = .ok (.bipush (-6), 2) := by decide +kernel
theorem dX10_color_39 : decode cX10_color 39 = .ok (.ireturn, 1) := by decide +kernel
theorem dX10_keepOnly_0 : decode cX10_keepOnly 0 = .ok (.aload_n 0, 1) := by decide +kernel
theorem dX10_keepOnly_1 : decode cX10_keepOnly 1 = .ok (.iload_n 1, 1) := by decide +kernel
theorem dX10_keepOnly_2 : decode cX10_keepOnly 2 = .ok (.iload_n 2, 1) := by decide +kernel
theorem dX10_keepOnly_3 : decode cX10_keepOnly 3 = .ok (.invokevirtual 195, 3) := by decide +kernel
theorem dX10_keepOnly_6 : decode cX10_keepOnly 6 = .ok (.ifCond .ne 5, 3) := by decide +kernel
theorem dX10_keepOnly_9 : decode cX10_keepOnly 9 = .ok (.iconst (-1), 1) := by decide +kernel
theorem dX10_keepOnly_10 : decode cX10_keepOnly 10 = .ok (.ireturn, 1) := by decide +kernel
theorem dX10_keepOnly_11 : decode cX10_keepOnly 11 = .ok (.aload_n 0, 1) := by decide +kernel
theorem dX10_keepOnly_12 : decode cX10_keepOnly 12 = .ok (.iload_n 3, 1) := by decide +kernel
theorem dX10_keepOnly_13 : decode cX10_keepOnly 13 = .ok (.invokevirtual 205, 3) := by decide +kernel
theorem dX10_keepOnly_16 : decode cX10_keepOnly 16 = .ok (.ifCond .ne 6, 3) := by decide +kernel
theorem dX10_keepOnly_19 : decode cX10_keepOnly 19 = .ok (.bipush (-2), 2) := by decide +kernel
theorem dX10_keepOnly_21 : decode cX10_keepOnly 21 = .ok (.ireturn, 1) := by decide +kernel
theorem dX10_keepOnly_22 : decode cX10_keepOnly 22 = .ok (.aload_n 0, 1) := by decide +kernel
theorem dX10_keepOnly_23 : decode cX10_keepOnly 23 = .ok (.getfield 22, 3) := by decide +kernel
theorem dX10_keepOnly_26 : decode cX10_keepOnly 26 = .ok (.bipush 8, 2) := by decide +kernel
theorem dX10_keepOnly_28 : decode cX10_keepOnly 28 = .ok (.iload_n 1, 1) := by decide +kernel
theorem dX10_keepOnly_29 : decode cX10_keepOnly 29 = .ok (.imul, 1) := by decide +kernel
theorem dX10_keepOnly_30 : decode cX10_keepOnly 30 = .ok (.iload_n 2, 1) := by decide +kernel
theorem dX10_keepOnly_31 : decode cX10_keepOnly 31 = .ok (.iadd, 1) := by decide +kernel
theorem dX10_keepOnly_32 : decode cX10_keepOnly 32 = .ok (.iaload, 1) := by decide +kernel
theorem dX10_keepOnly_33 : decode cX10_keepOnly 33 = .ok (.istore 4, 2) := by decide +kernel
theorem dX10_keepOnly_35 : decode cX10_keepOnly 35 = .ok (.iload 4, 2) := by decide +kernel
theorem dX10_keepOnly_37 : decode cX10_keepOnly 37 = .ok (.iload_n 3, 1) := by decide +kernel
theorem dX10_keepOnly_38 : decode cX10_keepOnly 38 = .ok (.ishr, 1) := by decide +kernel
theorem dX10_keepOnly_39 : decode cX10_keepOnly 39 = .ok (.iconst 1, 1) := by decide +kernel
theorem dX10_keepOnly_40 : decode cX10_keepOnly 40 = .ok (.iand, 1) := by decide +kernel
theorem dX10_keepOnly_41 : decode cX10_keepOnly 41 = .ok (.ifCond .ne 6, 3) := by decide +kernel
theorem dX10_keepOnly_44 : decode cX10_keepOnly 44 = .ok (.bipush (-5), 2) := by decide +kernel
theorem dX10_keepOnly_46 : decode cX10_keepOnly 46 = .ok (.ireturn, 1) := by decide +kernel
theorem dX10_keepOnly_47 : decode cX10_keepOnly 47 = .ok (.aload_n 0, 1) := by decide +kernel
theorem dX10_keepOnly_48 : decode cX10_keepOnly 48 = .ok (.invokevirtual 184, 3) := by decide +kernel
theorem dX10_keepOnly_51 : decode cX10_keepOnly 51 = .ok (.aload_n 0, 1) := by decide +kernel
theorem dX10_keepOnly_52 : decode cX10_keepOnly 52 = .ok (.getfield 22, 3) := by decide +kernel
theorem dX10_keepOnly_55 : decode cX10_keepOnly 55 = .ok (.bipush 8, 2) := by decide +kernel
theorem dX10_keepOnly_57 : decode cX10_keepOnly 57 = .ok (.iload_n 1, 1) := by decide +kernel
theorem dX10_keepOnly_58 : decode cX10_keepOnly 58 = .ok (.imul, 1) := by decide +kernel
theorem dX10_keepOnly_59 : decode cX10_keepOnly 59 = .ok (.iload_n 2, 1) := by decide +kernel
theorem dX10_keepOnly_60 : decode cX10_keepOnly 60 = .ok (.iadd, 1) := by decide +kernel
theorem dX10_keepOnly_61 : decode cX10_keepOnly 61 = .ok (.iconst 1, 1) := by decide +kernel
theorem dX10_keepOnly_62 : decode cX10_keepOnly 62 = .ok (.iload_n 3, 1) := by decide +kernel
theorem dX10_keepOnly_63 : decode cX10_keepOnly 63 = .ok (.ishl, 1) := by decide +kernel
theorem dX10_keepOnly_64 : decode cX10_keepOnly 64 = .ok (.iastore, 1) := by decide +kernel
theorem dX10_keepOnly_65 : decode cX10_keepOnly 65 = .ok (.aload_n 0, 1) := by decide +kernel
theorem dX10_keepOnly_66 : decode cX10_keepOnly 66 = .ok (.iload 4, 2) := by decide +kernel
theorem dX10_keepOnly_68 : decode cX10_keepOnly 68 = .ok (.invokevirtual 208, 3) := by decide +kernel
theorem dX10_keepOnly_71 : decode cX10_keepOnly 71 = .ok (.iconst 1, 1) := by decide +kernel
theorem dX10_keepOnly_72 : decode cX10_keepOnly 72 = .ok (.isub, 1) := by decide +kernel
theorem dX10_keepOnly_73 : decode cX10_keepOnly 73 = .ok (.ireturn, 1) := by decide +kernel
theorem dX10_eliminate_0 : decode cX10_eliminate 0 = .ok (.aload_n 0, 1) := by decide +kernel
theorem dX10_eliminate_1 : decode cX10_eliminate 1 = .ok (.iload_n 1, 1) := by decide +kernel
theorem dX10_eliminate_2 : decode cX10_eliminate 2 = .ok (.iload_n 2, 1) := by decide +kernel
theorem dX10_eliminate_3 : decode cX10_eliminate 3 = .ok (.invokevirtual 195, 3) := by decide +kernel
theorem dX10_eliminate_6 : decode cX10_eliminate 6 = .ok (.ifCond .ne 5, 3) := by decide +kernel
theorem dX10_eliminate_9 : decode cX10_eliminate 9 = .ok (.iconst (-1), 1) := by decide +kernel
theorem dX10_eliminate_10 : decode cX10_eliminate 10 = .ok (.ireturn, 1) := by decide +kernel
theorem dX10_eliminate_11 : decode cX10_eliminate 11 = .ok (.aload_n 0, 1) := by decide +kernel
theorem dX10_eliminate_12 : decode cX10_eliminate 12 = .ok (.iload_n 3, 1) := by decide +kernel
theorem dX10_eliminate_13 : decode cX10_eliminate 13 = .ok (.invokevirtual 205, 3) := by decide +kernel
theorem dX10_eliminate_16 : decode cX10_eliminate 16 = .ok (.ifCond .ne 6, 3) := by decide +kernel
theorem dX10_eliminate_19 : decode cX10_eliminate 19 = .ok (.bipush (-2), 2) := by decide +kernel
theorem dX10_eliminate_21 : decode cX10_eliminate 21 = .ok (.ireturn, 1) := by decide +kernel
theorem dX10_eliminate_22 : decode cX10_eliminate 22 = .ok (.aload_n 0, 1) := by decide +kernel
theorem dX10_eliminate_23 : decode cX10_eliminate 23 = .ok (.getfield 22, 3) := by decide +kernel
theorem dX10_eliminate_26 : decode cX10_eliminate 26 = .ok (.bipush 8, 2) := by decide +kernel
theorem dX10_eliminate_28 : decode cX10_eliminate 28 = .ok (.iload_n 1, 1) := by decide +kernel
theorem dX10_eliminate_29 : decode cX10_eliminate 29 = .ok (.imul, 1) := by decide +kernel
theorem dX10_eliminate_30 : decode cX10_eliminate 30 = .ok (.iload_n 2, 1) := by decide +kernel
theorem dX10_eliminate_31 : decode cX10_eliminate 31 = .ok (.iadd, 1) := by decide +kernel
theorem dX10_eliminate_32 : decode cX10_eliminate 32 = .ok (.iaload, 1) := by decide +kernel
theorem dX10_eliminate_33 : decode cX10_eliminate 33 = .ok (.istore 4, 2) := by decide +kernel
theorem dX10_eliminate_35 : decode cX10_eliminate 35 = .ok (.iload 4, 2) := by decide +kernel
theorem dX10_eliminate_37 : decode cX10_eliminate 37 = .ok (.iload_n 3, 1) := by decide +kernel
theorem dX10_eliminate_38 : decode cX10_eliminate 38 = .ok (.ishr, 1) := by decide +kernel
theorem dX10_eliminate_39 : decode cX10_eliminate 39 = .ok (.iconst 1, 1) := by decide +kernel
theorem dX10_eliminate_40 : decode cX10_eliminate 40 = .ok (.iand, 1) := by decide +kernel
theorem dX10_eliminate_41 : decode cX10_eliminate 41 = .ok (.ifCond .eq 11, 3) := by decide +kernel
theorem dX10_eliminate_44 : decode cX10_eliminate 44 = .ok (.iload 4, 2) := by decide +kernel
theorem dX10_eliminate_46 : decode cX10_eliminate 46 = .ok (.iconst 1, 1) := by decide +kernel
theorem dX10_eliminate_47 : decode cX10_eliminate 47 = .ok (.iload_n 3, 1) := by decide +kernel
theorem dX10_eliminate_48 : decode cX10_eliminate 48 = .ok (.ishl, 1) := by decide +kernel
theorem dX10_eliminate_49 : decode cX10_eliminate 49 = .ok (.if_icmp .ne 6, 3) := by decide +kernel
theorem dX10_eliminate_52 : decode cX10_eliminate 52 = .ok (.bipush (-5), 2) := by decide +kernel
theorem dX10_eliminate_54 : decode cX10_eliminate 54 = .ok (.ireturn, 1) := by decide +kernel
theorem dX10_eliminate_55 : decode cX10_eliminate 55 = .ok (.aload_n 0, 1) := by decide +kernel
theorem dX10_eliminate_56 : decode cX10_eliminate 56 = .ok (.invokevirtual 184, 3) := by decide +kernel
theorem dX10_eliminate_59 : decode cX10_eliminate 59 = .ok (.aload_n 0, 1) := by decide +kernel
theorem dX10_eliminate_60 : decode cX10_eliminate 60 = .ok (.getfield 22, 3) := by decide +kernel
theorem dX10_eliminate_63 : decode cX10_eliminate 63 = .ok (.bipush 8, 2) := by decide +kernel
theorem dX10_eliminate_65 : decode cX10_eliminate 65 = .ok (.iload_n 1, 1) := by decide +kernel
theorem dX10_eliminate_66 : decode cX10_eliminate 66 = .ok (.imul, 1) := by decide +kernel
theorem dX10_eliminate_67 : decode cX10_eliminate 67 = .ok (.iload_n 2, 1) := by decide +kernel
theorem dX10_eliminate_68 : decode cX10_eliminate 68 = .ok (.iadd, 1) := by decide +kernel
theorem dX10_eliminate_69 : decode cX10_eliminate 69 = .ok (.iload 4, 2) := by decide +kernel
theorem dX10_eliminate_71 : decode cX10_eliminate 71 = .ok (.iconst 1, 1) := by decide +kernel
theorem dX10_eliminate_72 : decode cX10_eliminate 72 = .ok (.iload_n 3, 1) := by decide +kernel
theorem dX10_eliminate_73 : decode cX10_eliminate 73 = .ok (.ishl, 1) := by decide +kernel
theorem dX10_eliminate_74 : decode cX10_eliminate 74 = .ok (.iconst (-1), 1) := by decide +kernel
theorem dX10_eliminate_75 : decode cX10_eliminate 75 = .ok (.ixor, 1) := by decide +kernel
theorem dX10_eliminate_76 : decode cX10_eliminate 76 = .ok (.iand, 1) := by decide +kernel
theorem dX10_eliminate_77 : decode cX10_eliminate 77 = .ok (.iastore, 1) := by decide +kernel
theorem dX10_eliminate_78 : decode cX10_eliminate 78 = .ok (.aload_n 0, 1) := by decide +kernel
theorem dX10_eliminate_79 : decode cX10_eliminate 79 = .ok (.iload 4, 2) := by decide +kernel
theorem dX10_eliminate_81 : decode cX10_eliminate 81 = .ok (.invokevirtual 208, 3) := by decide +kernel
theorem dX10_eliminate_84 : decode cX10_eliminate 84 = .ok (.iconst 1, 1) := by decide +kernel
theorem dX10_eliminate_85 : decode cX10_eliminate 85 = .ok (.isub, 1) := by decide +kernel
theorem dX10_eliminate_86 : decode cX10_eliminate 86 = .ok (.ireturn, 1) := by decide +kernel
theorem dX10_decidedIn_0 : decode cX10_decidedIn 0 = .ok (.iconst 0, 1) := by decide +kernel
theorem dX10_decidedIn_1 : decode cX10_decidedIn 1 = .ok (.istore_n 2, 1) := by decide +kernel
theorem dX10_decidedIn_2 : decode cX10_decidedIn 2 = .ok (.iconst 0, 1) := by decide +kernel
theorem dX10_decidedIn_3 : decode cX10_decidedIn 3 = .ok (.istore_n 3, 1) := by decide +kernel
theorem dX10_decidedIn_4 : decode cX10_decidedIn 4 = .ok (.iload_n 3, 1) := by decide +kernel
theorem dX10_decidedIn_5 : decode cX10_decidedIn 5 = .ok (.aload_n 0, 1) := by decide +kernel
theorem dX10_decidedIn_6 : decode cX10_decidedIn 6 = .ok (.getfield 7, 3) := by decide +kernel
theorem dX10_decidedIn_9 : decode cX10_decidedIn 9 = .ok (.if_icmp .ge 51, 3) := by decide +kernel
theorem dX10_decidedIn_12 : decode cX10_decidedIn 12 = .ok (.iconst 0, 1) := by decide +kernel
theorem dX10_decidedIn_13 : decode cX10_decidedIn 13 = .ok (.istore 4, 2) := by decide +kernel
theorem dX10_decidedIn_15 : decode cX10_decidedIn 15 = .ok (.iload 4, 2) := by decide +kernel
theorem dX10_decidedIn_17 : decode cX10_decidedIn 17 = .ok (.aload_n 0, 1) := by decide +kernel
theorem dX10_decidedIn_18 : decode cX10_decidedIn 18 = .ok (.getfield 13, 3) := by decide +kernel
theorem dX10_decidedIn_21 : decode cX10_decidedIn 21 = .ok (.if_icmp .ge 33, 3) := by decide +kernel
theorem dX10_decidedIn_24 : decode cX10_decidedIn 24 = .ok (.iload_n 2, 1) := by decide +kernel
theorem dX10_decidedIn_25 : decode cX10_decidedIn 25 = .ok (.aload_n 0, 1) := by decide +kernel
theorem dX10_decidedIn_26 : decode cX10_decidedIn 26 = .ok (.iload_n 1, 1) := by decide +kernel
theorem dX10_decidedIn_27 : decode cX10_decidedIn 27 = .ok (.bipush 8, 2) := by decide +kernel
theorem dX10_decidedIn_29 : decode cX10_decidedIn 29 = .ok (.iload_n 3, 1) := by decide +kernel
theorem dX10_decidedIn_30 : decode cX10_decidedIn 30 = .ok (.imul, 1) := by decide +kernel
theorem dX10_decidedIn_31 : decode cX10_decidedIn 31 = .ok (.iadd, 1) := by decide +kernel
theorem dX10_decidedIn_32 : decode cX10_decidedIn 32 = .ok (.iload 4, 2) := by decide +kernel
theorem dX10_decidedIn_34 : decode cX10_decidedIn 34 = .ok (.iadd, 1) := by decide +kernel
theorem dX10_decidedIn_35 : decode cX10_decidedIn 35 = .ok (.invokevirtual 198, 3) := by decide +kernel
theorem dX10_decidedIn_38 : decode cX10_decidedIn 38 = .ok (.ifCond .eq 7, 3) := by decide +kernel
theorem dX10_decidedIn_41 : decode cX10_decidedIn 41 = .ok (.iconst 1, 1) := by decide +kernel
theorem dX10_decidedIn_42 : decode cX10_decidedIn 42 = .ok (.goto 4, 3) := by decide +kernel
theorem dX10_decidedIn_45 : decode cX10_decidedIn 45 = .ok (.iconst 0, 1) := by decide +kernel
theorem dX10_decidedIn_46 : decode cX10_decidedIn 46 = .ok (.iadd, 1) := by decide +kernel
theorem dX10_decidedIn_47 : decode cX10_decidedIn 47 = .ok (.istore_n 2, 1) := by decide +kernel
theorem dX10_decidedIn_48 : decode cX10_decidedIn 48 = .ok (.iinc 4 1, 3) := by decide +kernel
theorem dX10_decidedIn_51 : decode cX10_decidedIn 51 = .ok (.goto (-36), 3) := by decide +kernel
theorem dX10_decidedIn_54 : decode cX10_decidedIn 54 = .ok (.iinc 3 1, 3) := by decide +kernel
theorem dX10_decidedIn_57 : decode cX10_decidedIn 57 = .ok (.goto (-53), 3) := by decide +kernel
theorem dX10_decidedIn_60 : decode cX10_decidedIn 60 = .ok (.iload_n 2, 1) := by decide +kernel
theorem dX10_decidedIn_61 : decode cX10_decidedIn 61 = .ok (.ireturn, 1) := by decide +kernel
theorem dX10_decidedCount_0 : decode cX10_decidedCount 0 = .ok (.aload_n 0, 1) := by decide +kernel
theorem dX10_decidedCount_1 : decode cX10_decidedCount 1 = .ok (.iconst 0, 1) := by decide +kernel
theorem dX10_decidedCount_2 : decode cX10_decidedCount 2 = .ok (.invokevirtual 211, 3) := by decide +kernel
theorem dX10_decidedCount_5 : decode cX10_decidedCount 5 = .ok (.ireturn, 1) := by decide +kernel
theorem dX10_averageCandidates_0 : decode cX10_averageCandidates 0 = .ok (.aload_n 0, 1) := by decide +kernel
theorem dX10_averageCandidates_1 : decode cX10_averageCandidates 1 = .ok (.iload_n 1, 1) := by decide +kernel
theorem dX10_averageCandidates_2 : decode cX10_averageCandidates 2 = .ok (.invokevirtual 180, 3) := by decide +kernel
theorem dX10_averageCandidates_5 : decode cX10_averageCandidates 5 = .ok (.ifCond .ne 5, 3) := by decide +kernel
theorem dX10_averageCandidates_8 : decode cX10_averageCandidates 8 = .ok (.iconst (-1), 1) := by decide +kernel
theorem dX10_averageCandidates_9 : decode cX10_averageCandidates 9 = .ok (.ireturn, 1) := by decide +kernel
theorem dX10_averageCandidates_10 : decode cX10_averageCandidates 10 = .ok (.iconst 0, 1) := by decide +kernel
theorem dX10_averageCandidates_11 : decode cX10_averageCandidates 11 = .ok (.istore_n 2, 1) := by decide +kernel
theorem dX10_averageCandidates_12 : decode cX10_averageCandidates 12 = .ok (.iconst 0, 1) := by decide +kernel
theorem dX10_averageCandidates_13 : decode cX10_averageCandidates 13 = .ok (.istore_n 3, 1) := by decide +kernel
theorem dX10_averageCandidates_14 : decode cX10_averageCandidates 14 = .ok (.iconst 0, 1) := by decide +kernel
theorem dX10_averageCandidates_15 : decode cX10_averageCandidates 15 = .ok (.istore 4, 2) := by decide +kernel
theorem dX10_averageCandidates_17 : decode cX10_averageCandidates 17 = .ok (.iload 4, 2) := by decide +kernel
theorem dX10_averageCandidates_19 : decode cX10_averageCandidates 19 = .ok (.aload_n 0, 1) := by decide +kernel
theorem dX10_averageCandidates_20 : decode cX10_averageCandidates 20 = .ok (.iload_n 1, 1) := by decide +kernel
theorem dX10_averageCandidates_21 : decode cX10_averageCandidates 21 = .ok (.invokevirtual 214, 3) := by decide +kernel
theorem dX10_averageCandidates_24 : decode cX10_averageCandidates 24 = .ok (.if_icmp .ge 47, 3) := by decide +kernel
theorem dX10_averageCandidates_27 : decode cX10_averageCandidates 27 = .ok (.aload_n 0, 1) := by decide +kernel
theorem dX10_averageCandidates_28 : decode cX10_averageCandidates 28 = .ok (.iload_n 1, 1) := by decide +kernel
theorem dX10_averageCandidates_29 : decode cX10_averageCandidates 29 = .ok (.iload 4, 2) := by decide +kernel
theorem dX10_averageCandidates_31 : decode cX10_averageCandidates 31 = .ok (.invokevirtual 217, 3) := by decide +kernel
theorem dX10_averageCandidates_34 : decode cX10_averageCandidates 34 = .ok (.istore 5, 2) := by decide +kernel
theorem dX10_averageCandidates_36 : decode cX10_averageCandidates 36 = .ok (.aload_n 0, 1) := by decide +kernel
theorem dX10_averageCandidates_37 : decode cX10_averageCandidates 37 = .ok (.iload 5, 2) := by decide +kernel
theorem dX10_averageCandidates_39 : decode cX10_averageCandidates 39 = .ok (.invokevirtual 198, 3) := by decide +kernel
theorem dX10_averageCandidates_42 : decode cX10_averageCandidates 42 = .ok (.ifCond .eq 6, 3) := by decide +kernel
theorem dX10_averageCandidates_45 : decode cX10_averageCandidates 45 = .ok (.goto 20, 3) := by decide +kernel
theorem dX10_averageCandidates_48 : decode cX10_averageCandidates 48 = .ok (.iinc 2 1, 3) := by decide +kernel
theorem dX10_averageCandidates_51 : decode cX10_averageCandidates 51 = .ok (.iload_n 3, 1) := by decide +kernel
theorem dX10_averageCandidates_52 : decode cX10_averageCandidates 52 = .ok (.aload_n 0, 1) := by decide +kernel
theorem dX10_averageCandidates_53 : decode cX10_averageCandidates 53 = .ok (.aload_n 0, 1) := by decide +kernel
theorem dX10_averageCandidates_54 : decode cX10_averageCandidates 54 = .ok (.getfield 22, 3) := by decide +kernel
theorem dX10_averageCandidates_57 : decode cX10_averageCandidates 57 = .ok (.iload 5, 2) := by decide +kernel
theorem dX10_averageCandidates_59 : decode cX10_averageCandidates 59 = .ok (.iaload, 1) := by decide +kernel
theorem dX10_averageCandidates_60 : decode cX10_averageCandidates 60 = .ok (.invokevirtual 208, 3) := by decide +kernel
theorem dX10_averageCandidates_63 : decode cX10_averageCandidates 63 = .ok (.iadd, 1) := by decide +kernel
theorem dX10_averageCandidates_64 : decode cX10_averageCandidates 64 = .ok (.istore_n 3, 1) := by decide +kernel
theorem dX10_averageCandidates_65 : decode cX10_averageCandidates 65 = .ok (.iinc 4 1, 3) := by decide +kernel
theorem dX10_averageCandidates_68 : decode cX10_averageCandidates 68 = .ok (.goto (-51), 3) := by decide +kernel
theorem dX10_averageCandidates_71 : decode cX10_averageCandidates 71 = .ok (.iload_n 2, 1) := by decide +kernel
theorem dX10_averageCandidates_72 : decode cX10_averageCandidates 72 = .ok (.ifCond .ne 8, 3) := by decide +kernel
theorem dX10_averageCandidates_75 : decode cX10_averageCandidates 75 = .ok (.bipush (-8), 2) := by decide +kernel
theorem dX10_averageCandidates_77 : decode cX10_averageCandidates 77 = .ok (.goto 9, 3) := by decide +kernel
theorem dX10_averageCandidates_80 : decode cX10_averageCandidates 80 = .ok (.bipush 100, 2) := by decide +kernel
theorem dX10_averageCandidates_82 : decode cX10_averageCandidates 82 = .ok (.iload_n 3, 1) := by decide +kernel
theorem dX10_averageCandidates_83 : decode cX10_averageCandidates 83 = .ok (.imul, 1) := by decide +kernel
theorem dX10_averageCandidates_84 : decode cX10_averageCandidates 84 = .ok (.iload_n 2, 1) := by decide +kernel
theorem dX10_averageCandidates_85 : decode cX10_averageCandidates 85 = .ok (.idiv, 1) := by decide +kernel
theorem dX10_averageCandidates_86 : decode cX10_averageCandidates 86 = .ok (.ireturn, 1) := by decide +kernel
theorem dX10_assign_0 : decode cX10_assign 0 = .ok (.aload_n 0, 1) := by decide +kernel
theorem dX10_assign_1 : decode cX10_assign 1 = .ok (.aload_n 0, 1) := by decide +kernel
theorem dX10_assign_2 : decode cX10_assign 2 = .ok (.getfield 65, 3) := by decide +kernel
theorem dX10_assign_5 : decode cX10_assign 5 = .ok (.invokevirtual 214, 3) := by decide +kernel
theorem dX10_assign_8 : decode cX10_assign 8 = .ok (.istore 4, 2) := by decide +kernel
theorem dX10_assign_10 : decode cX10_assign 10 = .ok (.iload_n 1, 1) := by decide +kernel
theorem dX10_assign_11 : decode cX10_assign 11 = .ok (.iload 4, 2) := by decide +kernel
theorem dX10_assign_13 : decode cX10_assign 13 = .ok (.if_icmp .ne 87, 3) := by decide +kernel
theorem dX10_assign_16 : decode cX10_assign 16 = .ok (.iload_n 2, 1) := by decide +kernel
theorem dX10_assign_17 : decode cX10_assign 17 = .ok (.aload_n 0, 1) := by decide +kernel
theorem dX10_assign_18 : decode cX10_assign 18 = .ok (.getfield 26, 3) := by decide +kernel
theorem dX10_assign_21 : decode cX10_assign 21 = .ok (.aload_n 0, 1) := by decide +kernel
theorem dX10_assign_22 : decode cX10_assign 22 = .ok (.getfield 65, 3) := by decide +kernel
theorem dX10_assign_25 : decode cX10_assign 25 = .ok (.iaload, 1) := by decide +kernel
theorem dX10_assign_26 : decode cX10_assign 26 = .ok (.if_icmp .ge 4, 3) := by decide +kernel
theorem dX10_assign_29 : decode cX10_assign 29 = .ok (.return_, 1) := by decide +kernel
theorem dX10_assign_30 : decode cX10_assign 30 = .ok (.iconst 0, 1) := by decide +kernel
theorem dX10_assign_31 : decode cX10_assign 31 = .ok (.istore 5, 2) := by decide +kernel
theorem dX10_assign_33 : decode cX10_assign 33 = .ok (.iload 5, 2) := by decide +kernel
theorem dX10_assign_35 : decode cX10_assign 35 = .ok (.iload 4, 2) := by decide +kernel
theorem dX10_assign_37 : decode cX10_assign 37 = .ok (.if_icmp .ge 28, 3) := by decide +kernel
theorem dX10_assign_40 : decode cX10_assign 40 = .ok (.aload_n 0, 1) := by decide +kernel
theorem dX10_assign_41 : decode cX10_assign 41 = .ok (.getfield 59, 3) := by decide +kernel
theorem dX10_assign_44 : decode cX10_assign 44 = .ok (.iload 5, 2) := by decide +kernel
theorem dX10_assign_46 : decode cX10_assign 46 = .ok (.dup2, 1) := by decide +kernel
theorem dX10_assign_47 : decode cX10_assign 47 = .ok (.iaload, 1) := by decide +kernel
theorem dX10_assign_48 : decode cX10_assign 48 = .ok (.iconst 1, 1) := by decide +kernel
theorem dX10_assign_49 : decode cX10_assign 49 = .ok (.aload_n 0, 1) := by decide +kernel
theorem dX10_assign_50 : decode cX10_assign 50 = .ok (.getfield 56, 3) := by decide +kernel
theorem dX10_assign_53 : decode cX10_assign 53 = .ok (.iload 5, 2) := by decide +kernel
theorem dX10_assign_55 : decode cX10_assign 55 = .ok (.iaload, 1) := by decide +kernel
theorem dX10_assign_56 : decode cX10_assign 56 = .ok (.ishl, 1) := by decide +kernel
theorem dX10_assign_57 : decode cX10_assign 57 = .ok (.ior, 1) := by decide +kernel
theorem dX10_assign_58 : decode cX10_assign 58 = .ok (.iastore, 1) := by decide +kernel
theorem dX10_assign_59 : decode cX10_assign 59 = .ok (.iinc 5 1, 3) := by decide +kernel
theorem dX10_assign_62 : decode cX10_assign 62 = .ok (.goto (-29), 3) := by decide +kernel
theorem dX10_assign_65 : decode cX10_assign 65 = .ok (.aload_n 0, 1) := by decide +kernel
theorem dX10_assign_66 : decode cX10_assign 66 = .ok (.getfield 68, 3) := by decide +kernel
theorem dX10_assign_69 : decode cX10_assign 69 = .ok (.aload_n 0, 1) := by decide +kernel
theorem dX10_assign_70 : decode cX10_assign 70 = .ok (.getfield 71, 3) := by decide +kernel
theorem dX10_assign_73 : decode cX10_assign 73 = .ok (.if_icmp .ne 16, 3) := by decide +kernel
theorem dX10_assign_76 : decode cX10_assign 76 = .ok (.aload_n 0, 1) := by decide +kernel
theorem dX10_assign_77 : decode cX10_assign 77 = .ok (.aload_n 0, 1) := by decide +kernel
theorem dX10_assign_78 : decode cX10_assign 78 = .ok (.getfield 56, 3) := by decide +kernel
theorem dX10_assign_81 : decode cX10_assign 81 = .ok (.aload_n 0, 1) := by decide +kernel
theorem dX10_assign_82 : decode cX10_assign 82 = .ok (.getfield 74, 3) := by decide +kernel
theorem dX10_assign_85 : decode cX10_assign 85 = .ok (.iaload, 1) := by decide +kernel
theorem dX10_assign_86 : decode cX10_assign 86 = .ok (.putfield 77, 3) := by decide +kernel
theorem dX10_assign_89 : decode cX10_assign 89 = .ok (.aload_n 0, 1) := by decide +kernel
theorem dX10_assign_90 : decode cX10_assign 90 = .ok (.dup, 1) := by decide +kernel
theorem dX10_assign_91 : decode cX10_assign 91 = .ok (.getfield 68, 3) := by decide +kernel
theorem dX10_assign_94 : decode cX10_assign 94 = .ok (.iconst 1, 1) := by decide +kernel
theorem dX10_assign_95 : decode cX10_assign 95 = .ok (.iadd, 1) := by decide +kernel
theorem dX10_assign_96 : decode cX10_assign 96 = .ok (.putfield 68, 3) := by decide +kernel
theorem dX10_assign_99 : decode cX10_assign 99 = .ok (.return_, 1) := by decide +kernel
theorem dX10_assign_100 : decode cX10_assign 100 = .ok (.aload_n 0, 1) := by decide +kernel
theorem dX10_assign_101 : decode cX10_assign 101 = .ok (.getfield 22, 3) := by decide +kernel
theorem dX10_assign_104 : decode cX10_assign 104 = .ok (.aload_n 0, 1) := by decide +kernel
theorem dX10_assign_105 : decode cX10_assign 105 = .ok (.getfield 62, 3) := by decide +kernel
theorem dX10_assign_108 : decode cX10_assign 108 = .ok (.aload_n 0, 1) := by decide +kernel
theorem dX10_assign_109 : decode cX10_assign 109 = .ok (.aload_n 0, 1) := by decide +kernel
theorem dX10_assign_110 : decode cX10_assign 110 = .ok (.getfield 65, 3) := by decide +kernel
theorem dX10_assign_113 : decode cX10_assign 113 = .ok (.iload_n 1, 1) := by decide +kernel
theorem dX10_assign_114 : decode cX10_assign 114 = .ok (.invokevirtual 217, 3) := by decide +kernel
theorem dX10_assign_117 : decode cX10_assign 117 = .ok (.iadd, 1) := by decide +kernel
theorem dX10_assign_118 : decode cX10_assign 118 = .ok (.iaload, 1) := by decide +kernel
theorem dX10_assign_119 : decode cX10_assign 119 = .ok (.istore 5, 2) := by decide +kernel
theorem dX10_assign_121 : decode cX10_assign 121 = .ok (.iload_n 3, 1) := by decide +kernel
theorem dX10_assign_122 : decode cX10_assign 122 = .ok (.ifCond .ne 27, 3) := by decide +kernel
theorem dX10_assign_125 : decode cX10_assign 125 = .ok (.iload 5, 2) := by decide +kernel
theorem dX10_assign_127 : decode cX10_assign 127 = .ok (.iconst 1, 1) := by decide +kernel
theorem dX10_assign_128 : decode cX10_assign 128 = .ok (.iand, 1) := by decide +kernel
theorem dX10_assign_129 : decode cX10_assign 129 = .ok (.iconst 1, 1) := by decide +kernel
theorem dX10_assign_130 : decode cX10_assign 130 = .ok (.if_icmp .ne 19, 3) := by decide +kernel
theorem dX10_assign_133 : decode cX10_assign 133 = .ok (.aload_n 0, 1) := by decide +kernel
theorem dX10_assign_134 : decode cX10_assign 134 = .ok (.getfield 56, 3) := by decide +kernel
theorem dX10_assign_137 : decode cX10_assign 137 = .ok (.iload_n 1, 1) := by decide +kernel
theorem dX10_assign_138 : decode cX10_assign 138 = .ok (.iconst 0, 1) := by decide +kernel
theorem dX10_assign_139 : decode cX10_assign 139 = .ok (.iastore, 1) := by decide +kernel
theorem dX10_assign_140 : decode cX10_assign 140 = .ok (.aload_n 0, 1) := by decide +kernel
theorem dX10_assign_141 : decode cX10_assign 141 = .ok (.iload_n 1, 1) := by decide +kernel
theorem dX10_assign_142 : decode cX10_assign 142 = .ok (.iconst 1, 1) := by decide +kernel
theorem dX10_assign_143 : decode cX10_assign 143 = .ok (.iadd, 1) := by decide +kernel
theorem dX10_assign_144 : decode cX10_assign 144 = .ok (.iload_n 2, 1) := by decide +kernel
theorem dX10_assign_145 : decode cX10_assign 145 = .ok (.iconst 0, 1) := by decide +kernel
theorem dX10_assign_146 : decode cX10_assign 146 = .ok (.invokevirtual 221, 3) := by decide +kernel
theorem dX10_assign_149 : decode cX10_assign 149 = .ok (.iload_n 2, 1) := by decide +kernel
theorem dX10_assign_150 : decode cX10_assign 150 = .ok (.aload_n 0, 1) := by decide +kernel
theorem dX10_assign_151 : decode cX10_assign 151 = .ok (.getfield 26, 3) := by decide +kernel
theorem dX10_assign_154 : decode cX10_assign 154 = .ok (.aload_n 0, 1) := by decide +kernel
theorem dX10_assign_155 : decode cX10_assign 155 = .ok (.getfield 65, 3) := by decide +kernel
theorem dX10_assign_158 : decode cX10_assign 158 = .ok (.iaload, 1) := by decide +kernel
theorem dX10_assign_159 : decode cX10_assign 159 = .ok (.if_icmp .ne 4, 3) := by decide +kernel
theorem dX10_assign_162 : decode cX10_assign 162 = .ok (.return_, 1) := by decide +kernel
theorem dX10_assign_163 : decode cX10_assign 163 = .ok (.aload_n 0, 1) := by decide +kernel
theorem dX10_assign_164 : decode cX10_assign 164 = .ok (.getfield 32, 3) := by decide +kernel
theorem dX10_assign_167 : decode cX10_assign 167 = .ok (.bipush 8, 2) := by decide +kernel
theorem dX10_assign_169 : decode cX10_assign 169 = .ok (.aload_n 0, 1) := by decide +kernel
theorem dX10_assign_170 : decode cX10_assign 170 = .ok (.getfield 65, 3) := by decide +kernel
theorem dX10_assign_173 : decode cX10_assign 173 = .ok (.imul, 1) := by decide +kernel
theorem dX10_assign_174 : decode cX10_assign 174 = .ok (.iload_n 2, 1) := by decide +kernel
theorem dX10_assign_175 : decode cX10_assign 175 = .ok (.iadd, 1) := by decide +kernel
theorem dX10_assign_176 : decode cX10_assign 176 = .ok (.iaload, 1) := by decide +kernel
theorem dX10_assign_177 : decode cX10_assign 177 = .ok (.istore 6, 2) := by decide +kernel
theorem dX10_assign_179 : decode cX10_assign 179 = .ok (.iload 5, 2) := by decide +kernel
theorem dX10_assign_181 : decode cX10_assign 181 = .ok (.iload 6, 2) := by decide +kernel
theorem dX10_assign_183 : decode cX10_assign 183 = .ok (.ishr, 1) := by decide +kernel
theorem dX10_assign_184 : decode cX10_assign 184 = .ok (.iconst 1, 1) := by decide +kernel
theorem dX10_assign_185 : decode cX10_assign 185 = .ok (.iand, 1) := by decide +kernel
theorem dX10_assign_186 : decode cX10_assign 186 = .ok (.ifCond .eq 24, 3) := by decide +kernel
theorem dX10_assign_189 : decode cX10_assign 189 = .ok (.iload_n 3, 1) := by decide +kernel
theorem dX10_assign_190 : decode cX10_assign 190 = .ok (.ifCond .ne 21, 3) := by decide +kernel
theorem dX10_assign_193 : decode cX10_assign 193 = .ok (.iload_n 1, 1) := by decide +kernel
theorem dX10_assign_194 : decode cX10_assign 194 = .ok (.ifCond .le 17, 3) := by decide +kernel
theorem dX10_assign_197 : decode cX10_assign 197 = .ok (.aload_n 0, 1) := by decide +kernel
theorem dX10_assign_198 : decode cX10_assign 198 = .ok (.getfield 56, 3) := by decide +kernel
theorem dX10_assign_201 : decode cX10_assign 201 = .ok (.iload_n 1, 1) := by decide +kernel
theorem dX10_assign_202 : decode cX10_assign 202 = .ok (.iconst 1, 1) := by decide +kernel
theorem dX10_assign_203 : decode cX10_assign 203 = .ok (.isub, 1) := by decide +kernel
theorem dX10_assign_204 : decode cX10_assign 204 = .ok (.iaload, 1) := by decide +kernel
theorem dX10_assign_205 : decode cX10_assign 205 = .ok (.iload 6, 2) := by decide +kernel
theorem dX10_assign_207 : decode cX10_assign 207 = .ok (.if_icmp .ne 4, 3) := by decide +kernel
theorem dX10_assign_210 : decode cX10_assign 210 = .ok (.return_, 1) := by decide +kernel
theorem dX10_assign_211 : decode cX10_assign 211 = .ok (.aload_n 0, 1) := by decide +kernel
theorem dX10_assign_212 : decode cX10_assign 212 = .ok (.getfield 56, 3) := by decide +kernel
theorem dX10_assign_215 : decode cX10_assign 215 = .ok (.iload_n 1, 1) := by decide +kernel
theorem dX10_assign_216 : decode cX10_assign 216 = .ok (.iload 6, 2) := by decide +kernel
theorem dX10_assign_218 : decode cX10_assign 218 = .ok (.iastore, 1) := by decide +kernel
theorem dX10_assign_219 : decode cX10_assign 219 = .ok (.iload_n 3, 1) := by decide +kernel
theorem dX10_assign_220 : decode cX10_assign 220 = .ok (.iconst 1, 1) := by decide +kernel
theorem dX10_assign_221 : decode cX10_assign 221 = .ok (.iadd, 1) := by decide +kernel
theorem dX10_assign_222 : decode cX10_assign 222 = .ok (.aload_n 0, 1) := by decide +kernel
theorem dX10_assign_223 : decode cX10_assign 223 = .ok (.getfield 29, 3) := by decide +kernel
theorem dX10_assign_226 : decode cX10_assign 226 = .ok (.bipush 8, 2) := by decide +kernel
theorem dX10_assign_228 : decode cX10_assign 228 = .ok (.aload_n 0, 1) := by decide +kernel
theorem dX10_assign_229 : decode cX10_assign 229 = .ok (.getfield 65, 3) := by decide +kernel
theorem dX10_assign_232 : decode cX10_assign 232 = .ok (.imul, 1) := by decide +kernel
theorem dX10_assign_233 : decode cX10_assign 233 = .ok (.iload_n 2, 1) := by decide +kernel
theorem dX10_assign_234 : decode cX10_assign 234 = .ok (.iadd, 1) := by decide +kernel
theorem dX10_assign_235 : decode cX10_assign 235 = .ok (.iaload, 1) := by decide +kernel
theorem dX10_assign_236 : decode cX10_assign 236 = .ok (.if_icmp .ne 7, 3) := by decide +kernel
theorem dX10_assign_239 : decode cX10_assign 239 = .ok (.iconst 1, 1) := by decide +kernel
theorem dX10_assign_240 : decode cX10_assign 240 = .ok (.goto 4, 3) := by decide +kernel
theorem dX10_assign_243 : decode cX10_assign 243 = .ok (.iconst 0, 1) := by decide +kernel
theorem dX10_assign_244 : decode cX10_assign 244 = .ok (.istore 7, 2) := by decide +kernel
theorem dX10_assign_246 : decode cX10_assign 246 = .ok (.aload_n 0, 1) := by decide +kernel
theorem dX10_assign_247 : decode cX10_assign 247 = .ok (.iload_n 1, 1) := by decide +kernel
theorem dX10_assign_248 : decode cX10_assign 248 = .ok (.iconst 1, 1) := by decide +kernel
theorem dX10_assign_249 : decode cX10_assign 249 = .ok (.iadd, 1) := by decide +kernel
theorem dX10_assign_250 : decode cX10_assign 250 = .ok (.iload 7, 2) := by decide +kernel
theorem dX10_assign_252 : decode cX10_assign 252 = .ok (.ifCond .eq 9, 3) := by decide +kernel
theorem dX10_assign_255 : decode cX10_assign 255 = .ok (.iload_n 2, 1) := by decide +kernel
theorem dX10_assign_256 : decode cX10_assign 256 = .ok (.iconst 1, 1) := by decide +kernel
theorem dX10_assign_257 : decode cX10_assign 257 = .ok (.iadd, 1) := by decide +kernel
theorem dX10_assign_258 : decode cX10_assign 258 = .ok (.goto 4, 3) := by decide +kernel
theorem dX10_assign_261 : decode cX10_assign 261 = .ok (.iload_n 2, 1) := by decide +kernel
theorem dX10_assign_262 : decode cX10_assign 262 = .ok (.iload 7, 2) := by decide +kernel
theorem dX10_assign_264 : decode cX10_assign 264 = .ok (.ifCond .eq 7, 3) := by decide +kernel
theorem dX10_assign_267 : decode cX10_assign 267 = .ok (.iconst 0, 1) := by decide +kernel
theorem dX10_assign_268 : decode cX10_assign 268 = .ok (.goto 6, 3) := by decide +kernel
theorem dX10_assign_271 : decode cX10_assign 271 = .ok (.iload_n 3, 1) := by decide +kernel
theorem dX10_assign_272 : decode cX10_assign 272 = .ok (.iconst 1, 1) := by decide +kernel
theorem dX10_assign_273 : decode cX10_assign 273 = .ok (.iadd, 1) := by decide +kernel
theorem dX10_assign_274 : decode cX10_assign 274 = .ok (.invokevirtual 221, 3) := by decide +kernel
theorem dX10_assign_277 : decode cX10_assign 277 = .ok (.return_, 1) := by decide +kernel
theorem dX10_assignAll_0 : decode cX10_assignAll 0 = .ok (.aload_n 0, 1) := by decide +kernel
theorem dX10_assignAll_1 : decode cX10_assignAll 1 = .ok (.iload_n 1, 1) := by decide +kernel
theorem dX10_assignAll_2 : decode cX10_assignAll 2 = .ok (.putfield 62, 3) := by decide +kernel
theorem dX10_assignAll_5 : decode cX10_assignAll 5 = .ok (.aload_n 0, 1) := by decide +kernel
theorem dX10_assignAll_6 : decode cX10_assignAll 6 = .ok (.iload_n 2, 1) := by decide +kernel
theorem dX10_assignAll_7 : decode cX10_assignAll 7 = .ok (.putfield 65, 3) := by decide +kernel
theorem dX10_assignAll_10 : decode cX10_assignAll 10 = .ok (.aload_n 0, 1) := by decide +kernel
theorem dX10_assignAll_11 : decode cX10_assignAll 11 = .ok (.iconst 0, 1) := by decide +kernel
theorem dX10_assignAll_12 : decode cX10_assignAll 12 = .ok (.putfield 68, 3) := by decide +kernel
theorem dX10_assignAll_15 : decode cX10_assignAll 15 = .ok (.iconst 0, 1) := by decide +kernel
theorem dX10_assignAll_16 : decode cX10_assignAll 16 = .ok (.istore_n 3, 1) := by decide +kernel
theorem dX10_assignAll_17 : decode cX10_assignAll 17 = .ok (.iload_n 3, 1) := by decide +kernel
theorem dX10_assignAll_18 : decode cX10_assignAll 18 = .ok (.bipush 8, 2) := by decide +kernel
theorem dX10_assignAll_20 : decode cX10_assignAll 20 = .ok (.if_icmp .ge 16, 3) := by decide +kernel
theorem dX10_assignAll_23 : decode cX10_assignAll 23 = .ok (.aload_n 0, 1) := by decide +kernel
theorem dX10_assignAll_24 : decode cX10_assignAll 24 = .ok (.getfield 59, 3) := by decide +kernel
theorem dX10_assignAll_27 : decode cX10_assignAll 27 = .ok (.iload_n 3, 1) := by decide +kernel
theorem dX10_assignAll_28 : decode cX10_assignAll 28 = .ok (.iconst 0, 1) := by decide +kernel
theorem dX10_assignAll_29 : decode cX10_assignAll 29 = .ok (.iastore, 1) := by decide +kernel
theorem dX10_assignAll_30 : decode cX10_assignAll 30 = .ok (.iinc 3 1, 3) := by decide +kernel
theorem dX10_assignAll_33 : decode cX10_assignAll 33 = .ok (.goto (-16), 3) := by decide +kernel
theorem dX10_assignAll_36 : decode cX10_assignAll 36 = .ok (.aload_n 0, 1) := by decide +kernel
theorem dX10_assignAll_37 : decode cX10_assignAll 37 = .ok (.iconst 0, 1) := by decide +kernel
theorem dX10_assignAll_38 : decode cX10_assignAll 38 = .ok (.iconst 0, 1) := by decide +kernel
theorem dX10_assignAll_39 : decode cX10_assignAll 39 = .ok (.iconst 0, 1) := by decide +kernel
theorem dX10_assignAll_40 : decode cX10_assignAll 40 = .ok (.invokevirtual 221, 3) := by decide +kernel
theorem dX10_assignAll_43 : decode cX10_assignAll 43 = .ok (.return_, 1) := by decide +kernel
theorem dX10_assignmentCount_0 : decode cX10_assignmentCount 0 = .ok (.aload_n 0, 1) := by decide +kernel
theorem dX10_assignmentCount_1 : decode cX10_assignmentCount 1 = .ok (.iload_n 1, 1) := by decide +kernel
theorem dX10_assignmentCount_2 : decode cX10_assignmentCount 2 = .ok (.invokevirtual 180, 3) := by decide +kernel
theorem dX10_assignmentCount_5 : decode cX10_assignmentCount 5 = .ok (.ifCond .ne 5, 3) := by decide +kernel
theorem dX10_assignmentCount_8 : decode cX10_assignmentCount 8 = .ok (.iconst (-1), 1) := by decide +kernel
theorem dX10_assignmentCount_9 : decode cX10_assignmentCount 9 = .ok (.ireturn, 1) := by decide +kernel
theorem dX10_assignmentCount_10 : decode cX10_assignmentCount 10 = .ok (.aload_n 0, 1) := by decide +kernel
theorem dX10_assignmentCount_11 : decode cX10_assignmentCount 11 = .ok (.iconst 0, 1) := by decide +kernel
theorem dX10_assignmentCount_12 : decode cX10_assignmentCount 12 = .ok (.iload_n 1, 1) := by decide +kernel
theorem dX10_assignmentCount_13 : decode cX10_assignmentCount 13 = .ok (.invokevirtual 224, 3) := by decide +kernel
theorem dX10_assignmentCount_16 : decode cX10_assignmentCount 16 = .ok (.aload_n 0, 1) := by decide +kernel
theorem dX10_assignmentCount_17 : decode cX10_assignmentCount 17 = .ok (.getfield 68, 3) := by decide +kernel
theorem dX10_assignmentCount_20 : decode cX10_assignmentCount 20 = .ok (.ireturn, 1) := by decide +kernel
theorem dX10_assignmentColor_0 : decode cX10_assignmentColor 0 = .ok (.aload_n 0, 1) := by decide +kernel
theorem dX10_assignmentColor_1 : decode cX10_assignmentColor 1 = .ok (.iload_n 1, 1) := by decide +kernel
theorem dX10_assignmentColor_2 : decode cX10_assignmentColor 2 = .ok (.invokevirtual 180, 3) := by decide +kernel
theorem dX10_assignmentColor_5 : decode cX10_assignmentColor 5 = .ok (.ifCond .eq 23, 3) := by decide +kernel
theorem dX10_assignmentColor_8 : decode cX10_assignmentColor 8 = .ok (.iload_n 2, 1) := by decide +kernel
theorem dX10_assignmentColor_9 : decode cX10_assignmentColor 9 = .ok (.ifCond .lt 19, 3) := by decide +kernel
theorem dX10_assignmentColor_12 : decode cX10_assignmentColor 12 = .ok (.aload_n 0, 1) := by decide +kernel
theorem dX10_assignmentColor_13 : decode cX10_assignmentColor 13 = .ok (.iload_n 3, 1) := by decide +kernel
theorem dX10_assignmentColor_14 : decode cX10_assignmentColor 14 = .ok (.iconst 0, 1) := by decide +kernel
theorem dX10_assignmentColor_15 : decode cX10_assignmentColor 15 = .ok (.aload_n 0, 1) := by decide +kernel
theorem dX10_assignmentColor_16 : decode cX10_assignmentColor 16 = .ok (.iload_n 1, 1) := by decide +kernel
theorem dX10_assignmentColor_17 : decode cX10_assignmentColor 17 = .ok (.invokevirtual 214, 3) := by decide +kernel
theorem dX10_assignmentColor_20 : decode cX10_assignmentColor 20 = .ok (.iconst 1, 1) := by decide +kernel
theorem dX10_assignmentColor_21 : decode cX10_assignmentColor 21 = .ok (.isub, 1) := by decide +kernel
theorem dX10_assignmentColor_22 : decode cX10_assignmentColor 22 = .ok (.invokevirtual 172, 3) := by decide +kernel
theorem dX10_assignmentColor_25 : decode cX10_assignmentColor 25 = .ok (.ifCond .ne 5, 3) := by decide +kernel
theorem dX10_assignmentColor_28 : decode cX10_assignmentColor 28 = .ok (.iconst (-1), 1) := by decide +kernel
theorem dX10_assignmentColor_29 : decode cX10_assignmentColor 29 = .ok (.ireturn, 1) := by decide +kernel
theorem dX10_assignmentColor_30 : decode cX10_assignmentColor 30 = .ok (.aload_n 0, 1) := by decide +kernel
theorem dX10_assignmentColor_31 : decode cX10_assignmentColor 31 = .ok (.iload_n 2, 1) := by decide +kernel
theorem dX10_assignmentColor_32 : decode cX10_assignmentColor 32 = .ok (.putfield 71, 3) := by decide +kernel
theorem dX10_assignmentColor_35 : decode cX10_assignmentColor 35 = .ok (.aload_n 0, 1) := by decide +kernel
theorem dX10_assignmentColor_36 : decode cX10_assignmentColor 36 = .ok (.iload_n 3, 1) := by decide +kernel
theorem dX10_assignmentColor_37 : decode cX10_assignmentColor 37 = .ok (.putfield 74, 3) := by decide +kernel
theorem dX10_assignmentColor_40 : decode cX10_assignmentColor 40 = .ok (.aload_n 0, 1) := by decide +kernel
theorem dX10_assignmentColor_41 : decode cX10_assignmentColor 41 = .ok (.iconst 0, 1) := by decide +kernel
theorem dX10_assignmentColor_42 : decode cX10_assignmentColor 42 = .ok (.iload_n 1, 1) := by decide +kernel
theorem dX10_assignmentColor_43 : decode cX10_assignmentColor 43 = .ok (.invokevirtual 224, 3) := by decide +kernel
theorem dX10_assignmentColor_46 : decode cX10_assignmentColor 46 = .ok (.aload_n 0, 1) := by decide +kernel
theorem dX10_assignmentColor_47 : decode cX10_assignmentColor 47 = .ok (.iconst (-1), 1) := by decide +kernel
theorem dX10_assignmentColor_48 : decode cX10_assignmentColor 48 = .ok (.putfield 71, 3) := by decide +kernel
theorem dX10_assignmentColor_51 : decode cX10_assignmentColor 51 = .ok (.iload_n 2, 1) := by decide +kernel
theorem dX10_assignmentColor_52 : decode cX10_assignmentColor 52 = .ok (.aload_n 0, 1) := by decide +kernel
theorem dX10_assignmentColor_53 : decode cX10_assignmentColor 53 = .ok (.getfield 68, 3) := by decide +kernel
theorem dX10_assignmentColor_56 : decode cX10_assignmentColor 56 = .ok (.if_icmp .ge 10, 3) := by decide +kernel
theorem dX10_assignmentColor_59 : decode cX10_assignmentColor 59 = .ok (.aload_n 0, 1) := by decide +kernel
theorem dX10_assignmentColor_60 : decode cX10_assignmentColor 60 = .ok (.getfield 77, 3) := by decide +kernel
theorem dX10_assignmentColor_63 : decode cX10_assignmentColor 63 = .ok (.goto 4, 3) := by decide +kernel
theorem dX10_assignmentColor_66 : decode cX10_assignmentColor 66 = .ok (.iconst (-1), 1) := by decide +kernel
theorem dX10_assignmentColor_67 : decode cX10_assignmentColor 67 = .ok (.ireturn, 1) := by decide +kernel
theorem dX10_solve_0 : decode cX10_solve 0 = .ok (.aload_n 0, 1) := by decide +kernel
theorem dX10_solve_1 : decode cX10_solve 1 = .ok (.iload_n 1, 1) := by decide +kernel
theorem dX10_solve_2 : decode cX10_solve 2 = .ok (.iload_n 2, 1) := by decide +kernel
theorem dX10_solve_3 : decode cX10_solve 3 = .ok (.invokevirtual 224, 3) := by decide +kernel
theorem dX10_solve_6 : decode cX10_solve 6 = .ok (.aload_n 0, 1) := by decide +kernel
theorem dX10_solve_7 : decode cX10_solve 7 = .ok (.getfield 68, 3) := by decide +kernel
theorem dX10_solve_10 : decode cX10_solve 10 = .ok (.ifCond .ne 5, 3) := by decide +kernel
theorem dX10_solve_13 : decode cX10_solve 13 = .ok (.iconst (-1), 1) := by decide +kernel
theorem dX10_solve_14 : decode cX10_solve 14 = .ok (.ireturn, 1) := by decide +kernel
theorem dX10_solve_15 : decode cX10_solve 15 = .ok (.iconst 0, 1) := by decide +kernel
theorem dX10_solve_16 : decode cX10_solve 16 = .ok (.istore_n 3, 1) := by decide +kernel
theorem dX10_solve_17 : decode cX10_solve 17 = .ok (.iconst 0, 1) := by decide +kernel
theorem dX10_solve_18 : decode cX10_solve 18 = .ok (.istore 4, 2) := by decide +kernel
theorem dX10_solve_20 : decode cX10_solve 20 = .ok (.iload 4, 2) := by decide +kernel
theorem dX10_solve_22 : decode cX10_solve 22 = .ok (.aload_n 0, 1) := by decide +kernel
theorem dX10_solve_23 : decode cX10_solve 23 = .ok (.iload_n 2, 1) := by decide +kernel
theorem dX10_solve_24 : decode cX10_solve 24 = .ok (.invokevirtual 214, 3) := by decide +kernel
theorem dX10_solve_27 : decode cX10_solve 27 = .ok (.if_icmp .ge 61, 3) := by decide +kernel
theorem dX10_solve_30 : decode cX10_solve 30 = .ok (.iload_n 1, 1) := by decide +kernel
theorem dX10_solve_31 : decode cX10_solve 31 = .ok (.aload_n 0, 1) := by decide +kernel
theorem dX10_solve_32 : decode cX10_solve 32 = .ok (.iload_n 2, 1) := by decide +kernel
theorem dX10_solve_33 : decode cX10_solve 33 = .ok (.iload 4, 2) := by decide +kernel
theorem dX10_solve_35 : decode cX10_solve 35 = .ok (.invokevirtual 217, 3) := by decide +kernel
theorem dX10_solve_38 : decode cX10_solve 38 = .ok (.iadd, 1) := by decide +kernel
theorem dX10_solve_39 : decode cX10_solve 39 = .ok (.istore 5, 2) := by decide +kernel
theorem dX10_solve_41 : decode cX10_solve 41 = .ok (.iload_n 3, 1) := by decide +kernel
theorem dX10_solve_42 : decode cX10_solve 42 = .ok (.aload_n 0, 1) := by decide +kernel
theorem dX10_solve_43 : decode cX10_solve 43 = .ok (.aload_n 0, 1) := by decide +kernel
theorem dX10_solve_44 : decode cX10_solve 44 = .ok (.getfield 22, 3) := by decide +kernel
theorem dX10_solve_47 : decode cX10_solve 47 = .ok (.iload 5, 2) := by decide +kernel
theorem dX10_solve_49 : decode cX10_solve 49 = .ok (.iaload, 1) := by decide +kernel
theorem dX10_solve_50 : decode cX10_solve 50 = .ok (.aload_n 0, 1) := by decide +kernel
theorem dX10_solve_51 : decode cX10_solve 51 = .ok (.getfield 59, 3) := by decide +kernel
theorem dX10_solve_54 : decode cX10_solve 54 = .ok (.iload 4, 2) := by decide +kernel
theorem dX10_solve_56 : decode cX10_solve 56 = .ok (.iaload, 1) := by decide +kernel
theorem dX10_solve_57 : decode cX10_solve 57 = .ok (.iconst (-1), 1) := by decide +kernel
theorem dX10_solve_58 : decode cX10_solve 58 = .ok (.ixor, 1) := by decide +kernel
theorem dX10_solve_59 : decode cX10_solve 59 = .ok (.iand, 1) := by decide +kernel
theorem dX10_solve_60 : decode cX10_solve 60 = .ok (.invokevirtual 208, 3) := by decide +kernel
theorem dX10_solve_63 : decode cX10_solve 63 = .ok (.iadd, 1) := by decide +kernel
theorem dX10_solve_64 : decode cX10_solve 64 = .ok (.istore_n 3, 1) := by decide +kernel
theorem dX10_solve_65 : decode cX10_solve 65 = .ok (.aload_n 0, 1) := by decide +kernel
theorem dX10_solve_66 : decode cX10_solve 66 = .ok (.getfield 22, 3) := by decide +kernel
theorem dX10_solve_69 : decode cX10_solve 69 = .ok (.iload 5, 2) := by decide +kernel
theorem dX10_solve_71 : decode cX10_solve 71 = .ok (.dup2, 1) := by decide +kernel
theorem dX10_solve_72 : decode cX10_solve 72 = .ok (.iaload, 1) := by decide +kernel
theorem dX10_solve_73 : decode cX10_solve 73 = .ok (.aload_n 0, 1) := by decide +kernel
theorem dX10_solve_74 : decode cX10_solve 74 = .ok (.getfield 59, 3) := by decide +kernel
theorem dX10_solve_77 : decode cX10_solve 77 = .ok (.iload 4, 2) := by decide +kernel
theorem dX10_solve_79 : decode cX10_solve 79 = .ok (.iaload, 1) := by decide +kernel
theorem dX10_solve_80 : decode cX10_solve 80 = .ok (.iand, 1) := by decide +kernel
theorem dX10_solve_81 : decode cX10_solve 81 = .ok (.iastore, 1) := by decide +kernel
theorem dX10_solve_82 : decode cX10_solve 82 = .ok (.iinc 4 1, 3) := by decide +kernel
theorem dX10_solve_85 : decode cX10_solve 85 = .ok (.goto (-65), 3) := by decide +kernel
theorem dX10_solve_88 : decode cX10_solve 88 = .ok (.iload_n 3, 1) := by decide +kernel
theorem dX10_solve_89 : decode cX10_solve 89 = .ok (.ireturn, 1) := by decide +kernel
theorem dX10_spread_0 : decode cX10_spread 0 = .ok (.iconst 0, 1) := by decide +kernel
theorem dX10_spread_1 : decode cX10_spread 1 = .ok (.istore_n 2, 1) := by decide +kernel
theorem dX10_spread_2 : decode cX10_spread 2 = .ok (.iconst (-1), 1) := by decide +kernel
theorem dX10_spread_3 : decode cX10_spread 3 = .ok (.istore_n 3, 1) := by decide +kernel
theorem dX10_spread_4 : decode cX10_spread 4 = .ok (.aload_n 0, 1) := by decide +kernel
theorem dX10_spread_5 : decode cX10_spread 5 = .ok (.iconst 0, 1) := by decide +kernel
theorem dX10_spread_6 : decode cX10_spread 6 = .ok (.putfield 80, 3) := by decide +kernel
theorem dX10_spread_9 : decode cX10_spread 9 = .ok (.iload_n 3, 1) := by decide +kernel
theorem dX10_spread_10 : decode cX10_spread 10 = .ok (.iload_n 2, 1) := by decide +kernel
theorem dX10_spread_11 : decode cX10_spread 11 = .ok (.if_icmp .ge 63, 3) := by decide +kernel
theorem dX10_spread_14 : decode cX10_spread 14 = .ok (.iload_n 2, 1) := by decide +kernel
theorem dX10_spread_15 : decode cX10_spread 15 = .ok (.istore_n 3, 1) := by decide +kernel
theorem dX10_spread_16 : decode cX10_spread 16 = .ok (.aload_n 0, 1) := by decide +kernel
theorem dX10_spread_17 : decode cX10_spread 17 = .ok (.dup, 1) := by decide +kernel
theorem dX10_spread_18 : decode cX10_spread 18 = .ok (.getfield 80, 3) := by decide +kernel
theorem dX10_spread_21 : decode cX10_spread 21 = .ok (.iconst 1, 1) := by decide +kernel
theorem dX10_spread_22 : decode cX10_spread 22 = .ok (.iadd, 1) := by decide +kernel
theorem dX10_spread_23 : decode cX10_spread 23 = .ok (.putfield 80, 3) := by decide +kernel
theorem dX10_spread_26 : decode cX10_spread 26 = .ok (.iconst 0, 1) := by decide +kernel
theorem dX10_spread_27 : decode cX10_spread 27 = .ok (.istore 4, 2) := by decide +kernel
theorem dX10_spread_29 : decode cX10_spread 29 = .ok (.iload 4, 2) := by decide +kernel
theorem dX10_spread_31 : decode cX10_spread 31 = .ok (.aload_n 0, 1) := by decide +kernel
theorem dX10_spread_32 : decode cX10_spread 32 = .ok (.invokevirtual 168, 3) := by decide +kernel
theorem dX10_spread_35 : decode cX10_spread 35 = .ok (.if_icmp .ge 36, 3) := by decide +kernel
theorem dX10_spread_38 : decode cX10_spread 38 = .ok (.aload_n 0, 1) := by decide +kernel
theorem dX10_spread_39 : decode cX10_spread 39 = .ok (.iload_n 1, 1) := by decide +kernel
theorem dX10_spread_40 : decode cX10_spread 40 = .ok (.iload 4, 2) := by decide +kernel
theorem dX10_spread_42 : decode cX10_spread 42 = .ok (.invokevirtual 227, 3) := by decide +kernel
theorem dX10_spread_45 : decode cX10_spread 45 = .ok (.istore 5, 2) := by decide +kernel
theorem dX10_spread_47 : decode cX10_spread 47 = .ok (.iload 5, 2) := by decide +kernel
theorem dX10_spread_49 : decode cX10_spread 49 = .ok (.ifCond .ge 11, 3) := by decide +kernel
theorem dX10_spread_52 : decode cX10_spread 52 = .ok (.aload_n 0, 1) := by decide +kernel
theorem dX10_spread_53 : decode cX10_spread 53 = .ok (.iload 4, 2) := by decide +kernel
theorem dX10_spread_55 : decode cX10_spread 55 = .ok (.putfield 83, 3) := by decide +kernel
theorem dX10_spread_58 : decode cX10_spread 58 = .ok (.iconst (-1), 1) := by decide +kernel
theorem dX10_spread_59 : decode cX10_spread 59 = .ok (.ireturn, 1) := by decide +kernel
theorem dX10_spread_60 : decode cX10_spread 60 = .ok (.iload_n 2, 1) := by decide +kernel
theorem dX10_spread_61 : decode cX10_spread 61 = .ok (.iload 5, 2) := by decide +kernel
theorem dX10_spread_63 : decode cX10_spread 63 = .ok (.iadd, 1) := by decide +kernel
theorem dX10_spread_64 : decode cX10_spread 64 = .ok (.istore_n 2, 1) := by decide +kernel
theorem dX10_spread_65 : decode cX10_spread 65 = .ok (.iinc 4 1, 3) := by decide +kernel
theorem dX10_spread_68 : decode cX10_spread 68 = .ok (.goto (-39), 3) := by decide +kernel
theorem dX10_spread_71 : decode cX10_spread 71 = .ok (.goto (-62), 3) := by decide +kernel
theorem dX10_spread_74 : decode cX10_spread 74 = .ok (.iload_n 2, 1) := by decide +kernel
theorem dX10_spread_75 : decode cX10_spread 75 = .ok (.ireturn, 1) := by decide +kernel
theorem dX10_copy_0 : decode cX10_copy 0 = .ok (.iconst 0, 1) := by decide +kernel
theorem dX10_copy_1 : decode cX10_copy 1 = .ok (.istore_n 3, 1) := by decide +kernel
theorem dX10_copy_2 : decode cX10_copy 2 = .ok (.iload_n 3, 1) := by decide +kernel
theorem dX10_copy_3 : decode cX10_copy 3 = .ok (.bipush 64, 2) := by decide +kernel
theorem dX10_copy_5 : decode cX10_copy 5 = .ok (.if_icmp .ge 25, 3) := by decide +kernel
theorem dX10_copy_8 : decode cX10_copy 8 = .ok (.aload_n 0, 1) := by decide +kernel
theorem dX10_copy_9 : decode cX10_copy 9 = .ok (.getfield 22, 3) := by decide +kernel
theorem dX10_copy_12 : decode cX10_copy 12 = .ok (.iload_n 2, 1) := by decide +kernel
theorem dX10_copy_13 : decode cX10_copy 13 = .ok (.iload_n 3, 1) := by decide +kernel
theorem dX10_copy_14 : decode cX10_copy 14 = .ok (.iadd, 1) := by decide +kernel
theorem dX10_copy_15 : decode cX10_copy 15 = .ok (.aload_n 0, 1) := by decide +kernel
theorem dX10_copy_16 : decode cX10_copy 16 = .ok (.getfield 22, 3) := by decide +kernel
theorem dX10_copy_19 : decode cX10_copy 19 = .ok (.iload_n 1, 1) := by decide +kernel
theorem dX10_copy_20 : decode cX10_copy 20 = .ok (.iload_n 3, 1) := by decide +kernel
theorem dX10_copy_21 : decode cX10_copy 21 = .ok (.iadd, 1) := by decide +kernel
theorem dX10_copy_22 : decode cX10_copy 22 = .ok (.iaload, 1) := by decide +kernel
theorem dX10_copy_23 : decode cX10_copy 23 = .ok (.iastore, 1) := by decide +kernel
theorem dX10_copy_24 : decode cX10_copy 24 = .ok (.iinc 3 1, 3) := by decide +kernel
theorem dX10_copy_27 : decode cX10_copy 27 = .ok (.goto (-25), 3) := by decide +kernel
theorem dX10_copy_30 : decode cX10_copy 30 = .ok (.return_, 1) := by decide +kernel
theorem dX10_contradiction_0 : decode cX10_contradiction 0 = .ok (.aload_n 0, 1) := by decide +kernel
theorem dX10_contradiction_1 : decode cX10_contradiction 1 = .ok (.iload_n 1, 1) := by decide +kernel
theorem dX10_contradiction_2 : decode cX10_contradiction 2 = .ok (.putfield 50, 3) := by decide +kernel
theorem dX10_contradiction_5 : decode cX10_contradiction 5 = .ok (.aload_n 0, 1) := by decide +kernel
theorem dX10_contradiction_6 : decode cX10_contradiction 6 = .ok (.iload_n 2, 1) := by decide +kernel
theorem dX10_contradiction_7 : decode cX10_contradiction 7 = .ok (.putfield 53, 3) := by decide +kernel
theorem dX10_contradiction_10 : decode cX10_contradiction 10 = .ok (.bipush (-4), 2) := by decide +kernel
theorem dX10_contradiction_12 : decode cX10_contradiction 12 = .ok (.ireturn, 1) := by decide +kernel
theorem dX10_takeOver_0 : decode cX10_takeOver 0 = .ok (.aload_n 0, 1) := by decide +kernel
theorem dX10_takeOver_1 : decode cX10_takeOver 1 = .ok (.invokevirtual 184, 3) := by decide +kernel
theorem dX10_takeOver_4 : decode cX10_takeOver 4 = .ok (.aload_n 0, 1) := by decide +kernel
theorem dX10_takeOver_5 : decode cX10_takeOver 5 = .ok (.bipush 64, 2) := by decide +kernel
theorem dX10_takeOver_7 : decode cX10_takeOver 7 = .ok (.iconst 0, 1) := by decide +kernel
theorem dX10_takeOver_8 : decode cX10_takeOver 8 = .ok (.invokevirtual 230, 3) := by decide +kernel
theorem dX10_takeOver_11 : decode cX10_takeOver 11 = .ok (.iload_n 1, 1) := by decide +kernel
theorem dX10_takeOver_12 : decode cX10_takeOver 12 = .ok (.ireturn, 1) := by decide +kernel
theorem dX10_solveLine_0 : decode cX10_solveLine 0 = .ok (.aload_n 0, 1) := by decide +kernel
theorem dX10_solveLine_1 : decode cX10_solveLine 1 = .ok (.iload_n 1, 1) := by decide +kernel
theorem dX10_solveLine_2 : decode cX10_solveLine 2 = .ok (.invokevirtual 180, 3) := by decide +kernel
theorem dX10_solveLine_5 : decode cX10_solveLine 5 = .ok (.ifCond .ne 5, 3) := by decide +kernel
theorem dX10_solveLine_8 : decode cX10_solveLine 8 = .ok (.iconst (-1), 1) := by decide +kernel
theorem dX10_solveLine_9 : decode cX10_solveLine 9 = .ok (.ireturn, 1) := by decide +kernel
theorem dX10_solveLine_10 : decode cX10_solveLine 10 = .ok (.aload_n 0, 1) := by decide +kernel
theorem dX10_solveLine_11 : decode cX10_solveLine 11 = .ok (.iconst 0, 1) := by decide +kernel
theorem dX10_solveLine_12 : decode cX10_solveLine 12 = .ok (.bipush 64, 2) := by decide +kernel
theorem dX10_solveLine_14 : decode cX10_solveLine 14 = .ok (.invokevirtual 230, 3) := by decide +kernel
theorem dX10_solveLine_17 : decode cX10_solveLine 17 = .ok (.aload_n 0, 1) := by decide +kernel
theorem dX10_solveLine_18 : decode cX10_solveLine 18 = .ok (.bipush 64, 2) := by decide +kernel
theorem dX10_solveLine_20 : decode cX10_solveLine 20 = .ok (.iload_n 1, 1) := by decide +kernel
theorem dX10_solveLine_21 : decode cX10_solveLine 21 = .ok (.invokevirtual 227, 3) := by decide +kernel
theorem dX10_solveLine_24 : decode cX10_solveLine 24 = .ok (.istore_n 2, 1) := by decide +kernel
theorem dX10_solveLine_25 : decode cX10_solveLine 25 = .ok (.iload_n 2, 1) := by decide +kernel
theorem dX10_solveLine_26 : decode cX10_solveLine 26 = .ok (.ifCond .ge 12, 3) := by decide +kernel
theorem dX10_solveLine_29 : decode cX10_solveLine 29 = .ok (.aload_n 0, 1) := by decide +kernel
theorem dX10_solveLine_30 : decode cX10_solveLine 30 = .ok (.iload_n 1, 1) := by decide +kernel
theorem dX10_solveLine_31 : decode cX10_solveLine 31 = .ok (.iconst 0, 1) := by decide +kernel
theorem dX10_solveLine_32 : decode cX10_solveLine 32 = .ok (.invokevirtual 233, 3) := by decide +kernel
theorem dX10_solveLine_35 : decode cX10_solveLine 35 = .ok (.goto 8, 3) := by decide +kernel
theorem dX10_solveLine_38 : decode cX10_solveLine 38 = .ok (.aload_n 0, 1) := by decide +kernel
theorem dX10_solveLine_39 : decode cX10_solveLine 39 = .ok (.iload_n 2, 1) := by decide +kernel
theorem dX10_solveLine_40 : decode cX10_solveLine 40 = .ok (.invokevirtual 236, 3) := by decide +kernel
theorem dX10_solveLine_43 : decode cX10_solveLine 43 = .ok (.ireturn, 1) := by decide +kernel
theorem dX10_propagate_0 : decode cX10_propagate 0 = .ok (.aload_n 0, 1) := by decide +kernel
theorem dX10_propagate_1 : decode cX10_propagate 1 = .ok (.iconst 0, 1) := by decide +kernel
theorem dX10_propagate_2 : decode cX10_propagate 2 = .ok (.bipush 64, 2) := by decide +kernel
theorem dX10_propagate_4 : decode cX10_propagate 4 = .ok (.invokevirtual 230, 3) := by decide +kernel
theorem dX10_propagate_7 : decode cX10_propagate 7 = .ok (.aload_n 0, 1) := by decide +kernel
theorem dX10_propagate_8 : decode cX10_propagate 8 = .ok (.bipush 64, 2) := by decide +kernel
theorem dX10_propagate_10 : decode cX10_propagate 10 = .ok (.invokevirtual 239, 3) := by decide +kernel
theorem dX10_propagate_13 : decode cX10_propagate 13 = .ok (.istore_n 1, 1) := by decide +kernel
theorem dX10_propagate_14 : decode cX10_propagate 14 = .ok (.iload_n 1, 1) := by decide +kernel
theorem dX10_propagate_15 : decode cX10_propagate 15 = .ok (.ifCond .ge 15, 3) := by decide +kernel
theorem dX10_propagate_18 : decode cX10_propagate 18 = .ok (.aload_n 0, 1) := by decide +kernel
theorem dX10_propagate_19 : decode cX10_propagate 19 = .ok (.aload_n 0, 1) := by decide +kernel
theorem dX10_propagate_20 : decode cX10_propagate 20 = .ok (.getfield 83, 3) := by decide +kernel
theorem dX10_propagate_23 : decode cX10_propagate 23 = .ok (.iconst 0, 1) := by decide +kernel
theorem dX10_propagate_24 : decode cX10_propagate 24 = .ok (.invokevirtual 233, 3) := by decide +kernel
theorem dX10_propagate_27 : decode cX10_propagate 27 = .ok (.goto 8, 3) := by decide +kernel
theorem dX10_propagate_30 : decode cX10_propagate 30 = .ok (.aload_n 0, 1) := by decide +kernel
theorem dX10_propagate_31 : decode cX10_propagate 31 = .ok (.iload_n 1, 1) := by decide +kernel
theorem dX10_propagate_32 : decode cX10_propagate 32 = .ok (.invokevirtual 236, 3) := by decide +kernel
theorem dX10_propagate_35 : decode cX10_propagate 35 = .ok (.ireturn, 1) := by decide +kernel
theorem dX10_passCount_0 : decode cX10_passCount 0 = .ok (.aload_n 0, 1) := by decide +kernel
theorem dX10_passCount_1 : decode cX10_passCount 1 = .ok (.iconst 0, 1) := by decide +kernel
theorem dX10_passCount_2 : decode cX10_passCount 2 = .ok (.bipush 64, 2) := by decide +kernel
theorem dX10_passCount_4 : decode cX10_passCount 4 = .ok (.invokevirtual 230, 3) := by decide +kernel
theorem dX10_passCount_7 : decode cX10_passCount 7 = .ok (.aload_n 0, 1) := by decide +kernel
theorem dX10_passCount_8 : decode cX10_passCount 8 = .ok (.bipush 64, 2) := by decide +kernel
theorem dX10_passCount_10 : decode cX10_passCount 10 = .ok (.invokevirtual 239, 3) := by decide +kernel
theorem dX10_passCount_13 : decode cX10_passCount 13 = .ok (.ifCond .ge 8, 3) := by decide +kernel
theorem dX10_passCount_16 : decode cX10_passCount 16 = .ok (.bipush (-4), 2) := by decide +kernel
theorem dX10_passCount_18 : decode cX10_passCount 18 = .ok (.goto 7, 3) := by decide +kernel
theorem dX10_passCount_21 : decode cX10_passCount 21 = .ok (.aload_n 0, 1) := by decide +kernel
theorem dX10_passCount_22 : decode cX10_passCount 22 = .ok (.getfield 80, 3) := by decide +kernel
theorem dX10_passCount_25 : decode cX10_passCount 25 = .ok (.ireturn, 1) := by decide +kernel
theorem dX10_fails_0 : decode cX10_fails 0 = .ok (.aload_n 0, 1) := by decide +kernel
theorem dX10_fails_1 : decode cX10_fails 1 = .ok (.iload_n 1, 1) := by decide +kernel
theorem dX10_fails_2 : decode cX10_fails 2 = .ok (.sipush 128, 3) := by decide +kernel
theorem dX10_fails_5 : decode cX10_fails 5 = .ok (.invokevirtual 230, 3) := by decide +kernel
theorem dX10_fails_8 : decode cX10_fails 8 = .ok (.aload_n 0, 1) := by decide +kernel
