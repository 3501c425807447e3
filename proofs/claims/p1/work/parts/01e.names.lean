theorem dX11_carried_201 : decode cX11_carried 201 = .ok (.getfield 115, 3) := by decide +kernel
theorem dX11_carried_204 : decode cX11_carried 204 = .ok (.if_icmp .ge 28, 3) := by decide +kernel
theorem dX11_carried_207 : decode cX11_carried 207 = .ok (.aload_n 0, 1) := by decide +kernel
theorem dX11_carried_208 : decode cX11_carried 208 = .ok (.getfield 78, 3) := by decide +kernel
theorem dX11_carried_211 : decode cX11_carried 211 = .ok (.bipush 9, 2) := by decide +kernel
theorem dX11_carried_213 : decode cX11_carried 213 = .ok (.iload_n 3, 1) := by decide +kernel
theorem dX11_carried_214 : decode cX11_carried 214 = .ok (.imul, 1) := by decide +kernel
theorem dX11_carried_215 : decode cX11_carried 215 = .ok (.iload 4, 2) := by decide +kernel
theorem dX11_carried_217 : decode cX11_carried 217 = .ok (.iadd, 1) := by decide +kernel
theorem dX11_carried_218 : decode cX11_carried 218 = .ok (.aload_n 0, 1) := by decide +kernel
theorem dX11_carried_219 : decode cX11_carried 219 = .ok (.getfield 72, 3) := by decide +kernel
theorem dX11_carried_222 : decode cX11_carried 222 = .ok (.iload 4, 2) := by decide +kernel
theorem dX11_carried_224 : decode cX11_carried 224 = .ok (.iaload, 1) := by decide +kernel
theorem dX11_carried_225 : decode cX11_carried 225 = .ok (.iastore, 1) := by decide +kernel
theorem dX11_carried_226 : decode cX11_carried 226 = .ok (.iinc 4 1, 3) := by decide +kernel
theorem dX11_carried_229 : decode cX11_carried 229 = .ok (.goto (-31), 3) := by decide +kernel
theorem dX11_carried_232 : decode cX11_carried 232 = .ok (.aload_n 0, 1) := by decide +kernel
theorem dX11_carried_233 : decode cX11_carried 233 = .ok (.getfield 81, 3) := by decide +kernel
theorem dX11_carried_236 : decode cX11_carried 236 = .ok (.iload_n 3, 1) := by decide +kernel
theorem dX11_carried_237 : decode cX11_carried 237 = .ok (.aload_n 0, 1) := by decide +kernel
theorem dX11_carried_238 : decode cX11_carried 238 = .ok (.getfield 115, 3) := by decide +kernel
theorem dX11_carried_241 : decode cX11_carried 241 = .ok (.iastore, 1) := by decide +kernel
theorem dX11_carried_242 : decode cX11_carried 242 = .ok (.aload_n 0, 1) := by decide +kernel
theorem dX11_carried_243 : decode cX11_carried 243 = .ok (.getfield 84, 3) := by decide +kernel
theorem dX11_carried_246 : decode cX11_carried 246 = .ok (.iload_n 3, 1) := by decide +kernel
theorem dX11_carried_247 : decode cX11_carried 247 = .ok (.iconst 1, 1) := by decide +kernel
theorem dX11_carried_248 : decode cX11_carried 248 = .ok (.bastore, 1) := by decide +kernel
theorem dX11_carried_249 : decode cX11_carried 249 = .ok (.aload_n 0, 1) := by decide +kernel
theorem dX11_carried_250 : decode cX11_carried 250 = .ok (.iconst 0, 1) := by decide +kernel
theorem dX11_carried_251 : decode cX11_carried 251 = .ok (.putfield 115, 3) := by decide +kernel
theorem dX11_carried_254 : decode cX11_carried 254 = .ok (.goto 119, 3) := by decide +kernel
theorem dX11_carried_257 : decode cX11_carried 257 = .ok (.aload_n 0, 1) := by decide +kernel
theorem dX11_carried_258 : decode cX11_carried 258 = .ok (.getfield 115, 3) := by decide +kernel
theorem dX11_carried_261 : decode cX11_carried 261 = .ok (.iconst 1, 1) := by decide +kernel
theorem dX11_carried_262 : decode cX11_carried 262 = .ok (.if_icmp .le 10, 3) := by decide +kernel
theorem dX11_carried_265 : decode cX11_carried 265 = .ok (.aload_n 0, 1) := by decide +kernel
theorem dX11_carried_266 : decode cX11_carried 266 = .ok (.invokevirtual 227, 3) := by decide +kernel
theorem dX11_carried_269 : decode cX11_carried 269 = .ok (.goto (-12), 3) := by decide +kernel
theorem dX11_carried_272 : decode cX11_carried 272 = .ok (.aload_n 0, 1) := by decide +kernel
theorem dX11_carried_273 : decode cX11_carried 273 = .ok (.getfield 72, 3) := by decide +kernel
theorem dX11_carried_276 : decode cX11_carried 276 = .ok (.iconst 0, 1) := by decide +kernel
theorem dX11_carried_277 : decode cX11_carried 277 = .ok (.iaload, 1) := by decide +kernel
theorem dX11_carried_278 : decode cX11_carried 278 = .ok (.istore_n 3, 1) := by decide +kernel
theorem dX11_carried_279 : decode cX11_carried 279 = .ok (.aload_n 0, 1) := by decide +kernel
theorem dX11_carried_280 : decode cX11_carried 280 = .ok (.invokevirtual 193, 3) := by decide +kernel
theorem dX11_carried_283 : decode cX11_carried 283 = .ok (.istore 4, 2) := by decide +kernel
theorem dX11_carried_285 : decode cX11_carried 285 = .ok (.aload_n 0, 1) := by decide +kernel
theorem dX11_carried_286 : decode cX11_carried 286 = .ok (.getfield 78, 3) := by decide +kernel
theorem dX11_carried_289 : decode cX11_carried 289 = .ok (.bipush 9, 2) := by decide +kernel
theorem dX11_carried_291 : decode cX11_carried 291 = .ok (.iload 4, 2) := by decide +kernel
theorem dX11_carried_293 : decode cX11_carried 293 = .ok (.imul, 1) := by decide +kernel
theorem dX11_carried_294 : decode cX11_carried 294 = .ok (.iload_n 3, 1) := by decide +kernel
theorem dX11_carried_295 : decode cX11_carried 295 = .ok (.iastore, 1) := by decide +kernel
theorem dX11_carried_296 : decode cX11_carried 296 = .ok (.aload_n 0, 1) := by decide +kernel
theorem dX11_carried_297 : decode cX11_carried 297 = .ok (.getfield 81, 3) := by decide +kernel
theorem dX11_carried_300 : decode cX11_carried 300 = .ok (.iload 4, 2) := by decide +kernel
theorem dX11_carried_302 : decode cX11_carried 302 = .ok (.iconst 1, 1) := by decide +kernel
theorem dX11_carried_303 : decode cX11_carried 303 = .ok (.iastore, 1) := by decide +kernel
theorem dX11_carried_304 : decode cX11_carried 304 = .ok (.aload_n 0, 1) := by decide +kernel
theorem dX11_carried_305 : decode cX11_carried 305 = .ok (.getfield 84, 3) := by decide +kernel
theorem dX11_carried_308 : decode cX11_carried 308 = .ok (.iload 4, 2) := by decide +kernel
theorem dX11_carried_310 : decode cX11_carried 310 = .ok (.iconst 0, 1) := by decide +kernel
theorem dX11_carried_311 : decode cX11_carried 311 = .ok (.bastore, 1) := by decide +kernel
theorem dX11_carried_312 : decode cX11_carried 312 = .ok (.aload_n 0, 1) := by decide +kernel
theorem dX11_carried_313 : decode cX11_carried 313 = .ok (.iconst 0, 1) := by decide +kernel
theorem dX11_carried_314 : decode cX11_carried 314 = .ok (.putfield 115, 3) := by decide +kernel
theorem dX11_carried_317 : decode cX11_carried 317 = .ok (.aload_n 0, 1) := by decide +kernel
theorem dX11_carried_318 : decode cX11_carried 318 = .ok (.iload_n 3, 1) := by decide +kernel
theorem dX11_carried_319 : decode cX11_carried 319 = .ok (.invokevirtual 144, 3) := by decide +kernel
theorem dX11_carried_322 : decode cX11_carried 322 = .ok (.aload_n 0, 1) := by decide +kernel
theorem dX11_carried_323 : decode cX11_carried 323 = .ok (.getfield 55, 3) := by decide +kernel
theorem dX11_carried_326 : decode cX11_carried 326 = .ok (.iload_n 3, 1) := by decide +kernel
theorem dX11_carried_327 : decode cX11_carried 327 = .ok (.iload_n 2, 1) := by decide +kernel
theorem dX11_carried_328 : decode cX11_carried 328 = .ok (.iconst 5, 1) := by decide +kernel
theorem dX11_carried_329 : decode cX11_carried 329 = .ok (.if_icmp .ne 7, 3) := by decide +kernel
theorem dX11_carried_332 : decode cX11_carried 332 = .ok (.iconst 1, 1) := by decide +kernel
theorem dX11_carried_333 : decode cX11_carried 333 = .ok (.goto 4, 3) := by decide +kernel
theorem dX11_carried_336 : decode cX11_carried 336 = .ok (.iconst 0, 1) := by decide +kernel
theorem dX11_carried_337 : decode cX11_carried 337 = .ok (.bastore, 1) := by decide +kernel
theorem dX11_carried_338 : decode cX11_carried 338 = .ok (.aload_n 0, 1) := by decide +kernel
theorem dX11_carried_339 : decode cX11_carried 339 = .ok (.getfield 61, 3) := by decide +kernel
theorem dX11_carried_342 : decode cX11_carried 342 = .ok (.iload_n 3, 1) := by decide +kernel
theorem dX11_carried_343 : decode cX11_carried 343 = .ok (.iload_n 2, 1) := by decide +kernel
theorem dX11_carried_344 : decode cX11_carried 344 = .ok (.iconst 4, 1) := by decide +kernel
theorem dX11_carried_345 : decode cX11_carried 345 = .ok (.if_icmp .ne 7, 3) := by decide +kernel
theorem dX11_carried_348 : decode cX11_carried 348 = .ok (.iconst 1, 1) := by decide +kernel
theorem dX11_carried_349 : decode cX11_carried 349 = .ok (.goto 4, 3) := by decide +kernel
theorem dX11_carried_352 : decode cX11_carried 352 = .ok (.iconst 0, 1) := by decide +kernel
theorem dX11_carried_353 : decode cX11_carried 353 = .ok (.bastore, 1) := by decide +kernel
theorem dX11_carried_354 : decode cX11_carried 354 = .ok (.iload_n 2, 1) := by decide +kernel
theorem dX11_carried_355 : decode cX11_carried 355 = .ok (.iconst 4, 1) := by decide +kernel
theorem dX11_carried_356 : decode cX11_carried 356 = .ok (.if_icmp .ne 17, 3) := by decide +kernel
theorem dX11_carried_359 : decode cX11_carried 359 = .ok (.aload_n 0, 1) := by decide +kernel
theorem dX11_carried_360 : decode cX11_carried 360 = .ok (.getfield 25, 3) := by decide +kernel
theorem dX11_carried_363 : decode cX11_carried 363 = .ok (.iload_n 3, 1) := by decide +kernel
theorem dX11_carried_364 : decode cX11_carried 364 = .ok (.iconst (-1), 1) := by decide +kernel
theorem dX11_carried_365 : decode cX11_carried 365 = .ok (.iastore, 1) := by decide +kernel
theorem dX11_carried_366 : decode cX11_carried 366 = .ok (.aload_n 0, 1) := by decide +kernel
theorem dX11_carried_367 : decode cX11_carried 367 = .ok (.getfield 28, 3) := by decide +kernel
theorem dX11_carried_370 : decode cX11_carried 370 = .ok (.iload_n 3, 1) := by decide +kernel
theorem dX11_carried_371 : decode cX11_carried 371 = .ok (.iconst (-1), 1) := by decide +kernel
theorem dX11_carried_372 : decode cX11_carried 372 = .ok (.iastore, 1) := by decide +kernel
theorem dX11_carried_373 : decode cX11_carried 373 = .ok (.return_, 1) := by decide +kernel
set_option maxRecDepth 20000 in
theorem ggX11_change_X11_isPending : GoodIn wsX11_change wsX11_isPending := goodIn_r _ [14, 15, 16, 17, 18, 19, 20, 21, 22, 23, 24, 25, 26, 27, 28, 29, 30, 31, 32, 33, 34, 35, 36, 37, 38, 39, 40, 41, 42, 43, 44, 45, 46, 47, 48, 49, 50, 51, 52, 53, 54, 55, 56, 57, 58] (by decide +kernel) (by decide +kernel)
set_option maxRecDepth 20000 in
theorem gX11_change_X11_isPending : GoodIn wsX11_change (wsV RX11 243 RX11 yX11_isPending wsX11_isPending) := goodIn_app (goodIn_of _ (by decide +kernel)) ggX11_change_X11_isPending
theorem dX11_change_0 : decode cX11_change 0 = .ok (.aload_n 0, 1) := by decide +kernel
theorem dX11_change_1 : decode cX11_change 1 = .ok (.getfield 40, 3) := by decide +kernel
theorem dX11_change_4 : decode cX11_change 4 = .ok (.iload_n 2, 1) := by decide +kernel
theorem dX11_change_5 : decode cX11_change 5 = .ok (.iaload, 1) := by decide +kernel
theorem dX11_change_6 : decode cX11_change 6 = .ok (.istore_n 3, 1) := by decide +kernel
theorem dX11_change_7 : decode cX11_change 7 = .ok (.aload_n 0, 1) := by decide +kernel
theorem dX11_change_8 : decode cX11_change 8 = .ok (.getfield 43, 3) := by decide +kernel
theorem dX11_change_11 : decode cX11_change 11 = .ok (.iload_n 2, 1) := by decide +kernel
theorem dX11_change_12 : decode cX11_change 12 = .ok (.iaload, 1) := by decide +kernel
theorem dX11_change_13 : decode cX11_change 13 = .ok (.istore 4, 2) := by decide +kernel
theorem dX11_change_15 : decode cX11_change 15 = .ok (.aload_n 0, 1) := by decide +kernel
theorem dX11_change_16 : decode cX11_change 16 = .ok (.getfield 37, 3) := by decide +kernel
theorem dX11_change_19 : decode cX11_change 19 = .ok (.iload_n 2, 1) := by decide +kernel
theorem dX11_change_20 : decode cX11_change 20 = .ok (.iaload, 1) := by decide +kernel
theorem dX11_change_21 : decode cX11_change 21 = .ok (.istore 5, 2) := by decide +kernel
theorem dX11_change_23 : decode cX11_change 23 = .ok (.iload 5, 2) := by decide +kernel
theorem dX11_change_25 : decode cX11_change 25 = .ok (.iload 4, 2) := by decide +kernel
theorem dX11_change_27 : decode cX11_change 27 = .ok (.iload_n 3, 1) := by decide +kernel
theorem dX11_change_28 : decode cX11_change 28 = .ok (.isub, 1) := by decide +kernel
theorem dX11_change_29 : decode cX11_change 29 = .ok (.isub, 1) := by decide +kernel
theorem dX11_change_30 : decode cX11_change 30 = .ok (.istore 6, 2) := by decide +kernel
theorem dX11_change_32 : decode cX11_change 32 = .ok (.aload_n 0, 1) := by decide +kernel
theorem dX11_change_33 : decode cX11_change 33 = .ok (.getfield 37, 3) := by decide +kernel
theorem dX11_change_36 : decode cX11_change 36 = .ok (.iload_n 1, 1) := by decide +kernel
theorem dX11_change_37 : decode cX11_change 37 = .ok (.iaload, 1) := by decide +kernel
theorem dX11_change_38 : decode cX11_change 38 = .ok (.istore 7, 2) := by decide +kernel
theorem dX11_change_40 : decode cX11_change 40 = .ok (.sipush 400, 3) := by decide +kernel
theorem dX11_change_43 : decode cX11_change 43 = .ok (.iload_n 1, 1) := by decide +kernel
theorem dX11_change_44 : decode cX11_change 44 = .ok (.imul, 1) := by decide +kernel
theorem dX11_change_45 : decode cX11_change 45 = .ok (.istore 8, 2) := by decide +kernel
theorem dX11_change_47 : decode cX11_change 47 = .ok (.iload 6, 2) := by decide +kernel
theorem dX11_change_49 : decode cX11_change 49 = .ok (.ifCond .le 45, 3) := by decide +kernel
theorem dX11_change_52 : decode cX11_change 52 = .ok (.iload 7, 2) := by decide +kernel
theorem dX11_change_54 : decode cX11_change 54 = .ok (.iconst 1, 1) := by decide +kernel
theorem dX11_change_55 : decode cX11_change 55 = .ok (.isub, 1) := by decide +kernel
theorem dX11_change_56 : decode cX11_change 56 = .ok (.istore 9, 2) := by decide +kernel
theorem dX11_change_58 : decode cX11_change 58 = .ok (.iload 9, 2) := by decide +kernel
theorem dX11_change_60 : decode cX11_change 60 = .ok (.iload 4, 2) := by decide +kernel
theorem dX11_change_62 : decode cX11_change 62 = .ok (.if_icmp .lt 32, 3) := by decide +kernel
theorem dX11_change_65 : decode cX11_change 65 = .ok (.aload_n 0, 1) := by decide +kernel
theorem dX11_change_66 : decode cX11_change 66 = .ok (.getfield 65, 3) := by decide +kernel
theorem dX11_change_69 : decode cX11_change 69 = .ok (.iload 8, 2) := by decide +kernel
theorem dX11_change_71 : decode cX11_change 71 = .ok (.iload 9, 2) := by decide +kernel
theorem dX11_change_73 : decode cX11_change 73 = .ok (.iadd, 1) := by decide +kernel
theorem dX11_change_74 : decode cX11_change 74 = .ok (.iload 6, 2) := by decide +kernel
theorem dX11_change_76 : decode cX11_change 76 = .ok (.iadd, 1) := by decide +kernel
theorem dX11_change_77 : decode cX11_change 77 = .ok (.aload_n 0, 1) := by decide +kernel
theorem dX11_change_78 : decode cX11_change 78 = .ok (.getfield 65, 3) := by decide +kernel
theorem dX11_change_81 : decode cX11_change 81 = .ok (.iload 8, 2) := by decide +kernel
theorem dX11_change_83 : decode cX11_change 83 = .ok (.iload 9, 2) := by decide +kernel
theorem dX11_change_85 : decode cX11_change 85 = .ok (.iadd, 1) := by decide +kernel
theorem dX11_change_86 : decode cX11_change 86 = .ok (.iaload, 1) := by decide +kernel
theorem dX11_change_87 : decode cX11_change 87 = .ok (.iastore, 1) := by decide +kernel
theorem dX11_change_88 : decode cX11_change 88 = .ok (.iinc 9 (-1), 3) := by decide +kernel
theorem dX11_change_91 : decode cX11_change 91 = .ok (.goto (-33), 3) := by decide +kernel
theorem dX11_change_94 : decode cX11_change 94 = .ok (.iload 6, 2) := by decide +kernel
theorem dX11_change_96 : decode cX11_change 96 = .ok (.ifCond .ge 43, 3) := by decide +kernel
theorem dX11_change_99 : decode cX11_change 99 = .ok (.iload 4, 2) := by decide +kernel
theorem dX11_change_101 : decode cX11_change 101 = .ok (.istore 9, 2) := by decide +kernel
theorem dX11_change_103 : decode cX11_change 103 = .ok (.iload 9, 2) := by decide +kernel
theorem dX11_change_105 : decode cX11_change 105 = .ok (.iload 7, 2) := by decide +kernel
theorem dX11_change_107 : decode cX11_change 107 = .ok (.if_icmp .ge 32, 3) := by decide +kernel
theorem dX11_change_110 : decode cX11_change 110 = .ok (.aload_n 0, 1) := by decide +kernel
theorem dX11_change_111 : decode cX11_change 111 = .ok (.getfield 65, 3) := by decide +kernel
theorem dX11_change_114 : decode cX11_change 114 = .ok (.iload 8, 2) := by decide +kernel
theorem dX11_change_116 : decode cX11_change 116 = .ok (.iload 9, 2) := by decide +kernel
theorem dX11_change_118 : decode cX11_change 118 = .ok (.iadd, 1) := by decide +kernel
theorem dX11_change_119 : decode cX11_change 119 = .ok (.iload 6, 2) := by decide +kernel
theorem dX11_change_121 : decode cX11_change 121 = .ok (.iadd, 1) := by decide +kernel
theorem dX11_change_122 : decode cX11_change 122 = .ok (.aload_n 0, 1) := by decide +kernel
theorem dX11_change_123 : decode cX11_change 123 = .ok (.getfield 65, 3) := by decide +kernel
theorem dX11_change_126 : decode cX11_change 126 = .ok (.iload 8, 2) := by decide +kernel
theorem dX11_change_128 : decode cX11_change 128 = .ok (.iload 9, 2) := by decide +kernel
theorem dX11_change_130 : decode cX11_change 130 = .ok (.iadd, 1) := by decide +kernel
theorem dX11_change_131 : decode cX11_change 131 = .ok (.iaload, 1) := by decide +kernel
theorem dX11_change_132 : decode cX11_change 132 = .ok (.iastore, 1) := by decide +kernel
theorem dX11_change_133 : decode cX11_change 133 = .ok (.iinc 9 1, 3) := by decide +kernel
theorem dX11_change_136 : decode cX11_change 136 = .ok (.goto (-33), 3) := by decide +kernel
theorem dX11_change_139 : decode cX11_change 139 = .ok (.iconst 0, 1) := by decide +kernel
theorem dX11_change_140 : decode cX11_change 140 = .ok (.istore 9, 2) := by decide +kernel
theorem dX11_change_142 : decode cX11_change 142 = .ok (.iload 9, 2) := by decide +kernel
theorem dX11_change_144 : decode cX11_change 144 = .ok (.iload 5, 2) := by decide +kernel
theorem dX11_change_146 : decode cX11_change 146 = .ok (.if_icmp .ge 34, 3) := by decide +kernel
theorem dX11_change_149 : decode cX11_change 149 = .ok (.aload_n 0, 1) := by decide +kernel
theorem dX11_change_150 : decode cX11_change 150 = .ok (.getfield 65, 3) := by decide +kernel
theorem dX11_change_153 : decode cX11_change 153 = .ok (.iload 8, 2) := by decide +kernel
theorem dX11_change_155 : decode cX11_change 155 = .ok (.iload_n 3, 1) := by decide +kernel
theorem dX11_change_156 : decode cX11_change 156 = .ok (.iadd, 1) := by decide +kernel
theorem dX11_change_157 : decode cX11_change 157 = .ok (.iload 9, 2) := by decide +kernel
theorem dX11_change_159 : decode cX11_change 159 = .ok (.iadd, 1) := by decide +kernel
theorem dX11_change_160 : decode cX11_change 160 = .ok (.aload_n 0, 1) := by decide +kernel
theorem dX11_change_161 : decode cX11_change 161 = .ok (.getfield 65, 3) := by decide +kernel
theorem dX11_change_164 : decode cX11_change 164 = .ok (.sipush 400, 3) := by decide +kernel
theorem dX11_change_167 : decode cX11_change 167 = .ok (.iload_n 2, 1) := by decide +kernel
theorem dX11_change_168 : decode cX11_change 168 = .ok (.imul, 1) := by decide +kernel
theorem dX11_change_169 : decode cX11_change 169 = .ok (.iload 9, 2) := by decide +kernel
theorem dX11_change_171 : decode cX11_change 171 = .ok (.iadd, 1) := by decide +kernel
theorem dX11_change_172 : decode cX11_change 172 = .ok (.iaload, 1) := by decide +kernel
theorem dX11_change_173 : decode cX11_change 173 = .ok (.iastore, 1) := by decide +kernel
theorem dX11_change_174 : decode cX11_change 174 = .ok (.iinc 9 1, 3) := by decide +kernel
theorem dX11_change_177 : decode cX11_change 177 = .ok (.goto (-35), 3) := by decide +kernel
theorem dX11_change_180 : decode cX11_change 180 = .ok (.aload_n 0, 1) := by decide +kernel
theorem dX11_change_181 : decode cX11_change 181 = .ok (.getfield 37, 3) := by decide +kernel
theorem dX11_change_184 : decode cX11_change 184 = .ok (.iload_n 1, 1) := by decide +kernel
theorem dX11_change_185 : decode cX11_change 185 = .ok (.iload 7, 2) := by decide +kernel
theorem dX11_change_187 : decode cX11_change 187 = .ok (.iload 6, 2) := by decide +kernel
theorem dX11_change_189 : decode cX11_change 189 = .ok (.iadd, 1) := by decide +kernel
theorem dX11_change_190 : decode cX11_change 190 = .ok (.iastore, 1) := by decide +kernel
theorem dX11_change_191 : decode cX11_change 191 = .ok (.iconst 0, 1) := by decide +kernel
theorem dX11_change_192 : decode cX11_change 192 = .ok (.istore 9, 2) := by decide +kernel
theorem dX11_change_194 : decode cX11_change 194 = .ok (.iload 9, 2) := by decide +kernel
theorem dX11_change_196 : decode cX11_change 196 = .ok (.bipush 90, 2) := by decide +kernel
theorem dX11_change_198 : decode cX11_change 198 = .ok (.if_icmp .ge 134, 3) := by decide +kernel
theorem dX11_change_201 : decode cX11_change 201 = .ok (.aload_n 0, 1) := by decide +kernel
theorem dX11_change_202 : decode cX11_change 202 = .ok (.getfield 19, 3) := by decide +kernel
theorem dX11_change_205 : decode cX11_change 205 = .ok (.iload 9, 2) := by decide +kernel
theorem dX11_change_207 : decode cX11_change 207 = .ok (.baload, 1) := by decide +kernel
theorem dX11_change_208 : decode cX11_change 208 = .ok (.ifCond .eq 118, 3) := by decide +kernel
theorem dX11_change_211 : decode cX11_change 211 = .ok (.iload 9, 2) := by decide +kernel
theorem dX11_change_213 : decode cX11_change 213 = .ok (.iload_n 2, 1) := by decide +kernel
theorem dX11_change_214 : decode cX11_change 214 = .ok (.if_icmp .eq 112, 3) := by decide +kernel
theorem dX11_change_217 : decode cX11_change 217 = .ok (.aload_n 0, 1) := by decide +kernel
theorem dX11_change_218 : decode cX11_change 218 = .ok (.getfield 55, 3) := by decide +kernel
theorem dX11_change_221 : decode cX11_change 221 = .ok (.iload 9, 2) := by decide +kernel
theorem dX11_change_223 : decode cX11_change 223 = .ok (.baload, 1) := by decide +kernel
theorem dX11_change_224 : decode cX11_change 224 = .ok (.ifCond .eq 102, 3) := by decide +kernel
theorem dX11_change_227 : decode cX11_change 227 = .ok (.aload_n 0, 1) := by decide +kernel
theorem dX11_change_228 : decode cX11_change 228 = .ok (.getfield 58, 3) := by decide +kernel
theorem dX11_change_231 : decode cX11_change 231 = .ok (.iload 9, 2) := by decide +kernel
theorem dX11_change_233 : decode cX11_change 233 = .ok (.baload, 1) := by decide +kernel
theorem dX11_change_234 : decode cX11_change 234 = .ok (.ifCond .ne 92, 3) := by decide +kernel
theorem dX11_change_237 : decode cX11_change 237 = .ok (.aload_n 0, 1) := by decide +kernel
theorem dX11_change_238 : decode cX11_change 238 = .ok (.getfield 49, 3) := by decide +kernel
theorem dX11_change_241 : decode cX11_change 241 = .ok (.iload 9, 2) := by decide +kernel
theorem dX11_change_243 : decode cX11_change 243 = .ok (.iaload, 1) := by decide +kernel
theorem dX11_change_244 : decode cX11_change 244 = .ok (.aload_n 0, 1) := by decide +kernel
theorem dX11_change_245 : decode cX11_change 245 = .ok (.getfield 46, 3) := by decide +kernel
theorem dX11_change_248 : decode cX11_change 248 = .ok (.iload_n 1, 1) := by decide +kernel
theorem dX11_change_249 : decode cX11_change 249 = .ok (.iaload, 1) := by decide +kernel
theorem dX11_change_250 : decode cX11_change 250 = .ok (.if_icmp .ne 76, 3) := by decide +kernel
theorem dX11_change_253 : decode cX11_change 253 = .ok (.aload_n 0, 1) := by decide +kernel
theorem dX11_change_254 : decode cX11_change 254 = .ok (.iload 9, 2) := by decide +kernel
theorem dX11_change_256 : decode cX11_change 256 = .ok (.invokevirtual 243, 3) := by decide +kernel
theorem dX11_change_259 : decode cX11_change 259 = .ok (.ifCond .eq 6, 3) := by decide +kernel
theorem dX11_change_262 : decode cX11_change 262 = .ok (.goto 64, 3) := by decide +kernel
theorem dX11_change_265 : decode cX11_change 265 = .ok (.aload_n 0, 1) := by decide +kernel
theorem dX11_change_266 : decode cX11_change 266 = .ok (.getfield 43, 3) := by decide +kernel
theorem dX11_change_269 : decode cX11_change 269 = .ok (.iload 9, 2) := by decide +kernel
theorem dX11_change_271 : decode cX11_change 271 = .ok (.iaload, 1) := by decide +kernel
theorem dX11_change_272 : decode cX11_change 272 = .ok (.iload_n 3, 1) := by decide +kernel
theorem dX11_change_273 : decode cX11_change 273 = .ok (.if_icmp .gt 6, 3) := by decide +kernel
theorem dX11_change_276 : decode cX11_change 276 = .ok (.goto 50, 3) := by decide +kernel
theorem dX11_change_279 : decode cX11_change 279 = .ok (.aload_n 0, 1) := by decide +kernel
theorem dX11_change_280 : decode cX11_change 280 = .ok (.getfield 40, 3) := by decide +kernel
theorem dX11_change_283 : decode cX11_change 283 = .ok (.iload 9, 2) := by decide +kernel
theorem dX11_change_285 : decode cX11_change 285 = .ok (.iaload, 1) := by decide +kernel
theorem dX11_change_286 : decode cX11_change 286 = .ok (.iload 4, 2) := by decide +kernel
theorem dX11_change_288 : decode cX11_change 288 = .ok (.if_icmp .lt 30, 3) := by decide +kernel
theorem dX11_change_291 : decode cX11_change 291 = .ok (.aload_n 0, 1) := by decide +kernel
theorem dX11_change_292 : decode cX11_change 292 = .ok (.getfield 40, 3) := by decide +kernel
theorem dX11_change_295 : decode cX11_change 295 = .ok (.iload 9, 2) := by decide +kernel
theorem dX11_change_297 : decode cX11_change 297 = .ok (.dup2, 1) := by decide +kernel
theorem dX11_change_298 : decode cX11_change 298 = .ok (.iaload, 1) := by decide +kernel
theorem dX11_change_299 : decode cX11_change 299 = .ok (.iload 6, 2) := by decide +kernel
theorem dX11_change_301 : decode cX11_change 301 = .ok (.iadd, 1) := by decide +kernel
theorem dX11_change_302 : decode cX11_change 302 = .ok (.iastore, 1) := by decide +kernel
theorem dX11_change_303 : decode cX11_change 303 = .ok (.aload_n 0, 1) := by decide +kernel
theorem dX11_change_304 : decode cX11_change 304 = .ok (.getfield 43, 3) := by decide +kernel
theorem dX11_change_307 : decode cX11_change 307 = .ok (.iload 9, 2) := by decide +kernel
theorem dX11_change_309 : decode cX11_change 309 = .ok (.dup2, 1) := by decide +kernel
theorem dX11_change_310 : decode cX11_change 310 = .ok (.iaload, 1) := by decide +kernel
theorem dX11_change_311 : decode cX11_change 311 = .ok (.iload 6, 2) := by decide +kernel
theorem dX11_change_313 : decode cX11_change 313 = .ok (.iadd, 1) := by decide +kernel
theorem dX11_change_314 : decode cX11_change 314 = .ok (.iastore, 1) := by decide +kernel
theorem dX11_change_315 : decode cX11_change 315 = .ok (.goto 11, 3) := by decide +kernel
theorem dX11_change_318 : decode cX11_change 318 = .ok (.aload_n 0, 1) := by decide +kernel
theorem dX11_change_319 : decode cX11_change 319 = .ok (.getfield 58, 3) := by decide +kernel
theorem dX11_change_322 : decode cX11_change 322 = .ok (.iload 9, 2) := by decide +kernel
theorem dX11_change_324 : decode cX11_change 324 = .ok (.iconst 1, 1) := by decide +kernel
theorem dX11_change_325 : decode cX11_change 325 = .ok (.bastore, 1) := by decide +kernel
theorem dX11_change_326 : decode cX11_change 326 = .ok (.iinc 9 1, 3) := by decide +kernel
theorem dX11_change_329 : decode cX11_change 329 = .ok (.goto (-135), 3) := by decide +kernel
theorem dX11_change_332 : decode cX11_change 332 = .ok (.return_, 1) := by decide +kernel
theorem dX11_isPending_0 : decode cX11_isPending 0 = .ok (.iconst 0, 1) := by decide +kernel
theorem dX11_isPending_1 : decode cX11_isPending 1 = .ok (.istore_n 2, 1) := by decide +kernel
theorem dX11_isPending_2 : decode cX11_isPending 2 = .ok (.iload_n 2, 1) := by decide +kernel
theorem dX11_isPending_3 : decode cX11_isPending 3 = .ok (.aload_n 0, 1) := by decide +kernel
theorem dX11_isPending_4 : decode cX11_isPending 4 = .ok (.getfield 115, 3) := by decide +kernel
theorem dX11_isPending_7 : decode cX11_isPending 7 = .ok (.if_icmp .ge 21, 3) := by decide +kernel
theorem dX11_isPending_10 : decode cX11_isPending 10 = .ok (.aload_n 0, 1) := by decide +kernel
theorem dX11_isPending_11 : decode cX11_isPending 11 = .ok (.getfield 72, 3) := by decide +kernel
theorem dX11_isPending_14 : decode cX11_isPending 14 = .ok (.iload_n 2, 1) := by decide +kernel
theorem dX11_isPending_15 : decode cX11_isPending 15 = .ok (.iaload, 1) := by decide +kernel
theorem dX11_isPending_16 : decode cX11_isPending 16 = .ok (.iload_n 1, 1) := by decide +kernel
theorem dX11_isPending_17 : decode cX11_isPending 17 = .ok (.if_icmp .ne 5, 3) := by decide +kernel
theorem dX11_isPending_20 : decode cX11_isPending 20 = .ok (.iconst 1, 1) := by decide +kernel
theorem dX11_isPending_21 : decode cX11_isPending 21 = .ok (.ireturn, 1) := by decide +kernel
theorem dX11_isPending_22 : decode cX11_isPending 22 = .ok (.iinc 2 1, 3) := by decide +kernel
theorem dX11_isPending_25 : decode cX11_isPending 25 = .ok (.goto (-23), 3) := by decide +kernel
theorem dX11_isPending_28 : decode cX11_isPending 28 = .ok (.iconst 0, 1) := by decide +kernel
theorem dX11_isPending_29 : decode cX11_isPending 29 = .ok (.ireturn, 1) := by decide +kernel
set_option maxRecDepth 20000 in
theorem ggX11_text_X12_in : GoodIn wsX11_text wsX12_in := goodIn_r _ [12] (by decide +kernel) (by decide +kernel)
set_option maxRecDepth 20000 in
theorem gX11_text_X12_in_n136 : GoodIn wsX11_text (wsX12_in) := ggX11_text_X12_in
theorem dX11_text_0 : decode cX11_text 0 = .ok (.iload_n 1, 1) := by decide +kernel
theorem dX11_text_1 : decode cX11_text 1 = .ok (.iconst (-1), 1) := by decide +kernel
theorem dX11_text_2 : decode cX11_text 2 = .ok (.if_icmp .ne 28, 3) := by decide +kernel
theorem dX11_text_5 : decode cX11_text 5 = .ok (.iload_n 2, 1) := by decide +kernel
theorem dX11_text_6 : decode cX11_text 6 = .ok (.iconst 0, 1) := by decide +kernel
theorem dX11_text_7 : decode cX11_text 7 = .ok (.aload_n 0, 1) := by decide +kernel
theorem dX11_text_8 : decode cX11_text 8 = .ok (.getfield 133, 3) := by decide +kernel
theorem dX11_text_11 : decode cX11_text 11 = .ok (.iconst 1, 1) := by decide +kernel
theorem dX11_text_12 : decode cX11_text 12 = .ok (.isub, 1) := by decide +kernel
theorem dX11_text_13 : decode cX11_text 13 = .ok (.invokestatic 136, 3) := by decide +kernel
theorem dX11_text_16 : decode cX11_text 16 = .ok (.ifCond .eq 12, 3) := by decide +kernel
theorem dX11_text_19 : decode cX11_text 19 = .ok (.aload_n 0, 1) := by decide +kernel
theorem dX11_text_20 : decode cX11_text 20 = .ok (.getfield 87, 3) := by decide +kernel
theorem dX11_text_23 : decode cX11_text 23 = .ok (.iload_n 2, 1) := by decide +kernel
theorem dX11_text_24 : decode cX11_text 24 = .ok (.iaload, 1) := by decide +kernel
theorem dX11_text_25 : decode cX11_text 25 = .ok (.goto 4, 3) := by decide +kernel
theorem dX11_text_28 : decode cX11_text 28 = .ok (.iconst (-1), 1) := by decide +kernel
theorem dX11_text_29 : decode cX11_text 29 = .ok (.ireturn, 1) := by decide +kernel
theorem dX11_text_30 : decode cX11_text 30 = .ok (.iload_n 1, 1) := by decide +kernel
theorem dX11_text_31 : decode cX11_text 31 = .ok (.bipush 9, 2) := by decide +kernel
theorem dX11_text_33 : decode cX11_text 33 = .ok (.if_icmp .ne 30, 3) := by decide +kernel
theorem dX11_text_36 : decode cX11_text 36 = .ok (.aload_n 0, 1) := by decide +kernel
theorem dX11_text_37 : decode cX11_text 37 = .ok (.getfield 130, 3) := by decide +kernel
theorem dX11_text_40 : decode cX11_text 40 = .ok (.ifCond .le 19, 3) := by decide +kernel
theorem dX11_text_43 : decode cX11_text 43 = .ok (.aload_n 0, 1) := by decide +kernel
theorem dX11_text_44 : decode cX11_text 44 = .ok (.getfield 151, 3) := by decide +kernel
theorem dX11_text_47 : decode cX11_text 47 = .ok (.ifCond .ne 12, 3) := by decide +kernel
theorem dX11_text_50 : decode cX11_text 50 = .ok (.aload_n 0, 1) := by decide +kernel
theorem dX11_text_51 : decode cX11_text 51 = .ok (.getfield 75, 3) := by decide +kernel
theorem dX11_text_54 : decode cX11_text 54 = .ok (.iconst 0, 1) := by decide +kernel
theorem dX11_text_55 : decode cX11_text 55 = .ok (.iaload, 1) := by decide +kernel
theorem dX11_text_56 : decode cX11_text 56 = .ok (.goto 31, 3) := by decide +kernel
theorem dX11_text_59 : decode cX11_text 59 = .ok (.iconst (-1), 1) := by decide +kernel
theorem dX11_text_60 : decode cX11_text 60 = .ok (.goto 27, 3) := by decide +kernel
theorem dX11_text_63 : decode cX11_text 63 = .ok (.iload_n 1, 1) := by decide +kernel
theorem dX11_text_64 : decode cX11_text 64 = .ok (.iconst 0, 1) := by decide +kernel
theorem dX11_text_65 : decode cX11_text 65 = .ok (.aload_n 0, 1) := by decide +kernel
theorem dX11_text_66 : decode cX11_text 66 = .ok (.getfield 115, 3) := by decide +kernel
theorem dX11_text_69 : decode cX11_text 69 = .ok (.iconst 1, 1) := by decide +kernel
theorem dX11_text_70 : decode cX11_text 70 = .ok (.isub, 1) := by decide +kernel
theorem dX11_text_71 : decode cX11_text 71 = .ok (.invokestatic 136, 3) := by decide +kernel
theorem dX11_text_74 : decode cX11_text 74 = .ok (.ifCond .eq 12, 3) := by decide +kernel
theorem dX11_text_77 : decode cX11_text 77 = .ok (.aload_n 0, 1) := by decide +kernel
theorem dX11_text_78 : decode cX11_text 78 = .ok (.getfield 72, 3) := by decide +kernel
theorem dX11_text_81 : decode cX11_text 81 = .ok (.iload_n 1, 1) := by decide +kernel
theorem dX11_text_82 : decode cX11_text 82 = .ok (.iaload, 1) := by decide +kernel
theorem dX11_text_83 : decode cX11_text 83 = .ok (.goto 4, 3) := by decide +kernel
theorem dX11_text_86 : decode cX11_text 86 = .ok (.iconst (-1), 1) := by decide +kernel
theorem dX11_text_87 : decode cX11_text 87 = .ok (.istore_n 3, 1) := by decide +kernel
theorem dX11_text_88 : decode cX11_text 88 = .ok (.iload_n 3, 1) := by decide +kernel
theorem dX11_text_89 : decode cX11_text 89 = .ok (.iconst (-1), 1) := by decide +kernel
theorem dX11_text_90 : decode cX11_text 90 = .ok (.if_icmp .eq 34, 3) := by decide +kernel
theorem dX11_text_93 : decode cX11_text 93 = .ok (.iload_n 2, 1) := by decide +kernel
theorem dX11_text_94 : decode cX11_text 94 = .ok (.iconst 0, 1) := by decide +kernel
theorem dX11_text_95 : decode cX11_text 95 = .ok (.aload_n 0, 1) := by decide +kernel
theorem dX11_text_96 : decode cX11_text 96 = .ok (.getfield 37, 3) := by decide +kernel
theorem dX11_text_99 : decode cX11_text 99 = .ok (.iload_n 3, 1) := by decide +kernel
theorem dX11_text_100 : decode cX11_text 100 = .ok (.iaload, 1) := by decide +kernel
theorem dX11_text_101 : decode cX11_text 101 = .ok (.iconst 1, 1) := by decide +kernel
theorem dX11_text_102 : decode cX11_text 102 = .ok (.isub, 1) := by decide +kernel
theorem dX11_text_103 : decode cX11_text 103 = .ok (.invokestatic 136, 3) := by decide +kernel
theorem dX11_text_106 : decode cX11_text 106 = .ok (.ifCond .eq 18, 3) := by decide +kernel
theorem dX11_text_109 : decode cX11_text 109 = .ok (.aload_n 0, 1) := by decide +kernel
theorem dX11_text_110 : decode cX11_text 110 = .ok (.getfield 65, 3) := by decide +kernel
theorem dX11_text_113 : decode cX11_text 113 = .ok (.sipush 400, 3) := by decide +kernel
theorem dX11_text_116 : decode cX11_text 116 = .ok (.iload_n 3, 1) := by decide +kernel
theorem dX11_text_117 : decode cX11_text 117 = .ok (.imul, 1) := by decide +kernel
theorem dX11_text_118 : decode cX11_text 118 = .ok (.iload_n 2, 1) := by decide +kernel
theorem dX11_text_119 : decode cX11_text 119 = .ok (.iadd, 1) := by decide +kernel
theorem dX11_text_120 : decode cX11_text 120 = .ok (.iaload, 1) := by decide +kernel
theorem dX11_text_121 : decode cX11_text 121 = .ok (.goto 4, 3) := by decide +kernel
theorem dX11_text_124 : decode cX11_text 124 = .ok (.iconst (-1), 1) := by decide +kernel
theorem dX11_text_125 : decode cX11_text 125 = .ok (.ireturn, 1) := by decide +kernel
set_option maxRecDepth 20000 in
theorem ggX11_follow_X11_act : GoodIn wsX11_follow wsX11_act := goodIn_r _ [5, 6, 7, 8, 9, 10, 11, 4, 12, 13, 14, 15, 16, 17, 18, 19, 20, 21, 22, 23, 24, 25, 26, 27, 28, 29, 30, 31, 32, 33, 34, 35, 36, 37, 38, 39, 40, 41, 42, 43, 44, 45, 46, 47, 48, 49, 50, 51, 52, 53, 54, 55, 56, 57, 58, 59, 60, 61, 62, 63, 64, 65, 66, 67, 68, 69, 70, 71, 72, 73, 74, 75, 76, 77, 78, 79, 80, 81, 82, 83, 84, 85, 86, 87, 88, 89, 90, 91, 92, 93, 94, 95, 96, 97, 98, 99, 100, 101, 102, 103, 104, 105, 106, 107, 108, 109, 110, 111, 112, 113, 114, 115, 116, 117, 118, 119, 120, 121, 122, 123, 124, 125, 126, 127, 128, 129, 130, 131, 132, 133, 134, 135, 136, 137, 138, 139, 140, 141, 142, 143, 144, 145, 146, 147, 148, 149, 150, 151, 152, 153, 154, 155, 156, 157, 158, 159, 160, 161, 162, 163, 164, 165, 166, 167, 168, 169, 170, 171, 172, 173, 174, 175, 176, 177, 178, 179, 180, 181, 182, 183, 184, 185, 186, 187, 188, 189, 190, 191, 192, 193, 194, 195, 196, 197, 198, 199, 200, 201, 202, 203, 204, 205, 206, 207, 208, 209, 210] (by decide +kernel) (by decide +kernel)
set_option maxRecDepth 20000 in
theorem gX11_follow_X11_act : GoodIn wsX11_follow (wsV RX11 246 RX11 yX11_act wsX11_act) := goodIn_app (goodIn_of _ (by decide +kernel)) ggX11_follow_X11_act
theorem dX11_follow_0 : decode cX11_follow 0 = .ok (.iconst 0, 1) := by decide +kernel
theorem dX11_follow_1 : decode cX11_follow 1 = .ok (.istore_n 3, 1) := by decide +kernel
theorem dX11_follow_2 : decode cX11_follow 2 = .ok (.iload_n 3, 1) := by decide +kernel
theorem dX11_follow_3 : decode cX11_follow 3 = .ok (.iload_n 2, 1) := by decide +kernel
theorem dX11_follow_4 : decode cX11_follow 4 = .ok (.if_icmp .ge 49, 3) := by decide +kernel
theorem dX11_follow_7 : decode cX11_follow 7 = .ok (.bipush 6, 2) := by decide +kernel
theorem dX11_follow_9 : decode cX11_follow 9 = .ok (.iload_n 3, 1) := by decide +kernel
theorem dX11_follow_10 : decode cX11_follow 10 = .ok (.imul, 1) := by decide +kernel
theorem dX11_follow_11 : decode cX11_follow 11 = .ok (.istore 4, 2) := by decide +kernel
theorem dX11_follow_13 : decode cX11_follow 13 = .ok (.aload_n 0, 1) := by decide +kernel
theorem dX11_follow_14 : decode cX11_follow 14 = .ok (.aload_n 1, 1) := by decide +kernel
theorem dX11_follow_15 : decode cX11_follow 15 = .ok (.iload 4, 2) := by decide +kernel
theorem dX11_follow_17 : decode cX11_follow 17 = .ok (.iaload, 1) := by decide +kernel
theorem dX11_follow_18 : decode cX11_follow 18 = .ok (.aload_n 1, 1) := by decide +kernel
theorem dX11_follow_19 : decode cX11_follow 19 = .ok (.iload 4, 2) := by decide +kernel
theorem dX11_follow_21 : decode cX11_follow 21 = .ok (.iconst 1, 1) := by decide +kernel
theorem dX11_follow_22 : decode cX11_follow 22 = .ok (.iadd, 1) := by decide +kernel
theorem dX11_follow_23 : decode cX11_follow 23 = .ok (.iaload, 1) := by decide +kernel
theorem dX11_follow_24 : decode cX11_follow 24 = .ok (.aload_n 1, 1) := by decide +kernel
theorem dX11_follow_25 : decode cX11_follow 25 = .ok (.iload 4, 2) := by decide +kernel
theorem dX11_follow_27 : decode cX11_follow 27 = .ok (.iconst 2, 1) := by decide +kernel
theorem dX11_follow_28 : decode cX11_follow 28 = .ok (.iadd, 1) := by decide +kernel
theorem dX11_follow_29 : decode cX11_follow 29 = .ok (.iaload, 1) := by decide +kernel
theorem dX11_follow_30 : decode cX11_follow 30 = .ok (.aload_n 1, 1) := by decide +kernel
theorem dX11_follow_31 : decode cX11_follow 31 = .ok (.iload 4, 2) := by decide +kernel
theorem dX11_follow_33 : decode cX11_follow 33 = .ok (.iconst 3, 1) := by decide +kernel
theorem dX11_follow_34 : decode cX11_follow 34 = .ok (.iadd, 1) := by decide +kernel
theorem dX11_follow_35 : decode cX11_follow 35 = .ok (.iaload, 1) := by decide +kernel
theorem dX11_follow_36 : decode cX11_follow 36 = .ok (.aload_n 1, 1) := by decide +kernel
theorem dX11_follow_37 : decode cX11_follow 37 = .ok (.iload 4, 2) := by decide +kernel
theorem dX11_follow_39 : decode cX11_follow 39 = .ok (.iconst 4, 1) := by decide +kernel
theorem dX11_follow_40 : decode cX11_follow 40 = .ok (.iadd, 1) := by decide +kernel
theorem dX11_follow_41 : decode cX11_follow 41 = .ok (.iaload, 1) := by decide +kernel
theorem dX11_follow_42 : decode cX11_follow 42 = .ok (.invokevirtual 246, 3) := by decide +kernel
theorem dX11_follow_45 : decode cX11_follow 45 = .ok (.istore 5, 2) := by decide +kernel
theorem dX11_follow_47 : decode cX11_follow 47 = .ok (.iinc 3 1, 3) := by decide +kernel
theorem dX11_follow_50 : decode cX11_follow 50 = .ok (.goto (-48), 3) := by decide +kernel
theorem dX11_follow_53 : decode cX11_follow 53 = .ok (.return_, 1) := by decide +kernel
theorem dX12_in_0 : decode cX12_in 0 = .ok (.iload_n 0, 1) := by decide +kernel
theorem dX12_in_1 : decode cX12_in 1 = .ok (.iload_n 1, 1) := by decide +kernel
theorem dX12_in_2 : decode cX12_in 2 = .ok (.if_icmp .lt 12, 3) := by decide +kernel
theorem dX12_in_5 : decode cX12_in 5 = .ok (.iload_n 0, 1) := by decide +kernel
theorem dX12_in_6 : decode cX12_in 6 = .ok (.iload_n 2, 1) := by decide +kernel
theorem dX12_in_7 : decode cX12_in 7 = .ok (.if_icmp .gt 7, 3) := by decide +kernel
theorem dX12_in_10 : decode cX12_in 10 = .ok (.iconst 1, 1) := by decide +kernel
theorem dX12_in_11 : decode cX12_in 11 = .ok (.goto 4, 3) := by decide +kernel
theorem dX12_in_14 : decode cX12_in 14 = .ok (.iconst 0, 1) := by decide +kernel
theorem dX12_in_15 : decode cX12_in 15 = .ok (.ireturn, 1) := by decide +kernel
set_option maxRecDepth 20000 in
theorem ggX12_numbers_X12_in : GoodIn wsX12_numbers wsX12_in := goodIn_r _ [4] (by decide +kernel) (by decide +kernel)
set_option maxRecDepth 20000 in
theorem gX12_numbers_X12_in : GoodIn wsX12_numbers (va_wsS RX12 1 yX12_in wsX12_in) := goodIn_app (goodIn_of _ (by decide +kernel)) ggX12_numbers_X12_in
theorem dX12_numbers_0 : decode cX12_numbers 0 = .ok (.iload_n 0, 1) := by decide +kernel
theorem dX12_numbers_1 : decode cX12_numbers 1 = .ok (.tableswitch 93 5 22 #[89, 93, 93, 87, 93, 93, 89, 91, 93, 93, 93, 93, 89, 93, 87, 93, 87, 87], 87) := by decide +kernel
theorem dX12_numbers_88 : decode cX12_numbers 88 = .ok (.iconst 0, 1) := by decide +kernel
theorem dX12_numbers_89 : decode cX12_numbers 89 = .ok (.ireturn, 1) := by decide +kernel
theorem dX12_numbers_90 : decode cX12_numbers 90 = .ok (.iconst 2, 1) := by decide +kernel
theorem dX12_numbers_91 : decode cX12_numbers 91 = .ok (.ireturn, 1) := by decide +kernel
theorem dX12_numbers_92 : decode cX12_numbers 92 = .ok (.iconst 4, 1) := by decide +kernel
theorem dX12_numbers_93 : decode cX12_numbers 93 = .ok (.ireturn, 1) := by decide +kernel
theorem dX12_numbers_94 : decode cX12_numbers 94 = .ok (.iload_n 0, 1) := by decide +kernel
theorem dX12_numbers_95 : decode cX12_numbers 95 = .ok (.iconst 1, 1) := by decide +kernel
theorem dX12_numbers_96 : decode cX12_numbers 96 = .ok (.bipush 22, 2) := by decide +kernel
theorem dX12_numbers_98 : decode cX12_numbers 98 = .ok (.invokestatic 1, 3) := by decide +kernel
theorem dX12_numbers_101 : decode cX12_numbers 101 = .ok (.ifCond .eq 7, 3) := by decide +kernel
theorem dX12_numbers_104 : decode cX12_numbers 104 = .ok (.iconst 1, 1) := by decide +kernel
theorem dX12_numbers_105 : decode cX12_numbers 105 = .ok (.goto 4, 3) := by decide +kernel
theorem dX12_numbers_108 : decode cX12_numbers 108 = .ok (.iconst (-1), 1) := by decide +kernel
theorem dX12_numbers_109 : decode cX12_numbers 109 = .ok (.ireturn, 1) := by decide +kernel
set_option maxRecDepth 20000 in
theorem ggX12_init_X11_init : GoodIn wsX12_init wsX11_init := goodIn_r _ [15, 16, 2, 3, 17, 18, 9, 19, 20, 21, 22, 23, 24, 25, 26, 27, 28, 29, 30, 31, 32, 33, 34, 35, 36, 37, 38, 39, 40, 41, 42, 43, 44, 45, 46, 64, 65, 66, 67, 68, 69, 70, 71, 72, 73, 74, 75, 76, 77, 78, 79, 80, 81, 82, 83, 84, 85, 86, 87, 88, 89, 90, 91, 92, 93, 94, 95, 96, 97, 98, 99, 100, 101, 102, 103, 104, 105] (by decide +kernel) (by decide +kernel)
set_option maxRecDepth 20000 in
theorem gX12_init_X11_init_n15 : GoodIn wsX12_init (wsX11_init) := ggX12_init_X11_init
set_option maxRecDepth 20000 in
theorem ggX12_init_X11_begin : GoodIn wsX12_init wsX11_begin := goodIn_r _ [50, 51, 52, 53, 54, 55, 56, 57, 58, 59, 60, 61, 62, 63, 18, 19, 20, 42, 64, 65, 66, 67, 68, 69, 70, 71, 72, 73, 74, 75, 76, 77, 78, 79, 80, 81, 82, 83, 84, 85, 86, 87, 88, 89, 90, 91, 92, 93, 94, 95, 96, 97, 98, 99, 100, 101, 102, 103, 104, 105] (by decide +kernel) (by decide +kernel)
set_option maxRecDepth 20000 in
theorem gX12_init_X11_begin : GoodIn wsX12_init (wsV RX12 36 RX11 yX11_begin wsX11_begin) := goodIn_app (goodIn_of _ (by decide +kernel)) ggX12_init_X11_begin
theorem dX12_init_0 : decode cX12_init 0 = .ok (.aload_n 0, 1) := by decide +kernel
theorem dX12_init_1 : decode cX12_init 1 = .ok (.invokespecial 7, 3) := by decide +kernel
theorem dX12_init_4 : decode cX12_init 4 = .ok (.aload_n 0, 1) := by decide +kernel
theorem dX12_init_5 : decode cX12_init 5 = .ok (.new 13, 3) := by decide +kernel
theorem dX12_init_8 : decode cX12_init 8 = .ok (.dup, 1) := by decide +kernel
theorem dX12_init_9 : decode cX12_init 9 = .ok (.invokespecial 15, 3) := by decide +kernel
theorem dX12_init_12 : decode cX12_init 12 = .ok (.putfield 16, 3) := by decide +kernel
theorem dX12_init_15 : decode cX12_init 15 = .ok (.aload_n 0, 1) := by decide +kernel
theorem dX12_init_16 : decode cX12_init 16 = .ok (.new 13, 3) := by decide +kernel
theorem dX12_init_19 : decode cX12_init 19 = .ok (.dup, 1) := by decide +kernel
theorem dX12_init_20 : decode cX12_init 20 = .ok (.invokespecial 15, 3) := by decide +kernel
theorem dX12_init_23 : decode cX12_init 23 = .ok (.putfield 20, 3) := by decide +kernel
theorem dX12_init_26 : decode cX12_init 26 = .ok (.aload_n 0, 1) := by decide +kernel
theorem dX12_init_27 : decode cX12_init 27 = .ok (.iconst 2, 1) := by decide +kernel
theorem dX12_init_28 : decode cX12_init 28 = .ok (.newarray .int, 2) := by decide +kernel
theorem dX12_init_30 : decode cX12_init 30 = .ok (.putfield 23, 3) := by decide +kernel
theorem dX12_init_33 : decode cX12_init 33 = .ok (.aload_n 0, 1) := by decide +kernel
theorem dX12_init_34 : decode cX12_init 34 = .ok (.iconst 2, 1) := by decide +kernel
theorem dX12_init_35 : decode cX12_init 35 = .ok (.newarray .int, 2) := by decide +kernel
theorem dX12_init_37 : decode cX12_init 37 = .ok (.putfield 27, 3) := by decide +kernel
theorem dX12_init_40 : decode cX12_init 40 = .ok (.aload_n 0, 1) := by decide +kernel
theorem dX12_init_41 : decode cX12_init 41 = .ok (.sipush 7200, 3) := by decide +kernel
theorem dX12_init_44 : decode cX12_init 44 = .ok (.newarray .int, 2) := by decide +kernel
theorem dX12_init_46 : decode cX12_init 46 = .ok (.putfield 30, 3) := by decide +kernel
theorem dX12_init_49 : decode cX12_init 49 = .ok (.aload_n 0, 1) := by decide +kernel
theorem dX12_init_50 : decode cX12_init 50 = .ok (.sipush 3600, 3) := by decide +kernel
theorem dX12_init_53 : decode cX12_init 53 = .ok (.newarray .int, 2) := by decide +kernel
theorem dX12_init_55 : decode cX12_init 55 = .ok (.putfield 33, 3) := by decide +kernel
theorem dX12_init_58 : decode cX12_init 58 = .ok (.aload_n 0, 1) := by decide +kernel
theorem dX12_init_59 : decode cX12_init 59 = .ok (.getfield 16, 3) := by decide +kernel
theorem dX12_init_62 : decode cX12_init 62 = .ok (.iconst 1, 1) := by decide +kernel
theorem dX12_init_63 : decode cX12_init 63 = .ok (.invokevirtual 36, 3) := by decide +kernel
theorem dX12_init_66 : decode cX12_init 66 = .ok (.aload_n 0, 1) := by decide +kernel
theorem dX12_init_67 : decode cX12_init 67 = .ok (.getfield 27, 3) := by decide +kernel
theorem dX12_init_70 : decode cX12_init 70 = .ok (.iconst 0, 1) := by decide +kernel
theorem dX12_init_71 : decode cX12_init 71 = .ok (.iconst (-1), 1) := by decide +kernel
theorem dX12_init_72 : decode cX12_init 72 = .ok (.iastore, 1) := by decide +kernel
theorem dX12_init_73 : decode cX12_init 73 = .ok (.aload_n 0, 1) := by decide +kernel
theorem dX12_init_74 : decode cX12_init 74 = .ok (.getfield 27, 3) := by decide +kernel
theorem dX12_init_77 : decode cX12_init 77 = .ok (.iconst 1, 1) := by decide +kernel
theorem dX12_init_78 : decode cX12_init 78 = .ok (.iconst (-1), 1) := by decide +kernel
theorem dX12_init_79 : decode cX12_init 79 = .ok (.iastore, 1) := by decide +kernel
theorem dX12_init_80 : decode cX12_init 80 = .ok (.return_, 1) := by decide +kernel
set_option maxRecDepth 20000 in
theorem ggX12_seats_X12_in : GoodIn wsX12_seats wsX12_in := goodIn_r _ [5] (by decide +kernel) (by decide +kernel)
set_option maxRecDepth 20000 in
theorem gX12_seats_X12_in : GoodIn wsX12_seats (va_wsS RX12 1 yX12_in wsX12_in) := goodIn_app (goodIn_of _ (by decide +kernel)) ggX12_seats_X12_in
set_option maxRecDepth 20000 in
theorem ggX12_seats_X11_begin : GoodIn wsX12_seats wsX11_begin := goodIn_r _ [10, 11, 12, 13, 14, 15, 16, 17, 18, 19, 20, 21, 22, 23, 24, 25, 26, 27, 35, 36, 37, 38, 39, 40, 41, 42, 43, 44, 45, 46, 47, 48, 49, 50, 51, 52, 53, 54, 55, 56, 57, 58, 59, 60, 61, 62, 63, 64, 65, 66, 67, 68, 69, 70, 71, 72, 73, 74, 75, 76] (by decide +kernel) (by decide +kernel)
set_option maxRecDepth 20000 in
theorem gX12_seats_X11_begin : GoodIn wsX12_seats (wsV RX12 36 RX11 yX11_begin wsX11_begin) := goodIn_app (goodIn_of _ (by decide +kernel)) ggX12_seats_X11_begin
theorem dX12_seats_0 : decode cX12_seats 0 = .ok (.iload_n 1, 1) := by decide +kernel
theorem dX12_seats_1 : decode cX12_seats 1 = .ok (.iconst 1, 1) := by decide +kernel
theorem dX12_seats_2 : decode cX12_seats 2 = .ok (.sipush 200, 3) := by decide +kernel
theorem dX12_seats_5 : decode cX12_seats 5 = .ok (.invokestatic 1, 3) := by decide +kernel
theorem dX12_seats_8 : decode cX12_seats 8 = .ok (.ifCond .ne 6, 3) := by decide +kernel
theorem dX12_seats_11 : decode cX12_seats 11 = .ok (.bipush (-9), 2) := by decide +kernel
theorem dX12_seats_13 : decode cX12_seats 13 = .ok (.ireturn, 1) := by decide +kernel
theorem dX12_seats_14 : decode cX12_seats 14 = .ok (.aload_n 0, 1) := by decide +kernel
theorem dX12_seats_15 : decode cX12_seats 15 = .ok (.getfield 16, 3) := by decide +kernel
theorem dX12_seats_18 : decode cX12_seats 18 = .ok (.iload_n 1, 1) := by decide +kernel
theorem dX12_seats_19 : decode cX12_seats 19 = .ok (.invokevirtual 36, 3) := by decide +kernel
theorem dX12_seats_22 : decode cX12_seats 22 = .ok (.iload_n 1, 1) := by decide +kernel
theorem dX12_seats_23 : decode cX12_seats 23 = .ok (.ireturn, 1) := by decide +kernel
set_option maxRecDepth 20000 in
theorem ggX12_there_X11_act : GoodIn wsX12_there wsX11_act := goodIn_r _ [6, 7, 8, 9, 10, 11, 12, 5, 13, 14, 15, 16, 17, 18, 19, 20, 21, 22, 23, 24, 25, 26, 27, 28, 29, 30, 31, 32, 33, 34, 35, 36, 37, 38, 39, 40, 41, 42, 43, 44, 45, 46, 47, 48, 49, 50, 51, 52, 53, 54, 55, 56, 57, 58, 59, 60, 61, 62, 63, 64, 65, 66, 67, 68, 69, 70, 71, 72, 73, 74, 75, 76, 77, 78, 79, 80, 81, 82, 83, 84, 85, 86, 87, 88, 89, 90, 91, 92, 93, 94, 95, 96, 97, 98, 99, 100, 101, 102, 103, 104, 105, 106, 107, 108, 109, 110, 111, 112, 113, 114, 115, 116, 117, 118, 119, 120, 121, 122, 123, 124, 125, 126, 127, 128, 129, 130, 131, 132, 133, 134, 135, 136, 137, 138, 139, 140, 141, 142, 143, 144, 145, 146, 147, 148, 149, 150, 151, 152, 153, 154, 155, 156, 157, 158, 159, 160, 161, 162, 163, 164, 165, 166, 167, 168, 169, 177, 178, 179, 180, 181, 182, 183, 184, 185, 186, 187, 188, 189, 190, 191, 192, 193, 194, 195, 196, 197, 198, 199, 200, 201, 202, 203, 204, 205, 206, 207, 208, 209, 210, 211, 212, 213, 214, 215, 216, 217, 218] (by decide +kernel) (by decide +kernel)
set_option maxRecDepth 20000 in
theorem gX12_there_X11_act : GoodIn wsX12_there (wsV RX12 40 RX11 yX11_act wsX11_act) := goodIn_app (goodIn_of _ (by decide +kernel)) ggX12_there_X11_act
theorem dX12_there_0 : decode cX12_there 0 = .ok (.aload_n 0, 1) := by decide +kernel
theorem dX12_there_1 : decode cX12_there 1 = .ok (.getfield 16, 3) := by decide +kernel
theorem dX12_there_4 : decode cX12_there 4 = .ok (.iconst 1, 1) := by decide +kernel
theorem dX12_there_5 : decode cX12_there 5 = .ok (.iload_n 1, 1) := by decide +kernel
theorem dX12_there_6 : decode cX12_there 6 = .ok (.iconst 0, 1) := by decide +kernel
theorem dX12_there_7 : decode cX12_there 7 = .ok (.iconst 0, 1) := by decide +kernel
theorem dX12_there_8 : decode cX12_there 8 = .ok (.iconst 0, 1) := by decide +kernel
theorem dX12_there_9 : decode cX12_there 9 = .ok (.invokevirtual 40, 3) := by decide +kernel
theorem dX12_there_12 : decode cX12_there 12 = .ok (.ireturn, 1) := by decide +kernel
set_option maxRecDepth 20000 in
theorem ggX12_gone_X11_act : GoodIn wsX12_gone wsX11_act := goodIn_r _ [6, 7, 8, 9, 10, 11, 12, 5, 13, 14, 15, 16, 17, 18, 19, 20, 21, 22, 23, 24, 25, 26, 27, 28, 29, 30, 31, 32, 33, 34, 35, 36, 37, 38, 39, 40, 41, 42, 43, 44, 45, 46, 47, 48, 49, 50, 51, 52, 53, 54, 55, 56, 57, 58, 59, 60, 61, 62, 63, 64, 65, 66, 67, 68, 69, 70, 71, 72, 73, 74, 75, 76, 77, 78, 79, 80, 81, 82, 83, 84, 85, 86, 87, 88, 89, 90, 91, 92, 93, 94, 95, 96, 97, 98, 99, 100, 101, 102, 103, 104, 105, 106, 107, 108, 109, 110, 111, 112, 113, 114, 115, 116, 117, 118, 119, 120, 121, 122, 123, 124, 125, 126, 127, 128, 129, 130, 131, 132, 133, 134, 135, 136, 137, 138, 139, 140, 141, 142, 143, 144, 145, 146, 147, 148, 149, 150, 151, 152, 153, 154, 155, 156, 157, 158, 159, 160, 161, 162, 163, 164, 165, 166, 167, 168, 169, 177, 178, 179, 180, 181, 182, 183, 184, 185, 186, 187, 188, 189, 190, 191, 192, 193, 194, 195, 196, 197, 198, 199, 200, 201, 202, 203, 204, 205, 206, 207, 208, 209, 210, 211, 212, 213, 214, 215, 216, 217, 218] (by decide +kernel) (by decide +kernel)
set_option maxRecDepth 20000 in
theorem gX12_gone_X11_act : GoodIn wsX12_gone (wsV RX12 40 RX11 yX11_act wsX11_act) := goodIn_app (goodIn_of _ (by decide +kernel)) ggX12_gone_X11_act
theorem dX12_gone_0 : decode cX12_gone 0 = .ok (.aload_n 0, 1) := by decide +kernel
theorem dX12_gone_1 : decode cX12_gone 1 = .ok (.getfield 16, 3) := by decide +kernel
theorem dX12_gone_4 : decode cX12_gone 4 = .ok (.iconst 2, 1) := by decide +kernel
theorem dX12_gone_5 : decode cX12_gone 5 = .ok (.iload_n 1, 1) := by decide +kernel
theorem dX12_gone_6 : decode cX12_gone 6 = .ok (.iconst 0, 1) := by decide +kernel
theorem dX12_gone_7 : decode cX12_gone 7 = .ok (.iconst 0, 1) := by decide +kernel
theorem dX12_gone_8 : decode cX12_gone 8 = .ok (.iconst 0, 1) := by decide +kernel
theorem dX12_gone_9 : decode cX12_gone 9 = .ok (.invokevirtual 40, 3) := by decide +kernel
theorem dX12_gone_12 : decode cX12_gone 12 = .ok (.ireturn, 1) := by decide +kernel
set_option maxRecDepth 20000 in
theorem ggX12_quorum_X11_act : GoodIn wsX12_quorum wsX11_act := goodIn_r _ [6, 7, 8, 9, 10, 11, 12, 5, 13, 14, 15, 16, 17, 18, 19, 20, 21, 22, 23, 24, 25, 26, 27, 28, 29, 30, 31, 32, 33, 34, 35, 36, 37, 38, 39, 40, 41, 42, 43, 44, 45, 46, 47, 48, 49, 50, 51, 52, 53, 54, 55, 56, 57, 58, 59, 60, 61, 62, 63, 64, 65, 66, 67, 68, 69, 70, 71, 72, 73, 74, 75, 76, 77, 78, 79, 80, 81, 82, 83, 84, 85, 86, 87, 88, 89, 90, 91, 92, 93, 94, 95, 96, 97, 98, 99, 100, 101, 102, 103, 104, 105, 106, 107, 108, 109, 110, 111, 112, 113, 114, 115, 116, 117, 118, 119, 120, 121, 122, 123, 124, 125, 126, 127, 128, 129, 130, 131, 132, 133, 134, 135, 136, 137, 138, 139, 140, 141, 142, 143, 144, 145, 146, 147, 148, 149, 150, 151, 152, 153, 154, 155, 156, 157, 158, 159, 160, 161, 162, 163, 164, 165, 166, 167, 168, 169, 177, 178, 179, 180, 181, 182, 183, 184, 185, 186, 187, 188, 189, 190, 191, 192, 193, 194, 195, 196, 197, 198, 199, 200, 201, 202, 203, 204, 205, 206, 207, 208, 209, 210, 211, 212, 213, 214, 215, 216, 217, 218] (by decide +kernel) (by decide +kernel)
set_option maxRecDepth 20000 in
theorem gX12_quorum_X11_act : GoodIn wsX12_quorum (wsV RX12 40 RX11 yX11_act wsX11_act) := goodIn_app (goodIn_of _ (by decide +kernel)) ggX12_quorum_X11_act
theorem dX12_quorum_0 : decode cX12_quorum 0 = .ok (.aload_n 0, 1) := by decide +kernel
theorem dX12_quorum_1 : decode cX12_quorum 1 = .ok (.getfield 16, 3) := by decide +kernel
theorem dX12_quorum_4 : decode cX12_quorum 4 = .ok (.iconst 3, 1) := by decide +kernel
theorem dX12_quorum_5 : decode cX12_quorum 5 = .ok (.iload_n 1, 1) := by decide +kernel
theorem dX12_quorum_6 : decode cX12_quorum 6 = .ok (.iconst 0, 1) := by decide +kernel
theorem dX12_quorum_7 : decode cX12_quorum 7 = .ok (.iconst 0, 1) := by decide +kernel
theorem dX12_quorum_8 : decode cX12_quorum 8 = .ok (.iconst 0, 1) := by decide +kernel
theorem dX12_quorum_9 : decode cX12_quorum 9 = .ok (.invokevirtual 40, 3) := by decide +kernel
theorem dX12_quorum_12 : decode cX12_quorum 12 = .ok (.ireturn, 1) := by decide +kernel
set_option maxRecDepth 20000 in
theorem ggX12_chair_X11_act : GoodIn wsX12_chair wsX11_act := goodIn_r _ [6, 7, 8, 9, 10, 11, 12, 5, 13, 14, 15, 16, 17, 18, 19, 20, 21, 22, 23, 24, 25, 26, 27, 28, 29, 30, 31, 32, 33, 34, 35, 36, 37, 38, 39, 40, 41, 42, 43, 44, 45, 46, 47, 48, 49, 50, 51, 52, 53, 54, 55, 56, 57, 58, 59, 60, 61, 62, 63, 64, 65, 66, 67, 68, 69, 70, 71, 72, 73, 74, 75, 76, 77, 78, 79, 80, 81, 82, 83, 84, 85, 86, 87, 88, 89, 90, 91, 92, 93, 94, 95, 96, 97, 98, 99, 100, 101, 102, 103, 104, 105, 106, 107, 108, 109, 110, 111, 112, 113, 114, 115, 116, 117, 118, 119, 120, 121, 122, 123, 124, 125, 126, 127, 128, 129, 130, 131, 132, 133, 134, 135, 136, 137, 138, 139, 140, 141, 142, 143, 144, 145, 146, 147, 148, 149, 150, 151, 152, 153, 154, 155, 156, 157, 158, 159, 160, 161, 162, 163, 164, 165, 166, 167, 168, 169, 177, 178, 179, 180, 181, 182, 183, 184, 185, 186, 187, 188, 189, 190, 191, 192, 193, 194, 195, 196, 197, 198, 199, 200, 201, 202, 203, 204, 205, 206, 207, 208, 209, 210, 211, 212, 213, 214, 215, 216, 217, 218] (by decide +kernel) (by decide +kernel)
set_option maxRecDepth 20000 in
theorem gX12_chair_X11_act : GoodIn wsX12_chair (wsV RX12 40 RX11 yX11_act wsX11_act) := goodIn_app (goodIn_of _ (by decide +kernel)) ggX12_chair_X11_act
theorem dX12_chair_0 : decode cX12_chair 0 = .ok (.aload_n 0, 1) := by decide +kernel
theorem dX12_chair_1 : decode cX12_chair 1 = .ok (.getfield 16, 3) := by decide +kernel
theorem dX12_chair_4 : decode cX12_chair 4 = .ok (.iconst 4, 1) := by decide +kernel
theorem dX12_chair_5 : decode cX12_chair 5 = .ok (.iload_n 1, 1) := by decide +kernel
theorem dX12_chair_6 : decode cX12_chair 6 = .ok (.iconst 0, 1) := by decide +kernel
theorem dX12_chair_7 : decode cX12_chair 7 = .ok (.iconst 0, 1) := by decide +kernel
theorem dX12_chair_8 : decode cX12_chair 8 = .ok (.iconst 0, 1) := by decide +kernel
theorem dX12_chair_9 : decode cX12_chair 9 = .ok (.invokevirtual 40, 3) := by decide +kernel
theorem dX12_chair_12 : decode cX12_chair 12 = .ok (.ireturn, 1) := by decide +kernel
set_option maxRecDepth 20000 in
theorem ggX12_majority_X11_act : GoodIn wsX12_majority wsX11_act := goodIn_r _ [6, 7, 8, 9, 10, 11, 12, 5, 13, 14, 15, 16, 17, 18, 19, 20, 21, 22, 23, 24, 25, 26, 27, 28, 29, 30, 31, 32, 33, 34, 35, 36, 37, 38, 39, 40, 41, 42, 43, 44, 45, 46, 47, 48, 49, 50, 51, 52, 53, 54, 55, 56, 57, 58, 59, 60, 61, 62, 63, 64, 65, 66, 67, 68, 69, 70, 71, 72, 73, 74, 75, 76, 77, 78, 79, 80, 81, 82, 83, 84, 85, 86, 87, 88, 89, 90, 91, 92, 93, 94, 95, 96, 97, 98, 99, 100, 101, 102, 103, 104, 105, 106, 107, 108, 109, 110, 111, 112, 113, 114, 115, 116, 117, 118, 119, 120, 121, 122, 123, 124, 125, 126, 127, 128, 129, 130, 131, 132, 133, 134, 135, 136, 137, 138, 139, 140, 141, 142, 143, 144, 145, 146, 147, 148, 149, 150, 151, 152, 153, 154, 155, 156, 157, 158, 159, 160, 161, 162, 163, 164, 165, 166, 167, 168, 169, 177, 178, 179, 180, 181, 182, 183, 184, 185, 186, 187, 188, 189, 190, 191, 192, 193, 194, 195, 196, 197, 198, 199, 200, 201, 202, 203, 204, 205, 206, 207, 208, 209, 210, 211, 212, 213, 214, 215, 216, 217, 218] (by decide +kernel) (by decide +kernel)
set_option maxRecDepth 20000 in
theorem gX12_majority_X11_act : GoodIn wsX12_majority (wsV RX12 40 RX11 yX11_act wsX11_act) := goodIn_app (goodIn_of _ (by decide +kernel)) ggX12_majority_X11_act
theorem dX12_majority_0 : decode cX12_majority 0 = .ok (.aload_n 0, 1) := by decide +kernel
theorem dX12_majority_1 : decode cX12_majority 1 = .ok (.getfield 16, 3) := by decide +kernel
theorem dX12_majority_4 : decode cX12_majority 4 = .ok (.iconst 5, 1) := by decide +kernel
theorem dX12_majority_5 : decode cX12_majority 5 = .ok (.iload_n 1, 1) := by decide +kernel
theorem dX12_majority_6 : decode cX12_majority 6 = .ok (.iload_n 2, 1) := by decide +kernel
theorem dX12_majority_7 : decode cX12_majority 7 = .ok (.iconst 0, 1) := by decide +kernel
theorem dX12_majority_8 : decode cX12_majority 8 = .ok (.iconst 0, 1) := by decide +kernel
theorem dX12_majority_9 : decode cX12_majority 9 = .ok (.invokevirtual 40, 3) := by decide +kernel
theorem dX12_majority_12 : decode cX12_majority 12 = .ok (.ireturn, 1) := by decide +kernel
set_option maxRecDepth 20000 in
theorem ggX12_limit_X11_act : GoodIn wsX12_limit wsX11_act := goodIn_r _ [6, 7, 8, 9, 10, 11, 12, 5, 13, 14, 15, 16, 17, 18, 19, 20, 21, 22, 23, 24, 25, 26, 27, 28, 29, 30, 31, 32, 33, 34, 35, 36, 37, 38, 39, 40, 41, 42, 43, 44, 45, 46, 47, 48, 49, 50, 51, 52, 53, 54, 55, 56, 57, 58, 59, 60, 61, 62, 63, 64, 65, 66, 67, 68, 69, 70, 71, 72, 73, 74, 75, 76, 77, 78, 79, 80, 81, 82, 83, 84, 85, 86, 87, 88, 89, 90, 91, 92, 93, 94, 95, 96, 97, 98, 99, 100, 101, 102, 103, 104, 105, 106, 107, 108, 109, 110, 111, 112, 113, 114, 115, 116, 117, 118, 119, 120, 121, 122, 123, 124, 125, 126, 127, 128, 129, 130, 131, 132, 133, 134, 135, 136, 137, 138, 139, 140, 141, 142, 143, 144, 145, 146, 147, 148, 149, 150, 151, 152, 153, 154, 155, 156, 157, 158, 159, 160, 161, 162, 163, 164, 165, 166, 167, 168, 169, 177, 178, 179, 180, 181, 182, 183, 184, 185, 186, 187, 188, 189, 190, 191, 192, 193, 194, 195, 196, 197, 198, 199, 200, 201, 202, 203, 204, 205, 206, 207, 208, 209, 210, 211, 212, 213, 214, 215, 216, 217, 218] (by decide +kernel) (by decide +kernel)
set_option maxRecDepth 20000 in
theorem gX12_limit_X11_act : GoodIn wsX12_limit (wsV RX12 40 RX11 yX11_act wsX11_act) := goodIn_app (goodIn_of _ (by decide +kernel)) ggX12_limit_X11_act
theorem dX12_limit_0 : decode cX12_limit 0 = .ok (.aload_n 0, 1) := by decide +kernel
theorem dX12_limit_1 : decode cX12_limit 1 = .ok (.getfield 16, 3) := by decide +kernel
theorem dX12_limit_4 : decode cX12_limit 4 = .ok (.bipush 6, 2) := by decide +kernel
theorem dX12_limit_6 : decode cX12_limit 6 = .ok (.iload_n 1, 1) := by decide +kernel
theorem dX12_limit_7 : decode cX12_limit 7 = .ok (.iconst 0, 1) := by decide +kernel
theorem dX12_limit_8 : decode cX12_limit 8 = .ok (.iconst 0, 1) := by decide +kernel
theorem dX12_limit_9 : decode cX12_limit 9 = .ok (.iconst 0, 1) := by decide +kernel
theorem dX12_limit_10 : decode cX12_limit 10 = .ok (.invokevirtual 40, 3) := by decide +kernel
theorem dX12_limit_13 : decode cX12_limit 13 = .ok (.ireturn, 1) := by decide +kernel
set_option maxRecDepth 20000 in
theorem ggX12_floor_X11_act : GoodIn wsX12_floor wsX11_act := goodIn_r _ [6, 7, 8, 9, 10, 11, 12, 5, 13, 14, 15, 16, 17, 18, 19, 20, 21, 22, 23, 24, 25, 26, 27, 28, 29, 30, 31, 32, 33, 34, 35, 36, 37, 38, 39, 40, 41, 42, 43, 44, 45, 46, 47, 48, 49, 50, 51, 52, 53, 54, 55, 56, 57, 58, 59, 60, 61, 62, 63, 64, 65, 66, 67, 68, 69, 70, 71, 72, 73, 74, 75, 76, 77, 78, 79, 80, 81, 82, 83, 84, 85, 86, 87, 88, 89, 90, 91, 92, 93, 94, 95, 96, 97, 98, 99, 100, 101, 102, 103, 104, 105, 106, 107, 108, 109, 110, 111, 112, 113, 114, 115, 116, 117, 118, 119, 120, 121, 122, 123, 124, 125, 126, 127, 128, 129, 130, 131, 132, 133, 134, 135, 136, 137, 138, 139, 140, 141, 142, 143, 144, 145, 146, 147, 148, 149, 150, 151, 152, 153, 154, 155, 156, 157, 158, 159, 160, 161, 162, 163, 164, 165, 166, 167, 168, 169, 177, 178, 179, 180, 181, 182, 183, 184, 185, 186, 187, 188, 189, 190, 191, 192, 193, 194, 195, 196, 197, 198, 199, 200, 201, 202, 203, 204, 205, 206, 207, 208, 209, 210, 211, 212, 213, 214, 215, 216, 217, 218] (by decide +kernel) (by decide +kernel)
set_option maxRecDepth 20000 in
theorem gX12_floor_X11_act : GoodIn wsX12_floor (wsV RX12 40 RX11 yX11_act wsX11_act) := goodIn_app (goodIn_of _ (by decide +kernel)) ggX12_floor_X11_act
theorem dX12_floor_0 : decode cX12_floor 0 = .ok (.aload_n 0, 1) := by decide +kernel
theorem dX12_floor_1 : decode cX12_floor 1 = .ok (.getfield 16, 3) := by decide +kernel
theorem dX12_floor_4 : decode cX12_floor 4 = .ok (.bipush 7, 2) := by decide +kernel
theorem dX12_floor_6 : decode cX12_floor 6 = .ok (.iload_n 1, 1) := by decide +kernel
theorem dX12_floor_7 : decode cX12_floor 7 = .ok (.iconst 0, 1) := by decide +kernel
theorem dX12_floor_8 : decode cX12_floor 8 = .ok (.iconst 0, 1) := by decide +kernel
theorem dX12_floor_9 : decode cX12_floor 9 = .ok (.iconst 0, 1) := by decide +kernel
theorem dX12_floor_10 : decode cX12_floor 10 = .ok (.invokevirtual 40, 3) := by decide +kernel
theorem dX12_floor_13 : decode cX12_floor 13 = .ok (.ireturn, 1) := by decide +kernel
set_option maxRecDepth 20000 in
theorem ggX12_cede_X11_act : GoodIn wsX12_cede wsX11_act := goodIn_r _ [6, 7, 8, 9, 10, 11, 12, 5, 13, 14, 15, 16, 17, 18, 19, 20, 21, 22, 23, 24, 25, 26, 27, 28, 29, 30, 31, 32, 33, 34, 35, 36, 37, 38, 39, 40, 41, 42, 43, 44, 45, 46, 47, 48, 49, 50, 51, 52, 53, 54, 55, 56, 57, 58, 59, 60, 61, 62, 63, 64, 65, 66, 67, 68, 69, 70, 71, 72, 73, 74, 75, 76, 77, 78, 79, 80, 81, 82, 83, 84, 85, 86, 87, 88, 89, 90, 91, 92, 93, 94, 95, 96, 97, 98, 99, 100, 101, 102, 103, 104, 105, 106, 107, 108, 109, 110, 111, 112, 113, 114, 115, 116, 117, 118, 119, 120, 121, 122, 123, 124, 125, 126, 127, 128, 129, 130, 131, 132, 133, 134, 135, 136, 137, 138, 139, 140, 141, 142, 143, 144, 145, 146, 147, 148, 149, 150, 151, 152, 153, 154, 155, 156, 157, 158, 159, 160, 161, 162, 163, 164, 165, 166, 167, 168, 169, 177, 178, 179, 180, 181, 182, 183, 184, 185, 186, 187, 188, 189, 190, 191, 192, 193, 194, 195, 196, 197, 198, 199, 200, 201, 202, 203, 204, 205, 206, 207, 208, 209, 210, 211, 212, 213, 214, 215, 216, 217, 218] (by decide +kernel) (by decide +kernel)
set_option maxRecDepth 20000 in
theorem gX12_cede_X11_act : GoodIn wsX12_cede (wsV RX12 40 RX11 yX11_act wsX11_act) := goodIn_app (goodIn_of _ (by decide +kernel)) ggX12_cede_X11_act
theorem dX12_cede_0 : decode cX12_cede 0 = .ok (.aload_n 0, 1) := by decide +kernel
theorem dX12_cede_1 : decode cX12_cede 1 = .ok (.getfield 16, 3) := by decide +kernel
theorem dX12_cede_4 : decode cX12_cede 4 = .ok (.bipush 8, 2) := by decide +kernel
theorem dX12_cede_6 : decode cX12_cede 6 = .ok (.iconst 0, 1) := by decide +kernel
theorem dX12_cede_7 : decode cX12_cede 7 = .ok (.iconst 0, 1) := by decide +kernel
theorem dX12_cede_8 : decode cX12_cede 8 = .ok (.iconst 0, 1) := by decide +kernel
theorem dX12_cede_9 : decode cX12_cede 9 = .ok (.iconst 0, 1) := by decide +kernel
theorem dX12_cede_10 : decode cX12_cede 10 = .ok (.invokevirtual 40, 3) := by decide +kernel
theorem dX12_cede_13 : decode cX12_cede 13 = .ok (.ireturn, 1) := by decide +kernel
set_option maxRecDepth 20000 in
theorem ggX12_debate_X11_act : GoodIn wsX12_debate wsX11_act := goodIn_r _ [6, 7, 8, 9, 10, 11, 12, 5, 13, 14, 15, 16, 17, 18, 19, 20, 21, 22, 23, 24, 25, 26, 27, 28, 29, 30, 31, 32, 33, 34, 35, 36, 37, 38, 39, 40, 41, 42, 43, 44, 45, 46, 47, 48, 49, 50, 51, 52, 53, 54, 55, 56, 57, 58, 59, 60, 61, 62, 63, 64, 65, 66, 67, 68, 69, 70, 71, 72, 73, 74, 75, 76, 77, 78, 79, 80, 81, 82, 83, 84, 85, 86, 87, 88, 89, 90, 91, 92, 93, 94, 95, 96, 97, 98, 99, 100, 101, 102, 103, 104, 105, 106, 107, 108, 109, 110, 111, 112, 113, 114, 115, 116, 117, 118, 119, 120, 121, 122, 123, 124, 125, 126, 127, 128, 129, 130, 131, 132, 133, 134, 135, 136, 137, 138, 139, 140, 141, 142, 143, 144, 145, 146, 147, 148, 149, 150, 151, 152, 153, 154, 155, 156, 157, 158, 159, 160, 161, 162, 163, 164, 165, 166, 167, 168, 169, 177, 178, 179, 180, 181, 182, 183, 184, 185, 186, 187, 188, 189, 190, 191, 192, 193, 194, 195, 196, 197, 198, 199, 200, 201, 202, 203, 204, 205, 206, 207, 208, 209, 210, 211, 212, 213, 214, 215, 216, 217, 218] (by decide +kernel) (by decide +kernel)
set_option maxRecDepth 20000 in
theorem gX12_debate_X11_act : GoodIn wsX12_debate (wsV RX12 40 RX11 yX11_act wsX11_act) := goodIn_app (goodIn_of _ (by decide +kernel)) ggX12_debate_X11_act
theorem dX12_debate_0 : decode cX12_debate 0 = .ok (.aload_n 0, 1) := by decide +kernel
theorem dX12_debate_1 : decode cX12_debate 1 = .ok (.getfield 16, 3) := by decide +kernel
theorem dX12_debate_4 : decode cX12_debate 4 = .ok (.bipush 9, 2) := by decide +kernel
theorem dX12_debate_6 : decode cX12_debate 6 = .ok (.iload_n 1, 1) := by decide +kernel
theorem dX12_debate_7 : decode cX12_debate 7 = .ok (.iconst 0, 1) := by decide +kernel
theorem dX12_debate_8 : decode cX12_debate 8 = .ok (.iconst 0, 1) := by decide +kernel
theorem dX12_debate_9 : decode cX12_debate 9 = .ok (.iconst 0, 1) := by decide +kernel
theorem dX12_debate_10 : decode cX12_debate 10 = .ok (.invokevirtual 40, 3) := by decide +kernel
theorem dX12_debate_13 : decode cX12_debate 13 = .ok (.ireturn, 1) := by decide +kernel
set_option maxRecDepth 20000 in
theorem ggX12_draft_X11_act : GoodIn wsX12_draft wsX11_act := goodIn_r _ [6, 7, 8, 9, 10, 11, 12, 5, 13, 14, 15, 16, 17, 18, 19, 20, 21, 22, 23, 24, 25, 26, 27, 28, 29, 30, 31, 32, 33, 34, 35, 36, 37, 38, 39, 40, 41, 42, 43, 44, 45, 46, 47, 48, 49, 50, 51, 52, 53, 54, 55, 56, 57, 58, 59, 60, 61, 62, 63, 64, 65, 66, 67, 68, 69, 70, 71, 72, 73, 74, 75, 76, 77, 78, 79, 80, 81, 82, 83, 84, 85, 86, 87, 88, 89, 90, 91, 92, 93, 94, 95, 96, 97, 98, 99, 100, 101, 102, 103, 104, 105, 106, 107, 108, 109, 110, 111, 112, 113, 114, 115, 116, 117, 118, 119, 120, 121, 122, 123, 124, 125, 126, 127, 128, 129, 130, 131, 132, 133, 134, 135, 136, 137, 138, 139, 140, 141, 142, 143, 144, 145, 146, 147, 148, 149, 150, 151, 152, 153, 154, 155, 156, 157, 158, 159, 160, 161, 162, 163, 164, 165, 166, 167, 168, 169, 177, 178, 179, 180, 181, 182, 183, 184, 185, 186, 187, 188, 189, 190, 191, 192, 193, 194, 195, 196, 197, 198, 199, 200, 201, 202, 203, 204, 205, 206, 207, 208, 209, 210, 211, 212, 213, 214, 215, 216, 217, 218] (by decide +kernel) (by decide +kernel)
set_option maxRecDepth 20000 in
theorem gX12_draft_X11_act : GoodIn wsX12_draft (wsV RX12 40 RX11 yX11_act wsX11_act) := goodIn_app (goodIn_of _ (by decide +kernel)) ggX12_draft_X11_act
theorem dX12_draft_0 : decode cX12_draft 0 = .ok (.aload_n 0, 1) := by decide +kernel
theorem dX12_draft_1 : decode cX12_draft 1 = .ok (.getfield 16, 3) := by decide +kernel
theorem dX12_draft_4 : decode cX12_draft 4 = .ok (.bipush 10, 2) := by decide +kernel
theorem dX12_draft_6 : decode cX12_draft 6 = .ok (.iload_n 1, 1) := by decide +kernel
theorem dX12_draft_7 : decode cX12_draft 7 = .ok (.iconst 0, 1) := by decide +kernel
theorem dX12_draft_8 : decode cX12_draft 8 = .ok (.iconst 0, 1) := by decide +kernel
theorem dX12_draft_9 : decode cX12_draft 9 = .ok (.iconst 0, 1) := by decide +kernel
theorem dX12_draft_10 : decode cX12_draft 10 = .ok (.invokevirtual 40, 3) := by decide +kernel
theorem dX12_draft_13 : decode cX12_draft 13 = .ok (.ireturn, 1) := by decide +kernel
set_option maxRecDepth 20000 in
theorem ggX12_span_X11_act : GoodIn wsX12_span wsX11_act := goodIn_r _ [6, 7, 8, 9, 10, 11, 12, 5, 13, 14, 15, 16, 17, 18, 19, 20, 21, 22, 23, 24, 25, 26, 27, 28, 29, 30, 31, 32, 33, 34, 35, 36, 37, 38, 39, 40, 41, 42, 43, 44, 45, 46, 47, 48, 49, 50, 51, 52, 53, 54, 55, 56, 57, 58, 59, 60, 61, 62, 63, 64, 65, 66, 67, 68, 69, 70, 71, 72, 73, 74, 75, 76, 77, 78, 79, 80, 81, 82, 83, 84, 85, 86, 87, 88, 89, 90, 91, 92, 93, 94, 95, 96, 97, 98, 99, 100, 101, 102, 103, 104, 105, 106, 107, 108, 109, 110, 111, 112, 113, 114, 115, 116, 117, 118, 119, 120, 121, 122, 123, 124, 125, 126, 127, 128, 129, 130, 131, 132, 133, 134, 135, 136, 137, 138, 139, 140, 141, 142, 143, 144, 145, 146, 147, 148, 149, 150, 151, 152, 153, 154, 155, 156, 157, 158, 159, 160, 161, 162, 163, 164, 165, 166, 167, 168, 169, 177, 178, 179, 180, 181, 182, 183, 184, 185, 186, 187, 188, 189, 190, 191, 192, 193, 194, 195, 196, 197, 198, 199, 200, 201, 202, 203, 204, 205, 206, 207, 208, 209, 210, 211, 212, 213, 214, 215, 216, 217, 218] (by decide +kernel) (by decide +kernel)
set_option maxRecDepth 20000 in
theorem gX12_span_X11_act : GoodIn wsX12_span (wsV RX12 40 RX11 yX11_act wsX11_act) := goodIn_app (goodIn_of _ (by decide +kernel)) ggX12_span_X11_act
theorem dX12_span_0 : decode cX12_span 0 = .ok (.aload_n 0, 1) := by decide +kernel
theorem dX12_span_1 : decode cX12_span 1 = .ok (.getfield 16, 3) := by decide +kernel
theorem dX12_span_4 : decode cX12_span 4 = .ok (.bipush 11, 2) := by decide +kernel
theorem dX12_span_6 : decode cX12_span 6 = .ok (.iload_n 1, 1) := by decide +kernel
theorem dX12_span_7 : decode cX12_span 7 = .ok (.iload_n 2, 1) := by decide +kernel
theorem dX12_span_8 : decode cX12_span 8 = .ok (.iconst 0, 1) := by decide +kernel
theorem dX12_span_9 : decode cX12_span 9 = .ok (.iconst 0, 1) := by decide +kernel
theorem dX12_span_10 : decode cX12_span 10 = .ok (.invokevirtual 40, 3) := by decide +kernel
theorem dX12_span_13 : decode cX12_span 13 = .ok (.ireturn, 1) := by decide +kernel
set_option maxRecDepth 20000 in
theorem ggX12_word_X11_act : GoodIn wsX12_word wsX11_act := goodIn_r _ [6, 7, 8, 9, 10, 11, 12, 5, 13, 14, 15, 16, 17, 18, 19, 20, 21, 22, 23, 24, 25, 26, 27, 28, 29, 30, 31, 32, 33, 34, 35, 36, 37, 38, 39, 40, 41, 42, 43, 44, 45, 46, 47, 48, 49, 50, 51, 52, 53, 54, 55, 56, 57, 58, 59, 60, 61, 62, 63, 64, 65, 66, 67, 68, 69, 70, 71, 72, 73, 74, 75, 76, 77, 78, 79, 80, 81, 82, 83, 84, 85, 86, 87, 88, 89, 90, 91, 92, 93, 94, 95, 96, 97, 98, 99, 100, 101, 102, 103, 104, 105, 106, 107, 108, 109, 110, 111, 112, 113, 114, 115, 116, 117, 118, 119, 120, 121, 122, 123, 124, 125, 126, 127, 128, 129, 130, 131, 132, 133, 134, 135, 136, 137, 138, 139, 140, 141, 142, 143, 144, 145, 146, 147, 148, 149, 150, 151, 152, 153, 154, 155, 156, 157, 158, 159, 160, 161, 162, 163, 164, 165, 166, 167, 168, 169, 177, 178, 179, 180, 181, 182, 183, 184, 185, 186, 187, 188, 189, 190, 191, 192, 193, 194, 195, 196, 197, 198, 199, 200, 201, 202, 203, 204, 205, 206, 207, 208, 209, 210, 211, 212, 213, 214, 215, 216, 217, 218] (by decide +kernel) (by decide +kernel)
set_option maxRecDepth 20000 in
theorem gX12_word_X11_act : GoodIn wsX12_word (wsV RX12 40 RX11 yX11_act wsX11_act) := goodIn_app (goodIn_of _ (by decide +kernel)) ggX12_word_X11_act
theorem dX12_word_0 : decode cX12_word 0 = .ok (.aload_n 0, 1) := by decide +kernel
theorem dX12_word_1 : decode cX12_word 1 = .ok (.getfield 16, 3) := by decide +kernel
theorem dX12_word_4 : decode cX12_word 4 = .ok (.bipush 12, 2) := by decide +kernel
theorem dX12_word_6 : decode cX12_word 6 = .ok (.iload_n 1, 1) := by decide +kernel
theorem dX12_word_7 : decode cX12_word 7 = .ok (.iload_n 2, 1) := by decide +kernel
theorem dX12_word_8 : decode cX12_word 8 = .ok (.iload_n 3, 1) := by decide +kernel
theorem dX12_word_9 : decode cX12_word 9 = .ok (.iload 4, 2) := by decide +kernel
theorem dX12_word_11 : decode cX12_word 11 = .ok (.invokevirtual 40, 3) := by decide +kernel
theorem dX12_word_14 : decode cX12_word 14 = .ok (.ireturn, 1) := by decide +kernel
set_option maxRecDepth 20000 in
theorem ggX12_lay_X11_act : GoodIn wsX12_lay wsX11_act := goodIn_r _ [6, 7, 8, 9, 10, 11, 12, 5, 13, 14, 15, 16, 17, 18, 19, 20, 21, 22, 23, 24, 25, 26, 27, 28, 29, 30, 31, 32, 33, 34, 35, 36, 37, 38, 39, 40, 41, 42, 43, 44, 45, 46, 47, 48, 49, 50, 51, 52, 53, 54, 55, 56, 57, 58, 59, 60, 61, 62, 63, 64, 65, 66, 67, 68, 69, 70, 71, 72, 73, 74, 75, 76, 77, 78, 79, 80, 81, 82, 83, 84, 85, 86, 87, 88, 89, 90, 91, 92, 93, 94, 95, 96, 97, 98, 99, 100, 101, 102, 103, 104, 105, 106, 107, 108, 109, 110, 111, 112, 113, 114, 115, 116, 117, 118, 119, 120, 121, 122, 123, 124, 125, 126, 127, 128, 129, 130, 131, 132, 133, 134, 135, 136, 137, 138, 139, 140, 141, 142, 143, 144, 145, 146, 147, 148, 149, 150, 151, 152, 153, 154, 155, 156, 157, 158, 159, 160, 161, 162, 163, 164, 165, 166, 167, 168, 169, 177, 178, 179, 180, 181, 182, 183, 184, 185, 186, 187, 188, 189, 190, 191, 192, 193, 194, 195, 196, 197, 198, 199, 200, 201, 202, 203, 204, 205, 206, 207, 208, 209, 210, 211, 212, 213, 214, 215, 216, 217, 218] (by decide +kernel) (by decide +kernel)
set_option maxRecDepth 20000 in
theorem gX12_lay_X11_act : GoodIn wsX12_lay (wsV RX12 40 RX11 yX11_act wsX11_act) := goodIn_app (goodIn_of _ (by decide +kernel)) ggX12_lay_X11_act
theorem dX12_lay_0 : decode cX12_lay 0 = .ok (.aload_n 0, 1) := by decide +kernel
theorem dX12_lay_1 : decode cX12_lay 1 = .ok (.getfield 16, 3) := by decide +kernel
theorem dX12_lay_4 : decode cX12_lay 4 = .ok (.bipush 13, 2) := by decide +kernel
theorem dX12_lay_6 : decode cX12_lay 6 = .ok (.iload_n 1, 1) := by decide +kernel
theorem dX12_lay_7 : decode cX12_lay 7 = .ok (.iconst 0, 1) := by decide +kernel
theorem dX12_lay_8 : decode cX12_lay 8 = .ok (.iconst 0, 1) := by decide +kernel
theorem dX12_lay_9 : decode cX12_lay 9 = .ok (.iconst 0, 1) := by decide +kernel
theorem dX12_lay_10 : decode cX12_lay 10 = .ok (.invokevirtual 40, 3) := by decide +kernel
theorem dX12_lay_13 : decode cX12_lay 13 = .ok (.ireturn, 1) := by decide +kernel
set_option maxRecDepth 20000 in
theorem ggX12_take_X11_act : GoodIn wsX12_take wsX11_act := goodIn_r _ [6, 7, 8, 9, 10, 11, 12, 5, 13, 14, 15, 16, 17, 18, 19, 20, 21, 22, 23, 24, 25, 26, 27, 28, 29, 30, 31, 32, 33, 34, 35, 36, 37, 38, 39, 40, 41, 42, 43, 44, 45, 46, 47, 48, 49, 50, 51, 52, 53, 54, 55, 56, 57, 58, 59, 60, 61, 62, 63, 64, 65, 66, 67, 68, 69, 70, 71, 72, 73, 74, 75, 76, 77, 78, 79, 80, 81, 82, 83, 84, 85, 86, 87, 88, 89, 90, 91, 92, 93, 94, 95, 96, 97, 98, 99, 100, 101, 102, 103, 104, 105, 106, 107, 108, 109, 110, 111, 112, 113, 114, 115, 116, 117, 118, 119, 120, 121, 122, 123, 124, 125, 126, 127, 128, 129, 130, 131, 132, 133, 134, 135, 136, 137, 138, 139, 140, 141, 142, 143, 144, 145, 146, 147, 148, 149, 150, 151, 152, 153, 154, 155, 156, 157, 158, 159, 160, 161, 162, 163, 164, 165, 166, 167, 168, 169, 177, 178, 179, 180, 181, 182, 183, 184, 185, 186, 187, 188, 189, 190, 191, 192, 193, 194, 195, 196, 197, 198, 199, 200, 201, 202, 203, 204, 205, 206, 207, 208, 209, 210, 211, 212, 213, 214, 215, 216, 217, 218] (by decide +kernel) (by decide +kernel)
set_option maxRecDepth 20000 in
theorem gX12_take_X11_act : GoodIn wsX12_take (wsV RX12 40 RX11 yX11_act wsX11_act) := goodIn_app (goodIn_of _ (by decide +kernel)) ggX12_take_X11_act
theorem dX12_take_0 : decode cX12_take 0 = .ok (.aload_n 0, 1) := by decide +kernel
theorem dX12_take_1 : decode cX12_take 1 = .ok (.getfield 16, 3) := by decide +kernel
theorem dX12_take_4 : decode cX12_take 4 = .ok (.bipush 14, 2) := by decide +kernel
theorem dX12_take_6 : decode cX12_take 6 = .ok (.iload_n 1, 1) := by decide +kernel
theorem dX12_take_7 : decode cX12_take 7 = .ok (.iconst 0, 1) := by decide +kernel
theorem dX12_take_8 : decode cX12_take 8 = .ok (.iconst 0, 1) := by decide +kernel
theorem dX12_take_9 : decode cX12_take 9 = .ok (.iconst 0, 1) := by decide +kernel
theorem dX12_take_10 : decode cX12_take 10 = .ok (.invokevirtual 40, 3) := by decide +kernel
theorem dX12_take_13 : decode cX12_take 13 = .ok (.ireturn, 1) := by decide +kernel
set_option maxRecDepth 20000 in
theorem ggX12_move_X11_act : GoodIn wsX12_move wsX11_act := goodIn_r _ [6, 7, 8, 9, 10, 11, 12, 5, 13, 14, 15, 16, 17, 18, 19, 20, 21, 22, 23, 24, 25, 26, 27, 28, 29, 30, 31, 32, 33, 34, 35, 36, 37, 38, 39, 40, 41, 42, 43, 44, 45, 46, 47, 48, 49, 50, 51, 52, 53, 54, 55, 56, 57, 58, 59, 60, 61, 62, 63, 64, 65, 66, 67, 68, 69, 70, 71, 72, 73, 74, 75, 76, 77, 78, 79, 80, 81, 82, 83, 84, 85, 86, 87, 88, 89, 90, 91, 92, 93, 94, 95, 96, 97, 98, 99, 100, 101, 102, 103, 104, 105, 106, 107, 108, 109, 110, 111, 112, 113, 114, 115, 116, 117, 118, 119, 120, 121, 122, 123, 124, 125, 126, 127, 128, 129, 130, 131, 132, 133, 134, 135, 136, 137, 138, 139, 140, 141, 142, 143, 144, 145, 146, 147, 148, 149, 150, 151, 152, 153, 154, 155, 156, 157, 158, 159, 160, 161, 162, 163, 164, 165, 166, 167, 168, 169, 177, 178, 179, 180, 181, 182, 183, 184, 185, 186, 187, 188, 189, 190, 191, 192, 193, 194, 195, 196, 197, 198, 199, 200, 201, 202, 203, 204, 205, 206, 207, 208, 209, 210, 211, 212, 213, 214, 215, 216, 217, 218] (by decide +kernel) (by decide +kernel)
set_option maxRecDepth 20000 in
theorem gX12_move_X11_act : GoodIn wsX12_move (wsV RX12 40 RX11 yX11_act wsX11_act) := goodIn_app (goodIn_of _ (by decide +kernel)) ggX12_move_X11_act
theorem dX12_move_0 : decode cX12_move 0 = .ok (.aload_n 0, 1) := by decide +kernel
theorem dX12_move_1 : decode cX12_move 1 = .ok (.getfield 16, 3) := by decide +kernel
theorem dX12_move_4 : decode cX12_move 4 = .ok (.bipush 15, 2) := by decide +kernel
theorem dX12_move_6 : decode cX12_move 6 = .ok (.iload_n 1, 1) := by decide +kernel
theorem dX12_move_7 : decode cX12_move 7 = .ok (.iconst 0, 1) := by decide +kernel
theorem dX12_move_8 : decode cX12_move 8 = .ok (.iconst 0, 1) := by decide +kernel
theorem dX12_move_9 : decode cX12_move 9 = .ok (.iconst 0, 1) := by decide +kernel
theorem dX12_move_10 : decode cX12_move 10 = .ok (.invokevirtual 40, 3) := by decide +kernel
theorem dX12_move_13 : decode cX12_move 13 = .ok (.ireturn, 1) := by decide +kernel
set_option maxRecDepth 20000 in
theorem ggX12_second_X11_act : GoodIn wsX12_second wsX11_act := goodIn_r _ [6, 7, 8, 9, 10, 11, 12, 5, 13, 14, 15, 16, 17, 18, 19, 20, 21, 22, 23, 24, 25, 26, 27, 28, 29, 30, 31, 32, 33, 34, 35, 36, 37, 38, 39, 40, 41, 42, 43, 44, 45, 46, 47, 48, 49, 50, 51, 52, 53, 54, 55, 56, 57, 58, 59, 60, 61, 62, 63, 64, 65, 66, 67, 68, 69, 70, 71, 72, 73, 74, 75, 76, 77, 78, 79, 80, 81, 82, 83, 84, 85, 86, 87, 88, 89, 90, 91, 92, 93, 94, 95, 96, 97, 98, 99, 100, 101, 102, 103, 104, 105, 106, 107, 108, 109, 110, 111, 112, 113, 114, 115, 116, 117, 118, 119, 120, 121, 122, 123, 124, 125, 126, 127, 128, 129, 130, 131, 132, 133, 134, 135, 136, 137, 138, 139, 140, 141, 142, 143, 144, 145, 146, 147, 148, 149, 150, 151, 152, 153, 154, 155, 156, 157, 158, 159, 160, 161, 162, 163, 164, 165, 166, 167, 168, 169, 177, 178, 179, 180, 181, 182, 183, 184, 185, 186, 187, 188, 189, 190, 191, 192, 193, 194, 195, 196, 197, 198, 199, 200, 201, 202, 203, 204, 205, 206, 207, 208, 209, 210, 211, 212, 213, 214, 215, 216, 217, 218] (by decide +kernel) (by decide +kernel)
set_option maxRecDepth 20000 in
theorem gX12_second_X11_act : GoodIn wsX12_second (wsV RX12 40 RX11 yX11_act wsX11_act) := goodIn_app (goodIn_of _ (by decide +kernel)) ggX12_second_X11_act
theorem dX12_second_0 : decode cX12_second 0 = .ok (.aload_n 0, 1) := by decide +kernel
theorem dX12_second_1 : decode cX12_second 1 = .ok (.getfield 16, 3) := by decide +kernel
theorem dX12_second_4 : decode cX12_second 4 = .ok (.bipush 16, 2) := by decide +kernel
theorem dX12_second_6 : decode cX12_second 6 = .ok (.iload_n 1, 1) := by decide +kernel
theorem dX12_second_7 : decode cX12_second 7 = .ok (.iconst 0, 1) := by decide +kernel
theorem dX12_second_8 : decode cX12_second 8 = .ok (.iconst 0, 1) := by decide +kernel
theorem dX12_second_9 : decode cX12_second 9 = .ok (.iconst 0, 1) := by decide +kernel
theorem dX12_second_10 : decode cX12_second 10 = .ok (.invokevirtual 40, 3) := by decide +kernel
theorem dX12_second_13 : decode cX12_second 13 = .ok (.ireturn, 1) := by decide +kernel
set_option maxRecDepth 20000 in
theorem ggX12_vote_X11_act : GoodIn wsX12_vote wsX11_act := goodIn_r _ [6, 7, 8, 9, 10, 11, 12, 5, 13, 14, 15, 16, 17, 18, 19, 20, 21, 22, 23, 24, 25, 26, 27, 28, 29, 30, 31, 32, 33, 34, 35, 36, 37, 38, 39, 40, 41, 42, 43, 44, 45, 46, 47, 48, 49, 50, 51, 52, 53, 54, 55, 56, 57, 58, 59, 60, 61, 62, 63, 64, 65, 66, 67, 68, 69, 70, 71, 72, 73, 74, 75, 76, 77, 78, 79, 80, 81, 82, 83, 84, 85, 86, 87, 88, 89, 90, 91, 92, 93, 94, 95, 96, 97, 98, 99, 100, 101, 102, 103, 104, 105, 106, 107, 108, 109, 110, 111, 112, 113, 114, 115, 116, 117, 118, 119, 120, 121, 122, 123, 124, 125, 126, 127, 128, 129, 130, 131, 132, 133, 134, 135, 136, 137, 138, 139, 140, 141, 142, 143, 144, 145, 146, 147, 148, 149, 150, 151, 152, 153, 154, 155, 156, 157, 158, 159, 160, 161, 162, 163, 164, 165, 166, 167, 168, 169, 177, 178, 179, 180, 181, 182, 183, 184, 185, 186, 187, 188, 189, 190, 191, 192, 193, 194, 195, 196, 197, 198, 199, 200, 201, 202, 203, 204, 205, 206, 207, 208, 209, 210, 211, 212, 213, 214, 215, 216, 217, 218] (by decide +kernel) (by decide +kernel)
set_option maxRecDepth 20000 in
theorem gX12_vote_X11_act : GoodIn wsX12_vote (wsV RX12 40 RX11 yX11_act wsX11_act) := goodIn_app (goodIn_of _ (by decide +kernel)) ggX12_vote_X11_act
theorem dX12_vote_0 : decode cX12_vote 0 = .ok (.aload_n 0, 1) := by decide +kernel
theorem dX12_vote_1 : decode cX12_vote 1 = .ok (.getfield 16, 3) := by decide +kernel
theorem dX12_vote_4 : decode cX12_vote 4 = .ok (.bipush 17, 2) := by decide +kernel
theorem dX12_vote_6 : decode cX12_vote 6 = .ok (.iload_n 1, 1) := by decide +kernel
theorem dX12_vote_7 : decode cX12_vote 7 = .ok (.iload_n 2, 1) := by decide +kernel
theorem dX12_vote_8 : decode cX12_vote 8 = .ok (.iconst 0, 1) := by decide +kernel
theorem dX12_vote_9 : decode cX12_vote 9 = .ok (.iconst 0, 1) := by decide +kernel
theorem dX12_vote_10 : decode cX12_vote 10 = .ok (.invokevirtual 40, 3) := by decide +kernel
theorem dX12_vote_13 : decode cX12_vote 13 = .ok (.ireturn, 1) := by decide +kernel
set_option maxRecDepth 20000 in
theorem ggX12_withdraw_X11_act : GoodIn wsX12_withdraw wsX11_act := goodIn_r _ [6, 7, 8, 9, 10, 11, 12, 5, 13, 14, 15, 16, 17, 18, 19, 20, 21, 22, 23, 24, 25, 26, 27, 28, 29, 30, 31, 32, 33, 34, 35, 36, 37, 38, 39, 40, 41, 42, 43, 44, 45, 46, 47, 48, 49, 50, 51, 52, 53, 54, 55, 56, 57, 58, 59, 60, 61, 62, 63, 64, 65, 66, 67, 68, 69, 70, 71, 72, 73, 74, 75, 76, 77, 78, 79, 80, 81, 82, 83, 84, 85, 86, 87, 88, 89, 90, 91, 92, 93, 94, 95, 96, 97, 98, 99, 100, 101, 102, 103, 104, 105, 106, 107, 108, 109, 110, 111, 112, 113, 114, 115, 116, 117, 118, 119, 120, 121, 122, 123, 124, 125, 126, 127, 128, 129, 130, 131, 132, 133, 134, 135, 136, 137, 138, 139, 140, 141, 142, 143, 144, 145, 146, 147, 148, 149, 150, 151, 152, 153, 154, 155, 156, 157, 158, 159, 160, 161, 162, 163, 164, 165, 166, 167, 168, 169, 177, 178, 179, 180, 181, 182, 183, 184, 185, 186, 187, 188, 189, 190, 191, 192, 193, 194, 195, 196, 197, 198, 199, 200, 201, 202, 203, 204, 205, 206, 207, 208, 209, 210, 211, 212, 213, 214, 215, 216, 217, 218] (by decide +kernel) (by decide +kernel)
set_option maxRecDepth 20000 in
theorem gX12_withdraw_X11_act : GoodIn wsX12_withdraw (wsV RX12 40 RX11 yX11_act wsX11_act) := goodIn_app (goodIn_of _ (by decide +kernel)) ggX12_withdraw_X11_act
theorem dX12_withdraw_0 : decode cX12_withdraw 0 = .ok (.aload_n 0, 1) := by decide +kernel
theorem dX12_withdraw_1 : decode cX12_withdraw 1 = .ok (.getfield 16, 3) := by decide +kernel
theorem dX12_withdraw_4 : decode cX12_withdraw 4 = .ok (.bipush 18, 2) := by decide +kernel
theorem dX12_withdraw_6 : decode cX12_withdraw 6 = .ok (.iload_n 1, 1) := by decide +kernel
theorem dX12_withdraw_7 : decode cX12_withdraw 7 = .ok (.iconst 0, 1) := by decide +kernel
theorem dX12_withdraw_8 : decode cX12_withdraw 8 = .ok (.iconst 0, 1) := by decide +kernel
theorem dX12_withdraw_9 : decode cX12_withdraw 9 = .ok (.iconst 0, 1) := by decide +kernel
theorem dX12_withdraw_10 : decode cX12_withdraw 10 = .ok (.invokevirtual 40, 3) := by decide +kernel
theorem dX12_withdraw_13 : decode cX12_withdraw 13 = .ok (.ireturn, 1) := by decide +kernel
set_option maxRecDepth 20000 in
theorem ggX12_rule_X11_act : GoodIn wsX12_rule wsX11_act := goodIn_r _ [6, 7, 8, 9, 10, 11, 12, 5, 13, 14, 15, 16, 17, 18, 19, 20, 21, 22, 23, 24, 25, 26, 27, 28, 29, 30, 31, 32, 33, 34, 35, 36, 37, 38, 39, 40, 41, 42, 43, 44, 45, 46, 47, 48, 49, 50, 51, 52, 53, 54, 55, 56, 57, 58, 59, 60, 61, 62, 63, 64, 65, 66, 67, 68, 69, 70, 71, 72, 73, 74, 75, 76, 77, 78, 79, 80, 81, 82, 83, 84, 85, 86, 87, 88, 89, 90, 91, 92, 93, 94, 95, 96, 97, 98, 99, 100, 101, 102, 103, 104, 105, 106, 107, 108, 109, 110, 111, 112, 113, 114, 115, 116, 117, 118, 119, 120, 121, 122, 123, 124, 125, 126, 127, 128, 129, 130, 131, 132, 133, 134, 135, 136, 137, 138, 139, 140, 141, 142, 143, 144, 145, 146, 147, 148, 149, 150, 151, 152, 153, 154, 155, 156, 157, 158, 159, 160, 161, 162, 163, 164, 165, 166, 167, 168, 169, 177, 178, 179, 180, 181, 182, 183, 184, 185, 186, 187, 188, 189, 190, 191, 192, 193, 194, 195, 196, 197, 198, 199, 200, 201, 202, 203, 204, 205, 206, 207, 208, 209, 210, 211, 212, 213, 214, 215, 216, 217, 218] (by decide +kernel) (by decide +kernel)
set_option maxRecDepth 20000 in
theorem gX12_rule_X11_act : GoodIn wsX12_rule (wsV RX12 40 RX11 yX11_act wsX11_act) := goodIn_app (goodIn_of _ (by decide +kernel)) ggX12_rule_X11_act
theorem dX12_rule_0 : decode cX12_rule 0 = .ok (.aload_n 0, 1) := by decide +kernel
theorem dX12_rule_1 : decode cX12_rule 1 = .ok (.getfield 16, 3) := by decide +kernel
theorem dX12_rule_4 : decode cX12_rule 4 = .ok (.bipush 19, 2) := by decide +kernel
theorem dX12_rule_6 : decode cX12_rule 6 = .ok (.iconst 0, 1) := by decide +kernel
theorem dX12_rule_7 : decode cX12_rule 7 = .ok (.iconst 0, 1) := by decide +kernel
theorem dX12_rule_8 : decode cX12_rule 8 = .ok (.iconst 0, 1) := by decide +kernel
theorem dX12_rule_9 : decode cX12_rule 9 = .ok (.iconst 0, 1) := by decide +kernel
theorem dX12_rule_10 : decode cX12_rule 10 = .ok (.invokevirtual 40, 3) := by decide +kernel
theorem dX12_rule_13 : decode cX12_rule 13 = .ok (.ireturn, 1) := by decide +kernel
set_option maxRecDepth 20000 in
theorem ggX12_appeal_X11_act : GoodIn wsX12_appeal wsX11_act := goodIn_r _ [6, 7, 8, 9, 10, 11, 12, 5, 13, 14, 15, 16, 17, 18, 19, 20, 21, 22, 23, 24, 25, 26, 27, 28, 29, 30, 31, 32, 33, 34, 35, 36, 37, 38, 39, 40, 41, 42, 43, 44, 45, 46, 47, 48, 49, 50, 51, 52, 53, 54, 55, 56, 57, 58, 59, 60, 61, 62, 63, 64, 65, 66, 67, 68, 69, 70, 71, 72, 73, 74, 75, 76, 77, 78, 79, 80, 81, 82, 83, 84, 85, 86, 87, 88, 89, 90, 91, 92, 93, 94, 95, 96, 97, 98, 99, 100, 101, 102, 103, 104, 105, 106, 107, 108, 109, 110, 111, 112, 113, 114, 115, 116, 117, 118, 119, 120, 121, 122, 123, 124, 125, 126, 127, 128, 129, 130, 131, 132, 133, 134, 135, 136, 137, 138, 139, 140, 141, 142, 143, 144, 145, 146, 147, 148, 149, 150, 151, 152, 153, 154, 155, 156, 157, 158, 159, 160, 161, 162, 163, 164, 165, 166, 167, 168, 169, 177, 178, 179, 180, 181, 182, 183, 184, 185, 186, 187, 188, 189, 190, 191, 192, 193, 194, 195, 196, 197, 198, 199, 200, 201, 202, 203, 204, 205, 206, 207, 208, 209, 210, 211, 212, 213, 214, 215, 216, 217, 218] (by decide +kernel) (by decide +kernel)
set_option maxRecDepth 20000 in
theorem gX12_appeal_X11_act : GoodIn wsX12_appeal (wsV RX12 40 RX11 yX11_act wsX11_act) := goodIn_app (goodIn_of _ (by decide +kernel)) ggX12_appeal_X11_act
theorem dX12_appeal_0 : decode cX12_appeal 0 = .ok (.aload_n 0, 1) := by decide +kernel
theorem dX12_appeal_1 : decode cX12_appeal 1 = .ok (.getfield 16, 3) := by decide +kernel
theorem dX12_appeal_4 : decode cX12_appeal 4 = .ok (.bipush 20, 2) := by decide +kernel
theorem dX12_appeal_6 : decode cX12_appeal 6 = .ok (.iload_n 1, 1) := by decide +kernel
theorem dX12_appeal_7 : decode cX12_appeal 7 = .ok (.iconst 0, 1) := by decide +kernel
theorem dX12_appeal_8 : decode cX12_appeal 8 = .ok (.iconst 0, 1) := by decide +kernel
theorem dX12_appeal_9 : decode cX12_appeal 9 = .ok (.iconst 0, 1) := by decide +kernel
theorem dX12_appeal_10 : decode cX12_appeal 10 = .ok (.invokevirtual 40, 3) := by decide +kernel
theorem dX12_appeal_13 : decode cX12_appeal 13 = .ok (.ireturn, 1) := by decide +kernel
set_option maxRecDepth 20000 in
theorem ggX12_told_X11_act : GoodIn wsX12_told wsX11_act := goodIn_r _ [6, 7, 8, 9, 10, 11, 12, 5, 13, 14, 15, 16, 17, 18, 19, 20, 21, 22, 23, 24, 25, 26, 27, 28, 29, 30, 31, 32, 33, 34, 35, 36, 37, 38, 39, 40, 41, 42, 43, 44, 45, 46, 47, 48, 49, 50, 51, 52, 53, 54, 55, 56, 57, 58, 59, 60, 61, 62, 63, 64, 65, 66, 67, 68, 69, 70, 71, 72, 73, 74, 75, 76, 77, 78, 79, 80, 81, 82, 83, 84, 85, 86, 87, 88, 89, 90, 91, 92, 93, 94, 95, 96, 97, 98, 99, 100, 101, 102, 103, 104, 105, 106, 107, 108, 109, 110, 111, 112, 113, 114, 115, 116, 117, 118, 119, 120, 121, 122, 123, 124, 125, 126, 127, 128, 129, 130, 131, 132, 133, 134, 135, 136, 137, 138, 139, 140, 141, 142, 143, 144, 145, 146, 147, 148, 149, 150, 151, 152, 153, 154, 155, 156, 157, 158, 159, 160, 161, 162, 163, 164, 165, 166, 167, 168, 169, 177, 178, 179, 180, 181, 182, 183, 184, 185, 186, 187, 188, 189, 190, 191, 192, 193, 194, 195, 196, 197, 198, 199, 200, 201, 202, 203, 204, 205, 206, 207, 208, 209, 210, 211, 212, 213, 214, 215, 216, 217, 218] (by decide +kernel) (by decide +kernel)
set_option maxRecDepth 20000 in
theorem gX12_told_X11_act : GoodIn wsX12_told (wsV RX12 40 RX11 yX11_act wsX11_act) := goodIn_app (goodIn_of _ (by decide +kernel)) ggX12_told_X11_act
theorem dX12_told_0 : decode cX12_told 0 = .ok (.aload_n 0, 1) := by decide +kernel
theorem dX12_told_1 : decode cX12_told 1 = .ok (.getfield 16, 3) := by decide +kernel
theorem dX12_told_4 : decode cX12_told 4 = .ok (.bipush 21, 2) := by decide +kernel
theorem dX12_told_6 : decode cX12_told 6 = .ok (.iconst 0, 1) := by decide +kernel
theorem dX12_told_7 : decode cX12_told 7 = .ok (.iconst 0, 1) := by decide +kernel
theorem dX12_told_8 : decode cX12_told 8 = .ok (.iconst 0, 1) := by decide +kernel
theorem dX12_told_9 : decode cX12_told 9 = .ok (.iconst 0, 1) := by decide +kernel
theorem dX12_told_10 : decode cX12_told 10 = .ok (.invokevirtual 40, 3) := by decide +kernel
theorem dX12_told_13 : decode cX12_told 13 = .ok (.ireturn, 1) := by decide +kernel
set_option maxRecDepth 20000 in
theorem ggX12_adjourn_X11_act : GoodIn wsX12_adjourn wsX11_act := goodIn_r _ [6, 7, 8, 9, 10, 11, 12, 5, 13, 14, 15, 16, 17, 18, 19, 20, 21, 22, 23, 24, 25, 26, 27, 28, 29, 30, 31, 32, 33, 34, 35, 36, 37, 38, 39, 40, 41, 42, 43, 44, 45, 46, 47, 48, 49, 50, 51, 52, 53, 54, 55, 56, 57, 58, 59, 60, 61, 62, 63, 64, 65, 66, 67, 68, 69, 70, 71, 72, 73, 74, 75, 76, 77, 78, 79, 80, 81, 82, 83, 84, 85, 86, 87, 88, 89, 90, 91, 92, 93, 94, 95, 96, 97, 98, 99, 100, 101, 102, 103, 104, 105, 106, 107, 108, 109, 110, 111, 112, 113, 114, 115, 116, 117, 118, 119, 120, 121, 122, 123, 124, 125, 126, 127, 128, 129, 130, 131, 132, 133, 134, 135, 136, 137, 138, 139, 140, 141, 142, 143, 144, 145, 146, 147, 148, 149, 150, 151, 152, 153, 154, 155, 156, 157, 158, 159, 160, 161, 162, 163, 164, 165, 166, 167, 168, 169, 177, 178, 179, 180, 181, 182, 183, 184, 185, 186, 187, 188, 189, 190, 191, 192, 193, 194, 195, 196, 197, 198, 199, 200, 201, 202, 203, 204, 205, 206, 207, 208, 209, 210, 211, 212, 213, 214, 215, 216, 217, 218] (by decide +kernel) (by decide +kernel)
set_option maxRecDepth 20000 in
theorem gX12_adjourn_X11_act : GoodIn wsX12_adjourn (wsV RX12 40 RX11 yX11_act wsX11_act) := goodIn_app (goodIn_of _ (by decide +kernel)) ggX12_adjourn_X11_act
theorem dX12_adjourn_0 : decode cX12_adjourn 0 = .ok (.aload_n 0, 1) := by decide +kernel
theorem dX12_adjourn_1 : decode cX12_adjourn 1 = .ok (.getfield 16, 3) := by decide +kernel
theorem dX12_adjourn_4 : decode cX12_adjourn 4 = .ok (.bipush 22, 2) := by decide +kernel
theorem dX12_adjourn_6 : decode cX12_adjourn 6 = .ok (.iconst 0, 1) := by decide +kernel
theorem dX12_adjourn_7 : decode cX12_adjourn 7 = .ok (.iconst 0, 1) := by decide +kernel
theorem dX12_adjourn_8 : decode cX12_adjourn 8 = .ok (.iconst 0, 1) := by decide +kernel
theorem dX12_adjourn_9 : decode cX12_adjourn 9 = .ok (.iconst 0, 1) := by decide +kernel
theorem dX12_adjourn_10 : decode cX12_adjourn 10 = .ok (.invokevirtual 40, 3) := by decide +kernel
theorem dX12_adjourn_13 : decode cX12_adjourn 13 = .ok (.ireturn, 1) := by decide +kernel
set_option maxRecDepth 20000 in
theorem ggX12_order_X11_reasonOfMove : GoodIn wsX12_order wsX11_reasonOfMove := goodIn_r _ [8, 9, 10, 11, 12, 13, 14, 15, 16, 17, 18, 19, 20, 21, 22, 23, 24, 25, 26, 27, 7, 28, 29, 30, 31, 32, 33, 34, 35, 36, 37, 38, 39, 40, 41, 42, 50, 51, 52, 53, 54, 55, 56, 57, 58, 59, 60, 61, 62, 63, 64, 65, 66, 67, 68, 69, 70, 71, 72, 73, 74, 75, 76, 77, 78, 79, 80, 81, 82, 83, 84, 85, 86, 87, 88, 89, 90, 91] (by decide +kernel) (by decide +kernel)
set_option maxRecDepth 20000 in
theorem gX12_order_X11_reasonOfMove : GoodIn wsX12_order (wsV RX12 44 RX11 yX11_reasonOfMove wsX11_reasonOfMove) := goodIn_app (goodIn_of _ (by decide +kernel)) ggX12_order_X11_reasonOfMove
theorem dX12_order_0 : decode cX12_order 0 = .ok (.aload_n 0, 1) := by decide +kernel
theorem dX12_order_1 : decode cX12_order 1 = .ok (.getfield 16, 3) := by decide +kernel
theorem dX12_order_4 : decode cX12_order 4 = .ok (.iload_n 1, 1) := by decide +kernel
theorem dX12_order_5 : decode cX12_order 5 = .ok (.invokevirtual 44, 3) := by decide +kernel
theorem dX12_order_8 : decode cX12_order 8 = .ok (.istore_n 2, 1) := by decide +kernel
theorem dX12_order_9 : decode cX12_order 9 = .ok (.aload_n 0, 1) := by decide +kernel
theorem dX12_order_10 : decode cX12_order 10 = .ok (.getfield 16, 3) := by decide +kernel
theorem dX12_order_13 : decode cX12_order 13 = .ok (.iload_n 2, 1) := by decide +kernel
theorem dX12_order_14 : decode cX12_order 14 = .ok (.ifCond .ne 21, 3) := by decide +kernel
theorem dX12_order_17 : decode cX12_order 17 = .ok (.aload_n 0, 1) := by decide +kernel
theorem dX12_order_18 : decode cX12_order 18 = .ok (.getfield 16, 3) := by decide +kernel
theorem dX12_order_21 : decode cX12_order 21 = .ok (.getfield 48, 3) := by decide +kernel
theorem dX12_order_24 : decode cX12_order 24 = .ok (.sipush 600, 3) := by decide +kernel
theorem dX12_order_27 : decode cX12_order 27 = .ok (.if_icmp .ne 8, 3) := by decide +kernel
theorem dX12_order_30 : decode cX12_order 30 = .ok (.bipush 10, 2) := by decide +kernel
theorem dX12_order_32 : decode cX12_order 32 = .ok (.goto 4, 3) := by decide +kernel
theorem dX12_order_35 : decode cX12_order 35 = .ok (.iload_n 2, 1) := by decide +kernel
theorem dX12_order_36 : decode cX12_order 36 = .ok (.putfield 52, 3) := by decide +kernel
theorem dX12_order_39 : decode cX12_order 39 = .ok (.aload_n 0, 1) := by decide +kernel
theorem dX12_order_40 : decode cX12_order 40 = .ok (.getfield 16, 3) := by decide +kernel
theorem dX12_order_43 : decode cX12_order 43 = .ok (.getfield 52, 3) := by decide +kernel
theorem dX12_order_46 : decode cX12_order 46 = .ok (.ifCond .ne 7, 3) := by decide +kernel
theorem dX12_order_49 : decode cX12_order 49 = .ok (.iconst 1, 1) := by decide +kernel
theorem dX12_order_50 : decode cX12_order 50 = .ok (.goto 4, 3) := by decide +kernel
theorem dX12_order_53 : decode cX12_order 53 = .ok (.iconst 0, 1) := by decide +kernel
theorem dX12_order_54 : decode cX12_order 54 = .ok (.ireturn, 1) := by decide +kernel
theorem dX12_why_0 : decode cX12_why 0 = .ok (.aload_n 0, 1) := by decide +kernel
theorem dX12_why_1 : decode cX12_why 1 = .ok (.getfield 16, 3) := by decide +kernel
theorem dX12_why_4 : decode cX12_why 4 = .ok (.getfield 52, 3) := by decide +kernel
theorem dX12_why_7 : decode cX12_why 7 = .ok (.ireturn, 1) := by decide +kernel
set_option maxRecDepth 20000 in
theorem ggX12_pending_X12_in : GoodIn wsX12_pending wsX12_in := goodIn_r _ [16] (by decide +kernel) (by decide +kernel)
set_option maxRecDepth 20000 in
theorem gX12_pending_X12_in : GoodIn wsX12_pending (va_wsS RX12 1 yX12_in wsX12_in) := goodIn_app (goodIn_of _ (by decide +kernel)) ggX12_pending_X12_in
set_option maxRecDepth 20000 in
theorem ggX12_pending_X11_voters : GoodIn wsX12_pending wsX11_voters := goodIn_r _ [21, 22, 23, 31, 32, 33, 34, 35, 36, 37, 38, 39, 40, 41, 42, 43, 44, 45, 46, 47, 48, 49, 50, 51, 52, 53, 54, 55, 56, 57, 58, 59, 60, 61, 62, 63, 64, 65, 66, 67, 68, 69, 70, 71, 72] (by decide +kernel) (by decide +kernel)
set_option maxRecDepth 20000 in
theorem gX12_pending_X11_voters : GoodIn wsX12_pending (wsV RX12 89 RX11 yX11_voters wsX11_voters) := goodIn_app (goodIn_of _ (by decide +kernel)) ggX12_pending_X11_voters
theorem dX12_pending_0 : decode cX12_pending 0 = .ok (.iload_n 1, 1) := by decide +kernel
theorem dX12_pending_1 : decode cX12_pending 1 = .ok (.iconst 0, 1) := by decide +kernel
theorem dX12_pending_2 : decode cX12_pending 2 = .ok (.aload_n 0, 1) := by decide +kernel
theorem dX12_pending_3 : decode cX12_pending 3 = .ok (.getfield 16, 3) := by decide +kernel
theorem dX12_pending_6 : decode cX12_pending 6 = .ok (.getfield 55, 3) := by decide +kernel
theorem dX12_pending_9 : decode cX12_pending 9 = .ok (.iconst 1, 1) := by decide +kernel
theorem dX12_pending_10 : decode cX12_pending 10 = .ok (.isub, 1) := by decide +kernel
theorem dX12_pending_11 : decode cX12_pending 11 = .ok (.invokestatic 1, 3) := by decide +kernel
theorem dX12_pending_14 : decode cX12_pending 14 = .ok (.ifCond .ne 5, 3) := by decide +kernel
theorem dX12_pending_17 : decode cX12_pending 17 = .ok (.iconst (-1), 1) := by decide +kernel
theorem dX12_pending_18 : decode cX12_pending 18 = .ok (.ireturn, 1) := by decide +kernel
theorem dX12_pending_19 : decode cX12_pending 19 = .ok (.aload_n 0, 1) := by decide +kernel
theorem dX12_pending_20 : decode cX12_pending 20 = .ok (.getfield 16, 3) := by decide +kernel
theorem dX12_pending_23 : decode cX12_pending 23 = .ok (.getfield 58, 3) := by decide +kernel
theorem dX12_pending_26 : decode cX12_pending 26 = .ok (.iload_n 1, 1) := by decide +kernel
theorem dX12_pending_27 : decode cX12_pending 27 = .ok (.iaload, 1) := by decide +kernel
theorem dX12_pending_28 : decode cX12_pending 28 = .ok (.istore_n 3, 1) := by decide +kernel
theorem dX12_pending_29 : decode cX12_pending 29 = .ok (.iload_n 2, 1) := by decide +kernel
theorem dX12_pending_30 : decode cX12_pending 30 = .ok (.tableswitch 161 0 9 #[54, 64, 74, 84, 94, 104, 114, 124, 134, 152], 54) := by decide +kernel
theorem dX12_pending_84 : decode cX12_pending 84 = .ok (.aload_n 0, 1) := by decide +kernel
theorem dX12_pending_85 : decode cX12_pending 85 = .ok (.getfield 16, 3) := by decide +kernel
theorem dX12_pending_88 : decode cX12_pending 88 = .ok (.getfield 61, 3) := by decide +kernel
theorem dX12_pending_91 : decode cX12_pending 91 = .ok (.iload_n 3, 1) := by decide +kernel
theorem dX12_pending_92 : decode cX12_pending 92 = .ok (.iaload, 1) := by decide +kernel
theorem dX12_pending_93 : decode cX12_pending 93 = .ok (.ireturn, 1) := by decide +kernel
theorem dX12_pending_94 : decode cX12_pending 94 = .ok (.aload_n 0, 1) := by decide +kernel
theorem dX12_pending_95 : decode cX12_pending 95 = .ok (.getfield 16, 3) := by decide +kernel
theorem dX12_pending_98 : decode cX12_pending 98 = .ok (.getfield 64, 3) := by decide +kernel
theorem dX12_pending_101 : decode cX12_pending 101 = .ok (.iload_n 3, 1) := by decide +kernel
theorem dX12_pending_102 : decode cX12_pending 102 = .ok (.iaload, 1) := by decide +kernel
theorem dX12_pending_103 : decode cX12_pending 103 = .ok (.ireturn, 1) := by decide +kernel
theorem dX12_pending_104 : decode cX12_pending 104 = .ok (.aload_n 0, 1) := by decide +kernel
theorem dX12_pending_105 : decode cX12_pending 105 = .ok (.getfield 16, 3) := by decide +kernel
theorem dX12_pending_108 : decode cX12_pending 108 = .ok (.getfield 67, 3) := by decide +kernel
theorem dX12_pending_111 : decode cX12_pending 111 = .ok (.iload_n 3, 1) := by decide +kernel
theorem dX12_pending_112 : decode cX12_pending 112 = .ok (.iaload, 1) := by decide +kernel
theorem dX12_pending_113 : decode cX12_pending 113 = .ok (.ireturn, 1) := by decide +kernel
theorem dX12_pending_114 : decode cX12_pending 114 = .ok (.aload_n 0, 1) := by decide +kernel
theorem dX12_pending_115 : decode cX12_pending 115 = .ok (.getfield 16, 3) := by decide +kernel
theorem dX12_pending_118 : decode cX12_pending 118 = .ok (.getfield 70, 3) := by decide +kernel
theorem dX12_pending_121 : decode cX12_pending 121 = .ok (.iload_n 3, 1) := by decide +kernel
theorem dX12_pending_122 : decode cX12_pending 122 = .ok (.iaload, 1) := by decide +kernel
theorem dX12_pending_123 : decode cX12_pending 123 = .ok (.ireturn, 1) := by decide +kernel
theorem dX12_pending_124 : decode cX12_pending 124 = .ok (.aload_n 0, 1) := by decide +kernel
theorem dX12_pending_125 : decode cX12_pending 125 = .ok (.getfield 16, 3) := by decide +kernel
theorem dX12_pending_128 : decode cX12_pending 128 = .ok (.getfield 73, 3) := by decide +kernel
theorem dX12_pending_131 : decode cX12_pending 131 = .ok (.iload_n 3, 1) := by decide +kernel
theorem dX12_pending_132 : decode cX12_pending 132 = .ok (.iaload, 1) := by decide +kernel
theorem dX12_pending_133 : decode cX12_pending 133 = .ok (.ireturn, 1) := by decide +kernel
theorem dX12_pending_134 : decode cX12_pending 134 = .ok (.aload_n 0, 1) := by decide +kernel
theorem dX12_pending_135 : decode cX12_pending 135 = .ok (.getfield 16, 3) := by decide +kernel
theorem dX12_pending_138 : decode cX12_pending 138 = .ok (.getfield 76, 3) := by decide +kernel
theorem dX12_pending_141 : decode cX12_pending 141 = .ok (.iload_n 3, 1) := by decide +kernel
theorem dX12_pending_142 : decode cX12_pending 142 = .ok (.iaload, 1) := by decide +kernel
theorem dX12_pending_143 : decode cX12_pending 143 = .ok (.ireturn, 1) := by decide +kernel
theorem dX12_pending_144 : decode cX12_pending 144 = .ok (.aload_n 0, 1) := by decide +kernel
theorem dX12_pending_145 : decode cX12_pending 145 = .ok (.getfield 16, 3) := by decide +kernel
theorem dX12_pending_148 : decode cX12_pending 148 = .ok (.getfield 79, 3) := by decide +kernel
theorem dX12_pending_151 : decode cX12_pending 151 = .ok (.iload_n 3, 1) := by decide +kernel
theorem dX12_pending_152 : decode cX12_pending 152 = .ok (.iaload, 1) := by decide +kernel
theorem dX12_pending_153 : decode cX12_pending 153 = .ok (.ireturn, 1) := by decide +kernel
theorem dX12_pending_154 : decode cX12_pending 154 = .ok (.aload_n 0, 1) := by decide +kernel
theorem dX12_pending_155 : decode cX12_pending 155 = .ok (.getfield 16, 3) := by decide +kernel
theorem dX12_pending_158 : decode cX12_pending 158 = .ok (.getfield 82, 3) := by decide +kernel
theorem dX12_pending_161 : decode cX12_pending 161 = .ok (.iload_n 3, 1) := by decide +kernel
theorem dX12_pending_162 : decode cX12_pending 162 = .ok (.iaload, 1) := by decide +kernel
theorem dX12_pending_163 : decode cX12_pending 163 = .ok (.ireturn, 1) := by decide +kernel
theorem dX12_pending_164 : decode cX12_pending 164 = .ok (.aload_n 0, 1) := by decide +kernel
theorem dX12_pending_165 : decode cX12_pending 165 = .ok (.getfield 16, 3) := by decide +kernel
theorem dX12_pending_168 : decode cX12_pending 168 = .ok (.getfield 85, 3) := by decide +kernel
theorem dX12_pending_171 : decode cX12_pending 171 = .ok (.iload_n 3, 1) := by decide +kernel
theorem dX12_pending_172 : decode cX12_pending 172 = .ok (.baload, 1) := by decide +kernel
theorem dX12_pending_173 : decode cX12_pending 173 = .ok (.ifCond .eq 7, 3) := by decide +kernel
theorem dX12_pending_176 : decode cX12_pending 176 = .ok (.iconst 1, 1) := by decide +kernel
theorem dX12_pending_177 : decode cX12_pending 177 = .ok (.goto 4, 3) := by decide +kernel
theorem dX12_pending_180 : decode cX12_pending 180 = .ok (.iconst 0, 1) := by decide +kernel
theorem dX12_pending_181 : decode cX12_pending 181 = .ok (.ireturn, 1) := by decide +kernel
theorem dX12_pending_182 : decode cX12_pending 182 = .ok (.aload_n 0, 1) := by decide +kernel
theorem dX12_pending_183 : decode cX12_pending 183 = .ok (.getfield 16, 3) := by decide +kernel
theorem dX12_pending_186 : decode cX12_pending 186 = .ok (.iload_n 3, 1) := by decide +kernel
theorem dX12_pending_187 : decode cX12_pending 187 = .ok (.invokevirtual 89, 3) := by decide +kernel
theorem dX12_pending_190 : decode cX12_pending 190 = .ok (.ireturn, 1) := by decide +kernel
theorem dX12_pending_191 : decode cX12_pending 191 = .ok (.iconst (-1), 1) := by decide +kernel
theorem dX12_pending_192 : decode cX12_pending 192 = .ok (.ireturn, 1) := by decide +kernel
set_option maxRecDepth 20000 in
theorem ggX12_text_X11_text : GoodIn wsX12_text wsX11_text := goodIn_r _ [6, 7, 8, 9, 10, 11, 12, 13, 14, 15, 16, 17, 18, 26, 27, 28, 29, 30, 31, 32, 33, 34, 35, 36, 37, 38, 39, 40, 41, 42, 43, 44, 45, 46, 47, 48, 49, 50, 51, 52, 53, 54, 55, 56, 57, 58, 59, 60, 61, 62, 63, 64, 65, 66, 67] (by decide +kernel) (by decide +kernel)
set_option maxRecDepth 20000 in
theorem gX12_text_X11_text : GoodIn wsX12_text (wsV RX12 92 RX11 yX11_text wsX11_text) := goodIn_app (goodIn_of _ (by decide +kernel)) ggX12_text_X11_text
theorem dX12_text_0 : decode cX12_text 0 = .ok (.aload_n 0, 1) := by decide +kernel
theorem dX12_text_1 : decode cX12_text 1 = .ok (.getfield 16, 3) := by decide +kernel
theorem dX12_text_4 : decode cX12_text 4 = .ok (.iload_n 1, 1) := by decide +kernel
theorem dX12_text_5 : decode cX12_text 5 = .ok (.iload_n 2, 1) := by decide +kernel
theorem dX12_text_6 : decode cX12_text 6 = .ok (.invokevirtual 92, 3) := by decide +kernel
theorem dX12_text_9 : decode cX12_text 9 = .ok (.ireturn, 1) := by decide +kernel
set_option maxRecDepth 20000 in
theorem ggX12_ballot_X12_in : GoodIn wsX12_ballot wsX12_in := goodIn_r _ [8] (by decide +kernel) (by decide +kernel)
set_option maxRecDepth 20000 in
theorem gX12_ballot_X12_in : GoodIn wsX12_ballot (va_wsS RX12 1 yX12_in wsX12_in) := goodIn_app (goodIn_of _ (by decide +kernel)) ggX12_ballot_X12_in
set_option maxRecDepth 20000 in
theorem ggX12_ballot_X11_top : GoodIn wsX12_ballot wsX11_top := goodIn_r _ [13, 14, 15, 23, 24, 25, 26, 27, 28, 29, 30, 31, 32, 33, 34, 35, 36, 37, 38, 39, 40, 41, 42, 43, 44, 45, 46, 47, 48, 49, 50, 51, 52, 53, 54, 55, 56, 57, 58, 59, 60, 61, 62, 63, 64] (by decide +kernel) (by decide +kernel)
set_option maxRecDepth 20000 in
theorem gX12_ballot_X11_top : GoodIn wsX12_ballot (wsV RX12 103 RX11 yX11_top wsX11_top) := goodIn_app (goodIn_of _ (by decide +kernel)) ggX12_ballot_X11_top
theorem dX12_ballot_0 : decode cX12_ballot 0 = .ok (.aload_n 0, 1) := by decide +kernel
theorem dX12_ballot_1 : decode cX12_ballot 1 = .ok (.getfield 16, 3) := by decide +kernel
theorem dX12_ballot_4 : decode cX12_ballot 4 = .ok (.getfield 55, 3) := by decide +kernel
theorem dX12_ballot_7 : decode cX12_ballot 7 = .ok (.ifCond .eq 20, 3) := by decide +kernel
theorem dX12_ballot_10 : decode cX12_ballot 10 = .ok (.iload_n 1, 1) := by decide +kernel
theorem dX12_ballot_11 : decode cX12_ballot 11 = .ok (.iconst 0, 1) := by decide +kernel
theorem dX12_ballot_12 : decode cX12_ballot 12 = .ok (.aload_n 0, 1) := by decide +kernel
theorem dX12_ballot_13 : decode cX12_ballot 13 = .ok (.getfield 16, 3) := by decide +kernel
theorem dX12_ballot_16 : decode cX12_ballot 16 = .ok (.getfield 96, 3) := by decide +kernel
theorem dX12_ballot_19 : decode cX12_ballot 19 = .ok (.iconst 1, 1) := by decide +kernel
theorem dX12_ballot_20 : decode cX12_ballot 20 = .ok (.isub, 1) := by decide +kernel
theorem dX12_ballot_21 : decode cX12_ballot 21 = .ok (.invokestatic 1, 3) := by decide +kernel
theorem dX12_ballot_24 : decode cX12_ballot 24 = .ok (.ifCond .ne 5, 3) := by decide +kernel
theorem dX12_ballot_27 : decode cX12_ballot 27 = .ok (.iconst (-1), 1) := by decide +kernel
theorem dX12_ballot_28 : decode cX12_ballot 28 = .ok (.ireturn, 1) := by decide +kernel
theorem dX12_ballot_29 : decode cX12_ballot 29 = .ok (.aload_n 0, 1) := by decide +kernel
theorem dX12_ballot_30 : decode cX12_ballot 30 = .ok (.getfield 16, 3) := by decide +kernel
theorem dX12_ballot_33 : decode cX12_ballot 33 = .ok (.getfield 99, 3) := by decide +kernel
theorem dX12_ballot_36 : decode cX12_ballot 36 = .ok (.sipush 200, 3) := by decide +kernel
theorem dX12_ballot_39 : decode cX12_ballot 39 = .ok (.aload_n 0, 1) := by decide +kernel
theorem dX12_ballot_40 : decode cX12_ballot 40 = .ok (.getfield 16, 3) := by decide +kernel
theorem dX12_ballot_43 : decode cX12_ballot 43 = .ok (.invokevirtual 103, 3) := by decide +kernel
theorem dX12_ballot_46 : decode cX12_ballot 46 = .ok (.imul, 1) := by decide +kernel
theorem dX12_ballot_47 : decode cX12_ballot 47 = .ok (.iload_n 1, 1) := by decide +kernel
theorem dX12_ballot_48 : decode cX12_ballot 48 = .ok (.iadd, 1) := by decide +kernel
theorem dX12_ballot_49 : decode cX12_ballot 49 = .ok (.baload, 1) := by decide +kernel
theorem dX12_ballot_50 : decode cX12_ballot 50 = .ok (.istore_n 2, 1) := by decide +kernel
theorem dX12_ballot_51 : decode cX12_ballot 51 = .ok (.iload_n 2, 1) := by decide +kernel
theorem dX12_ballot_52 : decode cX12_ballot 52 = .ok (.iconst 2, 1) := by decide +kernel
theorem dX12_ballot_53 : decode cX12_ballot 53 = .ok (.if_icmp .ne 7, 3) := by decide +kernel
theorem dX12_ballot_56 : decode cX12_ballot 56 = .ok (.iconst (-1), 1) := by decide +kernel
theorem dX12_ballot_57 : decode cX12_ballot 57 = .ok (.goto 4, 3) := by decide +kernel
theorem dX12_ballot_60 : decode cX12_ballot 60 = .ok (.iload_n 2, 1) := by decide +kernel
theorem dX12_ballot_61 : decode cX12_ballot 61 = .ok (.ireturn, 1) := by decide +kernel
set_option maxRecDepth 20000 in
theorem ggX12_desk_X12_in : GoodIn wsX12_desk wsX12_in := goodIn_r _ [14] (by decide +kernel) (by decide +kernel)
set_option maxRecDepth 20000 in
theorem gX12_desk_X12_in : GoodIn wsX12_desk (va_wsS RX12 1 yX12_in wsX12_in) := goodIn_app (goodIn_of _ (by decide +kernel)) ggX12_desk_X12_in
theorem dX12_desk_0 : decode cX12_desk 0 = .ok (.iload_n 1, 1) := by decide +kernel
theorem dX12_desk_1 : decode cX12_desk 1 = .ok (.iconst 0, 1) := by decide +kernel
theorem dX12_desk_2 : decode cX12_desk 2 = .ok (.bipush 7, 2) := by decide +kernel
theorem dX12_desk_4 : decode cX12_desk 4 = .ok (.invokestatic 1, 3) := by decide +kernel
theorem dX12_desk_7 : decode cX12_desk 7 = .ok (.ifCond .eq 12, 3) := by decide +kernel
theorem dX12_desk_10 : decode cX12_desk 10 = .ok (.iload_n 2, 1) := by decide +kernel
theorem dX12_desk_11 : decode cX12_desk 11 = .ok (.iconst 0, 1) := by decide +kernel
theorem dX12_desk_12 : decode cX12_desk 12 = .ok (.iconst 5, 1) := by decide +kernel
theorem dX12_desk_13 : decode cX12_desk 13 = .ok (.invokestatic 1, 3) := by decide +kernel
theorem dX12_desk_16 : decode cX12_desk 16 = .ok (.ifCond .ne 5, 3) := by decide +kernel
theorem dX12_desk_19 : decode cX12_desk 19 = .ok (.iconst (-1), 1) := by decide +kernel
theorem dX12_desk_20 : decode cX12_desk 20 = .ok (.ireturn, 1) := by decide +kernel
theorem dX12_desk_21 : decode cX12_desk 21 = .ok (.aload_n 0, 1) := by decide +kernel
theorem dX12_desk_22 : decode cX12_desk 22 = .ok (.getfield 16, 3) := by decide +kernel
theorem dX12_desk_25 : decode cX12_desk 25 = .ok (.getfield 107, 3) := by decide +kernel
theorem dX12_desk_28 : decode cX12_desk 28 = .ok (.iload_n 1, 1) := by decide +kernel
theorem dX12_desk_29 : decode cX12_desk 29 = .ok (.iaload, 1) := by decide +kernel
theorem dX12_desk_30 : decode cX12_desk 30 = .ok (.istore_n 3, 1) := by decide +kernel
theorem dX12_desk_31 : decode cX12_desk 31 = .ok (.iload_n 3, 1) := by decide +kernel
theorem dX12_desk_32 : decode cX12_desk 32 = .ok (.ifCond .ne 5, 3) := by decide +kernel
theorem dX12_desk_35 : decode cX12_desk 35 = .ok (.iconst 0, 1) := by decide +kernel
theorem dX12_desk_36 : decode cX12_desk 36 = .ok (.ireturn, 1) := by decide +kernel
theorem dX12_desk_37 : decode cX12_desk 37 = .ok (.aload_n 0, 1) := by decide +kernel
theorem dX12_desk_38 : decode cX12_desk 38 = .ok (.getfield 16, 3) := by decide +kernel
theorem dX12_desk_41 : decode cX12_desk 41 = .ok (.getfield 110, 3) := by decide +kernel
theorem dX12_desk_44 : decode cX12_desk 44 = .ok (.bipush 9, 2) := by decide +kernel
theorem dX12_desk_46 : decode cX12_desk 46 = .ok (.iload_n 1, 1) := by decide +kernel
theorem dX12_desk_47 : decode cX12_desk 47 = .ok (.imul, 1) := by decide +kernel
theorem dX12_desk_48 : decode cX12_desk 48 = .ok (.iaload, 1) := by decide +kernel
theorem dX12_desk_49 : decode cX12_desk 49 = .ok (.istore 4, 2) := by decide +kernel
theorem dX12_desk_51 : decode cX12_desk 51 = .ok (.aload_n 0, 1) := by decide +kernel
theorem dX12_desk_52 : decode cX12_desk 52 = .ok (.getfield 16, 3) := by decide +kernel
theorem dX12_desk_55 : decode cX12_desk 55 = .ok (.getfield 113, 3) := by decide +kernel
theorem dX12_desk_58 : decode cX12_desk 58 = .ok (.iload_n 1, 1) := by decide +kernel
theorem dX12_desk_59 : decode cX12_desk 59 = .ok (.baload, 1) := by decide +kernel
theorem dX12_desk_60 : decode cX12_desk 60 = .ok (.istore 5, 2) := by decide +kernel
theorem dX12_desk_62 : decode cX12_desk 62 = .ok (.iload_n 2, 1) := by decide +kernel
theorem dX12_desk_63 : decode cX12_desk 63 = .ok (.tableswitch 132 0 4 #[33, 61, 81, 92, 112], 33) := by decide +kernel
theorem dX12_desk_96 : decode cX12_desk 96 = .ok (.iload 5, 2) := by decide +kernel
theorem dX12_desk_98 : decode cX12_desk 98 = .ok (.ifCond .eq 7, 3) := by decide +kernel
theorem dX12_desk_101 : decode cX12_desk 101 = .ok (.iconst 3, 1) := by decide +kernel
theorem dX12_desk_102 : decode cX12_desk 102 = .ok (.goto 21, 3) := by decide +kernel
theorem dX12_desk_105 : decode cX12_desk 105 = .ok (.aload_n 0, 1) := by decide +kernel
theorem dX12_desk_106 : decode cX12_desk 106 = .ok (.getfield 16, 3) := by decide +kernel
theorem dX12_desk_109 : decode cX12_desk 109 = .ok (.getfield 116, 3) := by decide +kernel
theorem dX12_desk_112 : decode cX12_desk 112 = .ok (.iload 4, 2) := by decide +kernel
theorem dX12_desk_114 : decode cX12_desk 114 = .ok (.baload, 1) := by decide +kernel
theorem dX12_desk_115 : decode cX12_desk 115 = .ok (.ifCond .eq 7, 3) := by decide +kernel
theorem dX12_desk_118 : decode cX12_desk 118 = .ok (.iconst 1, 1) := by decide +kernel
theorem dX12_desk_119 : decode cX12_desk 119 = .ok (.goto 4, 3) := by decide +kernel
theorem dX12_desk_122 : decode cX12_desk 122 = .ok (.iconst 2, 1) := by decide +kernel
theorem dX12_desk_123 : decode cX12_desk 123 = .ok (.ireturn, 1) := by decide +kernel
theorem dX12_desk_124 : decode cX12_desk 124 = .ok (.iload 5, 2) := by decide +kernel
theorem dX12_desk_126 : decode cX12_desk 126 = .ok (.ifCond .eq 7, 3) := by decide +kernel
theorem dX12_desk_129 : decode cX12_desk 129 = .ok (.iload_n 3, 1) := by decide +kernel
theorem dX12_desk_130 : decode cX12_desk 130 = .ok (.goto 13, 3) := by decide +kernel
theorem dX12_desk_133 : decode cX12_desk 133 = .ok (.aload_n 0, 1) := by decide +kernel
theorem dX12_desk_134 : decode cX12_desk 134 = .ok (.getfield 16, 3) := by decide +kernel
theorem dX12_desk_137 : decode cX12_desk 137 = .ok (.getfield 61, 3) := by decide +kernel
theorem dX12_desk_140 : decode cX12_desk 140 = .ok (.iload 4, 2) := by decide +kernel
theorem dX12_desk_142 : decode cX12_desk 142 = .ok (.iaload, 1) := by decide +kernel
theorem dX12_desk_143 : decode cX12_desk 143 = .ok (.ireturn, 1) := by decide +kernel
theorem dX12_desk_144 : decode cX12_desk 144 = .ok (.aload_n 0, 1) := by decide +kernel
theorem dX12_desk_145 : decode cX12_desk 145 = .ok (.getfield 16, 3) := by decide +kernel
theorem dX12_desk_148 : decode cX12_desk 148 = .ok (.getfield 70, 3) := by decide +kernel
theorem dX12_desk_151 : decode cX12_desk 151 = .ok (.iload 4, 2) := by decide +kernel
theorem dX12_desk_153 : decode cX12_desk 153 = .ok (.iaload, 1) := by decide +kernel
theorem dX12_desk_154 : decode cX12_desk 154 = .ok (.ireturn, 1) := by decide +kernel
theorem dX12_desk_155 : decode cX12_desk 155 = .ok (.iload 5, 2) := by decide +kernel
theorem dX12_desk_157 : decode cX12_desk 157 = .ok (.ifCond .eq 7, 3) := by decide +kernel
theorem dX12_desk_160 : decode cX12_desk 160 = .ok (.iconst 0, 1) := by decide +kernel
theorem dX12_desk_161 : decode cX12_desk 161 = .ok (.goto 13, 3) := by decide +kernel
theorem dX12_desk_164 : decode cX12_desk 164 = .ok (.aload_n 0, 1) := by decide +kernel
theorem dX12_desk_165 : decode cX12_desk 165 = .ok (.getfield 16, 3) := by decide +kernel
theorem dX12_desk_168 : decode cX12_desk 168 = .ok (.getfield 73, 3) := by decide +kernel
theorem dX12_desk_171 : decode cX12_desk 171 = .ok (.iload 4, 2) := by decide +kernel
theorem dX12_desk_173 : decode cX12_desk 173 = .ok (.iaload, 1) := by decide +kernel
theorem dX12_desk_174 : decode cX12_desk 174 = .ok (.ireturn, 1) := by decide +kernel
theorem dX12_desk_175 : decode cX12_desk 175 = .ok (.iload 5, 2) := by decide +kernel
theorem dX12_desk_177 : decode cX12_desk 177 = .ok (.ifCond .eq 7, 3) := by decide +kernel
theorem dX12_desk_180 : decode cX12_desk 180 = .ok (.iconst 0, 1) := by decide +kernel
theorem dX12_desk_181 : decode cX12_desk 181 = .ok (.goto 13, 3) := by decide +kernel
theorem dX12_desk_184 : decode cX12_desk 184 = .ok (.aload_n 0, 1) := by decide +kernel
theorem dX12_desk_185 : decode cX12_desk 185 = .ok (.getfield 16, 3) := by decide +kernel
theorem dX12_desk_188 : decode cX12_desk 188 = .ok (.getfield 76, 3) := by decide +kernel
theorem dX12_desk_191 : decode cX12_desk 191 = .ok (.iload 4, 2) := by decide +kernel
theorem dX12_desk_193 : decode cX12_desk 193 = .ok (.iaload, 1) := by decide +kernel
theorem dX12_desk_194 : decode cX12_desk 194 = .ok (.ireturn, 1) := by decide +kernel
theorem dX12_desk_195 : decode cX12_desk 195 = .ok (.iload 5, 2) := by decide +kernel
theorem dX12_desk_197 : decode cX12_desk 197 = .ok (.ifCond .ne 20, 3) := by decide +kernel
theorem dX12_desk_200 : decode cX12_desk 200 = .ok (.aload_n 0, 1) := by decide +kernel
theorem dX12_desk_201 : decode cX12_desk 201 = .ok (.getfield 16, 3) := by decide +kernel
theorem dX12_desk_204 : decode cX12_desk 204 = .ok (.getfield 119, 3) := by decide +kernel
theorem dX12_desk_207 : decode cX12_desk 207 = .ok (.iload 4, 2) := by decide +kernel
theorem dX12_desk_209 : decode cX12_desk 209 = .ok (.baload, 1) := by decide +kernel
theorem dX12_desk_210 : decode cX12_desk 210 = .ok (.ifCond .eq 7, 3) := by decide +kernel
theorem dX12_desk_213 : decode cX12_desk 213 = .ok (.iconst 1, 1) := by decide +kernel
theorem dX12_desk_214 : decode cX12_desk 214 = .ok (.goto 4, 3) := by decide +kernel
theorem dX12_desk_217 : decode cX12_desk 217 = .ok (.iconst 0, 1) := by decide +kernel
theorem dX12_desk_218 : decode cX12_desk 218 = .ok (.ireturn, 1) := by decide +kernel
set_option maxRecDepth 20000 in
theorem ggX12_lying_X12_in : GoodIn wsX12_lying wsX12_in := goodIn_r _ [9] (by decide +kernel) (by decide +kernel)
set_option maxRecDepth 20000 in
theorem gX12_lying_X12_in : GoodIn wsX12_lying (va_wsS RX12 1 yX12_in wsX12_in) := goodIn_app (goodIn_of _ (by decide +kernel)) ggX12_lying_X12_in
theorem dX12_lying_0 : decode cX12_lying 0 = .ok (.iload_n 1, 1) := by decide +kernel
theorem dX12_lying_1 : decode cX12_lying 1 = .ok (.iconst 0, 1) := by decide +kernel
theorem dX12_lying_2 : decode cX12_lying 2 = .ok (.bipush 7, 2) := by decide +kernel
theorem dX12_lying_4 : decode cX12_lying 4 = .ok (.invokestatic 1, 3) := by decide +kernel
theorem dX12_lying_7 : decode cX12_lying 7 = .ok (.ifCond .eq 15, 3) := by decide +kernel
theorem dX12_lying_10 : decode cX12_lying 10 = .ok (.aload_n 0, 1) := by decide +kernel
theorem dX12_lying_11 : decode cX12_lying 11 = .ok (.getfield 16, 3) := by decide +kernel
theorem dX12_lying_14 : decode cX12_lying 14 = .ok (.getfield 107, 3) := by decide +kernel
theorem dX12_lying_17 : decode cX12_lying 17 = .ok (.iload_n 1, 1) := by decide +kernel
theorem dX12_lying_18 : decode cX12_lying 18 = .ok (.iaload, 1) := by decide +kernel
theorem dX12_lying_19 : decode cX12_lying 19 = .ok (.ifCond .ne 5, 3) := by decide +kernel
theorem dX12_lying_22 : decode cX12_lying 22 = .ok (.iconst (-1), 1) := by decide +kernel
theorem dX12_lying_23 : decode cX12_lying 23 = .ok (.ireturn, 1) := by decide +kernel
theorem dX12_lying_24 : decode cX12_lying 24 = .ok (.aload_n 0, 1) := by decide +kernel
theorem dX12_lying_25 : decode cX12_lying 25 = .ok (.getfield 16, 3) := by decide +kernel
theorem dX12_lying_28 : decode cX12_lying 28 = .ok (.getfield 110, 3) := by decide +kernel
theorem dX12_lying_31 : decode cX12_lying 31 = .ok (.bipush 9, 2) := by decide +kernel
theorem dX12_lying_33 : decode cX12_lying 33 = .ok (.iload_n 1, 1) := by decide +kernel
theorem dX12_lying_34 : decode cX12_lying 34 = .ok (.imul, 1) := by decide +kernel
theorem dX12_lying_35 : decode cX12_lying 35 = .ok (.iaload, 1) := by decide +kernel
theorem dX12_lying_36 : decode cX12_lying 36 = .ok (.istore_n 3, 1) := by decide +kernel
theorem dX12_lying_37 : decode cX12_lying 37 = .ok (.iload_n 2, 1) := by decide +kernel
theorem dX12_lying_38 : decode cX12_lying 38 = .ok (.iconst 0, 1) := by decide +kernel
theorem dX12_lying_39 : decode cX12_lying 39 = .ok (.aload_n 0, 1) := by decide +kernel
theorem dX12_lying_40 : decode cX12_lying 40 = .ok (.getfield 16, 3) := by decide +kernel
theorem dX12_lying_43 : decode cX12_lying 43 = .ok (.getfield 70, 3) := by decide +kernel
theorem dX12_lying_46 : decode cX12_lying 46 = .ok (.iload_n 3, 1) := by decide +kernel
theorem dX12_lying_47 : decode cX12_lying 47 = .ok (.iaload, 1) := by decide +kernel
theorem dX12_lying_48 : decode cX12_lying 48 = .ok (.iconst 1, 1) := by decide +kernel
theorem dX12_lying_49 : decode cX12_lying 49 = .ok (.isub, 1) := by decide +kernel
theorem dX12_lying_50 : decode cX12_lying 50 = .ok (.invokestatic 1, 3) := by decide +kernel
theorem dX12_lying_53 : decode cX12_lying 53 = .ok (.ifCond .eq 21, 3) := by decide +kernel
theorem dX12_lying_56 : decode cX12_lying 56 = .ok (.aload_n 0, 1) := by decide +kernel
theorem dX12_lying_57 : decode cX12_lying 57 = .ok (.getfield 16, 3) := by decide +kernel
theorem dX12_lying_60 : decode cX12_lying 60 = .ok (.getfield 122, 3) := by decide +kernel
theorem dX12_lying_63 : decode cX12_lying 63 = .ok (.sipush 400, 3) := by decide +kernel
theorem dX12_lying_66 : decode cX12_lying 66 = .ok (.iload_n 3, 1) := by decide +kernel
theorem dX12_lying_67 : decode cX12_lying 67 = .ok (.imul, 1) := by decide +kernel
theorem dX12_lying_68 : decode cX12_lying 68 = .ok (.iload_n 2, 1) := by decide +kernel
theorem dX12_lying_69 : decode cX12_lying 69 = .ok (.iadd, 1) := by decide +kernel
theorem dX12_lying_70 : decode cX12_lying 70 = .ok (.iaload, 1) := by decide +kernel
theorem dX12_lying_71 : decode cX12_lying 71 = .ok (.goto 4, 3) := by decide +kernel
theorem dX12_lying_74 : decode cX12_lying 74 = .ok (.iconst (-1), 1) := by decide +kernel
theorem dX12_lying_75 : decode cX12_lying 75 = .ok (.ireturn, 1) := by decide +kernel
set_option maxRecDepth 20000 in
theorem ggX12_result_X12_in : GoodIn wsX12_result wsX12_in := goodIn_r _ [7] (by decide +kernel) (by decide +kernel)
set_option maxRecDepth 20000 in
theorem gX12_result_X12_in : GoodIn wsX12_result (va_wsS RX12 1 yX12_in wsX12_in) := goodIn_app (goodIn_of _ (by decide +kernel)) ggX12_result_X12_in
theorem dX12_result_0 : decode cX12_result 0 = .ok (.iload_n 1, 1) := by decide +kernel
theorem dX12_result_1 : decode cX12_result 1 = .ok (.iconst 0, 1) := by decide +kernel
theorem dX12_result_2 : decode cX12_result 2 = .ok (.aload_n 0, 1) := by decide +kernel
theorem dX12_result_3 : decode cX12_result 3 = .ok (.getfield 16, 3) := by decide +kernel
theorem dX12_result_6 : decode cX12_result 6 = .ok (.getfield 124, 3) := by decide +kernel
theorem dX12_result_9 : decode cX12_result 9 = .ok (.iconst 1, 1) := by decide +kernel
theorem dX12_result_10 : decode cX12_result 10 = .ok (.isub, 1) := by decide +kernel
theorem dX12_result_11 : decode cX12_result 11 = .ok (.invokestatic 1, 3) := by decide +kernel
theorem dX12_result_14 : decode cX12_result 14 = .ok (.ifCond .eq 28, 3) := by decide +kernel
theorem dX12_result_17 : decode cX12_result 17 = .ok (.iload_n 2, 1) := by decide +kernel
theorem dX12_result_18 : decode cX12_result 18 = .ok (.iconst 0, 1) := by decide +kernel
theorem dX12_result_19 : decode cX12_result 19 = .ok (.iconst 4, 1) := by decide +kernel
theorem dX12_result_20 : decode cX12_result 20 = .ok (.invokestatic 1, 3) := by decide +kernel
theorem dX12_result_23 : decode cX12_result 23 = .ok (.ifCond .eq 19, 3) := by decide +kernel
theorem dX12_result_26 : decode cX12_result 26 = .ok (.aload_n 0, 1) := by decide +kernel
theorem dX12_result_27 : decode cX12_result 27 = .ok (.getfield 16, 3) := by decide +kernel
theorem dX12_result_30 : decode cX12_result 30 = .ok (.getfield 127, 3) := by decide +kernel
theorem dX12_result_33 : decode cX12_result 33 = .ok (.iconst 5, 1) := by decide +kernel
theorem dX12_result_34 : decode cX12_result 34 = .ok (.iload_n 1, 1) := by decide +kernel
theorem dX12_result_35 : decode cX12_result 35 = .ok (.imul, 1) := by decide +kernel
theorem dX12_result_36 : decode cX12_result 36 = .ok (.iload_n 2, 1) := by decide +kernel
theorem dX12_result_37 : decode cX12_result 37 = .ok (.iadd, 1) := by decide +kernel
theorem dX12_result_38 : decode cX12_result 38 = .ok (.iaload, 1) := by decide +kernel
theorem dX12_result_39 : decode cX12_result 39 = .ok (.goto 4, 3) := by decide +kernel
theorem dX12_result_42 : decode cX12_result 42 = .ok (.iconst (-1), 1) := by decide +kernel
theorem dX12_result_43 : decode cX12_result 43 = .ok (.ireturn, 1) := by decide +kernel
theorem dX12_count_0 : decode cX12_count 0 = .ok (.iload_n 1, 1) := by decide +kernel
theorem dX12_count_1 : decode cX12_count 1 = .ok (.tableswitch 207 0 12 #[67, 75, 83, 91, 99, 107, 115, 123, 170, 178, 186, 194, 202], 67) := by decide +kernel
theorem dX12_count_68 : decode cX12_count 68 = .ok (.aload_n 0, 1) := by decide +kernel
theorem dX12_count_69 : decode cX12_count 69 = .ok (.getfield 16, 3) := by decide +kernel
theorem dX12_count_72 : decode cX12_count 72 = .ok (.getfield 96, 3) := by decide +kernel
theorem dX12_count_75 : decode cX12_count 75 = .ok (.ireturn, 1) := by decide +kernel
theorem dX12_count_76 : decode cX12_count 76 = .ok (.aload_n 0, 1) := by decide +kernel
theorem dX12_count_77 : decode cX12_count 77 = .ok (.getfield 16, 3) := by decide +kernel
theorem dX12_count_80 : decode cX12_count 80 = .ok (.getfield 130, 3) := by decide +kernel
theorem dX12_count_83 : decode cX12_count 83 = .ok (.ireturn, 1) := by decide +kernel
theorem dX12_count_84 : decode cX12_count 84 = .ok (.aload_n 0, 1) := by decide +kernel
theorem dX12_count_85 : decode cX12_count 85 = .ok (.getfield 16, 3) := by decide +kernel
theorem dX12_count_88 : decode cX12_count 88 = .ok (.getfield 133, 3) := by decide +kernel
theorem dX12_count_91 : decode cX12_count 91 = .ok (.ireturn, 1) := by decide +kernel
theorem dX12_count_92 : decode cX12_count 92 = .ok (.aload_n 0, 1) := by decide +kernel
theorem dX12_count_93 : decode cX12_count 93 = .ok (.getfield 16, 3) := by decide +kernel
theorem dX12_count_96 : decode cX12_count 96 = .ok (.getfield 136, 3) := by decide +kernel
theorem dX12_count_99 : decode cX12_count 99 = .ok (.ireturn, 1) := by decide +kernel
theorem dX12_count_100 : decode cX12_count 100 = .ok (.aload_n 0, 1) := by decide +kernel
theorem dX12_count_101 : decode cX12_count 101 = .ok (.getfield 16, 3) := by decide +kernel
theorem dX12_count_104 : decode cX12_count 104 = .ok (.getfield 139, 3) := by decide +kernel
theorem dX12_count_107 : decode cX12_count 107 = .ok (.ireturn, 1) := by decide +kernel
theorem dX12_count_108 : decode cX12_count 108 = .ok (.aload_n 0, 1) := by decide +kernel
theorem dX12_count_109 : decode cX12_count 109 = .ok (.getfield 16, 3) := by decide +kernel
theorem dX12_count_112 : decode cX12_count 112 = .ok (.getfield 142, 3) := by decide +kernel
theorem dX12_count_115 : decode cX12_count 115 = .ok (.ireturn, 1) := by decide +kernel
theorem dX12_count_116 : decode cX12_count 116 = .ok (.aload_n 0, 1) := by decide +kernel
theorem dX12_count_117 : decode cX12_count 117 = .ok (.getfield 16, 3) := by decide +kernel
theorem dX12_count_120 : decode cX12_count 120 = .ok (.getfield 55, 3) := by decide +kernel
theorem dX12_count_123 : decode cX12_count 123 = .ok (.ireturn, 1) := by decide +kernel
theorem dX12_count_124 : decode cX12_count 124 = .ok (.aload_n 0, 1) := by decide +kernel
theorem dX12_count_125 : decode cX12_count 125 = .ok (.getfield 16, 3) := by decide +kernel
theorem dX12_count_128 : decode cX12_count 128 = .ok (.getfield 145, 3) := by decide +kernel
theorem dX12_count_131 : decode cX12_count 131 = .ok (.ifCond .ne 7, 3) := by decide +kernel
theorem dX12_count_134 : decode cX12_count 134 = .ok (.iconst 0, 1) := by decide +kernel
theorem dX12_count_135 : decode cX12_count 135 = .ok (.goto 35, 3) := by decide +kernel
theorem dX12_count_138 : decode cX12_count 138 = .ok (.aload_n 0, 1) := by decide +kernel
theorem dX12_count_139 : decode cX12_count 139 = .ok (.getfield 16, 3) := by decide +kernel
theorem dX12_count_142 : decode cX12_count 142 = .ok (.getfield 148, 3) := by decide +kernel
theorem dX12_count_145 : decode cX12_count 145 = .ok (.ifCond .eq 8, 3) := by decide +kernel
theorem dX12_count_148 : decode cX12_count 148 = .ok (.bipush 7, 2) := by decide +kernel
theorem dX12_count_150 : decode cX12_count 150 = .ok (.goto 20, 3) := by decide +kernel
theorem dX12_count_153 : decode cX12_count 153 = .ok (.aload_n 0, 1) := by decide +kernel
theorem dX12_count_154 : decode cX12_count 154 = .ok (.getfield 16, 3) := by decide +kernel
theorem dX12_count_157 : decode cX12_count 157 = .ok (.getfield 61, 3) := by decide +kernel
theorem dX12_count_160 : decode cX12_count 160 = .ok (.aload_n 0, 1) := by decide +kernel
theorem dX12_count_161 : decode cX12_count 161 = .ok (.getfield 16, 3) := by decide +kernel
theorem dX12_count_164 : decode cX12_count 164 = .ok (.getfield 152, 3) := by decide +kernel
theorem dX12_count_167 : decode cX12_count 167 = .ok (.iconst 0, 1) := by decide +kernel
theorem dX12_count_168 : decode cX12_count 168 = .ok (.iaload, 1) := by decide +kernel
theorem dX12_count_169 : decode cX12_count 169 = .ok (.iaload, 1) := by decide +kernel
theorem dX12_count_170 : decode cX12_count 170 = .ok (.ireturn, 1) := by decide +kernel
theorem dX12_count_171 : decode cX12_count 171 = .ok (.aload_n 0, 1) := by decide +kernel
theorem dX12_count_172 : decode cX12_count 172 = .ok (.getfield 16, 3) := by decide +kernel
theorem dX12_count_175 : decode cX12_count 175 = .ok (.getfield 48, 3) := by decide +kernel
theorem dX12_count_178 : decode cX12_count 178 = .ok (.ireturn, 1) := by decide +kernel
theorem dX12_count_179 : decode cX12_count 179 = .ok (.aload_n 0, 1) := by decide +kernel
theorem dX12_count_180 : decode cX12_count 180 = .ok (.getfield 16, 3) := by decide +kernel
theorem dX12_count_183 : decode cX12_count 183 = .ok (.getfield 124, 3) := by decide +kernel
theorem dX12_count_186 : decode cX12_count 186 = .ok (.ireturn, 1) := by decide +kernel
theorem dX12_count_187 : decode cX12_count 187 = .ok (.aload_n 0, 1) := by decide +kernel
theorem dX12_count_188 : decode cX12_count 188 = .ok (.getfield 16, 3) := by decide +kernel
theorem dX12_count_191 : decode cX12_count 191 = .ok (.getfield 155, 3) := by decide +kernel
theorem dX12_count_194 : decode cX12_count 194 = .ok (.ireturn, 1) := by decide +kernel
theorem dX12_count_195 : decode cX12_count 195 = .ok (.aload_n 0, 1) := by decide +kernel
theorem dX12_count_196 : decode cX12_count 196 = .ok (.getfield 16, 3) := by decide +kernel
theorem dX12_count_199 : decode cX12_count 199 = .ok (.getfield 158, 3) := by decide +kernel
theorem dX12_count_202 : decode cX12_count 202 = .ok (.ireturn, 1) := by decide +kernel
theorem dX12_count_203 : decode cX12_count 203 = .ok (.aload_n 0, 1) := by decide +kernel
theorem dX12_count_204 : decode cX12_count 204 = .ok (.getfield 161, 3) := by decide +kernel
theorem dX12_count_207 : decode cX12_count 207 = .ok (.ireturn, 1) := by decide +kernel
theorem dX12_count_208 : decode cX12_count 208 = .ok (.iconst (-1), 1) := by decide +kernel
theorem dX12_count_209 : decode cX12_count 209 = .ok (.ireturn, 1) := by decide +kernel
set_option maxRecDepth 20000 in
theorem ggX12_seat_X12_in : GoodIn wsX12_seat wsX12_in := goodIn_r _ [7] (by decide +kernel) (by decide +kernel)
set_option maxRecDepth 20000 in
theorem gX12_seat_X12_in : GoodIn wsX12_seat (va_wsS RX12 1 yX12_in wsX12_in) := goodIn_app (goodIn_of _ (by decide +kernel)) ggX12_seat_X12_in
theorem dX12_seat_0 : decode cX12_seat 0 = .ok (.iload_n 1, 1) := by decide +kernel
theorem dX12_seat_1 : decode cX12_seat 1 = .ok (.iconst 0, 1) := by decide +kernel
theorem dX12_seat_2 : decode cX12_seat 2 = .ok (.aload_n 0, 1) := by decide +kernel
theorem dX12_seat_3 : decode cX12_seat 3 = .ok (.getfield 16, 3) := by decide +kernel
theorem dX12_seat_6 : decode cX12_seat 6 = .ok (.getfield 96, 3) := by decide +kernel
theorem dX12_seat_9 : decode cX12_seat 9 = .ok (.iconst 1, 1) := by decide +kernel
theorem dX12_seat_10 : decode cX12_seat 10 = .ok (.isub, 1) := by decide +kernel
theorem dX12_seat_11 : decode cX12_seat 11 = .ok (.invokestatic 1, 3) := by decide +kernel
theorem dX12_seat_14 : decode cX12_seat 14 = .ok (.ifCond .ne 7, 3) := by decide +kernel
theorem dX12_seat_17 : decode cX12_seat 17 = .ok (.iconst (-1), 1) := by decide +kernel
theorem dX12_seat_18 : decode cX12_seat 18 = .ok (.goto 20, 3) := by decide +kernel
theorem dX12_seat_21 : decode cX12_seat 21 = .ok (.aload_n 0, 1) := by decide +kernel
theorem dX12_seat_22 : decode cX12_seat 22 = .ok (.getfield 16, 3) := by decide +kernel
theorem dX12_seat_25 : decode cX12_seat 25 = .ok (.getfield 164, 3) := by decide +kernel
theorem dX12_seat_28 : decode cX12_seat 28 = .ok (.iload_n 1, 1) := by decide +kernel
theorem dX12_seat_29 : decode cX12_seat 29 = .ok (.baload, 1) := by decide +kernel
theorem dX12_seat_30 : decode cX12_seat 30 = .ok (.ifCond .eq 7, 3) := by decide +kernel
theorem dX12_seat_33 : decode cX12_seat 33 = .ok (.iconst 1, 1) := by decide +kernel
theorem dX12_seat_34 : decode cX12_seat 34 = .ok (.goto 4, 3) := by decide +kernel
theorem dX12_seat_37 : decode cX12_seat 37 = .ok (.iconst 0, 1) := by decide +kernel
theorem dX12_seat_38 : decode cX12_seat 38 = .ok (.ireturn, 1) := by decide +kernel
set_option maxRecDepth 20000 in
theorem ggX12_journal_X12_in : GoodIn wsX12_journal wsX12_in := goodIn_r _ [7] (by decide +kernel) (by decide +kernel)
set_option maxRecDepth 20000 in
theorem gX12_journal_X12_in : GoodIn wsX12_journal (va_wsS RX12 1 yX12_in wsX12_in) := goodIn_app (goodIn_of _ (by decide +kernel)) ggX12_journal_X12_in
theorem dX12_journal_0 : decode cX12_journal 0 = .ok (.iload_n 1, 1) := by decide +kernel
theorem dX12_journal_1 : decode cX12_journal 1 = .ok (.iconst 0, 1) := by decide +kernel
theorem dX12_journal_2 : decode cX12_journal 2 = .ok (.aload_n 0, 1) := by decide +kernel
theorem dX12_journal_3 : decode cX12_journal 3 = .ok (.getfield 16, 3) := by decide +kernel
theorem dX12_journal_6 : decode cX12_journal 6 = .ok (.getfield 48, 3) := by decide +kernel
theorem dX12_journal_9 : decode cX12_journal 9 = .ok (.iconst 1, 1) := by decide +kernel
theorem dX12_journal_10 : decode cX12_journal 10 = .ok (.isub, 1) := by decide +kernel
theorem dX12_journal_11 : decode cX12_journal 11 = .ok (.invokestatic 1, 3) := by decide +kernel
theorem dX12_journal_14 : decode cX12_journal 14 = .ok (.ifCond .eq 29, 3) := by decide +kernel
theorem dX12_journal_17 : decode cX12_journal 17 = .ok (.iload_n 2, 1) := by decide +kernel
theorem dX12_journal_18 : decode cX12_journal 18 = .ok (.iconst 0, 1) := by decide +kernel
theorem dX12_journal_19 : decode cX12_journal 19 = .ok (.iconst 5, 1) := by decide +kernel
theorem dX12_journal_20 : decode cX12_journal 20 = .ok (.invokestatic 1, 3) := by decide +kernel
theorem dX12_journal_23 : decode cX12_journal 23 = .ok (.ifCond .eq 20, 3) := by decide +kernel
theorem dX12_journal_26 : decode cX12_journal 26 = .ok (.aload_n 0, 1) := by decide +kernel
theorem dX12_journal_27 : decode cX12_journal 27 = .ok (.getfield 16, 3) := by decide +kernel
theorem dX12_journal_30 : decode cX12_journal 30 = .ok (.getfield 167, 3) := by decide +kernel
theorem dX12_journal_33 : decode cX12_journal 33 = .ok (.bipush 6, 2) := by decide +kernel
theorem dX12_journal_35 : decode cX12_journal 35 = .ok (.iload_n 1, 1) := by decide +kernel
theorem dX12_journal_36 : decode cX12_journal 36 = .ok (.imul, 1) := by decide +kernel
theorem dX12_journal_37 : decode cX12_journal 37 = .ok (.iload_n 2, 1) := by decide +kernel
theorem dX12_journal_38 : decode cX12_journal 38 = .ok (.iadd, 1) := by decide +kernel
theorem dX12_journal_39 : decode cX12_journal 39 = .ok (.iaload, 1) := by decide +kernel
theorem dX12_journal_40 : decode cX12_journal 40 = .ok (.goto 4, 3) := by decide +kernel
theorem dX12_journal_43 : decode cX12_journal 43 = .ok (.iconst (-1), 1) := by decide +kernel
theorem dX12_journal_44 : decode cX12_journal 44 = .ok (.ireturn, 1) := by decide +kernel
set_option maxRecDepth 20000 in
theorem ggX12_before_X12_in : GoodIn wsX12_before wsX12_in := goodIn_r _ [9] (by decide +kernel) (by decide +kernel)
set_option maxRecDepth 20000 in
theorem gX12_before_X12_in : GoodIn wsX12_before (va_wsS RX12 1 yX12_in wsX12_in) := goodIn_app (goodIn_of _ (by decide +kernel)) ggX12_before_X12_in
set_option maxRecDepth 20000 in
theorem ggX12_before_X11_begin : GoodIn wsX12_before wsX11_begin := goodIn_r _ [14, 15, 16, 17, 18, 19, 20, 21, 22, 23, 24, 25, 26, 27, 28, 29, 30, 31, 193, 194, 195, 196, 197, 198, 199, 200, 201, 202, 203, 204, 205, 206, 207, 208, 209, 210, 211, 212, 213, 214, 215, 216, 217, 218, 219, 220, 221, 222, 223, 224, 225, 226, 227, 228, 229, 230, 231, 232, 233, 234] (by decide +kernel) (by decide +kernel)
set_option maxRecDepth 20000 in
theorem gX12_before_X11_begin : GoodIn wsX12_before (wsV RX12 36 RX11 yX11_begin wsX11_begin) := goodIn_app (goodIn_of _ (by decide +kernel)) ggX12_before_X11_begin
set_option maxRecDepth 20000 in
theorem ggX12_before_X11_follow : GoodIn wsX12_before wsX11_follow := goodIn_r _ [35, 36, 37, 38, 13, 39, 22, 25, 40, 41, 42, 43, 44, 28, 21, 17, 20, 45, 46, 19, 47, 48, 49, 26, 31, 50, 51, 52, 53, 54, 15, 7, 8, 9, 55, 56, 57, 58, 59, 60, 61, 62, 63, 64, 65, 66, 67, 68, 69, 70, 71, 72, 73, 74, 75, 76, 77, 78, 79, 80, 81, 82, 83, 84, 85, 86, 87, 88, 89, 90, 91, 92, 93, 94, 95, 96, 97, 98, 16, 18, 99, 100, 101, 102, 103, 104, 105, 106, 107, 108, 109, 110, 111, 112, 113, 114, 29, 115, 116, 117, 118, 119, 120, 30, 121, 122, 123, 124, 125, 126, 127, 128, 129, 130, 131, 132, 133, 134, 135, 136, 137, 138, 139, 140, 141, 142, 143, 144, 145, 146, 147, 148, 149, 150, 151, 152, 153, 154, 155, 156, 157, 158, 159, 160, 161, 23, 162, 163, 164, 165, 166, 167, 168, 169, 170, 24, 27, 171, 172, 173, 174, 175, 176, 177, 178, 179, 180, 181, 6, 193, 194, 195, 196, 197, 198, 199, 200, 201, 202, 203, 204, 205, 206, 207, 208, 209, 210, 211, 212, 213, 214, 215, 216, 217, 218, 219, 220, 221, 222, 223, 224, 225, 226, 227, 228, 229, 230, 231, 232, 233, 234] (by decide +kernel) (by decide +kernel)
set_option maxRecDepth 20000 in
theorem gX12_before_X11_follow : GoodIn wsX12_before (wsV RX12 170 RX11 yX11_follow wsX11_follow) := goodIn_app (goodIn_of _ (by decide +kernel)) ggX12_before_X11_follow
set_option maxRecDepth 20000 in
theorem ggX12_before_X11_text : GoodIn wsX12_before wsX11_text := goodIn_r _ [185, 27, 171, 26, 69, 49, 21, 59, 74, 135, 7, 8, 9, 193, 194, 195, 196, 197, 198, 199, 200, 201, 202, 203, 204, 205, 206, 207, 208, 209, 210, 211, 212, 213, 214, 215, 216, 217, 218, 219, 220, 221, 222, 223, 224, 225, 226, 227, 228, 229, 230, 231, 232, 233, 234] (by decide +kernel) (by decide +kernel)
set_option maxRecDepth 20000 in
theorem gX12_before_X11_text : GoodIn wsX12_before (wsV RX12 92 RX11 yX11_text wsX11_text) := goodIn_app (goodIn_of _ (by decide +kernel)) ggX12_before_X11_text
theorem dX12_before_0 : decode cX12_before 0 = .ok (.iload_n 1, 1) := by decide +kernel
theorem dX12_before_1 : decode cX12_before 1 = .ok (.iconst 0, 1) := by decide +kernel
theorem dX12_before_2 : decode cX12_before 2 = .ok (.aload_n 0, 1) := by decide +kernel
theorem dX12_before_3 : decode cX12_before 3 = .ok (.getfield 16, 3) := by decide +kernel
theorem dX12_before_6 : decode cX12_before 6 = .ok (.getfield 48, 3) := by decide +kernel
theorem dX12_before_9 : decode cX12_before 9 = .ok (.invokestatic 1, 3) := by decide +kernel
theorem dX12_before_12 : decode cX12_before 12 = .ok (.ifCond .ne 5, 3) := by decide +kernel
theorem dX12_before_15 : decode cX12_before 15 = .ok (.iconst (-1), 1) := by decide +kernel
theorem dX12_before_16 : decode cX12_before 16 = .ok (.ireturn, 1) := by decide +kernel
theorem dX12_before_17 : decode cX12_before 17 = .ok (.aload_n 0, 1) := by decide +kernel
theorem dX12_before_18 : decode cX12_before 18 = .ok (.getfield 20, 3) := by decide +kernel
theorem dX12_before_21 : decode cX12_before 21 = .ok (.aload_n 0, 1) := by decide +kernel
theorem dX12_before_22 : decode cX12_before 22 = .ok (.getfield 16, 3) := by decide +kernel
theorem dX12_before_25 : decode cX12_before 25 = .ok (.getfield 96, 3) := by decide +kernel
theorem dX12_before_28 : decode cX12_before 28 = .ok (.invokevirtual 36, 3) := by decide +kernel
theorem dX12_before_31 : decode cX12_before 31 = .ok (.aload_n 0, 1) := by decide +kernel
theorem dX12_before_32 : decode cX12_before 32 = .ok (.getfield 20, 3) := by decide +kernel
theorem dX12_before_35 : decode cX12_before 35 = .ok (.aload_n 0, 1) := by decide +kernel
theorem dX12_before_36 : decode cX12_before 36 = .ok (.getfield 16, 3) := by decide +kernel
theorem dX12_before_39 : decode cX12_before 39 = .ok (.getfield 167, 3) := by decide +kernel
theorem dX12_before_42 : decode cX12_before 42 = .ok (.iload_n 1, 1) := by decide +kernel
theorem dX12_before_43 : decode cX12_before 43 = .ok (.invokevirtual 170, 3) := by decide +kernel
theorem dX12_before_46 : decode cX12_before 46 = .ok (.aload_n 0, 1) := by decide +kernel
theorem dX12_before_47 : decode cX12_before 47 = .ok (.getfield 20, 3) := by decide +kernel
theorem dX12_before_50 : decode cX12_before 50 = .ok (.iload_n 2, 1) := by decide +kernel
theorem dX12_before_51 : decode cX12_before 51 = .ok (.iload_n 3, 1) := by decide +kernel
theorem dX12_before_52 : decode cX12_before 52 = .ok (.invokevirtual 92, 3) := by decide +kernel
theorem dX12_before_55 : decode cX12_before 55 = .ok (.ireturn, 1) := by decide +kernel
set_option maxRecDepth 20000 in
theorem ggX12_again_X11_begin : GoodIn wsX12_again wsX11_begin := goodIn_r _ [10, 11, 12, 13, 14, 15, 16, 17, 18, 19, 20, 21, 22, 23, 24, 25, 26, 27, 185, 186, 187, 188, 189, 190, 191, 192, 193, 194, 195, 196, 197, 198, 199, 200, 201, 202, 203, 204, 205, 206, 207, 208, 209, 210, 211, 212, 213, 214, 215, 216, 217, 218, 219, 220, 221, 222, 223, 224, 225, 226] (by decide +kernel) (by decide +kernel)
set_option maxRecDepth 20000 in
theorem gX12_again_X11_begin : GoodIn wsX12_again (wsV RX12 36 RX11 yX11_begin wsX11_begin) := goodIn_app (goodIn_of _ (by decide +kernel)) ggX12_again_X11_begin
set_option maxRecDepth 20000 in
theorem ggX12_again_X11_act : GoodIn wsX12_again wsX11_act := goodIn_r _ [31, 18, 21, 32, 33, 34, 35, 9, 36, 24, 17, 13, 16, 37, 38, 15, 39, 40, 41, 22, 27, 42, 43, 44, 45, 46, 11, 47, 48, 49, 50, 51, 52, 53, 54, 55, 56, 57, 58, 59, 60, 61, 62, 63, 64, 65, 66, 67, 68, 69, 70, 71, 72, 73, 74, 75, 76, 77, 78, 79, 80, 81, 82, 83, 84, 85, 86, 87, 88, 89, 90, 91, 92, 93, 12, 14, 94, 95, 96, 97, 98, 99, 100, 101, 102, 103, 104, 105, 106, 107, 108, 109, 25, 110, 111, 112, 113, 114, 115, 26, 116, 117, 118, 119, 120, 121, 122, 123, 124, 125, 126, 127, 128, 129, 130, 131, 132, 133, 134, 135, 136, 137, 138, 139, 140, 141, 142, 143, 144, 145, 146, 147, 148, 149, 150, 151, 152, 153, 154, 155, 156, 19, 157, 158, 159, 160, 161, 162, 163, 164, 165, 20, 23, 166, 167, 168, 169, 170, 171, 172, 173, 174, 175, 176, 177, 185, 186, 187, 188, 189, 190, 191, 192, 193, 194, 195, 196, 197, 198, 199, 200, 201, 202, 203, 204, 205, 206, 207, 208, 209, 210, 211, 212, 213, 214, 215, 216, 217, 218, 219, 220, 221, 222, 223, 224, 225, 226] (by decide +kernel) (by decide +kernel)
set_option maxRecDepth 20000 in
theorem gX12_again_X11_act : GoodIn wsX12_again (wsV RX12 40 RX11 yX11_act wsX11_act) := goodIn_app (goodIn_of _ (by decide +kernel)) ggX12_again_X11_act
theorem dX12_again_0 : decode cX12_again 0 = .ok (.aload_n 0, 1) := by decide +kernel
theorem dX12_again_1 : decode cX12_again 1 = .ok (.getfield 20, 3) := by decide +kernel
theorem dX12_again_4 : decode cX12_again 4 = .ok (.aload_n 0, 1) := by decide +kernel
theorem dX12_again_5 : decode cX12_again 5 = .ok (.getfield 16, 3) := by decide +kernel
theorem dX12_again_8 : decode cX12_again 8 = .ok (.getfield 96, 3) := by decide +kernel
theorem dX12_again_11 : decode cX12_again 11 = .ok (.invokevirtual 36, 3) := by decide +kernel
theorem dX12_again_14 : decode cX12_again 14 = .ok (.iconst 0, 1) := by decide +kernel
theorem dX12_again_15 : decode cX12_again 15 = .ok (.istore_n 1, 1) := by decide +kernel
theorem dX12_again_16 : decode cX12_again 16 = .ok (.iload_n 1, 1) := by decide +kernel
theorem dX12_again_17 : decode cX12_again 17 = .ok (.aload_n 0, 1) := by decide +kernel
theorem dX12_again_18 : decode cX12_again 18 = .ok (.getfield 16, 3) := by decide +kernel
theorem dX12_again_21 : decode cX12_again 21 = .ok (.getfield 48, 3) := by decide +kernel
theorem dX12_again_24 : decode cX12_again 24 = .ok (.if_icmp .ge 92, 3) := by decide +kernel
theorem dX12_again_27 : decode cX12_again 27 = .ok (.bipush 6, 2) := by decide +kernel
theorem dX12_again_29 : decode cX12_again 29 = .ok (.iload_n 1, 1) := by decide +kernel
theorem dX12_again_30 : decode cX12_again 30 = .ok (.imul, 1) := by decide +kernel
theorem dX12_again_31 : decode cX12_again 31 = .ok (.istore_n 2, 1) := by decide +kernel
theorem dX12_again_32 : decode cX12_again 32 = .ok (.aload_n 0, 1) := by decide +kernel
theorem dX12_again_33 : decode cX12_again 33 = .ok (.getfield 20, 3) := by decide +kernel
theorem dX12_again_36 : decode cX12_again 36 = .ok (.aload_n 0, 1) := by decide +kernel
theorem dX12_again_37 : decode cX12_again 37 = .ok (.getfield 16, 3) := by decide +kernel
theorem dX12_again_40 : decode cX12_again 40 = .ok (.getfield 167, 3) := by decide +kernel
theorem dX12_again_43 : decode cX12_again 43 = .ok (.iload_n 2, 1) := by decide +kernel
theorem dX12_again_44 : decode cX12_again 44 = .ok (.iaload, 1) := by decide +kernel
theorem dX12_again_45 : decode cX12_again 45 = .ok (.aload_n 0, 1) := by decide +kernel
theorem dX12_again_46 : decode cX12_again 46 = .ok (.getfield 16, 3) := by decide +kernel
theorem dX12_again_49 : decode cX12_again 49 = .ok (.getfield 167, 3) := by decide +kernel
theorem dX12_again_52 : decode cX12_again 52 = .ok (.iload_n 2, 1) := by decide +kernel
theorem dX12_again_53 : decode cX12_again 53 = .ok (.iconst 1, 1) := by decide +kernel
theorem dX12_again_54 : decode cX12_again 54 = .ok (.iadd, 1) := by decide +kernel
theorem dX12_again_55 : decode cX12_again 55 = .ok (.iaload, 1) := by decide +kernel
theorem dX12_again_56 : decode cX12_again 56 = .ok (.aload_n 0, 1) := by decide +kernel
theorem dX12_again_57 : decode cX12_again 57 = .ok (.getfield 16, 3) := by decide +kernel
theorem dX12_again_60 : decode cX12_again 60 = .ok (.getfield 167, 3) := by decide +kernel
theorem dX12_again_63 : decode cX12_again 63 = .ok (.iload_n 2, 1) := by decide +kernel
theorem dX12_again_64 : decode cX12_again 64 = .ok (.iconst 2, 1) := by decide +kernel
theorem dX12_again_65 : decode cX12_again 65 = .ok (.iadd, 1) := by decide +kernel
theorem dX12_again_66 : decode cX12_again 66 = .ok (.iaload, 1) := by decide +kernel
theorem dX12_again_67 : decode cX12_again 67 = .ok (.aload_n 0, 1) := by decide +kernel
theorem dX12_again_68 : decode cX12_again 68 = .ok (.getfield 16, 3) := by decide +kernel
theorem dX12_again_71 : decode cX12_again 71 = .ok (.getfield 167, 3) := by decide +kernel
theorem dX12_again_74 : decode cX12_again 74 = .ok (.iload_n 2, 1) := by decide +kernel
theorem dX12_again_75 : decode cX12_again 75 = .ok (.iconst 3, 1) := by decide +kernel
theorem dX12_again_76 : decode cX12_again 76 = .ok (.iadd, 1) := by decide +kernel
theorem dX12_again_77 : decode cX12_again 77 = .ok (.iaload, 1) := by decide +kernel
theorem dX12_again_78 : decode cX12_again 78 = .ok (.aload_n 0, 1) := by decide +kernel
theorem dX12_again_79 : decode cX12_again 79 = .ok (.getfield 16, 3) := by decide +kernel
theorem dX12_again_82 : decode cX12_again 82 = .ok (.getfield 167, 3) := by decide +kernel
theorem dX12_again_85 : decode cX12_again 85 = .ok (.iload_n 2, 1) := by decide +kernel
theorem dX12_again_86 : decode cX12_again 86 = .ok (.iconst 4, 1) := by decide +kernel
theorem dX12_again_87 : decode cX12_again 87 = .ok (.iadd, 1) := by decide +kernel
theorem dX12_again_88 : decode cX12_again 88 = .ok (.iaload, 1) := by decide +kernel
theorem dX12_again_89 : decode cX12_again 89 = .ok (.invokevirtual 40, 3) := by decide +kernel
theorem dX12_again_92 : decode cX12_again 92 = .ok (.istore_n 3, 1) := by decide +kernel
theorem dX12_again_93 : decode cX12_again 93 = .ok (.iload_n 3, 1) := by decide +kernel
theorem dX12_again_94 : decode cX12_again 94 = .ok (.aload_n 0, 1) := by decide +kernel
theorem dX12_again_95 : decode cX12_again 95 = .ok (.getfield 16, 3) := by decide +kernel
theorem dX12_again_98 : decode cX12_again 98 = .ok (.getfield 167, 3) := by decide +kernel
theorem dX12_again_101 : decode cX12_again 101 = .ok (.iload_n 2, 1) := by decide +kernel
theorem dX12_again_102 : decode cX12_again 102 = .ok (.iconst 5, 1) := by decide +kernel
theorem dX12_again_103 : decode cX12_again 103 = .ok (.iadd, 1) := by decide +kernel
theorem dX12_again_104 : decode cX12_again 104 = .ok (.iaload, 1) := by decide +kernel
theorem dX12_again_105 : decode cX12_again 105 = .ok (.if_icmp .eq 5, 3) := by decide +kernel
theorem dX12_again_108 : decode cX12_again 108 = .ok (.iload_n 1, 1) := by decide +kernel
theorem dX12_again_109 : decode cX12_again 109 = .ok (.ireturn, 1) := by decide +kernel
theorem dX12_again_110 : decode cX12_again 110 = .ok (.iinc 1 1, 3) := by decide +kernel
theorem dX12_again_113 : decode cX12_again 113 = .ok (.goto (-97), 3) := by decide +kernel
theorem dX12_again_116 : decode cX12_again 116 = .ok (.iconst (-1), 1) := by decide +kernel
theorem dX12_again_117 : decode cX12_again 117 = .ok (.ireturn, 1) := by decide +kernel
theorem dX12_tell_0 : decode cX12_tell 0 = .ok (.aload_n 0, 1) := by decide +kernel
theorem dX12_tell_1 : decode cX12_tell 1 = .ok (.getfield 161, 3) := by decide +kernel
theorem dX12_tell_4 : decode cX12_tell 4 = .ok (.sipush 600, 3) := by decide +kernel
theorem dX12_tell_7 : decode cX12_tell 7 = .ok (.if_icmp .ne 6, 3) := by decide +kernel
theorem dX12_tell_10 : decode cX12_tell 10 = .ok (.bipush (-10), 2) := by decide +kernel
theorem dX12_tell_12 : decode cX12_tell 12 = .ok (.ireturn, 1) := by decide +kernel
theorem dX12_tell_13 : decode cX12_tell 13 = .ok (.bipush 6, 2) := by decide +kernel
theorem dX12_tell_15 : decode cX12_tell 15 = .ok (.aload_n 0, 1) := by decide +kernel
theorem dX12_tell_16 : decode cX12_tell 16 = .ok (.getfield 161, 3) := by decide +kernel
theorem dX12_tell_19 : decode cX12_tell 19 = .ok (.imul, 1) := by decide +kernel
theorem dX12_tell_20 : decode cX12_tell 20 = .ok (.istore 7, 2) := by decide +kernel
theorem dX12_tell_22 : decode cX12_tell 22 = .ok (.aload_n 0, 1) := by decide +kernel
theorem dX12_tell_23 : decode cX12_tell 23 = .ok (.getfield 33, 3) := by decide +kernel
theorem dX12_tell_26 : decode cX12_tell 26 = .ok (.iload 7, 2) := by decide +kernel
theorem dX12_tell_28 : decode cX12_tell 28 = .ok (.iload_n 1, 1) := by decide +kernel
theorem dX12_tell_29 : decode cX12_tell 29 = .ok (.iastore, 1) := by decide +kernel
theorem dX12_tell_30 : decode cX12_tell 30 = .ok (.aload_n 0, 1) := by decide +kernel
theorem dX12_tell_31 : decode cX12_tell 31 = .ok (.getfield 33, 3) := by decide +kernel
theorem dX12_tell_34 : decode cX12_tell 34 = .ok (.iload 7, 2) := by decide +kernel
theorem dX12_tell_36 : decode cX12_tell 36 = .ok (.iconst 1, 1) := by decide +kernel
theorem dX12_tell_37 : decode cX12_tell 37 = .ok (.iadd, 1) := by decide +kernel
theorem dX12_tell_38 : decode cX12_tell 38 = .ok (.iload_n 2, 1) := by decide +kernel
theorem dX12_tell_39 : decode cX12_tell 39 = .ok (.iastore, 1) := by decide +kernel
theorem dX12_tell_40 : decode cX12_tell 40 = .ok (.aload_n 0, 1) := by decide +kernel
theorem dX12_tell_41 : decode cX12_tell 41 = .ok (.getfield 33, 3) := by decide +kernel
theorem dX12_tell_44 : decode cX12_tell 44 = .ok (.iload 7, 2) := by decide +kernel
theorem dX12_tell_46 : decode cX12_tell 46 = .ok (.iconst 2, 1) := by decide +kernel
theorem dX12_tell_47 : decode cX12_tell 47 = .ok (.iadd, 1) := by decide +kernel
theorem dX12_tell_48 : decode cX12_tell 48 = .ok (.iload_n 3, 1) := by decide +kernel
theorem dX12_tell_49 : decode cX12_tell 49 = .ok (.iastore, 1) := by decide +kernel
theorem dX12_tell_50 : decode cX12_tell 50 = .ok (.aload_n 0, 1) := by decide +kernel
theorem dX12_tell_51 : decode cX12_tell 51 = .ok (.getfield 33, 3) := by decide +kernel
theorem dX12_tell_54 : decode cX12_tell 54 = .ok (.iload 7, 2) := by decide +kernel
theorem dX12_tell_56 : decode cX12_tell 56 = .ok (.iconst 3, 1) := by decide +kernel
theorem dX12_tell_57 : decode cX12_tell 57 = .ok (.iadd, 1) := by decide +kernel
theorem dX12_tell_58 : decode cX12_tell 58 = .ok (.iload 4, 2) := by decide +kernel
theorem dX12_tell_60 : decode cX12_tell 60 = .ok (.iastore, 1) := by decide +kernel
theorem dX12_tell_61 : decode cX12_tell 61 = .ok (.aload_n 0, 1) := by decide +kernel
theorem dX12_tell_62 : decode cX12_tell 62 = .ok (.getfield 33, 3) := by decide +kernel
theorem dX12_tell_65 : decode cX12_tell 65 = .ok (.iload 7, 2) := by decide +kernel
theorem dX12_tell_67 : decode cX12_tell 67 = .ok (.iconst 4, 1) := by decide +kernel
theorem dX12_tell_68 : decode cX12_tell 68 = .ok (.iadd, 1) := by decide +kernel
theorem dX12_tell_69 : decode cX12_tell 69 = .ok (.iload 5, 2) := by decide +kernel
theorem dX12_tell_71 : decode cX12_tell 71 = .ok (.iastore, 1) := by decide +kernel
theorem dX12_tell_72 : decode cX12_tell 72 = .ok (.aload_n 0, 1) := by decide +kernel
theorem dX12_tell_73 : decode cX12_tell 73 = .ok (.getfield 33, 3) := by decide +kernel
theorem dX12_tell_76 : decode cX12_tell 76 = .ok (.iload 7, 2) := by decide +kernel
theorem dX12_tell_78 : decode cX12_tell 78 = .ok (.iconst 5, 1) := by decide +kernel
theorem dX12_tell_79 : decode cX12_tell 79 = .ok (.iadd, 1) := by decide +kernel
theorem dX12_tell_80 : decode cX12_tell 80 = .ok (.iload 6, 2) := by decide +kernel
theorem dX12_tell_82 : decode cX12_tell 82 = .ok (.iastore, 1) := by decide +kernel
theorem dX12_tell_83 : decode cX12_tell 83 = .ok (.aload_n 0, 1) := by decide +kernel
theorem dX12_tell_84 : decode cX12_tell 84 = .ok (.dup, 1) := by decide +kernel
theorem dX12_tell_85 : decode cX12_tell 85 = .ok (.getfield 161, 3) := by decide +kernel
theorem dX12_tell_88 : decode cX12_tell 88 = .ok (.iconst 1, 1) := by decide +kernel
theorem dX12_tell_89 : decode cX12_tell 89 = .ok (.iadd, 1) := by decide +kernel
theorem dX12_tell_90 : decode cX12_tell 90 = .ok (.putfield 161, 3) := by decide +kernel
theorem dX12_tell_93 : decode cX12_tell 93 = .ok (.aload_n 0, 1) := by decide +kernel
theorem dX12_tell_94 : decode cX12_tell 94 = .ok (.getfield 161, 3) := by decide +kernel
theorem dX12_tell_97 : decode cX12_tell 97 = .ok (.ireturn, 1) := by decide +kernel
set_option maxRecDepth 20000 in
theorem ggX12_check_X11_begin : GoodIn wsX12_check wsX11_begin := goodIn_r _ [10, 11, 12, 13, 14, 15, 16, 17, 18, 19, 20, 21, 22, 23, 24, 25, 26, 27, 186, 187, 188, 189, 190, 191, 192, 193, 194, 195, 196, 197, 198, 199, 200, 201, 202, 203, 204, 205, 206, 207, 208, 209, 210, 211, 212, 213, 214, 215, 216, 217, 218, 219, 220, 221, 222, 223, 224, 225, 226, 227] (by decide +kernel) (by decide +kernel)
set_option maxRecDepth 20000 in
theorem gX12_check_X11_begin : GoodIn wsX12_check (wsV RX12 36 RX11 yX11_begin wsX11_begin) := goodIn_app (goodIn_of _ (by decide +kernel)) ggX12_check_X11_begin
set_option maxRecDepth 20000 in
theorem ggX12_check_X12_numbers : GoodIn wsX12_check wsX12_numbers := goodIn_r _ [31, 32, 33, 30, 34] (by decide +kernel) (by decide +kernel)
set_option maxRecDepth 20000 in
theorem gX12_check_X12_numbers : GoodIn wsX12_check (va_wsS RX12 174 yX12_numbers wsX12_numbers) := goodIn_app (goodIn_of _ (by decide +kernel)) ggX12_check_X12_numbers
set_option maxRecDepth 20000 in
theorem ggX12_check_X11_act : GoodIn wsX12_check wsX11_act := goodIn_r _ [38, 18, 21, 39, 40, 41, 42, 9, 43, 24, 17, 13, 16, 44, 45, 15, 46, 47, 48, 22, 27, 49, 50, 51, 52, 53, 11, 33, 30, 34, 54, 55, 56, 57, 58, 59, 60, 61, 62, 63, 64, 65, 66, 67, 68, 69, 70, 71, 72, 73, 74, 75, 76, 77, 78, 79, 80, 81, 82, 83, 84, 85, 86, 87, 88, 89, 90, 91, 92, 93, 94, 95, 96, 97, 12, 14, 98, 99, 100, 101, 102, 103, 104, 105, 106, 107, 108, 109, 110, 111, 112, 113, 25, 114, 115, 116, 117, 118, 119, 26, 120, 121, 122, 123, 124, 125, 126, 127, 128, 129, 130, 131, 132, 133, 134, 135, 136, 137, 138, 139, 140, 141, 142, 143, 144, 145, 146, 147, 148, 149, 150, 151, 152, 153, 154, 155, 156, 157, 158, 159, 160, 19, 161, 162, 163, 164, 165, 166, 167, 168, 169, 20, 23, 170, 171, 172, 173, 174, 175, 176, 177, 178, 29, 31, 32, 186, 187, 188, 189, 190, 191, 192, 193, 194, 195, 196, 197, 198, 199, 200, 201, 202, 203, 204, 205, 206, 207, 208, 209, 210, 211, 212, 213, 214, 215, 216, 217, 218, 219, 220, 221, 222, 223, 224, 225, 226, 227] (by decide +kernel) (by decide +kernel)
set_option maxRecDepth 20000 in
theorem gX12_check_X11_act : GoodIn wsX12_check (wsV RX12 40 RX11 yX11_act wsX11_act) := goodIn_app (goodIn_of _ (by decide +kernel)) ggX12_check_X11_act
theorem dX12_check_0 : decode cX12_check 0 = .ok (.aload_n 0, 1) := by decide +kernel
theorem dX12_check_1 : decode cX12_check 1 = .ok (.getfield 20, 3) := by decide +kernel
theorem dX12_check_4 : decode cX12_check 4 = .ok (.aload_n 0, 1) := by decide +kernel
theorem dX12_check_5 : decode cX12_check 5 = .ok (.getfield 16, 3) := by decide +kernel
theorem dX12_check_8 : decode cX12_check 8 = .ok (.getfield 96, 3) := by decide +kernel
theorem dX12_check_11 : decode cX12_check 11 = .ok (.invokevirtual 36, 3) := by decide +kernel
theorem dX12_check_14 : decode cX12_check 14 = .ok (.iconst 0, 1) := by decide +kernel
theorem dX12_check_15 : decode cX12_check 15 = .ok (.istore_n 1, 1) := by decide +kernel
theorem dX12_check_16 : decode cX12_check 16 = .ok (.iload_n 1, 1) := by decide +kernel
theorem dX12_check_17 : decode cX12_check 17 = .ok (.aload_n 0, 1) := by decide +kernel
theorem dX12_check_18 : decode cX12_check 18 = .ok (.getfield 161, 3) := by decide +kernel
theorem dX12_check_21 : decode cX12_check 21 = .ok (.if_icmp .ge 129, 3) := by decide +kernel
theorem dX12_check_24 : decode cX12_check 24 = .ok (.bipush 6, 2) := by decide +kernel
theorem dX12_check_26 : decode cX12_check 26 = .ok (.iload_n 1, 1) := by decide +kernel
theorem dX12_check_27 : decode cX12_check 27 = .ok (.imul, 1) := by decide +kernel
theorem dX12_check_28 : decode cX12_check 28 = .ok (.istore_n 2, 1) := by decide +kernel
theorem dX12_check_29 : decode cX12_check 29 = .ok (.aload_n 0, 1) := by decide +kernel
theorem dX12_check_30 : decode cX12_check 30 = .ok (.getfield 33, 3) := by decide +kernel
theorem dX12_check_33 : decode cX12_check 33 = .ok (.iload_n 2, 1) := by decide +kernel
theorem dX12_check_34 : decode cX12_check 34 = .ok (.iaload, 1) := by decide +kernel
theorem dX12_check_35 : decode cX12_check 35 = .ok (.invokestatic 174, 3) := by decide +kernel
theorem dX12_check_38 : decode cX12_check 38 = .ok (.istore_n 3, 1) := by decide +kernel
theorem dX12_check_39 : decode cX12_check 39 = .ok (.iload_n 3, 1) := by decide +kernel
theorem dX12_check_40 : decode cX12_check 40 = .ok (.iconst (-1), 1) := by decide +kernel
theorem dX12_check_41 : decode cX12_check 41 = .ok (.if_icmp .ne 5, 3) := by decide +kernel
theorem dX12_check_44 : decode cX12_check 44 = .ok (.iload_n 1, 1) := by decide +kernel
theorem dX12_check_45 : decode cX12_check 45 = .ok (.ireturn, 1) := by decide +kernel
theorem dX12_check_46 : decode cX12_check 46 = .ok (.iload_n 3, 1) := by decide +kernel
theorem dX12_check_47 : decode cX12_check 47 = .ok (.iconst 1, 1) := by decide +kernel
theorem dX12_check_48 : decode cX12_check 48 = .ok (.iadd, 1) := by decide +kernel
theorem dX12_check_49 : decode cX12_check 49 = .ok (.istore 4, 2) := by decide +kernel
theorem dX12_check_51 : decode cX12_check 51 = .ok (.iload 4, 2) := by decide +kernel
theorem dX12_check_53 : decode cX12_check 53 = .ok (.iconst 4, 1) := by decide +kernel
theorem dX12_check_54 : decode cX12_check 54 = .ok (.if_icmp .gt 23, 3) := by decide +kernel
theorem dX12_check_57 : decode cX12_check 57 = .ok (.aload_n 0, 1) := by decide +kernel
theorem dX12_check_58 : decode cX12_check 58 = .ok (.getfield 33, 3) := by decide +kernel
theorem dX12_check_61 : decode cX12_check 61 = .ok (.iload_n 2, 1) := by decide +kernel
theorem dX12_check_62 : decode cX12_check 62 = .ok (.iload 4, 2) := by decide +kernel
theorem dX12_check_64 : decode cX12_check 64 = .ok (.iadd, 1) := by decide +kernel
theorem dX12_check_65 : decode cX12_check 65 = .ok (.iaload, 1) := by decide +kernel
theorem dX12_check_66 : decode cX12_check 66 = .ok (.ifCond .eq 5, 3) := by decide +kernel
theorem dX12_check_69 : decode cX12_check 69 = .ok (.iload_n 1, 1) := by decide +kernel
theorem dX12_check_70 : decode cX12_check 70 = .ok (.ireturn, 1) := by decide +kernel
theorem dX12_check_71 : decode cX12_check 71 = .ok (.iinc 4 1, 3) := by decide +kernel
theorem dX12_check_74 : decode cX12_check 74 = .ok (.goto (-23), 3) := by decide +kernel
theorem dX12_check_77 : decode cX12_check 77 = .ok (.aload_n 0, 1) := by decide +kernel
theorem dX12_check_78 : decode cX12_check 78 = .ok (.getfield 20, 3) := by decide +kernel
theorem dX12_check_81 : decode cX12_check 81 = .ok (.aload_n 0, 1) := by decide +kernel
theorem dX12_check_82 : decode cX12_check 82 = .ok (.getfield 33, 3) := by decide +kernel
theorem dX12_check_85 : decode cX12_check 85 = .ok (.iload_n 2, 1) := by decide +kernel
theorem dX12_check_86 : decode cX12_check 86 = .ok (.iaload, 1) := by decide +kernel
theorem dX12_check_87 : decode cX12_check 87 = .ok (.aload_n 0, 1) := by decide +kernel
theorem dX12_check_88 : decode cX12_check 88 = .ok (.getfield 33, 3) := by decide +kernel
theorem dX12_check_91 : decode cX12_check 91 = .ok (.iload_n 2, 1) := by decide +kernel
theorem dX12_check_92 : decode cX12_check 92 = .ok (.iconst 1, 1) := by decide +kernel
theorem dX12_check_93 : decode cX12_check 93 = .ok (.iadd, 1) := by decide +kernel
theorem dX12_check_94 : decode cX12_check 94 = .ok (.iaload, 1) := by decide +kernel
theorem dX12_check_95 : decode cX12_check 95 = .ok (.aload_n 0, 1) := by decide +kernel
theorem dX12_check_96 : decode cX12_check 96 = .ok (.getfield 33, 3) := by decide +kernel
theorem dX12_check_99 : decode cX12_check 99 = .ok (.iload_n 2, 1) := by decide +kernel
theorem dX12_check_100 : decode cX12_check 100 = .ok (.iconst 2, 1) := by decide +kernel
theorem dX12_check_101 : decode cX12_check 101 = .ok (.iadd, 1) := by decide +kernel
theorem dX12_check_102 : decode cX12_check 102 = .ok (.iaload, 1) := by decide +kernel
theorem dX12_check_103 : decode cX12_check 103 = .ok (.aload_n 0, 1) := by decide +kernel
theorem dX12_check_104 : decode cX12_check 104 = .ok (.getfield 33, 3) := by decide +kernel
theorem dX12_check_107 : decode cX12_check 107 = .ok (.iload_n 2, 1) := by decide +kernel
theorem dX12_check_108 : decode cX12_check 108 = .ok (.iconst 3, 1) := by decide +kernel
theorem dX12_check_109 : decode cX12_check 109 = .ok (.iadd, 1) := by decide +kernel
theorem dX12_check_110 : decode cX12_check 110 = .ok (.iaload, 1) := by decide +kernel
theorem dX12_check_111 : decode cX12_check 111 = .ok (.aload_n 0, 1) := by decide +kernel
theorem dX12_check_112 : decode cX12_check 112 = .ok (.getfield 33, 3) := by decide +kernel
theorem dX12_check_115 : decode cX12_check 115 = .ok (.iload_n 2, 1) := by decide +kernel
theorem dX12_check_116 : decode cX12_check 116 = .ok (.iconst 4, 1) := by decide +kernel
theorem dX12_check_117 : decode cX12_check 117 = .ok (.iadd, 1) := by decide +kernel
theorem dX12_check_118 : decode cX12_check 118 = .ok (.iaload, 1) := by decide +kernel
theorem dX12_check_119 : decode cX12_check 119 = .ok (.invokevirtual 40, 3) := by decide +kernel
theorem dX12_check_122 : decode cX12_check 122 = .ok (.istore 4, 2) := by decide +kernel
theorem dX12_check_124 : decode cX12_check 124 = .ok (.iload 4, 2) := by decide +kernel
theorem dX12_check_126 : decode cX12_check 126 = .ok (.ifCond .lt 16, 3) := by decide +kernel
theorem dX12_check_129 : decode cX12_check 129 = .ok (.iload 4, 2) := by decide +kernel
theorem dX12_check_131 : decode cX12_check 131 = .ok (.aload_n 0, 1) := by decide +kernel
theorem dX12_check_132 : decode cX12_check 132 = .ok (.getfield 33, 3) := by decide +kernel
theorem dX12_check_135 : decode cX12_check 135 = .ok (.iload_n 2, 1) := by decide +kernel
theorem dX12_check_136 : decode cX12_check 136 = .ok (.iconst 5, 1) := by decide +kernel
theorem dX12_check_137 : decode cX12_check 137 = .ok (.iadd, 1) := by decide +kernel
theorem dX12_check_138 : decode cX12_check 138 = .ok (.iaload, 1) := by decide +kernel
theorem dX12_check_139 : decode cX12_check 139 = .ok (.if_icmp .eq 5, 3) := by decide +kernel
theorem dX12_check_142 : decode cX12_check 142 = .ok (.iload_n 1, 1) := by decide +kernel
theorem dX12_check_143 : decode cX12_check 143 = .ok (.ireturn, 1) := by decide +kernel
theorem dX12_check_144 : decode cX12_check 144 = .ok (.iinc 1 1, 3) := by decide +kernel
theorem dX12_check_147 : decode cX12_check 147 = .ok (.goto (-131), 3) := by decide +kernel
theorem dX12_check_150 : decode cX12_check 150 = .ok (.iconst (-1), 1) := by decide +kernel
theorem dX12_check_151 : decode cX12_check 151 = .ok (.ireturn, 1) := by decide +kernel
theorem dX12_strike_0 : decode cX12_strike 0 = .ok (.aload_n 0, 1) := by decide +kernel
theorem dX12_strike_1 : decode cX12_strike 1 = .ok (.getfield 161, 3) := by decide +kernel
theorem dX12_strike_4 : decode cX12_strike 4 = .ok (.istore_n 1, 1) := by decide +kernel
theorem dX12_strike_5 : decode cX12_strike 5 = .ok (.aload_n 0, 1) := by decide +kernel
theorem dX12_strike_6 : decode cX12_strike 6 = .ok (.iconst 0, 1) := by decide +kernel
theorem dX12_strike_7 : decode cX12_strike 7 = .ok (.putfield 161, 3) := by decide +kernel
theorem dX12_strike_10 : decode cX12_strike 10 = .ok (.iload_n 1, 1) := by decide +kernel
theorem dX12_strike_11 : decode cX12_strike 11 = .ok (.ireturn, 1) := by decide +kernel
set_option maxRecDepth 20000 in
theorem ggX12_image_X12_in : GoodIn wsX12_image wsX12_in := goodIn_r _ [11] (by decide +kernel) (by decide +kernel)
set_option maxRecDepth 20000 in
theorem gX12_image_X12_in : GoodIn wsX12_image (va_wsS RX12 1 yX12_in wsX12_in) := goodIn_app (goodIn_of _ (by decide +kernel)) ggX12_image_X12_in
theorem dX12_image_0 : decode cX12_image 0 = .ok (.iload_n 1, 1) := by decide +kernel
theorem dX12_image_1 : decode cX12_image 1 = .ok (.iconst 0, 1) := by decide +kernel
theorem dX12_image_2 : decode cX12_image 2 = .ok (.iconst 1, 1) := by decide +kernel
theorem dX12_image_3 : decode cX12_image 3 = .ok (.invokestatic 1, 3) := by decide +kernel
theorem dX12_image_6 : decode cX12_image 6 = .ok (.ifCond .ne 6, 3) := by decide +kernel
theorem dX12_image_9 : decode cX12_image 9 = .ok (.bipush (-9), 2) := by decide +kernel
theorem dX12_image_11 : decode cX12_image 11 = .ok (.ireturn, 1) := by decide +kernel
theorem dX12_image_12 : decode cX12_image 12 = .ok (.aload_n 0, 1) := by decide +kernel
theorem dX12_image_13 : decode cX12_image 13 = .ok (.getfield 23, 3) := by decide +kernel
theorem dX12_image_16 : decode cX12_image 16 = .ok (.iload_n 1, 1) := by decide +kernel
theorem dX12_image_17 : decode cX12_image 17 = .ok (.aload_n 0, 1) := by decide +kernel
theorem dX12_image_18 : decode cX12_image 18 = .ok (.getfield 16, 3) := by decide +kernel
theorem dX12_image_21 : decode cX12_image 21 = .ok (.getfield 96, 3) := by decide +kernel
theorem dX12_image_24 : decode cX12_image 24 = .ok (.iastore, 1) := by decide +kernel
theorem dX12_image_25 : decode cX12_image 25 = .ok (.aload_n 0, 1) := by decide +kernel
theorem dX12_image_26 : decode cX12_image 26 = .ok (.getfield 27, 3) := by decide +kernel
theorem dX12_image_29 : decode cX12_image 29 = .ok (.iload_n 1, 1) := by decide +kernel
theorem dX12_image_30 : decode cX12_image 30 = .ok (.aload_n 0, 1) := by decide +kernel
theorem dX12_image_31 : decode cX12_image 31 = .ok (.getfield 16, 3) := by decide +kernel
theorem dX12_image_34 : decode cX12_image 34 = .ok (.getfield 48, 3) := by decide +kernel
theorem dX12_image_37 : decode cX12_image 37 = .ok (.iastore, 1) := by decide +kernel
theorem dX12_image_38 : decode cX12_image 38 = .ok (.iconst 0, 1) := by decide +kernel
theorem dX12_image_39 : decode cX12_image 39 = .ok (.istore_n 2, 1) := by decide +kernel
theorem dX12_image_40 : decode cX12_image 40 = .ok (.iload_n 2, 1) := by decide +kernel
theorem dX12_image_41 : decode cX12_image 41 = .ok (.bipush 6, 2) := by decide +kernel
theorem dX12_image_43 : decode cX12_image 43 = .ok (.aload_n 0, 1) := by decide +kernel
theorem dX12_image_44 : decode cX12_image 44 = .ok (.getfield 16, 3) := by decide +kernel
theorem dX12_image_47 : decode cX12_image 47 = .ok (.getfield 48, 3) := by decide +kernel
theorem dX12_image_50 : decode cX12_image 50 = .ok (.imul, 1) := by decide +kernel
theorem dX12_image_51 : decode cX12_image 51 = .ok (.if_icmp .ge 30, 3) := by decide +kernel
theorem dX12_image_54 : decode cX12_image 54 = .ok (.aload_n 0, 1) := by decide +kernel
theorem dX12_image_55 : decode cX12_image 55 = .ok (.getfield 30, 3) := by decide +kernel
theorem dX12_image_58 : decode cX12_image 58 = .ok (.sipush 3600, 3) := by decide +kernel
theorem dX12_image_61 : decode cX12_image 61 = .ok (.iload_n 1, 1) := by decide +kernel
theorem dX12_image_62 : decode cX12_image 62 = .ok (.imul, 1) := by decide +kernel
theorem dX12_image_63 : decode cX12_image 63 = .ok (.iload_n 2, 1) := by decide +kernel
theorem dX12_image_64 : decode cX12_image 64 = .ok (.iadd, 1) := by decide +kernel
theorem dX12_image_65 : decode cX12_image 65 = .ok (.aload_n 0, 1) := by decide +kernel
theorem dX12_image_66 : decode cX12_image 66 = .ok (.getfield 16, 3) := by decide +kernel
theorem dX12_image_69 : decode cX12_image 69 = .ok (.getfield 167, 3) := by decide +kernel
theorem dX12_image_72 : decode cX12_image 72 = .ok (.iload_n 2, 1) := by decide +kernel
theorem dX12_image_73 : decode cX12_image 73 = .ok (.iaload, 1) := by decide +kernel
theorem dX12_image_74 : decode cX12_image 74 = .ok (.iastore, 1) := by decide +kernel
theorem dX12_image_75 : decode cX12_image 75 = .ok (.iinc 2 1, 3) := by decide +kernel
theorem dX12_image_78 : decode cX12_image 78 = .ok (.goto (-38), 3) := by decide +kernel
theorem dX12_image_81 : decode cX12_image 81 = .ok (.aload_n 0, 1) := by decide +kernel
theorem dX12_image_82 : decode cX12_image 82 = .ok (.getfield 16, 3) := by decide +kernel
theorem dX12_image_85 : decode cX12_image 85 = .ok (.getfield 48, 3) := by decide +kernel
theorem dX12_image_88 : decode cX12_image 88 = .ok (.ireturn, 1) := by decide +kernel
set_option maxRecDepth 20000 in
theorem ggX12_back_X12_in : GoodIn wsX12_back wsX12_in := goodIn_r _ [9] (by decide +kernel) (by decide +kernel)
set_option maxRecDepth 20000 in
theorem gX12_back_X12_in : GoodIn wsX12_back (va_wsS RX12 1 yX12_in wsX12_in) := goodIn_app (goodIn_of _ (by decide +kernel)) ggX12_back_X12_in
set_option maxRecDepth 20000 in
theorem ggX12_back_X11_begin : GoodIn wsX12_back wsX11_begin := goodIn_r _ [14, 15, 16, 17, 18, 19, 20, 21, 22, 23, 24, 25, 26, 27, 28, 29, 30, 31, 185, 186, 187, 188, 189, 190, 191, 192, 193, 194, 195, 196, 197, 198, 199, 200, 201, 202, 203, 204, 205, 206, 207, 208, 209, 210, 211, 212, 213, 214, 215, 216, 217, 218, 219, 220, 221, 222, 223, 224, 225, 226] (by decide +kernel) (by decide +kernel)
set_option maxRecDepth 20000 in
theorem gX12_back_X11_begin : GoodIn wsX12_back (wsV RX12 36 RX11 yX11_begin wsX11_begin) := goodIn_app (goodIn_of _ (by decide +kernel)) ggX12_back_X11_begin
set_option maxRecDepth 20000 in
theorem ggX12_back_X11_act : GoodIn wsX12_back wsX11_act := goodIn_r _ [35, 22, 25, 36, 37, 38, 39, 13, 40, 28, 21, 17, 20, 41, 42, 19, 43, 44, 45, 26, 31, 46, 47, 48, 49, 50, 15, 7, 8, 9, 51, 52, 53, 54, 55, 56, 57, 58, 59, 60, 61, 62, 63, 64, 65, 66, 67, 68, 69, 70, 71, 72, 73, 74, 75, 76, 77, 78, 79, 80, 81, 82, 83, 84, 85, 86, 87, 88, 89, 90, 91, 92, 93, 94, 16, 18, 95, 96, 97, 98, 99, 100, 101, 102, 103, 104, 105, 106, 107, 108, 109, 110, 29, 111, 112, 113, 114, 115, 116, 30, 117, 118, 119, 120, 121, 122, 123, 124, 125, 126, 127, 128, 129, 130, 131, 132, 133, 134, 135, 136, 137, 138, 139, 140, 141, 142, 143, 144, 145, 146, 147, 148, 149, 150, 151, 152, 153, 154, 155, 156, 157, 23, 158, 159, 160, 161, 162, 163, 164, 165, 166, 24, 27, 167, 168, 169, 170, 171, 172, 173, 174, 175, 176, 177, 6, 185, 186, 187, 188, 189, 190, 191, 192, 193, 194, 195, 196, 197, 198, 199, 200, 201, 202, 203, 204, 205, 206, 207, 208, 209, 210, 211, 212, 213, 214, 215, 216, 217, 218, 219, 220, 221, 222, 223, 224, 225, 226] (by decide +kernel) (by decide +kernel)
set_option maxRecDepth 20000 in
theorem gX12_back_X11_act : GoodIn wsX12_back (wsV RX12 40 RX11 yX11_act wsX11_act) := goodIn_app (goodIn_of _ (by decide +kernel)) ggX12_back_X11_act
theorem dX12_back_0 : decode cX12_back 0 = .ok (.iload_n 1, 1) := by decide +kernel
theorem dX12_back_1 : decode cX12_back 1 = .ok (.iconst 0, 1) := by decide +kernel
theorem dX12_back_2 : decode cX12_back 2 = .ok (.iconst 1, 1) := by decide +kernel
theorem dX12_back_3 : decode cX12_back 3 = .ok (.invokestatic 1, 3) := by decide +kernel
theorem dX12_back_6 : decode cX12_back 6 = .ok (.ifCond .ne 6, 3) := by decide +kernel
theorem dX12_back_9 : decode cX12_back 9 = .ok (.bipush (-9), 2) := by decide +kernel
theorem dX12_back_11 : decode cX12_back 11 = .ok (.ireturn, 1) := by decide +kernel
theorem dX12_back_12 : decode cX12_back 12 = .ok (.aload_n 0, 1) := by decide +kernel
theorem dX12_back_13 : decode cX12_back 13 = .ok (.getfield 27, 3) := by decide +kernel
theorem dX12_back_16 : decode cX12_back 16 = .ok (.iload_n 1, 1) := by decide +kernel
theorem dX12_back_17 : decode cX12_back 17 = .ok (.iaload, 1) := by decide +kernel
theorem dX12_back_18 : decode cX12_back 18 = .ok (.iconst (-1), 1) := by decide +kernel
theorem dX12_back_19 : decode cX12_back 19 = .ok (.if_icmp .ne 6, 3) := by decide +kernel
theorem dX12_back_22 : decode cX12_back 22 = .ok (.bipush (-11), 2) := by decide +kernel
theorem dX12_back_24 : decode cX12_back 24 = .ok (.ireturn, 1) := by decide +kernel
theorem dX12_back_25 : decode cX12_back 25 = .ok (.aload_n 0, 1) := by decide +kernel
theorem dX12_back_26 : decode cX12_back 26 = .ok (.getfield 16, 3) := by decide +kernel
theorem dX12_back_29 : decode cX12_back 29 = .ok (.aload_n 0, 1) := by decide +kernel
theorem dX12_back_30 : decode cX12_back 30 = .ok (.getfield 23, 3) := by decide +kernel
theorem dX12_back_33 : decode cX12_back 33 = .ok (.iload_n 1, 1) := by decide +kernel
theorem dX12_back_34 : decode cX12_back 34 = .ok (.iaload, 1) := by decide +kernel
theorem dX12_back_35 : decode cX12_back 35 = .ok (.invokevirtual 36, 3) := by decide +kernel
theorem dX12_back_38 : decode cX12_back 38 = .ok (.iconst 0, 1) := by decide +kernel
theorem dX12_back_39 : decode cX12_back 39 = .ok (.istore_n 2, 1) := by decide +kernel
theorem dX12_back_40 : decode cX12_back 40 = .ok (.iload_n 2, 1) := by decide +kernel
theorem dX12_back_41 : decode cX12_back 41 = .ok (.aload_n 0, 1) := by decide +kernel
theorem dX12_back_42 : decode cX12_back 42 = .ok (.getfield 27, 3) := by decide +kernel
theorem dX12_back_45 : decode cX12_back 45 = .ok (.iload_n 1, 1) := by decide +kernel
theorem dX12_back_46 : decode cX12_back 46 = .ok (.iaload, 1) := by decide +kernel
theorem dX12_back_47 : decode cX12_back 47 = .ok (.if_icmp .ge 67, 3) := by decide +kernel
theorem dX12_back_50 : decode cX12_back 50 = .ok (.sipush 3600, 3) := by decide +kernel
theorem dX12_back_53 : decode cX12_back 53 = .ok (.iload_n 1, 1) := by decide +kernel
theorem dX12_back_54 : decode cX12_back 54 = .ok (.imul, 1) := by decide +kernel
theorem dX12_back_55 : decode cX12_back 55 = .ok (.bipush 6, 2) := by decide +kernel
theorem dX12_back_57 : decode cX12_back 57 = .ok (.iload_n 2, 1) := by decide +kernel
theorem dX12_back_58 : decode cX12_back 58 = .ok (.imul, 1) := by decide +kernel
theorem dX12_back_59 : decode cX12_back 59 = .ok (.iadd, 1) := by decide +kernel
theorem dX12_back_60 : decode cX12_back 60 = .ok (.istore_n 3, 1) := by decide +kernel
theorem dX12_back_61 : decode cX12_back 61 = .ok (.aload_n 0, 1) := by decide +kernel
theorem dX12_back_62 : decode cX12_back 62 = .ok (.getfield 16, 3) := by decide +kernel
theorem dX12_back_65 : decode cX12_back 65 = .ok (.aload_n 0, 1) := by decide +kernel
theorem dX12_back_66 : decode cX12_back 66 = .ok (.getfield 30, 3) := by decide +kernel
theorem dX12_back_69 : decode cX12_back 69 = .ok (.iload_n 3, 1) := by decide +kernel
theorem dX12_back_70 : decode cX12_back 70 = .ok (.iaload, 1) := by decide +kernel
theorem dX12_back_71 : decode cX12_back 71 = .ok (.aload_n 0, 1) := by decide +kernel
theorem dX12_back_72 : decode cX12_back 72 = .ok (.getfield 30, 3) := by decide +kernel
theorem dX12_back_75 : decode cX12_back 75 = .ok (.iload_n 3, 1) := by decide +kernel
theorem dX12_back_76 : decode cX12_back 76 = .ok (.iconst 1, 1) := by decide +kernel
theorem dX12_back_77 : decode cX12_back 77 = .ok (.iadd, 1) := by decide +kernel
theorem dX12_back_78 : decode cX12_back 78 = .ok (.iaload, 1) := by decide +kernel
theorem dX12_back_79 : decode cX12_back 79 = .ok (.aload_n 0, 1) := by decide +kernel
theorem dX12_back_80 : decode cX12_back 80 = .ok (.getfield 30, 3) := by decide +kernel
theorem dX12_back_83 : decode cX12_back 83 = .ok (.iload_n 3, 1) := by decide +kernel
theorem dX12_back_84 : decode cX12_back 84 = .ok (.iconst 2, 1) := by decide +kernel
theorem dX12_back_85 : decode cX12_back 85 = .ok (.iadd, 1) := by decide +kernel
theorem dX12_back_86 : decode cX12_back 86 = .ok (.iaload, 1) := by decide +kernel
theorem dX12_back_87 : decode cX12_back 87 = .ok (.aload_n 0, 1) := by decide +kernel
theorem dX12_back_88 : decode cX12_back 88 = .ok (.getfield 30, 3) := by decide +kernel
theorem dX12_back_91 : decode cX12_back 91 = .ok (.iload_n 3, 1) := by decide +kernel
theorem dX12_back_92 : decode cX12_back 92 = .ok (.iconst 3, 1) := by decide +kernel
theorem dX12_back_93 : decode cX12_back 93 = .ok (.iadd, 1) := by decide +kernel
theorem dX12_back_94 : decode cX12_back 94 = .ok (.iaload, 1) := by decide +kernel
theorem dX12_back_95 : decode cX12_back 95 = .ok (.aload_n 0, 1) := by decide +kernel
theorem dX12_back_96 : decode cX12_back 96 = .ok (.getfield 30, 3) := by decide +kernel
theorem dX12_back_99 : decode cX12_back 99 = .ok (.iload_n 3, 1) := by decide +kernel
theorem dX12_back_100 : decode cX12_back 100 = .ok (.iconst 4, 1) := by decide +kernel
theorem dX12_back_101 : decode cX12_back 101 = .ok (.iadd, 1) := by decide +kernel
theorem dX12_back_102 : decode cX12_back 102 = .ok (.iaload, 1) := by decide +kernel
theorem dX12_back_103 : decode cX12_back 103 = .ok (.invokevirtual 40, 3) := by decide +kernel
theorem dX12_back_106 : decode cX12_back 106 = .ok (.istore 4, 2) := by decide +kernel
theorem dX12_back_108 : decode cX12_back 108 = .ok (.iinc 2 1, 3) := by decide +kernel
theorem dX12_back_111 : decode cX12_back 111 = .ok (.goto (-71), 3) := by decide +kernel
theorem dX12_back_114 : decode cX12_back 114 = .ok (.aload_n 0, 1) := by decide +kernel
theorem dX12_back_115 : decode cX12_back 115 = .ok (.getfield 16, 3) := by decide +kernel
theorem dX12_back_118 : decode cX12_back 118 = .ok (.iconst 0, 1) := by decide +kernel
theorem dX12_back_119 : decode cX12_back 119 = .ok (.putfield 52, 3) := by decide +kernel
theorem dX12_back_122 : decode cX12_back 122 = .ok (.aload_n 0, 1) := by decide +kernel
theorem dX12_back_123 : decode cX12_back 123 = .ok (.getfield 27, 3) := by decide +kernel
theorem dX12_back_126 : decode cX12_back 126 = .ok (.iload_n 1, 1) := by decide +kernel
theorem dX12_back_127 : decode cX12_back 127 = .ok (.iaload, 1) := by decide +kernel
theorem dX12_back_128 : decode cX12_back 128 = .ok (.ireturn, 1) := by decide +kernel
theorem dJ9_max_7cf53_0 : decode cJ9_max_7cf53 0 = .ok (.iload_n 0, 1) := by decide +kernel
theorem dJ9_max_7cf53_1 : decode cJ9_max_7cf53 1 = .ok (.iload_n 1, 1) := by decide +kernel
theorem dJ9_max_7cf53_2 : decode cJ9_max_7cf53 2 = .ok (.if_icmp .lt 7, 3) := by decide +kernel
theorem dJ9_max_7cf53_5 : decode cJ9_max_7cf53 5 = .ok (.iload_n 0, 1) := by decide +kernel
theorem dJ9_max_7cf53_6 : decode cJ9_max_7cf53 6 = .ok (.goto 4, 3) := by decide +kernel
theorem dJ9_max_7cf53_9 : decode cJ9_max_7cf53 9 = .ok (.iload_n 1, 1) := by decide +kernel
theorem dJ9_max_7cf53_10 : decode cJ9_max_7cf53 10 = .ok (.ireturn, 1) := by decide +kernel
theorem dJ9_min_7cf53_0 : decode cJ9_min_7cf53 0 = .ok (.iload_n 0, 1) := by decide +kernel
theorem dJ9_min_7cf53_1 : decode cJ9_min_7cf53 1 = .ok (.iload_n 1, 1) := by decide +kernel
theorem dJ9_min_7cf53_2 : decode cJ9_min_7cf53 2 = .ok (.if_icmp .gt 7, 3) := by decide +kernel
theorem dJ9_min_7cf53_5 : decode cJ9_min_7cf53 5 = .ok (.iload_n 0, 1) := by decide +kernel
theorem dJ9_min_7cf53_6 : decode cJ9_min_7cf53 6 = .ok (.goto 4, 3) := by decide +kernel
theorem dJ9_min_7cf53_9 : decode cJ9_min_7cf53 9 = .ok (.iload_n 1, 1) := by decide +kernel
theorem dJ9_min_7cf53_10 : decode cJ9_min_7cf53 10 = .ok (.ireturn, 1) := by decide +kernel
theorem dJ7_fill_53178_0 : decode cJ7_fill_53178 0 = .ok (.iconst 0, 1) := by decide +kernel
theorem dJ7_fill_53178_1 : decode cJ7_fill_53178 1 = .ok (.istore_n 2, 1) := by decide +kernel
theorem dJ7_fill_53178_2 : decode cJ7_fill_53178 2 = .ok (.aload_n 0, 1) := by decide +kernel
theorem dJ7_fill_53178_3 : decode cJ7_fill_53178 3 = .ok (.arraylength, 1) := by decide +kernel
theorem dJ7_fill_53178_4 : decode cJ7_fill_53178 4 = .ok (.istore_n 3, 1) := by decide +kernel
theorem dJ7_fill_53178_5 : decode cJ7_fill_53178 5 = .ok (.iload_n 2, 1) := by decide +kernel
theorem dJ7_fill_53178_6 : decode cJ7_fill_53178 6 = .ok (.iload_n 3, 1) := by decide +kernel
theorem dJ7_fill_53178_7 : decode cJ7_fill_53178 7 = .ok (.if_icmp .ge 13, 3) := by decide +kernel
theorem dJ7_fill_53178_10 : decode cJ7_fill_53178 10 = .ok (.aload_n 0, 1) := by decide +kernel
theorem dJ7_fill_53178_11 : decode cJ7_fill_53178 11 = .ok (.iload_n 2, 1) := by decide +kernel
theorem dJ7_fill_53178_12 : decode cJ7_fill_53178 12 = .ok (.iload_n 1, 1) := by decide +kernel
theorem dJ7_fill_53178_13 : decode cJ7_fill_53178 13 = .ok (.iastore, 1) := by decide +kernel
theorem dJ7_fill_53178_14 : decode cJ7_fill_53178 14 = .ok (.iinc 2 1, 3) := by decide +kernel
theorem dJ7_fill_53178_17 : decode cJ7_fill_53178 17 = .ok (.goto (-12), 3) := by decide +kernel
theorem dJ7_fill_53178_20 : decode cJ7_fill_53178 20 = .ok (.return_, 1) := by decide +kernel
theorem dJ7_fill_031fb_0 : decode cJ7_fill_031fb 0 = .ok (.iconst 0, 1) := by decide +kernel
theorem dJ7_fill_031fb_1 : decode cJ7_fill_031fb 1 = .ok (.istore_n 2, 1) := by decide +kernel
theorem dJ7_fill_031fb_2 : decode cJ7_fill_031fb 2 = .ok (.aload_n 0, 1) := by decide +kernel
theorem dJ7_fill_031fb_3 : decode cJ7_fill_031fb 3 = .ok (.arraylength, 1) := by decide +kernel
theorem dJ7_fill_031fb_4 : decode cJ7_fill_031fb 4 = .ok (.istore_n 3, 1) := by decide +kernel
theorem dJ7_fill_031fb_5 : decode cJ7_fill_031fb 5 = .ok (.iload_n 2, 1) := by decide +kernel
theorem dJ7_fill_031fb_6 : decode cJ7_fill_031fb 6 = .ok (.iload_n 3, 1) := by decide +kernel
theorem dJ7_fill_031fb_7 : decode cJ7_fill_031fb 7 = .ok (.if_icmp .ge 13, 3) := by decide +kernel
theorem dJ7_fill_031fb_10 : decode cJ7_fill_031fb 10 = .ok (.aload_n 0, 1) := by decide +kernel
theorem dJ7_fill_031fb_11 : decode cJ7_fill_031fb 11 = .ok (.iload_n 2, 1) := by decide +kernel
theorem dJ7_fill_031fb_12 : decode cJ7_fill_031fb 12 = .ok (.iload_n 1, 1) := by decide +kernel
theorem dJ7_fill_031fb_13 : decode cJ7_fill_031fb 13 = .ok (.bastore, 1) := by decide +kernel
theorem dJ7_fill_031fb_14 : decode cJ7_fill_031fb 14 = .ok (.iinc 2 1, 3) := by decide +kernel
theorem dJ7_fill_031fb_17 : decode cJ7_fill_031fb 17 = .ok (.goto (-12), 3) := by decide +kernel
theorem dJ7_fill_031fb_20 : decode cJ7_fill_031fb 20 = .ok (.return_, 1) := by decide +kernel
theorem dJ7_copyOf_59c91_0 : decode cJ7_copyOf_59c91 0 = .ok (.iload_n 1, 1) := by decide +kernel
theorem dJ7_copyOf_59c91_1 : decode cJ7_copyOf_59c91 1 = .ok (.aload_n 0, 1) := by decide +kernel
theorem dJ7_copyOf_59c91_2 : decode cJ7_copyOf_59c91 2 = .ok (.arraylength, 1) := by decide +kernel
theorem dJ7_copyOf_59c91_3 : decode cJ7_copyOf_59c91 3 = .ok (.if_icmp .ne 11, 3) := by decide +kernel
theorem dJ7_copyOf_59c91_6 : decode cJ7_copyOf_59c91 6 = .ok (.aload_n 0, 1) := by decide +kernel
theorem dJ7_copyOf_59c91_7 : decode cJ7_copyOf_59c91 7 = .ok (.invokevirtual 316, 3) := by decide +kernel
theorem dJ7_copyOf_59c91_10 : decode cJ7_copyOf_59c91 10 = .ok (.checkcast 317, 3) := by decide +kernel
theorem dJ7_copyOf_59c91_13 : decode cJ7_copyOf_59c91 13 = .ok (.areturn, 1) := by decide +kernel
theorem dJ7_copyOf_59c91_14 : decode cJ7_copyOf_59c91 14 = .ok (.iload_n 1, 1) := by decide +kernel
theorem dJ7_copyOf_59c91_15 : decode cJ7_copyOf_59c91 15 = .ok (.newarray .int, 2) := by decide +kernel
theorem dJ7_copyOf_59c91_17 : decode cJ7_copyOf_59c91 17 = .ok (.astore_n 2, 1) := by decide +kernel
theorem dJ7_copyOf_59c91_18 : decode cJ7_copyOf_59c91 18 = .ok (.aload_n 0, 1) := by decide +kernel
theorem dJ7_copyOf_59c91_19 : decode cJ7_copyOf_59c91 19 = .ok (.iconst 0, 1) := by decide +kernel
theorem dJ7_copyOf_59c91_20 : decode cJ7_copyOf_59c91 20 = .ok (.aload_n 2, 1) := by decide +kernel
theorem dJ7_copyOf_59c91_21 : decode cJ7_copyOf_59c91 21 = .ok (.iconst 0, 1) := by decide +kernel
theorem dJ7_copyOf_59c91_22 : decode cJ7_copyOf_59c91 22 = .ok (.aload_n 0, 1) := by decide +kernel
theorem dJ7_copyOf_59c91_23 : decode cJ7_copyOf_59c91 23 = .ok (.arraylength, 1) := by decide +kernel
theorem dJ7_copyOf_59c91_24 : decode cJ7_copyOf_59c91 24 = .ok (.iload_n 1, 1) := by decide +kernel
theorem dJ7_copyOf_59c91_25 : decode cJ7_copyOf_59c91 25 = .ok (.invokestatic 304, 3) := by decide +kernel
theorem dJ7_copyOf_59c91_28 : decode cJ7_copyOf_59c91 28 = .ok (.invokestatic 150, 3) := by decide +kernel
theorem dJ7_copyOf_59c91_31 : decode cJ7_copyOf_59c91 31 = .ok (.aload_n 2, 1) := by decide +kernel
theorem dJ7_copyOf_59c91_32 : decode cJ7_copyOf_59c91 32 = .ok (.areturn, 1) := by decide +kernel
set_option maxRecDepth 20000 in
theorem ggL_law_X10_init : GoodIn wsL_law wsX10_init := goodIn_r _ [8, 9, 10, 11, 12, 13, 14, 15, 16, 17, 18, 19, 20, 21, 22, 23, 24, 25, 26, 27, 28, 29, 30, 31, 32, 33, 34, 35, 36, 37, 38, 39, 40, 41, 42, 43, 44, 45, 46, 47, 48, 49, 50, 51, 52, 53, 54, 55, 56, 57, 58, 59, 60, 61, 62, 63, 64, 65, 66, 67, 68, 69, 70, 71, 72, 73, 74, 75, 76, 77, 78, 79, 80, 81, 82, 83, 84, 85, 86, 87, 88, 89, 90, 91, 92, 93, 94, 95, 96, 1274, 1275, 1276, 1277, 1278, 1279, 1280, 1281, 1282, 1283, 1284, 1262, 1263, 1264, 1265, 1266, 1285, 1286, 1287, 1288, 1289, 1290, 1291, 1292, 1293, 1294, 1295, 1296, 1297, 1298, 1299, 1300, 1301, 1302] (by decide +kernel) (by decide +kernel)
set_option maxRecDepth 20000 in
theorem gL_law_X10_init : GoodIn wsL_law (wsX10_init) := ggL_law_X10_init
set_option maxRecDepth 20000 in
theorem ggL_law_X12_init : GoodIn wsL_law wsX12_init := goodIn_r _ [99, 100, 10, 11, 101, 102, 103, 104, 105, 50, 106, 107, 108, 109, 110, 111, 112, 48, 113, 114, 115, 116, 117, 118, 119, 120, 121, 122, 123, 124, 125, 126, 127, 128, 129, 130, 131, 132, 133, 134, 135, 136, 137, 138, 139, 140, 141, 142, 143, 144, 145, 146, 147, 148, 149, 150, 151, 152, 153, 154, 155, 156, 157, 158, 1303, 1304, 1305, 1306, 1307, 1308, 1309, 1310, 1311, 1312, 1313, 1314, 1315, 1316, 1317, 1318, 1319, 1320, 1321, 1322, 1323, 1324, 1325, 1326, 1327, 1328, 1329, 1330, 1331, 1332, 1333, 1334, 1335, 1336, 1337, 1338, 1339, 1340, 1341, 1342, 1343, 1344, 1267, 1268, 1269, 1270, 1271, 1272, 1273] (by decide +kernel) (by decide +kernel)
set_option maxRecDepth 20000 in
theorem gL_law_X12_init : GoodIn wsL_law (wsX12_init) := ggL_law_X12_init
set_option maxRecDepth 20000 in
theorem ggL_law_X10_seats : GoodIn wsL_law wsX10_seats := goodIn_r _ [162, 15, 163, 164, 165, 14, 166, 28, 39, 167, 40, 44, 168, 169, 170, 171, 172, 173, 174, 175, 32, 36, 37, 176, 177, 178, 179, 180, 181, 182, 183, 184, 185, 186, 187, 188, 189, 31, 190, 191, 56, 192, 193, 194, 195, 196, 197, 78, 79, 80, 27, 81, 82, 83, 84, 85, 51, 86, 87, 88, 89, 49, 90, 91, 92, 93, 94, 95, 1262, 1263, 1264, 1265, 1266, 1274, 1275, 1276, 1277, 1278, 1279, 1280, 1281, 1282, 1283, 1284, 1285, 1286, 1287, 1288, 1301, 1302, 1297, 1298, 1345, 1346, 1347, 1348, 1349, 1350, 1351, 1352, 1353, 1354, 1355, 1356, 1357, 1358, 1359, 1360, 1299, 1300, 1289, 1290, 1291, 1292, 1293, 1294, 1295, 1296] (by decide +kernel) (by decide +kernel)
set_option maxRecDepth 20000 in
theorem gL_law_X10_seats : GoodIn wsL_law (wsV RL 13 RX10 yX10_seats wsX10_seats) := goodIn_app (goodIn_of _ (by decide +kernel)) ggL_law_X10_seats
set_option maxRecDepth 20000 in
theorem ggL_law_X12_seats : GoodIn wsL_law wsX12_seats := goodIn_r _ [201, 104, 202, 203, 5, 204, 142, 143, 144, 103, 145, 146, 147, 148, 149, 150, 151, 152, 153, 154, 155, 156, 157, 158, 113, 114, 115, 137, 1267, 1268, 1269, 1270, 1271, 1272, 1273, 1303, 1304, 1305, 1306, 1307, 1308, 1309, 1310, 1311, 1312, 1313, 1314, 1315, 1316, 1317, 1318, 1319, 1320, 1321, 1322, 1323, 1324, 1325, 1326, 1327, 1328, 1329, 1330, 1331, 1332, 1333, 1334, 1335, 1336, 1337, 1338, 1339, 1340, 1341, 1342, 1343, 1344] (by decide +kernel) (by decide +kernel)
set_option maxRecDepth 20000 in
theorem gL_law_X12_seats : GoodIn wsL_law (wsV RL 17 RX12 yX12_seats wsX12_seats) := goodIn_app (goodIn_of _ (by decide +kernel)) ggL_law_X12_seats
set_option maxRecDepth 20000 in
theorem ggL_law_X10_there : GoodIn wsL_law wsX10_there := goodIn_r _ [208, 15, 209, 210, 211, 14, 212, 171, 39, 32, 180, 213, 214, 215, 216, 217, 218, 219, 220, 221, 222, 223, 224, 225, 226, 227, 228, 27, 229, 82, 49, 230, 231, 232, 233, 234, 235, 236, 237, 238, 239, 240, 241, 242, 243, 244, 245, 246, 247, 248, 249, 250, 251, 252, 31, 253, 191, 254, 255, 256, 257, 56, 258, 259, 260, 261, 262, 263, 264, 265, 91, 266, 267, 268, 269, 270, 271, 272, 273, 274, 275, 276, 35, 277, 60, 62, 278, 279, 280, 281, 282, 283, 284, 285, 286, 287, 288, 289, 290, 291, 292, 293, 294, 295, 296, 297, 298, 299, 300, 37, 301, 302, 303, 304, 305, 306, 307, 308, 309, 310, 311, 312, 313, 314, 315, 316, 317, 318, 319, 320, 321, 322, 323, 324, 325, 326, 327, 328, 329, 330, 331, 332, 333, 334, 335, 336, 337, 338, 339, 68, 69, 70, 340, 341, 342, 343, 90, 83, 344, 345, 346, 347, 348, 349, 350, 351, 352, 353, 354, 355, 356, 357, 358, 359, 360, 43, 361, 362, 363, 364, 365, 366, 367, 368, 369, 370, 371, 372, 373, 374, 375, 376, 377, 378, 379, 380, 381, 382, 19, 383, 384, 72, 385, 386, 387, 388, 389, 390, 391, 392, 393, 394, 395, 396, 397, 398, 399, 400, 401, 402, 403, 404, 405, 406, 407, 408, 409, 410, 411, 412, 413, 85, 414, 415, 416, 417, 51, 418, 419, 420, 421, 422, 423, 424, 425, 426, 427, 428, 429, 430, 431, 432, 433, 434, 193, 194, 195, 196, 197, 176, 177, 178, 179, 181, 182, 183, 184, 185, 186, 187, 188, 189, 190, 435, 436, 437, 438, 439, 440, 441, 442, 443, 10, 11, 444, 42, 445, 132, 446, 74, 75, 76, 50, 77, 447, 448, 449, 450, 451, 452, 453, 454, 455, 456, 457, 458, 459, 460, 461, 462, 463, 464, 465, 466, 467, 468, 469, 94, 470, 471, 472, 473, 474, 475, 476, 477, 478, 479, 480, 481, 482, 483, 484, 485, 486, 487, 488, 489, 490, 491, 492, 493, 494, 495, 496, 497, 498, 499, 500, 501, 502, 503, 504, 505, 506, 507, 508, 509, 510, 511, 512, 513, 514, 515, 516, 517, 518, 519, 520, 521, 522, 523, 524, 525, 526, 527, 528, 529, 530, 531, 532, 533, 534, 535, 536, 537, 538, 539, 540, 541, 542, 543, 544, 545, 546, 547, 548, 549, 550, 551, 552, 553, 554, 555, 556, 557, 558, 559, 560, 561, 562, 563, 564, 565, 566, 567, 568, 569, 570, 571, 572, 573, 574, 575, 576, 577, 578, 579, 580, 71, 73, 67, 581, 582, 583, 584, 585, 586, 587, 588, 589, 590, 591, 592, 593, 594, 595, 596, 597, 598, 599, 600, 601, 602, 603, 604, 605, 606, 607, 608, 609, 610, 611, 612, 613, 614, 615, 616, 617, 618, 619, 620, 621, 622, 623, 624, 625, 626, 627, 628, 629, 630, 631, 632, 633, 634, 635, 636, 637, 638, 639, 640, 641, 642, 643, 87, 88, 89, 644, 645, 646, 647, 648, 649, 650, 651, 652, 653, 654, 655, 656, 657, 658, 659, 660, 661, 662, 663, 664, 665, 666, 667, 668, 669, 670, 1262, 1263, 1264, 1265, 1266, 1274, 1275, 1276, 1277, 1278, 1279, 1280, 1281, 1282, 1283, 1284, 1297, 1298, 1289, 1290, 1291, 1292, 1293, 1294, 1295, 1296, 1345, 1346, 1347, 1348, 1349, 1350, 1351, 1352, 1353, 1354, 1355, 1356, 1357, 1358, 1359, 1360, 1299, 1300, 1301, 1302, 1285, 1286, 1287, 1288] (by decide +kernel) (by decide +kernel)
set_option maxRecDepth 20000 in
theorem gL_law_X10_there : GoodIn wsL_law (wsV RL 18 RX10 yX10_there wsX10_there) := goodIn_app (goodIn_of _ (by decide +kernel)) ggL_law_X10_there
set_option maxRecDepth 20000 in
theorem ggL_law_X12_there : GoodIn wsL_law wsX12_there := goodIn_r _ [674, 104, 675, 676, 677, 103, 678, 153, 156, 140, 679, 680, 681, 682, 113, 152, 148, 151, 116, 126, 150, 119, 127, 135, 157, 137, 117, 683, 684, 685, 686, 146, 203, 5, 204, 687, 688, 689, 690, 134, 691, 692, 693, 694, 118, 695, 696, 697, 698, 699, 700, 701, 702, 703, 121, 704, 705, 706, 707, 708, 709, 710, 123, 711, 712, 713, 714, 715, 716, 717, 718, 719, 720, 721, 722, 723, 724, 725, 726, 147, 149, 128, 125, 124, 122, 727, 728, 729, 730, 731, 732, 733, 734, 735, 736, 737, 738, 114, 120, 133, 739, 740, 741, 742, 115, 743, 744, 745, 746, 129, 747, 748, 749, 750, 751, 752, 753, 754, 755, 131, 756, 757, 758, 759, 136, 138, 760, 761, 762, 763, 764, 765, 766, 767, 768, 769, 770, 771, 772, 773, 774, 775, 776, 777, 778, 779, 154, 141, 780, 781, 782, 783, 784, 785, 786, 787, 155, 158, 139, 788, 789, 790, 791, 792, 793, 794, 795, 796, 797, 202, 1267, 1268, 1269, 1270, 1271, 1272, 1273, 1303, 1304, 1305, 1306, 1307, 1308, 1309, 1310, 1311, 1312, 1313, 1314, 1315, 1316, 1317, 1318, 1319, 1320, 1321, 1322, 1323, 1324, 1325, 1326, 1327, 1328, 1329, 1330, 1331, 1332, 1333, 1334, 1335, 1336, 1337, 1338, 1339, 1340, 1341, 1342, 1343, 1344] (by decide +kernel) (by decide +kernel)
set_option maxRecDepth 20000 in
theorem gL_law_X12_there : GoodIn wsL_law (wsV RL 21 RX12 yX12_there wsX12_there) := goodIn_app (goodIn_of _ (by decide +kernel)) ggL_law_X12_there
set_option maxRecDepth 20000 in
theorem ggL_law_X10_gone : GoodIn wsL_law wsX10_gone := goodIn_r _ [801, 15, 209, 210, 211, 14, 212, 171, 39, 32, 180, 213, 214, 215, 216, 217, 218, 219, 220, 221, 222, 223, 224, 225, 226, 227, 228, 27, 229, 82, 49, 230, 231, 232, 233, 234, 235, 236, 237, 238, 239, 240, 241, 242, 243, 244, 245, 246, 247, 248, 249, 250, 251, 252, 31, 253, 191, 254, 255, 256, 257, 56, 258, 259, 260, 261, 262, 263, 264, 265, 91, 266, 267, 268, 269, 270, 271, 272, 273, 274, 275, 276, 35, 277, 60, 62, 278, 279, 280, 281, 282, 283, 284, 285, 286, 287, 288, 289, 290, 291, 292, 293, 294, 295, 296, 297, 298, 299, 300, 37, 301, 302, 303, 304, 305, 306, 307, 308, 309, 310, 311, 312, 313, 314, 315, 316, 317, 318, 319, 320, 321, 322, 323, 324, 325, 326, 327, 328, 329, 330, 331, 332, 333, 334, 335, 336, 337, 338, 339, 68, 69, 70, 340, 341, 342, 343, 90, 83, 344, 345, 346, 347, 348, 349, 350, 351, 352, 353, 354, 355, 356, 357, 358, 359, 360, 43, 361, 362, 363, 364, 365, 366, 367, 368, 369, 370, 371, 372, 373, 374, 375, 376, 377, 378, 379, 380, 381, 382, 19, 383, 384, 72, 385, 386, 387, 388, 389, 390, 391, 392, 393, 394, 395, 396, 397, 398, 399, 400, 401, 402, 403, 404, 405, 406, 407, 408, 409, 410, 411, 412, 413, 85, 414, 415, 416, 417, 51, 418, 419, 420, 421, 422, 423, 424, 425, 426, 427, 428, 429, 430, 431, 432, 433, 434, 193, 194, 195, 196, 197, 176, 177, 178, 179, 181, 182, 183, 184, 185, 186, 187, 188, 189, 190, 435, 436, 437, 438, 439, 440, 441, 442, 443, 10, 11, 444, 42, 445, 132, 446, 74, 75, 76, 50, 77, 447, 448, 449, 450, 451, 452, 453, 454, 455, 456, 457, 458, 459, 460, 461, 462, 463, 464, 465, 466, 467, 468, 469, 94, 470, 471, 472, 473, 474, 475, 476, 477, 478, 479, 480, 481, 482, 483, 484, 485, 486, 487, 488, 489, 490, 491, 492, 493, 494, 495, 496, 497, 498, 499, 500, 501, 502, 503, 504, 505, 506, 507, 508, 509, 510, 511, 512, 513, 514, 515, 516, 517, 518, 519, 520, 521, 522, 523, 524, 525, 526, 527, 528, 529, 530, 531, 532, 533, 534, 535, 536, 537, 538, 539, 540, 541, 542, 543, 544, 545, 546, 547, 548, 549, 550, 551, 552, 553, 554, 555, 556, 557, 558, 559, 560, 561, 562, 563, 564, 565, 566, 567, 568, 569, 570, 571, 572, 573, 574, 575, 576, 577, 578, 579, 580, 71, 73, 67, 581, 582, 583, 584, 585, 586, 587, 588, 589, 590, 591, 592, 593, 594, 595, 596, 597, 598, 599, 600, 601, 602, 603, 604, 605, 606, 607, 608, 609, 610, 611, 612, 613, 614, 615, 616, 617, 618, 619, 620, 621, 622, 623, 624, 625, 626, 627, 628, 629, 630, 631, 632, 633, 634, 635, 636, 637, 638, 639, 640, 641, 642, 643, 87, 88, 89, 644, 645, 646, 647, 648, 649, 650, 651, 652, 653, 654, 655, 656, 657, 658, 659, 660, 661, 662, 663, 664, 665, 666, 667, 668, 669, 670, 1262, 1263, 1264, 1265, 1266, 1274, 1275, 1276, 1277, 1278, 1279, 1280, 1281, 1282, 1283, 1284, 1297, 1298, 1289, 1290, 1291, 1292, 1293, 1294, 1295, 1296, 1345, 1346, 1347, 1348, 1349, 1350, 1351, 1352, 1353, 1354, 1355, 1356, 1357, 1358, 1359, 1360, 1299, 1300, 1301, 1302, 1285, 1286, 1287, 1288] (by decide +kernel) (by decide +kernel)
set_option maxRecDepth 20000 in
theorem gL_law_X10_gone : GoodIn wsL_law (wsV RL 22 RX10 yX10_gone wsX10_gone) := goodIn_app (goodIn_of _ (by decide +kernel)) ggL_law_X10_gone
set_option maxRecDepth 20000 in
theorem ggL_law_X12_gone : GoodIn wsL_law wsX12_gone := goodIn_r _ [805, 104, 675, 676, 677, 103, 678, 153, 156, 140, 679, 680, 681, 682, 113, 152, 148, 151, 116, 126, 150, 119, 127, 135, 157, 137, 117, 683, 684, 685, 686, 146, 203, 5, 204, 687, 688, 689, 690, 134, 691, 692, 693, 694, 118, 695, 696, 697, 698, 699, 700, 701, 702, 703, 121, 704, 705, 706, 707, 708, 709, 710, 123, 711, 712, 713, 714, 715, 716, 717, 718, 719, 720, 721, 722, 723, 724, 725, 726, 147, 149, 128, 125, 124, 122, 727, 728, 729, 730, 731, 732, 733, 734, 735, 736, 737, 738, 114, 120, 133, 739, 740, 741, 742, 115, 743, 744, 745, 746, 129, 747, 748, 749, 750, 751, 752, 753, 754, 755, 131, 756, 757, 758, 759, 136, 138, 760, 761, 762, 763, 764, 765, 766, 767, 768, 769, 770, 771, 772, 773, 774, 775, 776, 777, 778, 779, 154, 141, 780, 781, 782, 783, 784, 785, 786, 787, 155, 158, 139, 788, 789, 790, 791, 792, 793, 794, 795, 796, 797, 202, 1267, 1268, 1269, 1270, 1271, 1272, 1273, 1303, 1304, 1305, 1306, 1307, 1308, 1309, 1310, 1311, 1312, 1313, 1314, 1315, 1316, 1317, 1318, 1319, 1320, 1321, 1322, 1323, 1324, 1325, 1326, 1327, 1328, 1329, 1330, 1331, 1332, 1333, 1334, 1335, 1336, 1337, 1338, 1339, 1340, 1341, 1342, 1343, 1344] (by decide +kernel) (by decide +kernel)
set_option maxRecDepth 20000 in
theorem gL_law_X12_gone : GoodIn wsL_law (wsV RL 25 RX12 yX12_gone wsX12_gone) := goodIn_app (goodIn_of _ (by decide +kernel)) ggL_law_X12_gone
set_option maxRecDepth 20000 in
theorem ggL_law_X10_quorum : GoodIn wsL_law wsX10_quorum := goodIn_r _ [809, 15, 209, 210, 211, 14, 212, 171, 39, 32, 180, 213, 214, 215, 216, 217, 218, 219, 220, 221, 222, 223, 224, 225, 226, 227, 228, 27, 229, 82, 49, 230, 231, 232, 233, 234, 235, 236, 237, 238, 239, 240, 241, 242, 243, 244, 245, 246, 247, 248, 249, 250, 251, 252, 31, 253, 191, 254, 255, 256, 257, 56, 258, 259, 260, 261, 262, 263, 264, 265, 91, 266, 267, 268, 269, 270, 271, 272, 273, 274, 275, 276, 35, 277, 60, 62, 278, 279, 280, 281, 282, 283, 284, 285, 286, 287, 288, 289, 290, 291, 292, 293, 294, 295, 296, 297, 298, 299, 300, 37, 301, 302, 303, 304, 305, 306, 307, 308, 309, 310, 311, 312, 313, 314, 315, 316, 317, 318, 319, 320, 321, 322, 323, 324, 325, 326, 327, 328, 329, 330, 331, 332, 333, 334, 335, 336, 337, 338, 339, 68, 69, 70, 340, 341, 342, 343, 90, 83, 344, 345, 346, 347, 348, 349, 350, 351, 352, 353, 354, 355, 356, 357, 358, 359, 360, 43, 361, 362, 363, 364, 365, 366, 367, 368, 369, 370, 371, 372, 373, 374, 375, 376, 377, 378, 379, 380, 381, 382, 19, 383, 384, 72, 385, 386, 387, 388, 389, 390, 391, 392, 393, 394, 395, 396, 397, 398, 399, 400, 401, 402, 403, 404, 405, 406, 407, 408, 409, 410, 411, 412, 413, 85, 414, 415, 416, 417, 51, 418, 419, 420, 421, 422, 423, 424, 425, 426, 427, 428, 429, 430, 431, 432, 433, 434, 193, 194, 195, 196, 197, 176, 177, 178, 179, 181, 182, 183, 184, 185, 186, 187, 188, 189, 190, 435, 436, 437, 438, 439, 440, 441, 442, 443, 10, 11, 444, 42, 445, 132, 446, 74, 75, 76, 50, 77, 447, 448, 449, 450, 451, 452, 453, 454, 455, 456, 457, 458, 459, 460, 461, 462, 463, 464, 465, 466, 467, 468, 469, 94, 470, 471, 472, 473, 474, 475, 476, 477, 478, 479, 480, 481, 482, 483, 484, 485, 486, 487, 488, 489, 490, 491, 492, 493, 494, 495, 496, 497, 498, 499, 500, 501, 502, 503, 504, 505, 506, 507, 508, 509, 510, 511, 512, 513, 514, 515, 516, 517, 518, 519, 520, 521, 522, 523, 524, 525, 526, 527, 528, 529, 530, 531, 532, 533, 534, 535, 536, 537, 538, 539, 540, 541, 542, 543, 544, 545, 546, 547, 548, 549, 550, 551, 552, 553, 554, 555, 556, 557, 558, 559, 560, 561, 562, 563, 564, 565, 566, 567, 568, 569, 570, 571, 572, 573, 574, 575, 576, 577, 578, 579, 580, 71, 73, 67, 581, 582, 583, 584, 585, 586, 587, 588, 589, 590, 591, 592, 593, 594, 595, 596, 597, 598, 599, 600, 601, 602, 603, 604, 605, 606, 607, 608, 609, 610, 611, 612, 613, 614, 615, 616, 617, 618, 619, 620, 621, 622, 623, 624, 625, 626, 627, 628, 629, 630, 631, 632, 633, 634, 635, 636, 637, 638, 639, 640, 641, 642, 643, 87, 88, 89, 644, 645, 646, 647, 648, 649, 650, 651, 652, 653, 654, 655, 656, 657, 658, 659, 660, 661, 662, 663, 664, 665, 666, 667, 668, 669, 670, 1262, 1263, 1264, 1265, 1266, 1274, 1275, 1276, 1277, 1278, 1279, 1280, 1281, 1282, 1283, 1284, 1297, 1298, 1289, 1290, 1291, 1292, 1293, 1294, 1295, 1296, 1345, 1346, 1347, 1348, 1349, 1350, 1351, 1352, 1353, 1354, 1355, 1356, 1357, 1358, 1359, 1360, 1299, 1300, 1301, 1302, 1285, 1286, 1287, 1288] (by decide +kernel) (by decide +kernel)
set_option maxRecDepth 20000 in
theorem gL_law_X10_quorum : GoodIn wsL_law (wsV RL 26 RX10 yX10_quorum wsX10_quorum) := goodIn_app (goodIn_of _ (by decide +kernel)) ggL_law_X10_quorum
set_option maxRecDepth 20000 in
theorem ggL_law_X12_quorum : GoodIn wsL_law wsX12_quorum := goodIn_r _ [813, 104, 675, 676, 677, 103, 678, 153, 156, 140, 679, 680, 681, 682, 113, 152, 148, 151, 116, 126, 150, 119, 127, 135, 157, 137, 117, 683, 684, 685, 686, 146, 203, 5, 204, 687, 688, 689, 690, 134, 691, 692, 693, 694, 118, 695, 696, 697, 698, 699, 700, 701, 702, 703, 121, 704, 705, 706, 707, 708, 709, 710, 123, 711, 712, 713, 714, 715, 716, 717, 718, 719, 720, 721, 722, 723, 724, 725, 726, 147, 149, 128, 125, 124, 122, 727, 728, 729, 730, 731, 732, 733, 734, 735, 736, 737, 738, 114, 120, 133, 739, 740, 741, 742, 115, 743, 744, 745, 746, 129, 747, 748, 749, 750, 751, 752, 753, 754, 755, 131, 756, 757, 758, 759, 136, 138, 760, 761, 762, 763, 764, 765, 766, 767, 768, 769, 770, 771, 772, 773, 774, 775, 776, 777, 778, 779, 154, 141, 780, 781, 782, 783, 784, 785, 786, 787, 155, 158, 139, 788, 789, 790, 791, 792, 793, 794, 795, 796, 797, 202, 1267, 1268, 1269, 1270, 1271, 1272, 1273, 1303, 1304, 1305, 1306, 1307, 1308, 1309, 1310, 1311, 1312, 1313, 1314, 1315, 1316, 1317, 1318, 1319, 1320, 1321, 1322, 1323, 1324, 1325, 1326, 1327, 1328, 1329, 1330, 1331, 1332, 1333, 1334, 1335, 1336, 1337, 1338, 1339, 1340, 1341, 1342, 1343, 1344] (by decide +kernel) (by decide +kernel)
set_option maxRecDepth 20000 in
theorem gL_law_X12_quorum : GoodIn wsL_law (wsV RL 29 RX12 yX12_quorum wsX12_quorum) := goodIn_app (goodIn_of _ (by decide +kernel)) ggL_law_X12_quorum
set_option maxRecDepth 20000 in
theorem ggL_law_X10_chair : GoodIn wsL_law wsX10_chair := goodIn_r _ [817, 15, 209, 210, 211, 14, 212, 171, 39, 32, 180, 213, 214, 215, 216, 217, 218, 219, 220, 221, 222, 223, 224, 225, 226, 227, 228, 27, 229, 82, 49, 230, 231, 232, 233, 234, 235, 236, 237, 238, 239, 240, 241, 242, 243, 244, 245, 246, 247, 248, 249, 250, 251, 252, 31, 253, 191, 254, 255, 256, 257, 56, 258, 259, 260, 261, 262, 263, 264, 265, 91, 266, 267, 268, 269, 270, 271, 272, 273, 274, 275, 276, 35, 277, 60, 62, 278, 279, 280, 281, 282, 283, 284, 285, 286, 287, 288, 289, 290, 291, 292, 293, 294, 295, 296, 297, 298, 299, 300, 37, 301, 302, 303, 304, 305, 306, 307, 308, 309, 310, 311, 312, 313, 314, 315, 316, 317, 318, 319, 320, 321, 322, 323, 324, 325, 326, 327, 328, 329, 330, 331, 332, 333, 334, 335, 336, 337, 338, 339, 68, 69, 70, 340, 341, 342, 343, 90, 83, 344, 345, 346, 347, 348, 349, 350, 351, 352, 353, 354, 355, 356, 357, 358, 359, 360, 43, 361, 362, 363, 364, 365, 366, 367, 368, 369, 370, 371, 372, 373, 374, 375, 376, 377, 378, 379, 380, 381, 382, 19, 383, 384, 72, 385, 386, 387, 388, 389, 390, 391, 392, 393, 394, 395, 396, 397, 398, 399, 400, 401, 402, 403, 404, 405, 406, 407, 408, 409, 410, 411, 412, 413, 85, 414, 415, 416, 417, 51, 418, 419, 420, 421, 422, 423, 424, 425, 426, 427, 428, 429, 430, 431, 432, 433, 434, 193, 194, 195, 196, 197, 176, 177, 178, 179, 181, 182, 183, 184, 185, 186, 187, 188, 189, 190, 435, 436, 437, 438, 439, 440, 441, 442, 443, 10, 11, 444, 42, 445, 132, 446, 74, 75, 76, 50, 77, 447, 448, 449, 450, 451, 452, 453, 454, 455, 456, 457, 458, 459, 460, 461, 462, 463, 464, 465, 466, 467, 468, 469, 94, 470, 471, 472, 473, 474, 475, 476, 477, 478, 479, 480, 481, 482, 483, 484, 485, 486, 487, 488, 489, 490, 491, 492, 493, 494, 495, 496, 497, 498, 499, 500, 501, 502, 503, 504, 505, 506, 507, 508, 509, 510, 511, 512, 513, 514, 515, 516, 517, 518, 519, 520, 521, 522, 523, 524, 525, 526, 527, 528, 529, 530, 531, 532, 533, 534, 535, 536, 537, 538, 539, 540, 541, 542, 543, 544, 545, 546, 547, 548, 549, 550, 551, 552, 553, 554, 555, 556, 557, 558, 559, 560, 561, 562, 563, 564, 565, 566, 567, 568, 569, 570, 571, 572, 573, 574, 575, 576, 577, 578, 579, 580, 71, 73, 67, 581, 582, 583, 584, 585, 586, 587, 588, 589, 590, 591, 592, 593, 594, 595, 596, 597, 598, 599, 600, 601, 602, 603, 604, 605, 606, 607, 608, 609, 610, 611, 612, 613, 614, 615, 616, 617, 618, 619, 620, 621, 622, 623, 624, 625, 626, 627, 628, 629, 630, 631, 632, 633, 634, 635, 636, 637, 638, 639, 640, 641, 642, 643, 87, 88, 89, 644, 645, 646, 647, 648, 649, 650, 651, 652, 653, 654, 655, 656, 657, 658, 659, 660, 661, 662, 663, 664, 665, 666, 667, 668, 669, 670, 1262, 1263, 1264, 1265, 1266, 1274, 1275, 1276, 1277, 1278, 1279, 1280, 1281, 1282, 1283, 1284, 1297, 1298, 1289, 1290, 1291, 1292, 1293, 1294, 1295, 1296, 1345, 1346, 1347, 1348, 1349, 1350, 1351, 1352, 1353, 1354, 1355, 1356, 1357, 1358, 1359, 1360, 1299, 1300, 1301, 1302, 1285, 1286, 1287, 1288] (by decide +kernel) (by decide +kernel)
set_option maxRecDepth 20000 in
theorem gL_law_X10_chair : GoodIn wsL_law (wsV RL 30 RX10 yX10_chair wsX10_chair) := goodIn_app (goodIn_of _ (by decide +kernel)) ggL_law_X10_chair
set_option maxRecDepth 20000 in
theorem ggL_law_X12_chair : GoodIn wsL_law wsX12_chair := goodIn_r _ [821, 104, 675, 676, 677, 103, 678, 153, 156, 140, 679, 680, 681, 682, 113, 152, 148, 151, 116, 126, 150, 119, 127, 135, 157, 137, 117, 683, 684, 685, 686, 146, 203, 5, 204, 687, 688, 689, 690, 134, 691, 692, 693, 694, 118, 695, 696, 697, 698, 699, 700, 701, 702, 703, 121, 704, 705, 706, 707, 708, 709, 710, 123, 711, 712, 713, 714, 715, 716, 717, 718, 719, 720, 721, 722, 723, 724, 725, 726, 147, 149, 128, 125, 124, 122, 727, 728, 729, 730, 731, 732, 733, 734, 735, 736, 737, 738, 114, 120, 133, 739, 740, 741, 742, 115, 743, 744, 745, 746, 129, 747, 748, 749, 750, 751, 752, 753, 754, 755, 131, 756, 757, 758, 759, 136, 138, 760, 761, 762, 763, 764, 765, 766, 767, 768, 769, 770, 771, 772, 773, 774, 775, 776, 777, 778, 779, 154, 141, 780, 781, 782, 783, 784, 785, 786, 787, 155, 158, 139, 788, 789, 790, 791, 792, 793, 794, 795, 796, 797, 202, 1267, 1268, 1269, 1270, 1271, 1272, 1273, 1303, 1304, 1305, 1306, 1307, 1308, 1309, 1310, 1311, 1312, 1313, 1314, 1315, 1316, 1317, 1318, 1319, 1320, 1321, 1322, 1323, 1324, 1325, 1326, 1327, 1328, 1329, 1330, 1331, 1332, 1333, 1334, 1335, 1336, 1337, 1338, 1339, 1340, 1341, 1342, 1343, 1344] (by decide +kernel) (by decide +kernel)
set_option maxRecDepth 20000 in
theorem gL_law_X12_chair : GoodIn wsL_law (wsV RL 33 RX12 yX12_chair wsX12_chair) := goodIn_app (goodIn_of _ (by decide +kernel)) ggL_law_X12_chair
set_option maxRecDepth 20000 in
theorem ggL_law_X10_majority : GoodIn wsL_law wsX10_majority := goodIn_r _ [825, 15, 209, 210, 211, 14, 212, 171, 39, 32, 180, 213, 214, 215, 216, 217, 218, 219, 220, 221, 222, 223, 224, 225, 226, 227, 228, 27, 229, 82, 49, 230, 231, 232, 233, 234, 235, 236, 237, 238, 239, 240, 241, 242, 243, 244, 245, 246, 247, 248, 249, 250, 251, 252, 31, 253, 191, 254, 255, 256, 257, 56, 258, 259, 260, 261, 262, 263, 264, 265, 91, 266, 267, 268, 269, 270, 271, 272, 273, 274, 275, 276, 35, 277, 60, 62, 278, 279, 280, 281, 282, 283, 284, 285, 286, 287, 288, 289, 290, 291, 292, 293, 294, 295, 296, 297, 298, 299, 300, 37, 301, 302, 303, 304, 305, 306, 307, 308, 309, 310, 311, 312, 313, 314, 315, 316, 317, 318, 319, 320, 321, 322, 323, 324, 325, 326, 327, 328, 329, 330, 331, 332, 333, 334, 335, 336, 337, 338, 339, 68, 69, 70, 340, 341, 342, 343, 90, 83, 344, 345, 346, 347, 348, 349, 350, 351, 352, 353, 354, 355, 356, 357, 358, 359, 360, 43, 361, 362, 363, 364, 365, 366, 367, 368, 369, 370, 371, 372, 373, 374, 375, 376, 377, 378, 379, 380, 381, 382, 19, 383, 384, 72, 385, 386, 387, 388, 389, 390, 391, 392, 393, 394, 395, 396, 397, 398, 399, 400, 401, 402, 403, 404, 405, 406, 407, 408, 409, 410, 411, 412, 413, 85, 414, 415, 416, 417, 51, 418, 419, 420, 421, 422, 423, 424, 425, 426, 427, 428, 429, 430, 431, 432, 433, 434, 193, 194, 195, 196, 197, 176, 177, 178, 179, 181, 182, 183, 184, 185, 186, 187, 188, 189, 190, 435, 436, 437, 438, 439, 440, 441, 442, 443, 10, 11, 444, 42, 445, 132, 446, 74, 75, 76, 50, 77, 447, 448, 449, 450, 451, 452, 453, 454, 455, 456, 457, 458, 459, 460, 461, 462, 463, 464, 465, 466, 467, 468, 469, 94, 470, 471, 472, 473, 474, 475, 476, 477, 478, 479, 480, 481, 482, 483, 484, 485, 486, 487, 488, 489, 490, 491, 492, 493, 494, 495, 496, 497, 498, 499, 500, 501, 502, 503, 504, 505, 506, 507, 508, 509, 510, 511, 512, 513, 514, 515, 516, 517, 518, 519, 520, 521, 522, 523, 524, 525, 526, 527, 528, 529, 530, 531, 532, 533, 534, 535, 536, 537, 538, 539, 540, 541, 542, 543, 544, 545, 546, 547, 548, 549, 550, 551, 552, 553, 554, 555, 556, 557, 558, 559, 560, 561, 562, 563, 564, 565, 566, 567, 568, 569, 570, 571, 572, 573, 574, 575, 576, 577, 578, 579, 580, 71, 73, 67, 581, 582, 583, 584, 585, 586, 587, 588, 589, 590, 591, 592, 593, 594, 595, 596, 597, 598, 599, 600, 601, 602, 603, 604, 605, 606, 607, 608, 609, 610, 611, 612, 613, 614, 615, 616, 617, 618, 619, 620, 621, 622, 623, 624, 625, 626, 627, 628, 629, 630, 631, 632, 633, 634, 635, 636, 637, 638, 639, 640, 641, 642, 643, 87, 88, 89, 644, 645, 646, 647, 648, 649, 650, 651, 652, 653, 654, 655, 656, 657, 658, 659, 660, 661, 662, 663, 664, 665, 666, 667, 668, 669, 670, 1262, 1263, 1264, 1265, 1266, 1274, 1275, 1276, 1277, 1278, 1279, 1280, 1281, 1282, 1283, 1284, 1297, 1298, 1289, 1290, 1291, 1292, 1293, 1294, 1295, 1296, 1345, 1346, 1347, 1348, 1349, 1350, 1351, 1352, 1353, 1354, 1355, 1356, 1357, 1358, 1359, 1360, 1299, 1300, 1301, 1302, 1285, 1286, 1287, 1288] (by decide +kernel) (by decide +kernel)
set_option maxRecDepth 20000 in
theorem gL_law_X10_majority : GoodIn wsL_law (wsV RL 34 RX10 yX10_majority wsX10_majority) := goodIn_app (goodIn_of _ (by decide +kernel)) ggL_law_X10_majority
set_option maxRecDepth 20000 in
theorem ggL_law_X12_majority : GoodIn wsL_law wsX12_majority := goodIn_r _ [829, 104, 675, 676, 677, 103, 678, 153, 156, 140, 679, 680, 681, 682, 113, 152, 148, 151, 116, 126, 150, 119, 127, 135, 157, 137, 117, 683, 684, 685, 686, 146, 203, 5, 204, 687, 688, 689, 690, 134, 691, 692, 693, 694, 118, 695, 696, 697, 698, 699, 700, 701, 702, 703, 121, 704, 705, 706, 707, 708, 709, 710, 123, 711, 712, 713, 714, 715, 716, 717, 718, 719, 720, 721, 722, 723, 724, 725, 726, 147, 149, 128, 125, 124, 122, 727, 728, 729, 730, 731, 732, 733, 734, 735, 736, 737, 738, 114, 120, 133, 739, 740, 741, 742, 115, 743, 744, 745, 746, 129, 747, 748, 749, 750, 751, 752, 753, 754, 755, 131, 756, 757, 758, 759, 136, 138, 760, 761, 762, 763, 764, 765, 766, 767, 768, 769, 770, 771, 772, 773, 774, 775, 776, 777, 778, 779, 154, 141, 780, 781, 782, 783, 784, 785, 786, 787, 155, 158, 139, 788, 789, 790, 791, 792, 793, 794, 795, 796, 797, 202, 1267, 1268, 1269, 1270, 1271, 1272, 1273, 1303, 1304, 1305, 1306, 1307, 1308, 1309, 1310, 1311, 1312, 1313, 1314, 1315, 1316, 1317, 1318, 1319, 1320, 1321, 1322, 1323, 1324, 1325, 1326, 1327, 1328, 1329, 1330, 1331, 1332, 1333, 1334, 1335, 1336, 1337, 1338, 1339, 1340, 1341, 1342, 1343, 1344] (by decide +kernel) (by decide +kernel)
set_option maxRecDepth 20000 in
theorem gL_law_X12_majority : GoodIn wsL_law (wsV RL 38 RX12 yX12_majority wsX12_majority) := goodIn_app (goodIn_of _ (by decide +kernel)) ggL_law_X12_majority
set_option maxRecDepth 20000 in
theorem ggL_law_X10_limit : GoodIn wsL_law wsX10_limit := goodIn_r _ [833, 15, 209, 210, 211, 14, 212, 171, 39, 32, 180, 213, 214, 215, 216, 217, 218, 219, 220, 221, 222, 223, 224, 225, 226, 227, 228, 27, 229, 82, 49, 230, 231, 232, 233, 234, 235, 236, 237, 238, 239, 240, 241, 242, 243, 244, 245, 246, 247, 248, 249, 250, 251, 252, 31, 253, 191, 254, 255, 256, 257, 56, 258, 259, 260, 261, 262, 263, 264, 265, 91, 266, 267, 268, 269, 270, 271, 272, 273, 274, 275, 276, 35, 277, 60, 62, 278, 279, 280, 281, 282, 283, 284, 285, 286, 287, 288, 289, 290, 291, 292, 293, 294, 295, 296, 297, 298, 299, 300, 37, 301, 302, 303, 304, 305, 306, 307, 308, 309, 310, 311, 312, 313, 314, 315, 316, 317, 318, 319, 320, 321, 322, 323, 324, 325, 326, 327, 328, 329, 330, 331, 332, 333, 334, 335, 336, 337, 338, 339, 68, 69, 70, 340, 341, 342, 343, 90, 83, 344, 345, 346, 347, 348, 349, 350, 351, 352, 353, 354, 355, 356, 357, 358, 359, 360, 43, 361, 362, 363, 364, 365, 366, 367, 368, 369, 370, 371, 372, 373, 374, 375, 376, 377, 378, 379, 380, 381, 382, 19, 383, 384, 72, 385, 386, 387, 388, 389, 390, 391, 392, 393, 394, 395, 396, 397, 398, 399, 400, 401, 402, 403, 404, 405, 406, 407, 408, 409, 410, 411, 412, 413, 85, 414, 415, 416, 417, 51, 418, 419, 420, 421, 422, 423, 424, 425, 426, 427, 428, 429, 430, 431, 432, 433, 434, 193, 194, 195, 196, 197, 176, 177, 178, 179, 181, 182, 183, 184, 185, 186, 187, 188, 189, 190, 435, 436, 437, 438, 439, 440, 441, 442, 443, 10, 11, 444, 42, 445, 132, 446, 74, 75, 76, 50, 77, 447, 448, 449, 450, 451, 452, 453, 454, 455, 456, 457, 458, 459, 460, 461, 462, 463, 464, 465, 466, 467, 468, 469, 94, 470, 471, 472, 473, 474, 475, 476, 477, 478, 479, 480, 481, 482, 483, 484, 485, 486, 487, 488, 489, 490, 491, 492, 493, 494, 495, 496, 497, 498, 499, 500, 501, 502, 503, 504, 505, 506, 507, 508, 509, 510, 511, 512, 513, 514, 515, 516, 517, 518, 519, 520, 521, 522, 523, 524, 525, 526, 527, 528, 529, 530, 531, 532, 533, 534, 535, 536, 537, 538, 539, 540, 541, 542, 543, 544, 545, 546, 547, 548, 549, 550, 551, 552, 553, 554, 555, 556, 557, 558, 559, 560, 561, 562, 563, 564, 565, 566, 567, 568, 569, 570, 571, 572, 573, 574, 575, 576, 577, 578, 579, 580, 71, 73, 67, 581, 582, 583, 584, 585, 586, 587, 588, 589, 590, 591, 592, 593, 594, 595, 596, 597, 598, 599, 600, 601, 602, 603, 604, 605, 606, 607, 608, 609, 610, 611, 612, 613, 614, 615, 616, 617, 618, 619, 620, 621, 622, 623, 624, 625, 626, 627, 628, 629, 630, 631, 632, 633, 634, 635, 636, 637, 638, 639, 640, 641, 642, 643, 87, 88, 89, 644, 645, 646, 647, 648, 649, 650, 651, 652, 653, 654, 655, 656, 657, 658, 659, 660, 661, 662, 663, 664, 665, 666, 667, 668, 669, 670, 1262, 1263, 1264, 1265, 1266, 1274, 1275, 1276, 1277, 1278, 1279, 1280, 1281, 1282, 1283, 1284, 1297, 1298, 1289, 1290, 1291, 1292, 1293, 1294, 1295, 1296, 1345, 1346, 1347, 1348, 1349, 1350, 1351, 1352, 1353, 1354, 1355, 1356, 1357, 1358, 1359, 1360, 1299, 1300, 1301, 1302, 1285, 1286, 1287, 1288] (by decide +kernel) (by decide +kernel)
set_option maxRecDepth 20000 in
theorem gL_law_X10_limit : GoodIn wsL_law (wsV RL 39 RX10 yX10_limit wsX10_limit) := goodIn_app (goodIn_of _ (by decide +kernel)) ggL_law_X10_limit
set_option maxRecDepth 20000 in
theorem ggL_law_X12_limit : GoodIn wsL_law wsX12_limit := goodIn_r _ [837, 104, 675, 676, 677, 103, 678, 153, 156, 140, 679, 680, 681, 682, 113, 152, 148, 151, 116, 126, 150, 119, 127, 135, 157, 137, 117, 683, 684, 685, 686, 146, 203, 5, 204, 687, 688, 689, 690, 134, 691, 692, 693, 694, 118, 695, 696, 697, 698, 699, 700, 701, 702, 703, 121, 704, 705, 706, 707, 708, 709, 710, 123, 711, 712, 713, 714, 715, 716, 717, 718, 719, 720, 721, 722, 723, 724, 725, 726, 147, 149, 128, 125, 124, 122, 727, 728, 729, 730, 731, 732, 733, 734, 735, 736, 737, 738, 114, 120, 133, 739, 740, 741, 742, 115, 743, 744, 745, 746, 129, 747, 748, 749, 750, 751, 752, 753, 754, 755, 131, 756, 757, 758, 759, 136, 138, 760, 761, 762, 763, 764, 765, 766, 767, 768, 769, 770, 771, 772, 773, 774, 775, 776, 777, 778, 779, 154, 141, 780, 781, 782, 783, 784, 785, 786, 787, 155, 158, 139, 788, 789, 790, 791, 792, 793, 794, 795, 796, 797, 202, 1267, 1268, 1269, 1270, 1271, 1272, 1273, 1303, 1304, 1305, 1306, 1307, 1308, 1309, 1310, 1311, 1312, 1313, 1314, 1315, 1316, 1317, 1318, 1319, 1320, 1321, 1322, 1323, 1324, 1325, 1326, 1327, 1328, 1329, 1330, 1331, 1332, 1333, 1334, 1335, 1336, 1337, 1338, 1339, 1340, 1341, 1342, 1343, 1344] (by decide +kernel) (by decide +kernel)
set_option maxRecDepth 20000 in
theorem gL_law_X12_limit : GoodIn wsL_law (wsV RL 42 RX12 yX12_limit wsX12_limit) := goodIn_app (goodIn_of _ (by decide +kernel)) ggL_law_X12_limit
set_option maxRecDepth 20000 in
theorem ggL_law_X10_floor : GoodIn wsL_law wsX10_floor := goodIn_r _ [841, 15, 209, 210, 211, 14, 212, 171, 39, 32, 180, 213, 214, 215, 216, 217, 218, 219, 220, 221, 222, 223, 224, 225, 226, 227, 228, 27, 229, 82, 49, 230, 231, 232, 233, 234, 235, 236, 237, 238, 239, 240, 241, 242, 243, 244, 245, 246, 247, 248, 249, 250, 251, 252, 31, 253, 191, 254, 255, 256, 257, 56, 258, 259, 260, 261, 262, 263, 264, 265, 91, 266, 267, 268, 269, 270, 271, 272, 273, 274, 275, 276, 35, 277, 60, 62, 278, 279, 280, 281, 282, 283, 284, 285, 286, 287, 288, 289, 290, 291, 292, 293, 294, 295, 296, 297, 298, 299, 300, 37, 301, 302, 303, 304, 305, 306, 307, 308, 309, 310, 311, 312, 313, 314, 315, 316, 317, 318, 319, 320, 321, 322, 323, 324, 325, 326, 327, 328, 329, 330, 331, 332, 333, 334, 335, 336, 337, 338, 339, 68, 69, 70, 340, 341, 342, 343, 90, 83, 344, 345, 346, 347, 348, 349, 350, 351, 352, 353, 354, 355, 356, 357, 358, 359, 360, 43, 361, 362, 363, 364, 365, 366, 367, 368, 369, 370, 371, 372, 373, 374, 375, 376, 377, 378, 379, 380, 381, 382, 19, 383, 384, 72, 385, 386, 387, 388, 389, 390, 391, 392, 393, 394, 395, 396, 397, 398, 399, 400, 401, 402, 403, 404, 405, 406, 407, 408, 409, 410, 411, 412, 413, 85, 414, 415, 416, 417, 51, 418, 419, 420, 421, 422, 423, 424, 425, 426, 427, 428, 429, 430, 431, 432, 433, 434, 193, 194, 195, 196, 197, 176, 177, 178, 179, 181, 182, 183, 184, 185, 186, 187, 188, 189, 190, 435, 436, 437, 438, 439, 440, 441, 442, 443, 10, 11, 444, 42, 445, 132, 446, 74, 75, 76, 50, 77, 447, 448, 449, 450, 451, 452, 453, 454, 455, 456, 457, 458, 459, 460, 461, 462, 463, 464, 465, 466, 467, 468, 469, 94, 470, 471, 472, 473, 474, 475, 476, 477, 478, 479, 480, 481, 482, 483, 484, 485, 486, 487, 488, 489, 490, 491, 492, 493, 494, 495, 496, 497, 498, 499, 500, 501, 502, 503, 504, 505, 506, 507, 508, 509, 510, 511, 512, 513, 514, 515, 516, 517, 518, 519, 520, 521, 522, 523, 524, 525, 526, 527, 528, 529, 530, 531, 532, 533, 534, 535, 536, 537, 538, 539, 540, 541, 542, 543, 544, 545, 546, 547, 548, 549, 550, 551, 552, 553, 554, 555, 556, 557, 558, 559, 560, 561, 562, 563, 564, 565, 566, 567, 568, 569, 570, 571, 572, 573, 574, 575, 576, 577, 578, 579, 580, 71, 73, 67, 581, 582, 583, 584, 585, 586, 587, 588, 589, 590, 591, 592, 593, 594, 595, 596, 597, 598, 599, 600, 601, 602, 603, 604, 605, 606, 607, 608, 609, 610, 611, 612, 613, 614, 615, 616, 617, 618, 619, 620, 621, 622, 623, 624, 625, 626, 627, 628, 629, 630, 631, 632, 633, 634, 635, 636, 637, 638, 639, 640, 641, 642, 643, 87, 88, 89, 644, 645, 646, 647, 648, 649, 650, 651, 652, 653, 654, 655, 656, 657, 658, 659, 660, 661, 662, 663, 664, 665, 666, 667, 668, 669, 670, 1262, 1263, 1264, 1265, 1266, 1274, 1275, 1276, 1277, 1278, 1279, 1280, 1281, 1282, 1283, 1284, 1297, 1298, 1289, 1290, 1291, 1292, 1293, 1294, 1295, 1296, 1345, 1346, 1347, 1348, 1349, 1350, 1351, 1352, 1353, 1354, 1355, 1356, 1357, 1358, 1359, 1360, 1299, 1300, 1301, 1302, 1285, 1286, 1287, 1288] (by decide +kernel) (by decide +kernel)
set_option maxRecDepth 20000 in
theorem gL_law_X10_floor : GoodIn wsL_law (wsV RL 43 RX10 yX10_floor wsX10_floor) := goodIn_app (goodIn_of _ (by decide +kernel)) ggL_law_X10_floor
set_option maxRecDepth 20000 in
theorem ggL_law_X12_floor : GoodIn wsL_law wsX12_floor := goodIn_r _ [845, 104, 675, 676, 677, 103, 678, 153, 156, 140, 679, 680, 681, 682, 113, 152, 148, 151, 116, 126, 150, 119, 127, 135, 157, 137, 117, 683, 684, 685, 686, 146, 203, 5, 204, 687, 688, 689, 690, 134, 691, 692, 693, 694, 118, 695, 696, 697, 698, 699, 700, 701, 702, 703, 121, 704, 705, 706, 707, 708, 709, 710, 123, 711, 712, 713, 714, 715, 716, 717, 718, 719, 720, 721, 722, 723, 724, 725, 726, 147, 149, 128, 125, 124, 122, 727, 728, 729, 730, 731, 732, 733, 734, 735, 736, 737, 738, 114, 120, 133, 739, 740, 741, 742, 115, 743, 744, 745, 746, 129, 747, 748, 749, 750, 751, 752, 753, 754, 755, 131, 756, 757, 758, 759, 136, 138, 760, 761, 762, 763, 764, 765, 766, 767, 768, 769, 770, 771, 772, 773, 774, 775, 776, 777, 778, 779, 154, 141, 780, 781, 782, 783, 784, 785, 786, 787, 155, 158, 139, 788, 789, 790, 791, 792, 793, 794, 795, 796, 797, 202, 1267, 1268, 1269, 1270, 1271, 1272, 1273, 1303, 1304, 1305, 1306, 1307, 1308, 1309, 1310, 1311, 1312, 1313, 1314, 1315, 1316, 1317, 1318, 1319, 1320, 1321, 1322, 1323, 1324, 1325, 1326, 1327, 1328, 1329, 1330, 1331, 1332, 1333, 1334, 1335, 1336, 1337, 1338, 1339, 1340, 1341, 1342, 1343, 1344] (by decide +kernel) (by decide +kernel)
set_option maxRecDepth 20000 in
theorem gL_law_X12_floor : GoodIn wsL_law (wsV RL 46 RX12 yX12_floor wsX12_floor) := goodIn_app (goodIn_of _ (by decide +kernel)) ggL_law_X12_floor
set_option maxRecDepth 20000 in
theorem ggL_law_X10_cede : GoodIn wsL_law wsX10_cede := goodIn_r _ [849, 15, 209, 210, 211, 14, 212, 171, 39, 32, 180, 213, 214, 215, 216, 217, 218, 219, 220, 221, 222, 223, 224, 225, 226, 227, 228, 27, 229, 82, 49, 230, 231, 232, 233, 234, 235, 236, 237, 238, 239, 240, 241, 242, 243, 244, 245, 246, 247, 248, 249, 250, 251, 252, 31, 253, 191, 254, 255, 256, 257, 56, 258, 259, 260, 261, 262, 263, 264, 265, 91, 266, 267, 268, 269, 270, 271, 272, 273, 274, 275, 276, 35, 277, 60, 62, 278, 279, 280, 281, 282, 283, 284, 285, 286, 287, 288, 289, 290, 291, 292, 293, 294, 295, 296, 297, 298, 299, 300, 37, 301, 302, 303, 304, 305, 306, 307, 308, 309, 310, 311, 312, 313, 314, 315, 316, 317, 318, 319, 320, 321, 322, 323, 324, 325, 326, 327, 328, 329, 330, 331, 332, 333, 334, 335, 336, 337, 338, 339, 68, 69, 70, 340, 341, 342, 343, 90, 83, 344, 345, 346, 347, 348, 349, 350, 351, 352, 353, 354, 355, 356, 357, 358, 359, 360, 43, 361, 362, 363, 364, 365, 366, 367, 368, 369, 370, 371, 372, 373, 374, 375, 376, 377, 378, 379, 380, 381, 382, 19, 383, 384, 72, 385, 386, 387, 388, 389, 390, 391, 392, 393, 394, 395, 396, 397, 398, 399, 400, 401, 402, 403, 404, 405, 406, 407, 408, 409, 410, 411, 412, 413, 85, 414, 415, 416, 417, 51, 418, 419, 420, 421, 422, 423, 424, 425, 426, 427, 428, 429, 430, 431, 432, 433, 434, 193, 194, 195, 196, 197, 176, 177, 178, 179, 181, 182, 183, 184, 185, 186, 187, 188, 189, 190, 435, 436, 437, 438, 439, 440, 441, 442, 443, 10, 11, 444, 42, 445, 132, 446, 74, 75, 76, 50, 77, 447, 448, 449, 450, 451, 452, 453, 454, 455, 456, 457, 458, 459, 460, 461, 462, 463, 464, 465, 466, 467, 468, 469, 94, 470, 471, 472, 473, 474, 475, 476, 477, 478, 479, 480, 481, 482, 483, 484, 485, 486, 487, 488, 489, 490, 491, 492, 493, 494, 495, 496, 497, 498, 499, 500, 501, 502, 503, 504, 505, 506, 507, 508, 509, 510, 511, 512, 513, 514, 515, 516, 517, 518, 519, 520, 521, 522, 523, 524, 525, 526, 527, 528, 529, 530, 531, 532, 533, 534, 535, 536, 537, 538, 539, 540, 541, 542, 543, 544, 545, 546, 547, 548, 549, 550, 551, 552, 553, 554, 555, 556, 557, 558, 559, 560, 561, 562, 563, 564, 565, 566, 567, 568, 569, 570, 571, 572, 573, 574, 575, 576, 577, 578, 579, 580, 71, 73, 67, 581, 582, 583, 584, 585, 586, 587, 588, 589, 590, 591, 592, 593, 594, 595, 596, 597, 598, 599, 600, 601, 602, 603, 604, 605, 606, 607, 608, 609, 610, 611, 612, 613, 614, 615, 616, 617, 618, 619, 620, 621, 622, 623, 624, 625, 626, 627, 628, 629, 630, 631, 632, 633, 634, 635, 636, 637, 638, 639, 640, 641, 642, 643, 87, 88, 89, 644, 645, 646, 647, 648, 649, 650, 651, 652, 653, 654, 655, 656, 657, 658, 659, 660, 661, 662, 663, 664, 665, 666, 667, 668, 669, 670, 1262, 1263, 1264, 1265, 1266, 1274, 1275, 1276, 1277, 1278, 1279, 1280, 1281, 1282, 1283, 1284, 1297, 1298, 1289, 1290, 1291, 1292, 1293, 1294, 1295, 1296, 1345, 1346, 1347, 1348, 1349, 1350, 1351, 1352, 1353, 1354, 1355, 1356, 1357, 1358, 1359, 1360, 1299, 1300, 1301, 1302, 1285, 1286, 1287, 1288] (by decide +kernel) (by decide +kernel)
set_option maxRecDepth 20000 in
theorem gL_law_X10_cede : GoodIn wsL_law (wsV RL 47 RX10 yX10_cede wsX10_cede) := goodIn_app (goodIn_of _ (by decide +kernel)) ggL_law_X10_cede
set_option maxRecDepth 20000 in
theorem ggL_law_X12_cede : GoodIn wsL_law wsX12_cede := goodIn_r _ [853, 104, 675, 676, 677, 103, 678, 153, 156, 140, 679, 680, 681, 682, 113, 152, 148, 151, 116, 126, 150, 119, 127, 135, 157, 137, 117, 683, 684, 685, 686, 146, 203, 5, 204, 687, 688, 689, 690, 134, 691, 692, 693, 694, 118, 695, 696, 697, 698, 699, 700, 701, 702, 703, 121, 704, 705, 706, 707, 708, 709, 710, 123, 711, 712, 713, 714, 715, 716, 717, 718, 719, 720, 721, 722, 723, 724, 725, 726, 147, 149, 128, 125, 124, 122, 727, 728, 729, 730, 731, 732, 733, 734, 735, 736, 737, 738, 114, 120, 133, 739, 740, 741, 742, 115, 743, 744, 745, 746, 129, 747, 748, 749, 750, 751, 752, 753, 754, 755, 131, 756, 757, 758, 759, 136, 138, 760, 761, 762, 763, 764, 765, 766, 767, 768, 769, 770, 771, 772, 773, 774, 775, 776, 777, 778, 779, 154, 141, 780, 781, 782, 783, 784, 785, 786, 787, 155, 158, 139, 788, 789, 790, 791, 792, 793, 794, 795, 796, 797, 202, 1267, 1268, 1269, 1270, 1271, 1272, 1273, 1303, 1304, 1305, 1306, 1307, 1308, 1309, 1310, 1311, 1312, 1313, 1314, 1315, 1316, 1317, 1318, 1319, 1320, 1321, 1322, 1323, 1324, 1325, 1326, 1327, 1328, 1329, 1330, 1331, 1332, 1333, 1334, 1335, 1336, 1337, 1338, 1339, 1340, 1341, 1342, 1343, 1344] (by decide +kernel) (by decide +kernel)
set_option maxRecDepth 20000 in
theorem gL_law_X12_cede : GoodIn wsL_law (wsV RL 51 RX12 yX12_cede wsX12_cede) := goodIn_app (goodIn_of _ (by decide +kernel)) ggL_law_X12_cede
set_option maxRecDepth 20000 in
theorem ggL_law_X10_debate : GoodIn wsL_law wsX10_debate := goodIn_r _ [857, 15, 209, 210, 211, 14, 212, 171, 39, 32, 180, 213, 214, 215, 216, 217, 218, 219, 220, 221, 222, 223, 224, 225, 226, 227, 228, 27, 229, 82, 49, 230, 231, 232, 233, 234, 235, 236, 237, 238, 239, 240, 241, 242, 243, 244, 245, 246, 247, 248, 249, 250, 251, 252, 31, 253, 191, 254, 255, 256, 257, 56, 258, 259, 260, 261, 262, 263, 264, 265, 91, 266, 267, 268, 269, 270, 271, 272, 273, 274, 275, 276, 35, 277, 60, 62, 278, 279, 280, 281, 282, 283, 284, 285, 286, 287, 288, 289, 290, 291, 292, 293, 294, 295, 296, 297, 298, 299, 300, 37, 301, 302, 303, 304, 305, 306, 307, 308, 309, 310, 311, 312, 313, 314, 315, 316, 317, 318, 319, 320, 321, 322, 323, 324, 325, 326, 327, 328, 329, 330, 331, 332, 333, 334, 335, 336, 337, 338, 339, 68, 69, 70, 340, 341, 342, 343, 90, 83, 344, 345, 346, 347, 348, 349, 350, 351, 352, 353, 354, 355, 356, 357, 358, 359, 360, 43, 361, 362, 363, 364, 365, 366, 367, 368, 369, 370, 371, 372, 373, 374, 375, 376, 377, 378, 379, 380, 381, 382, 19, 383, 384, 72, 385, 386, 387, 388, 389, 390, 391, 392, 393, 394, 395, 396, 397, 398, 399, 400, 401, 402, 403, 404, 405, 406, 407, 408, 409, 410, 411, 412, 413, 85, 414, 415, 416, 417, 51, 418, 419, 420, 421, 422, 423, 424, 425, 426, 427, 428, 429, 430, 431, 432, 433, 434, 193, 194, 195, 196, 197, 176, 177, 178, 179, 181, 182, 183, 184, 185, 186, 187, 188, 189, 190, 435, 436, 437, 438, 439, 440, 441, 442, 443, 10, 11, 444, 42, 445, 132, 446, 74, 75, 76, 50, 77, 447, 448, 449, 450, 451, 452, 453, 454, 455, 456, 457, 458, 459, 460, 461, 462, 463, 464, 465, 466, 467, 468, 469, 94, 470, 471, 472, 473, 474, 475, 476, 477, 478, 479, 480, 481, 482, 483, 484, 485, 486, 487, 488, 489, 490, 491, 492, 493, 494, 495, 496, 497, 498, 499, 500, 501, 502, 503, 504, 505, 506, 507, 508, 509, 510, 511, 512, 513, 514, 515, 516, 517, 518, 519, 520, 521, 522, 523, 524, 525, 526, 527, 528, 529, 530, 531, 532, 533, 534, 535, 536, 537, 538, 539, 540, 541, 542, 543, 544, 545, 546, 547, 548, 549, 550, 551, 552, 553, 554, 555, 556, 557, 558, 559, 560, 561, 562, 563, 564, 565, 566, 567, 568, 569, 570, 571, 572, 573, 574, 575, 576, 577, 578, 579, 580, 71, 73, 67, 581, 582, 583, 584, 585, 586, 587, 588, 589, 590, 591, 592, 593, 594, 595, 596, 597, 598, 599, 600, 601, 602, 603, 604, 605, 606, 607, 608, 609, 610, 611, 612, 613, 614, 615, 616, 617, 618, 619, 620, 621, 622, 623, 624, 625, 626, 627, 628, 629, 630, 631, 632, 633, 634, 635, 636, 637, 638, 639, 640, 641, 642, 643, 87, 88, 89, 644, 645, 646, 647, 648, 649, 650, 651, 652, 653, 654, 655, 656, 657, 658, 659, 660, 661, 662, 663, 664, 665, 666, 667, 668, 669, 670, 1262, 1263, 1264, 1265, 1266, 1274, 1275, 1276, 1277, 1278, 1279, 1280, 1281, 1282, 1283, 1284, 1297, 1298, 1289, 1290, 1291, 1292, 1293, 1294, 1295, 1296, 1345, 1346, 1347, 1348, 1349, 1350, 1351, 1352, 1353, 1354, 1355, 1356, 1357, 1358, 1359, 1360, 1299, 1300, 1301, 1302, 1285, 1286, 1287, 1288] (by decide +kernel) (by decide +kernel)
set_option maxRecDepth 20000 in
theorem gL_law_X10_debate : GoodIn wsL_law (wsV RL 52 RX10 yX10_debate wsX10_debate) := goodIn_app (goodIn_of _ (by decide +kernel)) ggL_law_X10_debate
set_option maxRecDepth 20000 in
theorem ggL_law_X12_debate : GoodIn wsL_law wsX12_debate := goodIn_r _ [861, 104, 675, 676, 677, 103, 678, 153, 156, 140, 679, 680, 681, 682, 113, 152, 148, 151, 116, 126, 150, 119, 127, 135, 157, 137, 117, 683, 684, 685, 686, 146, 203, 5, 204, 687, 688, 689, 690, 134, 691, 692, 693, 694, 118, 695, 696, 697, 698, 699, 700, 701, 702, 703, 121, 704, 705, 706, 707, 708, 709, 710, 123, 711, 712, 713, 714, 715, 716, 717, 718, 719, 720, 721, 722, 723, 724, 725, 726, 147, 149, 128, 125, 124, 122, 727, 728, 729, 730, 731, 732, 733, 734, 735, 736, 737, 738, 114, 120, 133, 739, 740, 741, 742, 115, 743, 744, 745, 746, 129, 747, 748, 749, 750, 751, 752, 753, 754, 755, 131, 756, 757, 758, 759, 136, 138, 760, 761, 762, 763, 764, 765, 766, 767, 768, 769, 770, 771, 772, 773, 774, 775, 776, 777, 778, 779, 154, 141, 780, 781, 782, 783, 784, 785, 786, 787, 155, 158, 139, 788, 789, 790, 791, 792, 793, 794, 795, 796, 797, 202, 1267, 1268, 1269, 1270, 1271, 1272, 1273, 1303, 1304, 1305, 1306, 1307, 1308, 1309, 1310, 1311, 1312, 1313, 1314, 1315, 1316, 1317, 1318, 1319, 1320, 1321, 1322, 1323, 1324, 1325, 1326, 1327, 1328, 1329, 1330, 1331, 1332, 1333, 1334, 1335, 1336, 1337, 1338, 1339, 1340, 1341, 1342, 1343, 1344] (by decide +kernel) (by decide +kernel)
set_option maxRecDepth 20000 in
theorem gL_law_X12_debate : GoodIn wsL_law (wsV RL 55 RX12 yX12_debate wsX12_debate) := goodIn_app (goodIn_of _ (by decide +kernel)) ggL_law_X12_debate
set_option maxRecDepth 20000 in
theorem ggL_law_X10_draft : GoodIn wsL_law wsX10_draft := goodIn_r _ [865, 15, 209, 210, 211, 14, 212, 171, 39, 32, 180, 213, 214, 215, 216, 217, 218, 219, 220, 221, 222, 223, 224, 225, 226, 227, 228, 27, 229, 82, 49, 230, 231, 232, 233, 234, 235, 236, 237, 238, 239, 240, 241, 242, 243, 244, 245, 246, 247, 248, 249, 250, 251, 252, 31, 253, 191, 254, 255, 256, 257, 56, 258, 259, 260, 261, 262, 263, 264, 265, 91, 266, 267, 268, 269, 270, 271, 272, 273, 274, 275, 276, 35, 277, 60, 62, 278, 279, 280, 281, 282, 283, 284, 285, 286, 287, 288, 289, 290, 291, 292, 293, 294, 295, 296, 297, 298, 299, 300, 37, 301, 302, 303, 304, 305, 306, 307, 308, 309, 310, 311, 312, 313, 314, 315, 316, 317, 318, 319, 320, 321, 322, 323, 324, 325, 326, 327, 328, 329, 330, 331, 332, 333, 334, 335, 336, 337, 338, 339, 68, 69, 70, 340, 341, 342, 343, 90, 83, 344, 345, 346, 347, 348, 349, 350, 351, 352, 353, 354, 355, 356, 357, 358, 359, 360, 43, 361, 362, 363, 364, 365, 366, 367, 368, 369, 370, 371, 372, 373, 374, 375, 376, 377, 378, 379, 380, 381, 382, 19, 383, 384, 72, 385, 386, 387, 388, 389, 390, 391, 392, 393, 394, 395, 396, 397, 398, 399, 400, 401, 402, 403, 404, 405, 406, 407, 408, 409, 410, 411, 412, 413, 85, 414, 415, 416, 417, 51, 418, 419, 420, 421, 422, 423, 424, 425, 426, 427, 428, 429, 430, 431, 432, 433, 434, 193, 194, 195, 196, 197, 176, 177, 178, 179, 181, 182, 183, 184, 185, 186, 187, 188, 189, 190, 435, 436, 437, 438, 439, 440, 441, 442, 443, 10, 11, 444, 42, 445, 132, 446, 74, 75, 76, 50, 77, 447, 448, 449, 450, 451, 452, 453, 454, 455, 456, 457, 458, 459, 460, 461, 462, 463, 464, 465, 466, 467, 468, 469, 94, 470, 471, 472, 473, 474, 475, 476, 477, 478, 479, 480, 481, 482, 483, 484, 485, 486, 487, 488, 489, 490, 491, 492, 493, 494, 495, 496, 497, 498, 499, 500, 501, 502, 503, 504, 505, 506, 507, 508, 509, 510, 511, 512, 513, 514, 515, 516, 517, 518, 519, 520, 521, 522, 523, 524, 525, 526, 527, 528, 529, 530, 531, 532, 533, 534, 535, 536, 537, 538, 539, 540, 541, 542, 543, 544, 545, 546, 547, 548, 549, 550, 551, 552, 553, 554, 555, 556, 557, 558, 559, 560, 561, 562, 563, 564, 565, 566, 567, 568, 569, 570, 571, 572, 573, 574, 575, 576, 577, 578, 579, 580, 71, 73, 67, 581, 582, 583, 584, 585, 586, 587, 588, 589, 590, 591, 592, 593, 594, 595, 596, 597, 598, 599, 600, 601, 602, 603, 604, 605, 606, 607, 608, 609, 610, 611, 612, 613, 614, 615, 616, 617, 618, 619, 620, 621, 622, 623, 624, 625, 626, 627, 628, 629, 630, 631, 632, 633, 634, 635, 636, 637, 638, 639, 640, 641, 642, 643, 87, 88, 89, 644, 645, 646, 647, 648, 649, 650, 651, 652, 653, 654, 655, 656, 657, 658, 659, 660, 661, 662, 663, 664, 665, 666, 667, 668, 669, 670, 1262, 1263, 1264, 1265, 1266, 1274, 1275, 1276, 1277, 1278, 1279, 1280, 1281, 1282, 1283, 1284, 1297, 1298, 1289, 1290, 1291, 1292, 1293, 1294, 1295, 1296, 1345, 1346, 1347, 1348, 1349, 1350, 1351, 1352, 1353, 1354, 1355, 1356, 1357, 1358, 1359, 1360, 1299, 1300, 1301, 1302, 1285, 1286, 1287, 1288] (by decide +kernel) (by decide +kernel)
set_option maxRecDepth 20000 in
theorem gL_law_X10_draft : GoodIn wsL_law (wsV RL 56 RX10 yX10_draft wsX10_draft) := goodIn_app (goodIn_of _ (by decide +kernel)) ggL_law_X10_draft
set_option maxRecDepth 20000 in
theorem ggL_law_X12_draft : GoodIn wsL_law wsX12_draft := goodIn_r _ [869, 104, 675, 676, 677, 103, 678, 153, 156, 140, 679, 680, 681, 682, 113, 152, 148, 151, 116, 126, 150, 119, 127, 135, 157, 137, 117, 683, 684, 685, 686, 146, 203, 5, 204, 687, 688, 689, 690, 134, 691, 692, 693, 694, 118, 695, 696, 697, 698, 699, 700, 701, 702, 703, 121, 704, 705, 706, 707, 708, 709, 710, 123, 711, 712, 713, 714, 715, 716, 717, 718, 719, 720, 721, 722, 723, 724, 725, 726, 147, 149, 128, 125, 124, 122, 727, 728, 729, 730, 731, 732, 733, 734, 735, 736, 737, 738, 114, 120, 133, 739, 740, 741, 742, 115, 743, 744, 745, 746, 129, 747, 748, 749, 750, 751, 752, 753, 754, 755, 131, 756, 757, 758, 759, 136, 138, 760, 761, 762, 763, 764, 765, 766, 767, 768, 769, 770, 771, 772, 773, 774, 775, 776, 777, 778, 779, 154, 141, 780, 781, 782, 783, 784, 785, 786, 787, 155, 158, 139, 788, 789, 790, 791, 792, 793, 794, 795, 796, 797, 202, 1267, 1268, 1269, 1270, 1271, 1272, 1273, 1303, 1304, 1305, 1306, 1307, 1308, 1309, 1310, 1311, 1312, 1313, 1314, 1315, 1316, 1317, 1318, 1319, 1320, 1321, 1322, 1323, 1324, 1325, 1326, 1327, 1328, 1329, 1330, 1331, 1332, 1333, 1334, 1335, 1336, 1337, 1338, 1339, 1340, 1341, 1342, 1343, 1344] (by decide +kernel) (by decide +kernel)
set_option maxRecDepth 20000 in
theorem gL_law_X12_draft : GoodIn wsL_law (wsV RL 59 RX12 yX12_draft wsX12_draft) := goodIn_app (goodIn_of _ (by decide +kernel)) ggL_law_X12_draft
set_option maxRecDepth 20000 in
theorem ggL_law_X10_span : GoodIn wsL_law wsX10_span := goodIn_r _ [873, 15, 209, 210, 211, 14, 212, 171, 39, 32, 180, 213, 214, 215, 216, 217, 218, 219, 220, 221, 222, 223, 224, 225, 226, 227, 228, 27, 229, 82, 49, 230, 231, 232, 233, 234, 235, 236, 237, 238, 239, 240, 241, 242, 243, 244, 245, 246, 247, 248, 249, 250, 251, 252, 31, 253, 191, 254, 255, 256, 257, 56, 258, 259, 260, 261, 262, 263, 264, 265, 91, 266, 267, 268, 269, 270, 271, 272, 273, 274, 275, 276, 35, 277, 60, 62, 278, 279, 280, 281, 282, 283, 284, 285, 286, 287, 288, 289, 290, 291, 292, 293, 294, 295, 296, 297, 298, 299, 300, 37, 301, 302, 303, 304, 305, 306, 307, 308, 309, 310, 311, 312, 313, 314, 315, 316, 317, 318, 319, 320, 321, 322, 323, 324, 325, 326, 327, 328, 329, 330, 331, 332, 333, 334, 335, 336, 337, 338, 339, 68, 69, 70, 340, 341, 342, 343, 90, 83, 344, 345, 346, 347, 348, 349, 350, 351, 352, 353, 354, 355, 356, 357, 358, 359, 360, 43, 361, 362, 363, 364, 365, 366, 367, 368, 369, 370, 371, 372, 373, 374, 375, 376, 377, 378, 379, 380, 381, 382, 19, 383, 384, 72, 385, 386, 387, 388, 389, 390, 391, 392, 393, 394, 395, 396, 397, 398, 399, 400, 401, 402, 403, 404, 405, 406, 407, 408, 409, 410, 411, 412, 413, 85, 414, 415, 416, 417, 51, 418, 419, 420, 421, 422, 423, 424, 425, 426, 427, 428, 429, 430, 431, 432, 433, 434, 193, 194, 195, 196, 197, 176, 177, 178, 179, 181, 182, 183, 184, 185, 186, 187, 188, 189, 190, 435, 436, 437, 438, 439, 440, 441, 442, 443, 10, 11, 444, 42, 445, 132, 446, 74, 75, 76, 50, 77, 447, 448, 449, 450, 451, 452, 453, 454, 455, 456, 457, 458, 459, 460, 461, 462, 463, 464, 465, 466, 467, 468, 469, 94, 470, 471, 472, 473, 474, 475, 476, 477, 478, 479, 480, 481, 482, 483, 484, 485, 486, 487, 488, 489, 490, 491, 492, 493, 494, 495, 496, 497, 498, 499, 500, 501, 502, 503, 504, 505, 506, 507, 508, 509, 510, 511, 512, 513, 514, 515, 516, 517, 518, 519, 520, 521, 522, 523, 524, 525, 526, 527, 528, 529, 530, 531, 532, 533, 534, 535, 536, 537, 538, 539, 540, 541, 542, 543, 544, 545, 546, 547, 548, 549, 550, 551, 552, 553, 554, 555, 556, 557, 558, 559, 560, 561, 562, 563, 564, 565, 566, 567, 568, 569, 570, 571, 572, 573, 574, 575, 576, 577, 578, 579, 580, 71, 73, 67, 581, 582, 583, 584, 585, 586, 587, 588, 589, 590, 591, 592, 593, 594, 595, 596, 597, 598, 599, 600, 601, 602, 603, 604, 605, 606, 607, 608, 609, 610, 611, 612, 613, 614, 615, 616, 617, 618, 619, 620, 621, 622, 623, 624, 625, 626, 627, 628, 629, 630, 631, 632, 633, 634, 635, 636, 637, 638, 639, 640, 641, 642, 643, 87, 88, 89, 644, 645, 646, 647, 648, 649, 650, 651, 652, 653, 654, 655, 656, 657, 658, 659, 660, 661, 662, 663, 664, 665, 666, 667, 668, 669, 670, 1262, 1263, 1264, 1265, 1266, 1274, 1275, 1276, 1277, 1278, 1279, 1280, 1281, 1282, 1283, 1284, 1297, 1298, 1289, 1290, 1291, 1292, 1293, 1294, 1295, 1296, 1345, 1346, 1347, 1348, 1349, 1350, 1351, 1352, 1353, 1354, 1355, 1356, 1357, 1358, 1359, 1360, 1299, 1300, 1301, 1302, 1285, 1286, 1287, 1288] (by decide +kernel) (by decide +kernel)
set_option maxRecDepth 20000 in
theorem gL_law_X10_span : GoodIn wsL_law (wsV RL 60 RX10 yX10_span wsX10_span) := goodIn_app (goodIn_of _ (by decide +kernel)) ggL_law_X10_span
set_option maxRecDepth 20000 in
theorem ggL_law_X12_span : GoodIn wsL_law wsX12_span := goodIn_r _ [877, 104, 675, 676, 677, 103, 678, 153, 156, 140, 679, 680, 681, 682, 113, 152, 148, 151, 116, 126, 150, 119, 127, 135, 157, 137, 117, 683, 684, 685, 686, 146, 203, 5, 204, 687, 688, 689, 690, 134, 691, 692, 693, 694, 118, 695, 696, 697, 698, 699, 700, 701, 702, 703, 121, 704, 705, 706, 707, 708, 709, 710, 123, 711, 712, 713, 714, 715, 716, 717, 718, 719, 720, 721, 722, 723, 724, 725, 726, 147, 149, 128, 125, 124, 122, 727, 728, 729, 730, 731, 732, 733, 734, 735, 736, 737, 738, 114, 120, 133, 739, 740, 741, 742, 115, 743, 744, 745, 746, 129, 747, 748, 749, 750, 751, 752, 753, 754, 755, 131, 756, 757, 758, 759, 136, 138, 760, 761, 762, 763, 764, 765, 766, 767, 768, 769, 770, 771, 772, 773, 774, 775, 776, 777, 778, 779, 154, 141, 780, 781, 782, 783, 784, 785, 786, 787, 155, 158, 139, 788, 789, 790, 791, 792, 793, 794, 795, 796, 797, 202, 1267, 1268, 1269, 1270, 1271, 1272, 1273, 1303, 1304, 1305, 1306, 1307, 1308, 1309, 1310, 1311, 1312, 1313, 1314, 1315, 1316, 1317, 1318, 1319, 1320, 1321, 1322, 1323, 1324, 1325, 1326, 1327, 1328, 1329, 1330, 1331, 1332, 1333, 1334, 1335, 1336, 1337, 1338, 1339, 1340, 1341, 1342, 1343, 1344] (by decide +kernel) (by decide +kernel)
set_option maxRecDepth 20000 in
theorem gL_law_X12_span : GoodIn wsL_law (wsV RL 63 RX12 yX12_span wsX12_span) := goodIn_app (goodIn_of _ (by decide +kernel)) ggL_law_X12_span
set_option maxRecDepth 20000 in
theorem ggL_law_X10_word : GoodIn wsL_law wsX10_word := goodIn_r _ [881, 15, 209, 210, 211, 14, 212, 171, 39, 32, 180, 213, 214, 215, 216, 217, 218, 219, 220, 221, 222, 223, 224, 225, 226, 227, 228, 27, 229, 82, 49, 230, 231, 232, 233, 234, 235, 236, 237, 238, 239, 240, 241, 242, 243, 244, 245, 246, 247, 248, 249, 250, 251, 252, 31, 253, 191, 254, 255, 256, 257, 56, 258, 259, 260, 261, 262, 263, 264, 265, 91, 266, 267, 268, 269, 270, 271, 272, 273, 274, 275, 276, 35, 277, 60, 62, 278, 279, 280, 281, 282, 283, 284, 285, 286, 287, 288, 289, 290, 291, 292, 293, 294, 295, 296, 297, 298, 299, 300, 37, 301, 302, 303, 304, 305, 306, 307, 308, 309, 310, 311, 312, 313, 314, 315, 316, 317, 318, 319, 320, 321, 322, 323, 324, 325, 326, 327, 328, 329, 330, 331, 332, 333, 334, 335, 336, 337, 338, 339, 68, 69, 70, 340, 341, 342, 343, 90, 83, 344, 345, 346, 347, 348, 349, 350, 351, 352, 353, 354, 355, 356, 357, 358, 359, 360, 43, 361, 362, 363, 364, 365, 366, 367, 368, 369, 370, 371, 372, 373, 374, 375, 376, 377, 378, 379, 380, 381, 382, 19, 383, 384, 72, 385, 386, 387, 388, 389, 390, 391, 392, 393, 394, 395, 396, 397, 398, 399, 400, 401, 402, 403, 404, 405, 406, 407, 408, 409, 410, 411, 412, 413, 85, 414, 415, 416, 417, 51, 418, 419, 420, 421, 422, 423, 424, 425, 426, 427, 428, 429, 430, 431, 432, 433, 434, 193, 194, 195, 196, 197, 176, 177, 178, 179, 181, 182, 183, 184, 185, 186, 187, 188, 189, 190, 435, 436, 437, 438, 439, 440, 441, 442, 443, 10, 11, 444, 42, 445, 132, 446, 74, 75, 76, 50, 77, 447, 448, 449, 450, 451, 452, 453, 454, 455, 456, 457, 458, 459, 460, 461, 462, 463, 464, 465, 466, 467, 468, 469, 94, 470, 471, 472, 473, 474, 475, 476, 477, 478, 479, 480, 481, 482, 483, 484, 485, 486, 487, 488, 489, 490, 491, 492, 493, 494, 495, 496, 497, 498, 499, 500, 501, 502, 503, 504, 505, 506, 507, 508, 509, 510, 511, 512, 513, 514, 515, 516, 517, 518, 519, 520, 521, 522, 523, 524, 525, 526, 527, 528, 529, 530, 531, 532, 533, 534, 535, 536, 537, 538, 539, 540, 541, 542, 543, 544, 545, 546, 547, 548, 549, 550, 551, 552, 553, 554, 555, 556, 557, 558, 559, 560, 561, 562, 563, 564, 565, 566, 567, 568, 569, 570, 571, 572, 573, 574, 575, 576, 577, 578, 579, 580, 71, 73, 67, 581, 582, 583, 584, 585, 586, 587, 588, 589, 590, 591, 592, 593, 594, 595, 596, 597, 598, 599, 600, 601, 602, 603, 604, 605, 606, 607, 608, 609, 610, 611, 612, 613, 614, 615, 616, 617, 618, 619, 620, 621, 622, 623, 624, 625, 626, 627, 628, 629, 630, 631, 632, 633, 634, 635, 636, 637, 638, 639, 640, 641, 642, 643, 87, 88, 89, 644, 645, 646, 647, 648, 649, 650, 651, 652, 653, 654, 655, 656, 657, 658, 659, 660, 661, 662, 663, 664, 665, 666, 667, 668, 669, 670, 1262, 1263, 1264, 1265, 1266, 1274, 1275, 1276, 1277, 1278, 1279, 1280, 1281, 1282, 1283, 1284, 1297, 1298, 1289, 1290, 1291, 1292, 1293, 1294, 1295, 1296, 1345, 1346, 1347, 1348, 1349, 1350, 1351, 1352, 1353, 1354, 1355, 1356, 1357, 1358, 1359, 1360, 1299, 1300, 1301, 1302, 1285, 1286, 1287, 1288] (by decide +kernel) (by decide +kernel)
set_option maxRecDepth 20000 in
theorem gL_law_X10_word : GoodIn wsL_law (wsV RL 64 RX10 yX10_word wsX10_word) := goodIn_app (goodIn_of _ (by decide +kernel)) ggL_law_X10_word
set_option maxRecDepth 20000 in
theorem ggL_law_X12_word : GoodIn wsL_law wsX12_word := goodIn_r _ [885, 104, 675, 676, 677, 103, 678, 153, 156, 140, 679, 680, 681, 682, 113, 152, 148, 151, 116, 126, 150, 119, 127, 135, 157, 137, 117, 683, 684, 685, 686, 146, 203, 5, 204, 687, 688, 689, 690, 134, 691, 692, 693, 694, 118, 695, 696, 697, 698, 699, 700, 701, 702, 703, 121, 704, 705, 706, 707, 708, 709, 710, 123, 711, 712, 713, 714, 715, 716, 717, 718, 719, 720, 721, 722, 723, 724, 725, 726, 147, 149, 128, 125, 124, 122, 727, 728, 729, 730, 731, 732, 733, 734, 735, 736, 737, 738, 114, 120, 133, 739, 740, 741, 742, 115, 743, 744, 745, 746, 129, 747, 748, 749, 750, 751, 752, 753, 754, 755, 131, 756, 757, 758, 759, 136, 138, 760, 761, 762, 763, 764, 765, 766, 767, 768, 769, 770, 771, 772, 773, 774, 775, 776, 777, 778, 779, 154, 141, 780, 781, 782, 783, 784, 785, 786, 787, 155, 158, 139, 788, 789, 790, 791, 792, 793, 794, 795, 796, 797, 202, 1267, 1268, 1269, 1270, 1271, 1272, 1273, 1303, 1304, 1305, 1306, 1307, 1308, 1309, 1310, 1311, 1312, 1313, 1314, 1315, 1316, 1317, 1318, 1319, 1320, 1321, 1322, 1323, 1324, 1325, 1326, 1327, 1328, 1329, 1330, 1331, 1332, 1333, 1334, 1335, 1336, 1337, 1338, 1339, 1340, 1341, 1342, 1343, 1344] (by decide +kernel) (by decide +kernel)
set_option maxRecDepth 20000 in
theorem gL_law_X12_word : GoodIn wsL_law (wsV RL 68 RX12 yX12_word wsX12_word) := goodIn_app (goodIn_of _ (by decide +kernel)) ggL_law_X12_word
set_option maxRecDepth 20000 in
theorem ggL_law_X10_lay : GoodIn wsL_law wsX10_lay := goodIn_r _ [889, 15, 209, 210, 211, 14, 212, 171, 39, 32, 180, 213, 214, 215, 216, 217, 218, 219, 220, 221, 222, 223, 224, 225, 226, 227, 228, 27, 229, 82, 49, 230, 231, 232, 233, 234, 235, 236, 237, 238, 239, 240, 241, 242, 243, 244, 245, 246, 247, 248, 249, 250, 251, 252, 31, 253, 191, 254, 255, 256, 257, 56, 258, 259, 260, 261, 262, 263, 264, 265, 91, 266, 267, 268, 269, 270, 271, 272, 273, 274, 275, 276, 35, 277, 60, 62, 278, 279, 280, 281, 282, 283, 284, 285, 286, 287, 288, 289, 290, 291, 292, 293, 294, 295, 296, 297, 298, 299, 300, 37, 301, 302, 303, 304, 305, 306, 307, 308, 309, 310, 311, 312, 313, 314, 315, 316, 317, 318, 319, 320, 321, 322, 323, 324, 325, 326, 327, 328, 329, 330, 331, 332, 333, 334, 335, 336, 337, 338, 339, 68, 69, 70, 340, 341, 342, 343, 90, 83, 344, 345, 346, 347, 348, 349, 350, 351, 352, 353, 354, 355, 356, 357, 358, 359, 360, 43, 361, 362, 363, 364, 365, 366, 367, 368, 369, 370, 371, 372, 373, 374, 375, 376, 377, 378, 379, 380, 381, 382, 19, 383, 384, 72, 385, 386, 387, 388, 389, 390, 391, 392, 393, 394, 395, 396, 397, 398, 399, 400, 401, 402, 403, 404, 405, 406, 407, 408, 409, 410, 411, 412, 413, 85, 414, 415, 416, 417, 51, 418, 419, 420, 421, 422, 423, 424, 425, 426, 427, 428, 429, 430, 431, 432, 433, 434, 193, 194, 195, 196, 197, 176, 177, 178, 179, 181, 182, 183, 184, 185, 186, 187, 188, 189, 190, 435, 436, 437, 438, 439, 440, 441, 442, 443, 10, 11, 444, 42, 445, 132, 446, 74, 75, 76, 50, 77, 447, 448, 449, 450, 451, 452, 453, 454, 455, 456, 457, 458, 459, 460, 461, 462, 463, 464, 465, 466, 467, 468, 469, 94, 470, 471, 472, 473, 474, 475, 476, 477, 478, 479, 480, 481, 482, 483, 484, 485, 486, 487, 488, 489, 490, 491, 492, 493, 494, 495, 496, 497, 498, 499, 500, 501, 502, 503, 504, 505, 506, 507, 508, 509, 510, 511, 512, 513, 514, 515, 516, 517, 518, 519, 520, 521, 522, 523, 524, 525, 526, 527, 528, 529, 530, 531, 532, 533, 534, 535, 536, 537, 538, 539, 540, 541, 542, 543, 544, 545, 546, 547, 548, 549, 550, 551, 552, 553, 554, 555, 556, 557, 558, 559, 560, 561, 562, 563, 564, 565, 566, 567, 568, 569, 570, 571, 572, 573, 574, 575, 576, 577, 578, 579, 580, 71, 73, 67, 581, 582, 583, 584, 585, 586, 587, 588, 589, 590, 591, 592, 593, 594, 595, 596, 597, 598, 599, 600, 601, 602, 603, 604, 605, 606, 607, 608, 609, 610, 611, 612, 613, 614, 615, 616, 617, 618, 619, 620, 621, 622, 623, 624, 625, 626, 627, 628, 629, 630, 631, 632, 633, 634, 635, 636, 637, 638, 639, 640, 641, 642, 643, 87, 88, 89, 644, 645, 646, 647, 648, 649, 650, 651, 652, 653, 654, 655, 656, 657, 658, 659, 660, 661, 662, 663, 664, 665, 666, 667, 668, 669, 670, 1262, 1263, 1264, 1265, 1266, 1274, 1275, 1276, 1277, 1278, 1279, 1280, 1281, 1282, 1283, 1284, 1297, 1298, 1289, 1290, 1291, 1292, 1293, 1294, 1295, 1296, 1345, 1346, 1347, 1348, 1349, 1350, 1351, 1352, 1353, 1354, 1355, 1356, 1357, 1358, 1359, 1360, 1299, 1300, 1301, 1302, 1285, 1286, 1287, 1288] (by decide +kernel) (by decide +kernel)
set_option maxRecDepth 20000 in
theorem gL_law_X10_lay : GoodIn wsL_law (wsV RL 69 RX10 yX10_lay wsX10_lay) := goodIn_app (goodIn_of _ (by decide +kernel)) ggL_law_X10_lay
set_option maxRecDepth 20000 in
theorem ggL_law_X12_lay : GoodIn wsL_law wsX12_lay := goodIn_r _ [893, 104, 675, 676, 677, 103, 678, 153, 156, 140, 679, 680, 681, 682, 113, 152, 148, 151, 116, 126, 150, 119, 127, 135, 157, 137, 117, 683, 684, 685, 686, 146, 203, 5, 204, 687, 688, 689, 690, 134, 691, 692, 693, 694, 118, 695, 696, 697, 698, 699, 700, 701, 702, 703, 121, 704, 705, 706, 707, 708, 709, 710, 123, 711, 712, 713, 714, 715, 716, 717, 718, 719, 720, 721, 722, 723, 724, 725, 726, 147, 149, 128, 125, 124, 122, 727, 728, 729, 730, 731, 732, 733, 734, 735, 736, 737, 738, 114, 120, 133, 739, 740, 741, 742, 115, 743, 744, 745, 746, 129, 747, 748, 749, 750, 751, 752, 753, 754, 755, 131, 756, 757, 758, 759, 136, 138, 760, 761, 762, 763, 764, 765, 766, 767, 768, 769, 770, 771, 772, 773, 774, 775, 776, 777, 778, 779, 154, 141, 780, 781, 782, 783, 784, 785, 786, 787, 155, 158, 139, 788, 789, 790, 791, 792, 793, 794, 795, 796, 797, 202, 1267, 1268, 1269, 1270, 1271, 1272, 1273, 1303, 1304, 1305, 1306, 1307, 1308, 1309, 1310, 1311, 1312, 1313, 1314, 1315, 1316, 1317, 1318, 1319, 1320, 1321, 1322, 1323, 1324, 1325, 1326, 1327, 1328, 1329, 1330, 1331, 1332, 1333, 1334, 1335, 1336, 1337, 1338, 1339, 1340, 1341, 1342, 1343, 1344] (by decide +kernel) (by decide +kernel)
set_option maxRecDepth 20000 in
theorem gL_law_X12_lay : GoodIn wsL_law (wsV RL 72 RX12 yX12_lay wsX12_lay) := goodIn_app (goodIn_of _ (by decide +kernel)) ggL_law_X12_lay
set_option maxRecDepth 20000 in
theorem ggL_law_X10_take : GoodIn wsL_law wsX10_take := goodIn_r _ [897, 15, 209, 210, 211, 14, 212, 171, 39, 32, 180, 213, 214, 215, 216, 217, 218, 219, 220, 221, 222, 223, 224, 225, 226, 227, 228, 27, 229, 82, 49, 230, 231, 232, 233, 234, 235, 236, 237, 238, 239, 240, 241, 242, 243, 244, 245, 246, 247, 248, 249, 250, 251, 252, 31, 253, 191, 254, 255, 256, 257, 56, 258, 259, 260, 261, 262, 263, 264, 265, 91, 266, 267, 268, 269, 270, 271, 272, 273, 274, 275, 276, 35, 277, 60, 62, 278, 279, 280, 281, 282, 283, 284, 285, 286, 287, 288, 289, 290, 291, 292, 293, 294, 295, 296, 297, 298, 299, 300, 37, 301, 302, 303, 304, 305, 306, 307, 308, 309, 310, 311, 312, 313, 314, 315, 316, 317, 318, 319, 320, 321, 322, 323, 324, 325, 326, 327, 328, 329, 330, 331, 332, 333, 334, 335, 336, 337, 338, 339, 68, 69, 70, 340, 341, 342, 343, 90, 83, 344, 345, 346, 347, 348, 349, 350, 351, 352, 353, 354, 355, 356, 357, 358, 359, 360, 43, 361, 362, 363, 364, 365, 366, 367, 368, 369, 370, 371, 372, 373, 374, 375, 376, 377, 378, 379, 380, 381, 382, 19, 383, 384, 72, 385, 386, 387, 388, 389, 390, 391, 392, 393, 394, 395, 396, 397, 398, 399, 400, 401, 402, 403, 404, 405, 406, 407, 408, 409, 410, 411, 412, 413, 85, 414, 415, 416, 417, 51, 418, 419, 420, 421, 422, 423, 424, 425, 426, 427, 428, 429, 430, 431, 432, 433, 434, 193, 194, 195, 196, 197, 176, 177, 178, 179, 181, 182, 183, 184, 185, 186, 187, 188, 189, 190, 435, 436, 437, 438, 439, 440, 441, 442, 443, 10, 11, 444, 42, 445, 132, 446, 74, 75, 76, 50, 77, 447, 448, 449, 450, 451, 452, 453, 454, 455, 456, 457, 458, 459, 460, 461, 462, 463, 464, 465, 466, 467, 468, 469, 94, 470, 471, 472, 473, 474, 475, 476, 477, 478, 479, 480, 481, 482, 483, 484, 485, 486, 487, 488, 489, 490, 491, 492, 493, 494, 495, 496, 497, 498, 499, 500, 501, 502, 503, 504, 505, 506, 507, 508, 509, 510, 511, 512, 513, 514, 515, 516, 517, 518, 519, 520, 521, 522, 523, 524, 525, 526, 527, 528, 529, 530, 531, 532, 533, 534, 535, 536, 537, 538, 539, 540, 541, 542, 543, 544, 545, 546, 547, 548, 549, 550, 551, 552, 553, 554, 555, 556, 557, 558, 559, 560, 561, 562, 563, 564, 565, 566, 567, 568, 569, 570, 571, 572, 573, 574, 575, 576, 577, 578, 579, 580, 71, 73, 67, 581, 582, 583, 584, 585, 586, 587, 588, 589, 590, 591, 592, 593, 594, 595, 596, 597, 598, 599, 600, 601, 602, 603, 604, 605, 606, 607, 608, 609, 610, 611, 612, 613, 614, 615, 616, 617, 618, 619, 620, 621, 622, 623, 624, 625, 626, 627, 628, 629, 630, 631, 632, 633, 634, 635, 636, 637, 638, 639, 640, 641, 642, 643, 87, 88, 89, 644, 645, 646, 647, 648, 649, 650, 651, 652, 653, 654, 655, 656, 657, 658, 659, 660, 661, 662, 663, 664, 665, 666, 667, 668, 669, 670, 1262, 1263, 1264, 1265, 1266, 1274, 1275, 1276, 1277, 1278, 1279, 1280, 1281, 1282, 1283, 1284, 1297, 1298, 1289, 1290, 1291, 1292, 1293, 1294, 1295, 1296, 1345, 1346, 1347, 1348, 1349, 1350, 1351, 1352, 1353, 1354, 1355, 1356, 1357, 1358, 1359, 1360, 1299, 1300, 1301, 1302, 1285, 1286, 1287, 1288] (by decide +kernel) (by decide +kernel)
set_option maxRecDepth 20000 in
theorem gL_law_X10_take : GoodIn wsL_law (wsV RL 73 RX10 yX10_take wsX10_take) := goodIn_app (goodIn_of _ (by decide +kernel)) ggL_law_X10_take
set_option maxRecDepth 20000 in
theorem ggL_law_X12_take : GoodIn wsL_law wsX12_take := goodIn_r _ [901, 104, 675, 676, 677, 103, 678, 153, 156, 140, 679, 680, 681, 682, 113, 152, 148, 151, 116, 126, 150, 119, 127, 135, 157, 137, 117, 683, 684, 685, 686, 146, 203, 5, 204, 687, 688, 689, 690, 134, 691, 692, 693, 694, 118, 695, 696, 697, 698, 699, 700, 701, 702, 703, 121, 704, 705, 706, 707, 708, 709, 710, 123, 711, 712, 713, 714, 715, 716, 717, 718, 719, 720, 721, 722, 723, 724, 725, 726, 147, 149, 128, 125, 124, 122, 727, 728, 729, 730, 731, 732, 733, 734, 735, 736, 737, 738, 114, 120, 133, 739, 740, 741, 742, 115, 743, 744, 745, 746, 129, 747, 748, 749, 750, 751, 752, 753, 754, 755, 131, 756, 757, 758, 759, 136, 138, 760, 761, 762, 763, 764, 765, 766, 767, 768, 769, 770, 771, 772, 773, 774, 775, 776, 777, 778, 779, 154, 141, 780, 781, 782, 783, 784, 785, 786, 787, 155, 158, 139, 788, 789, 790, 791, 792, 793, 794, 795, 796, 797, 202, 1267, 1268, 1269, 1270, 1271, 1272, 1273, 1303, 1304, 1305, 1306, 1307, 1308, 1309, 1310, 1311, 1312, 1313, 1314, 1315, 1316, 1317, 1318, 1319, 1320, 1321, 1322, 1323, 1324, 1325, 1326, 1327, 1328, 1329, 1330, 1331, 1332, 1333, 1334, 1335, 1336, 1337, 1338, 1339, 1340, 1341, 1342, 1343, 1344] (by decide +kernel) (by decide +kernel)
set_option maxRecDepth 20000 in
theorem gL_law_X12_take : GoodIn wsL_law (wsV RL 76 RX12 yX12_take wsX12_take) := goodIn_app (goodIn_of _ (by decide +kernel)) ggL_law_X12_take
set_option maxRecDepth 20000 in
theorem ggL_law_X10_move : GoodIn wsL_law wsX10_move := goodIn_r _ [905, 15, 209, 210, 211, 14, 212, 171, 39, 32, 180, 213, 214, 215, 216, 217, 218, 219, 220, 221, 222, 223, 224, 225, 226, 227, 228, 27, 229, 82, 49, 230, 231, 232, 233, 234, 235, 236, 237, 238, 239, 240, 241, 242, 243, 244, 245, 246, 247, 248, 249, 250, 251, 252, 31, 253, 191, 254, 255, 256, 257, 56, 258, 259, 260, 261, 262, 263, 264, 265, 91, 266, 267, 268, 269, 270, 271, 272, 273, 274, 275, 276, 35, 277, 60, 62, 278, 279, 280, 281, 282, 283, 284, 285, 286, 287, 288, 289, 290, 291, 292, 293, 294, 295, 296, 297, 298, 299, 300, 37, 301, 302, 303, 304, 305, 306, 307, 308, 309, 310, 311, 312, 313, 314, 315, 316, 317, 318, 319, 320, 321, 322, 323, 324, 325, 326, 327, 328, 329, 330, 331, 332, 333, 334, 335, 336, 337, 338, 339, 68, 69, 70, 340, 341, 342, 343, 90, 83, 344, 345, 346, 347, 348, 349, 350, 351, 352, 353, 354, 355, 356, 357, 358, 359, 360, 43, 361, 362, 363, 364, 365, 366, 367, 368, 369, 370, 371, 372, 373, 374, 375, 376, 377, 378, 379, 380, 381, 382, 19, 383, 384, 72, 385, 386, 387, 388, 389, 390, 391, 392, 393, 394, 395, 396, 397, 398, 399, 400, 401, 402, 403, 404, 405, 406, 407, 408, 409, 410, 411, 412, 413, 85, 414, 415, 416, 417, 51, 418, 419, 420, 421, 422, 423, 424, 425, 426, 427, 428, 429, 430, 431, 432, 433, 434, 193, 194, 195, 196, 197, 176, 177, 178, 179, 181, 182, 183, 184, 185, 186, 187, 188, 189, 190, 435, 436, 437, 438, 439, 440, 441, 442, 443, 10, 11, 444, 42, 445, 132, 446, 74, 75, 76, 50, 77, 447, 448, 449, 450, 451, 452, 453, 454, 455, 456, 457, 458, 459, 460, 461, 462, 463, 464, 465, 466, 467, 468, 469, 94, 470, 471, 472, 473, 474, 475, 476, 477, 478, 479, 480, 481, 482, 483, 484, 485, 486, 487, 488, 489, 490, 491, 492, 493, 494, 495, 496, 497, 498, 499, 500, 501, 502, 503, 504, 505, 506, 507, 508, 509, 510, 511, 512, 513, 514, 515, 516, 517, 518, 519, 520, 521, 522, 523, 524, 525, 526, 527, 528, 529, 530, 531, 532, 533, 534, 535, 536, 537, 538, 539, 540, 541, 542, 543, 544, 545, 546, 547, 548, 549, 550, 551, 552, 553, 554, 555, 556, 557, 558, 559, 560, 561, 562, 563, 564, 565, 566, 567, 568, 569, 570, 571, 572, 573, 574, 575, 576, 577, 578, 579, 580, 71, 73, 67, 581, 582, 583, 584, 585, 586, 587, 588, 589, 590, 591, 592, 593, 594, 595, 596, 597, 598, 599, 600, 601, 602, 603, 604, 605, 606, 607, 608, 609, 610, 611, 612, 613, 614, 615, 616, 617, 618, 619, 620, 621, 622, 623, 624, 625, 626, 627, 628, 629, 630, 631, 632, 633, 634, 635, 636, 637, 638, 639, 640, 641, 642, 643, 87, 88, 89, 644, 645, 646, 647, 648, 649, 650, 651, 652, 653, 654, 655, 656, 657, 658, 659, 660, 661, 662, 663, 664, 665, 666, 667, 668, 669, 670, 1262, 1263, 1264, 1265, 1266, 1274, 1275, 1276, 1277, 1278, 1279, 1280, 1281, 1282, 1283, 1284, 1297, 1298, 1289, 1290, 1291, 1292, 1293, 1294, 1295, 1296, 1345, 1346, 1347, 1348, 1349, 1350, 1351, 1352, 1353, 1354, 1355, 1356, 1357, 1358, 1359, 1360, 1299, 1300, 1301, 1302, 1285, 1286, 1287, 1288] (by decide +kernel) (by decide +kernel)
set_option maxRecDepth 20000 in
theorem gL_law_X10_move : GoodIn wsL_law (wsV RL 77 RX10 yX10_move wsX10_move) := goodIn_app (goodIn_of _ (by decide +kernel)) ggL_law_X10_move
set_option maxRecDepth 20000 in
theorem ggL_law_X12_move : GoodIn wsL_law wsX12_move := goodIn_r _ [909, 104, 675, 676, 677, 103, 678, 153, 156, 140, 679, 680, 681, 682, 113, 152, 148, 151, 116, 126, 150, 119, 127, 135, 157, 137, 117, 683, 684, 685, 686, 146, 203, 5, 204, 687, 688, 689, 690, 134, 691, 692, 693, 694, 118, 695, 696, 697, 698, 699, 700, 701, 702, 703, 121, 704, 705, 706, 707, 708, 709, 710, 123, 711, 712, 713, 714, 715, 716, 717, 718, 719, 720, 721, 722, 723, 724, 725, 726, 147, 149, 128, 125, 124, 122, 727, 728, 729, 730, 731, 732, 733, 734, 735, 736, 737, 738, 114, 120, 133, 739, 740, 741, 742, 115, 743, 744, 745, 746, 129, 747, 748, 749, 750, 751, 752, 753, 754, 755, 131, 756, 757, 758, 759, 136, 138, 760, 761, 762, 763, 764, 765, 766, 767, 768, 769, 770, 771, 772, 773, 774, 775, 776, 777, 778, 779, 154, 141, 780, 781, 782, 783, 784, 785, 786, 787, 155, 158, 139, 788, 789, 790, 791, 792, 793, 794, 795, 796, 797, 202, 1267, 1268, 1269, 1270, 1271, 1272, 1273, 1303, 1304, 1305, 1306, 1307, 1308, 1309, 1310, 1311, 1312, 1313, 1314, 1315, 1316, 1317, 1318, 1319, 1320, 1321, 1322, 1323, 1324, 1325, 1326, 1327, 1328, 1329, 1330, 1331, 1332, 1333, 1334, 1335, 1336, 1337, 1338, 1339, 1340, 1341, 1342, 1343, 1344] (by decide +kernel) (by decide +kernel)
set_option maxRecDepth 20000 in
theorem gL_law_X12_move : GoodIn wsL_law (wsV RL 80 RX12 yX12_move wsX12_move) := goodIn_app (goodIn_of _ (by decide +kernel)) ggL_law_X12_move
set_option maxRecDepth 20000 in
theorem ggL_law_X10_second : GoodIn wsL_law wsX10_second := goodIn_r _ [913, 15, 209, 210, 211, 14, 212, 171, 39, 32, 180, 213, 214, 215, 216, 217, 218, 219, 220, 221, 222, 223, 224, 225, 226, 227, 228, 27, 229, 82, 49, 230, 231, 232, 233, 234, 235, 236, 237, 238, 239, 240, 241, 242, 243, 244, 245, 246, 247, 248, 249, 250, 251, 252, 31, 253, 191, 254, 255, 256, 257, 56, 258, 259, 260, 261, 262, 263, 264, 265, 91, 266, 267, 268, 269, 270, 271, 272, 273, 274, 275, 276, 35, 277, 60, 62, 278, 279, 280, 281, 282, 283, 284, 285, 286, 287, 288, 289, 290, 291, 292, 293, 294, 295, 296, 297, 298, 299, 300, 37, 301, 302, 303, 304, 305, 306, 307, 308, 309, 310, 311, 312, 313, 314, 315, 316, 317, 318, 319, 320, 321, 322, 323, 324, 325, 326, 327, 328, 329, 330, 331, 332, 333, 334, 335, 336, 337, 338, 339, 68, 69, 70, 340, 341, 342, 343, 90, 83, 344, 345, 346, 347, 348, 349, 350, 351, 352, 353, 354, 355, 356, 357, 358, 359, 360, 43, 361, 362, 363, 364, 365, 366, 367, 368, 369, 370, 371, 372, 373, 374, 375, 376, 377, 378, 379, 380, 381, 382, 19, 383, 384, 72, 385, 386, 387, 388, 389, 390, 391, 392, 393, 394, 395, 396, 397, 398, 399, 400, 401, 402, 403, 404, 405, 406, 407, 408, 409, 410, 411, 412, 413, 85, 414, 415, 416, 417, 51, 418, 419, 420, 421, 422, 423, 424, 425, 426, 427, 428, 429, 430, 431, 432, 433, 434, 193, 194, 195, 196, 197, 176, 177, 178, 179, 181, 182, 183, 184, 185, 186, 187, 188, 189, 190, 435, 436, 437, 438, 439, 440, 441, 442, 443, 10, 11, 444, 42, 445, 132, 446, 74, 75, 76, 50, 77, 447, 448, 449, 450, 451, 452, 453, 454, 455, 456, 457, 458, 459, 460, 461, 462, 463, 464, 465, 466, 467, 468, 469, 94, 470, 471, 472, 473, 474, 475, 476, 477, 478, 479, 480, 481, 482, 483, 484, 485, 486, 487, 488, 489, 490, 491, 492, 493, 494, 495, 496, 497, 498, 499, 500, 501, 502, 503, 504, 505, 506, 507, 508, 509, 510, 511, 512, 513, 514, 515, 516, 517, 518, 519, 520, 521, 522, 523, 524, 525, 526, 527, 528, 529, 530, 531, 532, 533, 534, 535, 536, 537, 538, 539, 540, 541, 542, 543, 544, 545, 546, 547, 548, 549, 550, 551, 552, 553, 554, 555, 556, 557, 558, 559, 560, 561, 562, 563, 564, 565, 566, 567, 568, 569, 570, 571, 572, 573, 574, 575, 576, 577, 578, 579, 580, 71, 73, 67, 581, 582, 583, 584, 585, 586, 587, 588, 589, 590, 591, 592, 593, 594, 595, 596, 597, 598, 599, 600, 601, 602, 603, 604, 605, 606, 607, 608, 609, 610, 611, 612, 613, 614, 615, 616, 617, 618, 619, 620, 621, 622, 623, 624, 625, 626, 627, 628, 629, 630, 631, 632, 633, 634, 635, 636, 637, 638, 639, 640, 641, 642, 643, 87, 88, 89, 644, 645, 646, 647, 648, 649, 650, 651, 652, 653, 654, 655, 656, 657, 658, 659, 660, 661, 662, 663, 664, 665, 666, 667, 668, 669, 670, 1262, 1263, 1264, 1265, 1266, 1274, 1275, 1276, 1277, 1278, 1279, 1280, 1281, 1282, 1283, 1284, 1297, 1298, 1289, 1290, 1291, 1292, 1293, 1294, 1295, 1296, 1345, 1346, 1347, 1348, 1349, 1350, 1351, 1352, 1353, 1354, 1355, 1356, 1357, 1358, 1359, 1360, 1299, 1300, 1301, 1302, 1285, 1286, 1287, 1288] (by decide +kernel) (by decide +kernel)
set_option maxRecDepth 20000 in
theorem gL_law_X10_second : GoodIn wsL_law (wsV RL 81 RX10 yX10_second wsX10_second) := goodIn_app (goodIn_of _ (by decide +kernel)) ggL_law_X10_second
set_option maxRecDepth 20000 in
theorem ggL_law_X12_second : GoodIn wsL_law wsX12_second := goodIn_r _ [917, 104, 675, 676, 677, 103, 678, 153, 156, 140, 679, 680, 681, 682, 113, 152, 148, 151, 116, 126, 150, 119, 127, 135, 157, 137, 117, 683, 684, 685, 686, 146, 203, 5, 204, 687, 688, 689, 690, 134, 691, 692, 693, 694, 118, 695, 696, 697, 698, 699, 700, 701, 702, 703, 121, 704, 705, 706, 707, 708, 709, 710, 123, 711, 712, 713, 714, 715, 716, 717, 718, 719, 720, 721, 722, 723, 724, 725, 726, 147, 149, 128, 125, 124, 122, 727, 728, 729, 730, 731, 732, 733, 734, 735, 736, 737, 738, 114, 120, 133, 739, 740, 741, 742, 115, 743, 744, 745, 746, 129, 747, 748, 749, 750, 751, 752, 753, 754, 755, 131, 756, 757, 758, 759, 136, 138, 760, 761, 762, 763, 764, 765, 766, 767, 768, 769, 770, 771, 772, 773, 774, 775, 776, 777, 778, 779, 154, 141, 780, 781, 782, 783, 784, 785, 786, 787, 155, 158, 139, 788, 789, 790, 791, 792, 793, 794, 795, 796, 797, 202, 1267, 1268, 1269, 1270, 1271, 1272, 1273, 1303, 1304, 1305, 1306, 1307, 1308, 1309, 1310, 1311, 1312, 1313, 1314, 1315, 1316, 1317, 1318, 1319, 1320, 1321, 1322, 1323, 1324, 1325, 1326, 1327, 1328, 1329, 1330, 1331, 1332, 1333, 1334, 1335, 1336, 1337, 1338, 1339, 1340, 1341, 1342, 1343, 1344] (by decide +kernel) (by decide +kernel)
set_option maxRecDepth 20000 in
theorem gL_law_X12_second : GoodIn wsL_law (wsV RL 84 RX12 yX12_second wsX12_second) := goodIn_app (goodIn_of _ (by decide +kernel)) ggL_law_X12_second
set_option maxRecDepth 20000 in
theorem ggL_law_X10_vote : GoodIn wsL_law wsX10_vote := goodIn_r _ [921, 15, 209, 210, 211, 14, 212, 171, 39, 32, 180, 213, 214, 215, 216, 217, 218, 219, 220, 221, 222, 223, 224, 225, 226, 227, 228, 27, 229, 82, 49, 230, 231, 232, 233, 234, 235, 236, 237, 238, 239, 240, 241, 242, 243, 244, 245, 246, 247, 248, 249, 250, 251, 252, 31, 253, 191, 254, 255, 256, 257, 56, 258, 259, 260, 261, 262, 263, 264, 265, 91, 266, 267, 268, 269, 270, 271, 272, 273, 274, 275, 276, 35, 277, 60, 62, 278, 279, 280, 281, 282, 283, 284, 285, 286, 287, 288, 289, 290, 291, 292, 293, 294, 295, 296, 297, 298, 299, 300, 37, 301, 302, 303, 304, 305, 306, 307, 308, 309, 310, 311, 312, 313, 314, 315, 316, 317, 318, 319, 320, 321, 322, 323, 324, 325, 326, 327, 328, 329, 330, 331, 332, 333, 334, 335, 336, 337, 338, 339, 68, 69, 70, 340, 341, 342, 343, 90, 83, 344, 345, 346, 347, 348, 349, 350, 351, 352, 353, 354, 355, 356, 357, 358, 359, 360, 43, 361, 362, 363, 364, 365, 366, 367, 368, 369, 370, 371, 372, 373, 374, 375, 376, 377, 378, 379, 380, 381, 382, 19, 383, 384, 72, 385, 386, 387, 388, 389, 390, 391, 392, 393, 394, 395, 396, 397, 398, 399, 400, 401, 402, 403, 404, 405, 406, 407, 408, 409, 410, 411, 412, 413, 85, 414, 415, 416, 417, 51, 418, 419, 420, 421, 422, 423, 424, 425, 426, 427, 428, 429, 430, 431, 432, 433, 434, 193, 194, 195, 196, 197, 176, 177, 178, 179, 181, 182, 183, 184, 185, 186, 187, 188, 189, 190, 435, 436, 437, 438, 439, 440, 441, 442, 443, 10, 11, 444, 42, 445, 132, 446, 74, 75, 76, 50, 77, 447, 448, 449, 450, 451, 452, 453, 454, 455, 456, 457, 458, 459, 460, 461, 462, 463, 464, 465, 466, 467, 468, 469, 94, 470, 471, 472, 473, 474, 475, 476, 477, 478, 479, 480, 481, 482, 483, 484, 485, 486, 487, 488, 489, 490, 491, 492, 493, 494, 495, 496, 497, 498, 499, 500, 501, 502, 503, 504, 505, 506, 507, 508, 509, 510, 511, 512, 513, 514, 515, 516, 517, 518, 519, 520, 521, 522, 523, 524, 525, 526, 527, 528, 529, 530, 531, 532, 533, 534, 535, 536, 537, 538, 539, 540, 541, 542, 543, 544, 545, 546, 547, 548, 549, 550, 551, 552, 553, 554, 555, 556, 557, 558, 559, 560, 561, 562, 563, 564, 565, 566, 567, 568, 569, 570, 571, 572, 573, 574, 575, 576, 577, 578, 579, 580, 71, 73, 67, 581, 582, 583, 584, 585, 586, 587, 588, 589, 590, 591, 592, 593, 594, 595, 596, 597, 598, 599, 600, 601, 602, 603, 604, 605, 606, 607, 608, 609, 610, 611, 612, 613, 614, 615, 616, 617, 618, 619, 620, 621, 622, 623, 624, 625, 626, 627, 628, 629, 630, 631, 632, 633, 634, 635, 636, 637, 638, 639, 640, 641, 642, 643, 87, 88, 89, 644, 645, 646, 647, 648, 649, 650, 651, 652, 653, 654, 655, 656, 657, 658, 659, 660, 661, 662, 663, 664, 665, 666, 667, 668, 669, 670, 1262, 1263, 1264, 1265, 1266, 1274, 1275, 1276, 1277, 1278, 1279, 1280, 1281, 1282, 1283, 1284, 1297, 1298, 1289, 1290, 1291, 1292, 1293, 1294, 1295, 1296, 1345, 1346, 1347, 1348, 1349, 1350, 1351, 1352, 1353, 1354, 1355, 1356, 1357, 1358, 1359, 1360, 1299, 1300, 1301, 1302, 1285, 1286, 1287, 1288] (by decide +kernel) (by decide +kernel)
set_option maxRecDepth 20000 in
theorem gL_law_X10_vote : GoodIn wsL_law (wsV RL 85 RX10 yX10_vote wsX10_vote) := goodIn_app (goodIn_of _ (by decide +kernel)) ggL_law_X10_vote
set_option maxRecDepth 20000 in
theorem ggL_law_X12_vote : GoodIn wsL_law wsX12_vote := goodIn_r _ [925, 104, 675, 676, 677, 103, 678, 153, 156, 140, 679, 680, 681, 682, 113, 152, 148, 151, 116, 126, 150, 119, 127, 135, 157, 137, 117, 683, 684, 685, 686, 146, 203, 5, 204, 687, 688, 689, 690, 134, 691, 692, 693, 694, 118, 695, 696, 697, 698, 699, 700, 701, 702, 703, 121, 704, 705, 706, 707, 708, 709, 710, 123, 711, 712, 713, 714, 715, 716, 717, 718, 719, 720, 721, 722, 723, 724, 725, 726, 147, 149, 128, 125, 124, 122, 727, 728, 729, 730, 731, 732, 733, 734, 735, 736, 737, 738, 114, 120, 133, 739, 740, 741, 742, 115, 743, 744, 745, 746, 129, 747, 748, 749, 750, 751, 752, 753, 754, 755, 131, 756, 757, 758, 759, 136, 138, 760, 761, 762, 763, 764, 765, 766, 767, 768, 769, 770, 771, 772, 773, 774, 775, 776, 777, 778, 779, 154, 141, 780, 781, 782, 783, 784, 785, 786, 787, 155, 158, 139, 788, 789, 790, 791, 792, 793, 794, 795, 796, 797, 202, 1267, 1268, 1269, 1270, 1271, 1272, 1273, 1303, 1304, 1305, 1306, 1307, 1308, 1309, 1310, 1311, 1312, 1313, 1314, 1315, 1316, 1317, 1318, 1319, 1320, 1321, 1322, 1323, 1324, 1325, 1326, 1327, 1328, 1329, 1330, 1331, 1332, 1333, 1334, 1335, 1336, 1337, 1338, 1339, 1340, 1341, 1342, 1343, 1344] (by decide +kernel) (by decide +kernel)
set_option maxRecDepth 20000 in
theorem gL_law_X12_vote : GoodIn wsL_law (wsV RL 88 RX12 yX12_vote wsX12_vote) := goodIn_app (goodIn_of _ (by decide +kernel)) ggL_law_X12_vote
set_option maxRecDepth 20000 in
theorem ggL_law_X10_withdraw : GoodIn wsL_law wsX10_withdraw := goodIn_r _ [929, 15, 209, 210, 211, 14, 212, 171, 39, 32, 180, 213, 214, 215, 216, 217, 218, 219, 220, 221, 222, 223, 224, 225, 226, 227, 228, 27, 229, 82, 49, 230, 231, 232, 233, 234, 235, 236, 237, 238, 239, 240, 241, 242, 243, 244, 245, 246, 247, 248, 249, 250, 251, 252, 31, 253, 191, 254, 255, 256, 257, 56, 258, 259, 260, 261, 262, 263, 264, 265, 91, 266, 267, 268, 269, 270, 271, 272, 273, 274, 275, 276, 35, 277, 60, 62, 278, 279, 280, 281, 282, 283, 284, 285, 286, 287, 288, 289, 290, 291, 292, 293, 294, 295, 296, 297, 298, 299, 300, 37, 301, 302, 303, 304, 305, 306, 307, 308, 309, 310, 311, 312, 313, 314, 315, 316, 317, 318, 319, 320, 321, 322, 323, 324, 325, 326, 327, 328, 329, 330, 331, 332, 333, 334, 335, 336, 337, 338, 339, 68, 69, 70, 340, 341, 342, 343, 90, 83, 344, 345, 346, 347, 348, 349, 350, 351, 352, 353, 354, 355, 356, 357, 358, 359, 360, 43, 361, 362, 363, 364, 365, 366, 367, 368, 369, 370, 371, 372, 373, 374, 375, 376, 377, 378, 379, 380, 381, 382, 19, 383, 384, 72, 385, 386, 387, 388, 389, 390, 391, 392, 393, 394, 395, 396, 397, 398, 399, 400, 401, 402, 403, 404, 405, 406, 407, 408, 409, 410, 411, 412, 413, 85, 414, 415, 416, 417, 51, 418, 419, 420, 421, 422, 423, 424, 425, 426, 427, 428, 429, 430, 431, 432, 433, 434, 193, 194, 195, 196, 197, 176, 177, 178, 179, 181, 182, 183, 184, 185, 186, 187, 188, 189, 190, 435, 436, 437, 438, 439, 440, 441, 442, 443, 10, 11, 444, 42, 445, 132, 446, 74, 75, 76, 50, 77, 447, 448, 449, 450, 451, 452, 453, 454, 455, 456, 457, 458, 459, 460, 461, 462, 463, 464, 465, 466, 467, 468, 469, 94, 470, 471, 472, 473, 474, 475, 476, 477, 478, 479, 480, 481, 482, 483, 484, 485, 486, 487, 488, 489, 490, 491, 492, 493, 494, 495, 496, 497, 498, 499, 500, 501, 502, 503, 504, 505, 506, 507, 508, 509, 510, 511, 512, 513, 514, 515, 516, 517, 518, 519, 520, 521, 522, 523, 524, 525, 526, 527, 528, 529, 530, 531, 532, 533, 534, 535, 536, 537, 538, 539, 540, 541, 542, 543, 544, 545, 546, 547, 548, 549, 550, 551, 552, 553, 554, 555, 556, 557, 558, 559, 560, 561, 562, 563, 564, 565, 566, 567, 568, 569, 570, 571, 572, 573, 574, 575, 576, 577, 578, 579, 580, 71, 73, 67, 581, 582, 583, 584, 585, 586, 587, 588, 589, 590, 591, 592, 593, 594, 595, 596, 597, 598, 599, 600, 601, 602, 603, 604, 605, 606, 607, 608, 609, 610, 611, 612, 613, 614, 615, 616, 617, 618, 619, 620, 621, 622, 623, 624, 625, 626, 627, 628, 629, 630, 631, 632, 633, 634, 635, 636, 637, 638, 639, 640, 641, 642, 643, 87, 88, 89, 644, 645, 646, 647, 648, 649, 650, 651, 652, 653, 654, 655, 656, 657, 658, 659, 660, 661, 662, 663, 664, 665, 666, 667, 668, 669, 670, 1262, 1263, 1264, 1265, 1266, 1274, 1275, 1276, 1277, 1278, 1279, 1280, 1281, 1282, 1283, 1284, 1297, 1298, 1289, 1290, 1291, 1292, 1293, 1294, 1295, 1296, 1345, 1346, 1347, 1348, 1349, 1350, 1351, 1352, 1353, 1354, 1355, 1356, 1357, 1358, 1359, 1360, 1299, 1300, 1301, 1302, 1285, 1286, 1287, 1288] (by decide +kernel) (by decide +kernel)
set_option maxRecDepth 20000 in
theorem gL_law_X10_withdraw : GoodIn wsL_law (wsV RL 89 RX10 yX10_withdraw wsX10_withdraw) := goodIn_app (goodIn_of _ (by decide +kernel)) ggL_law_X10_withdraw
set_option maxRecDepth 20000 in
theorem ggL_law_X12_withdraw : GoodIn wsL_law wsX12_withdraw := goodIn_r _ [933, 104, 675, 676, 677, 103, 678, 153, 156, 140, 679, 680, 681, 682, 113, 152, 148, 151, 116, 126, 150, 119, 127, 135, 157, 137, 117, 683, 684, 685, 686, 146, 203, 5, 204, 687, 688, 689, 690, 134, 691, 692, 693, 694, 118, 695, 696, 697, 698, 699, 700, 701, 702, 703, 121, 704, 705, 706, 707, 708, 709, 710, 123, 711, 712, 713, 714, 715, 716, 717, 718, 719, 720, 721, 722, 723, 724, 725, 726, 147, 149, 128, 125, 124, 122, 727, 728, 729, 730, 731, 732, 733, 734, 735, 736, 737, 738, 114, 120, 133, 739, 740, 741, 742, 115, 743, 744, 745, 746, 129, 747, 748, 749, 750, 751, 752, 753, 754, 755, 131, 756, 757, 758, 759, 136, 138, 760, 761, 762, 763, 764, 765, 766, 767, 768, 769, 770, 771, 772, 773, 774, 775, 776, 777, 778, 779, 154, 141, 780, 781, 782, 783, 784, 785, 786, 787, 155, 158, 139, 788, 789, 790, 791, 792, 793, 794, 795, 796, 797, 202, 1267, 1268, 1269, 1270, 1271, 1272, 1273, 1303, 1304, 1305, 1306, 1307, 1308, 1309, 1310, 1311, 1312, 1313, 1314, 1315, 1316, 1317, 1318, 1319, 1320, 1321, 1322, 1323, 1324, 1325, 1326, 1327, 1328, 1329, 1330, 1331, 1332, 1333, 1334, 1335, 1336, 1337, 1338, 1339, 1340, 1341, 1342, 1343, 1344] (by decide +kernel) (by decide +kernel)
set_option maxRecDepth 20000 in
theorem gL_law_X12_withdraw : GoodIn wsL_law (wsV RL 92 RX12 yX12_withdraw wsX12_withdraw) := goodIn_app (goodIn_of _ (by decide +kernel)) ggL_law_X12_withdraw
set_option maxRecDepth 20000 in
theorem ggL_law_X10_rule : GoodIn wsL_law wsX10_rule := goodIn_r _ [937, 15, 209, 210, 211, 14, 212, 171, 39, 32, 180, 213, 214, 215, 216, 217, 218, 219, 220, 221, 222, 223, 224, 225, 226, 227, 228, 27, 229, 82, 49, 230, 231, 232, 233, 234, 235, 236, 237, 238, 239, 240, 241, 242, 243, 244, 245, 246, 247, 248, 249, 250, 251, 252, 31, 253, 191, 254, 255, 256, 257, 56, 258, 259, 260, 261, 262, 263, 264, 265, 91, 266, 267, 268, 269, 270, 271, 272, 273, 274, 275, 276, 35, 277, 60, 62, 278, 279, 280, 281, 282, 283, 284, 285, 286, 287, 288, 289, 290, 291, 292, 293, 294, 295, 296, 297, 298, 299, 300, 37, 301, 302, 303, 304, 305, 306, 307, 308, 309, 310, 311, 312, 313, 314, 315, 316, 317, 318, 319, 320, 321, 322, 323, 324, 325, 326, 327, 328, 329, 330, 331, 332, 333, 334, 335, 336, 337, 338, 339, 68, 69, 70, 340, 341, 342, 343, 90, 83, 344, 345, 346, 347, 348, 349, 350, 351, 352, 353, 354, 355, 356, 357, 358, 359, 360, 43, 361, 362, 363, 364, 365, 366, 367, 368, 369, 370, 371, 372, 373, 374, 375, 376, 377, 378, 379, 380, 381, 382, 19, 383, 384, 72, 385, 386, 387, 388, 389, 390, 391, 392, 393, 394, 395, 396, 397, 398, 399, 400, 401, 402, 403, 404, 405, 406, 407, 408, 409, 410, 411, 412, 413, 85, 414, 415, 416, 417, 51, 418, 419, 420, 421, 422, 423, 424, 425, 426, 427, 428, 429, 430, 431, 432, 433, 434, 193, 194, 195, 196, 197, 176, 177, 178, 179, 181, 182, 183, 184, 185, 186, 187, 188, 189, 190, 435, 436, 437, 438, 439, 440, 441, 442, 443, 10, 11, 444, 42, 445, 132, 446, 74, 75, 76, 50, 77, 447, 448, 449, 450, 451, 452, 453, 454, 455, 456, 457, 458, 459, 460, 461, 462, 463, 464, 465, 466, 467, 468, 469, 94, 470, 471, 472, 473, 474, 475, 476, 477, 478, 479, 480, 481, 482, 483, 484, 485, 486, 487, 488, 489, 490, 491, 492, 493, 494, 495, 496, 497, 498, 499, 500, 501, 502, 503, 504, 505, 506, 507, 508, 509, 510, 511, 512, 513, 514, 515, 516, 517, 518, 519, 520, 521, 522, 523, 524, 525, 526, 527, 528, 529, 530, 531, 532, 533, 534, 535, 536, 537, 538, 539, 540, 541, 542, 543, 544, 545, 546, 547, 548, 549, 550, 551, 552, 553, 554, 555, 556, 557, 558, 559, 560, 561, 562, 563, 564, 565, 566, 567, 568, 569, 570, 571, 572, 573, 574, 575, 576, 577, 578, 579, 580, 71, 73, 67, 581, 582, 583, 584, 585, 586, 587, 588, 589, 590, 591, 592, 593, 594, 595, 596, 597, 598, 599, 600, 601, 602, 603, 604, 605, 606, 607, 608, 609, 610, 611, 612, 613, 614, 615, 616, 617, 618, 619, 620, 621, 622, 623, 624, 625, 626, 627, 628, 629, 630, 631, 632, 633, 634, 635, 636, 637, 638, 639, 640, 641, 642, 643, 87, 88, 89, 644, 645, 646, 647, 648, 649, 650, 651, 652, 653, 654, 655, 656, 657, 658, 659, 660, 661, 662, 663, 664, 665, 666, 667, 668, 669, 670, 1262, 1263, 1264, 1265, 1266, 1274, 1275, 1276, 1277, 1278, 1279, 1280, 1281, 1282, 1283, 1284, 1297, 1298, 1289, 1290, 1291, 1292, 1293, 1294, 1295, 1296, 1345, 1346, 1347, 1348, 1349, 1350, 1351, 1352, 1353, 1354, 1355, 1356, 1357, 1358, 1359, 1360, 1299, 1300, 1301, 1302, 1285, 1286, 1287, 1288] (by decide +kernel) (by decide +kernel)
set_option maxRecDepth 20000 in
theorem gL_law_X10_rule : GoodIn wsL_law (wsV RL 93 RX10 yX10_rule wsX10_rule) := goodIn_app (goodIn_of _ (by decide +kernel)) ggL_law_X10_rule
set_option maxRecDepth 20000 in
theorem ggL_law_X12_rule : GoodIn wsL_law wsX12_rule := goodIn_r _ [941, 104, 675, 676, 677, 103, 678, 153, 156, 140, 679, 680, 681, 682, 113, 152, 148, 151, 116, 126, 150, 119, 127, 135, 157, 137, 117, 683, 684, 685, 686, 146, 203, 5, 204, 687, 688, 689, 690, 134, 691, 692, 693, 694, 118, 695, 696, 697, 698, 699, 700, 701, 702, 703, 121, 704, 705, 706, 707, 708, 709, 710, 123, 711, 712, 713, 714, 715, 716, 717, 718, 719, 720, 721, 722, 723, 724, 725, 726, 147, 149, 128, 125, 124, 122, 727, 728, 729, 730, 731, 732, 733, 734, 735, 736, 737, 738, 114, 120, 133, 739, 740, 741, 742, 115, 743, 744, 745, 746, 129, 747, 748, 749, 750, 751, 752, 753, 754, 755, 131, 756, 757, 758, 759, 136, 138, 760, 761, 762, 763, 764, 765, 766, 767, 768, 769, 770, 771, 772, 773, 774, 775, 776, 777, 778, 779, 154, 141, 780, 781, 782, 783, 784, 785, 786, 787, 155, 158, 139, 788, 789, 790, 791, 792, 793, 794, 795, 796, 797, 202, 1267, 1268, 1269, 1270, 1271, 1272, 1273, 1303, 1304, 1305, 1306, 1307, 1308, 1309, 1310, 1311, 1312, 1313, 1314, 1315, 1316, 1317, 1318, 1319, 1320, 1321, 1322, 1323, 1324, 1325, 1326, 1327, 1328, 1329, 1330, 1331, 1332, 1333, 1334, 1335, 1336, 1337, 1338, 1339, 1340, 1341, 1342, 1343, 1344] (by decide +kernel) (by decide +kernel)
set_option maxRecDepth 20000 in
theorem gL_law_X12_rule : GoodIn wsL_law (wsV RL 96 RX12 yX12_rule wsX12_rule) := goodIn_app (goodIn_of _ (by decide +kernel)) ggL_law_X12_rule
set_option maxRecDepth 20000 in
theorem ggL_law_X10_appeal : GoodIn wsL_law wsX10_appeal := goodIn_r _ [945, 15, 209, 210, 211, 14, 212, 171, 39, 32, 180, 213, 214, 215, 216, 217, 218, 219, 220, 221, 222, 223, 224, 225, 226, 227, 228, 27, 229, 82, 49, 230, 231, 232, 233, 234, 235, 236, 237, 238, 239, 240, 241, 242, 243, 244, 245, 246, 247, 248, 249, 250, 251, 252, 31, 253, 191, 254, 255, 256, 257, 56, 258, 259, 260, 261, 262, 263, 264, 265, 91, 266, 267, 268, 269, 270, 271, 272, 273, 274, 275, 276, 35, 277, 60, 62, 278, 279, 280, 281, 282, 283, 284, 285, 286, 287, 288, 289, 290, 291, 292, 293, 294, 295, 296, 297, 298, 299, 300, 37, 301, 302, 303, 304, 305, 306, 307, 308, 309, 310, 311, 312, 313, 314, 315, 316, 317, 318, 319, 320, 321, 322, 323, 324, 325, 326, 327, 328, 329, 330, 331, 332, 333, 334, 335, 336, 337, 338, 339, 68, 69, 70, 340, 341, 342, 343, 90, 83, 344, 345, 346, 347, 348, 349, 350, 351, 352, 353, 354, 355, 356, 357, 358, 359, 360, 43, 361, 362, 363, 364, 365, 366, 367, 368, 369, 370, 371, 372, 373, 374, 375, 376, 377, 378, 379, 380, 381, 382, 19, 383, 384, 72, 385, 386, 387, 388, 389, 390, 391, 392, 393, 394, 395, 396, 397, 398, 399, 400, 401, 402, 403, 404, 405, 406, 407, 408, 409, 410, 411, 412, 413, 85, 414, 415, 416, 417, 51, 418, 419, 420, 421, 422, 423, 424, 425, 426, 427, 428, 429, 430, 431, 432, 433, 434, 193, 194, 195, 196, 197, 176, 177, 178, 179, 181, 182, 183, 184, 185, 186, 187, 188, 189, 190, 435, 436, 437, 438, 439, 440, 441, 442, 443, 10, 11, 444, 42, 445, 132, 446, 74, 75, 76, 50, 77, 447, 448, 449, 450, 451, 452, 453, 454, 455, 456, 457, 458, 459, 460, 461, 462, 463, 464, 465, 466, 467, 468, 469, 94, 470, 471, 472, 473, 474, 475, 476, 477, 478, 479, 480, 481, 482, 483, 484, 485, 486, 487, 488, 489, 490, 491, 492, 493, 494, 495, 496, 497, 498, 499, 500, 501, 502, 503, 504, 505, 506, 507, 508, 509, 510, 511, 512, 513, 514, 515, 516, 517, 518, 519, 520, 521, 522, 523, 524, 525, 526, 527, 528, 529, 530, 531, 532, 533, 534, 535, 536, 537, 538, 539, 540, 541, 542, 543, 544, 545, 546, 547, 548, 549, 550, 551, 552, 553, 554, 555, 556, 557, 558, 559, 560, 561, 562, 563, 564, 565, 566, 567, 568, 569, 570, 571, 572, 573, 574, 575, 576, 577, 578, 579, 580, 71, 73, 67, 581, 582, 583, 584, 585, 586, 587, 588, 589, 590, 591, 592, 593, 594, 595, 596, 597, 598, 599, 600, 601, 602, 603, 604, 605, 606, 607, 608, 609, 610, 611, 612, 613, 614, 615, 616, 617, 618, 619, 620, 621, 622, 623, 624, 625, 626, 627, 628, 629, 630, 631, 632, 633, 634, 635, 636, 637, 638, 639, 640, 641, 642, 643, 87, 88, 89, 644, 645, 646, 647, 648, 649, 650, 651, 652, 653, 654, 655, 656, 657, 658, 659, 660, 661, 662, 663, 664, 665, 666, 667, 668, 669, 670, 1262, 1263, 1264, 1265, 1266, 1274, 1275, 1276, 1277, 1278, 1279, 1280, 1281, 1282, 1283, 1284, 1297, 1298, 1289, 1290, 1291, 1292, 1293, 1294, 1295, 1296, 1345, 1346, 1347, 1348, 1349, 1350, 1351, 1352, 1353, 1354, 1355, 1356, 1357, 1358, 1359, 1360, 1299, 1300, 1301, 1302, 1285, 1286, 1287, 1288] (by decide +kernel) (by decide +kernel)
set_option maxRecDepth 20000 in
theorem gL_law_X10_appeal : GoodIn wsL_law (wsV RL 97 RX10 yX10_appeal wsX10_appeal) := goodIn_app (goodIn_of _ (by decide +kernel)) ggL_law_X10_appeal
set_option maxRecDepth 20000 in
theorem ggL_law_X12_appeal : GoodIn wsL_law wsX12_appeal := goodIn_r _ [949, 104, 675, 676, 677, 103, 678, 153, 156, 140, 679, 680, 681, 682, 113, 152, 148, 151, 116, 126, 150, 119, 127, 135, 157, 137, 117, 683, 684, 685, 686, 146, 203, 5, 204, 687, 688, 689, 690, 134, 691, 692, 693, 694, 118, 695, 696, 697, 698, 699, 700, 701, 702, 703, 121, 704, 705, 706, 707, 708, 709, 710, 123, 711, 712, 713, 714, 715, 716, 717, 718, 719, 720, 721, 722, 723, 724, 725, 726, 147, 149, 128, 125, 124, 122, 727, 728, 729, 730, 731, 732, 733, 734, 735, 736, 737, 738, 114, 120, 133, 739, 740, 741, 742, 115, 743, 744, 745, 746, 129, 747, 748, 749, 750, 751, 752, 753, 754, 755, 131, 756, 757, 758, 759, 136, 138, 760, 761, 762, 763, 764, 765, 766, 767, 768, 769, 770, 771, 772, 773, 774, 775, 776, 777, 778, 779, 154, 141, 780, 781, 782, 783, 784, 785, 786, 787, 155, 158, 139, 788, 789, 790, 791, 792, 793, 794, 795, 796, 797, 202, 1267, 1268, 1269, 1270, 1271, 1272, 1273, 1303, 1304, 1305, 1306, 1307, 1308, 1309, 1310, 1311, 1312, 1313, 1314, 1315, 1316, 1317, 1318, 1319, 1320, 1321, 1322, 1323, 1324, 1325, 1326, 1327, 1328, 1329, 1330, 1331, 1332, 1333, 1334, 1335, 1336, 1337, 1338, 1339, 1340, 1341, 1342, 1343, 1344] (by decide +kernel) (by decide +kernel)
set_option maxRecDepth 20000 in
theorem gL_law_X12_appeal : GoodIn wsL_law (wsV RL 100 RX12 yX12_appeal wsX12_appeal) := goodIn_app (goodIn_of _ (by decide +kernel)) ggL_law_X12_appeal
set_option maxRecDepth 20000 in
theorem ggL_law_X10_told : GoodIn wsL_law wsX10_told := goodIn_r _ [953, 15, 209, 210, 211, 14, 212, 171, 39, 32, 180, 213, 214, 215, 216, 217, 218, 219, 220, 221, 222, 223, 224, 225, 226, 227, 228, 27, 229, 82, 49, 230, 231, 232, 233, 234, 235, 236, 237, 238, 239, 240, 241, 242, 243, 244, 245, 246, 247, 248, 249, 250, 251, 252, 31, 253, 191, 254, 255, 256, 257, 56, 258, 259, 260, 261, 262, 263, 264, 265, 91, 266, 267, 268, 269, 270, 271, 272, 273, 274, 275, 276, 35, 277, 60, 62, 278, 279, 280, 281, 282, 283, 284, 285, 286, 287, 288, 289, 290, 291, 292, 293, 294, 295, 296, 297, 298, 299, 300, 37, 301, 302, 303, 304, 305, 306, 307, 308, 309, 310, 311, 312, 313, 314, 315, 316, 317, 318, 319, 320, 321, 322, 323, 324, 325, 326, 327, 328, 329, 330, 331, 332, 333, 334, 335, 336, 337, 338, 339, 68, 69, 70, 340, 341, 342, 343, 90, 83, 344, 345, 346, 347, 348, 349, 350, 351, 352, 353, 354, 355, 356, 357, 358, 359, 360, 43, 361, 362, 363, 364, 365, 366, 367, 368, 369, 370, 371, 372, 373, 374, 375, 376, 377, 378, 379, 380, 381, 382, 19, 383, 384, 72, 385, 386, 387, 388, 389, 390, 391, 392, 393, 394, 395, 396, 397, 398, 399, 400, 401, 402, 403, 404, 405, 406, 407, 408, 409, 410, 411, 412, 413, 85, 414, 415, 416, 417, 51, 418, 419, 420, 421, 422, 423, 424, 425, 426, 427, 428, 429, 430, 431, 432, 433, 434, 193, 194, 195, 196, 197, 176, 177, 178, 179, 181, 182, 183, 184, 185, 186, 187, 188, 189, 190, 435, 436, 437, 438, 439, 440, 441, 442, 443, 10, 11, 444, 42, 445, 132, 446, 74, 75, 76, 50, 77, 447, 448, 449, 450, 451, 452, 453, 454, 455, 456, 457, 458, 459, 460, 461, 462, 463, 464, 465, 466, 467, 468, 469, 94, 470, 471, 472, 473, 474, 475, 476, 477, 478, 479, 480, 481, 482, 483, 484, 485, 486, 487, 488, 489, 490, 491, 492, 493, 494, 495, 496, 497, 498, 499, 500, 501, 502, 503, 504, 505, 506, 507, 508, 509, 510, 511, 512, 513, 514, 515, 516, 517, 518, 519, 520, 521, 522, 523, 524, 525, 526, 527, 528, 529, 530, 531, 532, 533, 534, 535, 536, 537, 538, 539, 540, 541, 542, 543, 544, 545, 546, 547, 548, 549, 550, 551, 552, 553, 554, 555, 556, 557, 558, 559, 560, 561, 562, 563, 564, 565, 566, 567, 568, 569, 570, 571, 572, 573, 574, 575, 576, 577, 578, 579, 580, 71, 73, 67, 581, 582, 583, 584, 585, 586, 587, 588, 589, 590, 591, 592, 593, 594, 595, 596, 597, 598, 599, 600, 601, 602, 603, 604, 605, 606, 607, 608, 609, 610, 611, 612, 613, 614, 615, 616, 617, 618, 619, 620, 621, 622, 623, 624, 625, 626, 627, 628, 629, 630, 631, 632, 633, 634, 635, 636, 637, 638, 639, 640, 641, 642, 643, 87, 88, 89, 644, 645, 646, 647, 648, 649, 650, 651, 652, 653, 654, 655, 656, 657, 658, 659, 660, 661, 662, 663, 664, 665, 666, 667, 668, 669, 670, 1262, 1263, 1264, 1265, 1266, 1274, 1275, 1276, 1277, 1278, 1279, 1280, 1281, 1282, 1283, 1284, 1297, 1298, 1289, 1290, 1291, 1292, 1293, 1294, 1295, 1296, 1345, 1346, 1347, 1348, 1349, 1350, 1351, 1352, 1353, 1354, 1355, 1356, 1357, 1358, 1359, 1360, 1299, 1300, 1301, 1302, 1285, 1286, 1287, 1288] (by decide +kernel) (by decide +kernel)
set_option maxRecDepth 20000 in
theorem gL_law_X10_told : GoodIn wsL_law (wsV RL 101 RX10 yX10_told wsX10_told) := goodIn_app (goodIn_of _ (by decide +kernel)) ggL_law_X10_told
set_option maxRecDepth 20000 in
theorem ggL_law_X12_told : GoodIn wsL_law wsX12_told := goodIn_r _ [957, 104, 675, 676, 677, 103, 678, 153, 156, 140, 679, 680, 681, 682, 113, 152, 148, 151, 116, 126, 150, 119, 127, 135, 157, 137, 117, 683, 684, 685, 686, 146, 203, 5, 204, 687, 688, 689, 690, 134, 691, 692, 693, 694, 118, 695, 696, 697, 698, 699, 700, 701, 702, 703, 121, 704, 705, 706, 707, 708, 709, 710, 123, 711, 712, 713, 714, 715, 716, 717, 718, 719, 720, 721, 722, 723, 724, 725, 726, 147, 149, 128, 125, 124, 122, 727, 728, 729, 730, 731, 732, 733, 734, 735, 736, 737, 738, 114, 120, 133, 739, 740, 741, 742, 115, 743, 744, 745, 746, 129, 747, 748, 749, 750, 751, 752, 753, 754, 755, 131, 756, 757, 758, 759, 136, 138, 760, 761, 762, 763, 764, 765, 766, 767, 768, 769, 770, 771, 772, 773, 774, 775, 776, 777, 778, 779, 154, 141, 780, 781, 782, 783, 784, 785, 786, 787, 155, 158, 139, 788, 789, 790, 791, 792, 793, 794, 795, 796, 797, 202, 1267, 1268, 1269, 1270, 1271, 1272, 1273, 1303, 1304, 1305, 1306, 1307, 1308, 1309, 1310, 1311, 1312, 1313, 1314, 1315, 1316, 1317, 1318, 1319, 1320, 1321, 1322, 1323, 1324, 1325, 1326, 1327, 1328, 1329, 1330, 1331, 1332, 1333, 1334, 1335, 1336, 1337, 1338, 1339, 1340, 1341, 1342, 1343, 1344] (by decide +kernel) (by decide +kernel)
set_option maxRecDepth 20000 in
theorem gL_law_X12_told : GoodIn wsL_law (wsV RL 104 RX12 yX12_told wsX12_told) := goodIn_app (goodIn_of _ (by decide +kernel)) ggL_law_X12_told
set_option maxRecDepth 20000 in
theorem ggL_law_X10_adjourn : GoodIn wsL_law wsX10_adjourn := goodIn_r _ [961, 15, 209, 210, 211, 14, 212, 171, 39, 32, 180, 213, 214, 215, 216, 217, 218, 219, 220, 221, 222, 223, 224, 225, 226, 227, 228, 27, 229, 82, 49, 230, 231, 232, 233, 234, 235, 236, 237, 238, 239, 240, 241, 242, 243, 244, 245, 246, 247, 248, 249, 250, 251, 252, 31, 253, 191, 254, 255, 256, 257, 56, 258, 259, 260, 261, 262, 263, 264, 265, 91, 266, 267, 268, 269, 270, 271, 272, 273, 274, 275, 276, 35, 277, 60, 62, 278, 279, 280, 281, 282, 283, 284, 285, 286, 287, 288, 289, 290, 291, 292, 293, 294, 295, 296, 297, 298, 299, 300, 37, 301, 302, 303, 304, 305, 306, 307, 308, 309, 310, 311, 312, 313, 314, 315, 316, 317, 318, 319, 320, 321, 322, 323, 324, 325, 326, 327, 328, 329, 330, 331, 332, 333, 334, 335, 336, 337, 338, 339, 68, 69, 70, 340, 341, 342, 343, 90, 83, 344, 345, 346, 347, 348, 349, 350, 351, 352, 353, 354, 355, 356, 357, 358, 359, 360, 43, 361, 362, 363, 364, 365, 366, 367, 368, 369, 370, 371, 372, 373, 374, 375, 376, 377, 378, 379, 380, 381, 382, 19, 383, 384, 72, 385, 386, 387, 388, 389, 390, 391, 392, 393, 394, 395, 396, 397, 398, 399, 400, 401, 402, 403, 404, 405, 406, 407, 408, 409, 410, 411, 412, 413, 85, 414, 415, 416, 417, 51, 418, 419, 420, 421, 422, 423, 424, 425, 426, 427, 428, 429, 430, 431, 432, 433, 434, 193, 194, 195, 196, 197, 176, 177, 178, 179, 181, 182, 183, 184, 185, 186, 187, 188, 189, 190, 435, 436, 437, 438, 439, 440, 441, 442, 443, 10, 11, 444, 42, 445, 132, 446, 74, 75, 76, 50, 77, 447, 448, 449, 450, 451, 452, 453, 454, 455, 456, 457, 458, 459, 460, 461, 462, 463, 464, 465, 466, 467, 468, 469, 94, 470, 471, 472, 473, 474, 475, 476, 477, 478, 479, 480, 481, 482, 483, 484, 485, 486, 487, 488, 489, 490, 491, 492, 493, 494, 495, 496, 497, 498, 499, 500, 501, 502, 503, 504, 505, 506, 507, 508, 509, 510, 511, 512, 513, 514, 515, 516, 517, 518, 519, 520, 521, 522, 523, 524, 525, 526, 527, 528, 529, 530, 531, 532, 533, 534, 535, 536, 537, 538, 539, 540, 541, 542, 543, 544, 545, 546, 547, 548, 549, 550, 551, 552, 553, 554, 555, 556, 557, 558, 559, 560, 561, 562, 563, 564, 565, 566, 567, 568, 569, 570, 571, 572, 573, 574, 575, 576, 577, 578, 579, 580, 71, 73, 67, 581, 582, 583, 584, 585, 586, 587, 588, 589, 590, 591, 592, 593, 594, 595, 596, 597, 598, 599, 600, 601, 602, 603, 604, 605, 606, 607, 608, 609, 610, 611, 612, 613, 614, 615, 616, 617, 618, 619, 620, 621, 622, 623, 624, 625, 626, 627, 628, 629, 630, 631, 632, 633, 634, 635, 636, 637, 638, 639, 640, 641, 642, 643, 87, 88, 89, 644, 645, 646, 647, 648, 649, 650, 651, 652, 653, 654, 655, 656, 657, 658, 659, 660, 661, 662, 663, 664, 665, 666, 667, 668, 669, 670, 1262, 1263, 1264, 1265, 1266, 1274, 1275, 1276, 1277, 1278, 1279, 1280, 1281, 1282, 1283, 1284, 1297, 1298, 1289, 1290, 1291, 1292, 1293, 1294, 1295, 1296, 1345, 1346, 1347, 1348, 1349, 1350, 1351, 1352, 1353, 1354, 1355, 1356, 1357, 1358, 1359, 1360, 1299, 1300, 1301, 1302, 1285, 1286, 1287, 1288] (by decide +kernel) (by decide +kernel)
set_option maxRecDepth 20000 in
theorem gL_law_X10_adjourn : GoodIn wsL_law (wsV RL 105 RX10 yX10_adjourn wsX10_adjourn) := goodIn_app (goodIn_of _ (by decide +kernel)) ggL_law_X10_adjourn
set_option maxRecDepth 20000 in
theorem ggL_law_X12_adjourn : GoodIn wsL_law wsX12_adjourn := goodIn_r _ [965, 104, 675, 676, 677, 103, 678, 153, 156, 140, 679, 680, 681, 682, 113, 152, 148, 151, 116, 126, 150, 119, 127, 135, 157, 137, 117, 683, 684, 685, 686, 146, 203, 5, 204, 687, 688, 689, 690, 134, 691, 692, 693, 694, 118, 695, 696, 697, 698, 699, 700, 701, 702, 703, 121, 704, 705, 706, 707, 708, 709, 710, 123, 711, 712, 713, 714, 715, 716, 717, 718, 719, 720, 721, 722, 723, 724, 725, 726, 147, 149, 128, 125, 124, 122, 727, 728, 729, 730, 731, 732, 733, 734, 735, 736, 737, 738, 114, 120, 133, 739, 740, 741, 742, 115, 743, 744, 745, 746, 129, 747, 748, 749, 750, 751, 752, 753, 754, 755, 131, 756, 757, 758, 759, 136, 138, 760, 761, 762, 763, 764, 765, 766, 767, 768, 769, 770, 771, 772, 773, 774, 775, 776, 777, 778, 779, 154, 141, 780, 781, 782, 783, 784, 785, 786, 787, 155, 158, 139, 788, 789, 790, 791, 792, 793, 794, 795, 796, 797, 202, 1267, 1268, 1269, 1270, 1271, 1272, 1273, 1303, 1304, 1305, 1306, 1307, 1308, 1309, 1310, 1311, 1312, 1313, 1314, 1315, 1316, 1317, 1318, 1319, 1320, 1321, 1322, 1323, 1324, 1325, 1326, 1327, 1328, 1329, 1330, 1331, 1332, 1333, 1334, 1335, 1336, 1337, 1338, 1339, 1340, 1341, 1342, 1343, 1344] (by decide +kernel) (by decide +kernel)
set_option maxRecDepth 20000 in
theorem gL_law_X12_adjourn : GoodIn wsL_law (wsV RL 108 RX12 yX12_adjourn wsX12_adjourn) := goodIn_app (goodIn_of _ (by decide +kernel)) ggL_law_X12_adjourn
set_option maxRecDepth 20000 in
theorem ggL_law_X10_order : GoodIn wsL_law wsX10_order := goodIn_r _ [969, 15, 970, 971, 214, 215, 216, 217, 218, 219, 220, 221, 222, 223, 224, 225, 226, 227, 228, 27, 229, 82, 49, 230, 231, 232, 233, 234, 235, 236, 237, 238, 239, 240, 241, 242, 243, 244, 245, 246, 247, 248, 249, 250, 251, 252, 31, 253, 191, 254, 255, 256, 257, 56, 258, 259, 260, 261, 262, 263, 264, 265, 91, 266, 267, 268, 269, 270, 271, 272, 273, 274, 275, 276, 35, 277, 60, 62, 278, 279, 280, 281, 282, 283, 284, 285, 286, 287, 288, 289, 290, 291, 292, 293, 294, 295, 296, 297, 298, 299, 14, 300, 37, 301, 302, 303, 304, 305, 306, 307, 308, 309, 310, 311, 312, 313, 314, 315, 316, 317, 318, 319, 320, 321, 322, 323, 324, 325, 326, 327, 328, 329, 330, 331, 332, 333, 334, 335, 336, 337, 338, 339, 68, 69, 70, 340, 341, 342, 343, 90, 83, 344, 345, 346, 347, 348, 349, 350, 351, 352, 353, 354, 355, 356, 357, 358, 359, 360, 43, 361, 362, 363, 364, 365, 366, 367, 368, 369, 370, 371, 372, 373, 374, 375, 376, 377, 378, 379, 380, 381, 382, 19, 383, 384, 72, 1262, 1263, 1264, 1265, 1266, 1274, 1275, 1276, 1277, 1278, 1279, 1280, 1281, 1282, 1283, 1284, 1289, 1290, 1291, 1292, 1293, 1294, 1295, 1296, 1297, 1298, 1345, 1346, 1347, 1348, 1349, 1350, 1351, 1352, 1353, 1354, 1355, 1356, 1357, 1358, 1359, 1360, 1299, 1300, 1301, 1302, 1285, 1286, 1287, 1288] (by decide +kernel) (by decide +kernel)
set_option maxRecDepth 20000 in
theorem gL_law_X10_order : GoodIn wsL_law (wsV RL 109 RX10 yX10_order wsX10_order) := goodIn_app (goodIn_of _ (by decide +kernel)) ggL_law_X10_order
set_option maxRecDepth 20000 in
theorem ggL_law_X12_order : GoodIn wsL_law wsX12_order := goodIn_r _ [975, 104, 976, 977, 978, 724, 725, 103, 726, 157, 135, 699, 116, 152, 134, 151, 147, 149, 128, 127, 125, 124, 123, 121, 122, 711, 712, 713, 714, 687, 688, 689, 690, 691, 692, 693, 694, 118, 727, 728, 729, 730, 137, 1267, 1268, 1269, 1270, 1271, 1272, 1273, 1303, 1304, 1305, 1306, 1307, 1308, 1309, 1310, 1311, 1312, 1313, 1314, 1315, 1316, 1317, 1318, 1319, 1320, 1321, 1322, 1323, 1324, 1325, 1326, 1327, 1328, 1329, 1330, 1331, 1332, 1333, 1334, 1335, 1336, 1337, 1338, 1339, 1340, 1341, 1342, 1343, 1344] (by decide +kernel) (by decide +kernel)
set_option maxRecDepth 20000 in
theorem gL_law_X12_order : GoodIn wsL_law (wsV RL 112 RX12 yX12_order wsX12_order) := goodIn_app (goodIn_of _ (by decide +kernel)) ggL_law_X12_order
set_option maxRecDepth 20000 in
theorem ggL_law_X10_why : GoodIn wsL_law wsX10_why := goodIn_r _ [982, 15, 970, 1262, 1263, 1264, 1265, 1266, 1274, 1275, 1276, 1277, 1278, 1279, 1280, 1281, 1282, 1283, 1284] (by decide +kernel) (by decide +kernel)
set_option maxRecDepth 20000 in
theorem gL_law_X10_why : GoodIn wsL_law (wsV RL 113 RX10 yX10_why wsX10_why) := goodIn_app (goodIn_of _ (by decide +kernel)) ggL_law_X10_why
set_option maxRecDepth 20000 in
theorem ggL_law_X12_why : GoodIn wsL_law wsX12_why := goodIn_r _ [986, 104, 977, 1267, 1268, 1269, 1270, 1271, 1272, 1273, 1303, 1304, 1305, 1306, 1307, 1308, 1309, 1310, 1311, 1312, 1313, 1314, 1315, 1316, 1317, 1318, 1319, 1320, 1321, 1322, 1323, 1324, 1325, 1326, 1327, 1328, 1329, 1330, 1331, 1332, 1333, 1334, 1335, 1336, 1337, 1338, 1339, 1340, 1341, 1342, 1343, 1344] (by decide +kernel) (by decide +kernel)
set_option maxRecDepth 20000 in
theorem gL_law_X12_why : GoodIn wsL_law (wsV RL 116 RX12 yX12_why wsX12_why) := goodIn_app (goodIn_of _ (by decide +kernel)) ggL_law_X12_why
set_option maxRecDepth 20000 in
theorem ggL_law_X10_pending : GoodIn wsL_law wsX10_pending := goodIn_r _ [990, 15, 991, 992, 255, 256, 31, 257, 191, 56, 993, 994, 995, 282, 996, 284, 458, 459, 445, 451, 463, 464, 460, 461, 462, 467, 1262, 1263, 1264, 1265, 1266, 1274, 1275, 1276, 1277, 1278, 1279, 1280, 1281, 1282, 1283, 1284, 1297, 1298, 1345, 1346, 1347, 1348, 1349, 1350, 1351, 1352, 1353, 1354, 1355, 1356, 1357, 1358, 1359, 1360, 1301, 1302] (by decide +kernel) (by decide +kernel)
set_option maxRecDepth 20000 in
theorem gL_law_X10_pending : GoodIn wsL_law (wsV RL 117 RX10 yX10_pending wsX10_pending) := goodIn_app (goodIn_of _ (by decide +kernel)) ggL_law_X10_pending
set_option maxRecDepth 20000 in
theorem ggL_law_X12_pending : GoodIn wsL_law wsX12_pending := goodIn_r _ [1000, 104, 1001, 1002, 1003, 1004, 1005, 1006, 1007, 1008, 1009, 1010, 1011, 202, 203, 5, 204, 1012, 769, 770, 103, 771, 146, 133, 1267, 1268, 1269, 1270, 1271, 1272, 1273, 1303, 1304, 1305, 1306, 1307, 1308, 1309, 1310, 1311, 1312, 1313, 1314, 1315, 1316, 1317, 1318, 1319, 1320, 1321, 1322, 1323, 1324, 1325, 1326, 1327, 1328, 1329, 1330, 1331, 1332, 1333, 1334, 1335, 1336, 1337, 1338, 1339, 1340, 1341, 1342, 1343, 1344] (by decide +kernel) (by decide +kernel)
set_option maxRecDepth 20000 in
theorem gL_law_X12_pending : GoodIn wsL_law (wsV RL 120 RX12 yX12_pending wsX12_pending) := goodIn_app (goodIn_of _ (by decide +kernel)) ggL_law_X12_pending
set_option maxRecDepth 20000 in
theorem ggL_law_X10_text : GoodIn wsL_law wsX10_text := goodIn_r _ [1016, 15, 1017, 1018, 1019, 14, 1020, 44, 36, 32, 1021, 1022, 1023, 1024, 43, 1025, 362, 77, 1026, 275, 276, 35, 277, 60, 62, 278, 255, 256, 31, 257, 191, 56, 1027, 1262, 1263, 1264, 1265, 1266, 1274, 1275, 1276, 1277, 1278, 1279, 1280, 1281, 1282, 1283, 1284, 1345, 1346, 1347, 1348, 1349, 1350, 1351, 1352, 1353, 1354, 1355, 1356, 1357, 1358, 1359, 1360, 1301, 1302, 1299, 1300, 1297, 1298] (by decide +kernel) (by decide +kernel)
set_option maxRecDepth 20000 in
theorem gL_law_X10_text : GoodIn wsL_law (wsV RL 121 RX10 yX10_text wsX10_text) := goodIn_app (goodIn_of _ (by decide +kernel)) ggL_law_X10_text
set_option maxRecDepth 20000 in
theorem ggL_law_X12_text : GoodIn wsL_law wsX12_text := goodIn_r _ [1031, 104, 1032, 1033, 1034, 103, 1035, 158, 139, 157, 699, 135, 152, 134, 121, 131, 203, 5, 204, 1267, 1268, 1269, 1270, 1271, 1272, 1273, 1303, 1304, 1305, 1306, 1307, 1308, 1309, 1310, 1311, 1312, 1313, 1314, 1315, 1316, 1317, 1318, 1319, 1320, 1321, 1322, 1323, 1324, 1325, 1326, 1327, 1328, 1329, 1330, 1331, 1332, 1333, 1334, 1335, 1336, 1337, 1338, 1339, 1340, 1341, 1342, 1343, 1344] (by decide +kernel) (by decide +kernel)
set_option maxRecDepth 20000 in
theorem gL_law_X12_text : GoodIn wsL_law (wsV RL 124 RX12 yX12_text wsX12_text) := goodIn_app (goodIn_of _ (by decide +kernel)) ggL_law_X12_text
set_option maxRecDepth 20000 in
theorem ggL_law_X10_ballot : GoodIn wsL_law wsX10_ballot := goodIn_r _ [1039, 15, 991, 1040, 251, 252, 31, 253, 191, 254, 255, 256, 257, 56, 1041, 556, 557, 282, 558, 446, 1262, 1263, 1264, 1265, 1266, 1274, 1275, 1276, 1277, 1278, 1279, 1280, 1281, 1282, 1283, 1284, 1297, 1298, 1345, 1346, 1347, 1348, 1349, 1350, 1351, 1352, 1353, 1354, 1355, 1356, 1357, 1358, 1359, 1360] (by decide +kernel) (by decide +kernel)
set_option maxRecDepth 20000 in
theorem gL_law_X10_ballot : GoodIn wsL_law (wsV RL 125 RX10 yX10_ballot wsX10_ballot) := goodIn_app (goodIn_of _ (by decide +kernel)) ggL_law_X10_ballot
set_option maxRecDepth 20000 in
theorem ggL_law_X12_ballot : GoodIn wsL_law wsX12_ballot := goodIn_r _ [1045, 104, 1001, 1046, 1047, 202, 203, 5, 204, 1048, 688, 689, 103, 690, 134, 152, 1267, 1268, 1269, 1270, 1271, 1272, 1273, 1303, 1304, 1305, 1306, 1307, 1308, 1309, 1310, 1311, 1312, 1313, 1314, 1315, 1316, 1317, 1318, 1319, 1320, 1321, 1322, 1323, 1324, 1325, 1326, 1327, 1328, 1329, 1330, 1331, 1332, 1333, 1334, 1335, 1336, 1337, 1338, 1339, 1340, 1341, 1342, 1343, 1344] (by decide +kernel) (by decide +kernel)
set_option maxRecDepth 20000 in
theorem gL_law_X12_ballot : GoodIn wsL_law (wsV RL 128 RX12 yX12_ballot wsX12_ballot) := goodIn_app (goodIn_of _ (by decide +kernel)) ggL_law_X12_ballot
set_option maxRecDepth 20000 in
theorem ggL_law_X10_desk : GoodIn wsL_law wsX10_desk := goodIn_r _ [1052, 15, 1053, 298, 299, 14, 300, 37, 1054, 1055, 1056, 35, 1057, 62, 60, 1058, 1059, 1060, 1061, 1062, 1063, 278, 255, 256, 31, 257, 191, 56, 1064, 275, 276, 277, 1065, 516, 517, 518, 519, 1262, 1263, 1264, 1265, 1266, 1274, 1275, 1276, 1277, 1278, 1279, 1280, 1281, 1282, 1283, 1284, 1299, 1300, 1297, 1298, 1345, 1346, 1347, 1348, 1349, 1350, 1351, 1352, 1353, 1354, 1355, 1356, 1357, 1358, 1359, 1360, 1301, 1302] (by decide +kernel) (by decide +kernel)
set_option maxRecDepth 20000 in
theorem gL_law_X10_desk : GoodIn wsL_law (wsV RL 129 RX10 yX10_desk wsX10_desk) := goodIn_app (goodIn_of _ (by decide +kernel)) ggL_law_X10_desk
set_option maxRecDepth 20000 in
theorem ggL_law_X12_desk : GoodIn wsL_law wsX12_desk := goodIn_r _ [1069, 104, 1070, 1071, 1072, 1073, 1003, 1006, 1007, 1008, 1074, 202, 203, 5, 204, 1267, 1268, 1269, 1270, 1271, 1272, 1273, 1303, 1304, 1305, 1306, 1307, 1308, 1309, 1310, 1311, 1312, 1313, 1314, 1315, 1316, 1317, 1318, 1319, 1320, 1321, 1322, 1323, 1324, 1325, 1326, 1327, 1328, 1329, 1330, 1331, 1332, 1333, 1334, 1335, 1336, 1337, 1338, 1339, 1340, 1341, 1342, 1343, 1344] (by decide +kernel) (by decide +kernel)
set_option maxRecDepth 20000 in
theorem gL_law_X12_desk : GoodIn wsL_law (wsV RL 132 RX12 yX12_desk wsX12_desk) := goodIn_app (goodIn_of _ (by decide +kernel)) ggL_law_X12_desk
set_option maxRecDepth 20000 in
theorem ggL_law_X10_lying : GoodIn wsL_law wsX10_lying := goodIn_r _ [1078, 15, 1053, 298, 299, 14, 300, 37, 1079, 1080, 1081, 35, 1082, 62, 1059, 278, 255, 256, 31, 257, 191, 56, 1083, 1023, 1024, 43, 1025, 362, 77, 1262, 1263, 1264, 1265, 1266, 1274, 1275, 1276, 1277, 1278, 1279, 1280, 1281, 1282, 1283, 1284, 1299, 1300, 1345, 1346, 1347, 1348, 1349, 1350, 1351, 1352, 1353, 1354, 1355, 1356, 1357, 1358, 1359, 1360, 1297, 1298, 1301, 1302] (by decide +kernel) (by decide +kernel)
set_option maxRecDepth 20000 in
theorem gL_law_X10_lying : GoodIn wsL_law (wsV RL 133 RX10 yX10_lying wsX10_lying) := goodIn_app (goodIn_of _ (by decide +kernel)) ggL_law_X10_lying
set_option maxRecDepth 20000 in
theorem ggL_law_X12_lying : GoodIn wsL_law wsX12_lying := goodIn_r _ [1087, 104, 1070, 1071, 1006, 1088, 202, 203, 5, 204, 1267, 1268, 1269, 1270, 1271, 1272, 1273, 1303, 1304, 1305, 1306, 1307, 1308, 1309, 1310, 1311, 1312, 1313, 1314, 1315, 1316, 1317, 1318, 1319, 1320, 1321, 1322, 1323, 1324, 1325, 1326, 1327, 1328, 1329, 1330, 1331, 1332, 1333, 1334, 1335, 1336, 1337, 1338, 1339, 1340, 1341, 1342, 1343, 1344] (by decide +kernel) (by decide +kernel)
set_option maxRecDepth 20000 in
theorem gL_law_X12_lying : GoodIn wsL_law (wsV RL 136 RX12 yX12_lying wsX12_lying) := goodIn_app (goodIn_of _ (by decide +kernel)) ggL_law_X12_lying
set_option maxRecDepth 20000 in
theorem ggL_law_X10_result : GoodIn wsL_law wsX10_result := goodIn_r _ [1092, 15, 1093, 1094, 1095, 1096, 19, 1097, 384, 71, 73, 1262, 1263, 1264, 1265, 1266, 1274, 1275, 1276, 1277, 1278, 1279, 1280, 1281, 1282, 1283, 1284, 1285, 1286, 1287, 1288] (by decide +kernel) (by decide +kernel)
set_option maxRecDepth 20000 in
theorem gL_law_X10_result : GoodIn wsL_law (wsV RL 137 RX10 yX10_result wsX10_result) := goodIn_app (goodIn_of _ (by decide +kernel)) ggL_law_X10_result
set_option maxRecDepth 20000 in
theorem ggL_law_X12_result : GoodIn wsL_law wsX12_result := goodIn_r _ [1101, 104, 1102, 1103, 202, 203, 5, 204, 1267, 1268, 1269, 1270, 1271, 1272, 1273, 1303, 1304, 1305, 1306, 1307, 1308, 1309, 1310, 1311, 1312, 1313, 1314, 1315, 1316, 1317, 1318, 1319, 1320, 1321, 1322, 1323, 1324, 1325, 1326, 1327, 1328, 1329, 1330, 1331, 1332, 1333, 1334, 1335, 1336, 1337, 1338, 1339, 1340, 1341, 1342, 1343, 1344] (by decide +kernel) (by decide +kernel)
set_option maxRecDepth 20000 in
theorem gL_law_X12_result : GoodIn wsL_law (wsV RL 140 RX12 yX12_result wsX12_result) := goodIn_app (goodIn_of _ (by decide +kernel)) ggL_law_X12_result
set_option maxRecDepth 20000 in
theorem ggL_law_X10_count : GoodIn wsL_law wsX10_count := goodIn_r _ [1107, 15, 1108, 1109, 1110, 1111, 1112, 1113, 1114, 991, 1115, 1116, 1117, 1118, 1093, 1119, 1120, 1121, 20, 1122, 516, 517, 35, 518, 62, 60, 519, 278, 255, 256, 31, 257, 191, 56, 1262, 1263, 1264, 1265, 1266, 1274, 1275, 1276, 1277, 1278, 1279, 1280, 1281, 1282, 1283, 1284, 1289, 1290, 1291, 1292, 1293, 1294, 1295, 1296, 1297, 1298, 1285, 1286, 1287, 1288, 1301, 1302, 1299, 1300, 1345, 1346, 1347, 1348, 1349, 1350, 1351, 1352, 1353, 1354, 1355, 1356, 1357, 1358, 1359, 1360] (by decide +kernel) (by decide +kernel)
set_option maxRecDepth 20000 in
theorem gL_law_X10_count : GoodIn wsL_law (wsV RL 141 RX10 yX10_count wsX10_count) := goodIn_app (goodIn_of _ (by decide +kernel)) ggL_law_X10_count
set_option maxRecDepth 20000 in
theorem ggL_law_X12_count : GoodIn wsL_law wsX12_count := goodIn_r _ [1126, 104, 1046, 1127, 1128, 1129, 1130, 1131, 1001, 1132, 1133, 1003, 1134, 976, 1102, 1135, 1136, 1137, 1267, 1268, 1269, 1270, 1271, 1272, 1273, 1303, 1304, 1305, 1306, 1307, 1308, 1309, 1310, 1311, 1312, 1313, 1314, 1315, 1316, 1317, 1318, 1319, 1320, 1321, 1322, 1323, 1324, 1325, 1326, 1327, 1328, 1329, 1330, 1331, 1332, 1333, 1334, 1335, 1336, 1337, 1338, 1339, 1340, 1341, 1342, 1343, 1344] (by decide +kernel) (by decide +kernel)
set_option maxRecDepth 20000 in
theorem gL_law_X12_count : GoodIn wsL_law (wsV RL 144 RX12 yX12_count wsX12_count) := goodIn_app (goodIn_of _ (by decide +kernel)) ggL_law_X12_count
set_option maxRecDepth 20000 in
theorem ggL_law_X10_seat : GoodIn wsL_law wsX10_seat := goodIn_r _ [1141, 15, 1108, 1142, 227, 228, 27, 229, 82, 49, 1143, 231, 232, 233, 1262, 1263, 1264, 1265, 1266, 1274, 1275, 1276, 1277, 1278, 1279, 1280, 1281, 1282, 1283, 1284, 1289, 1290, 1291, 1292, 1293, 1294, 1295, 1296] (by decide +kernel) (by decide +kernel)
set_option maxRecDepth 20000 in
theorem gL_law_X10_seat : GoodIn wsL_law (wsV RL 145 RX10 yX10_seat wsX10_seat) := goodIn_app (goodIn_of _ (by decide +kernel)) ggL_law_X10_seat
set_option maxRecDepth 20000 in
theorem ggL_law_X12_seat : GoodIn wsL_law wsX12_seat := goodIn_r _ [1147, 104, 1046, 1148, 202, 203, 5, 204, 1267, 1268, 1269, 1270, 1271, 1272, 1273, 1303, 1304, 1305, 1306, 1307, 1308, 1309, 1310, 1311, 1312, 1313, 1314, 1315, 1316, 1317, 1318, 1319, 1320, 1321, 1322, 1323, 1324, 1325, 1326, 1327, 1328, 1329, 1330, 1331, 1332, 1333, 1334, 1335, 1336, 1337, 1338, 1339, 1340, 1341, 1342, 1343, 1344] (by decide +kernel) (by decide +kernel)
set_option maxRecDepth 20000 in
theorem gL_law_X12_seat : GoodIn wsL_law (wsV RL 148 RX12 yX12_seat wsX12_seat) := goodIn_app (goodIn_of _ (by decide +kernel)) ggL_law_X12_seat
set_option maxRecDepth 20000 in
theorem ggL_law_X10_journal : GoodIn wsL_law wsX10_journal := goodIn_r _ [1152, 15, 1117, 1094, 1095, 1096, 19, 1097, 384, 71, 73, 1262, 1263, 1264, 1265, 1266, 1274, 1275, 1276, 1277, 1278, 1279, 1280, 1281, 1282, 1283, 1284, 1285, 1286, 1287, 1288] (by decide +kernel) (by decide +kernel)
set_option maxRecDepth 20000 in
theorem gL_law_X10_journal : GoodIn wsL_law (wsV RL 149 RX10 yX10_journal wsX10_journal) := goodIn_app (goodIn_of _ (by decide +kernel)) ggL_law_X10_journal
set_option maxRecDepth 20000 in
theorem ggL_law_X12_journal : GoodIn wsL_law wsX12_journal := goodIn_r _ [1156, 104, 976, 1157, 202, 203, 5, 204, 1267, 1268, 1269, 1270, 1271, 1272, 1273, 1303, 1304, 1305, 1306, 1307, 1308, 1309, 1310, 1311, 1312, 1313, 1314, 1315, 1316, 1317, 1318, 1319, 1320, 1321, 1322, 1323, 1324, 1325, 1326, 1327, 1328, 1329, 1330, 1331, 1332, 1333, 1334, 1335, 1336, 1337, 1338, 1339, 1340, 1341, 1342, 1343, 1344] (by decide +kernel) (by decide +kernel)
set_option maxRecDepth 20000 in
theorem gL_law_X12_journal : GoodIn wsL_law (wsV RL 152 RX12 yX12_journal wsX12_journal) := goodIn_app (goodIn_of _ (by decide +kernel)) ggL_law_X12_journal
set_option maxRecDepth 20000 in
theorem ggL_law_X10_before : GoodIn wsL_law wsX10_before := goodIn_r _ [1161, 15, 1117, 1118, 16, 1108, 1109, 163, 164, 165, 14, 166, 28, 39, 167, 40, 44, 168, 169, 170, 171, 172, 173, 174, 175, 32, 36, 37, 176, 177, 178, 179, 180, 181, 182, 183, 184, 185, 186, 187, 188, 189, 31, 190, 191, 56, 192, 193, 194, 195, 196, 197, 78, 79, 80, 27, 81, 82, 83, 84, 85, 51, 86, 87, 88, 89, 49, 90, 91, 92, 93, 94, 95, 1094, 1095, 1096, 19, 1097, 384, 71, 73, 209, 210, 211, 212, 213, 214, 215, 216, 217, 218, 219, 220, 221, 222, 223, 224, 225, 226, 227, 228, 229, 230, 231, 232, 233, 234, 235, 236, 237, 238, 239, 240, 241, 242, 243, 244, 245, 246, 247, 248, 249, 250, 251, 252, 253, 254, 255, 256, 257, 258, 259, 260, 261, 262, 263, 264, 265, 266, 267, 268, 269, 270, 271, 272, 273, 274, 275, 276, 35, 277, 60, 62, 278, 279, 280, 281, 282, 283, 284, 285, 286, 287, 288, 289, 290, 291, 292, 293, 294, 295, 296, 297, 298, 299, 300, 301, 302, 303, 304, 305, 306, 307, 308, 309, 310, 311, 312, 313, 314, 315, 316, 317, 318, 319, 320, 321, 322, 323, 324, 325, 326, 327, 328, 329, 330, 331, 332, 333, 334, 335, 336, 337, 338, 339, 68, 69, 70, 340, 341, 342, 343, 344, 345, 346, 347, 348, 349, 350, 351, 352, 353, 354, 355, 356, 357, 358, 359, 360, 43, 361, 362, 363, 364, 365, 366, 367, 368, 369, 370, 371, 372, 373, 374, 375, 376, 377, 378, 379, 380, 381, 382, 383, 72, 385, 386, 387, 388, 389, 390, 391, 392, 393, 394, 395, 396, 397, 398, 399, 400, 401, 402, 403, 404, 405, 406, 407, 408, 409, 410, 411, 412, 413, 414, 415, 416, 417, 418, 419, 420, 421, 422, 423, 424, 425, 426, 427, 428, 429, 430, 431, 432, 433, 434, 435, 436, 437, 438, 439, 440, 441, 442, 443, 10, 11, 444, 42, 445, 132, 446, 74, 75, 76, 50, 77, 447, 448, 449, 450, 451, 452, 453, 454, 455, 456, 457, 458, 459, 460, 461, 462, 463, 464, 465, 466, 467, 468, 469, 470, 471, 472, 473, 474, 475, 476, 477, 478, 479, 480, 481, 482, 483, 484, 485, 486, 487, 488, 489, 490, 491, 492, 493, 494, 495, 496, 497, 498, 499, 500, 501, 502, 503, 504, 505, 506, 507, 508, 509, 510, 511, 512, 513, 514, 515, 516, 517, 518, 519, 520, 521, 522, 523, 524, 525, 526, 527, 528, 529, 530, 531, 532, 533, 534, 535, 536, 537, 538, 539, 540, 541, 542, 543, 544, 545, 546, 547, 548, 549, 550, 551, 552, 553, 554, 555, 556, 557, 558, 559, 560, 561, 562, 563, 564, 565, 566, 567, 568, 569, 570, 571, 572, 573, 574, 575, 576, 577, 578, 579, 580, 67, 581, 582, 583, 584, 585, 586, 587, 588, 589, 590, 591, 592, 593, 594, 595, 596, 597, 598, 599, 600, 601, 602, 603, 604, 605, 606, 607, 608, 609, 610, 611, 612, 613, 614, 615, 616, 617, 618, 619, 620, 621, 622, 623, 624, 625, 626, 627, 628, 629, 630, 631, 632, 633, 634, 635, 636, 637, 638, 639, 640, 641, 642, 643, 644, 645, 646, 647, 648, 649, 650, 651, 652, 653, 654, 655, 656, 657, 658, 659, 660, 661, 662, 663, 664, 665, 666, 667, 668, 669, 670, 1017, 1018, 1019, 1020, 1021, 1022, 1023, 1024, 1025, 1026, 1027, 1262, 1263, 1264, 1265, 1266, 1274, 1275, 1276, 1277, 1278, 1279, 1280, 1281, 1282, 1283, 1284, 1285, 1286, 1287, 1288, 1289, 1290, 1291, 1292, 1293, 1294, 1295, 1296, 1301, 1302, 1297, 1298, 1345, 1346, 1347, 1348, 1349, 1350, 1351, 1352, 1353, 1354, 1355, 1356, 1357, 1358, 1359, 1360, 1299, 1300] (by decide +kernel) (by decide +kernel)
set_option maxRecDepth 20000 in
theorem gL_law_X10_before : GoodIn wsL_law (wsV RL 153 RX10 yX10_before wsX10_before) := goodIn_app (goodIn_of _ (by decide +kernel)) ggL_law_X10_before
set_option maxRecDepth 20000 in
theorem ggL_law_X12_before : GoodIn wsL_law wsX12_before := goodIn_r _ [1165, 104, 976, 105, 1046, 1157, 202, 203, 5, 204, 142, 143, 144, 103, 145, 146, 147, 148, 149, 150, 151, 152, 153, 154, 155, 156, 157, 158, 113, 114, 115, 137, 1166, 1167, 1168, 1169, 1170, 676, 677, 678, 140, 679, 680, 681, 682, 116, 126, 119, 127, 135, 117, 683, 684, 685, 686, 687, 688, 689, 690, 134, 691, 692, 693, 694, 118, 695, 696, 697, 698, 699, 700, 701, 702, 703, 121, 704, 705, 706, 707, 708, 709, 710, 123, 711, 712, 713, 714, 715, 716, 717, 718, 719, 720, 721, 722, 723, 724, 725, 726, 128, 125, 124, 122, 727, 728, 729, 730, 731, 732, 733, 734, 735, 736, 737, 738, 120, 133, 739, 740, 741, 742, 743, 744, 745, 746, 129, 747, 748, 749, 750, 751, 752, 753, 754, 755, 131, 756, 757, 758, 759, 136, 138, 760, 761, 762, 763, 764, 765, 766, 767, 768, 769, 770, 771, 772, 773, 774, 775, 776, 777, 778, 779, 141, 780, 781, 782, 783, 784, 785, 786, 787, 139, 788, 789, 790, 791, 792, 793, 794, 795, 796, 797, 1032, 1033, 1034, 1035, 1267, 1268, 1269, 1270, 1271, 1272, 1273, 1303, 1304, 1305, 1306, 1307, 1308, 1309, 1310, 1311, 1312, 1313, 1314, 1315, 1316, 1317, 1318, 1319, 1320, 1321, 1322, 1323, 1324, 1325, 1326, 1327, 1328, 1329, 1330, 1331, 1332, 1333, 1334, 1335, 1336, 1337, 1338, 1339, 1340, 1341, 1342, 1343, 1344] (by decide +kernel) (by decide +kernel)
set_option maxRecDepth 20000 in
theorem gL_law_X12_before : GoodIn wsL_law (wsV RL 157 RX12 yX12_before wsX12_before) := goodIn_app (goodIn_of _ (by decide +kernel)) ggL_law_X12_before
set_option maxRecDepth 20000 in
theorem ggL_law_X10_again : GoodIn wsL_law wsX10_again := goodIn_r _ [1174, 15, 1117, 16, 1108, 1109, 1118, 991, 1115, 163, 164, 165, 14, 166, 28, 39, 167, 40, 44, 168, 169, 170, 171, 172, 173, 174, 175, 32, 36, 37, 176, 177, 178, 179, 180, 181, 182, 183, 184, 185, 186, 187, 188, 189, 31, 190, 191, 56, 192, 193, 194, 195, 196, 197, 78, 79, 80, 27, 81, 82, 83, 84, 85, 51, 86, 87, 88, 89, 49, 90, 91, 92, 93, 94, 95, 1094, 1095, 1096, 19, 1097, 384, 71, 73, 209, 210, 211, 212, 213, 214, 215, 216, 217, 218, 219, 220, 221, 222, 223, 224, 225, 226, 227, 228, 229, 230, 231, 232, 233, 234, 235, 236, 237, 238, 239, 240, 241, 242, 243, 244, 245, 246, 247, 248, 249, 250, 251, 252, 253, 254, 255, 256, 257, 258, 259, 260, 261, 262, 263, 264, 265, 266, 267, 268, 269, 270, 271, 272, 273, 274, 275, 276, 35, 277, 60, 62, 278, 279, 280, 281, 282, 283, 284, 285, 286, 287, 288, 289, 290, 291, 292, 293, 294, 295, 296, 297, 298, 299, 300, 301, 302, 303, 304, 305, 306, 307, 308, 309, 310, 311, 312, 313, 314, 315, 316, 317, 318, 319, 320, 321, 322, 323, 324, 325, 326, 327, 328, 329, 330, 331, 332, 333, 334, 335, 336, 337, 338, 339, 68, 69, 70, 340, 341, 342, 343, 344, 345, 346, 347, 348, 349, 350, 351, 352, 353, 354, 355, 356, 357, 358, 359, 360, 43, 361, 362, 363, 364, 365, 366, 367, 368, 369, 370, 371, 372, 373, 374, 375, 376, 377, 378, 379, 380, 381, 382, 383, 72, 385, 386, 387, 388, 389, 390, 391, 392, 393, 394, 395, 396, 397, 398, 399, 400, 401, 402, 403, 404, 405, 406, 407, 408, 409, 410, 411, 412, 413, 414, 415, 416, 417, 418, 419, 420, 421, 422, 423, 424, 425, 426, 427, 428, 429, 430, 431, 432, 433, 434, 435, 436, 437, 438, 439, 440, 441, 442, 443, 10, 11, 444, 42, 445, 132, 446, 74, 75, 76, 50, 77, 447, 448, 449, 450, 451, 452, 453, 454, 455, 456, 457, 458, 459, 460, 461, 462, 463, 464, 465, 466, 467, 468, 469, 470, 471, 472, 473, 474, 475, 476, 477, 478, 479, 480, 481, 482, 483, 484, 485, 486, 487, 488, 489, 490, 491, 492, 493, 494, 495, 496, 497, 498, 499, 500, 501, 502, 503, 504, 505, 506, 507, 508, 509, 510, 511, 512, 513, 514, 515, 516, 517, 518, 519, 520, 521, 522, 523, 524, 525, 526, 527, 528, 529, 530, 531, 532, 533, 534, 535, 536, 537, 538, 539, 540, 541, 542, 543, 544, 545, 546, 547, 548, 549, 550, 551, 552, 553, 554, 555, 556, 557, 558, 559, 560, 561, 562, 563, 564, 565, 566, 567, 568, 569, 570, 571, 572, 573, 574, 575, 576, 577, 578, 579, 580, 67, 581, 582, 583, 584, 585, 586, 587, 588, 589, 590, 591, 592, 593, 594, 595, 596, 597, 598, 599, 600, 601, 602, 603, 604, 605, 606, 607, 608, 609, 610, 611, 612, 613, 614, 615, 616, 617, 618, 619, 620, 621, 622, 623, 624, 625, 626, 627, 628, 629, 630, 631, 632, 633, 634, 635, 636, 637, 638, 639, 640, 641, 642, 643, 644, 645, 646, 647, 648, 649, 650, 651, 652, 653, 654, 655, 656, 657, 658, 659, 660, 661, 662, 663, 664, 665, 666, 667, 668, 669, 670, 1262, 1263, 1264, 1265, 1266, 1274, 1275, 1276, 1277, 1278, 1279, 1280, 1281, 1282, 1283, 1284, 1289, 1290, 1291, 1292, 1293, 1294, 1295, 1296, 1285, 1286, 1287, 1288, 1297, 1298, 1301, 1302, 1345, 1346, 1347, 1348, 1349, 1350, 1351, 1352, 1353, 1354, 1355, 1356, 1357, 1358, 1359, 1360, 1299, 1300] (by decide +kernel) (by decide +kernel)
set_option maxRecDepth 20000 in
theorem gL_law_X10_again : GoodIn wsL_law (wsV RL 158 RX10 yX10_again wsX10_again) := goodIn_app (goodIn_of _ (by decide +kernel)) ggL_law_X10_again
set_option maxRecDepth 20000 in
theorem ggL_law_X12_again : GoodIn wsL_law wsX12_again := goodIn_r _ [1178, 105, 104, 1046, 976, 1157, 142, 143, 144, 103, 145, 146, 147, 148, 149, 150, 151, 152, 153, 154, 155, 156, 157, 158, 113, 114, 115, 137, 675, 676, 677, 678, 140, 679, 680, 681, 682, 116, 126, 119, 127, 135, 117, 683, 684, 685, 686, 203, 5, 204, 687, 688, 689, 690, 134, 691, 692, 693, 694, 118, 695, 696, 697, 698, 699, 700, 701, 702, 703, 121, 704, 705, 706, 707, 708, 709, 710, 123, 711, 712, 713, 714, 715, 716, 717, 718, 719, 720, 721, 722, 723, 724, 725, 726, 128, 125, 124, 122, 727, 728, 729, 730, 731, 732, 733, 734, 735, 736, 737, 738, 120, 133, 739, 740, 741, 742, 743, 744, 745, 746, 129, 747, 748, 749, 750, 751, 752, 753, 754, 755, 131, 756, 757, 758, 759, 136, 138, 760, 761, 762, 763, 764, 765, 766, 767, 768, 769, 770, 771, 772, 773, 774, 775, 776, 777, 778, 779, 141, 780, 781, 782, 783, 784, 785, 786, 787, 139, 788, 789, 790, 791, 792, 793, 794, 795, 796, 797, 202, 1267, 1268, 1269, 1270, 1271, 1272, 1273, 1303, 1304, 1305, 1306, 1307, 1308, 1309, 1310, 1311, 1312, 1313, 1314, 1315, 1316, 1317, 1318, 1319, 1320, 1321, 1322, 1323, 1324, 1325, 1326, 1327, 1328, 1329, 1330, 1331, 1332, 1333, 1334, 1335, 1336, 1337, 1338, 1339, 1340, 1341, 1342, 1343, 1344] (by decide +kernel) (by decide +kernel)
set_option maxRecDepth 20000 in
theorem gL_law_X12_again : GoodIn wsL_law (wsV RL 161 RX12 yX12_again wsX12_again) := goodIn_app (goodIn_of _ (by decide +kernel)) ggL_law_X12_again
set_option maxRecDepth 20000 in
theorem ggL_law_X10_tell : GoodIn wsL_law wsX10_tell := goodIn_r _ [1182, 20, 1118, 1183, 381, 382, 19, 383, 384, 72, 1184, 573, 574, 575, 576, 577, 578, 579, 580, 71, 73, 67, 68, 69, 70, 581, 582, 583, 584, 585, 94, 586, 587, 588, 589, 590, 591, 592, 50, 593, 594, 595, 596, 597, 1185, 599, 600, 601, 1262, 1263, 1264, 1265, 1266, 1285, 1286, 1287, 1288] (by decide +kernel) (by decide +kernel)
set_option maxRecDepth 20000 in
theorem gL_law_X10_tell : GoodIn wsL_law (wsV RL 162 RX10 yX10_tell wsX10_tell) := goodIn_app (goodIn_of _ (by decide +kernel)) ggL_law_X10_tell
set_option maxRecDepth 20000 in
theorem ggL_law_X12_tell : GoodIn wsL_law wsX12_tell := goodIn_r _ [1189, 1137, 109, 1267, 1268, 1269, 1270, 1271, 1272, 1273] (by decide +kernel) (by decide +kernel)
set_option maxRecDepth 20000 in
theorem gL_law_X12_tell : GoodIn wsL_law (wsV RL 166 RX12 yX12_tell wsX12_tell) := goodIn_app (goodIn_of _ (by decide +kernel)) ggL_law_X12_tell
set_option maxRecDepth 20000 in
theorem ggL_law_X10_check : GoodIn wsL_law wsX10_check := goodIn_r _ [1193, 16, 15, 1108, 1109, 20, 1118, 163, 164, 165, 14, 166, 28, 39, 167, 40, 44, 168, 169, 170, 171, 172, 173, 174, 175, 32, 36, 37, 176, 177, 178, 179, 180, 181, 182, 183, 184, 185, 186, 187, 188, 189, 31, 190, 191, 56, 192, 193, 194, 195, 196, 197, 78, 79, 80, 27, 81, 82, 83, 84, 85, 51, 86, 87, 88, 89, 49, 90, 91, 92, 93, 94, 95, 1094, 1095, 1096, 19, 1097, 384, 71, 73, 1194, 1195, 1196, 2, 1197, 1198, 209, 210, 211, 212, 213, 214, 215, 216, 217, 218, 219, 220, 221, 222, 223, 224, 225, 226, 227, 228, 229, 230, 231, 232, 233, 234, 235, 236, 237, 238, 239, 240, 241, 242, 243, 244, 245, 246, 247, 248, 249, 250, 251, 252, 253, 254, 255, 256, 257, 258, 259, 260, 261, 262, 263, 264, 265, 266, 267, 268, 269, 270, 271, 272, 273, 274, 275, 276, 35, 277, 60, 62, 278, 279, 280, 281, 282, 283, 284, 285, 286, 287, 288, 289, 290, 291, 292, 293, 294, 295, 296, 297, 298, 299, 300, 301, 302, 303, 304, 305, 306, 307, 308, 309, 310, 311, 312, 313, 314, 315, 316, 317, 318, 319, 320, 321, 322, 323, 324, 325, 326, 327, 328, 329, 330, 331, 332, 333, 334, 335, 336, 337, 338, 339, 68, 69, 70, 340, 341, 342, 343, 344, 345, 346, 347, 348, 349, 350, 351, 352, 353, 354, 355, 356, 357, 358, 359, 360, 43, 361, 362, 363, 364, 365, 366, 367, 368, 369, 370, 371, 372, 373, 374, 375, 376, 377, 378, 379, 380, 381, 382, 383, 72, 385, 386, 387, 388, 389, 390, 391, 392, 393, 394, 395, 396, 397, 398, 399, 400, 401, 402, 403, 404, 405, 406, 407, 408, 409, 410, 411, 412, 413, 414, 415, 416, 417, 418, 419, 420, 421, 422, 423, 424, 425, 426, 427, 428, 429, 430, 431, 432, 433, 434, 435, 436, 437, 438, 439, 440, 441, 442, 443, 10, 11, 444, 42, 445, 132, 446, 74, 75, 76, 50, 77, 447, 448, 449, 450, 451, 452, 453, 454, 455, 456, 457, 458, 459, 460, 461, 462, 463, 464, 465, 466, 467, 468, 469, 470, 471, 472, 473, 474, 475, 476, 477, 478, 479, 480, 481, 482, 483, 484, 485, 486, 487, 488, 489, 490, 491, 492, 493, 494, 495, 496, 497, 498, 499, 500, 501, 502, 503, 504, 505, 506, 507, 508, 509, 510, 511, 512, 513, 514, 515, 516, 517, 518, 519, 520, 521, 522, 523, 524, 525, 526, 527, 528, 529, 530, 531, 532, 533, 534, 535, 536, 537, 538, 539, 540, 541, 542, 543, 544, 545, 546, 547, 548, 549, 550, 551, 552, 553, 554, 555, 556, 557, 558, 559, 560, 561, 562, 563, 564, 565, 566, 567, 568, 569, 570, 571, 572, 573, 574, 575, 576, 577, 578, 579, 580, 67, 581, 582, 583, 584, 585, 586, 587, 588, 589, 590, 591, 592, 593, 594, 595, 596, 597, 598, 599, 600, 601, 602, 603, 604, 605, 606, 607, 608, 609, 610, 611, 612, 613, 614, 615, 616, 617, 618, 619, 620, 621, 622, 623, 624, 625, 626, 627, 628, 629, 630, 631, 632, 633, 634, 635, 636, 637, 638, 639, 640, 641, 642, 643, 644, 645, 646, 647, 648, 649, 650, 651, 652, 653, 654, 655, 656, 657, 658, 659, 660, 661, 662, 663, 664, 665, 666, 667, 668, 669, 670, 1262, 1263, 1264, 1265, 1266, 1274, 1275, 1276, 1277, 1278, 1279, 1280, 1281, 1282, 1283, 1284, 1289, 1290, 1291, 1292, 1293, 1294, 1295, 1296, 1285, 1286, 1287, 1288, 1301, 1302, 1297, 1298, 1345, 1346, 1347, 1348, 1349, 1350, 1351, 1352, 1353, 1354, 1355, 1356, 1357, 1358, 1359, 1360, 1299, 1300] (by decide +kernel) (by decide +kernel)
set_option maxRecDepth 20000 in
theorem gL_law_X10_check : GoodIn wsL_law (wsV RL 167 RX10 yX10_check wsX10_check) := goodIn_app (goodIn_of _ (by decide +kernel)) ggL_law_X10_check
set_option maxRecDepth 20000 in
theorem ggL_law_X12_check : GoodIn wsL_law wsX12_check := goodIn_r _ [1202, 105, 104, 1046, 1137, 109, 142, 143, 144, 103, 145, 146, 147, 148, 149, 150, 151, 152, 153, 154, 155, 156, 157, 158, 113, 114, 115, 137, 1203, 796, 5, 797, 202, 203, 204, 675, 676, 677, 678, 140, 679, 680, 681, 682, 116, 126, 119, 127, 135, 117, 683, 684, 685, 686, 687, 688, 689, 690, 134, 691, 692, 693, 694, 118, 695, 696, 697, 698, 699, 700, 701, 702, 703, 121, 704, 705, 706, 707, 708, 709, 710, 123, 711, 712, 713, 714, 715, 716, 717, 718, 719, 720, 721, 722, 723, 724, 725, 726, 128, 125, 124, 122, 727, 728, 729, 730, 731, 732, 733, 734, 735, 736, 737, 738, 120, 133, 739, 740, 741, 742, 743, 744, 745, 746, 129, 747, 748, 749, 750, 751, 752, 753, 754, 755, 131, 756, 757, 758, 759, 136, 138, 760, 761, 762, 763, 764, 765, 766, 767, 768, 769, 770, 771, 772, 773, 774, 775, 776, 777, 778, 779, 141, 780, 781, 782, 783, 784, 785, 786, 787, 139, 788, 789, 790, 791, 792, 793, 794, 795, 1267, 1268, 1269, 1270, 1271, 1272, 1273, 1303, 1304, 1305, 1306, 1307, 1308, 1309, 1310, 1311, 1312, 1313, 1314, 1315, 1316, 1317, 1318, 1319, 1320, 1321, 1322, 1323, 1324, 1325, 1326, 1327, 1328, 1329, 1330, 1331, 1332, 1333, 1334, 1335, 1336, 1337, 1338, 1339, 1340, 1341, 1342, 1343, 1344] (by decide +kernel) (by decide +kernel)
set_option maxRecDepth 20000 in
theorem gL_law_X12_check : GoodIn wsL_law (wsV RL 170 RX12 yX12_check wsX12_check) := goodIn_app (goodIn_of _ (by decide +kernel)) ggL_law_X12_check
set_option maxRecDepth 20000 in
theorem ggL_law_X10_strike : GoodIn wsL_law wsX10_strike := goodIn_r _ [1207, 20, 1118, 1262, 1263, 1264, 1265, 1266, 1285, 1286, 1287, 1288] (by decide +kernel) (by decide +kernel)
set_option maxRecDepth 20000 in
theorem gL_law_X10_strike : GoodIn wsL_law (wsV RL 171 RX10 yX10_strike wsX10_strike) := goodIn_app (goodIn_of _ (by decide +kernel)) ggL_law_X10_strike
set_option maxRecDepth 20000 in
theorem ggL_law_X12_strike : GoodIn wsL_law wsX12_strike := goodIn_r _ [1211, 1137, 1267, 1268, 1269, 1270, 1271, 1272, 1273] (by decide +kernel) (by decide +kernel)
set_option maxRecDepth 20000 in
theorem gL_law_X12_strike : GoodIn wsL_law (wsV RL 174 RX12 yX12_strike wsX12_strike) := goodIn_app (goodIn_of _ (by decide +kernel)) ggL_law_X12_strike
set_option maxRecDepth 20000 in
theorem ggL_law_X10_image : GoodIn wsL_law wsX10_image := goodIn_r _ [1215, 1216, 1217, 15, 1117, 1118, 1218, 1219, 1220, 2, 1221, 12, 13, 14, 21, 22, 23, 24, 10, 11, 25, 26, 27, 28, 29, 30, 31, 32, 33, 34, 35, 36, 37, 38, 18, 19, 39, 40, 41, 42, 43, 44, 45, 46, 47, 48, 49, 50, 51, 52, 53, 54, 55, 56, 57, 58, 59, 60, 61, 62, 63, 64, 65, 66, 67, 68, 69, 70, 71, 72, 73, 74, 75, 76, 77, 78, 79, 80, 81, 82, 83, 84, 85, 86, 87, 88, 89, 90, 91, 92, 93, 94, 95, 1222, 1223, 1224, 1225, 197, 196, 169, 170, 171, 172, 173, 174, 175, 176, 177, 178, 179, 180, 181, 182, 183, 184, 185, 186, 187, 188, 189, 190, 191, 192, 193, 194, 195, 1226, 1227, 1228, 1229, 1230, 595, 596, 597, 1231, 1232, 1233, 1234, 1235, 1027, 255, 256, 257, 1236, 436, 437, 438, 439, 440, 282, 441, 442, 443, 444, 445, 132, 446, 447, 448, 449, 450, 451, 452, 453, 454, 455, 456, 457, 284, 458, 459, 460, 461, 462, 463, 464, 465, 466, 467, 468, 469, 470, 1237, 1238, 1239, 1240, 1241, 1242, 637, 638, 639, 362, 640, 582, 583, 641, 642, 1243, 476, 477, 478, 1244, 1245, 1246, 1247, 384, 581, 1248, 577, 578, 579, 580, 584, 585, 586, 587, 588, 589, 590, 591, 592, 593, 594, 1249, 1262, 1263, 1264, 1265, 1266, 1274, 1275, 1276, 1277, 1278, 1279, 1280, 1281, 1282, 1283, 1284, 1285, 1286, 1287, 1288, 1289, 1290, 1291, 1292, 1293, 1294, 1295, 1296, 1297, 1298, 1299, 1300, 1301, 1302, 1345, 1346, 1347, 1348, 1349, 1350, 1351, 1352, 1353, 1354, 1355, 1356, 1357, 1358, 1359, 1360] (by decide +kernel) (by decide +kernel)
set_option maxRecDepth 20000 in
theorem gL_law_X10_image : GoodIn wsL_law (wsV RL 175 RX10 yX10_image wsX10_image) := goodIn_app (goodIn_of _ (by decide +kernel)) ggL_law_X10_image
set_option maxRecDepth 20000 in
theorem ggL_law_X12_image : GoodIn wsL_law wsX12_image := goodIn_r _ [1253, 106, 104, 1046, 107, 976, 108, 1157, 202, 203, 5, 204, 1267, 1268, 1269, 1270, 1271, 1272, 1273, 1303, 1304, 1305, 1306, 1307, 1308, 1309, 1310, 1311, 1312, 1313, 1314, 1315, 1316, 1317, 1318, 1319, 1320, 1321, 1322, 1323, 1324, 1325, 1326, 1327, 1328, 1329, 1330, 1331, 1332, 1333, 1334, 1335, 1336, 1337, 1338, 1339, 1340, 1341, 1342, 1343, 1344] (by decide +kernel) (by decide +kernel)
set_option maxRecDepth 20000 in
theorem gL_law_X12_image : GoodIn wsL_law (wsV RL 178 RX12 yX12_image wsX12_image) := goodIn_app (goodIn_of _ (by decide +kernel)) ggL_law_X12_image
set_option maxRecDepth 20000 in
theorem ggL_law_X10_back : GoodIn wsL_law wsX10_back := goodIn_r _ [1257, 1216, 1217, 15, 1117, 1118, 1222, 1223, 1224, 14, 1225, 28, 32, 36, 197, 196, 37, 39, 40, 44, 169, 170, 171, 172, 173, 174, 175, 176, 177, 178, 179, 180, 181, 182, 183, 184, 185, 186, 187, 188, 189, 31, 190, 191, 56, 192, 193, 194, 195, 1226, 1227, 1228, 27, 1229, 82, 49, 90, 85, 83, 84, 91, 51, 1230, 595, 596, 597, 1231, 1232, 1233, 1234, 1235, 1027, 255, 256, 257, 1236, 436, 437, 438, 439, 440, 282, 441, 442, 443, 10, 11, 444, 42, 43, 445, 132, 446, 74, 75, 76, 50, 77, 447, 448, 449, 450, 451, 452, 453, 454, 455, 456, 457, 284, 458, 459, 460, 461, 462, 463, 464, 465, 466, 467, 468, 469, 94, 470, 1237, 1238, 1239, 1240, 1241, 1242, 637, 638, 639, 362, 640, 582, 69, 583, 641, 68, 70, 642, 1243, 476, 477, 478, 1244, 1245, 1246, 19, 1247, 384, 72, 581, 71, 73, 1248, 577, 578, 579, 580, 67, 584, 585, 586, 587, 588, 589, 590, 591, 592, 593, 594, 1249, 1262, 1263, 1264, 1265, 1266, 1274, 1275, 1276, 1277, 1278, 1279, 1280, 1281, 1282, 1283, 1284, 1285, 1286, 1287, 1288, 1299, 1300, 1297, 1298, 1345, 1346, 1347, 1348, 1349, 1350, 1351, 1352, 1353, 1354, 1355, 1356, 1357, 1358, 1359, 1360, 1289, 1290, 1291, 1292, 1293, 1294, 1295, 1296, 1301, 1302] (by decide +kernel) (by decide +kernel)
set_option maxRecDepth 20000 in
theorem gL_law_X10_back : GoodIn wsL_law (wsV RL 179 RX10 yX10_back wsX10_back) := goodIn_app (goodIn_of _ (by decide +kernel)) ggL_law_X10_back
set_option maxRecDepth 20000 in
theorem ggL_law_X12_back : GoodIn wsL_law wsX12_back := goodIn_r _ [1261, 107, 104, 106, 108, 977, 202, 203, 5, 204, 142, 143, 144, 103, 145, 146, 147, 148, 149, 150, 151, 152, 153, 154, 155, 156, 157, 158, 113, 114, 115, 137, 675, 676, 677, 678, 140, 679, 680, 681, 682, 116, 126, 119, 127, 135, 117, 683, 684, 685, 686, 687, 688, 689, 690, 134, 691, 692, 693, 694, 118, 695, 696, 697, 698, 699, 700, 701, 702, 703, 121, 704, 705, 706, 707, 708, 709, 710, 123, 711, 712, 713, 714, 715, 716, 717, 718, 719, 720, 721, 722, 723, 724, 725, 726, 128, 125, 124, 122, 727, 728, 729, 730, 731, 732, 733, 734, 735, 736, 737, 738, 120, 133, 739, 740, 741, 742, 743, 744, 745, 746, 129, 747, 748, 749, 750, 751, 752, 753, 754, 755, 131, 756, 757, 758, 759, 136, 138, 760, 761, 762, 763, 764, 765, 766, 767, 768, 769, 770, 771, 772, 773, 774, 775, 776, 777, 778, 779, 141, 780, 781, 782, 783, 784, 785, 786, 787, 139, 788, 789, 790, 791, 792, 793, 794, 795, 796, 797, 1267, 1268, 1269, 1270, 1271, 1272, 1273, 1303, 1304, 1305, 1306, 1307, 1308, 1309, 1310, 1311, 1312, 1313, 1314, 1315, 1316, 1317, 1318, 1319, 1320, 1321, 1322, 1323, 1324, 1325, 1326, 1327, 1328, 1329, 1330, 1331, 1332, 1333, 1334, 1335, 1336, 1337, 1338, 1339, 1340, 1341, 1342, 1343, 1344] (by decide +kernel) (by decide +kernel)
set_option maxRecDepth 20000 in
theorem gL_law_X12_back : GoodIn wsL_law (wsV RL 182 RX12 yX12_back wsX12_back) := goodIn_app (goodIn_of _ (by decide +kernel)) ggL_law_X12_back
theorem dL_law_0 : decode cL_law 0 = .ok (.new 7, 3) := by decide +kernel
theorem dL_law_3 : decode cL_law 3 = .ok (.dup, 1) := by decide +kernel
theorem dL_law_4 : decode cL_law 4 = .ok (.invokespecial 9, 3) := by decide +kernel
theorem dL_law_7 : decode cL_law 7 = .ok (.astore_n 1, 1) := by decide +kernel
theorem dL_law_8 : decode cL_law 8 = .ok (.new 10, 3) := by decide +kernel
theorem dL_law_11 : decode cL_law 11 = .ok (.dup, 1) := by decide +kernel
theorem dL_law_12 : decode cL_law 12 = .ok (.invokespecial 12, 3) := by decide +kernel
theorem dL_law_15 : decode cL_law 15 = .ok (.astore_n 2, 1) := by decide +kernel
theorem dL_law_16 : decode cL_law 16 = .ok (.iconst 0, 1) := by decide +kernel
theorem dL_law_17 : decode cL_law 17 = .ok (.istore_n 3, 1) := by decide +kernel
theorem dL_law_18 : decode cL_law 18 = .ok (.iload_n 3, 1) := by decide +kernel
theorem dL_law_19 : decode cL_law 19 = .ok (.aload_n 0, 1) := by decide +kernel
theorem dL_law_20 : decode cL_law 20 = .ok (.arraylength, 1) := by decide +kernel
theorem dL_law_21 : decode cL_law 21 = .ok (.bipush 7, 2) := by decide +kernel
theorem dL_law_23 : decode cL_law 23 = .ok (.isub, 1) := by decide +kernel
theorem dL_law_24 : decode cL_law 24 = .ok (.if_icmp .gt 1249, 3) := by decide +kernel
theorem dL_law_27 : decode cL_law 27 = .ok (.aload_n 0, 1) := by decide +kernel
theorem dL_law_28 : decode cL_law 28 = .ok (.iload_n 3, 1) := by decide +kernel
theorem dL_law_29 : decode cL_law 29 = .ok (.iaload, 1) := by decide +kernel
theorem dL_law_30 : decode cL_law 30 = .ok (.bipush 63, 2) := by decide +kernel
theorem dL_law_32 : decode cL_law 32 = .ok (.iand, 1) := by decide +kernel
theorem dL_law_33 : decode cL_law 33 = .ok (.tableswitch 1234 0 40 #[179, 202, 225, 248, 271, 294, 327, 350, 373, 386, 409, 432, 465, 518, 541, 564, 587, 610, 643, 666, 679, 702, 715, 728, 751, 764, 797, 830, 853, 886, 919, 952, 975, 998, 1031, 1074, 1087, 1162, 1175, 1188, 1211], 179) := by decide +kernel
theorem dL_law_212 : decode cL_law 212 = .ok (.aload_n 1, 1) := by decide +kernel
theorem dL_law_213 : decode cL_law 213 = .ok (.aload_n 0, 1) := by decide +kernel
theorem dL_law_214 : decode cL_law 214 = .ok (.iload_n 3, 1) := by decide +kernel
theorem dL_law_215 : decode cL_law 215 = .ok (.iconst 1, 1) := by decide +kernel
theorem dL_law_216 : decode cL_law 216 = .ok (.iadd, 1) := by decide +kernel
theorem dL_law_217 : decode cL_law 217 = .ok (.iaload, 1) := by decide +kernel
theorem dL_law_218 : decode cL_law 218 = .ok (.invokevirtual 13, 3) := by decide +kernel
theorem dL_law_221 : decode cL_law 221 = .ok (.aload_n 2, 1) := by decide +kernel
theorem dL_law_222 : decode cL_law 222 = .ok (.aload_n 0, 1) := by decide +kernel
theorem dL_law_223 : decode cL_law 223 = .ok (.iload_n 3, 1) := by decide +kernel
theorem dL_law_224 : decode cL_law 224 = .ok (.iconst 1, 1) := by decide +kernel
theorem dL_law_225 : decode cL_law 225 = .ok (.iadd, 1) := by decide +kernel
theorem dL_law_226 : decode cL_law 226 = .ok (.iaload, 1) := by decide +kernel
theorem dL_law_227 : decode cL_law 227 = .ok (.invokevirtual 17, 3) := by decide +kernel
theorem dL_law_230 : decode cL_law 230 = .ok (.if_icmp .eq 1037, 3) := by decide +kernel
theorem dL_law_233 : decode cL_law 233 = .ok (.iconst 0, 1) := by decide +kernel
theorem dL_law_234 : decode cL_law 234 = .ok (.ireturn, 1) := by decide +kernel
theorem dL_law_235 : decode cL_law 235 = .ok (.aload_n 1, 1) := by decide +kernel
theorem dL_law_236 : decode cL_law 236 = .ok (.aload_n 0, 1) := by decide +kernel
theorem dL_law_237 : decode cL_law 237 = .ok (.iload_n 3, 1) := by decide +kernel
theorem dL_law_238 : decode cL_law 238 = .ok (.iconst 1, 1) := by decide +kernel
theorem dL_law_239 : decode cL_law 239 = .ok (.iadd, 1) := by decide +kernel
theorem dL_law_240 : decode cL_law 240 = .ok (.iaload, 1) := by decide +kernel
theorem dL_law_241 : decode cL_law 241 = .ok (.invokevirtual 18, 3) := by decide +kernel
theorem dL_law_244 : decode cL_law 244 = .ok (.aload_n 2, 1) := by decide +kernel
theorem dL_law_245 : decode cL_law 245 = .ok (.aload_n 0, 1) := by decide +kernel
theorem dL_law_246 : decode cL_law 246 = .ok (.iload_n 3, 1) := by decide +kernel
theorem dL_law_247 : decode cL_law 247 = .ok (.iconst 1, 1) := by decide +kernel
theorem dL_law_248 : decode cL_law 248 = .ok (.iadd, 1) := by decide +kernel
theorem dL_law_249 : decode cL_law 249 = .ok (.iaload, 1) := by decide +kernel
theorem dL_law_250 : decode cL_law 250 = .ok (.invokevirtual 21, 3) := by decide +kernel
theorem dL_law_253 : decode cL_law 253 = .ok (.if_icmp .eq 1014, 3) := by decide +kernel
theorem dL_law_256 : decode cL_law 256 = .ok (.iconst 0, 1) := by decide +kernel
theorem dL_law_257 : decode cL_law 257 = .ok (.ireturn, 1) := by decide +kernel
theorem dL_law_258 : decode cL_law 258 = .ok (.aload_n 1, 1) := by decide +kernel
theorem dL_law_259 : decode cL_law 259 = .ok (.aload_n 0, 1) := by decide +kernel
theorem dL_law_260 : decode cL_law 260 = .ok (.iload_n 3, 1) := by decide +kernel
theorem dL_law_261 : decode cL_law 261 = .ok (.iconst 1, 1) := by decide +kernel
theorem dL_law_262 : decode cL_law 262 = .ok (.iadd, 1) := by decide +kernel
theorem dL_law_263 : decode cL_law 263 = .ok (.iaload, 1) := by decide +kernel
theorem dL_law_264 : decode cL_law 264 = .ok (.invokevirtual 22, 3) := by decide +kernel
theorem dL_law_267 : decode cL_law 267 = .ok (.aload_n 2, 1) := by decide +kernel
theorem dL_law_268 : decode cL_law 268 = .ok (.aload_n 0, 1) := by decide +kernel
theorem dL_law_269 : decode cL_law 269 = .ok (.iload_n 3, 1) := by decide +kernel
theorem dL_law_270 : decode cL_law 270 = .ok (.iconst 1, 1) := by decide +kernel
theorem dL_law_271 : decode cL_law 271 = .ok (.iadd, 1) := by decide +kernel
theorem dL_law_272 : decode cL_law 272 = .ok (.iaload, 1) := by decide +kernel
theorem dL_law_273 : decode cL_law 273 = .ok (.invokevirtual 25, 3) := by decide +kernel
theorem dL_law_276 : decode cL_law 276 = .ok (.if_icmp .eq 991, 3) := by decide +kernel
theorem dL_law_279 : decode cL_law 279 = .ok (.iconst 0, 1) := by decide +kernel
theorem dL_law_280 : decode cL_law 280 = .ok (.ireturn, 1) := by decide +kernel
theorem dL_law_281 : decode cL_law 281 = .ok (.aload_n 1, 1) := by decide +kernel
theorem dL_law_282 : decode cL_law 282 = .ok (.aload_n 0, 1) := by decide +kernel
theorem dL_law_283 : decode cL_law 283 = .ok (.iload_n 3, 1) := by decide +kernel
theorem dL_law_284 : decode cL_law 284 = .ok (.iconst 1, 1) := by decide +kernel
theorem dL_law_285 : decode cL_law 285 = .ok (.iadd, 1) := by decide +kernel
theorem dL_law_286 : decode cL_law 286 = .ok (.iaload, 1) := by decide +kernel
theorem dL_law_287 : decode cL_law 287 = .ok (.invokevirtual 26, 3) := by decide +kernel
theorem dL_law_290 : decode cL_law 290 = .ok (.aload_n 2, 1) := by decide +kernel
theorem dL_law_291 : decode cL_law 291 = .ok (.aload_n 0, 1) := by decide +kernel
theorem dL_law_292 : decode cL_law 292 = .ok (.iload_n 3, 1) := by decide +kernel
theorem dL_law_293 : decode cL_law 293 = .ok (.iconst 1, 1) := by decide +kernel
theorem dL_law_294 : decode cL_law 294 = .ok (.iadd, 1) := by decide +kernel
theorem dL_law_295 : decode cL_law 295 = .ok (.iaload, 1) := by decide +kernel
theorem dL_law_296 : decode cL_law 296 = .ok (.invokevirtual 29, 3) := by decide +kernel
theorem dL_law_299 : decode cL_law 299 = .ok (.if_icmp .eq 968, 3) := by decide +kernel
theorem dL_law_302 : decode cL_law 302 = .ok (.iconst 0, 1) := by decide +kernel
theorem dL_law_303 : decode cL_law 303 = .ok (.ireturn, 1) := by decide +kernel
theorem dL_law_304 : decode cL_law 304 = .ok (.aload_n 1, 1) := by decide +kernel
theorem dL_law_305 : decode cL_law 305 = .ok (.aload_n 0, 1) := by decide +kernel
theorem dL_law_306 : decode cL_law 306 = .ok (.iload_n 3, 1) := by decide +kernel
theorem dL_law_307 : decode cL_law 307 = .ok (.iconst 1, 1) := by decide +kernel
theorem dL_law_308 : decode cL_law 308 = .ok (.iadd, 1) := by decide +kernel
theorem dL_law_309 : decode cL_law 309 = .ok (.iaload, 1) := by decide +kernel
theorem dL_law_310 : decode cL_law 310 = .ok (.invokevirtual 30, 3) := by decide +kernel
theorem dL_law_313 : decode cL_law 313 = .ok (.aload_n 2, 1) := by decide +kernel
theorem dL_law_314 : decode cL_law 314 = .ok (.aload_n 0, 1) := by decide +kernel
theorem dL_law_315 : decode cL_law 315 = .ok (.iload_n 3, 1) := by decide +kernel
theorem dL_law_316 : decode cL_law 316 = .ok (.iconst 1, 1) := by decide +kernel
theorem dL_law_317 : decode cL_law 317 = .ok (.iadd, 1) := by decide +kernel
theorem dL_law_318 : decode cL_law 318 = .ok (.iaload, 1) := by decide +kernel
theorem dL_law_319 : decode cL_law 319 = .ok (.invokevirtual 33, 3) := by decide +kernel
theorem dL_law_322 : decode cL_law 322 = .ok (.if_icmp .eq 945, 3) := by decide +kernel
theorem dL_law_325 : decode cL_law 325 = .ok (.iconst 0, 1) := by decide +kernel
theorem dL_law_326 : decode cL_law 326 = .ok (.ireturn, 1) := by decide +kernel
theorem dL_law_327 : decode cL_law 327 = .ok (.aload_n 1, 1) := by decide +kernel
theorem dL_law_328 : decode cL_law 328 = .ok (.aload_n 0, 1) := by decide +kernel
theorem dL_law_329 : decode cL_law 329 = .ok (.iload_n 3, 1) := by decide +kernel
theorem dL_law_330 : decode cL_law 330 = .ok (.iconst 1, 1) := by decide +kernel
theorem dL_law_331 : decode cL_law 331 = .ok (.iadd, 1) := by decide +kernel
theorem dL_law_332 : decode cL_law 332 = .ok (.iaload, 1) := by decide +kernel
theorem dL_law_333 : decode cL_law 333 = .ok (.aload_n 0, 1) := by decide +kernel
theorem dL_law_334 : decode cL_law 334 = .ok (.iload_n 3, 1) := by decide +kernel
theorem dL_law_335 : decode cL_law 335 = .ok (.iconst 2, 1) := by decide +kernel
theorem dL_law_336 : decode cL_law 336 = .ok (.iadd, 1) := by decide +kernel
theorem dL_law_337 : decode cL_law 337 = .ok (.iaload, 1) := by decide +kernel
theorem dL_law_338 : decode cL_law 338 = .ok (.invokevirtual 34, 3) := by decide +kernel
theorem dL_law_341 : decode cL_law 341 = .ok (.aload_n 2, 1) := by decide +kernel
theorem dL_law_342 : decode cL_law 342 = .ok (.aload_n 0, 1) := by decide +kernel
theorem dL_law_343 : decode cL_law 343 = .ok (.iload_n 3, 1) := by decide +kernel
theorem dL_law_344 : decode cL_law 344 = .ok (.iconst 1, 1) := by decide +kernel
theorem dL_law_345 : decode cL_law 345 = .ok (.iadd, 1) := by decide +kernel
theorem dL_law_346 : decode cL_law 346 = .ok (.iaload, 1) := by decide +kernel
theorem dL_law_347 : decode cL_law 347 = .ok (.aload_n 0, 1) := by decide +kernel
theorem dL_law_348 : decode cL_law 348 = .ok (.iload_n 3, 1) := by decide +kernel
theorem dL_law_349 : decode cL_law 349 = .ok (.iconst 2, 1) := by decide +kernel
theorem dL_law_350 : decode cL_law 350 = .ok (.iadd, 1) := by decide +kernel
theorem dL_law_351 : decode cL_law 351 = .ok (.iaload, 1) := by decide +kernel
theorem dL_law_352 : decode cL_law 352 = .ok (.invokevirtual 38, 3) := by decide +kernel
theorem dL_law_355 : decode cL_law 355 = .ok (.if_icmp .eq 912, 3) := by decide +kernel
theorem dL_law_358 : decode cL_law 358 = .ok (.iconst 0, 1) := by decide +kernel
theorem dL_law_359 : decode cL_law 359 = .ok (.ireturn, 1) := by decide +kernel
theorem dL_law_360 : decode cL_law 360 = .ok (.aload_n 1, 1) := by decide +kernel
theorem dL_law_361 : decode cL_law 361 = .ok (.aload_n 0, 1) := by decide +kernel
theorem dL_law_362 : decode cL_law 362 = .ok (.iload_n 3, 1) := by decide +kernel
theorem dL_law_363 : decode cL_law 363 = .ok (.iconst 1, 1) := by decide +kernel
theorem dL_law_364 : decode cL_law 364 = .ok (.iadd, 1) := by decide +kernel
theorem dL_law_365 : decode cL_law 365 = .ok (.iaload, 1) := by decide +kernel
theorem dL_law_366 : decode cL_law 366 = .ok (.invokevirtual 39, 3) := by decide +kernel
theorem dL_law_369 : decode cL_law 369 = .ok (.aload_n 2, 1) := by decide +kernel
theorem dL_law_370 : decode cL_law 370 = .ok (.aload_n 0, 1) := by decide +kernel
theorem dL_law_371 : decode cL_law 371 = .ok (.iload_n 3, 1) := by decide +kernel
theorem dL_law_372 : decode cL_law 372 = .ok (.iconst 1, 1) := by decide +kernel
theorem dL_law_373 : decode cL_law 373 = .ok (.iadd, 1) := by decide +kernel
theorem dL_law_374 : decode cL_law 374 = .ok (.iaload, 1) := by decide +kernel
theorem dL_law_375 : decode cL_law 375 = .ok (.invokevirtual 42, 3) := by decide +kernel
theorem dL_law_378 : decode cL_law 378 = .ok (.if_icmp .eq 889, 3) := by decide +kernel
theorem dL_law_381 : decode cL_law 381 = .ok (.iconst 0, 1) := by decide +kernel
theorem dL_law_382 : decode cL_law 382 = .ok (.ireturn, 1) := by decide +kernel
theorem dL_law_383 : decode cL_law 383 = .ok (.aload_n 1, 1) := by decide +kernel
theorem dL_law_384 : decode cL_law 384 = .ok (.aload_n 0, 1) := by decide +kernel
theorem dL_law_385 : decode cL_law 385 = .ok (.iload_n 3, 1) := by decide +kernel
theorem dL_law_386 : decode cL_law 386 = .ok (.iconst 1, 1) := by decide +kernel
theorem dL_law_387 : decode cL_law 387 = .ok (.iadd, 1) := by decide +kernel
theorem dL_law_388 : decode cL_law 388 = .ok (.iaload, 1) := by decide +kernel
theorem dL_law_389 : decode cL_law 389 = .ok (.invokevirtual 43, 3) := by decide +kernel
theorem dL_law_392 : decode cL_law 392 = .ok (.aload_n 2, 1) := by decide +kernel
theorem dL_law_393 : decode cL_law 393 = .ok (.aload_n 0, 1) := by decide +kernel
theorem dL_law_394 : decode cL_law 394 = .ok (.iload_n 3, 1) := by decide +kernel
theorem dL_law_395 : decode cL_law 395 = .ok (.iconst 1, 1) := by decide +kernel
theorem dL_law_396 : decode cL_law 396 = .ok (.iadd, 1) := by decide +kernel
theorem dL_law_397 : decode cL_law 397 = .ok (.iaload, 1) := by decide +kernel
theorem dL_law_398 : decode cL_law 398 = .ok (.invokevirtual 46, 3) := by decide +kernel
theorem dL_law_401 : decode cL_law 401 = .ok (.if_icmp .eq 866, 3) := by decide +kernel
theorem dL_law_404 : decode cL_law 404 = .ok (.iconst 0, 1) := by decide +kernel
theorem dL_law_405 : decode cL_law 405 = .ok (.ireturn, 1) := by decide +kernel
theorem dL_law_406 : decode cL_law 406 = .ok (.aload_n 1, 1) := by decide +kernel
theorem dL_law_407 : decode cL_law 407 = .ok (.invokevirtual 47, 3) := by decide +kernel
theorem dL_law_410 : decode cL_law 410 = .ok (.aload_n 2, 1) := by decide +kernel
theorem dL_law_411 : decode cL_law 411 = .ok (.invokevirtual 51, 3) := by decide +kernel
theorem dL_law_414 : decode cL_law 414 = .ok (.if_icmp .eq 853, 3) := by decide +kernel
theorem dL_law_417 : decode cL_law 417 = .ok (.iconst 0, 1) := by decide +kernel
theorem dL_law_418 : decode cL_law 418 = .ok (.ireturn, 1) := by decide +kernel
theorem dL_law_419 : decode cL_law 419 = .ok (.aload_n 1, 1) := by decide +kernel
theorem dL_law_420 : decode cL_law 420 = .ok (.aload_n 0, 1) := by decide +kernel
theorem dL_law_421 : decode cL_law 421 = .ok (.iload_n 3, 1) := by decide +kernel
theorem dL_law_422 : decode cL_law 422 = .ok (.iconst 1, 1) := by decide +kernel
theorem dL_law_423 : decode cL_law 423 = .ok (.iadd, 1) := by decide +kernel
theorem dL_law_424 : decode cL_law 424 = .ok (.iaload, 1) := by decide +kernel
theorem dL_law_425 : decode cL_law 425 = .ok (.invokevirtual 52, 3) := by decide +kernel
theorem dL_law_428 : decode cL_law 428 = .ok (.aload_n 2, 1) := by decide +kernel
theorem dL_law_429 : decode cL_law 429 = .ok (.aload_n 0, 1) := by decide +kernel
theorem dL_law_430 : decode cL_law 430 = .ok (.iload_n 3, 1) := by decide +kernel
theorem dL_law_431 : decode cL_law 431 = .ok (.iconst 1, 1) := by decide +kernel
theorem dL_law_432 : decode cL_law 432 = .ok (.iadd, 1) := by decide +kernel
theorem dL_law_433 : decode cL_law 433 = .ok (.iaload, 1) := by decide +kernel
theorem dL_law_434 : decode cL_law 434 = .ok (.invokevirtual 55, 3) := by decide +kernel
theorem dL_law_437 : decode cL_law 437 = .ok (.if_icmp .eq 830, 3) := by decide +kernel
theorem dL_law_440 : decode cL_law 440 = .ok (.iconst 0, 1) := by decide +kernel
theorem dL_law_441 : decode cL_law 441 = .ok (.ireturn, 1) := by decide +kernel
theorem dL_law_442 : decode cL_law 442 = .ok (.aload_n 1, 1) := by decide +kernel
theorem dL_law_443 : decode cL_law 443 = .ok (.aload_n 0, 1) := by decide +kernel
theorem dL_law_444 : decode cL_law 444 = .ok (.iload_n 3, 1) := by decide +kernel
theorem dL_law_445 : decode cL_law 445 = .ok (.iconst 1, 1) := by decide +kernel
theorem dL_law_446 : decode cL_law 446 = .ok (.iadd, 1) := by decide +kernel
theorem dL_law_447 : decode cL_law 447 = .ok (.iaload, 1) := by decide +kernel
theorem dL_law_448 : decode cL_law 448 = .ok (.invokevirtual 56, 3) := by decide +kernel
theorem dL_law_451 : decode cL_law 451 = .ok (.aload_n 2, 1) := by decide +kernel
theorem dL_law_452 : decode cL_law 452 = .ok (.aload_n 0, 1) := by decide +kernel
theorem dL_law_453 : decode cL_law 453 = .ok (.iload_n 3, 1) := by decide +kernel
theorem dL_law_454 : decode cL_law 454 = .ok (.iconst 1, 1) := by decide +kernel
theorem dL_law_455 : decode cL_law 455 = .ok (.iadd, 1) := by decide +kernel
theorem dL_law_456 : decode cL_law 456 = .ok (.iaload, 1) := by decide +kernel
theorem dL_law_457 : decode cL_law 457 = .ok (.invokevirtual 59, 3) := by decide +kernel
theorem dL_law_460 : decode cL_law 460 = .ok (.if_icmp .eq 807, 3) := by decide +kernel
theorem dL_law_463 : decode cL_law 463 = .ok (.iconst 0, 1) := by decide +kernel
theorem dL_law_464 : decode cL_law 464 = .ok (.ireturn, 1) := by decide +kernel
theorem dL_law_465 : decode cL_law 465 = .ok (.aload_n 1, 1) := by decide +kernel
theorem dL_law_466 : decode cL_law 466 = .ok (.aload_n 0, 1) := by decide +kernel
theorem dL_law_467 : decode cL_law 467 = .ok (.iload_n 3, 1) := by decide +kernel
theorem dL_law_468 : decode cL_law 468 = .ok (.iconst 1, 1) := by decide +kernel
theorem dL_law_469 : decode cL_law 469 = .ok (.iadd, 1) := by decide +kernel
theorem dL_law_470 : decode cL_law 470 = .ok (.iaload, 1) := by decide +kernel
theorem dL_law_471 : decode cL_law 471 = .ok (.aload_n 0, 1) := by decide +kernel
theorem dL_law_472 : decode cL_law 472 = .ok (.iload_n 3, 1) := by decide +kernel
theorem dL_law_473 : decode cL_law 473 = .ok (.iconst 2, 1) := by decide +kernel
theorem dL_law_474 : decode cL_law 474 = .ok (.iadd, 1) := by decide +kernel
theorem dL_law_475 : decode cL_law 475 = .ok (.iaload, 1) := by decide +kernel
theorem dL_law_476 : decode cL_law 476 = .ok (.invokevirtual 60, 3) := by decide +kernel
theorem dL_law_479 : decode cL_law 479 = .ok (.aload_n 2, 1) := by decide +kernel
theorem dL_law_480 : decode cL_law 480 = .ok (.aload_n 0, 1) := by decide +kernel
theorem dL_law_481 : decode cL_law 481 = .ok (.iload_n 3, 1) := by decide +kernel
theorem dL_law_482 : decode cL_law 482 = .ok (.iconst 1, 1) := by decide +kernel
theorem dL_law_483 : decode cL_law 483 = .ok (.iadd, 1) := by decide +kernel
theorem dL_law_484 : decode cL_law 484 = .ok (.iaload, 1) := by decide +kernel
theorem dL_law_485 : decode cL_law 485 = .ok (.aload_n 0, 1) := by decide +kernel
theorem dL_law_486 : decode cL_law 486 = .ok (.iload_n 3, 1) := by decide +kernel
theorem dL_law_487 : decode cL_law 487 = .ok (.iconst 2, 1) := by decide +kernel
theorem dL_law_488 : decode cL_law 488 = .ok (.iadd, 1) := by decide +kernel
theorem dL_law_489 : decode cL_law 489 = .ok (.iaload, 1) := by decide +kernel
theorem dL_law_490 : decode cL_law 490 = .ok (.invokevirtual 63, 3) := by decide +kernel
theorem dL_law_493 : decode cL_law 493 = .ok (.if_icmp .eq 774, 3) := by decide +kernel
theorem dL_law_496 : decode cL_law 496 = .ok (.iconst 0, 1) := by decide +kernel
theorem dL_law_497 : decode cL_law 497 = .ok (.ireturn, 1) := by decide +kernel
theorem dL_law_498 : decode cL_law 498 = .ok (.aload_n 1, 1) := by decide +kernel
theorem dL_law_499 : decode cL_law 499 = .ok (.aload_n 0, 1) := by decide +kernel
theorem dL_law_500 : decode cL_law 500 = .ok (.iload_n 3, 1) := by decide +kernel
theorem dL_law_501 : decode cL_law 501 = .ok (.iconst 1, 1) := by decide +kernel
theorem dL_law_502 : decode cL_law 502 = .ok (.iadd, 1) := by decide +kernel
theorem dL_law_503 : decode cL_law 503 = .ok (.iaload, 1) := by decide +kernel
theorem dL_law_504 : decode cL_law 504 = .ok (.aload_n 0, 1) := by decide +kernel
theorem dL_law_505 : decode cL_law 505 = .ok (.iload_n 3, 1) := by decide +kernel
theorem dL_law_506 : decode cL_law 506 = .ok (.iconst 2, 1) := by decide +kernel
theorem dL_law_507 : decode cL_law 507 = .ok (.iadd, 1) := by decide +kernel
theorem dL_law_508 : decode cL_law 508 = .ok (.iaload, 1) := by decide +kernel
theorem dL_law_509 : decode cL_law 509 = .ok (.aload_n 0, 1) := by decide +kernel
theorem dL_law_510 : decode cL_law 510 = .ok (.iload_n 3, 1) := by decide +kernel
theorem dL_law_511 : decode cL_law 511 = .ok (.iconst 3, 1) := by decide +kernel
theorem dL_law_512 : decode cL_law 512 = .ok (.iadd, 1) := by decide +kernel
theorem dL_law_513 : decode cL_law 513 = .ok (.iaload, 1) := by decide +kernel
theorem dL_law_514 : decode cL_law 514 = .ok (.aload_n 0, 1) := by decide +kernel
theorem dL_law_515 : decode cL_law 515 = .ok (.iload_n 3, 1) := by decide +kernel
theorem dL_law_516 : decode cL_law 516 = .ok (.iconst 4, 1) := by decide +kernel
theorem dL_law_517 : decode cL_law 517 = .ok (.iadd, 1) := by decide +kernel
theorem dL_law_518 : decode cL_law 518 = .ok (.iaload, 1) := by decide +kernel
theorem dL_law_519 : decode cL_law 519 = .ok (.invokevirtual 64, 3) := by decide +kernel
theorem dL_law_522 : decode cL_law 522 = .ok (.aload_n 2, 1) := by decide +kernel
theorem dL_law_523 : decode cL_law 523 = .ok (.aload_n 0, 1) := by decide +kernel
theorem dL_law_524 : decode cL_law 524 = .ok (.iload_n 3, 1) := by decide +kernel
theorem dL_law_525 : decode cL_law 525 = .ok (.iconst 1, 1) := by decide +kernel
theorem dL_law_526 : decode cL_law 526 = .ok (.iadd, 1) := by decide +kernel
theorem dL_law_527 : decode cL_law 527 = .ok (.iaload, 1) := by decide +kernel
theorem dL_law_528 : decode cL_law 528 = .ok (.aload_n 0, 1) := by decide +kernel
theorem dL_law_529 : decode cL_law 529 = .ok (.iload_n 3, 1) := by decide +kernel
theorem dL_law_530 : decode cL_law 530 = .ok (.iconst 2, 1) := by decide +kernel
theorem dL_law_531 : decode cL_law 531 = .ok (.iadd, 1) := by decide +kernel
theorem dL_law_532 : decode cL_law 532 = .ok (.iaload, 1) := by decide +kernel
theorem dL_law_533 : decode cL_law 533 = .ok (.aload_n 0, 1) := by decide +kernel
theorem dL_law_534 : decode cL_law 534 = .ok (.iload_n 3, 1) := by decide +kernel
theorem dL_law_535 : decode cL_law 535 = .ok (.iconst 3, 1) := by decide +kernel
theorem dL_law_536 : decode cL_law 536 = .ok (.iadd, 1) := by decide +kernel
theorem dL_law_537 : decode cL_law 537 = .ok (.iaload, 1) := by decide +kernel
theorem dL_law_538 : decode cL_law 538 = .ok (.aload_n 0, 1) := by decide +kernel
theorem dL_law_539 : decode cL_law 539 = .ok (.iload_n 3, 1) := by decide +kernel
theorem dL_law_540 : decode cL_law 540 = .ok (.iconst 4, 1) := by decide +kernel
theorem dL_law_541 : decode cL_law 541 = .ok (.iadd, 1) := by decide +kernel
theorem dL_law_542 : decode cL_law 542 = .ok (.iaload, 1) := by decide +kernel
theorem dL_law_543 : decode cL_law 543 = .ok (.invokevirtual 68, 3) := by decide +kernel
theorem dL_law_546 : decode cL_law 546 = .ok (.if_icmp .eq 721, 3) := by decide +kernel
theorem dL_law_549 : decode cL_law 549 = .ok (.iconst 0, 1) := by decide +kernel
theorem dL_law_550 : decode cL_law 550 = .ok (.ireturn, 1) := by decide +kernel
theorem dL_law_551 : decode cL_law 551 = .ok (.aload_n 1, 1) := by decide +kernel
theorem dL_law_552 : decode cL_law 552 = .ok (.aload_n 0, 1) := by decide +kernel
theorem dL_law_553 : decode cL_law 553 = .ok (.iload_n 3, 1) := by decide +kernel
theorem dL_law_554 : decode cL_law 554 = .ok (.iconst 1, 1) := by decide +kernel
theorem dL_law_555 : decode cL_law 555 = .ok (.iadd, 1) := by decide +kernel
theorem dL_law_556 : decode cL_law 556 = .ok (.iaload, 1) := by decide +kernel
theorem dL_law_557 : decode cL_law 557 = .ok (.invokevirtual 69, 3) := by decide +kernel
theorem dL_law_560 : decode cL_law 560 = .ok (.aload_n 2, 1) := by decide +kernel
theorem dL_law_561 : decode cL_law 561 = .ok (.aload_n 0, 1) := by decide +kernel
theorem dL_law_562 : decode cL_law 562 = .ok (.iload_n 3, 1) := by decide +kernel
theorem dL_law_563 : decode cL_law 563 = .ok (.iconst 1, 1) := by decide +kernel
theorem dL_law_564 : decode cL_law 564 = .ok (.iadd, 1) := by decide +kernel
theorem dL_law_565 : decode cL_law 565 = .ok (.iaload, 1) := by decide +kernel
theorem dL_law_566 : decode cL_law 566 = .ok (.invokevirtual 72, 3) := by decide +kernel
theorem dL_law_569 : decode cL_law 569 = .ok (.if_icmp .eq 698, 3) := by decide +kernel
theorem dL_law_572 : decode cL_law 572 = .ok (.iconst 0, 1) := by decide +kernel
theorem dL_law_573 : decode cL_law 573 = .ok (.ireturn, 1) := by decide +kernel
theorem dL_law_574 : decode cL_law 574 = .ok (.aload_n 1, 1) := by decide +kernel
theorem dL_law_575 : decode cL_law 575 = .ok (.aload_n 0, 1) := by decide +kernel
theorem dL_law_576 : decode cL_law 576 = .ok (.iload_n 3, 1) := by decide +kernel
theorem dL_law_577 : decode cL_law 577 = .ok (.iconst 1, 1) := by decide +kernel
theorem dL_law_578 : decode cL_law 578 = .ok (.iadd, 1) := by decide +kernel
theorem dL_law_579 : decode cL_law 579 = .ok (.iaload, 1) := by decide +kernel
theorem dL_law_580 : decode cL_law 580 = .ok (.invokevirtual 73, 3) := by decide +kernel
theorem dL_law_583 : decode cL_law 583 = .ok (.aload_n 2, 1) := by decide +kernel
theorem dL_law_584 : decode cL_law 584 = .ok (.aload_n 0, 1) := by decide +kernel
theorem dL_law_585 : decode cL_law 585 = .ok (.iload_n 3, 1) := by decide +kernel
theorem dL_law_586 : decode cL_law 586 = .ok (.iconst 1, 1) := by decide +kernel
theorem dL_law_587 : decode cL_law 587 = .ok (.iadd, 1) := by decide +kernel
theorem dL_law_588 : decode cL_law 588 = .ok (.iaload, 1) := by decide +kernel
theorem dL_law_589 : decode cL_law 589 = .ok (.invokevirtual 76, 3) := by decide +kernel
theorem dL_law_592 : decode cL_law 592 = .ok (.if_icmp .eq 675, 3) := by decide +kernel
theorem dL_law_595 : decode cL_law 595 = .ok (.iconst 0, 1) := by decide +kernel
theorem dL_law_596 : decode cL_law 596 = .ok (.ireturn, 1) := by decide +kernel
theorem dL_law_597 : decode cL_law 597 = .ok (.aload_n 1, 1) := by decide +kernel
theorem dL_law_598 : decode cL_law 598 = .ok (.aload_n 0, 1) := by decide +kernel
theorem dL_law_599 : decode cL_law 599 = .ok (.iload_n 3, 1) := by decide +kernel
theorem dL_law_600 : decode cL_law 600 = .ok (.iconst 1, 1) := by decide +kernel
theorem dL_law_601 : decode cL_law 601 = .ok (.iadd, 1) := by decide +kernel
theorem dL_law_602 : decode cL_law 602 = .ok (.iaload, 1) := by decide +kernel
theorem dL_law_603 : decode cL_law 603 = .ok (.invokevirtual 77, 3) := by decide +kernel
theorem dL_law_606 : decode cL_law 606 = .ok (.aload_n 2, 1) := by decide +kernel
theorem dL_law_607 : decode cL_law 607 = .ok (.aload_n 0, 1) := by decide +kernel
theorem dL_law_608 : decode cL_law 608 = .ok (.iload_n 3, 1) := by decide +kernel
theorem dL_law_609 : decode cL_law 609 = .ok (.iconst 1, 1) := by decide +kernel
theorem dL_law_610 : decode cL_law 610 = .ok (.iadd, 1) := by decide +kernel
theorem dL_law_611 : decode cL_law 611 = .ok (.iaload, 1) := by decide +kernel
theorem dL_law_612 : decode cL_law 612 = .ok (.invokevirtual 80, 3) := by decide +kernel
theorem dL_law_615 : decode cL_law 615 = .ok (.if_icmp .eq 652, 3) := by decide +kernel
theorem dL_law_618 : decode cL_law 618 = .ok (.iconst 0, 1) := by decide +kernel
theorem dL_law_619 : decode cL_law 619 = .ok (.ireturn, 1) := by decide +kernel
theorem dL_law_620 : decode cL_law 620 = .ok (.aload_n 1, 1) := by decide +kernel
theorem dL_law_621 : decode cL_law 621 = .ok (.aload_n 0, 1) := by decide +kernel
theorem dL_law_622 : decode cL_law 622 = .ok (.iload_n 3, 1) := by decide +kernel
theorem dL_law_623 : decode cL_law 623 = .ok (.iconst 1, 1) := by decide +kernel
theorem dL_law_624 : decode cL_law 624 = .ok (.iadd, 1) := by decide +kernel
theorem dL_law_625 : decode cL_law 625 = .ok (.iaload, 1) := by decide +kernel
theorem dL_law_626 : decode cL_law 626 = .ok (.invokevirtual 81, 3) := by decide +kernel
theorem dL_law_629 : decode cL_law 629 = .ok (.aload_n 2, 1) := by decide +kernel
theorem dL_law_630 : decode cL_law 630 = .ok (.aload_n 0, 1) := by decide +kernel
theorem dL_law_631 : decode cL_law 631 = .ok (.iload_n 3, 1) := by decide +kernel
theorem dL_law_632 : decode cL_law 632 = .ok (.iconst 1, 1) := by decide +kernel
theorem dL_law_633 : decode cL_law 633 = .ok (.iadd, 1) := by decide +kernel
theorem dL_law_634 : decode cL_law 634 = .ok (.iaload, 1) := by decide +kernel
theorem dL_law_635 : decode cL_law 635 = .ok (.invokevirtual 84, 3) := by decide +kernel
theorem dL_law_638 : decode cL_law 638 = .ok (.if_icmp .eq 629, 3) := by decide +kernel
theorem dL_law_641 : decode cL_law 641 = .ok (.iconst 0, 1) := by decide +kernel
theorem dL_law_642 : decode cL_law 642 = .ok (.ireturn, 1) := by decide +kernel
theorem dL_law_643 : decode cL_law 643 = .ok (.aload_n 1, 1) := by decide +kernel
theorem dL_law_644 : decode cL_law 644 = .ok (.aload_n 0, 1) := by decide +kernel
theorem dL_law_645 : decode cL_law 645 = .ok (.iload_n 3, 1) := by decide +kernel
theorem dL_law_646 : decode cL_law 646 = .ok (.iconst 1, 1) := by decide +kernel
theorem dL_law_647 : decode cL_law 647 = .ok (.iadd, 1) := by decide +kernel
theorem dL_law_648 : decode cL_law 648 = .ok (.iaload, 1) := by decide +kernel
theorem dL_law_649 : decode cL_law 649 = .ok (.aload_n 0, 1) := by decide +kernel
theorem dL_law_650 : decode cL_law 650 = .ok (.iload_n 3, 1) := by decide +kernel
theorem dL_law_651 : decode cL_law 651 = .ok (.iconst 2, 1) := by decide +kernel
theorem dL_law_652 : decode cL_law 652 = .ok (.iadd, 1) := by decide +kernel
theorem dL_law_653 : decode cL_law 653 = .ok (.iaload, 1) := by decide +kernel
theorem dL_law_654 : decode cL_law 654 = .ok (.invokevirtual 85, 3) := by decide +kernel
theorem dL_law_657 : decode cL_law 657 = .ok (.aload_n 2, 1) := by decide +kernel
theorem dL_law_658 : decode cL_law 658 = .ok (.aload_n 0, 1) := by decide +kernel
theorem dL_law_659 : decode cL_law 659 = .ok (.iload_n 3, 1) := by decide +kernel
theorem dL_law_660 : decode cL_law 660 = .ok (.iconst 1, 1) := by decide +kernel
theorem dL_law_661 : decode cL_law 661 = .ok (.iadd, 1) := by decide +kernel
theorem dL_law_662 : decode cL_law 662 = .ok (.iaload, 1) := by decide +kernel
theorem dL_law_663 : decode cL_law 663 = .ok (.aload_n 0, 1) := by decide +kernel
theorem dL_law_664 : decode cL_law 664 = .ok (.iload_n 3, 1) := by decide +kernel
theorem dL_law_665 : decode cL_law 665 = .ok (.iconst 2, 1) := by decide +kernel
theorem dL_law_666 : decode cL_law 666 = .ok (.iadd, 1) := by decide +kernel
theorem dL_law_667 : decode cL_law 667 = .ok (.iaload, 1) := by decide +kernel
theorem dL_law_668 : decode cL_law 668 = .ok (.invokevirtual 88, 3) := by decide +kernel
theorem dL_law_671 : decode cL_law 671 = .ok (.if_icmp .eq 596, 3) := by decide +kernel
theorem dL_law_674 : decode cL_law 674 = .ok (.iconst 0, 1) := by decide +kernel
theorem dL_law_675 : decode cL_law 675 = .ok (.ireturn, 1) := by decide +kernel
theorem dL_law_676 : decode cL_law 676 = .ok (.aload_n 1, 1) := by decide +kernel
theorem dL_law_677 : decode cL_law 677 = .ok (.aload_n 0, 1) := by decide +kernel
theorem dL_law_678 : decode cL_law 678 = .ok (.iload_n 3, 1) := by decide +kernel
theorem dL_law_679 : decode cL_law 679 = .ok (.iconst 1, 1) := by decide +kernel
theorem dL_law_680 : decode cL_law 680 = .ok (.iadd, 1) := by decide +kernel
theorem dL_law_681 : decode cL_law 681 = .ok (.iaload, 1) := by decide +kernel
theorem dL_law_682 : decode cL_law 682 = .ok (.invokevirtual 89, 3) := by decide +kernel
theorem dL_law_685 : decode cL_law 685 = .ok (.aload_n 2, 1) := by decide +kernel
theorem dL_law_686 : decode cL_law 686 = .ok (.aload_n 0, 1) := by decide +kernel
theorem dL_law_687 : decode cL_law 687 = .ok (.iload_n 3, 1) := by decide +kernel
theorem dL_law_688 : decode cL_law 688 = .ok (.iconst 1, 1) := by decide +kernel
theorem dL_law_689 : decode cL_law 689 = .ok (.iadd, 1) := by decide +kernel
theorem dL_law_690 : decode cL_law 690 = .ok (.iaload, 1) := by decide +kernel
theorem dL_law_691 : decode cL_law 691 = .ok (.invokevirtual 92, 3) := by decide +kernel
theorem dL_law_694 : decode cL_law 694 = .ok (.if_icmp .eq 573, 3) := by decide +kernel
theorem dL_law_697 : decode cL_law 697 = .ok (.iconst 0, 1) := by decide +kernel
theorem dL_law_698 : decode cL_law 698 = .ok (.ireturn, 1) := by decide +kernel
theorem dL_law_699 : decode cL_law 699 = .ok (.aload_n 1, 1) := by decide +kernel
theorem dL_law_700 : decode cL_law 700 = .ok (.invokevirtual 93, 3) := by decide +kernel
theorem dL_law_703 : decode cL_law 703 = .ok (.aload_n 2, 1) := by decide +kernel
theorem dL_law_704 : decode cL_law 704 = .ok (.invokevirtual 96, 3) := by decide +kernel
theorem dL_law_707 : decode cL_law 707 = .ok (.if_icmp .eq 560, 3) := by decide +kernel
theorem dL_law_710 : decode cL_law 710 = .ok (.iconst 0, 1) := by decide +kernel
theorem dL_law_711 : decode cL_law 711 = .ok (.ireturn, 1) := by decide +kernel
theorem dL_law_712 : decode cL_law 712 = .ok (.aload_n 1, 1) := by decide +kernel
theorem dL_law_713 : decode cL_law 713 = .ok (.aload_n 0, 1) := by decide +kernel
theorem dL_law_714 : decode cL_law 714 = .ok (.iload_n 3, 1) := by decide +kernel
theorem dL_law_715 : decode cL_law 715 = .ok (.iconst 1, 1) := by decide +kernel
theorem dL_law_716 : decode cL_law 716 = .ok (.iadd, 1) := by decide +kernel
theorem dL_law_717 : decode cL_law 717 = .ok (.iaload, 1) := by decide +kernel
theorem dL_law_718 : decode cL_law 718 = .ok (.invokevirtual 97, 3) := by decide +kernel
theorem dL_law_721 : decode cL_law 721 = .ok (.aload_n 2, 1) := by decide +kernel
theorem dL_law_722 : decode cL_law 722 = .ok (.aload_n 0, 1) := by decide +kernel
theorem dL_law_723 : decode cL_law 723 = .ok (.iload_n 3, 1) := by decide +kernel
theorem dL_law_724 : decode cL_law 724 = .ok (.iconst 1, 1) := by decide +kernel
theorem dL_law_725 : decode cL_law 725 = .ok (.iadd, 1) := by decide +kernel
theorem dL_law_726 : decode cL_law 726 = .ok (.iaload, 1) := by decide +kernel
theorem dL_law_727 : decode cL_law 727 = .ok (.invokevirtual 100, 3) := by decide +kernel
theorem dL_law_730 : decode cL_law 730 = .ok (.if_icmp .eq 537, 3) := by decide +kernel
theorem dL_law_733 : decode cL_law 733 = .ok (.iconst 0, 1) := by decide +kernel
theorem dL_law_734 : decode cL_law 734 = .ok (.ireturn, 1) := by decide +kernel
theorem dL_law_735 : decode cL_law 735 = .ok (.aload_n 1, 1) := by decide +kernel
theorem dL_law_736 : decode cL_law 736 = .ok (.invokevirtual 101, 3) := by decide +kernel
theorem dL_law_739 : decode cL_law 739 = .ok (.aload_n 2, 1) := by decide +kernel
theorem dL_law_740 : decode cL_law 740 = .ok (.invokevirtual 104, 3) := by decide +kernel
theorem dL_law_743 : decode cL_law 743 = .ok (.if_icmp .eq 524, 3) := by decide +kernel
theorem dL_law_746 : decode cL_law 746 = .ok (.iconst 0, 1) := by decide +kernel
theorem dL_law_747 : decode cL_law 747 = .ok (.ireturn, 1) := by decide +kernel
theorem dL_law_748 : decode cL_law 748 = .ok (.aload_n 1, 1) := by decide +kernel
theorem dL_law_749 : decode cL_law 749 = .ok (.invokevirtual 105, 3) := by decide +kernel
theorem dL_law_752 : decode cL_law 752 = .ok (.aload_n 2, 1) := by decide +kernel
theorem dL_law_753 : decode cL_law 753 = .ok (.invokevirtual 108, 3) := by decide +kernel
theorem dL_law_756 : decode cL_law 756 = .ok (.if_icmp .eq 511, 3) := by decide +kernel
theorem dL_law_759 : decode cL_law 759 = .ok (.iconst 0, 1) := by decide +kernel
theorem dL_law_760 : decode cL_law 760 = .ok (.ireturn, 1) := by decide +kernel
theorem dL_law_761 : decode cL_law 761 = .ok (.aload_n 1, 1) := by decide +kernel
theorem dL_law_762 : decode cL_law 762 = .ok (.aload_n 0, 1) := by decide +kernel
theorem dL_law_763 : decode cL_law 763 = .ok (.iload_n 3, 1) := by decide +kernel
theorem dL_law_764 : decode cL_law 764 = .ok (.iconst 1, 1) := by decide +kernel
theorem dL_law_765 : decode cL_law 765 = .ok (.iadd, 1) := by decide +kernel
theorem dL_law_766 : decode cL_law 766 = .ok (.iaload, 1) := by decide +kernel
theorem dL_law_767 : decode cL_law 767 = .ok (.invokevirtual 109, 3) := by decide +kernel
theorem dL_law_770 : decode cL_law 770 = .ok (.aload_n 2, 1) := by decide +kernel
theorem dL_law_771 : decode cL_law 771 = .ok (.aload_n 0, 1) := by decide +kernel
theorem dL_law_772 : decode cL_law 772 = .ok (.iload_n 3, 1) := by decide +kernel
theorem dL_law_773 : decode cL_law 773 = .ok (.iconst 1, 1) := by decide +kernel
theorem dL_law_774 : decode cL_law 774 = .ok (.iadd, 1) := by decide +kernel
theorem dL_law_775 : decode cL_law 775 = .ok (.iaload, 1) := by decide +kernel
theorem dL_law_776 : decode cL_law 776 = .ok (.invokevirtual 112, 3) := by decide +kernel
theorem dL_law_779 : decode cL_law 779 = .ok (.if_icmp .eq 488, 3) := by decide +kernel
theorem dL_law_782 : decode cL_law 782 = .ok (.iconst 0, 1) := by decide +kernel
theorem dL_law_783 : decode cL_law 783 = .ok (.ireturn, 1) := by decide +kernel
theorem dL_law_784 : decode cL_law 784 = .ok (.aload_n 1, 1) := by decide +kernel
theorem dL_law_785 : decode cL_law 785 = .ok (.invokevirtual 113, 3) := by decide +kernel
theorem dL_law_788 : decode cL_law 788 = .ok (.aload_n 2, 1) := by decide +kernel
theorem dL_law_789 : decode cL_law 789 = .ok (.invokevirtual 116, 3) := by decide +kernel
theorem dL_law_792 : decode cL_law 792 = .ok (.if_icmp .eq 475, 3) := by decide +kernel
theorem dL_law_795 : decode cL_law 795 = .ok (.iconst 0, 1) := by decide +kernel
theorem dL_law_796 : decode cL_law 796 = .ok (.ireturn, 1) := by decide +kernel
theorem dL_law_797 : decode cL_law 797 = .ok (.aload_n 1, 1) := by decide +kernel
theorem dL_law_798 : decode cL_law 798 = .ok (.aload_n 0, 1) := by decide +kernel
theorem dL_law_799 : decode cL_law 799 = .ok (.iload_n 3, 1) := by decide +kernel
theorem dL_law_800 : decode cL_law 800 = .ok (.iconst 1, 1) := by decide +kernel
theorem dL_law_801 : decode cL_law 801 = .ok (.iadd, 1) := by decide +kernel
theorem dL_law_802 : decode cL_law 802 = .ok (.iaload, 1) := by decide +kernel
theorem dL_law_803 : decode cL_law 803 = .ok (.aload_n 0, 1) := by decide +kernel
theorem dL_law_804 : decode cL_law 804 = .ok (.iload_n 3, 1) := by decide +kernel
theorem dL_law_805 : decode cL_law 805 = .ok (.iconst 2, 1) := by decide +kernel
theorem dL_law_806 : decode cL_law 806 = .ok (.iadd, 1) := by decide +kernel
theorem dL_law_807 : decode cL_law 807 = .ok (.iaload, 1) := by decide +kernel
theorem dL_law_808 : decode cL_law 808 = .ok (.invokevirtual 117, 3) := by decide +kernel
theorem dL_law_811 : decode cL_law 811 = .ok (.aload_n 2, 1) := by decide +kernel
theorem dL_law_812 : decode cL_law 812 = .ok (.aload_n 0, 1) := by decide +kernel
theorem dL_law_813 : decode cL_law 813 = .ok (.iload_n 3, 1) := by decide +kernel
theorem dL_law_814 : decode cL_law 814 = .ok (.iconst 1, 1) := by decide +kernel
theorem dL_law_815 : decode cL_law 815 = .ok (.iadd, 1) := by decide +kernel
theorem dL_law_816 : decode cL_law 816 = .ok (.iaload, 1) := by decide +kernel
theorem dL_law_817 : decode cL_law 817 = .ok (.aload_n 0, 1) := by decide +kernel
theorem dL_law_818 : decode cL_law 818 = .ok (.iload_n 3, 1) := by decide +kernel
theorem dL_law_819 : decode cL_law 819 = .ok (.iconst 2, 1) := by decide +kernel
theorem dL_law_820 : decode cL_law 820 = .ok (.iadd, 1) := by decide +kernel
theorem dL_law_821 : decode cL_law 821 = .ok (.iaload, 1) := by decide +kernel
theorem dL_law_822 : decode cL_law 822 = .ok (.invokevirtual 120, 3) := by decide +kernel
theorem dL_law_825 : decode cL_law 825 = .ok (.if_icmp .eq 442, 3) := by decide +kernel
theorem dL_law_828 : decode cL_law 828 = .ok (.iconst 0, 1) := by decide +kernel
theorem dL_law_829 : decode cL_law 829 = .ok (.ireturn, 1) := by decide +kernel
theorem dL_law_830 : decode cL_law 830 = .ok (.aload_n 1, 1) := by decide +kernel
theorem dL_law_831 : decode cL_law 831 = .ok (.aload_n 0, 1) := by decide +kernel
theorem dL_law_832 : decode cL_law 832 = .ok (.iload_n 3, 1) := by decide +kernel
theorem dL_law_833 : decode cL_law 833 = .ok (.iconst 1, 1) := by decide +kernel
theorem dL_law_834 : decode cL_law 834 = .ok (.iadd, 1) := by decide +kernel
theorem dL_law_835 : decode cL_law 835 = .ok (.iaload, 1) := by decide +kernel
theorem dL_law_836 : decode cL_law 836 = .ok (.aload_n 0, 1) := by decide +kernel
theorem dL_law_837 : decode cL_law 837 = .ok (.iload_n 3, 1) := by decide +kernel
theorem dL_law_838 : decode cL_law 838 = .ok (.iconst 2, 1) := by decide +kernel
theorem dL_law_839 : decode cL_law 839 = .ok (.iadd, 1) := by decide +kernel
theorem dL_law_840 : decode cL_law 840 = .ok (.iaload, 1) := by decide +kernel
theorem dL_law_841 : decode cL_law 841 = .ok (.invokevirtual 121, 3) := by decide +kernel
theorem dL_law_844 : decode cL_law 844 = .ok (.aload_n 2, 1) := by decide +kernel
theorem dL_law_845 : decode cL_law 845 = .ok (.aload_n 0, 1) := by decide +kernel
theorem dL_law_846 : decode cL_law 846 = .ok (.iload_n 3, 1) := by decide +kernel
theorem dL_law_847 : decode cL_law 847 = .ok (.iconst 1, 1) := by decide +kernel
theorem dL_law_848 : decode cL_law 848 = .ok (.iadd, 1) := by decide +kernel
theorem dL_law_849 : decode cL_law 849 = .ok (.iaload, 1) := by decide +kernel
theorem dL_law_850 : decode cL_law 850 = .ok (.aload_n 0, 1) := by decide +kernel
theorem dL_law_851 : decode cL_law 851 = .ok (.iload_n 3, 1) := by decide +kernel
theorem dL_law_852 : decode cL_law 852 = .ok (.iconst 2, 1) := by decide +kernel
theorem dL_law_853 : decode cL_law 853 = .ok (.iadd, 1) := by decide +kernel
theorem dL_law_854 : decode cL_law 854 = .ok (.iaload, 1) := by decide +kernel
theorem dL_law_855 : decode cL_law 855 = .ok (.invokevirtual 124, 3) := by decide +kernel
theorem dL_law_858 : decode cL_law 858 = .ok (.if_icmp .eq 409, 3) := by decide +kernel
theorem dL_law_861 : decode cL_law 861 = .ok (.iconst 0, 1) := by decide +kernel
theorem dL_law_862 : decode cL_law 862 = .ok (.ireturn, 1) := by decide +kernel
theorem dL_law_863 : decode cL_law 863 = .ok (.aload_n 1, 1) := by decide +kernel
theorem dL_law_864 : decode cL_law 864 = .ok (.aload_n 0, 1) := by decide +kernel
theorem dL_law_865 : decode cL_law 865 = .ok (.iload_n 3, 1) := by decide +kernel
theorem dL_law_866 : decode cL_law 866 = .ok (.iconst 1, 1) := by decide +kernel
theorem dL_law_867 : decode cL_law 867 = .ok (.iadd, 1) := by decide +kernel
theorem dL_law_868 : decode cL_law 868 = .ok (.iaload, 1) := by decide +kernel
theorem dL_law_869 : decode cL_law 869 = .ok (.invokevirtual 125, 3) := by decide +kernel
theorem dL_law_872 : decode cL_law 872 = .ok (.aload_n 2, 1) := by decide +kernel
theorem dL_law_873 : decode cL_law 873 = .ok (.aload_n 0, 1) := by decide +kernel
theorem dL_law_874 : decode cL_law 874 = .ok (.iload_n 3, 1) := by decide +kernel
theorem dL_law_875 : decode cL_law 875 = .ok (.iconst 1, 1) := by decide +kernel
theorem dL_law_876 : decode cL_law 876 = .ok (.iadd, 1) := by decide +kernel
theorem dL_law_877 : decode cL_law 877 = .ok (.iaload, 1) := by decide +kernel
theorem dL_law_878 : decode cL_law 878 = .ok (.invokevirtual 128, 3) := by decide +kernel
theorem dL_law_881 : decode cL_law 881 = .ok (.if_icmp .eq 386, 3) := by decide +kernel
theorem dL_law_884 : decode cL_law 884 = .ok (.iconst 0, 1) := by decide +kernel
theorem dL_law_885 : decode cL_law 885 = .ok (.ireturn, 1) := by decide +kernel
theorem dL_law_886 : decode cL_law 886 = .ok (.aload_n 1, 1) := by decide +kernel
theorem dL_law_887 : decode cL_law 887 = .ok (.aload_n 0, 1) := by decide +kernel
theorem dL_law_888 : decode cL_law 888 = .ok (.iload_n 3, 1) := by decide +kernel
theorem dL_law_889 : decode cL_law 889 = .ok (.iconst 1, 1) := by decide +kernel
theorem dL_law_890 : decode cL_law 890 = .ok (.iadd, 1) := by decide +kernel
theorem dL_law_891 : decode cL_law 891 = .ok (.iaload, 1) := by decide +kernel
theorem dL_law_892 : decode cL_law 892 = .ok (.aload_n 0, 1) := by decide +kernel
theorem dL_law_893 : decode cL_law 893 = .ok (.iload_n 3, 1) := by decide +kernel
theorem dL_law_894 : decode cL_law 894 = .ok (.iconst 2, 1) := by decide +kernel
theorem dL_law_895 : decode cL_law 895 = .ok (.iadd, 1) := by decide +kernel
theorem dL_law_896 : decode cL_law 896 = .ok (.iaload, 1) := by decide +kernel
theorem dL_law_897 : decode cL_law 897 = .ok (.invokevirtual 129, 3) := by decide +kernel
theorem dL_law_900 : decode cL_law 900 = .ok (.aload_n 2, 1) := by decide +kernel
theorem dL_law_901 : decode cL_law 901 = .ok (.aload_n 0, 1) := by decide +kernel
theorem dL_law_902 : decode cL_law 902 = .ok (.iload_n 3, 1) := by decide +kernel
theorem dL_law_903 : decode cL_law 903 = .ok (.iconst 1, 1) := by decide +kernel
theorem dL_law_904 : decode cL_law 904 = .ok (.iadd, 1) := by decide +kernel
theorem dL_law_905 : decode cL_law 905 = .ok (.iaload, 1) := by decide +kernel
theorem dL_law_906 : decode cL_law 906 = .ok (.aload_n 0, 1) := by decide +kernel
theorem dL_law_907 : decode cL_law 907 = .ok (.iload_n 3, 1) := by decide +kernel
theorem dL_law_908 : decode cL_law 908 = .ok (.iconst 2, 1) := by decide +kernel
theorem dL_law_909 : decode cL_law 909 = .ok (.iadd, 1) := by decide +kernel
theorem dL_law_910 : decode cL_law 910 = .ok (.iaload, 1) := by decide +kernel
theorem dL_law_911 : decode cL_law 911 = .ok (.invokevirtual 132, 3) := by decide +kernel
theorem dL_law_914 : decode cL_law 914 = .ok (.if_icmp .eq 353, 3) := by decide +kernel
theorem dL_law_917 : decode cL_law 917 = .ok (.iconst 0, 1) := by decide +kernel
theorem dL_law_918 : decode cL_law 918 = .ok (.ireturn, 1) := by decide +kernel
theorem dL_law_919 : decode cL_law 919 = .ok (.aload_n 1, 1) := by decide +kernel
theorem dL_law_920 : decode cL_law 920 = .ok (.aload_n 0, 1) := by decide +kernel
theorem dL_law_921 : decode cL_law 921 = .ok (.iload_n 3, 1) := by decide +kernel
theorem dL_law_922 : decode cL_law 922 = .ok (.iconst 1, 1) := by decide +kernel
theorem dL_law_923 : decode cL_law 923 = .ok (.iadd, 1) := by decide +kernel
theorem dL_law_924 : decode cL_law 924 = .ok (.iaload, 1) := by decide +kernel
theorem dL_law_925 : decode cL_law 925 = .ok (.aload_n 0, 1) := by decide +kernel
theorem dL_law_926 : decode cL_law 926 = .ok (.iload_n 3, 1) := by decide +kernel
theorem dL_law_927 : decode cL_law 927 = .ok (.iconst 2, 1) := by decide +kernel
theorem dL_law_928 : decode cL_law 928 = .ok (.iadd, 1) := by decide +kernel
theorem dL_law_929 : decode cL_law 929 = .ok (.iaload, 1) := by decide +kernel
theorem dL_law_930 : decode cL_law 930 = .ok (.invokevirtual 133, 3) := by decide +kernel
theorem dL_law_933 : decode cL_law 933 = .ok (.aload_n 2, 1) := by decide +kernel
theorem dL_law_934 : decode cL_law 934 = .ok (.aload_n 0, 1) := by decide +kernel
theorem dL_law_935 : decode cL_law 935 = .ok (.iload_n 3, 1) := by decide +kernel
theorem dL_law_936 : decode cL_law 936 = .ok (.iconst 1, 1) := by decide +kernel
theorem dL_law_937 : decode cL_law 937 = .ok (.iadd, 1) := by decide +kernel
theorem dL_law_938 : decode cL_law 938 = .ok (.iaload, 1) := by decide +kernel
theorem dL_law_939 : decode cL_law 939 = .ok (.aload_n 0, 1) := by decide +kernel
theorem dL_law_940 : decode cL_law 940 = .ok (.iload_n 3, 1) := by decide +kernel
theorem dL_law_941 : decode cL_law 941 = .ok (.iconst 2, 1) := by decide +kernel
theorem dL_law_942 : decode cL_law 942 = .ok (.iadd, 1) := by decide +kernel
theorem dL_law_943 : decode cL_law 943 = .ok (.iaload, 1) := by decide +kernel
theorem dL_law_944 : decode cL_law 944 = .ok (.invokevirtual 136, 3) := by decide +kernel
theorem dL_law_947 : decode cL_law 947 = .ok (.if_icmp .eq 320, 3) := by decide +kernel
theorem dL_law_950 : decode cL_law 950 = .ok (.iconst 0, 1) := by decide +kernel
theorem dL_law_951 : decode cL_law 951 = .ok (.ireturn, 1) := by decide +kernel
theorem dL_law_952 : decode cL_law 952 = .ok (.aload_n 1, 1) := by decide +kernel
theorem dL_law_953 : decode cL_law 953 = .ok (.aload_n 0, 1) := by decide +kernel
theorem dL_law_954 : decode cL_law 954 = .ok (.iload_n 3, 1) := by decide +kernel
theorem dL_law_955 : decode cL_law 955 = .ok (.iconst 1, 1) := by decide +kernel
theorem dL_law_956 : decode cL_law 956 = .ok (.iadd, 1) := by decide +kernel
theorem dL_law_957 : decode cL_law 957 = .ok (.iaload, 1) := by decide +kernel
theorem dL_law_958 : decode cL_law 958 = .ok (.aload_n 0, 1) := by decide +kernel
theorem dL_law_959 : decode cL_law 959 = .ok (.iload_n 3, 1) := by decide +kernel
theorem dL_law_960 : decode cL_law 960 = .ok (.iconst 2, 1) := by decide +kernel
theorem dL_law_961 : decode cL_law 961 = .ok (.iadd, 1) := by decide +kernel
theorem dL_law_962 : decode cL_law 962 = .ok (.iaload, 1) := by decide +kernel
theorem dL_law_963 : decode cL_law 963 = .ok (.invokevirtual 137, 3) := by decide +kernel
theorem dL_law_966 : decode cL_law 966 = .ok (.aload_n 2, 1) := by decide +kernel
theorem dL_law_967 : decode cL_law 967 = .ok (.aload_n 0, 1) := by decide +kernel
theorem dL_law_968 : decode cL_law 968 = .ok (.iload_n 3, 1) := by decide +kernel
theorem dL_law_969 : decode cL_law 969 = .ok (.iconst 1, 1) := by decide +kernel
theorem dL_law_970 : decode cL_law 970 = .ok (.iadd, 1) := by decide +kernel
theorem dL_law_971 : decode cL_law 971 = .ok (.iaload, 1) := by decide +kernel
theorem dL_law_972 : decode cL_law 972 = .ok (.aload_n 0, 1) := by decide +kernel
theorem dL_law_973 : decode cL_law 973 = .ok (.iload_n 3, 1) := by decide +kernel
theorem dL_law_974 : decode cL_law 974 = .ok (.iconst 2, 1) := by decide +kernel
theorem dL_law_975 : decode cL_law 975 = .ok (.iadd, 1) := by decide +kernel
theorem dL_law_976 : decode cL_law 976 = .ok (.iaload, 1) := by decide +kernel
theorem dL_law_977 : decode cL_law 977 = .ok (.invokevirtual 140, 3) := by decide +kernel
theorem dL_law_980 : decode cL_law 980 = .ok (.if_icmp .eq 287, 3) := by decide +kernel
theorem dL_law_983 : decode cL_law 983 = .ok (.iconst 0, 1) := by decide +kernel
theorem dL_law_984 : decode cL_law 984 = .ok (.ireturn, 1) := by decide +kernel
theorem dL_law_985 : decode cL_law 985 = .ok (.aload_n 1, 1) := by decide +kernel
theorem dL_law_986 : decode cL_law 986 = .ok (.aload_n 0, 1) := by decide +kernel
theorem dL_law_987 : decode cL_law 987 = .ok (.iload_n 3, 1) := by decide +kernel
theorem dL_law_988 : decode cL_law 988 = .ok (.iconst 1, 1) := by decide +kernel
theorem dL_law_989 : decode cL_law 989 = .ok (.iadd, 1) := by decide +kernel
theorem dL_law_990 : decode cL_law 990 = .ok (.iaload, 1) := by decide +kernel
theorem dL_law_991 : decode cL_law 991 = .ok (.invokevirtual 141, 3) := by decide +kernel
theorem dL_law_994 : decode cL_law 994 = .ok (.aload_n 2, 1) := by decide +kernel
theorem dL_law_995 : decode cL_law 995 = .ok (.aload_n 0, 1) := by decide +kernel
theorem dL_law_996 : decode cL_law 996 = .ok (.iload_n 3, 1) := by decide +kernel
theorem dL_law_997 : decode cL_law 997 = .ok (.iconst 1, 1) := by decide +kernel
theorem dL_law_998 : decode cL_law 998 = .ok (.iadd, 1) := by decide +kernel
theorem dL_law_999 : decode cL_law 999 = .ok (.iaload, 1) := by decide +kernel
theorem dL_law_1000 : decode cL_law 1000 = .ok (.invokevirtual 144, 3) := by decide +kernel
theorem dL_law_1003 : decode cL_law 1003 = .ok (.if_icmp .eq 264, 3) := by decide +kernel
theorem dL_law_1006 : decode cL_law 1006 = .ok (.iconst 0, 1) := by decide +kernel
theorem dL_law_1007 : decode cL_law 1007 = .ok (.ireturn, 1) := by decide +kernel
theorem dL_law_1008 : decode cL_law 1008 = .ok (.aload_n 1, 1) := by decide +kernel
theorem dL_law_1009 : decode cL_law 1009 = .ok (.aload_n 0, 1) := by decide +kernel
theorem dL_law_1010 : decode cL_law 1010 = .ok (.iload_n 3, 1) := by decide +kernel
theorem dL_law_1011 : decode cL_law 1011 = .ok (.iconst 1, 1) := by decide +kernel
theorem dL_law_1012 : decode cL_law 1012 = .ok (.iadd, 1) := by decide +kernel
theorem dL_law_1013 : decode cL_law 1013 = .ok (.iaload, 1) := by decide +kernel
theorem dL_law_1014 : decode cL_law 1014 = .ok (.invokevirtual 145, 3) := by decide +kernel
theorem dL_law_1017 : decode cL_law 1017 = .ok (.aload_n 2, 1) := by decide +kernel
theorem dL_law_1018 : decode cL_law 1018 = .ok (.aload_n 0, 1) := by decide +kernel
theorem dL_law_1019 : decode cL_law 1019 = .ok (.iload_n 3, 1) := by decide +kernel
theorem dL_law_1020 : decode cL_law 1020 = .ok (.iconst 1, 1) := by decide +kernel
theorem dL_law_1021 : decode cL_law 1021 = .ok (.iadd, 1) := by decide +kernel
theorem dL_law_1022 : decode cL_law 1022 = .ok (.iaload, 1) := by decide +kernel
theorem dL_law_1023 : decode cL_law 1023 = .ok (.invokevirtual 148, 3) := by decide +kernel
theorem dL_law_1026 : decode cL_law 1026 = .ok (.if_icmp .eq 241, 3) := by decide +kernel
theorem dL_law_1029 : decode cL_law 1029 = .ok (.iconst 0, 1) := by decide +kernel
theorem dL_law_1030 : decode cL_law 1030 = .ok (.ireturn, 1) := by decide +kernel
theorem dL_law_1031 : decode cL_law 1031 = .ok (.aload_n 1, 1) := by decide +kernel
theorem dL_law_1032 : decode cL_law 1032 = .ok (.aload_n 0, 1) := by decide +kernel
theorem dL_law_1033 : decode cL_law 1033 = .ok (.iload_n 3, 1) := by decide +kernel
theorem dL_law_1034 : decode cL_law 1034 = .ok (.iconst 1, 1) := by decide +kernel
theorem dL_law_1035 : decode cL_law 1035 = .ok (.iadd, 1) := by decide +kernel
theorem dL_law_1036 : decode cL_law 1036 = .ok (.iaload, 1) := by decide +kernel
theorem dL_law_1037 : decode cL_law 1037 = .ok (.aload_n 0, 1) := by decide +kernel
theorem dL_law_1038 : decode cL_law 1038 = .ok (.iload_n 3, 1) := by decide +kernel
theorem dL_law_1039 : decode cL_law 1039 = .ok (.iconst 2, 1) := by decide +kernel
theorem dL_law_1040 : decode cL_law 1040 = .ok (.iadd, 1) := by decide +kernel
theorem dL_law_1041 : decode cL_law 1041 = .ok (.iaload, 1) := by decide +kernel
theorem dL_law_1042 : decode cL_law 1042 = .ok (.invokevirtual 149, 3) := by decide +kernel
theorem dL_law_1045 : decode cL_law 1045 = .ok (.aload_n 2, 1) := by decide +kernel
theorem dL_law_1046 : decode cL_law 1046 = .ok (.aload_n 0, 1) := by decide +kernel
theorem dL_law_1047 : decode cL_law 1047 = .ok (.iload_n 3, 1) := by decide +kernel
theorem dL_law_1048 : decode cL_law 1048 = .ok (.iconst 1, 1) := by decide +kernel
theorem dL_law_1049 : decode cL_law 1049 = .ok (.iadd, 1) := by decide +kernel
theorem dL_law_1050 : decode cL_law 1050 = .ok (.iaload, 1) := by decide +kernel
theorem dL_law_1051 : decode cL_law 1051 = .ok (.aload_n 0, 1) := by decide +kernel
theorem dL_law_1052 : decode cL_law 1052 = .ok (.iload_n 3, 1) := by decide +kernel
theorem dL_law_1053 : decode cL_law 1053 = .ok (.iconst 2, 1) := by decide +kernel
theorem dL_law_1054 : decode cL_law 1054 = .ok (.iadd, 1) := by decide +kernel
theorem dL_law_1055 : decode cL_law 1055 = .ok (.iaload, 1) := by decide +kernel
theorem dL_law_1056 : decode cL_law 1056 = .ok (.invokevirtual 152, 3) := by decide +kernel
theorem dL_law_1059 : decode cL_law 1059 = .ok (.if_icmp .eq 208, 3) := by decide +kernel
theorem dL_law_1062 : decode cL_law 1062 = .ok (.iconst 0, 1) := by decide +kernel
theorem dL_law_1063 : decode cL_law 1063 = .ok (.ireturn, 1) := by decide +kernel
theorem dL_law_1064 : decode cL_law 1064 = .ok (.aload_n 1, 1) := by decide +kernel
theorem dL_law_1065 : decode cL_law 1065 = .ok (.aload_n 0, 1) := by decide +kernel
theorem dL_law_1066 : decode cL_law 1066 = .ok (.iload_n 3, 1) := by decide +kernel
theorem dL_law_1067 : decode cL_law 1067 = .ok (.iconst 1, 1) := by decide +kernel
theorem dL_law_1068 : decode cL_law 1068 = .ok (.iadd, 1) := by decide +kernel
theorem dL_law_1069 : decode cL_law 1069 = .ok (.iaload, 1) := by decide +kernel
theorem dL_law_1070 : decode cL_law 1070 = .ok (.aload_n 0, 1) := by decide +kernel
theorem dL_law_1071 : decode cL_law 1071 = .ok (.iload_n 3, 1) := by decide +kernel
theorem dL_law_1072 : decode cL_law 1072 = .ok (.iconst 2, 1) := by decide +kernel
theorem dL_law_1073 : decode cL_law 1073 = .ok (.iadd, 1) := by decide +kernel
theorem dL_law_1074 : decode cL_law 1074 = .ok (.iaload, 1) := by decide +kernel
theorem dL_law_1075 : decode cL_law 1075 = .ok (.aload_n 0, 1) := by decide +kernel
theorem dL_law_1076 : decode cL_law 1076 = .ok (.iload_n 3, 1) := by decide +kernel
theorem dL_law_1077 : decode cL_law 1077 = .ok (.iconst 3, 1) := by decide +kernel
theorem dL_law_1078 : decode cL_law 1078 = .ok (.iadd, 1) := by decide +kernel
theorem dL_law_1079 : decode cL_law 1079 = .ok (.iaload, 1) := by decide +kernel
theorem dL_law_1080 : decode cL_law 1080 = .ok (.invokevirtual 153, 3) := by decide +kernel
theorem dL_law_1083 : decode cL_law 1083 = .ok (.aload_n 2, 1) := by decide +kernel
theorem dL_law_1084 : decode cL_law 1084 = .ok (.aload_n 0, 1) := by decide +kernel
theorem dL_law_1085 : decode cL_law 1085 = .ok (.iload_n 3, 1) := by decide +kernel
theorem dL_law_1086 : decode cL_law 1086 = .ok (.iconst 1, 1) := by decide +kernel
theorem dL_law_1087 : decode cL_law 1087 = .ok (.iadd, 1) := by decide +kernel
theorem dL_law_1088 : decode cL_law 1088 = .ok (.iaload, 1) := by decide +kernel
theorem dL_law_1089 : decode cL_law 1089 = .ok (.aload_n 0, 1) := by decide +kernel
theorem dL_law_1090 : decode cL_law 1090 = .ok (.iload_n 3, 1) := by decide +kernel
theorem dL_law_1091 : decode cL_law 1091 = .ok (.iconst 2, 1) := by decide +kernel
theorem dL_law_1092 : decode cL_law 1092 = .ok (.iadd, 1) := by decide +kernel
theorem dL_law_1093 : decode cL_law 1093 = .ok (.iaload, 1) := by decide +kernel
theorem dL_law_1094 : decode cL_law 1094 = .ok (.aload_n 0, 1) := by decide +kernel
theorem dL_law_1095 : decode cL_law 1095 = .ok (.iload_n 3, 1) := by decide +kernel
theorem dL_law_1096 : decode cL_law 1096 = .ok (.iconst 3, 1) := by decide +kernel
theorem dL_law_1097 : decode cL_law 1097 = .ok (.iadd, 1) := by decide +kernel
theorem dL_law_1098 : decode cL_law 1098 = .ok (.iaload, 1) := by decide +kernel
theorem dL_law_1099 : decode cL_law 1099 = .ok (.invokevirtual 157, 3) := by decide +kernel
theorem dL_law_1102 : decode cL_law 1102 = .ok (.if_icmp .eq 165, 3) := by decide +kernel
theorem dL_law_1105 : decode cL_law 1105 = .ok (.iconst 0, 1) := by decide +kernel
theorem dL_law_1106 : decode cL_law 1106 = .ok (.ireturn, 1) := by decide +kernel
theorem dL_law_1107 : decode cL_law 1107 = .ok (.aload_n 1, 1) := by decide +kernel
theorem dL_law_1108 : decode cL_law 1108 = .ok (.invokevirtual 158, 3) := by decide +kernel
theorem dL_law_1111 : decode cL_law 1111 = .ok (.aload_n 2, 1) := by decide +kernel
theorem dL_law_1112 : decode cL_law 1112 = .ok (.invokevirtual 161, 3) := by decide +kernel
theorem dL_law_1115 : decode cL_law 1115 = .ok (.if_icmp .eq 152, 3) := by decide +kernel
theorem dL_law_1118 : decode cL_law 1118 = .ok (.iconst 0, 1) := by decide +kernel
theorem dL_law_1119 : decode cL_law 1119 = .ok (.ireturn, 1) := by decide +kernel
theorem dL_law_1120 : decode cL_law 1120 = .ok (.aload_n 1, 1) := by decide +kernel
theorem dL_law_1121 : decode cL_law 1121 = .ok (.aload_n 0, 1) := by decide +kernel
theorem dL_law_1122 : decode cL_law 1122 = .ok (.iload_n 3, 1) := by decide +kernel
theorem dL_law_1123 : decode cL_law 1123 = .ok (.iconst 1, 1) := by decide +kernel
theorem dL_law_1124 : decode cL_law 1124 = .ok (.iadd, 1) := by decide +kernel
theorem dL_law_1125 : decode cL_law 1125 = .ok (.iaload, 1) := by decide +kernel
theorem dL_law_1126 : decode cL_law 1126 = .ok (.aload_n 0, 1) := by decide +kernel
theorem dL_law_1127 : decode cL_law 1127 = .ok (.iload_n 3, 1) := by decide +kernel
theorem dL_law_1128 : decode cL_law 1128 = .ok (.iconst 2, 1) := by decide +kernel
theorem dL_law_1129 : decode cL_law 1129 = .ok (.iadd, 1) := by decide +kernel
theorem dL_law_1130 : decode cL_law 1130 = .ok (.iaload, 1) := by decide +kernel
theorem dL_law_1131 : decode cL_law 1131 = .ok (.aload_n 0, 1) := by decide +kernel
theorem dL_law_1132 : decode cL_law 1132 = .ok (.iload_n 3, 1) := by decide +kernel
theorem dL_law_1133 : decode cL_law 1133 = .ok (.iconst 3, 1) := by decide +kernel
theorem dL_law_1134 : decode cL_law 1134 = .ok (.iadd, 1) := by decide +kernel
theorem dL_law_1135 : decode cL_law 1135 = .ok (.iaload, 1) := by decide +kernel
theorem dL_law_1136 : decode cL_law 1136 = .ok (.aload_n 0, 1) := by decide +kernel
theorem dL_law_1137 : decode cL_law 1137 = .ok (.iload_n 3, 1) := by decide +kernel
theorem dL_law_1138 : decode cL_law 1138 = .ok (.iconst 4, 1) := by decide +kernel
theorem dL_law_1139 : decode cL_law 1139 = .ok (.iadd, 1) := by decide +kernel
theorem dL_law_1140 : decode cL_law 1140 = .ok (.iaload, 1) := by decide +kernel
theorem dL_law_1141 : decode cL_law 1141 = .ok (.aload_n 0, 1) := by decide +kernel
theorem dL_law_1142 : decode cL_law 1142 = .ok (.iload_n 3, 1) := by decide +kernel
theorem dL_law_1143 : decode cL_law 1143 = .ok (.iconst 5, 1) := by decide +kernel
theorem dL_law_1144 : decode cL_law 1144 = .ok (.iadd, 1) := by decide +kernel
theorem dL_law_1145 : decode cL_law 1145 = .ok (.iaload, 1) := by decide +kernel
theorem dL_law_1146 : decode cL_law 1146 = .ok (.aload_n 0, 1) := by decide +kernel
theorem dL_law_1147 : decode cL_law 1147 = .ok (.iload_n 3, 1) := by decide +kernel
theorem dL_law_1148 : decode cL_law 1148 = .ok (.bipush 6, 2) := by decide +kernel
theorem dL_law_1150 : decode cL_law 1150 = .ok (.iadd, 1) := by decide +kernel
theorem dL_law_1151 : decode cL_law 1151 = .ok (.iaload, 1) := by decide +kernel
theorem dL_law_1152 : decode cL_law 1152 = .ok (.invokevirtual 162, 3) := by decide +kernel
theorem dL_law_1155 : decode cL_law 1155 = .ok (.aload_n 2, 1) := by decide +kernel
theorem dL_law_1156 : decode cL_law 1156 = .ok (.aload_n 0, 1) := by decide +kernel
theorem dL_law_1157 : decode cL_law 1157 = .ok (.iload_n 3, 1) := by decide +kernel
theorem dL_law_1158 : decode cL_law 1158 = .ok (.iconst 1, 1) := by decide +kernel
theorem dL_law_1159 : decode cL_law 1159 = .ok (.iadd, 1) := by decide +kernel
theorem dL_law_1160 : decode cL_law 1160 = .ok (.iaload, 1) := by decide +kernel
theorem dL_law_1161 : decode cL_law 1161 = .ok (.aload_n 0, 1) := by decide +kernel
theorem dL_law_1162 : decode cL_law 1162 = .ok (.iload_n 3, 1) := by decide +kernel
theorem dL_law_1163 : decode cL_law 1163 = .ok (.iconst 2, 1) := by decide +kernel
theorem dL_law_1164 : decode cL_law 1164 = .ok (.iadd, 1) := by decide +kernel
theorem dL_law_1165 : decode cL_law 1165 = .ok (.iaload, 1) := by decide +kernel
theorem dL_law_1166 : decode cL_law 1166 = .ok (.aload_n 0, 1) := by decide +kernel
theorem dL_law_1167 : decode cL_law 1167 = .ok (.iload_n 3, 1) := by decide +kernel
theorem dL_law_1168 : decode cL_law 1168 = .ok (.iconst 3, 1) := by decide +kernel
theorem dL_law_1169 : decode cL_law 1169 = .ok (.iadd, 1) := by decide +kernel
theorem dL_law_1170 : decode cL_law 1170 = .ok (.iaload, 1) := by decide +kernel
theorem dL_law_1171 : decode cL_law 1171 = .ok (.aload_n 0, 1) := by decide +kernel
theorem dL_law_1172 : decode cL_law 1172 = .ok (.iload_n 3, 1) := by decide +kernel
theorem dL_law_1173 : decode cL_law 1173 = .ok (.iconst 4, 1) := by decide +kernel
theorem dL_law_1174 : decode cL_law 1174 = .ok (.iadd, 1) := by decide +kernel
theorem dL_law_1175 : decode cL_law 1175 = .ok (.iaload, 1) := by decide +kernel
theorem dL_law_1176 : decode cL_law 1176 = .ok (.aload_n 0, 1) := by decide +kernel
theorem dL_law_1177 : decode cL_law 1177 = .ok (.iload_n 3, 1) := by decide +kernel
theorem dL_law_1178 : decode cL_law 1178 = .ok (.iconst 5, 1) := by decide +kernel
theorem dL_law_1179 : decode cL_law 1179 = .ok (.iadd, 1) := by decide +kernel
theorem dL_law_1180 : decode cL_law 1180 = .ok (.iaload, 1) := by decide +kernel
theorem dL_law_1181 : decode cL_law 1181 = .ok (.aload_n 0, 1) := by decide +kernel
theorem dL_law_1182 : decode cL_law 1182 = .ok (.iload_n 3, 1) := by decide +kernel
theorem dL_law_1183 : decode cL_law 1183 = .ok (.bipush 6, 2) := by decide +kernel
theorem dL_law_1185 : decode cL_law 1185 = .ok (.iadd, 1) := by decide +kernel
theorem dL_law_1186 : decode cL_law 1186 = .ok (.iaload, 1) := by decide +kernel
theorem dL_law_1187 : decode cL_law 1187 = .ok (.invokevirtual 166, 3) := by decide +kernel
theorem dL_law_1190 : decode cL_law 1190 = .ok (.if_icmp .eq 77, 3) := by decide +kernel
theorem dL_law_1193 : decode cL_law 1193 = .ok (.iconst 0, 1) := by decide +kernel
theorem dL_law_1194 : decode cL_law 1194 = .ok (.ireturn, 1) := by decide +kernel
theorem dL_law_1195 : decode cL_law 1195 = .ok (.aload_n 1, 1) := by decide +kernel
theorem dL_law_1196 : decode cL_law 1196 = .ok (.invokevirtual 167, 3) := by decide +kernel
theorem dL_law_1199 : decode cL_law 1199 = .ok (.aload_n 2, 1) := by decide +kernel
theorem dL_law_1200 : decode cL_law 1200 = .ok (.invokevirtual 170, 3) := by decide +kernel
theorem dL_law_1203 : decode cL_law 1203 = .ok (.if_icmp .eq 64, 3) := by decide +kernel
theorem dL_law_1206 : decode cL_law 1206 = .ok (.iconst 0, 1) := by decide +kernel
theorem dL_law_1207 : decode cL_law 1207 = .ok (.ireturn, 1) := by decide +kernel
theorem dL_law_1208 : decode cL_law 1208 = .ok (.aload_n 1, 1) := by decide +kernel
theorem dL_law_1209 : decode cL_law 1209 = .ok (.invokevirtual 171, 3) := by decide +kernel
theorem dL_law_1212 : decode cL_law 1212 = .ok (.aload_n 2, 1) := by decide +kernel
theorem dL_law_1213 : decode cL_law 1213 = .ok (.invokevirtual 174, 3) := by decide +kernel
theorem dL_law_1216 : decode cL_law 1216 = .ok (.if_icmp .eq 51, 3) := by decide +kernel
theorem dL_law_1219 : decode cL_law 1219 = .ok (.iconst 0, 1) := by decide +kernel
theorem dL_law_1220 : decode cL_law 1220 = .ok (.ireturn, 1) := by decide +kernel
theorem dL_law_1221 : decode cL_law 1221 = .ok (.aload_n 1, 1) := by decide +kernel
theorem dL_law_1222 : decode cL_law 1222 = .ok (.aload_n 0, 1) := by decide +kernel
theorem dL_law_1223 : decode cL_law 1223 = .ok (.iload_n 3, 1) := by decide +kernel
theorem dL_law_1224 : decode cL_law 1224 = .ok (.iconst 1, 1) := by decide +kernel
theorem dL_law_1225 : decode cL_law 1225 = .ok (.iadd, 1) := by decide +kernel
theorem dL_law_1226 : decode cL_law 1226 = .ok (.iaload, 1) := by decide +kernel
theorem dL_law_1227 : decode cL_law 1227 = .ok (.invokevirtual 175, 3) := by decide +kernel
theorem dL_law_1230 : decode cL_law 1230 = .ok (.aload_n 2, 1) := by decide +kernel
theorem dL_law_1231 : decode cL_law 1231 = .ok (.aload_n 0, 1) := by decide +kernel
theorem dL_law_1232 : decode cL_law 1232 = .ok (.iload_n 3, 1) := by decide +kernel
theorem dL_law_1233 : decode cL_law 1233 = .ok (.iconst 1, 1) := by decide +kernel
theorem dL_law_1234 : decode cL_law 1234 = .ok (.iadd, 1) := by decide +kernel
theorem dL_law_1235 : decode cL_law 1235 = .ok (.iaload, 1) := by decide +kernel
theorem dL_law_1236 : decode cL_law 1236 = .ok (.invokevirtual 178, 3) := by decide +kernel
theorem dL_law_1239 : decode cL_law 1239 = .ok (.if_icmp .eq 28, 3) := by decide +kernel
theorem dL_law_1242 : decode cL_law 1242 = .ok (.iconst 0, 1) := by decide +kernel
theorem dL_law_1243 : decode cL_law 1243 = .ok (.ireturn, 1) := by decide +kernel
theorem dL_law_1244 : decode cL_law 1244 = .ok (.aload_n 1, 1) := by decide +kernel
theorem dL_law_1245 : decode cL_law 1245 = .ok (.aload_n 0, 1) := by decide +kernel
theorem dL_law_1246 : decode cL_law 1246 = .ok (.iload_n 3, 1) := by decide +kernel
theorem dL_law_1247 : decode cL_law 1247 = .ok (.iconst 1, 1) := by decide +kernel
theorem dL_law_1248 : decode cL_law 1248 = .ok (.iadd, 1) := by decide +kernel
theorem dL_law_1249 : decode cL_law 1249 = .ok (.iaload, 1) := by decide +kernel
theorem dL_law_1250 : decode cL_law 1250 = .ok (.invokevirtual 179, 3) := by decide +kernel
theorem dL_law_1253 : decode cL_law 1253 = .ok (.aload_n 2, 1) := by decide +kernel
theorem dL_law_1254 : decode cL_law 1254 = .ok (.aload_n 0, 1) := by decide +kernel
theorem dL_law_1255 : decode cL_law 1255 = .ok (.iload_n 3, 1) := by decide +kernel
theorem dL_law_1256 : decode cL_law 1256 = .ok (.iconst 1, 1) := by decide +kernel
theorem dL_law_1257 : decode cL_law 1257 = .ok (.iadd, 1) := by decide +kernel
theorem dL_law_1258 : decode cL_law 1258 = .ok (.iaload, 1) := by decide +kernel
theorem dL_law_1259 : decode cL_law 1259 = .ok (.invokevirtual 182, 3) := by decide +kernel
theorem dL_law_1262 : decode cL_law 1262 = .ok (.if_icmp .eq 5, 3) := by decide +kernel
theorem dL_law_1265 : decode cL_law 1265 = .ok (.iconst 0, 1) := by decide +kernel
theorem dL_law_1266 : decode cL_law 1266 = .ok (.ireturn, 1) := by decide +kernel
theorem dL_law_1267 : decode cL_law 1267 = .ok (.iinc 3 7, 3) := by decide +kernel
theorem dL_law_1270 : decode cL_law 1270 = .ok (.goto (-1252), 3) := by decide +kernel
theorem dL_law_1273 : decode cL_law 1273 = .ok (.iconst 1, 1) := by decide +kernel
theorem dL_law_1274 : decode cL_law 1274 = .ok (.ireturn, 1) := by decide +kernel
abbrev vwCl : List vw_C := [(RX0, TX0, 11), (RX2, TX2, 8), (RX3, TX3, 4), (RX4, TX4, 16), (RX5, TX5, 2), (RX6, TX6, 2), (RX9, TX9, 2), (RX10, TX10, 5), (RX11, TX11, 42), (RX12, TX12, 7)]

