theorem dL_law_33 : decode cL_law 33 = .ok (.tableswitch 1234 0 40 #[179, 202, 225, 248, 271, 294, 327, 350, 373, 386, 409, 432, 465, 518, 541, 564, 587, 610, 643, 666, 679, 702, 715, 728, 751, 764, 797, 830, 853, 886, 919, 952, 975, 998, 1031, 1074, 1087, 1162, 1175, 1188, 1211], 179) := by decide +kernel
theorem gdL_law_0 : ckS (List.drop 0 cL_law.data.toList) 0 [(0, .new 7, 3), (3, .dup, 1), (4, .invokespecial 9, 3), (7, .astore_n 1, 1), (8, .new 10, 3), (11, .dup, 1), (12, .invokespecial 12, 3), (15, .astore_n 2, 1), (16, .iconst 0, 1), (17, .istore_n 3, 1), (18, .iload_n 3, 1), (19, .aload_n 0, 1), (20, .arraylength, 1), (21, .bipush 7, 2), (23, .isub, 1), (24, .if_icmp .gt 1249, 3), (27, .aload_n 0, 1), (28, .iload_n 3, 1), (29, .iaload, 1), (30, .bipush 63, 2), (32, .iand, 1), (212, .aload_n 1, 1), (213, .aload_n 0, 1), (214, .iload_n 3, 1), (215, .iconst 1, 1), (216, .iadd, 1), (217, .iaload, 1), (218, .invokevirtual 13, 3), (221, .pop, 1), (222, .aload_n 2, 1), (223, .aload_n 0, 1), (224, .iload_n 3, 1), (225, .iconst 1, 1), (226, .iadd, 1), (227, .iaload, 1), (228, .invokevirtual 17, 3), (231, .pop, 1), (232, .goto 1035, 3), (235, .aload_n 1, 1), (236, .aload_n 0, 1)] = true := by decide +kernel
theorem dL_law_0 : decode cL_law 0 = .ok (.new 7, 3) := ckS_g gdL_law_0 0 rfl
theorem dL_law_3 : decode cL_law 3 = .ok (.dup, 1) := ckS_g gdL_law_0 1 rfl
theorem dL_law_4 : decode cL_law 4 = .ok (.invokespecial 9, 3) := ckS_g gdL_law_0 2 rfl
theorem dL_law_7 : decode cL_law 7 = .ok (.astore_n 1, 1) := ckS_g gdL_law_0 3 rfl
theorem dL_law_8 : decode cL_law 8 = .ok (.new 10, 3) := ckS_g gdL_law_0 4 rfl
theorem dL_law_11 : decode cL_law 11 = .ok (.dup, 1) := ckS_g gdL_law_0 5 rfl
theorem dL_law_12 : decode cL_law 12 = .ok (.invokespecial 12, 3) := ckS_g gdL_law_0 6 rfl
theorem dL_law_15 : decode cL_law 15 = .ok (.astore_n 2, 1) := ckS_g gdL_law_0 7 rfl
theorem dL_law_16 : decode cL_law 16 = .ok (.iconst 0, 1) := ckS_g gdL_law_0 8 rfl
theorem dL_law_17 : decode cL_law 17 = .ok (.istore_n 3, 1) := ckS_g gdL_law_0 9 rfl
theorem dL_law_18 : decode cL_law 18 = .ok (.iload_n 3, 1) := ckS_g gdL_law_0 10 rfl
theorem dL_law_19 : decode cL_law 19 = .ok (.aload_n 0, 1) := ckS_g gdL_law_0 11 rfl
theorem dL_law_20 : decode cL_law 20 = .ok (.arraylength, 1) := ckS_g gdL_law_0 12 rfl
theorem dL_law_21 : decode cL_law 21 = .ok (.bipush 7, 2) := ckS_g gdL_law_0 13 rfl
theorem dL_law_23 : decode cL_law 23 = .ok (.isub, 1) := ckS_g gdL_law_0 14 rfl
theorem dL_law_24 : decode cL_law 24 = .ok (.if_icmp .gt 1249, 3) := ckS_g gdL_law_0 15 rfl
theorem dL_law_27 : decode cL_law 27 = .ok (.aload_n 0, 1) := ckS_g gdL_law_0 16 rfl
theorem dL_law_28 : decode cL_law 28 = .ok (.iload_n 3, 1) := ckS_g gdL_law_0 17 rfl
theorem dL_law_29 : decode cL_law 29 = .ok (.iaload, 1) := ckS_g gdL_law_0 18 rfl
theorem dL_law_30 : decode cL_law 30 = .ok (.bipush 63, 2) := ckS_g gdL_law_0 19 rfl
theorem dL_law_32 : decode cL_law 32 = .ok (.iand, 1) := ckS_g gdL_law_0 20 rfl
theorem dL_law_212 : decode cL_law 212 = .ok (.aload_n 1, 1) := ckS_g gdL_law_0 21 rfl
theorem dL_law_213 : decode cL_law 213 = .ok (.aload_n 0, 1) := ckS_g gdL_law_0 22 rfl
theorem dL_law_214 : decode cL_law 214 = .ok (.iload_n 3, 1) := ckS_g gdL_law_0 23 rfl
theorem dL_law_215 : decode cL_law 215 = .ok (.iconst 1, 1) := ckS_g gdL_law_0 24 rfl
theorem dL_law_216 : decode cL_law 216 = .ok (.iadd, 1) := ckS_g gdL_law_0 25 rfl
theorem dL_law_217 : decode cL_law 217 = .ok (.iaload, 1) := ckS_g gdL_law_0 26 rfl
theorem dL_law_218 : decode cL_law 218 = .ok (.invokevirtual 13, 3) := ckS_g gdL_law_0 27 rfl
theorem dL_law_221 : decode cL_law 221 = .ok (.pop, 1) := ckS_g gdL_law_0 28 rfl
theorem dL_law_222 : decode cL_law 222 = .ok (.aload_n 2, 1) := ckS_g gdL_law_0 29 rfl
theorem dL_law_223 : decode cL_law 223 = .ok (.aload_n 0, 1) := ckS_g gdL_law_0 30 rfl
theorem dL_law_224 : decode cL_law 224 = .ok (.iload_n 3, 1) := ckS_g gdL_law_0 31 rfl
theorem dL_law_225 : decode cL_law 225 = .ok (.iconst 1, 1) := ckS_g gdL_law_0 32 rfl
theorem dL_law_226 : decode cL_law 226 = .ok (.iadd, 1) := ckS_g gdL_law_0 33 rfl
theorem dL_law_227 : decode cL_law 227 = .ok (.iaload, 1) := ckS_g gdL_law_0 34 rfl
theorem dL_law_228 : decode cL_law 228 = .ok (.invokevirtual 17, 3) := ckS_g gdL_law_0 35 rfl
theorem dL_law_231 : decode cL_law 231 = .ok (.pop, 1) := ckS_g gdL_law_0 36 rfl
theorem dL_law_232 : decode cL_law 232 = .ok (.goto 1035, 3) := ckS_g gdL_law_0 37 rfl
theorem dL_law_235 : decode cL_law 235 = .ok (.aload_n 1, 1) := ckS_g gdL_law_0 38 rfl
theorem dL_law_236 : decode cL_law 236 = .ok (.aload_n 0, 1) := ckS_g gdL_law_0 39 rfl
theorem gdL_law_237 : ckS (List.drop 237 cL_law.data.toList) 237 [(237, .iload_n 3, 1), (238, .iconst 1, 1), (239, .iadd, 1), (240, .iaload, 1), (241, .invokevirtual 18, 3), (244, .pop, 1), (245, .aload_n 2, 1), (246, .aload_n 0, 1), (247, .iload_n 3, 1), (248, .iconst 1, 1), (249, .iadd, 1), (250, .iaload, 1), (251, .invokevirtual 21, 3), (254, .pop, 1), (255, .goto 1012, 3), (258, .aload_n 1, 1), (259, .aload_n 0, 1), (260, .iload_n 3, 1), (261, .iconst 1, 1), (262, .iadd, 1), (263, .iaload, 1), (264, .invokevirtual 22, 3), (267, .pop, 1), (268, .aload_n 2, 1), (269, .aload_n 0, 1), (270, .iload_n 3, 1), (271, .iconst 1, 1), (272, .iadd, 1), (273, .iaload, 1), (274, .invokevirtual 25, 3), (277, .pop, 1), (278, .goto 989, 3), (281, .aload_n 1, 1), (282, .aload_n 0, 1), (283, .iload_n 3, 1), (284, .iconst 1, 1), (285, .iadd, 1), (286, .iaload, 1), (287, .invokevirtual 26, 3), (290, .pop, 1)] = true := by decide +kernel
theorem dL_law_237 : decode cL_law 237 = .ok (.iload_n 3, 1) := ckS_g gdL_law_237 0 rfl
theorem dL_law_238 : decode cL_law 238 = .ok (.iconst 1, 1) := ckS_g gdL_law_237 1 rfl
theorem dL_law_239 : decode cL_law 239 = .ok (.iadd, 1) := ckS_g gdL_law_237 2 rfl
theorem dL_law_240 : decode cL_law 240 = .ok (.iaload, 1) := ckS_g gdL_law_237 3 rfl
theorem dL_law_241 : decode cL_law 241 = .ok (.invokevirtual 18, 3) := ckS_g gdL_law_237 4 rfl
theorem dL_law_244 : decode cL_law 244 = .ok (.pop, 1) := ckS_g gdL_law_237 5 rfl
theorem dL_law_245 : decode cL_law 245 = .ok (.aload_n 2, 1) := ckS_g gdL_law_237 6 rfl
theorem dL_law_246 : decode cL_law 246 = .ok (.aload_n 0, 1) := ckS_g gdL_law_237 7 rfl
theorem dL_law_247 : decode cL_law 247 = .ok (.iload_n 3, 1) := ckS_g gdL_law_237 8 rfl
theorem dL_law_248 : decode cL_law 248 = .ok (.iconst 1, 1) := ckS_g gdL_law_237 9 rfl
theorem dL_law_249 : decode cL_law 249 = .ok (.iadd, 1) := ckS_g gdL_law_237 10 rfl
theorem dL_law_250 : decode cL_law 250 = .ok (.iaload, 1) := ckS_g gdL_law_237 11 rfl
theorem dL_law_251 : decode cL_law 251 = .ok (.invokevirtual 21, 3) := ckS_g gdL_law_237 12 rfl
theorem dL_law_254 : decode cL_law 254 = .ok (.pop, 1) := ckS_g gdL_law_237 13 rfl
theorem dL_law_255 : decode cL_law 255 = .ok (.goto 1012, 3) := ckS_g gdL_law_237 14 rfl
theorem dL_law_258 : decode cL_law 258 = .ok (.aload_n 1, 1) := ckS_g gdL_law_237 15 rfl
theorem dL_law_259 : decode cL_law 259 = .ok (.aload_n 0, 1) := ckS_g gdL_law_237 16 rfl
theorem dL_law_260 : decode cL_law 260 = .ok (.iload_n 3, 1) := ckS_g gdL_law_237 17 rfl
theorem dL_law_261 : decode cL_law 261 = .ok (.iconst 1, 1) := ckS_g gdL_law_237 18 rfl
theorem dL_law_262 : decode cL_law 262 = .ok (.iadd, 1) := ckS_g gdL_law_237 19 rfl
theorem dL_law_263 : decode cL_law 263 = .ok (.iaload, 1) := ckS_g gdL_law_237 20 rfl
theorem dL_law_264 : decode cL_law 264 = .ok (.invokevirtual 22, 3) := ckS_g gdL_law_237 21 rfl
theorem dL_law_267 : decode cL_law 267 = .ok (.pop, 1) := ckS_g gdL_law_237 22 rfl
theorem dL_law_268 : decode cL_law 268 = .ok (.aload_n 2, 1) := ckS_g gdL_law_237 23 rfl
theorem dL_law_269 : decode cL_law 269 = .ok (.aload_n 0, 1) := ckS_g gdL_law_237 24 rfl
theorem dL_law_270 : decode cL_law 270 = .ok (.iload_n 3, 1) := ckS_g gdL_law_237 25 rfl
theorem dL_law_271 : decode cL_law 271 = .ok (.iconst 1, 1) := ckS_g gdL_law_237 26 rfl
theorem dL_law_272 : decode cL_law 272 = .ok (.iadd, 1) := ckS_g gdL_law_237 27 rfl
theorem dL_law_273 : decode cL_law 273 = .ok (.iaload, 1) := ckS_g gdL_law_237 28 rfl
theorem dL_law_274 : decode cL_law 274 = .ok (.invokevirtual 25, 3) := ckS_g gdL_law_237 29 rfl
theorem dL_law_277 : decode cL_law 277 = .ok (.pop, 1) := ckS_g gdL_law_237 30 rfl
theorem dL_law_278 : decode cL_law 278 = .ok (.goto 989, 3) := ckS_g gdL_law_237 31 rfl
theorem dL_law_281 : decode cL_law 281 = .ok (.aload_n 1, 1) := ckS_g gdL_law_237 32 rfl
theorem dL_law_282 : decode cL_law 282 = .ok (.aload_n 0, 1) := ckS_g gdL_law_237 33 rfl
theorem dL_law_283 : decode cL_law 283 = .ok (.iload_n 3, 1) := ckS_g gdL_law_237 34 rfl
theorem dL_law_284 : decode cL_law 284 = .ok (.iconst 1, 1) := ckS_g gdL_law_237 35 rfl
theorem dL_law_285 : decode cL_law 285 = .ok (.iadd, 1) := ckS_g gdL_law_237 36 rfl
theorem dL_law_286 : decode cL_law 286 = .ok (.iaload, 1) := ckS_g gdL_law_237 37 rfl
theorem dL_law_287 : decode cL_law 287 = .ok (.invokevirtual 26, 3) := ckS_g gdL_law_237 38 rfl
theorem dL_law_290 : decode cL_law 290 = .ok (.pop, 1) := ckS_g gdL_law_237 39 rfl
theorem gdL_law_291 : ckS (List.drop 291 cL_law.data.toList) 291 [(291, .aload_n 2, 1), (292, .aload_n 0, 1), (293, .iload_n 3, 1), (294, .iconst 1, 1), (295, .iadd, 1), (296, .iaload, 1), (297, .invokevirtual 29, 3), (300, .pop, 1), (301, .goto 966, 3), (304, .aload_n 1, 1), (305, .aload_n 0, 1), (306, .iload_n 3, 1), (307, .iconst 1, 1), (308, .iadd, 1), (309, .iaload, 1), (310, .invokevirtual 30, 3), (313, .pop, 1), (314, .aload_n 2, 1), (315, .aload_n 0, 1), (316, .iload_n 3, 1), (317, .iconst 1, 1), (318, .iadd, 1), (319, .iaload, 1), (320, .invokevirtual 33, 3), (323, .pop, 1), (324, .goto 943, 3), (327, .aload_n 1, 1), (328, .aload_n 0, 1), (329, .iload_n 3, 1), (330, .iconst 1, 1), (331, .iadd, 1), (332, .iaload, 1), (333, .aload_n 0, 1), (334, .iload_n 3, 1), (335, .iconst 2, 1), (336, .iadd, 1), (337, .iaload, 1), (338, .invokevirtual 34, 3), (341, .pop, 1), (342, .aload_n 2, 1)] = true := by decide +kernel
theorem dL_law_291 : decode cL_law 291 = .ok (.aload_n 2, 1) := ckS_g gdL_law_291 0 rfl
theorem dL_law_292 : decode cL_law 292 = .ok (.aload_n 0, 1) := ckS_g gdL_law_291 1 rfl
theorem dL_law_293 : decode cL_law 293 = .ok (.iload_n 3, 1) := ckS_g gdL_law_291 2 rfl
theorem dL_law_294 : decode cL_law 294 = .ok (.iconst 1, 1) := ckS_g gdL_law_291 3 rfl
theorem dL_law_295 : decode cL_law 295 = .ok (.iadd, 1) := ckS_g gdL_law_291 4 rfl
theorem dL_law_296 : decode cL_law 296 = .ok (.iaload, 1) := ckS_g gdL_law_291 5 rfl
theorem dL_law_297 : decode cL_law 297 = .ok (.invokevirtual 29, 3) := ckS_g gdL_law_291 6 rfl
theorem dL_law_300 : decode cL_law 300 = .ok (.pop, 1) := ckS_g gdL_law_291 7 rfl
theorem dL_law_301 : decode cL_law 301 = .ok (.goto 966, 3) := ckS_g gdL_law_291 8 rfl
theorem dL_law_304 : decode cL_law 304 = .ok (.aload_n 1, 1) := ckS_g gdL_law_291 9 rfl
theorem dL_law_305 : decode cL_law 305 = .ok (.aload_n 0, 1) := ckS_g gdL_law_291 10 rfl
theorem dL_law_306 : decode cL_law 306 = .ok (.iload_n 3, 1) := ckS_g gdL_law_291 11 rfl
theorem dL_law_307 : decode cL_law 307 = .ok (.iconst 1, 1) := ckS_g gdL_law_291 12 rfl
theorem dL_law_308 : decode cL_law 308 = .ok (.iadd, 1) := ckS_g gdL_law_291 13 rfl
theorem dL_law_309 : decode cL_law 309 = .ok (.iaload, 1) := ckS_g gdL_law_291 14 rfl
theorem dL_law_310 : decode cL_law 310 = .ok (.invokevirtual 30, 3) := ckS_g gdL_law_291 15 rfl
theorem dL_law_313 : decode cL_law 313 = .ok (.pop, 1) := ckS_g gdL_law_291 16 rfl
theorem dL_law_314 : decode cL_law 314 = .ok (.aload_n 2, 1) := ckS_g gdL_law_291 17 rfl
theorem dL_law_315 : decode cL_law 315 = .ok (.aload_n 0, 1) := ckS_g gdL_law_291 18 rfl
theorem dL_law_316 : decode cL_law 316 = .ok (.iload_n 3, 1) := ckS_g gdL_law_291 19 rfl
theorem dL_law_317 : decode cL_law 317 = .ok (.iconst 1, 1) := ckS_g gdL_law_291 20 rfl
theorem dL_law_318 : decode cL_law 318 = .ok (.iadd, 1) := ckS_g gdL_law_291 21 rfl
theorem dL_law_319 : decode cL_law 319 = .ok (.iaload, 1) := ckS_g gdL_law_291 22 rfl
theorem dL_law_320 : decode cL_law 320 = .ok (.invokevirtual 33, 3) := ckS_g gdL_law_291 23 rfl
theorem dL_law_323 : decode cL_law 323 = .ok (.pop, 1) := ckS_g gdL_law_291 24 rfl
theorem dL_law_324 : decode cL_law 324 = .ok (.goto 943, 3) := ckS_g gdL_law_291 25 rfl
theorem dL_law_327 : decode cL_law 327 = .ok (.aload_n 1, 1) := ckS_g gdL_law_291 26 rfl
theorem dL_law_328 : decode cL_law 328 = .ok (.aload_n 0, 1) := ckS_g gdL_law_291 27 rfl
theorem dL_law_329 : decode cL_law 329 = .ok (.iload_n 3, 1) := ckS_g gdL_law_291 28 rfl
theorem dL_law_330 : decode cL_law 330 = .ok (.iconst 1, 1) := ckS_g gdL_law_291 29 rfl
theorem dL_law_331 : decode cL_law 331 = .ok (.iadd, 1) := ckS_g gdL_law_291 30 rfl
theorem dL_law_332 : decode cL_law 332 = .ok (.iaload, 1) := ckS_g gdL_law_291 31 rfl
theorem dL_law_333 : decode cL_law 333 = .ok (.aload_n 0, 1) := ckS_g gdL_law_291 32 rfl
theorem dL_law_334 : decode cL_law 334 = .ok (.iload_n 3, 1) := ckS_g gdL_law_291 33 rfl
theorem dL_law_335 : decode cL_law 335 = .ok (.iconst 2, 1) := ckS_g gdL_law_291 34 rfl
theorem dL_law_336 : decode cL_law 336 = .ok (.iadd, 1) := ckS_g gdL_law_291 35 rfl
theorem dL_law_337 : decode cL_law 337 = .ok (.iaload, 1) := ckS_g gdL_law_291 36 rfl
theorem dL_law_338 : decode cL_law 338 = .ok (.invokevirtual 34, 3) := ckS_g gdL_law_291 37 rfl
theorem dL_law_341 : decode cL_law 341 = .ok (.pop, 1) := ckS_g gdL_law_291 38 rfl
theorem dL_law_342 : decode cL_law 342 = .ok (.aload_n 2, 1) := ckS_g gdL_law_291 39 rfl
theorem gdL_law_343 : ckS (List.drop 343 cL_law.data.toList) 343 [(343, .aload_n 0, 1), (344, .iload_n 3, 1), (345, .iconst 1, 1), (346, .iadd, 1), (347, .iaload, 1), (348, .aload_n 0, 1), (349, .iload_n 3, 1), (350, .iconst 2, 1), (351, .iadd, 1), (352, .iaload, 1), (353, .invokevirtual 38, 3), (356, .pop, 1), (357, .goto 910, 3), (360, .aload_n 1, 1), (361, .aload_n 0, 1), (362, .iload_n 3, 1), (363, .iconst 1, 1), (364, .iadd, 1), (365, .iaload, 1), (366, .invokevirtual 39, 3), (369, .pop, 1), (370, .aload_n 2, 1), (371, .aload_n 0, 1), (372, .iload_n 3, 1), (373, .iconst 1, 1), (374, .iadd, 1), (375, .iaload, 1), (376, .invokevirtual 42, 3), (379, .pop, 1), (380, .goto 887, 3), (383, .aload_n 1, 1), (384, .aload_n 0, 1), (385, .iload_n 3, 1), (386, .iconst 1, 1), (387, .iadd, 1), (388, .iaload, 1), (389, .invokevirtual 43, 3), (392, .pop, 1), (393, .aload_n 2, 1), (394, .aload_n 0, 1)] = true := by decide +kernel
theorem dL_law_343 : decode cL_law 343 = .ok (.aload_n 0, 1) := ckS_g gdL_law_343 0 rfl
theorem dL_law_344 : decode cL_law 344 = .ok (.iload_n 3, 1) := ckS_g gdL_law_343 1 rfl
theorem dL_law_345 : decode cL_law 345 = .ok (.iconst 1, 1) := ckS_g gdL_law_343 2 rfl
theorem dL_law_346 : decode cL_law 346 = .ok (.iadd, 1) := ckS_g gdL_law_343 3 rfl
theorem dL_law_347 : decode cL_law 347 = .ok (.iaload, 1) := ckS_g gdL_law_343 4 rfl
theorem dL_law_348 : decode cL_law 348 = .ok (.aload_n 0, 1) := ckS_g gdL_law_343 5 rfl
theorem dL_law_349 : decode cL_law 349 = .ok (.iload_n 3, 1) := ckS_g gdL_law_343 6 rfl
theorem dL_law_350 : decode cL_law 350 = .ok (.iconst 2, 1) := ckS_g gdL_law_343 7 rfl
theorem dL_law_351 : decode cL_law 351 = .ok (.iadd, 1) := ckS_g gdL_law_343 8 rfl
theorem dL_law_352 : decode cL_law 352 = .ok (.iaload, 1) := ckS_g gdL_law_343 9 rfl
theorem dL_law_353 : decode cL_law 353 = .ok (.invokevirtual 38, 3) := ckS_g gdL_law_343 10 rfl
theorem dL_law_356 : decode cL_law 356 = .ok (.pop, 1) := ckS_g gdL_law_343 11 rfl
theorem dL_law_357 : decode cL_law 357 = .ok (.goto 910, 3) := ckS_g gdL_law_343 12 rfl
theorem dL_law_360 : decode cL_law 360 = .ok (.aload_n 1, 1) := ckS_g gdL_law_343 13 rfl
theorem dL_law_361 : decode cL_law 361 = .ok (.aload_n 0, 1) := ckS_g gdL_law_343 14 rfl
theorem dL_law_362 : decode cL_law 362 = .ok (.iload_n 3, 1) := ckS_g gdL_law_343 15 rfl
theorem dL_law_363 : decode cL_law 363 = .ok (.iconst 1, 1) := ckS_g gdL_law_343 16 rfl
theorem dL_law_364 : decode cL_law 364 = .ok (.iadd, 1) := ckS_g gdL_law_343 17 rfl
theorem dL_law_365 : decode cL_law 365 = .ok (.iaload, 1) := ckS_g gdL_law_343 18 rfl
theorem dL_law_366 : decode cL_law 366 = .ok (.invokevirtual 39, 3) := ckS_g gdL_law_343 19 rfl
theorem dL_law_369 : decode cL_law 369 = .ok (.pop, 1) := ckS_g gdL_law_343 20 rfl
theorem dL_law_370 : decode cL_law 370 = .ok (.aload_n 2, 1) := ckS_g gdL_law_343 21 rfl
theorem dL_law_371 : decode cL_law 371 = .ok (.aload_n 0, 1) := ckS_g gdL_law_343 22 rfl
theorem dL_law_372 : decode cL_law 372 = .ok (.iload_n 3, 1) := ckS_g gdL_law_343 23 rfl
theorem dL_law_373 : decode cL_law 373 = .ok (.iconst 1, 1) := ckS_g gdL_law_343 24 rfl
theorem dL_law_374 : decode cL_law 374 = .ok (.iadd, 1) := ckS_g gdL_law_343 25 rfl
theorem dL_law_375 : decode cL_law 375 = .ok (.iaload, 1) := ckS_g gdL_law_343 26 rfl
theorem dL_law_376 : decode cL_law 376 = .ok (.invokevirtual 42, 3) := ckS_g gdL_law_343 27 rfl
theorem dL_law_379 : decode cL_law 379 = .ok (.pop, 1) := ckS_g gdL_law_343 28 rfl
theorem dL_law_380 : decode cL_law 380 = .ok (.goto 887, 3) := ckS_g gdL_law_343 29 rfl
theorem dL_law_383 : decode cL_law 383 = .ok (.aload_n 1, 1) := ckS_g gdL_law_343 30 rfl
theorem dL_law_384 : decode cL_law 384 = .ok (.aload_n 0, 1) := ckS_g gdL_law_343 31 rfl
theorem dL_law_385 : decode cL_law 385 = .ok (.iload_n 3, 1) := ckS_g gdL_law_343 32 rfl
theorem dL_law_386 : decode cL_law 386 = .ok (.iconst 1, 1) := ckS_g gdL_law_343 33 rfl
theorem dL_law_387 : decode cL_law 387 = .ok (.iadd, 1) := ckS_g gdL_law_343 34 rfl
theorem dL_law_388 : decode cL_law 388 = .ok (.iaload, 1) := ckS_g gdL_law_343 35 rfl
theorem dL_law_389 : decode cL_law 389 = .ok (.invokevirtual 43, 3) := ckS_g gdL_law_343 36 rfl
theorem dL_law_392 : decode cL_law 392 = .ok (.pop, 1) := ckS_g gdL_law_343 37 rfl
theorem dL_law_393 : decode cL_law 393 = .ok (.aload_n 2, 1) := ckS_g gdL_law_343 38 rfl
theorem dL_law_394 : decode cL_law 394 = .ok (.aload_n 0, 1) := ckS_g gdL_law_343 39 rfl
theorem gdL_law_395 : ckS (List.drop 395 cL_law.data.toList) 395 [(395, .iload_n 3, 1), (396, .iconst 1, 1), (397, .iadd, 1), (398, .iaload, 1), (399, .invokevirtual 46, 3), (402, .pop, 1), (403, .goto 864, 3), (406, .aload_n 1, 1), (407, .invokevirtual 47, 3), (410, .pop, 1), (411, .aload_n 2, 1), (412, .invokevirtual 51, 3), (415, .pop, 1), (416, .goto 851, 3), (419, .aload_n 1, 1), (420, .aload_n 0, 1), (421, .iload_n 3, 1), (422, .iconst 1, 1), (423, .iadd, 1), (424, .iaload, 1), (425, .invokevirtual 52, 3), (428, .pop, 1), (429, .aload_n 2, 1), (430, .aload_n 0, 1), (431, .iload_n 3, 1), (432, .iconst 1, 1), (433, .iadd, 1), (434, .iaload, 1), (435, .invokevirtual 55, 3), (438, .pop, 1), (439, .goto 828, 3), (442, .aload_n 1, 1), (443, .aload_n 0, 1), (444, .iload_n 3, 1), (445, .iconst 1, 1), (446, .iadd, 1), (447, .iaload, 1), (448, .invokevirtual 56, 3), (451, .pop, 1), (452, .aload_n 2, 1)] = true := by decide +kernel
theorem dL_law_395 : decode cL_law 395 = .ok (.iload_n 3, 1) := ckS_g gdL_law_395 0 rfl
theorem dL_law_396 : decode cL_law 396 = .ok (.iconst 1, 1) := ckS_g gdL_law_395 1 rfl
theorem dL_law_397 : decode cL_law 397 = .ok (.iadd, 1) := ckS_g gdL_law_395 2 rfl
theorem dL_law_398 : decode cL_law 398 = .ok (.iaload, 1) := ckS_g gdL_law_395 3 rfl
theorem dL_law_399 : decode cL_law 399 = .ok (.invokevirtual 46, 3) := ckS_g gdL_law_395 4 rfl
theorem dL_law_402 : decode cL_law 402 = .ok (.pop, 1) := ckS_g gdL_law_395 5 rfl
theorem dL_law_403 : decode cL_law 403 = .ok (.goto 864, 3) := ckS_g gdL_law_395 6 rfl
theorem dL_law_406 : decode cL_law 406 = .ok (.aload_n 1, 1) := ckS_g gdL_law_395 7 rfl
theorem dL_law_407 : decode cL_law 407 = .ok (.invokevirtual 47, 3) := ckS_g gdL_law_395 8 rfl
theorem dL_law_410 : decode cL_law 410 = .ok (.pop, 1) := ckS_g gdL_law_395 9 rfl
theorem dL_law_411 : decode cL_law 411 = .ok (.aload_n 2, 1) := ckS_g gdL_law_395 10 rfl
theorem dL_law_412 : decode cL_law 412 = .ok (.invokevirtual 51, 3) := ckS_g gdL_law_395 11 rfl
theorem dL_law_415 : decode cL_law 415 = .ok (.pop, 1) := ckS_g gdL_law_395 12 rfl
theorem dL_law_416 : decode cL_law 416 = .ok (.goto 851, 3) := ckS_g gdL_law_395 13 rfl
theorem dL_law_419 : decode cL_law 419 = .ok (.aload_n 1, 1) := ckS_g gdL_law_395 14 rfl
theorem dL_law_420 : decode cL_law 420 = .ok (.aload_n 0, 1) := ckS_g gdL_law_395 15 rfl
theorem dL_law_421 : decode cL_law 421 = .ok (.iload_n 3, 1) := ckS_g gdL_law_395 16 rfl
theorem dL_law_422 : decode cL_law 422 = .ok (.iconst 1, 1) := ckS_g gdL_law_395 17 rfl
theorem dL_law_423 : decode cL_law 423 = .ok (.iadd, 1) := ckS_g gdL_law_395 18 rfl
theorem dL_law_424 : decode cL_law 424 = .ok (.iaload, 1) := ckS_g gdL_law_395 19 rfl
theorem dL_law_425 : decode cL_law 425 = .ok (.invokevirtual 52, 3) := ckS_g gdL_law_395 20 rfl
theorem dL_law_428 : decode cL_law 428 = .ok (.pop, 1) := ckS_g gdL_law_395 21 rfl
theorem dL_law_429 : decode cL_law 429 = .ok (.aload_n 2, 1) := ckS_g gdL_law_395 22 rfl
theorem dL_law_430 : decode cL_law 430 = .ok (.aload_n 0, 1) := ckS_g gdL_law_395 23 rfl
theorem dL_law_431 : decode cL_law 431 = .ok (.iload_n 3, 1) := ckS_g gdL_law_395 24 rfl
theorem dL_law_432 : decode cL_law 432 = .ok (.iconst 1, 1) := ckS_g gdL_law_395 25 rfl
theorem dL_law_433 : decode cL_law 433 = .ok (.iadd, 1) := ckS_g gdL_law_395 26 rfl
theorem dL_law_434 : decode cL_law 434 = .ok (.iaload, 1) := ckS_g gdL_law_395 27 rfl
theorem dL_law_435 : decode cL_law 435 = .ok (.invokevirtual 55, 3) := ckS_g gdL_law_395 28 rfl
theorem dL_law_438 : decode cL_law 438 = .ok (.pop, 1) := ckS_g gdL_law_395 29 rfl
theorem dL_law_439 : decode cL_law 439 = .ok (.goto 828, 3) := ckS_g gdL_law_395 30 rfl
theorem dL_law_442 : decode cL_law 442 = .ok (.aload_n 1, 1) := ckS_g gdL_law_395 31 rfl
theorem dL_law_443 : decode cL_law 443 = .ok (.aload_n 0, 1) := ckS_g gdL_law_395 32 rfl
theorem dL_law_444 : decode cL_law 444 = .ok (.iload_n 3, 1) := ckS_g gdL_law_395 33 rfl
theorem dL_law_445 : decode cL_law 445 = .ok (.iconst 1, 1) := ckS_g gdL_law_395 34 rfl
theorem dL_law_446 : decode cL_law 446 = .ok (.iadd, 1) := ckS_g gdL_law_395 35 rfl
theorem dL_law_447 : decode cL_law 447 = .ok (.iaload, 1) := ckS_g gdL_law_395 36 rfl
theorem dL_law_448 : decode cL_law 448 = .ok (.invokevirtual 56, 3) := ckS_g gdL_law_395 37 rfl
theorem dL_law_451 : decode cL_law 451 = .ok (.pop, 1) := ckS_g gdL_law_395 38 rfl
theorem dL_law_452 : decode cL_law 452 = .ok (.aload_n 2, 1) := ckS_g gdL_law_395 39 rfl
theorem gdL_law_453 : ckS (List.drop 453 cL_law.data.toList) 453 [(453, .aload_n 0, 1), (454, .iload_n 3, 1), (455, .iconst 1, 1), (456, .iadd, 1), (457, .iaload, 1), (458, .invokevirtual 59, 3), (461, .pop, 1), (462, .goto 805, 3), (465, .aload_n 1, 1), (466, .aload_n 0, 1), (467, .iload_n 3, 1), (468, .iconst 1, 1), (469, .iadd, 1), (470, .iaload, 1), (471, .aload_n 0, 1), (472, .iload_n 3, 1), (473, .iconst 2, 1), (474, .iadd, 1), (475, .iaload, 1), (476, .invokevirtual 60, 3), (479, .pop, 1), (480, .aload_n 2, 1), (481, .aload_n 0, 1), (482, .iload_n 3, 1), (483, .iconst 1, 1), (484, .iadd, 1), (485, .iaload, 1), (486, .aload_n 0, 1), (487, .iload_n 3, 1), (488, .iconst 2, 1), (489, .iadd, 1), (490, .iaload, 1), (491, .invokevirtual 63, 3), (494, .pop, 1), (495, .goto 772, 3), (498, .aload_n 1, 1), (499, .aload_n 0, 1), (500, .iload_n 3, 1), (501, .iconst 1, 1), (502, .iadd, 1)] = true := by decide +kernel
theorem dL_law_453 : decode cL_law 453 = .ok (.aload_n 0, 1) := ckS_g gdL_law_453 0 rfl
theorem dL_law_454 : decode cL_law 454 = .ok (.iload_n 3, 1) := ckS_g gdL_law_453 1 rfl
theorem dL_law_455 : decode cL_law 455 = .ok (.iconst 1, 1) := ckS_g gdL_law_453 2 rfl
theorem dL_law_456 : decode cL_law 456 = .ok (.iadd, 1) := ckS_g gdL_law_453 3 rfl
theorem dL_law_457 : decode cL_law 457 = .ok (.iaload, 1) := ckS_g gdL_law_453 4 rfl
theorem dL_law_458 : decode cL_law 458 = .ok (.invokevirtual 59, 3) := ckS_g gdL_law_453 5 rfl
theorem dL_law_461 : decode cL_law 461 = .ok (.pop, 1) := ckS_g gdL_law_453 6 rfl
theorem dL_law_462 : decode cL_law 462 = .ok (.goto 805, 3) := ckS_g gdL_law_453 7 rfl
theorem dL_law_465 : decode cL_law 465 = .ok (.aload_n 1, 1) := ckS_g gdL_law_453 8 rfl
theorem dL_law_466 : decode cL_law 466 = .ok (.aload_n 0, 1) := ckS_g gdL_law_453 9 rfl
theorem dL_law_467 : decode cL_law 467 = .ok (.iload_n 3, 1) := ckS_g gdL_law_453 10 rfl
theorem dL_law_468 : decode cL_law 468 = .ok (.iconst 1, 1) := ckS_g gdL_law_453 11 rfl
theorem dL_law_469 : decode cL_law 469 = .ok (.iadd, 1) := ckS_g gdL_law_453 12 rfl
theorem dL_law_470 : decode cL_law 470 = .ok (.iaload, 1) := ckS_g gdL_law_453 13 rfl
theorem dL_law_471 : decode cL_law 471 = .ok (.aload_n 0, 1) := ckS_g gdL_law_453 14 rfl
theorem dL_law_472 : decode cL_law 472 = .ok (.iload_n 3, 1) := ckS_g gdL_law_453 15 rfl
theorem dL_law_473 : decode cL_law 473 = .ok (.iconst 2, 1) := ckS_g gdL_law_453 16 rfl
theorem dL_law_474 : decode cL_law 474 = .ok (.iadd, 1) := ckS_g gdL_law_453 17 rfl
theorem dL_law_475 : decode cL_law 475 = .ok (.iaload, 1) := ckS_g gdL_law_453 18 rfl
theorem dL_law_476 : decode cL_law 476 = .ok (.invokevirtual 60, 3) := ckS_g gdL_law_453 19 rfl
theorem dL_law_479 : decode cL_law 479 = .ok (.pop, 1) := ckS_g gdL_law_453 20 rfl
theorem dL_law_480 : decode cL_law 480 = .ok (.aload_n 2, 1) := ckS_g gdL_law_453 21 rfl
theorem dL_law_481 : decode cL_law 481 = .ok (.aload_n 0, 1) := ckS_g gdL_law_453 22 rfl
theorem dL_law_482 : decode cL_law 482 = .ok (.iload_n 3, 1) := ckS_g gdL_law_453 23 rfl
theorem dL_law_483 : decode cL_law 483 = .ok (.iconst 1, 1) := ckS_g gdL_law_453 24 rfl
theorem dL_law_484 : decode cL_law 484 = .ok (.iadd, 1) := ckS_g gdL_law_453 25 rfl
theorem dL_law_485 : decode cL_law 485 = .ok (.iaload, 1) := ckS_g gdL_law_453 26 rfl
theorem dL_law_486 : decode cL_law 486 = .ok (.aload_n 0, 1) := ckS_g gdL_law_453 27 rfl
theorem dL_law_487 : decode cL_law 487 = .ok (.iload_n 3, 1) := ckS_g gdL_law_453 28 rfl
theorem dL_law_488 : decode cL_law 488 = .ok (.iconst 2, 1) := ckS_g gdL_law_453 29 rfl
theorem dL_law_489 : decode cL_law 489 = .ok (.iadd, 1) := ckS_g gdL_law_453 30 rfl
theorem dL_law_490 : decode cL_law 490 = .ok (.iaload, 1) := ckS_g gdL_law_453 31 rfl
theorem dL_law_491 : decode cL_law 491 = .ok (.invokevirtual 63, 3) := ckS_g gdL_law_453 32 rfl
theorem dL_law_494 : decode cL_law 494 = .ok (.pop, 1) := ckS_g gdL_law_453 33 rfl
theorem dL_law_495 : decode cL_law 495 = .ok (.goto 772, 3) := ckS_g gdL_law_453 34 rfl
theorem dL_law_498 : decode cL_law 498 = .ok (.aload_n 1, 1) := ckS_g gdL_law_453 35 rfl
theorem dL_law_499 : decode cL_law 499 = .ok (.aload_n 0, 1) := ckS_g gdL_law_453 36 rfl
theorem dL_law_500 : decode cL_law 500 = .ok (.iload_n 3, 1) := ckS_g gdL_law_453 37 rfl
theorem dL_law_501 : decode cL_law 501 = .ok (.iconst 1, 1) := ckS_g gdL_law_453 38 rfl
theorem dL_law_502 : decode cL_law 502 = .ok (.iadd, 1) := ckS_g gdL_law_453 39 rfl
theorem gdL_law_503 : ckS (List.drop 503 cL_law.data.toList) 503 [(503, .iaload, 1), (504, .aload_n 0, 1), (505, .iload_n 3, 1), (506, .iconst 2, 1), (507, .iadd, 1), (508, .iaload, 1), (509, .aload_n 0, 1), (510, .iload_n 3, 1), (511, .iconst 3, 1), (512, .iadd, 1), (513, .iaload, 1), (514, .aload_n 0, 1), (515, .iload_n 3, 1), (516, .iconst 4, 1), (517, .iadd, 1), (518, .iaload, 1), (519, .invokevirtual 64, 3), (522, .pop, 1), (523, .aload_n 2, 1), (524, .aload_n 0, 1), (525, .iload_n 3, 1), (526, .iconst 1, 1), (527, .iadd, 1), (528, .iaload, 1), (529, .aload_n 0, 1), (530, .iload_n 3, 1), (531, .iconst 2, 1), (532, .iadd, 1), (533, .iaload, 1), (534, .aload_n 0, 1), (535, .iload_n 3, 1), (536, .iconst 3, 1), (537, .iadd, 1), (538, .iaload, 1), (539, .aload_n 0, 1), (540, .iload_n 3, 1), (541, .iconst 4, 1), (542, .iadd, 1), (543, .iaload, 1), (544, .invokevirtual 68, 3)] = true := by decide +kernel
theorem dL_law_503 : decode cL_law 503 = .ok (.iaload, 1) := ckS_g gdL_law_503 0 rfl
theorem dL_law_504 : decode cL_law 504 = .ok (.aload_n 0, 1) := ckS_g gdL_law_503 1 rfl
theorem dL_law_505 : decode cL_law 505 = .ok (.iload_n 3, 1) := ckS_g gdL_law_503 2 rfl
theorem dL_law_506 : decode cL_law 506 = .ok (.iconst 2, 1) := ckS_g gdL_law_503 3 rfl
theorem dL_law_507 : decode cL_law 507 = .ok (.iadd, 1) := ckS_g gdL_law_503 4 rfl
theorem dL_law_508 : decode cL_law 508 = .ok (.iaload, 1) := ckS_g gdL_law_503 5 rfl
theorem dL_law_509 : decode cL_law 509 = .ok (.aload_n 0, 1) := ckS_g gdL_law_503 6 rfl
theorem dL_law_510 : decode cL_law 510 = .ok (.iload_n 3, 1) := ckS_g gdL_law_503 7 rfl
theorem dL_law_511 : decode cL_law 511 = .ok (.iconst 3, 1) := ckS_g gdL_law_503 8 rfl
theorem dL_law_512 : decode cL_law 512 = .ok (.iadd, 1) := ckS_g gdL_law_503 9 rfl
theorem dL_law_513 : decode cL_law 513 = .ok (.iaload, 1) := ckS_g gdL_law_503 10 rfl
theorem dL_law_514 : decode cL_law 514 = .ok (.aload_n 0, 1) := ckS_g gdL_law_503 11 rfl
theorem dL_law_515 : decode cL_law 515 = .ok (.iload_n 3, 1) := ckS_g gdL_law_503 12 rfl
theorem dL_law_516 : decode cL_law 516 = .ok (.iconst 4, 1) := ckS_g gdL_law_503 13 rfl
theorem dL_law_517 : decode cL_law 517 = .ok (.iadd, 1) := ckS_g gdL_law_503 14 rfl
theorem dL_law_518 : decode cL_law 518 = .ok (.iaload, 1) := ckS_g gdL_law_503 15 rfl
theorem dL_law_519 : decode cL_law 519 = .ok (.invokevirtual 64, 3) := ckS_g gdL_law_503 16 rfl
theorem dL_law_522 : decode cL_law 522 = .ok (.pop, 1) := ckS_g gdL_law_503 17 rfl
theorem dL_law_523 : decode cL_law 523 = .ok (.aload_n 2, 1) := ckS_g gdL_law_503 18 rfl
theorem dL_law_524 : decode cL_law 524 = .ok (.aload_n 0, 1) := ckS_g gdL_law_503 19 rfl
theorem dL_law_525 : decode cL_law 525 = .ok (.iload_n 3, 1) := ckS_g gdL_law_503 20 rfl
theorem dL_law_526 : decode cL_law 526 = .ok (.iconst 1, 1) := ckS_g gdL_law_503 21 rfl
theorem dL_law_527 : decode cL_law 527 = .ok (.iadd, 1) := ckS_g gdL_law_503 22 rfl
theorem dL_law_528 : decode cL_law 528 = .ok (.iaload, 1) := ckS_g gdL_law_503 23 rfl
theorem dL_law_529 : decode cL_law 529 = .ok (.aload_n 0, 1) := ckS_g gdL_law_503 24 rfl
theorem dL_law_530 : decode cL_law 530 = .ok (.iload_n 3, 1) := ckS_g gdL_law_503 25 rfl
theorem dL_law_531 : decode cL_law 531 = .ok (.iconst 2, 1) := ckS_g gdL_law_503 26 rfl
theorem dL_law_532 : decode cL_law 532 = .ok (.iadd, 1) := ckS_g gdL_law_503 27 rfl
theorem dL_law_533 : decode cL_law 533 = .ok (.iaload, 1) := ckS_g gdL_law_503 28 rfl
theorem dL_law_534 : decode cL_law 534 = .ok (.aload_n 0, 1) := ckS_g gdL_law_503 29 rfl
theorem dL_law_535 : decode cL_law 535 = .ok (.iload_n 3, 1) := ckS_g gdL_law_503 30 rfl
theorem dL_law_536 : decode cL_law 536 = .ok (.iconst 3, 1) := ckS_g gdL_law_503 31 rfl
theorem dL_law_537 : decode cL_law 537 = .ok (.iadd, 1) := ckS_g gdL_law_503 32 rfl
theorem dL_law_538 : decode cL_law 538 = .ok (.iaload, 1) := ckS_g gdL_law_503 33 rfl
theorem dL_law_539 : decode cL_law 539 = .ok (.aload_n 0, 1) := ckS_g gdL_law_503 34 rfl
theorem dL_law_540 : decode cL_law 540 = .ok (.iload_n 3, 1) := ckS_g gdL_law_503 35 rfl
theorem dL_law_541 : decode cL_law 541 = .ok (.iconst 4, 1) := ckS_g gdL_law_503 36 rfl
theorem dL_law_542 : decode cL_law 542 = .ok (.iadd, 1) := ckS_g gdL_law_503 37 rfl
theorem dL_law_543 : decode cL_law 543 = .ok (.iaload, 1) := ckS_g gdL_law_503 38 rfl
theorem dL_law_544 : decode cL_law 544 = .ok (.invokevirtual 68, 3) := ckS_g gdL_law_503 39 rfl
theorem gdL_law_547 : ckS (List.drop 547 cL_law.data.toList) 547 [(547, .pop, 1), (548, .goto 719, 3), (551, .aload_n 1, 1), (552, .aload_n 0, 1), (553, .iload_n 3, 1), (554, .iconst 1, 1), (555, .iadd, 1), (556, .iaload, 1), (557, .invokevirtual 69, 3), (560, .pop, 1), (561, .aload_n 2, 1), (562, .aload_n 0, 1), (563, .iload_n 3, 1), (564, .iconst 1, 1), (565, .iadd, 1), (566, .iaload, 1), (567, .invokevirtual 72, 3), (570, .pop, 1), (571, .goto 696, 3), (574, .aload_n 1, 1), (575, .aload_n 0, 1), (576, .iload_n 3, 1), (577, .iconst 1, 1), (578, .iadd, 1), (579, .iaload, 1), (580, .invokevirtual 73, 3), (583, .pop, 1), (584, .aload_n 2, 1), (585, .aload_n 0, 1), (586, .iload_n 3, 1), (587, .iconst 1, 1), (588, .iadd, 1), (589, .iaload, 1), (590, .invokevirtual 76, 3), (593, .pop, 1), (594, .goto 673, 3), (597, .aload_n 1, 1), (598, .aload_n 0, 1), (599, .iload_n 3, 1), (600, .iconst 1, 1)] = true := by decide +kernel
theorem dL_law_547 : decode cL_law 547 = .ok (.pop, 1) := ckS_g gdL_law_547 0 rfl
theorem dL_law_548 : decode cL_law 548 = .ok (.goto 719, 3) := ckS_g gdL_law_547 1 rfl
theorem dL_law_551 : decode cL_law 551 = .ok (.aload_n 1, 1) := ckS_g gdL_law_547 2 rfl
theorem dL_law_552 : decode cL_law 552 = .ok (.aload_n 0, 1) := ckS_g gdL_law_547 3 rfl
theorem dL_law_553 : decode cL_law 553 = .ok (.iload_n 3, 1) := ckS_g gdL_law_547 4 rfl
theorem dL_law_554 : decode cL_law 554 = .ok (.iconst 1, 1) := ckS_g gdL_law_547 5 rfl
theorem dL_law_555 : decode cL_law 555 = .ok (.iadd, 1) := ckS_g gdL_law_547 6 rfl
theorem dL_law_556 : decode cL_law 556 = .ok (.iaload, 1) := ckS_g gdL_law_547 7 rfl
theorem dL_law_557 : decode cL_law 557 = .ok (.invokevirtual 69, 3) := ckS_g gdL_law_547 8 rfl
theorem dL_law_560 : decode cL_law 560 = .ok (.pop, 1) := ckS_g gdL_law_547 9 rfl
theorem dL_law_561 : decode cL_law 561 = .ok (.aload_n 2, 1) := ckS_g gdL_law_547 10 rfl
theorem dL_law_562 : decode cL_law 562 = .ok (.aload_n 0, 1) := ckS_g gdL_law_547 11 rfl
theorem dL_law_563 : decode cL_law 563 = .ok (.iload_n 3, 1) := ckS_g gdL_law_547 12 rfl
theorem dL_law_564 : decode cL_law 564 = .ok (.iconst 1, 1) := ckS_g gdL_law_547 13 rfl
theorem dL_law_565 : decode cL_law 565 = .ok (.iadd, 1) := ckS_g gdL_law_547 14 rfl
theorem dL_law_566 : decode cL_law 566 = .ok (.iaload, 1) := ckS_g gdL_law_547 15 rfl
theorem dL_law_567 : decode cL_law 567 = .ok (.invokevirtual 72, 3) := ckS_g gdL_law_547 16 rfl
theorem dL_law_570 : decode cL_law 570 = .ok (.pop, 1) := ckS_g gdL_law_547 17 rfl
theorem dL_law_571 : decode cL_law 571 = .ok (.goto 696, 3) := ckS_g gdL_law_547 18 rfl
theorem dL_law_574 : decode cL_law 574 = .ok (.aload_n 1, 1) := ckS_g gdL_law_547 19 rfl
theorem dL_law_575 : decode cL_law 575 = .ok (.aload_n 0, 1) := ckS_g gdL_law_547 20 rfl
theorem dL_law_576 : decode cL_law 576 = .ok (.iload_n 3, 1) := ckS_g gdL_law_547 21 rfl
theorem dL_law_577 : decode cL_law 577 = .ok (.iconst 1, 1) := ckS_g gdL_law_547 22 rfl
theorem dL_law_578 : decode cL_law 578 = .ok (.iadd, 1) := ckS_g gdL_law_547 23 rfl
theorem dL_law_579 : decode cL_law 579 = .ok (.iaload, 1) := ckS_g gdL_law_547 24 rfl
theorem dL_law_580 : decode cL_law 580 = .ok (.invokevirtual 73, 3) := ckS_g gdL_law_547 25 rfl
theorem dL_law_583 : decode cL_law 583 = .ok (.pop, 1) := ckS_g gdL_law_547 26 rfl
theorem dL_law_584 : decode cL_law 584 = .ok (.aload_n 2, 1) := ckS_g gdL_law_547 27 rfl
theorem dL_law_585 : decode cL_law 585 = .ok (.aload_n 0, 1) := ckS_g gdL_law_547 28 rfl
theorem dL_law_586 : decode cL_law 586 = .ok (.iload_n 3, 1) := ckS_g gdL_law_547 29 rfl
theorem dL_law_587 : decode cL_law 587 = .ok (.iconst 1, 1) := ckS_g gdL_law_547 30 rfl
theorem dL_law_588 : decode cL_law 588 = .ok (.iadd, 1) := ckS_g gdL_law_547 31 rfl
theorem dL_law_589 : decode cL_law 589 = .ok (.iaload, 1) := ckS_g gdL_law_547 32 rfl
theorem dL_law_590 : decode cL_law 590 = .ok (.invokevirtual 76, 3) := ckS_g gdL_law_547 33 rfl
theorem dL_law_593 : decode cL_law 593 = .ok (.pop, 1) := ckS_g gdL_law_547 34 rfl
theorem dL_law_594 : decode cL_law 594 = .ok (.goto 673, 3) := ckS_g gdL_law_547 35 rfl
theorem dL_law_597 : decode cL_law 597 = .ok (.aload_n 1, 1) := ckS_g gdL_law_547 36 rfl
theorem dL_law_598 : decode cL_law 598 = .ok (.aload_n 0, 1) := ckS_g gdL_law_547 37 rfl
theorem dL_law_599 : decode cL_law 599 = .ok (.iload_n 3, 1) := ckS_g gdL_law_547 38 rfl
theorem dL_law_600 : decode cL_law 600 = .ok (.iconst 1, 1) := ckS_g gdL_law_547 39 rfl
theorem gdL_law_601 : ckS (List.drop 601 cL_law.data.toList) 601 [(601, .iadd, 1), (602, .iaload, 1), (603, .invokevirtual 77, 3), (606, .pop, 1), (607, .aload_n 2, 1), (608, .aload_n 0, 1), (609, .iload_n 3, 1), (610, .iconst 1, 1), (611, .iadd, 1), (612, .iaload, 1), (613, .invokevirtual 80, 3), (616, .pop, 1), (617, .goto 650, 3), (620, .aload_n 1, 1), (621, .aload_n 0, 1), (622, .iload_n 3, 1), (623, .iconst 1, 1), (624, .iadd, 1), (625, .iaload, 1), (626, .invokevirtual 81, 3), (629, .pop, 1), (630, .aload_n 2, 1), (631, .aload_n 0, 1), (632, .iload_n 3, 1), (633, .iconst 1, 1), (634, .iadd, 1), (635, .iaload, 1), (636, .invokevirtual 84, 3), (639, .pop, 1), (640, .goto 627, 3), (643, .aload_n 1, 1), (644, .aload_n 0, 1), (645, .iload_n 3, 1), (646, .iconst 1, 1), (647, .iadd, 1), (648, .iaload, 1), (649, .aload_n 0, 1), (650, .iload_n 3, 1), (651, .iconst 2, 1), (652, .iadd, 1)] = true := by decide +kernel
theorem dL_law_601 : decode cL_law 601 = .ok (.iadd, 1) := ckS_g gdL_law_601 0 rfl
theorem dL_law_602 : decode cL_law 602 = .ok (.iaload, 1) := ckS_g gdL_law_601 1 rfl
theorem dL_law_603 : decode cL_law 603 = .ok (.invokevirtual 77, 3) := ckS_g gdL_law_601 2 rfl
theorem dL_law_606 : decode cL_law 606 = .ok (.pop, 1) := ckS_g gdL_law_601 3 rfl
theorem dL_law_607 : decode cL_law 607 = .ok (.aload_n 2, 1) := ckS_g gdL_law_601 4 rfl
theorem dL_law_608 : decode cL_law 608 = .ok (.aload_n 0, 1) := ckS_g gdL_law_601 5 rfl
theorem dL_law_609 : decode cL_law 609 = .ok (.iload_n 3, 1) := ckS_g gdL_law_601 6 rfl
theorem dL_law_610 : decode cL_law 610 = .ok (.iconst 1, 1) := ckS_g gdL_law_601 7 rfl
theorem dL_law_611 : decode cL_law 611 = .ok (.iadd, 1) := ckS_g gdL_law_601 8 rfl
theorem dL_law_612 : decode cL_law 612 = .ok (.iaload, 1) := ckS_g gdL_law_601 9 rfl
theorem dL_law_613 : decode cL_law 613 = .ok (.invokevirtual 80, 3) := ckS_g gdL_law_601 10 rfl
theorem dL_law_616 : decode cL_law 616 = .ok (.pop, 1) := ckS_g gdL_law_601 11 rfl
theorem dL_law_617 : decode cL_law 617 = .ok (.goto 650, 3) := ckS_g gdL_law_601 12 rfl
theorem dL_law_620 : decode cL_law 620 = .ok (.aload_n 1, 1) := ckS_g gdL_law_601 13 rfl
theorem dL_law_621 : decode cL_law 621 = .ok (.aload_n 0, 1) := ckS_g gdL_law_601 14 rfl
theorem dL_law_622 : decode cL_law 622 = .ok (.iload_n 3, 1) := ckS_g gdL_law_601 15 rfl
theorem dL_law_623 : decode cL_law 623 = .ok (.iconst 1, 1) := ckS_g gdL_law_601 16 rfl
theorem dL_law_624 : decode cL_law 624 = .ok (.iadd, 1) := ckS_g gdL_law_601 17 rfl
theorem dL_law_625 : decode cL_law 625 = .ok (.iaload, 1) := ckS_g gdL_law_601 18 rfl
theorem dL_law_626 : decode cL_law 626 = .ok (.invokevirtual 81, 3) := ckS_g gdL_law_601 19 rfl
theorem dL_law_629 : decode cL_law 629 = .ok (.pop, 1) := ckS_g gdL_law_601 20 rfl
theorem dL_law_630 : decode cL_law 630 = .ok (.aload_n 2, 1) := ckS_g gdL_law_601 21 rfl
theorem dL_law_631 : decode cL_law 631 = .ok (.aload_n 0, 1) := ckS_g gdL_law_601 22 rfl
theorem dL_law_632 : decode cL_law 632 = .ok (.iload_n 3, 1) := ckS_g gdL_law_601 23 rfl
theorem dL_law_633 : decode cL_law 633 = .ok (.iconst 1, 1) := ckS_g gdL_law_601 24 rfl
theorem dL_law_634 : decode cL_law 634 = .ok (.iadd, 1) := ckS_g gdL_law_601 25 rfl
theorem dL_law_635 : decode cL_law 635 = .ok (.iaload, 1) := ckS_g gdL_law_601 26 rfl
theorem dL_law_636 : decode cL_law 636 = .ok (.invokevirtual 84, 3) := ckS_g gdL_law_601 27 rfl
theorem dL_law_639 : decode cL_law 639 = .ok (.pop, 1) := ckS_g gdL_law_601 28 rfl
theorem dL_law_640 : decode cL_law 640 = .ok (.goto 627, 3) := ckS_g gdL_law_601 29 rfl
theorem dL_law_643 : decode cL_law 643 = .ok (.aload_n 1, 1) := ckS_g gdL_law_601 30 rfl
theorem dL_law_644 : decode cL_law 644 = .ok (.aload_n 0, 1) := ckS_g gdL_law_601 31 rfl
theorem dL_law_645 : decode cL_law 645 = .ok (.iload_n 3, 1) := ckS_g gdL_law_601 32 rfl
theorem dL_law_646 : decode cL_law 646 = .ok (.iconst 1, 1) := ckS_g gdL_law_601 33 rfl
theorem dL_law_647 : decode cL_law 647 = .ok (.iadd, 1) := ckS_g gdL_law_601 34 rfl
theorem dL_law_648 : decode cL_law 648 = .ok (.iaload, 1) := ckS_g gdL_law_601 35 rfl
theorem dL_law_649 : decode cL_law 649 = .ok (.aload_n 0, 1) := ckS_g gdL_law_601 36 rfl
theorem dL_law_650 : decode cL_law 650 = .ok (.iload_n 3, 1) := ckS_g gdL_law_601 37 rfl
theorem dL_law_651 : decode cL_law 651 = .ok (.iconst 2, 1) := ckS_g gdL_law_601 38 rfl
theorem dL_law_652 : decode cL_law 652 = .ok (.iadd, 1) := ckS_g gdL_law_601 39 rfl
theorem gdL_law_653 : ckS (List.drop 653 cL_law.data.toList) 653 [(653, .iaload, 1), (654, .invokevirtual 85, 3), (657, .pop, 1), (658, .aload_n 2, 1), (659, .aload_n 0, 1), (660, .iload_n 3, 1), (661, .iconst 1, 1), (662, .iadd, 1), (663, .iaload, 1), (664, .aload_n 0, 1), (665, .iload_n 3, 1), (666, .iconst 2, 1), (667, .iadd, 1), (668, .iaload, 1), (669, .invokevirtual 88, 3), (672, .pop, 1), (673, .goto 594, 3), (676, .aload_n 1, 1), (677, .aload_n 0, 1), (678, .iload_n 3, 1), (679, .iconst 1, 1), (680, .iadd, 1), (681, .iaload, 1), (682, .invokevirtual 89, 3), (685, .pop, 1), (686, .aload_n 2, 1), (687, .aload_n 0, 1), (688, .iload_n 3, 1), (689, .iconst 1, 1), (690, .iadd, 1), (691, .iaload, 1), (692, .invokevirtual 92, 3), (695, .pop, 1), (696, .goto 571, 3), (699, .aload_n 1, 1), (700, .invokevirtual 93, 3), (703, .pop, 1), (704, .aload_n 2, 1), (705, .invokevirtual 96, 3), (708, .pop, 1)] = true := by decide +kernel
theorem dL_law_653 : decode cL_law 653 = .ok (.iaload, 1) := ckS_g gdL_law_653 0 rfl
theorem dL_law_654 : decode cL_law 654 = .ok (.invokevirtual 85, 3) := ckS_g gdL_law_653 1 rfl
theorem dL_law_657 : decode cL_law 657 = .ok (.pop, 1) := ckS_g gdL_law_653 2 rfl
theorem dL_law_658 : decode cL_law 658 = .ok (.aload_n 2, 1) := ckS_g gdL_law_653 3 rfl
theorem dL_law_659 : decode cL_law 659 = .ok (.aload_n 0, 1) := ckS_g gdL_law_653 4 rfl
theorem dL_law_660 : decode cL_law 660 = .ok (.iload_n 3, 1) := ckS_g gdL_law_653 5 rfl
theorem dL_law_661 : decode cL_law 661 = .ok (.iconst 1, 1) := ckS_g gdL_law_653 6 rfl
theorem dL_law_662 : decode cL_law 662 = .ok (.iadd, 1) := ckS_g gdL_law_653 7 rfl
theorem dL_law_663 : decode cL_law 663 = .ok (.iaload, 1) := ckS_g gdL_law_653 8 rfl
theorem dL_law_664 : decode cL_law 664 = .ok (.aload_n 0, 1) := ckS_g gdL_law_653 9 rfl
theorem dL_law_665 : decode cL_law 665 = .ok (.iload_n 3, 1) := ckS_g gdL_law_653 10 rfl
theorem dL_law_666 : decode cL_law 666 = .ok (.iconst 2, 1) := ckS_g gdL_law_653 11 rfl
theorem dL_law_667 : decode cL_law 667 = .ok (.iadd, 1) := ckS_g gdL_law_653 12 rfl
theorem dL_law_668 : decode cL_law 668 = .ok (.iaload, 1) := ckS_g gdL_law_653 13 rfl
theorem dL_law_669 : decode cL_law 669 = .ok (.invokevirtual 88, 3) := ckS_g gdL_law_653 14 rfl
theorem dL_law_672 : decode cL_law 672 = .ok (.pop, 1) := ckS_g gdL_law_653 15 rfl
theorem dL_law_673 : decode cL_law 673 = .ok (.goto 594, 3) := ckS_g gdL_law_653 16 rfl
theorem dL_law_676 : decode cL_law 676 = .ok (.aload_n 1, 1) := ckS_g gdL_law_653 17 rfl
theorem dL_law_677 : decode cL_law 677 = .ok (.aload_n 0, 1) := ckS_g gdL_law_653 18 rfl
theorem dL_law_678 : decode cL_law 678 = .ok (.iload_n 3, 1) := ckS_g gdL_law_653 19 rfl
theorem dL_law_679 : decode cL_law 679 = .ok (.iconst 1, 1) := ckS_g gdL_law_653 20 rfl
theorem dL_law_680 : decode cL_law 680 = .ok (.iadd, 1) := ckS_g gdL_law_653 21 rfl
theorem dL_law_681 : decode cL_law 681 = .ok (.iaload, 1) := ckS_g gdL_law_653 22 rfl
theorem dL_law_682 : decode cL_law 682 = .ok (.invokevirtual 89, 3) := ckS_g gdL_law_653 23 rfl
theorem dL_law_685 : decode cL_law 685 = .ok (.pop, 1) := ckS_g gdL_law_653 24 rfl
theorem dL_law_686 : decode cL_law 686 = .ok (.aload_n 2, 1) := ckS_g gdL_law_653 25 rfl
theorem dL_law_687 : decode cL_law 687 = .ok (.aload_n 0, 1) := ckS_g gdL_law_653 26 rfl
theorem dL_law_688 : decode cL_law 688 = .ok (.iload_n 3, 1) := ckS_g gdL_law_653 27 rfl
theorem dL_law_689 : decode cL_law 689 = .ok (.iconst 1, 1) := ckS_g gdL_law_653 28 rfl
theorem dL_law_690 : decode cL_law 690 = .ok (.iadd, 1) := ckS_g gdL_law_653 29 rfl
theorem dL_law_691 : decode cL_law 691 = .ok (.iaload, 1) := ckS_g gdL_law_653 30 rfl
theorem dL_law_692 : decode cL_law 692 = .ok (.invokevirtual 92, 3) := ckS_g gdL_law_653 31 rfl
theorem dL_law_695 : decode cL_law 695 = .ok (.pop, 1) := ckS_g gdL_law_653 32 rfl
theorem dL_law_696 : decode cL_law 696 = .ok (.goto 571, 3) := ckS_g gdL_law_653 33 rfl
theorem dL_law_699 : decode cL_law 699 = .ok (.aload_n 1, 1) := ckS_g gdL_law_653 34 rfl
theorem dL_law_700 : decode cL_law 700 = .ok (.invokevirtual 93, 3) := ckS_g gdL_law_653 35 rfl
theorem dL_law_703 : decode cL_law 703 = .ok (.pop, 1) := ckS_g gdL_law_653 36 rfl
theorem dL_law_704 : decode cL_law 704 = .ok (.aload_n 2, 1) := ckS_g gdL_law_653 37 rfl
theorem dL_law_705 : decode cL_law 705 = .ok (.invokevirtual 96, 3) := ckS_g gdL_law_653 38 rfl
theorem dL_law_708 : decode cL_law 708 = .ok (.pop, 1) := ckS_g gdL_law_653 39 rfl
theorem gdL_law_709 : ckS (List.drop 709 cL_law.data.toList) 709 [(709, .goto 558, 3), (712, .aload_n 1, 1), (713, .aload_n 0, 1), (714, .iload_n 3, 1), (715, .iconst 1, 1), (716, .iadd, 1), (717, .iaload, 1), (718, .invokevirtual 97, 3), (721, .pop, 1), (722, .aload_n 2, 1), (723, .aload_n 0, 1), (724, .iload_n 3, 1), (725, .iconst 1, 1), (726, .iadd, 1), (727, .iaload, 1), (728, .invokevirtual 100, 3), (731, .pop, 1), (732, .goto 535, 3), (735, .aload_n 1, 1), (736, .invokevirtual 101, 3), (739, .pop, 1), (740, .aload_n 2, 1), (741, .invokevirtual 104, 3), (744, .pop, 1), (745, .goto 522, 3), (748, .aload_n 1, 1), (749, .invokevirtual 105, 3), (752, .pop, 1), (753, .aload_n 2, 1), (754, .invokevirtual 108, 3), (757, .pop, 1), (758, .goto 509, 3), (761, .aload_n 1, 1), (762, .aload_n 0, 1), (763, .iload_n 3, 1), (764, .iconst 1, 1), (765, .iadd, 1), (766, .iaload, 1), (767, .invokevirtual 109, 3), (770, .aload_n 2, 1)] = true := by decide +kernel
theorem dL_law_709 : decode cL_law 709 = .ok (.goto 558, 3) := ckS_g gdL_law_709 0 rfl
theorem dL_law_712 : decode cL_law 712 = .ok (.aload_n 1, 1) := ckS_g gdL_law_709 1 rfl
theorem dL_law_713 : decode cL_law 713 = .ok (.aload_n 0, 1) := ckS_g gdL_law_709 2 rfl
theorem dL_law_714 : decode cL_law 714 = .ok (.iload_n 3, 1) := ckS_g gdL_law_709 3 rfl
theorem dL_law_715 : decode cL_law 715 = .ok (.iconst 1, 1) := ckS_g gdL_law_709 4 rfl
theorem dL_law_716 : decode cL_law 716 = .ok (.iadd, 1) := ckS_g gdL_law_709 5 rfl
theorem dL_law_717 : decode cL_law 717 = .ok (.iaload, 1) := ckS_g gdL_law_709 6 rfl
theorem dL_law_718 : decode cL_law 718 = .ok (.invokevirtual 97, 3) := ckS_g gdL_law_709 7 rfl
theorem dL_law_721 : decode cL_law 721 = .ok (.pop, 1) := ckS_g gdL_law_709 8 rfl
theorem dL_law_722 : decode cL_law 722 = .ok (.aload_n 2, 1) := ckS_g gdL_law_709 9 rfl
theorem dL_law_723 : decode cL_law 723 = .ok (.aload_n 0, 1) := ckS_g gdL_law_709 10 rfl
theorem dL_law_724 : decode cL_law 724 = .ok (.iload_n 3, 1) := ckS_g gdL_law_709 11 rfl
theorem dL_law_725 : decode cL_law 725 = .ok (.iconst 1, 1) := ckS_g gdL_law_709 12 rfl
theorem dL_law_726 : decode cL_law 726 = .ok (.iadd, 1) := ckS_g gdL_law_709 13 rfl
theorem dL_law_727 : decode cL_law 727 = .ok (.iaload, 1) := ckS_g gdL_law_709 14 rfl
theorem dL_law_728 : decode cL_law 728 = .ok (.invokevirtual 100, 3) := ckS_g gdL_law_709 15 rfl
theorem dL_law_731 : decode cL_law 731 = .ok (.pop, 1) := ckS_g gdL_law_709 16 rfl
theorem dL_law_732 : decode cL_law 732 = .ok (.goto 535, 3) := ckS_g gdL_law_709 17 rfl
theorem dL_law_735 : decode cL_law 735 = .ok (.aload_n 1, 1) := ckS_g gdL_law_709 18 rfl
theorem dL_law_736 : decode cL_law 736 = .ok (.invokevirtual 101, 3) := ckS_g gdL_law_709 19 rfl
theorem dL_law_739 : decode cL_law 739 = .ok (.pop, 1) := ckS_g gdL_law_709 20 rfl
theorem dL_law_740 : decode cL_law 740 = .ok (.aload_n 2, 1) := ckS_g gdL_law_709 21 rfl
theorem dL_law_741 : decode cL_law 741 = .ok (.invokevirtual 104, 3) := ckS_g gdL_law_709 22 rfl
theorem dL_law_744 : decode cL_law 744 = .ok (.pop, 1) := ckS_g gdL_law_709 23 rfl
theorem dL_law_745 : decode cL_law 745 = .ok (.goto 522, 3) := ckS_g gdL_law_709 24 rfl
theorem dL_law_748 : decode cL_law 748 = .ok (.aload_n 1, 1) := ckS_g gdL_law_709 25 rfl
theorem dL_law_749 : decode cL_law 749 = .ok (.invokevirtual 105, 3) := ckS_g gdL_law_709 26 rfl
theorem dL_law_752 : decode cL_law 752 = .ok (.pop, 1) := ckS_g gdL_law_709 27 rfl
theorem dL_law_753 : decode cL_law 753 = .ok (.aload_n 2, 1) := ckS_g gdL_law_709 28 rfl
theorem dL_law_754 : decode cL_law 754 = .ok (.invokevirtual 108, 3) := ckS_g gdL_law_709 29 rfl
theorem dL_law_757 : decode cL_law 757 = .ok (.pop, 1) := ckS_g gdL_law_709 30 rfl
theorem dL_law_758 : decode cL_law 758 = .ok (.goto 509, 3) := ckS_g gdL_law_709 31 rfl
theorem dL_law_761 : decode cL_law 761 = .ok (.aload_n 1, 1) := ckS_g gdL_law_709 32 rfl
theorem dL_law_762 : decode cL_law 762 = .ok (.aload_n 0, 1) := ckS_g gdL_law_709 33 rfl
theorem dL_law_763 : decode cL_law 763 = .ok (.iload_n 3, 1) := ckS_g gdL_law_709 34 rfl
theorem dL_law_764 : decode cL_law 764 = .ok (.iconst 1, 1) := ckS_g gdL_law_709 35 rfl
theorem dL_law_765 : decode cL_law 765 = .ok (.iadd, 1) := ckS_g gdL_law_709 36 rfl
theorem dL_law_766 : decode cL_law 766 = .ok (.iaload, 1) := ckS_g gdL_law_709 37 rfl
theorem dL_law_767 : decode cL_law 767 = .ok (.invokevirtual 109, 3) := ckS_g gdL_law_709 38 rfl
theorem dL_law_770 : decode cL_law 770 = .ok (.aload_n 2, 1) := ckS_g gdL_law_709 39 rfl
theorem gdL_law_771 : ckS (List.drop 771 cL_law.data.toList) 771 [(771, .aload_n 0, 1), (772, .iload_n 3, 1), (773, .iconst 1, 1), (774, .iadd, 1), (775, .iaload, 1), (776, .invokevirtual 112, 3), (779, .if_icmp .eq 488, 3), (784, .aload_n 1, 1), (785, .invokevirtual 113, 3), (788, .pop, 1), (789, .aload_n 2, 1), (790, .invokevirtual 116, 3), (793, .pop, 1), (794, .goto 473, 3), (797, .aload_n 1, 1), (798, .aload_n 0, 1), (799, .iload_n 3, 1), (800, .iconst 1, 1), (801, .iadd, 1), (802, .iaload, 1), (803, .aload_n 0, 1), (804, .iload_n 3, 1), (805, .iconst 2, 1), (806, .iadd, 1), (807, .iaload, 1), (808, .invokevirtual 117, 3), (811, .pop, 1), (812, .aload_n 2, 1), (813, .aload_n 0, 1), (814, .iload_n 3, 1), (815, .iconst 1, 1), (816, .iadd, 1), (817, .iaload, 1), (818, .aload_n 0, 1), (819, .iload_n 3, 1), (820, .iconst 2, 1), (821, .iadd, 1), (822, .iaload, 1), (823, .invokevirtual 120, 3), (826, .pop, 1)] = true := by decide +kernel
theorem dL_law_771 : decode cL_law 771 = .ok (.aload_n 0, 1) := ckS_g gdL_law_771 0 rfl
theorem dL_law_772 : decode cL_law 772 = .ok (.iload_n 3, 1) := ckS_g gdL_law_771 1 rfl
theorem dL_law_773 : decode cL_law 773 = .ok (.iconst 1, 1) := ckS_g gdL_law_771 2 rfl
theorem dL_law_774 : decode cL_law 774 = .ok (.iadd, 1) := ckS_g gdL_law_771 3 rfl
theorem dL_law_775 : decode cL_law 775 = .ok (.iaload, 1) := ckS_g gdL_law_771 4 rfl
theorem dL_law_776 : decode cL_law 776 = .ok (.invokevirtual 112, 3) := ckS_g gdL_law_771 5 rfl
theorem dL_law_779 : decode cL_law 779 = .ok (.if_icmp .eq 488, 3) := ckS_g gdL_law_771 6 rfl
theorem dL_law_784 : decode cL_law 784 = .ok (.aload_n 1, 1) := ckS_g gdL_law_771 7 rfl
theorem dL_law_785 : decode cL_law 785 = .ok (.invokevirtual 113, 3) := ckS_g gdL_law_771 8 rfl
theorem dL_law_788 : decode cL_law 788 = .ok (.pop, 1) := ckS_g gdL_law_771 9 rfl
theorem dL_law_789 : decode cL_law 789 = .ok (.aload_n 2, 1) := ckS_g gdL_law_771 10 rfl
theorem dL_law_790 : decode cL_law 790 = .ok (.invokevirtual 116, 3) := ckS_g gdL_law_771 11 rfl
theorem dL_law_793 : decode cL_law 793 = .ok (.pop, 1) := ckS_g gdL_law_771 12 rfl
theorem dL_law_794 : decode cL_law 794 = .ok (.goto 473, 3) := ckS_g gdL_law_771 13 rfl
theorem dL_law_797 : decode cL_law 797 = .ok (.aload_n 1, 1) := ckS_g gdL_law_771 14 rfl
theorem dL_law_798 : decode cL_law 798 = .ok (.aload_n 0, 1) := ckS_g gdL_law_771 15 rfl
theorem dL_law_799 : decode cL_law 799 = .ok (.iload_n 3, 1) := ckS_g gdL_law_771 16 rfl
theorem dL_law_800 : decode cL_law 800 = .ok (.iconst 1, 1) := ckS_g gdL_law_771 17 rfl
theorem dL_law_801 : decode cL_law 801 = .ok (.iadd, 1) := ckS_g gdL_law_771 18 rfl
theorem dL_law_802 : decode cL_law 802 = .ok (.iaload, 1) := ckS_g gdL_law_771 19 rfl
theorem dL_law_803 : decode cL_law 803 = .ok (.aload_n 0, 1) := ckS_g gdL_law_771 20 rfl
theorem dL_law_804 : decode cL_law 804 = .ok (.iload_n 3, 1) := ckS_g gdL_law_771 21 rfl
theorem dL_law_805 : decode cL_law 805 = .ok (.iconst 2, 1) := ckS_g gdL_law_771 22 rfl
theorem dL_law_806 : decode cL_law 806 = .ok (.iadd, 1) := ckS_g gdL_law_771 23 rfl
theorem dL_law_807 : decode cL_law 807 = .ok (.iaload, 1) := ckS_g gdL_law_771 24 rfl
theorem dL_law_808 : decode cL_law 808 = .ok (.invokevirtual 117, 3) := ckS_g gdL_law_771 25 rfl
theorem dL_law_811 : decode cL_law 811 = .ok (.pop, 1) := ckS_g gdL_law_771 26 rfl
theorem dL_law_812 : decode cL_law 812 = .ok (.aload_n 2, 1) := ckS_g gdL_law_771 27 rfl
theorem dL_law_813 : decode cL_law 813 = .ok (.aload_n 0, 1) := ckS_g gdL_law_771 28 rfl
theorem dL_law_814 : decode cL_law 814 = .ok (.iload_n 3, 1) := ckS_g gdL_law_771 29 rfl
theorem dL_law_815 : decode cL_law 815 = .ok (.iconst 1, 1) := ckS_g gdL_law_771 30 rfl
theorem dL_law_816 : decode cL_law 816 = .ok (.iadd, 1) := ckS_g gdL_law_771 31 rfl
theorem dL_law_817 : decode cL_law 817 = .ok (.iaload, 1) := ckS_g gdL_law_771 32 rfl
theorem dL_law_818 : decode cL_law 818 = .ok (.aload_n 0, 1) := ckS_g gdL_law_771 33 rfl
theorem dL_law_819 : decode cL_law 819 = .ok (.iload_n 3, 1) := ckS_g gdL_law_771 34 rfl
theorem dL_law_820 : decode cL_law 820 = .ok (.iconst 2, 1) := ckS_g gdL_law_771 35 rfl
theorem dL_law_821 : decode cL_law 821 = .ok (.iadd, 1) := ckS_g gdL_law_771 36 rfl
theorem dL_law_822 : decode cL_law 822 = .ok (.iaload, 1) := ckS_g gdL_law_771 37 rfl
theorem dL_law_823 : decode cL_law 823 = .ok (.invokevirtual 120, 3) := ckS_g gdL_law_771 38 rfl
theorem dL_law_826 : decode cL_law 826 = .ok (.pop, 1) := ckS_g gdL_law_771 39 rfl
theorem gdL_law_827 : ckS (List.drop 827 cL_law.data.toList) 827 [(827, .goto 440, 3), (830, .aload_n 1, 1), (831, .aload_n 0, 1), (832, .iload_n 3, 1), (833, .iconst 1, 1), (834, .iadd, 1), (835, .iaload, 1), (836, .aload_n 0, 1), (837, .iload_n 3, 1), (838, .iconst 2, 1), (839, .iadd, 1), (840, .iaload, 1), (841, .invokevirtual 121, 3), (844, .pop, 1), (845, .aload_n 2, 1), (846, .aload_n 0, 1), (847, .iload_n 3, 1), (848, .iconst 1, 1), (849, .iadd, 1), (850, .iaload, 1), (851, .aload_n 0, 1), (852, .iload_n 3, 1), (853, .iconst 2, 1), (854, .iadd, 1), (855, .iaload, 1), (856, .invokevirtual 124, 3), (859, .pop, 1), (860, .goto 407, 3), (863, .aload_n 1, 1), (864, .aload_n 0, 1), (865, .iload_n 3, 1), (866, .iconst 1, 1), (867, .iadd, 1), (868, .iaload, 1), (869, .invokevirtual 125, 3), (872, .pop, 1), (873, .aload_n 2, 1), (874, .aload_n 0, 1), (875, .iload_n 3, 1), (876, .iconst 1, 1)] = true := by decide +kernel
theorem dL_law_827 : decode cL_law 827 = .ok (.goto 440, 3) := ckS_g gdL_law_827 0 rfl
theorem dL_law_830 : decode cL_law 830 = .ok (.aload_n 1, 1) := ckS_g gdL_law_827 1 rfl
theorem dL_law_831 : decode cL_law 831 = .ok (.aload_n 0, 1) := ckS_g gdL_law_827 2 rfl
theorem dL_law_832 : decode cL_law 832 = .ok (.iload_n 3, 1) := ckS_g gdL_law_827 3 rfl
theorem dL_law_833 : decode cL_law 833 = .ok (.iconst 1, 1) := ckS_g gdL_law_827 4 rfl
theorem dL_law_834 : decode cL_law 834 = .ok (.iadd, 1) := ckS_g gdL_law_827 5 rfl
theorem dL_law_835 : decode cL_law 835 = .ok (.iaload, 1) := ckS_g gdL_law_827 6 rfl
theorem dL_law_836 : decode cL_law 836 = .ok (.aload_n 0, 1) := ckS_g gdL_law_827 7 rfl
theorem dL_law_837 : decode cL_law 837 = .ok (.iload_n 3, 1) := ckS_g gdL_law_827 8 rfl
theorem dL_law_838 : decode cL_law 838 = .ok (.iconst 2, 1) := ckS_g gdL_law_827 9 rfl
theorem dL_law_839 : decode cL_law 839 = .ok (.iadd, 1) := ckS_g gdL_law_827 10 rfl
theorem dL_law_840 : decode cL_law 840 = .ok (.iaload, 1) := ckS_g gdL_law_827 11 rfl
theorem dL_law_841 : decode cL_law 841 = .ok (.invokevirtual 121, 3) := ckS_g gdL_law_827 12 rfl
theorem dL_law_844 : decode cL_law 844 = .ok (.pop, 1) := ckS_g gdL_law_827 13 rfl
theorem dL_law_845 : decode cL_law 845 = .ok (.aload_n 2, 1) := ckS_g gdL_law_827 14 rfl
theorem dL_law_846 : decode cL_law 846 = .ok (.aload_n 0, 1) := ckS_g gdL_law_827 15 rfl
theorem dL_law_847 : decode cL_law 847 = .ok (.iload_n 3, 1) := ckS_g gdL_law_827 16 rfl
theorem dL_law_848 : decode cL_law 848 = .ok (.iconst 1, 1) := ckS_g gdL_law_827 17 rfl
theorem dL_law_849 : decode cL_law 849 = .ok (.iadd, 1) := ckS_g gdL_law_827 18 rfl
theorem dL_law_850 : decode cL_law 850 = .ok (.iaload, 1) := ckS_g gdL_law_827 19 rfl
theorem dL_law_851 : decode cL_law 851 = .ok (.aload_n 0, 1) := ckS_g gdL_law_827 20 rfl
theorem dL_law_852 : decode cL_law 852 = .ok (.iload_n 3, 1) := ckS_g gdL_law_827 21 rfl
theorem dL_law_853 : decode cL_law 853 = .ok (.iconst 2, 1) := ckS_g gdL_law_827 22 rfl
theorem dL_law_854 : decode cL_law 854 = .ok (.iadd, 1) := ckS_g gdL_law_827 23 rfl
theorem dL_law_855 : decode cL_law 855 = .ok (.iaload, 1) := ckS_g gdL_law_827 24 rfl
theorem dL_law_856 : decode cL_law 856 = .ok (.invokevirtual 124, 3) := ckS_g gdL_law_827 25 rfl
theorem dL_law_859 : decode cL_law 859 = .ok (.pop, 1) := ckS_g gdL_law_827 26 rfl
theorem dL_law_860 : decode cL_law 860 = .ok (.goto 407, 3) := ckS_g gdL_law_827 27 rfl
theorem dL_law_863 : decode cL_law 863 = .ok (.aload_n 1, 1) := ckS_g gdL_law_827 28 rfl
theorem dL_law_864 : decode cL_law 864 = .ok (.aload_n 0, 1) := ckS_g gdL_law_827 29 rfl
theorem dL_law_865 : decode cL_law 865 = .ok (.iload_n 3, 1) := ckS_g gdL_law_827 30 rfl
theorem dL_law_866 : decode cL_law 866 = .ok (.iconst 1, 1) := ckS_g gdL_law_827 31 rfl
theorem dL_law_867 : decode cL_law 867 = .ok (.iadd, 1) := ckS_g gdL_law_827 32 rfl
theorem dL_law_868 : decode cL_law 868 = .ok (.iaload, 1) := ckS_g gdL_law_827 33 rfl
theorem dL_law_869 : decode cL_law 869 = .ok (.invokevirtual 125, 3) := ckS_g gdL_law_827 34 rfl
theorem dL_law_872 : decode cL_law 872 = .ok (.pop, 1) := ckS_g gdL_law_827 35 rfl
theorem dL_law_873 : decode cL_law 873 = .ok (.aload_n 2, 1) := ckS_g gdL_law_827 36 rfl
theorem dL_law_874 : decode cL_law 874 = .ok (.aload_n 0, 1) := ckS_g gdL_law_827 37 rfl
theorem dL_law_875 : decode cL_law 875 = .ok (.iload_n 3, 1) := ckS_g gdL_law_827 38 rfl
theorem dL_law_876 : decode cL_law 876 = .ok (.iconst 1, 1) := ckS_g gdL_law_827 39 rfl
theorem gdL_law_877 : ckS (List.drop 877 cL_law.data.toList) 877 [(877, .iadd, 1), (878, .iaload, 1), (879, .invokevirtual 128, 3), (882, .pop, 1), (883, .goto 384, 3), (886, .aload_n 1, 1), (887, .aload_n 0, 1), (888, .iload_n 3, 1), (889, .iconst 1, 1), (890, .iadd, 1), (891, .iaload, 1), (892, .aload_n 0, 1), (893, .iload_n 3, 1), (894, .iconst 2, 1), (895, .iadd, 1), (896, .iaload, 1), (897, .invokevirtual 129, 3), (900, .pop, 1), (901, .aload_n 2, 1), (902, .aload_n 0, 1), (903, .iload_n 3, 1), (904, .iconst 1, 1), (905, .iadd, 1), (906, .iaload, 1), (907, .aload_n 0, 1), (908, .iload_n 3, 1), (909, .iconst 2, 1), (910, .iadd, 1), (911, .iaload, 1), (912, .invokevirtual 132, 3), (915, .pop, 1), (916, .goto 351, 3), (919, .aload_n 1, 1), (920, .aload_n 0, 1), (921, .iload_n 3, 1), (922, .iconst 1, 1), (923, .iadd, 1), (924, .iaload, 1), (925, .aload_n 0, 1), (926, .iload_n 3, 1)] = true := by decide +kernel
theorem dL_law_877 : decode cL_law 877 = .ok (.iadd, 1) := ckS_g gdL_law_877 0 rfl
theorem dL_law_878 : decode cL_law 878 = .ok (.iaload, 1) := ckS_g gdL_law_877 1 rfl
theorem dL_law_879 : decode cL_law 879 = .ok (.invokevirtual 128, 3) := ckS_g gdL_law_877 2 rfl
theorem dL_law_882 : decode cL_law 882 = .ok (.pop, 1) := ckS_g gdL_law_877 3 rfl
theorem dL_law_883 : decode cL_law 883 = .ok (.goto 384, 3) := ckS_g gdL_law_877 4 rfl
theorem dL_law_886 : decode cL_law 886 = .ok (.aload_n 1, 1) := ckS_g gdL_law_877 5 rfl
theorem dL_law_887 : decode cL_law 887 = .ok (.aload_n 0, 1) := ckS_g gdL_law_877 6 rfl
theorem dL_law_888 : decode cL_law 888 = .ok (.iload_n 3, 1) := ckS_g gdL_law_877 7 rfl
theorem dL_law_889 : decode cL_law 889 = .ok (.iconst 1, 1) := ckS_g gdL_law_877 8 rfl
theorem dL_law_890 : decode cL_law 890 = .ok (.iadd, 1) := ckS_g gdL_law_877 9 rfl
theorem dL_law_891 : decode cL_law 891 = .ok (.iaload, 1) := ckS_g gdL_law_877 10 rfl
theorem dL_law_892 : decode cL_law 892 = .ok (.aload_n 0, 1) := ckS_g gdL_law_877 11 rfl
theorem dL_law_893 : decode cL_law 893 = .ok (.iload_n 3, 1) := ckS_g gdL_law_877 12 rfl
theorem dL_law_894 : decode cL_law 894 = .ok (.iconst 2, 1) := ckS_g gdL_law_877 13 rfl
theorem dL_law_895 : decode cL_law 895 = .ok (.iadd, 1) := ckS_g gdL_law_877 14 rfl
theorem dL_law_896 : decode cL_law 896 = .ok (.iaload, 1) := ckS_g gdL_law_877 15 rfl
theorem dL_law_897 : decode cL_law 897 = .ok (.invokevirtual 129, 3) := ckS_g gdL_law_877 16 rfl
theorem dL_law_900 : decode cL_law 900 = .ok (.pop, 1) := ckS_g gdL_law_877 17 rfl
theorem dL_law_901 : decode cL_law 901 = .ok (.aload_n 2, 1) := ckS_g gdL_law_877 18 rfl
theorem dL_law_902 : decode cL_law 902 = .ok (.aload_n 0, 1) := ckS_g gdL_law_877 19 rfl
theorem dL_law_903 : decode cL_law 903 = .ok (.iload_n 3, 1) := ckS_g gdL_law_877 20 rfl
theorem dL_law_904 : decode cL_law 904 = .ok (.iconst 1, 1) := ckS_g gdL_law_877 21 rfl
theorem dL_law_905 : decode cL_law 905 = .ok (.iadd, 1) := ckS_g gdL_law_877 22 rfl
theorem dL_law_906 : decode cL_law 906 = .ok (.iaload, 1) := ckS_g gdL_law_877 23 rfl
theorem dL_law_907 : decode cL_law 907 = .ok (.aload_n 0, 1) := ckS_g gdL_law_877 24 rfl
theorem dL_law_908 : decode cL_law 908 = .ok (.iload_n 3, 1) := ckS_g gdL_law_877 25 rfl
theorem dL_law_909 : decode cL_law 909 = .ok (.iconst 2, 1) := ckS_g gdL_law_877 26 rfl
theorem dL_law_910 : decode cL_law 910 = .ok (.iadd, 1) := ckS_g gdL_law_877 27 rfl
theorem dL_law_911 : decode cL_law 911 = .ok (.iaload, 1) := ckS_g gdL_law_877 28 rfl
theorem dL_law_912 : decode cL_law 912 = .ok (.invokevirtual 132, 3) := ckS_g gdL_law_877 29 rfl
theorem dL_law_915 : decode cL_law 915 = .ok (.pop, 1) := ckS_g gdL_law_877 30 rfl
theorem dL_law_916 : decode cL_law 916 = .ok (.goto 351, 3) := ckS_g gdL_law_877 31 rfl
theorem dL_law_919 : decode cL_law 919 = .ok (.aload_n 1, 1) := ckS_g gdL_law_877 32 rfl
theorem dL_law_920 : decode cL_law 920 = .ok (.aload_n 0, 1) := ckS_g gdL_law_877 33 rfl
theorem dL_law_921 : decode cL_law 921 = .ok (.iload_n 3, 1) := ckS_g gdL_law_877 34 rfl
theorem dL_law_922 : decode cL_law 922 = .ok (.iconst 1, 1) := ckS_g gdL_law_877 35 rfl
theorem dL_law_923 : decode cL_law 923 = .ok (.iadd, 1) := ckS_g gdL_law_877 36 rfl
theorem dL_law_924 : decode cL_law 924 = .ok (.iaload, 1) := ckS_g gdL_law_877 37 rfl
theorem dL_law_925 : decode cL_law 925 = .ok (.aload_n 0, 1) := ckS_g gdL_law_877 38 rfl
theorem dL_law_926 : decode cL_law 926 = .ok (.iload_n 3, 1) := ckS_g gdL_law_877 39 rfl
theorem gdL_law_927 : ckS (List.drop 927 cL_law.data.toList) 927 [(927, .iconst 2, 1), (928, .iadd, 1), (929, .iaload, 1), (930, .invokevirtual 133, 3), (933, .pop, 1), (934, .aload_n 2, 1), (935, .aload_n 0, 1), (936, .iload_n 3, 1), (937, .iconst 1, 1), (938, .iadd, 1), (939, .iaload, 1), (940, .aload_n 0, 1), (941, .iload_n 3, 1), (942, .iconst 2, 1), (943, .iadd, 1), (944, .iaload, 1), (945, .invokevirtual 136, 3), (948, .pop, 1), (949, .goto 318, 3), (952, .aload_n 1, 1), (953, .aload_n 0, 1), (954, .iload_n 3, 1), (955, .iconst 1, 1), (956, .iadd, 1), (957, .iaload, 1), (958, .aload_n 0, 1), (959, .iload_n 3, 1), (960, .iconst 2, 1), (961, .iadd, 1), (962, .iaload, 1), (963, .invokevirtual 137, 3), (966, .pop, 1), (967, .aload_n 2, 1), (968, .aload_n 0, 1), (969, .iload_n 3, 1), (970, .iconst 1, 1), (971, .iadd, 1), (972, .iaload, 1), (973, .aload_n 0, 1), (974, .iload_n 3, 1)] = true := by decide +kernel
theorem dL_law_927 : decode cL_law 927 = .ok (.iconst 2, 1) := ckS_g gdL_law_927 0 rfl
theorem dL_law_928 : decode cL_law 928 = .ok (.iadd, 1) := ckS_g gdL_law_927 1 rfl
theorem dL_law_929 : decode cL_law 929 = .ok (.iaload, 1) := ckS_g gdL_law_927 2 rfl
theorem dL_law_930 : decode cL_law 930 = .ok (.invokevirtual 133, 3) := ckS_g gdL_law_927 3 rfl
theorem dL_law_933 : decode cL_law 933 = .ok (.pop, 1) := ckS_g gdL_law_927 4 rfl
theorem dL_law_934 : decode cL_law 934 = .ok (.aload_n 2, 1) := ckS_g gdL_law_927 5 rfl
theorem dL_law_935 : decode cL_law 935 = .ok (.aload_n 0, 1) := ckS_g gdL_law_927 6 rfl
theorem dL_law_936 : decode cL_law 936 = .ok (.iload_n 3, 1) := ckS_g gdL_law_927 7 rfl
theorem dL_law_937 : decode cL_law 937 = .ok (.iconst 1, 1) := ckS_g gdL_law_927 8 rfl
theorem dL_law_938 : decode cL_law 938 = .ok (.iadd, 1) := ckS_g gdL_law_927 9 rfl
theorem dL_law_939 : decode cL_law 939 = .ok (.iaload, 1) := ckS_g gdL_law_927 10 rfl
theorem dL_law_940 : decode cL_law 940 = .ok (.aload_n 0, 1) := ckS_g gdL_law_927 11 rfl
theorem dL_law_941 : decode cL_law 941 = .ok (.iload_n 3, 1) := ckS_g gdL_law_927 12 rfl
theorem dL_law_942 : decode cL_law 942 = .ok (.iconst 2, 1) := ckS_g gdL_law_927 13 rfl
theorem dL_law_943 : decode cL_law 943 = .ok (.iadd, 1) := ckS_g gdL_law_927 14 rfl
theorem dL_law_944 : decode cL_law 944 = .ok (.iaload, 1) := ckS_g gdL_law_927 15 rfl
theorem dL_law_945 : decode cL_law 945 = .ok (.invokevirtual 136, 3) := ckS_g gdL_law_927 16 rfl
theorem dL_law_948 : decode cL_law 948 = .ok (.pop, 1) := ckS_g gdL_law_927 17 rfl
theorem dL_law_949 : decode cL_law 949 = .ok (.goto 318, 3) := ckS_g gdL_law_927 18 rfl
theorem dL_law_952 : decode cL_law 952 = .ok (.aload_n 1, 1) := ckS_g gdL_law_927 19 rfl
theorem dL_law_953 : decode cL_law 953 = .ok (.aload_n 0, 1) := ckS_g gdL_law_927 20 rfl
theorem dL_law_954 : decode cL_law 954 = .ok (.iload_n 3, 1) := ckS_g gdL_law_927 21 rfl
theorem dL_law_955 : decode cL_law 955 = .ok (.iconst 1, 1) := ckS_g gdL_law_927 22 rfl
theorem dL_law_956 : decode cL_law 956 = .ok (.iadd, 1) := ckS_g gdL_law_927 23 rfl
theorem dL_law_957 : decode cL_law 957 = .ok (.iaload, 1) := ckS_g gdL_law_927 24 rfl
theorem dL_law_958 : decode cL_law 958 = .ok (.aload_n 0, 1) := ckS_g gdL_law_927 25 rfl
theorem dL_law_959 : decode cL_law 959 = .ok (.iload_n 3, 1) := ckS_g gdL_law_927 26 rfl
theorem dL_law_960 : decode cL_law 960 = .ok (.iconst 2, 1) := ckS_g gdL_law_927 27 rfl
theorem dL_law_961 : decode cL_law 961 = .ok (.iadd, 1) := ckS_g gdL_law_927 28 rfl
theorem dL_law_962 : decode cL_law 962 = .ok (.iaload, 1) := ckS_g gdL_law_927 29 rfl
theorem dL_law_963 : decode cL_law 963 = .ok (.invokevirtual 137, 3) := ckS_g gdL_law_927 30 rfl
theorem dL_law_966 : decode cL_law 966 = .ok (.pop, 1) := ckS_g gdL_law_927 31 rfl
theorem dL_law_967 : decode cL_law 967 = .ok (.aload_n 2, 1) := ckS_g gdL_law_927 32 rfl
theorem dL_law_968 : decode cL_law 968 = .ok (.aload_n 0, 1) := ckS_g gdL_law_927 33 rfl
theorem dL_law_969 : decode cL_law 969 = .ok (.iload_n 3, 1) := ckS_g gdL_law_927 34 rfl
theorem dL_law_970 : decode cL_law 970 = .ok (.iconst 1, 1) := ckS_g gdL_law_927 35 rfl
theorem dL_law_971 : decode cL_law 971 = .ok (.iadd, 1) := ckS_g gdL_law_927 36 rfl
theorem dL_law_972 : decode cL_law 972 = .ok (.iaload, 1) := ckS_g gdL_law_927 37 rfl
theorem dL_law_973 : decode cL_law 973 = .ok (.aload_n 0, 1) := ckS_g gdL_law_927 38 rfl
theorem dL_law_974 : decode cL_law 974 = .ok (.iload_n 3, 1) := ckS_g gdL_law_927 39 rfl
theorem gdL_law_975 : ckS (List.drop 975 cL_law.data.toList) 975 [(975, .iconst 2, 1), (976, .iadd, 1), (977, .iaload, 1), (978, .invokevirtual 140, 3), (981, .pop, 1), (982, .goto 285, 3), (985, .aload_n 1, 1), (986, .aload_n 0, 1), (987, .iload_n 3, 1), (988, .iconst 1, 1), (989, .iadd, 1), (990, .iaload, 1), (991, .invokevirtual 141, 3), (994, .pop, 1), (995, .aload_n 2, 1), (996, .aload_n 0, 1), (997, .iload_n 3, 1), (998, .iconst 1, 1), (999, .iadd, 1), (1000, .iaload, 1), (1001, .invokevirtual 144, 3), (1004, .pop, 1), (1005, .goto 262, 3), (1008, .aload_n 1, 1), (1009, .aload_n 0, 1), (1010, .iload_n 3, 1), (1011, .iconst 1, 1), (1012, .iadd, 1), (1013, .iaload, 1), (1014, .invokevirtual 145, 3), (1017, .pop, 1), (1018, .aload_n 2, 1), (1019, .aload_n 0, 1), (1020, .iload_n 3, 1), (1021, .iconst 1, 1), (1022, .iadd, 1), (1023, .iaload, 1), (1024, .invokevirtual 148, 3), (1027, .pop, 1), (1028, .goto 239, 3)] = true := by decide +kernel
theorem dL_law_975 : decode cL_law 975 = .ok (.iconst 2, 1) := ckS_g gdL_law_975 0 rfl
theorem dL_law_976 : decode cL_law 976 = .ok (.iadd, 1) := ckS_g gdL_law_975 1 rfl
theorem dL_law_977 : decode cL_law 977 = .ok (.iaload, 1) := ckS_g gdL_law_975 2 rfl
theorem dL_law_978 : decode cL_law 978 = .ok (.invokevirtual 140, 3) := ckS_g gdL_law_975 3 rfl
theorem dL_law_981 : decode cL_law 981 = .ok (.pop, 1) := ckS_g gdL_law_975 4 rfl
theorem dL_law_982 : decode cL_law 982 = .ok (.goto 285, 3) := ckS_g gdL_law_975 5 rfl
theorem dL_law_985 : decode cL_law 985 = .ok (.aload_n 1, 1) := ckS_g gdL_law_975 6 rfl
theorem dL_law_986 : decode cL_law 986 = .ok (.aload_n 0, 1) := ckS_g gdL_law_975 7 rfl
theorem dL_law_987 : decode cL_law 987 = .ok (.iload_n 3, 1) := ckS_g gdL_law_975 8 rfl
theorem dL_law_988 : decode cL_law 988 = .ok (.iconst 1, 1) := ckS_g gdL_law_975 9 rfl
theorem dL_law_989 : decode cL_law 989 = .ok (.iadd, 1) := ckS_g gdL_law_975 10 rfl
theorem dL_law_990 : decode cL_law 990 = .ok (.iaload, 1) := ckS_g gdL_law_975 11 rfl
theorem dL_law_991 : decode cL_law 991 = .ok (.invokevirtual 141, 3) := ckS_g gdL_law_975 12 rfl
theorem dL_law_994 : decode cL_law 994 = .ok (.pop, 1) := ckS_g gdL_law_975 13 rfl
theorem dL_law_995 : decode cL_law 995 = .ok (.aload_n 2, 1) := ckS_g gdL_law_975 14 rfl
theorem dL_law_996 : decode cL_law 996 = .ok (.aload_n 0, 1) := ckS_g gdL_law_975 15 rfl
theorem dL_law_997 : decode cL_law 997 = .ok (.iload_n 3, 1) := ckS_g gdL_law_975 16 rfl
theorem dL_law_998 : decode cL_law 998 = .ok (.iconst 1, 1) := ckS_g gdL_law_975 17 rfl
theorem dL_law_999 : decode cL_law 999 = .ok (.iadd, 1) := ckS_g gdL_law_975 18 rfl
theorem dL_law_1000 : decode cL_law 1000 = .ok (.iaload, 1) := ckS_g gdL_law_975 19 rfl
theorem dL_law_1001 : decode cL_law 1001 = .ok (.invokevirtual 144, 3) := ckS_g gdL_law_975 20 rfl
theorem dL_law_1004 : decode cL_law 1004 = .ok (.pop, 1) := ckS_g gdL_law_975 21 rfl
theorem dL_law_1005 : decode cL_law 1005 = .ok (.goto 262, 3) := ckS_g gdL_law_975 22 rfl
theorem dL_law_1008 : decode cL_law 1008 = .ok (.aload_n 1, 1) := ckS_g gdL_law_975 23 rfl
theorem dL_law_1009 : decode cL_law 1009 = .ok (.aload_n 0, 1) := ckS_g gdL_law_975 24 rfl
theorem dL_law_1010 : decode cL_law 1010 = .ok (.iload_n 3, 1) := ckS_g gdL_law_975 25 rfl
theorem dL_law_1011 : decode cL_law 1011 = .ok (.iconst 1, 1) := ckS_g gdL_law_975 26 rfl
theorem dL_law_1012 : decode cL_law 1012 = .ok (.iadd, 1) := ckS_g gdL_law_975 27 rfl
theorem dL_law_1013 : decode cL_law 1013 = .ok (.iaload, 1) := ckS_g gdL_law_975 28 rfl
theorem dL_law_1014 : decode cL_law 1014 = .ok (.invokevirtual 145, 3) := ckS_g gdL_law_975 29 rfl
theorem dL_law_1017 : decode cL_law 1017 = .ok (.pop, 1) := ckS_g gdL_law_975 30 rfl
theorem dL_law_1018 : decode cL_law 1018 = .ok (.aload_n 2, 1) := ckS_g gdL_law_975 31 rfl
theorem dL_law_1019 : decode cL_law 1019 = .ok (.aload_n 0, 1) := ckS_g gdL_law_975 32 rfl
theorem dL_law_1020 : decode cL_law 1020 = .ok (.iload_n 3, 1) := ckS_g gdL_law_975 33 rfl
theorem dL_law_1021 : decode cL_law 1021 = .ok (.iconst 1, 1) := ckS_g gdL_law_975 34 rfl
theorem dL_law_1022 : decode cL_law 1022 = .ok (.iadd, 1) := ckS_g gdL_law_975 35 rfl
theorem dL_law_1023 : decode cL_law 1023 = .ok (.iaload, 1) := ckS_g gdL_law_975 36 rfl
theorem dL_law_1024 : decode cL_law 1024 = .ok (.invokevirtual 148, 3) := ckS_g gdL_law_975 37 rfl
theorem dL_law_1027 : decode cL_law 1027 = .ok (.pop, 1) := ckS_g gdL_law_975 38 rfl
theorem dL_law_1028 : decode cL_law 1028 = .ok (.goto 239, 3) := ckS_g gdL_law_975 39 rfl
theorem gdL_law_1031 : ckS (List.drop 1031 cL_law.data.toList) 1031 [(1031, .aload_n 1, 1), (1032, .aload_n 0, 1), (1033, .iload_n 3, 1), (1034, .iconst 1, 1), (1035, .iadd, 1), (1036, .iaload, 1), (1037, .aload_n 0, 1), (1038, .iload_n 3, 1), (1039, .iconst 2, 1), (1040, .iadd, 1), (1041, .iaload, 1), (1042, .invokevirtual 149, 3), (1045, .pop, 1), (1046, .aload_n 2, 1), (1047, .aload_n 0, 1), (1048, .iload_n 3, 1), (1049, .iconst 1, 1), (1050, .iadd, 1), (1051, .iaload, 1), (1052, .aload_n 0, 1), (1053, .iload_n 3, 1), (1054, .iconst 2, 1), (1055, .iadd, 1), (1056, .iaload, 1), (1057, .invokevirtual 152, 3), (1060, .pop, 1), (1061, .goto 206, 3), (1064, .aload_n 1, 1), (1065, .aload_n 0, 1), (1066, .iload_n 3, 1), (1067, .iconst 1, 1), (1068, .iadd, 1), (1069, .iaload, 1), (1070, .aload_n 0, 1), (1071, .iload_n 3, 1), (1072, .iconst 2, 1), (1073, .iadd, 1), (1074, .iaload, 1), (1075, .aload_n 0, 1), (1076, .iload_n 3, 1)] = true := by decide +kernel
theorem dL_law_1031 : decode cL_law 1031 = .ok (.aload_n 1, 1) := ckS_g gdL_law_1031 0 rfl
theorem dL_law_1032 : decode cL_law 1032 = .ok (.aload_n 0, 1) := ckS_g gdL_law_1031 1 rfl
theorem dL_law_1033 : decode cL_law 1033 = .ok (.iload_n 3, 1) := ckS_g gdL_law_1031 2 rfl
theorem dL_law_1034 : decode cL_law 1034 = .ok (.iconst 1, 1) := ckS_g gdL_law_1031 3 rfl
theorem dL_law_1035 : decode cL_law 1035 = .ok (.iadd, 1) := ckS_g gdL_law_1031 4 rfl
theorem dL_law_1036 : decode cL_law 1036 = .ok (.iaload, 1) := ckS_g gdL_law_1031 5 rfl
theorem dL_law_1037 : decode cL_law 1037 = .ok (.aload_n 0, 1) := ckS_g gdL_law_1031 6 rfl
theorem dL_law_1038 : decode cL_law 1038 = .ok (.iload_n 3, 1) := ckS_g gdL_law_1031 7 rfl
theorem dL_law_1039 : decode cL_law 1039 = .ok (.iconst 2, 1) := ckS_g gdL_law_1031 8 rfl
theorem dL_law_1040 : decode cL_law 1040 = .ok (.iadd, 1) := ckS_g gdL_law_1031 9 rfl
theorem dL_law_1041 : decode cL_law 1041 = .ok (.iaload, 1) := ckS_g gdL_law_1031 10 rfl
theorem dL_law_1042 : decode cL_law 1042 = .ok (.invokevirtual 149, 3) := ckS_g gdL_law_1031 11 rfl
theorem dL_law_1045 : decode cL_law 1045 = .ok (.pop, 1) := ckS_g gdL_law_1031 12 rfl
theorem dL_law_1046 : decode cL_law 1046 = .ok (.aload_n 2, 1) := ckS_g gdL_law_1031 13 rfl
theorem dL_law_1047 : decode cL_law 1047 = .ok (.aload_n 0, 1) := ckS_g gdL_law_1031 14 rfl
theorem dL_law_1048 : decode cL_law 1048 = .ok (.iload_n 3, 1) := ckS_g gdL_law_1031 15 rfl
theorem dL_law_1049 : decode cL_law 1049 = .ok (.iconst 1, 1) := ckS_g gdL_law_1031 16 rfl
theorem dL_law_1050 : decode cL_law 1050 = .ok (.iadd, 1) := ckS_g gdL_law_1031 17 rfl
theorem dL_law_1051 : decode cL_law 1051 = .ok (.iaload, 1) := ckS_g gdL_law_1031 18 rfl
theorem dL_law_1052 : decode cL_law 1052 = .ok (.aload_n 0, 1) := ckS_g gdL_law_1031 19 rfl
theorem dL_law_1053 : decode cL_law 1053 = .ok (.iload_n 3, 1) := ckS_g gdL_law_1031 20 rfl
theorem dL_law_1054 : decode cL_law 1054 = .ok (.iconst 2, 1) := ckS_g gdL_law_1031 21 rfl
theorem dL_law_1055 : decode cL_law 1055 = .ok (.iadd, 1) := ckS_g gdL_law_1031 22 rfl
theorem dL_law_1056 : decode cL_law 1056 = .ok (.iaload, 1) := ckS_g gdL_law_1031 23 rfl
theorem dL_law_1057 : decode cL_law 1057 = .ok (.invokevirtual 152, 3) := ckS_g gdL_law_1031 24 rfl
theorem dL_law_1060 : decode cL_law 1060 = .ok (.pop, 1) := ckS_g gdL_law_1031 25 rfl
theorem dL_law_1061 : decode cL_law 1061 = .ok (.goto 206, 3) := ckS_g gdL_law_1031 26 rfl
theorem dL_law_1064 : decode cL_law 1064 = .ok (.aload_n 1, 1) := ckS_g gdL_law_1031 27 rfl
theorem dL_law_1065 : decode cL_law 1065 = .ok (.aload_n 0, 1) := ckS_g gdL_law_1031 28 rfl
theorem dL_law_1066 : decode cL_law 1066 = .ok (.iload_n 3, 1) := ckS_g gdL_law_1031 29 rfl
theorem dL_law_1067 : decode cL_law 1067 = .ok (.iconst 1, 1) := ckS_g gdL_law_1031 30 rfl
theorem dL_law_1068 : decode cL_law 1068 = .ok (.iadd, 1) := ckS_g gdL_law_1031 31 rfl
theorem dL_law_1069 : decode cL_law 1069 = .ok (.iaload, 1) := ckS_g gdL_law_1031 32 rfl
theorem dL_law_1070 : decode cL_law 1070 = .ok (.aload_n 0, 1) := ckS_g gdL_law_1031 33 rfl
theorem dL_law_1071 : decode cL_law 1071 = .ok (.iload_n 3, 1) := ckS_g gdL_law_1031 34 rfl
theorem dL_law_1072 : decode cL_law 1072 = .ok (.iconst 2, 1) := ckS_g gdL_law_1031 35 rfl
theorem dL_law_1073 : decode cL_law 1073 = .ok (.iadd, 1) := ckS_g gdL_law_1031 36 rfl
theorem dL_law_1074 : decode cL_law 1074 = .ok (.iaload, 1) := ckS_g gdL_law_1031 37 rfl
theorem dL_law_1075 : decode cL_law 1075 = .ok (.aload_n 0, 1) := ckS_g gdL_law_1031 38 rfl
theorem dL_law_1076 : decode cL_law 1076 = .ok (.iload_n 3, 1) := ckS_g gdL_law_1031 39 rfl
theorem gdL_law_1077 : ckS (List.drop 1077 cL_law.data.toList) 1077 [(1077, .iconst 3, 1), (1078, .iadd, 1), (1079, .iaload, 1), (1080, .invokevirtual 153, 3), (1083, .pop, 1), (1084, .aload_n 2, 1), (1085, .aload_n 0, 1), (1086, .iload_n 3, 1), (1087, .iconst 1, 1), (1088, .iadd, 1), (1089, .iaload, 1), (1090, .aload_n 0, 1), (1091, .iload_n 3, 1), (1092, .iconst 2, 1), (1093, .iadd, 1), (1094, .iaload, 1), (1095, .aload_n 0, 1), (1096, .iload_n 3, 1), (1097, .iconst 3, 1), (1098, .iadd, 1), (1099, .iaload, 1), (1100, .invokevirtual 157, 3), (1103, .pop, 1), (1104, .goto 163, 3), (1107, .aload_n 1, 1), (1108, .invokevirtual 158, 3), (1111, .pop, 1), (1112, .aload_n 2, 1), (1113, .invokevirtual 161, 3), (1116, .pop, 1), (1117, .goto 150, 3), (1120, .aload_n 1, 1), (1121, .aload_n 0, 1), (1122, .iload_n 3, 1), (1123, .iconst 1, 1), (1124, .iadd, 1), (1125, .iaload, 1), (1126, .aload_n 0, 1), (1127, .iload_n 3, 1), (1128, .iconst 2, 1)] = true := by decide +kernel
theorem dL_law_1077 : decode cL_law 1077 = .ok (.iconst 3, 1) := ckS_g gdL_law_1077 0 rfl
theorem dL_law_1078 : decode cL_law 1078 = .ok (.iadd, 1) := ckS_g gdL_law_1077 1 rfl
theorem dL_law_1079 : decode cL_law 1079 = .ok (.iaload, 1) := ckS_g gdL_law_1077 2 rfl
theorem dL_law_1080 : decode cL_law 1080 = .ok (.invokevirtual 153, 3) := ckS_g gdL_law_1077 3 rfl
theorem dL_law_1083 : decode cL_law 1083 = .ok (.pop, 1) := ckS_g gdL_law_1077 4 rfl
theorem dL_law_1084 : decode cL_law 1084 = .ok (.aload_n 2, 1) := ckS_g gdL_law_1077 5 rfl
theorem dL_law_1085 : decode cL_law 1085 = .ok (.aload_n 0, 1) := ckS_g gdL_law_1077 6 rfl
theorem dL_law_1086 : decode cL_law 1086 = .ok (.iload_n 3, 1) := ckS_g gdL_law_1077 7 rfl
theorem dL_law_1087 : decode cL_law 1087 = .ok (.iconst 1, 1) := ckS_g gdL_law_1077 8 rfl
theorem dL_law_1088 : decode cL_law 1088 = .ok (.iadd, 1) := ckS_g gdL_law_1077 9 rfl
theorem dL_law_1089 : decode cL_law 1089 = .ok (.iaload, 1) := ckS_g gdL_law_1077 10 rfl
theorem dL_law_1090 : decode cL_law 1090 = .ok (.aload_n 0, 1) := ckS_g gdL_law_1077 11 rfl
theorem dL_law_1091 : decode cL_law 1091 = .ok (.iload_n 3, 1) := ckS_g gdL_law_1077 12 rfl
theorem dL_law_1092 : decode cL_law 1092 = .ok (.iconst 2, 1) := ckS_g gdL_law_1077 13 rfl
theorem dL_law_1093 : decode cL_law 1093 = .ok (.iadd, 1) := ckS_g gdL_law_1077 14 rfl
theorem dL_law_1094 : decode cL_law 1094 = .ok (.iaload, 1) := ckS_g gdL_law_1077 15 rfl
theorem dL_law_1095 : decode cL_law 1095 = .ok (.aload_n 0, 1) := ckS_g gdL_law_1077 16 rfl
theorem dL_law_1096 : decode cL_law 1096 = .ok (.iload_n 3, 1) := ckS_g gdL_law_1077 17 rfl
theorem dL_law_1097 : decode cL_law 1097 = .ok (.iconst 3, 1) := ckS_g gdL_law_1077 18 rfl
theorem dL_law_1098 : decode cL_law 1098 = .ok (.iadd, 1) := ckS_g gdL_law_1077 19 rfl
theorem dL_law_1099 : decode cL_law 1099 = .ok (.iaload, 1) := ckS_g gdL_law_1077 20 rfl
theorem dL_law_1100 : decode cL_law 1100 = .ok (.invokevirtual 157, 3) := ckS_g gdL_law_1077 21 rfl
theorem dL_law_1103 : decode cL_law 1103 = .ok (.pop, 1) := ckS_g gdL_law_1077 22 rfl
theorem dL_law_1104 : decode cL_law 1104 = .ok (.goto 163, 3) := ckS_g gdL_law_1077 23 rfl
theorem dL_law_1107 : decode cL_law 1107 = .ok (.aload_n 1, 1) := ckS_g gdL_law_1077 24 rfl
theorem dL_law_1108 : decode cL_law 1108 = .ok (.invokevirtual 158, 3) := ckS_g gdL_law_1077 25 rfl
theorem dL_law_1111 : decode cL_law 1111 = .ok (.pop, 1) := ckS_g gdL_law_1077 26 rfl
theorem dL_law_1112 : decode cL_law 1112 = .ok (.aload_n 2, 1) := ckS_g gdL_law_1077 27 rfl
theorem dL_law_1113 : decode cL_law 1113 = .ok (.invokevirtual 161, 3) := ckS_g gdL_law_1077 28 rfl
theorem dL_law_1116 : decode cL_law 1116 = .ok (.pop, 1) := ckS_g gdL_law_1077 29 rfl
theorem dL_law_1117 : decode cL_law 1117 = .ok (.goto 150, 3) := ckS_g gdL_law_1077 30 rfl
theorem dL_law_1120 : decode cL_law 1120 = .ok (.aload_n 1, 1) := ckS_g gdL_law_1077 31 rfl
theorem dL_law_1121 : decode cL_law 1121 = .ok (.aload_n 0, 1) := ckS_g gdL_law_1077 32 rfl
theorem dL_law_1122 : decode cL_law 1122 = .ok (.iload_n 3, 1) := ckS_g gdL_law_1077 33 rfl
theorem dL_law_1123 : decode cL_law 1123 = .ok (.iconst 1, 1) := ckS_g gdL_law_1077 34 rfl
theorem dL_law_1124 : decode cL_law 1124 = .ok (.iadd, 1) := ckS_g gdL_law_1077 35 rfl
theorem dL_law_1125 : decode cL_law 1125 = .ok (.iaload, 1) := ckS_g gdL_law_1077 36 rfl
theorem dL_law_1126 : decode cL_law 1126 = .ok (.aload_n 0, 1) := ckS_g gdL_law_1077 37 rfl
theorem dL_law_1127 : decode cL_law 1127 = .ok (.iload_n 3, 1) := ckS_g gdL_law_1077 38 rfl
theorem dL_law_1128 : decode cL_law 1128 = .ok (.iconst 2, 1) := ckS_g gdL_law_1077 39 rfl
theorem gdL_law_1129 : ckS (List.drop 1129 cL_law.data.toList) 1129 [(1129, .iadd, 1), (1130, .iaload, 1), (1131, .aload_n 0, 1), (1132, .iload_n 3, 1), (1133, .iconst 3, 1), (1134, .iadd, 1), (1135, .iaload, 1), (1136, .aload_n 0, 1), (1137, .iload_n 3, 1), (1138, .iconst 4, 1), (1139, .iadd, 1), (1140, .iaload, 1), (1141, .aload_n 0, 1), (1142, .iload_n 3, 1), (1143, .iconst 5, 1), (1144, .iadd, 1), (1145, .iaload, 1), (1146, .aload_n 0, 1), (1147, .iload_n 3, 1), (1148, .bipush 6, 2), (1150, .iadd, 1), (1151, .iaload, 1), (1152, .invokevirtual 162, 3), (1155, .pop, 1), (1156, .aload_n 2, 1), (1157, .aload_n 0, 1), (1158, .iload_n 3, 1), (1159, .iconst 1, 1), (1160, .iadd, 1), (1161, .iaload, 1), (1162, .aload_n 0, 1), (1163, .iload_n 3, 1), (1164, .iconst 2, 1), (1165, .iadd, 1), (1166, .iaload, 1), (1167, .aload_n 0, 1), (1168, .iload_n 3, 1), (1169, .iconst 3, 1), (1170, .iadd, 1), (1171, .iaload, 1)] = true := by decide +kernel
theorem dL_law_1129 : decode cL_law 1129 = .ok (.iadd, 1) := ckS_g gdL_law_1129 0 rfl
theorem dL_law_1130 : decode cL_law 1130 = .ok (.iaload, 1) := ckS_g gdL_law_1129 1 rfl
theorem dL_law_1131 : decode cL_law 1131 = .ok (.aload_n 0, 1) := ckS_g gdL_law_1129 2 rfl
theorem dL_law_1132 : decode cL_law 1132 = .ok (.iload_n 3, 1) := ckS_g gdL_law_1129 3 rfl
theorem dL_law_1133 : decode cL_law 1133 = .ok (.iconst 3, 1) := ckS_g gdL_law_1129 4 rfl
theorem dL_law_1134 : decode cL_law 1134 = .ok (.iadd, 1) := ckS_g gdL_law_1129 5 rfl
theorem dL_law_1135 : decode cL_law 1135 = .ok (.iaload, 1) := ckS_g gdL_law_1129 6 rfl
theorem dL_law_1136 : decode cL_law 1136 = .ok (.aload_n 0, 1) := ckS_g gdL_law_1129 7 rfl
theorem dL_law_1137 : decode cL_law 1137 = .ok (.iload_n 3, 1) := ckS_g gdL_law_1129 8 rfl
theorem dL_law_1138 : decode cL_law 1138 = .ok (.iconst 4, 1) := ckS_g gdL_law_1129 9 rfl
theorem dL_law_1139 : decode cL_law 1139 = .ok (.iadd, 1) := ckS_g gdL_law_1129 10 rfl
theorem dL_law_1140 : decode cL_law 1140 = .ok (.iaload, 1) := ckS_g gdL_law_1129 11 rfl
theorem dL_law_1141 : decode cL_law 1141 = .ok (.aload_n 0, 1) := ckS_g gdL_law_1129 12 rfl
theorem dL_law_1142 : decode cL_law 1142 = .ok (.iload_n 3, 1) := ckS_g gdL_law_1129 13 rfl
theorem dL_law_1143 : decode cL_law 1143 = .ok (.iconst 5, 1) := ckS_g gdL_law_1129 14 rfl
theorem dL_law_1144 : decode cL_law 1144 = .ok (.iadd, 1) := ckS_g gdL_law_1129 15 rfl
theorem dL_law_1145 : decode cL_law 1145 = .ok (.iaload, 1) := ckS_g gdL_law_1129 16 rfl
theorem dL_law_1146 : decode cL_law 1146 = .ok (.aload_n 0, 1) := ckS_g gdL_law_1129 17 rfl
theorem dL_law_1147 : decode cL_law 1147 = .ok (.iload_n 3, 1) := ckS_g gdL_law_1129 18 rfl
theorem dL_law_1148 : decode cL_law 1148 = .ok (.bipush 6, 2) := ckS_g gdL_law_1129 19 rfl
theorem dL_law_1150 : decode cL_law 1150 = .ok (.iadd, 1) := ckS_g gdL_law_1129 20 rfl
theorem dL_law_1151 : decode cL_law 1151 = .ok (.iaload, 1) := ckS_g gdL_law_1129 21 rfl
theorem dL_law_1152 : decode cL_law 1152 = .ok (.invokevirtual 162, 3) := ckS_g gdL_law_1129 22 rfl
theorem dL_law_1155 : decode cL_law 1155 = .ok (.pop, 1) := ckS_g gdL_law_1129 23 rfl
theorem dL_law_1156 : decode cL_law 1156 = .ok (.aload_n 2, 1) := ckS_g gdL_law_1129 24 rfl
theorem dL_law_1157 : decode cL_law 1157 = .ok (.aload_n 0, 1) := ckS_g gdL_law_1129 25 rfl
theorem dL_law_1158 : decode cL_law 1158 = .ok (.iload_n 3, 1) := ckS_g gdL_law_1129 26 rfl
theorem dL_law_1159 : decode cL_law 1159 = .ok (.iconst 1, 1) := ckS_g gdL_law_1129 27 rfl
theorem dL_law_1160 : decode cL_law 1160 = .ok (.iadd, 1) := ckS_g gdL_law_1129 28 rfl
theorem dL_law_1161 : decode cL_law 1161 = .ok (.iaload, 1) := ckS_g gdL_law_1129 29 rfl
theorem dL_law_1162 : decode cL_law 1162 = .ok (.aload_n 0, 1) := ckS_g gdL_law_1129 30 rfl
theorem dL_law_1163 : decode cL_law 1163 = .ok (.iload_n 3, 1) := ckS_g gdL_law_1129 31 rfl
theorem dL_law_1164 : decode cL_law 1164 = .ok (.iconst 2, 1) := ckS_g gdL_law_1129 32 rfl
theorem dL_law_1165 : decode cL_law 1165 = .ok (.iadd, 1) := ckS_g gdL_law_1129 33 rfl
theorem dL_law_1166 : decode cL_law 1166 = .ok (.iaload, 1) := ckS_g gdL_law_1129 34 rfl
theorem dL_law_1167 : decode cL_law 1167 = .ok (.aload_n 0, 1) := ckS_g gdL_law_1129 35 rfl
theorem dL_law_1168 : decode cL_law 1168 = .ok (.iload_n 3, 1) := ckS_g gdL_law_1129 36 rfl
theorem dL_law_1169 : decode cL_law 1169 = .ok (.iconst 3, 1) := ckS_g gdL_law_1129 37 rfl
theorem dL_law_1170 : decode cL_law 1170 = .ok (.iadd, 1) := ckS_g gdL_law_1129 38 rfl
theorem dL_law_1171 : decode cL_law 1171 = .ok (.iaload, 1) := ckS_g gdL_law_1129 39 rfl
theorem gdL_law_1172 : ckS (List.drop 1172 cL_law.data.toList) 1172 [(1172, .aload_n 0, 1), (1173, .iload_n 3, 1), (1174, .iconst 4, 1), (1175, .iadd, 1), (1176, .iaload, 1), (1177, .aload_n 0, 1), (1178, .iload_n 3, 1), (1179, .iconst 5, 1), (1180, .iadd, 1), (1181, .iaload, 1), (1182, .aload_n 0, 1), (1183, .iload_n 3, 1), (1184, .bipush 6, 2), (1186, .iadd, 1), (1187, .iaload, 1), (1188, .invokevirtual 166, 3), (1191, .pop, 1), (1192, .goto 75, 3), (1195, .aload_n 1, 1), (1196, .invokevirtual 167, 3), (1199, .pop, 1), (1200, .aload_n 2, 1), (1201, .invokevirtual 170, 3), (1204, .pop, 1), (1205, .goto 62, 3), (1208, .aload_n 1, 1), (1209, .invokevirtual 171, 3), (1212, .pop, 1), (1213, .aload_n 2, 1), (1214, .invokevirtual 174, 3), (1217, .pop, 1), (1218, .goto 49, 3), (1221, .aload_n 1, 1), (1222, .aload_n 0, 1), (1223, .iload_n 3, 1), (1224, .iconst 1, 1), (1225, .iadd, 1), (1226, .iaload, 1), (1227, .invokevirtual 175, 3), (1230, .pop, 1)] = true := by decide +kernel
theorem dL_law_1172 : decode cL_law 1172 = .ok (.aload_n 0, 1) := ckS_g gdL_law_1172 0 rfl
theorem dL_law_1173 : decode cL_law 1173 = .ok (.iload_n 3, 1) := ckS_g gdL_law_1172 1 rfl
theorem dL_law_1174 : decode cL_law 1174 = .ok (.iconst 4, 1) := ckS_g gdL_law_1172 2 rfl
theorem dL_law_1175 : decode cL_law 1175 = .ok (.iadd, 1) := ckS_g gdL_law_1172 3 rfl
theorem dL_law_1176 : decode cL_law 1176 = .ok (.iaload, 1) := ckS_g gdL_law_1172 4 rfl
theorem dL_law_1177 : decode cL_law 1177 = .ok (.aload_n 0, 1) := ckS_g gdL_law_1172 5 rfl
theorem dL_law_1178 : decode cL_law 1178 = .ok (.iload_n 3, 1) := ckS_g gdL_law_1172 6 rfl
theorem dL_law_1179 : decode cL_law 1179 = .ok (.iconst 5, 1) := ckS_g gdL_law_1172 7 rfl
theorem dL_law_1180 : decode cL_law 1180 = .ok (.iadd, 1) := ckS_g gdL_law_1172 8 rfl
theorem dL_law_1181 : decode cL_law 1181 = .ok (.iaload, 1) := ckS_g gdL_law_1172 9 rfl
theorem dL_law_1182 : decode cL_law 1182 = .ok (.aload_n 0, 1) := ckS_g gdL_law_1172 10 rfl
theorem dL_law_1183 : decode cL_law 1183 = .ok (.iload_n 3, 1) := ckS_g gdL_law_1172 11 rfl
theorem dL_law_1184 : decode cL_law 1184 = .ok (.bipush 6, 2) := ckS_g gdL_law_1172 12 rfl
theorem dL_law_1186 : decode cL_law 1186 = .ok (.iadd, 1) := ckS_g gdL_law_1172 13 rfl
theorem dL_law_1187 : decode cL_law 1187 = .ok (.iaload, 1) := ckS_g gdL_law_1172 14 rfl
theorem dL_law_1188 : decode cL_law 1188 = .ok (.invokevirtual 166, 3) := ckS_g gdL_law_1172 15 rfl
theorem dL_law_1191 : decode cL_law 1191 = .ok (.pop, 1) := ckS_g gdL_law_1172 16 rfl
theorem dL_law_1192 : decode cL_law 1192 = .ok (.goto 75, 3) := ckS_g gdL_law_1172 17 rfl
theorem dL_law_1195 : decode cL_law 1195 = .ok (.aload_n 1, 1) := ckS_g gdL_law_1172 18 rfl
theorem dL_law_1196 : decode cL_law 1196 = .ok (.invokevirtual 167, 3) := ckS_g gdL_law_1172 19 rfl
theorem dL_law_1199 : decode cL_law 1199 = .ok (.pop, 1) := ckS_g gdL_law_1172 20 rfl
theorem dL_law_1200 : decode cL_law 1200 = .ok (.aload_n 2, 1) := ckS_g gdL_law_1172 21 rfl
theorem dL_law_1201 : decode cL_law 1201 = .ok (.invokevirtual 170, 3) := ckS_g gdL_law_1172 22 rfl
theorem dL_law_1204 : decode cL_law 1204 = .ok (.pop, 1) := ckS_g gdL_law_1172 23 rfl
theorem dL_law_1205 : decode cL_law 1205 = .ok (.goto 62, 3) := ckS_g gdL_law_1172 24 rfl
theorem dL_law_1208 : decode cL_law 1208 = .ok (.aload_n 1, 1) := ckS_g gdL_law_1172 25 rfl
theorem dL_law_1209 : decode cL_law 1209 = .ok (.invokevirtual 171, 3) := ckS_g gdL_law_1172 26 rfl
theorem dL_law_1212 : decode cL_law 1212 = .ok (.pop, 1) := ckS_g gdL_law_1172 27 rfl
theorem dL_law_1213 : decode cL_law 1213 = .ok (.aload_n 2, 1) := ckS_g gdL_law_1172 28 rfl
theorem dL_law_1214 : decode cL_law 1214 = .ok (.invokevirtual 174, 3) := ckS_g gdL_law_1172 29 rfl
theorem dL_law_1217 : decode cL_law 1217 = .ok (.pop, 1) := ckS_g gdL_law_1172 30 rfl
theorem dL_law_1218 : decode cL_law 1218 = .ok (.goto 49, 3) := ckS_g gdL_law_1172 31 rfl
theorem dL_law_1221 : decode cL_law 1221 = .ok (.aload_n 1, 1) := ckS_g gdL_law_1172 32 rfl
theorem dL_law_1222 : decode cL_law 1222 = .ok (.aload_n 0, 1) := ckS_g gdL_law_1172 33 rfl
theorem dL_law_1223 : decode cL_law 1223 = .ok (.iload_n 3, 1) := ckS_g gdL_law_1172 34 rfl
theorem dL_law_1224 : decode cL_law 1224 = .ok (.iconst 1, 1) := ckS_g gdL_law_1172 35 rfl
theorem dL_law_1225 : decode cL_law 1225 = .ok (.iadd, 1) := ckS_g gdL_law_1172 36 rfl
theorem dL_law_1226 : decode cL_law 1226 = .ok (.iaload, 1) := ckS_g gdL_law_1172 37 rfl
theorem dL_law_1227 : decode cL_law 1227 = .ok (.invokevirtual 175, 3) := ckS_g gdL_law_1172 38 rfl
theorem dL_law_1230 : decode cL_law 1230 = .ok (.pop, 1) := ckS_g gdL_law_1172 39 rfl
theorem gdL_law_1231 : ckS (List.drop 1231 cL_law.data.toList) 1231 [(1231, .aload_n 2, 1), (1232, .aload_n 0, 1), (1233, .iload_n 3, 1), (1234, .iconst 1, 1), (1235, .iadd, 1), (1236, .iaload, 1), (1237, .invokevirtual 178, 3), (1240, .pop, 1), (1241, .goto 26, 3), (1244, .aload_n 1, 1), (1245, .aload_n 0, 1), (1246, .iload_n 3, 1), (1247, .iconst 1, 1), (1248, .iadd, 1), (1249, .iaload, 1), (1250, .invokevirtual 179, 3), (1253, .pop, 1), (1254, .aload_n 2, 1), (1255, .aload_n 0, 1), (1256, .iload_n 3, 1), (1257, .iconst 1, 1), (1258, .iadd, 1), (1259, .iaload, 1), (1260, .invokevirtual 182, 3), (1263, .pop, 1), (1264, .goto 3, 3), (1267, .iinc 3 7, 3), (1270, .goto (-1252), 3), (1273, .iconst 1, 1), (1274, .ireturn, 1)] = true := by decide +kernel
theorem dL_law_1231 : decode cL_law 1231 = .ok (.aload_n 2, 1) := ckS_g gdL_law_1231 0 rfl
theorem dL_law_1232 : decode cL_law 1232 = .ok (.aload_n 0, 1) := ckS_g gdL_law_1231 1 rfl
theorem dL_law_1233 : decode cL_law 1233 = .ok (.iload_n 3, 1) := ckS_g gdL_law_1231 2 rfl
theorem dL_law_1234 : decode cL_law 1234 = .ok (.iconst 1, 1) := ckS_g gdL_law_1231 3 rfl
theorem dL_law_1235 : decode cL_law 1235 = .ok (.iadd, 1) := ckS_g gdL_law_1231 4 rfl
theorem dL_law_1236 : decode cL_law 1236 = .ok (.iaload, 1) := ckS_g gdL_law_1231 5 rfl
theorem dL_law_1237 : decode cL_law 1237 = .ok (.invokevirtual 178, 3) := ckS_g gdL_law_1231 6 rfl
theorem dL_law_1240 : decode cL_law 1240 = .ok (.pop, 1) := ckS_g gdL_law_1231 7 rfl
theorem dL_law_1241 : decode cL_law 1241 = .ok (.goto 26, 3) := ckS_g gdL_law_1231 8 rfl
theorem dL_law_1244 : decode cL_law 1244 = .ok (.aload_n 1, 1) := ckS_g gdL_law_1231 9 rfl
theorem dL_law_1245 : decode cL_law 1245 = .ok (.aload_n 0, 1) := ckS_g gdL_law_1231 10 rfl
theorem dL_law_1246 : decode cL_law 1246 = .ok (.iload_n 3, 1) := ckS_g gdL_law_1231 11 rfl
theorem dL_law_1247 : decode cL_law 1247 = .ok (.iconst 1, 1) := ckS_g gdL_law_1231 12 rfl
theorem dL_law_1248 : decode cL_law 1248 = .ok (.iadd, 1) := ckS_g gdL_law_1231 13 rfl
theorem dL_law_1249 : decode cL_law 1249 = .ok (.iaload, 1) := ckS_g gdL_law_1231 14 rfl
theorem dL_law_1250 : decode cL_law 1250 = .ok (.invokevirtual 179, 3) := ckS_g gdL_law_1231 15 rfl
theorem dL_law_1253 : decode cL_law 1253 = .ok (.pop, 1) := ckS_g gdL_law_1231 16 rfl
theorem dL_law_1254 : decode cL_law 1254 = .ok (.aload_n 2, 1) := ckS_g gdL_law_1231 17 rfl
theorem dL_law_1255 : decode cL_law 1255 = .ok (.aload_n 0, 1) := ckS_g gdL_law_1231 18 rfl
theorem dL_law_1256 : decode cL_law 1256 = .ok (.iload_n 3, 1) := ckS_g gdL_law_1231 19 rfl
theorem dL_law_1257 : decode cL_law 1257 = .ok (.iconst 1, 1) := ckS_g gdL_law_1231 20 rfl
theorem dL_law_1258 : decode cL_law 1258 = .ok (.iadd, 1) := ckS_g gdL_law_1231 21 rfl
theorem dL_law_1259 : decode cL_law 1259 = .ok (.iaload, 1) := ckS_g gdL_law_1231 22 rfl
theorem dL_law_1260 : decode cL_law 1260 = .ok (.invokevirtual 182, 3) := ckS_g gdL_law_1231 23 rfl
theorem dL_law_1263 : decode cL_law 1263 = .ok (.pop, 1) := ckS_g gdL_law_1231 24 rfl
theorem dL_law_1264 : decode cL_law 1264 = .ok (.goto 3, 3) := ckS_g gdL_law_1231 25 rfl
theorem dL_law_1267 : decode cL_law 1267 = .ok (.iinc 3 7, 3) := ckS_g gdL_law_1231 26 rfl
theorem dL_law_1270 : decode cL_law 1270 = .ok (.goto (-1252), 3) := ckS_g gdL_law_1231 27 rfl
theorem dL_law_1273 : decode cL_law 1273 = .ok (.iconst 1, 1) := ckS_g gdL_law_1231 28 rfl
theorem dL_law_1274 : decode cL_law 1274 = .ok (.ireturn, 1) := ckS_g gdL_law_1231 29 rfl
theorem gdX10_init_0 : ckS (List.drop 0 cX10_init.data.toList) 0 [(0, .aload_n 0, 1), (1, .invokespecial 1, 3), (4, .aload_n 0, 1), (5, .new 7, 3), (8, .dup, 1), (9, .invokespecial 9, 3), (12, .putfield 10, 3), (15, .aload_n 0, 1), (16, .new 7, 3), (19, .dup, 1), (20, .invokespecial 9, 3), (23, .putfield 16, 3), (26, .aload_n 0, 1), (27, .new 19, 3), (30, .dup, 1), (31, .bipush 6, 2), (33, .sipush 600, 3), (36, .invokespecial 21, 3), (39, .putfield 24, 3), (42, .return_, 1)] = true := by decide +kernel
theorem dX10_init_0 : decode cX10_init 0 = .ok (.aload_n 0, 1) := ckS_g gdX10_init_0 0 rfl
theorem dX10_init_1 : decode cX10_init 1 = .ok (.invokespecial 1, 3) := ckS_g gdX10_init_0 1 rfl
theorem dX10_init_4 : decode cX10_init 4 = .ok (.aload_n 0, 1) := ckS_g gdX10_init_0 2 rfl
theorem dX10_init_5 : decode cX10_init 5 = .ok (.new 7, 3) := ckS_g gdX10_init_0 3 rfl
theorem dX10_init_8 : decode cX10_init 8 = .ok (.dup, 1) := ckS_g gdX10_init_0 4 rfl
theorem dX10_init_9 : decode cX10_init 9 = .ok (.invokespecial 9, 3) := ckS_g gdX10_init_0 5 rfl
theorem dX10_init_12 : decode cX10_init 12 = .ok (.putfield 10, 3) := ckS_g gdX10_init_0 6 rfl
theorem dX10_init_15 : decode cX10_init 15 = .ok (.aload_n 0, 1) := ckS_g gdX10_init_0 7 rfl
theorem dX10_init_16 : decode cX10_init 16 = .ok (.new 7, 3) := ckS_g gdX10_init_0 8 rfl
theorem dX10_init_19 : decode cX10_init 19 = .ok (.dup, 1) := ckS_g gdX10_init_0 9 rfl
theorem dX10_init_20 : decode cX10_init 20 = .ok (.invokespecial 9, 3) := ckS_g gdX10_init_0 10 rfl
theorem dX10_init_23 : decode cX10_init 23 = .ok (.putfield 16, 3) := ckS_g gdX10_init_0 11 rfl
theorem dX10_init_26 : decode cX10_init 26 = .ok (.aload_n 0, 1) := ckS_g gdX10_init_0 12 rfl
theorem dX10_init_27 : decode cX10_init 27 = .ok (.new 19, 3) := ckS_g gdX10_init_0 13 rfl
theorem dX10_init_30 : decode cX10_init 30 = .ok (.dup, 1) := ckS_g gdX10_init_0 14 rfl
theorem dX10_init_31 : decode cX10_init 31 = .ok (.bipush 6, 2) := ckS_g gdX10_init_0 15 rfl
theorem dX10_init_33 : decode cX10_init 33 = .ok (.sipush 600, 3) := ckS_g gdX10_init_0 16 rfl
theorem dX10_init_36 : decode cX10_init 36 = .ok (.invokespecial 21, 3) := ckS_g gdX10_init_0 17 rfl
theorem dX10_init_39 : decode cX10_init 39 = .ok (.putfield 24, 3) := ckS_g gdX10_init_0 18 rfl
theorem dX10_init_42 : decode cX10_init 42 = .ok (.return_, 1) := ckS_g gdX10_init_0 19 rfl
theorem dX11_init_8 : decode cX11_init 8 = .ok (.newarray .boolean, 2) := by decide +kernel
theorem dX11_init_16 : decode cX11_init 16 = .ok (.newarray .int, 2) := by decide +kernel
theorem dX11_init_24 : decode cX11_init 24 = .ok (.newarray .boolean, 2) := by decide +kernel
theorem dX11_init_32 : decode cX11_init 32 = .ok (.newarray .int, 2) := by decide +kernel
theorem dX11_init_40 : decode cX11_init 40 = .ok (.newarray .int, 2) := by decide +kernel
theorem dX11_init_48 : decode cX11_init 48 = .ok (.newarray .int, 2) := by decide +kernel
theorem dX11_init_56 : decode cX11_init 56 = .ok (.newarray .int, 2) := by decide +kernel
theorem dX11_init_64 : decode cX11_init 64 = .ok (.newarray .int, 2) := by decide +kernel
theorem dX11_init_72 : decode cX11_init 72 = .ok (.newarray .int, 2) := by decide +kernel
theorem dX11_init_80 : decode cX11_init 80 = .ok (.newarray .int, 2) := by decide +kernel
theorem dX11_init_88 : decode cX11_init 88 = .ok (.newarray .int, 2) := by decide +kernel
theorem dX11_init_96 : decode cX11_init 96 = .ok (.newarray .int, 2) := by decide +kernel
theorem dX11_init_104 : decode cX11_init 104 = .ok (.newarray .int, 2) := by decide +kernel
theorem dX11_init_112 : decode cX11_init 112 = .ok (.newarray .boolean, 2) := by decide +kernel
theorem dX11_init_120 : decode cX11_init 120 = .ok (.newarray .boolean, 2) := by decide +kernel
theorem dX11_init_128 : decode cX11_init 128 = .ok (.newarray .boolean, 2) := by decide +kernel
theorem dX11_init_136 : decode cX11_init 136 = .ok (.newarray .boolean, 2) := by decide +kernel
theorem dX11_init_144 : decode cX11_init 144 = .ok (.newarray .int, 2) := by decide +kernel
theorem dX11_init_153 : decode cX11_init 153 = .ok (.newarray .byte, 2) := by decide +kernel
theorem dX11_init_161 : decode cX11_init 161 = .ok (.newarray .int, 2) := by decide +kernel
theorem dX11_init_169 : decode cX11_init 169 = .ok (.newarray .int, 2) := by decide +kernel
theorem dX11_init_177 : decode cX11_init 177 = .ok (.newarray .int, 2) := by decide +kernel
theorem dX11_init_185 : decode cX11_init 185 = .ok (.newarray .int, 2) := by decide +kernel
theorem dX11_init_193 : decode cX11_init 193 = .ok (.newarray .boolean, 2) := by decide +kernel
theorem dX11_init_202 : decode cX11_init 202 = .ok (.newarray .int, 2) := by decide +kernel
theorem dX11_init_211 : decode cX11_init 211 = .ok (.newarray .int, 2) := by decide +kernel
theorem dX11_init_220 : decode cX11_init 220 = .ok (.newarray .int, 2) := by decide +kernel
theorem gdX11_init_0 : ckS (List.drop 0 cX11_init.data.toList) 0 [(0, .aload_n 0, 1), (1, .invokespecial 3, 3), (4, .aload_n 0, 1), (5, .sipush 200, 3), (10, .putfield 9, 3), (13, .aload_n 0, 1), (14, .bipush 9, 2), (18, .putfield 15, 3), (21, .aload_n 0, 1), (22, .bipush 90, 2), (26, .putfield 19, 3), (29, .aload_n 0, 1), (30, .bipush 90, 2), (34, .putfield 22, 3), (37, .aload_n 0, 1), (38, .bipush 90, 2), (42, .putfield 25, 3), (45, .aload_n 0, 1), (46, .bipush 90, 2), (50, .putfield 28, 3), (53, .aload_n 0, 1), (54, .bipush 90, 2), (58, .putfield 31, 3), (61, .aload_n 0, 1), (62, .bipush 90, 2), (66, .putfield 34, 3), (69, .aload_n 0, 1), (70, .bipush 90, 2), (74, .putfield 37, 3), (77, .aload_n 0, 1), (78, .bipush 90, 2), (82, .putfield 40, 3), (85, .aload_n 0, 1), (86, .bipush 90, 2), (90, .putfield 43, 3), (93, .aload_n 0, 1), (94, .bipush 90, 2), (98, .putfield 46, 3), (101, .aload_n 0, 1), (102, .bipush 90, 2)] = true := by decide +kernel
theorem dX11_init_0 : decode cX11_init 0 = .ok (.aload_n 0, 1) := ckS_g gdX11_init_0 0 rfl
theorem dX11_init_1 : decode cX11_init 1 = .ok (.invokespecial 3, 3) := ckS_g gdX11_init_0 1 rfl
theorem dX11_init_4 : decode cX11_init 4 = .ok (.aload_n 0, 1) := ckS_g gdX11_init_0 2 rfl
theorem dX11_init_5 : decode cX11_init 5 = .ok (.sipush 200, 3) := ckS_g gdX11_init_0 3 rfl
theorem dX11_init_10 : decode cX11_init 10 = .ok (.putfield 9, 3) := ckS_g gdX11_init_0 4 rfl
theorem dX11_init_13 : decode cX11_init 13 = .ok (.aload_n 0, 1) := ckS_g gdX11_init_0 5 rfl
theorem dX11_init_14 : decode cX11_init 14 = .ok (.bipush 9, 2) := ckS_g gdX11_init_0 6 rfl
theorem dX11_init_18 : decode cX11_init 18 = .ok (.putfield 15, 3) := ckS_g gdX11_init_0 7 rfl
theorem dX11_init_21 : decode cX11_init 21 = .ok (.aload_n 0, 1) := ckS_g gdX11_init_0 8 rfl
theorem dX11_init_22 : decode cX11_init 22 = .ok (.bipush 90, 2) := ckS_g gdX11_init_0 9 rfl
theorem dX11_init_26 : decode cX11_init 26 = .ok (.putfield 19, 3) := ckS_g gdX11_init_0 10 rfl
theorem dX11_init_29 : decode cX11_init 29 = .ok (.aload_n 0, 1) := ckS_g gdX11_init_0 11 rfl
theorem dX11_init_30 : decode cX11_init 30 = .ok (.bipush 90, 2) := ckS_g gdX11_init_0 12 rfl
theorem dX11_init_34 : decode cX11_init 34 = .ok (.putfield 22, 3) := ckS_g gdX11_init_0 13 rfl
theorem dX11_init_37 : decode cX11_init 37 = .ok (.aload_n 0, 1) := ckS_g gdX11_init_0 14 rfl
theorem dX11_init_38 : decode cX11_init 38 = .ok (.bipush 90, 2) := ckS_g gdX11_init_0 15 rfl
theorem dX11_init_42 : decode cX11_init 42 = .ok (.putfield 25, 3) := ckS_g gdX11_init_0 16 rfl
theorem dX11_init_45 : decode cX11_init 45 = .ok (.aload_n 0, 1) := ckS_g gdX11_init_0 17 rfl
theorem dX11_init_46 : decode cX11_init 46 = .ok (.bipush 90, 2) := ckS_g gdX11_init_0 18 rfl
theorem dX11_init_50 : decode cX11_init 50 = .ok (.putfield 28, 3) := ckS_g gdX11_init_0 19 rfl
theorem dX11_init_53 : decode cX11_init 53 = .ok (.aload_n 0, 1) := ckS_g gdX11_init_0 20 rfl
theorem dX11_init_54 : decode cX11_init 54 = .ok (.bipush 90, 2) := ckS_g gdX11_init_0 21 rfl
theorem dX11_init_58 : decode cX11_init 58 = .ok (.putfield 31, 3) := ckS_g gdX11_init_0 22 rfl
theorem dX11_init_61 : decode cX11_init 61 = .ok (.aload_n 0, 1) := ckS_g gdX11_init_0 23 rfl
theorem dX11_init_62 : decode cX11_init 62 = .ok (.bipush 90, 2) := ckS_g gdX11_init_0 24 rfl
theorem dX11_init_66 : decode cX11_init 66 = .ok (.putfield 34, 3) := ckS_g gdX11_init_0 25 rfl
theorem dX11_init_69 : decode cX11_init 69 = .ok (.aload_n 0, 1) := ckS_g gdX11_init_0 26 rfl
theorem dX11_init_70 : decode cX11_init 70 = .ok (.bipush 90, 2) := ckS_g gdX11_init_0 27 rfl
theorem dX11_init_74 : decode cX11_init 74 = .ok (.putfield 37, 3) := ckS_g gdX11_init_0 28 rfl
theorem dX11_init_77 : decode cX11_init 77 = .ok (.aload_n 0, 1) := ckS_g gdX11_init_0 29 rfl
theorem dX11_init_78 : decode cX11_init 78 = .ok (.bipush 90, 2) := ckS_g gdX11_init_0 30 rfl
theorem dX11_init_82 : decode cX11_init 82 = .ok (.putfield 40, 3) := ckS_g gdX11_init_0 31 rfl
theorem dX11_init_85 : decode cX11_init 85 = .ok (.aload_n 0, 1) := ckS_g gdX11_init_0 32 rfl
theorem dX11_init_86 : decode cX11_init 86 = .ok (.bipush 90, 2) := ckS_g gdX11_init_0 33 rfl
theorem dX11_init_90 : decode cX11_init 90 = .ok (.putfield 43, 3) := ckS_g gdX11_init_0 34 rfl
theorem dX11_init_93 : decode cX11_init 93 = .ok (.aload_n 0, 1) := ckS_g gdX11_init_0 35 rfl
theorem dX11_init_94 : decode cX11_init 94 = .ok (.bipush 90, 2) := ckS_g gdX11_init_0 36 rfl
theorem dX11_init_98 : decode cX11_init 98 = .ok (.putfield 46, 3) := ckS_g gdX11_init_0 37 rfl
theorem dX11_init_101 : decode cX11_init 101 = .ok (.aload_n 0, 1) := ckS_g gdX11_init_0 38 rfl
theorem dX11_init_102 : decode cX11_init 102 = .ok (.bipush 90, 2) := ckS_g gdX11_init_0 39 rfl
theorem gdX11_init_106 : ckS (List.drop 106 cX11_init.data.toList) 106 [(106, .putfield 49, 3), (109, .aload_n 0, 1), (110, .bipush 90, 2), (114, .putfield 52, 3), (117, .aload_n 0, 1), (118, .bipush 90, 2), (122, .putfield 55, 3), (125, .aload_n 0, 1), (126, .bipush 90, 2), (130, .putfield 58, 3), (133, .aload_n 0, 1), (134, .bipush 90, 2), (138, .putfield 61, 3), (141, .aload_n 0, 1), (142, .ldc 64, 2), (146, .putfield 65, 3), (149, .aload_n 0, 1), (150, .sipush 18000, 3), (155, .putfield 68, 3), (158, .aload_n 0, 1), (159, .bipush 9, 2), (163, .putfield 72, 3), (166, .aload_n 0, 1), (167, .bipush 9, 2), (171, .putfield 75, 3), (174, .aload_n 0, 1), (175, .bipush 72, 2), (179, .putfield 78, 3), (182, .aload_n 0, 1), (183, .bipush 8, 2), (187, .putfield 81, 3), (190, .aload_n 0, 1), (191, .bipush 8, 2), (195, .putfield 84, 3), (198, .aload_n 0, 1), (199, .sipush 400, 3), (204, .putfield 87, 3), (207, .aload_n 0, 1), (208, .sipush 3600, 3), (213, .putfield 90, 3)] = true := by decide +kernel
theorem dX11_init_106 : decode cX11_init 106 = .ok (.putfield 49, 3) := ckS_g gdX11_init_106 0 rfl
theorem dX11_init_109 : decode cX11_init 109 = .ok (.aload_n 0, 1) := ckS_g gdX11_init_106 1 rfl
theorem dX11_init_110 : decode cX11_init 110 = .ok (.bipush 90, 2) := ckS_g gdX11_init_106 2 rfl
theorem dX11_init_114 : decode cX11_init 114 = .ok (.putfield 52, 3) := ckS_g gdX11_init_106 3 rfl
theorem dX11_init_117 : decode cX11_init 117 = .ok (.aload_n 0, 1) := ckS_g gdX11_init_106 4 rfl
theorem dX11_init_118 : decode cX11_init 118 = .ok (.bipush 90, 2) := ckS_g gdX11_init_106 5 rfl
theorem dX11_init_122 : decode cX11_init 122 = .ok (.putfield 55, 3) := ckS_g gdX11_init_106 6 rfl
theorem dX11_init_125 : decode cX11_init 125 = .ok (.aload_n 0, 1) := ckS_g gdX11_init_106 7 rfl
theorem dX11_init_126 : decode cX11_init 126 = .ok (.bipush 90, 2) := ckS_g gdX11_init_106 8 rfl
theorem dX11_init_130 : decode cX11_init 130 = .ok (.putfield 58, 3) := ckS_g gdX11_init_106 9 rfl
theorem dX11_init_133 : decode cX11_init 133 = .ok (.aload_n 0, 1) := ckS_g gdX11_init_106 10 rfl
theorem dX11_init_134 : decode cX11_init 134 = .ok (.bipush 90, 2) := ckS_g gdX11_init_106 11 rfl
theorem dX11_init_138 : decode cX11_init 138 = .ok (.putfield 61, 3) := ckS_g gdX11_init_106 12 rfl
theorem dX11_init_141 : decode cX11_init 141 = .ok (.aload_n 0, 1) := ckS_g gdX11_init_106 13 rfl
theorem dX11_init_142 : decode cX11_init 142 = .ok (.ldc 64, 2) := ckS_g gdX11_init_106 14 rfl
theorem dX11_init_146 : decode cX11_init 146 = .ok (.putfield 65, 3) := ckS_g gdX11_init_106 15 rfl
theorem dX11_init_149 : decode cX11_init 149 = .ok (.aload_n 0, 1) := ckS_g gdX11_init_106 16 rfl
theorem dX11_init_150 : decode cX11_init 150 = .ok (.sipush 18000, 3) := ckS_g gdX11_init_106 17 rfl
theorem dX11_init_155 : decode cX11_init 155 = .ok (.putfield 68, 3) := ckS_g gdX11_init_106 18 rfl
theorem dX11_init_158 : decode cX11_init 158 = .ok (.aload_n 0, 1) := ckS_g gdX11_init_106 19 rfl
theorem dX11_init_159 : decode cX11_init 159 = .ok (.bipush 9, 2) := ckS_g gdX11_init_106 20 rfl
theorem dX11_init_163 : decode cX11_init 163 = .ok (.putfield 72, 3) := ckS_g gdX11_init_106 21 rfl
theorem dX11_init_166 : decode cX11_init 166 = .ok (.aload_n 0, 1) := ckS_g gdX11_init_106 22 rfl
theorem dX11_init_167 : decode cX11_init 167 = .ok (.bipush 9, 2) := ckS_g gdX11_init_106 23 rfl
theorem dX11_init_171 : decode cX11_init 171 = .ok (.putfield 75, 3) := ckS_g gdX11_init_106 24 rfl
theorem dX11_init_174 : decode cX11_init 174 = .ok (.aload_n 0, 1) := ckS_g gdX11_init_106 25 rfl
theorem dX11_init_175 : decode cX11_init 175 = .ok (.bipush 72, 2) := ckS_g gdX11_init_106 26 rfl
theorem dX11_init_179 : decode cX11_init 179 = .ok (.putfield 78, 3) := ckS_g gdX11_init_106 27 rfl
theorem dX11_init_182 : decode cX11_init 182 = .ok (.aload_n 0, 1) := ckS_g gdX11_init_106 28 rfl
theorem dX11_init_183 : decode cX11_init 183 = .ok (.bipush 8, 2) := ckS_g gdX11_init_106 29 rfl
theorem dX11_init_187 : decode cX11_init 187 = .ok (.putfield 81, 3) := ckS_g gdX11_init_106 30 rfl
theorem dX11_init_190 : decode cX11_init 190 = .ok (.aload_n 0, 1) := ckS_g gdX11_init_106 31 rfl
theorem dX11_init_191 : decode cX11_init 191 = .ok (.bipush 8, 2) := ckS_g gdX11_init_106 32 rfl
theorem dX11_init_195 : decode cX11_init 195 = .ok (.putfield 84, 3) := ckS_g gdX11_init_106 33 rfl
theorem dX11_init_198 : decode cX11_init 198 = .ok (.aload_n 0, 1) := ckS_g gdX11_init_106 34 rfl
theorem dX11_init_199 : decode cX11_init 199 = .ok (.sipush 400, 3) := ckS_g gdX11_init_106 35 rfl
theorem dX11_init_204 : decode cX11_init 204 = .ok (.putfield 87, 3) := ckS_g gdX11_init_106 36 rfl
theorem dX11_init_207 : decode cX11_init 207 = .ok (.aload_n 0, 1) := ckS_g gdX11_init_106 37 rfl
theorem dX11_init_208 : decode cX11_init 208 = .ok (.sipush 3600, 3) := ckS_g gdX11_init_106 38 rfl
theorem dX11_init_213 : decode cX11_init 213 = .ok (.putfield 90, 3) := ckS_g gdX11_init_106 39 rfl
theorem gdX11_init_216 : ckS (List.drop 216 cX11_init.data.toList) 216 [(216, .aload_n 0, 1), (217, .sipush 3000, 3), (222, .putfield 93, 3), (225, .return_, 1)] = true := by decide +kernel
theorem dX11_init_216 : decode cX11_init 216 = .ok (.aload_n 0, 1) := ckS_g gdX11_init_216 0 rfl
theorem dX11_init_217 : decode cX11_init 217 = .ok (.sipush 3000, 3) := ckS_g gdX11_init_216 1 rfl
theorem dX11_init_222 : decode cX11_init 222 = .ok (.putfield 93, 3) := ckS_g gdX11_init_216 2 rfl
theorem dX11_init_225 : decode cX11_init 225 = .ok (.return_, 1) := ckS_g gdX11_init_216 3 rfl
theorem dX12_init_28 : decode cX12_init 28 = .ok (.newarray .int, 2) := by decide +kernel
theorem dX12_init_35 : decode cX12_init 35 = .ok (.newarray .int, 2) := by decide +kernel
theorem dX12_init_44 : decode cX12_init 44 = .ok (.newarray .int, 2) := by decide +kernel
theorem dX12_init_53 : decode cX12_init 53 = .ok (.newarray .int, 2) := by decide +kernel
theorem gdX12_init_0 : ckS (List.drop 0 cX12_init.data.toList) 0 [(0, .aload_n 0, 1), (1, .invokespecial 7, 3), (4, .aload_n 0, 1), (5, .new 13, 3), (8, .dup, 1), (9, .invokespecial 15, 3), (12, .putfield 16, 3), (15, .aload_n 0, 1), (16, .new 13, 3), (19, .dup, 1), (20, .invokespecial 15, 3), (23, .putfield 20, 3), (26, .aload_n 0, 1), (27, .iconst 2, 1), (30, .putfield 23, 3), (33, .aload_n 0, 1), (34, .iconst 2, 1), (37, .putfield 27, 3), (40, .aload_n 0, 1), (41, .sipush 7200, 3), (46, .putfield 30, 3), (49, .aload_n 0, 1), (50, .sipush 3600, 3), (55, .putfield 33, 3), (58, .aload_n 0, 1), (59, .getfield 16, 3), (62, .iconst 1, 1), (63, .invokevirtual 36, 3), (66, .aload_n 0, 1), (67, .getfield 27, 3), (70, .iconst 0, 1), (71, .iconst (-1), 1), (72, .iastore, 1), (73, .aload_n 0, 1), (74, .getfield 27, 3), (77, .iconst 1, 1), (78, .iconst (-1), 1), (79, .iastore, 1), (80, .return_, 1)] = true := by decide +kernel
theorem dX12_init_0 : decode cX12_init 0 = .ok (.aload_n 0, 1) := ckS_g gdX12_init_0 0 rfl
theorem dX12_init_1 : decode cX12_init 1 = .ok (.invokespecial 7, 3) := ckS_g gdX12_init_0 1 rfl
theorem dX12_init_4 : decode cX12_init 4 = .ok (.aload_n 0, 1) := ckS_g gdX12_init_0 2 rfl
theorem dX12_init_5 : decode cX12_init 5 = .ok (.new 13, 3) := ckS_g gdX12_init_0 3 rfl
theorem dX12_init_8 : decode cX12_init 8 = .ok (.dup, 1) := ckS_g gdX12_init_0 4 rfl
theorem dX12_init_9 : decode cX12_init 9 = .ok (.invokespecial 15, 3) := ckS_g gdX12_init_0 5 rfl
theorem dX12_init_12 : decode cX12_init 12 = .ok (.putfield 16, 3) := ckS_g gdX12_init_0 6 rfl
theorem dX12_init_15 : decode cX12_init 15 = .ok (.aload_n 0, 1) := ckS_g gdX12_init_0 7 rfl
theorem dX12_init_16 : decode cX12_init 16 = .ok (.new 13, 3) := ckS_g gdX12_init_0 8 rfl
theorem dX12_init_19 : decode cX12_init 19 = .ok (.dup, 1) := ckS_g gdX12_init_0 9 rfl
theorem dX12_init_20 : decode cX12_init 20 = .ok (.invokespecial 15, 3) := ckS_g gdX12_init_0 10 rfl
theorem dX12_init_23 : decode cX12_init 23 = .ok (.putfield 20, 3) := ckS_g gdX12_init_0 11 rfl
theorem dX12_init_26 : decode cX12_init 26 = .ok (.aload_n 0, 1) := ckS_g gdX12_init_0 12 rfl
theorem dX12_init_27 : decode cX12_init 27 = .ok (.iconst 2, 1) := ckS_g gdX12_init_0 13 rfl
theorem dX12_init_30 : decode cX12_init 30 = .ok (.putfield 23, 3) := ckS_g gdX12_init_0 14 rfl
theorem dX12_init_33 : decode cX12_init 33 = .ok (.aload_n 0, 1) := ckS_g gdX12_init_0 15 rfl
theorem dX12_init_34 : decode cX12_init 34 = .ok (.iconst 2, 1) := ckS_g gdX12_init_0 16 rfl
theorem dX12_init_37 : decode cX12_init 37 = .ok (.putfield 27, 3) := ckS_g gdX12_init_0 17 rfl
theorem dX12_init_40 : decode cX12_init 40 = .ok (.aload_n 0, 1) := ckS_g gdX12_init_0 18 rfl
theorem dX12_init_41 : decode cX12_init 41 = .ok (.sipush 7200, 3) := ckS_g gdX12_init_0 19 rfl
theorem dX12_init_46 : decode cX12_init 46 = .ok (.putfield 30, 3) := ckS_g gdX12_init_0 20 rfl
theorem dX12_init_49 : decode cX12_init 49 = .ok (.aload_n 0, 1) := ckS_g gdX12_init_0 21 rfl
theorem dX12_init_50 : decode cX12_init 50 = .ok (.sipush 3600, 3) := ckS_g gdX12_init_0 22 rfl
theorem dX12_init_55 : decode cX12_init 55 = .ok (.putfield 33, 3) := ckS_g gdX12_init_0 23 rfl
theorem dX12_init_58 : decode cX12_init 58 = .ok (.aload_n 0, 1) := ckS_g gdX12_init_0 24 rfl
theorem dX12_init_59 : decode cX12_init 59 = .ok (.getfield 16, 3) := ckS_g gdX12_init_0 25 rfl
theorem dX12_init_62 : decode cX12_init 62 = .ok (.iconst 1, 1) := ckS_g gdX12_init_0 26 rfl
theorem dX12_init_63 : decode cX12_init 63 = .ok (.invokevirtual 36, 3) := ckS_g gdX12_init_0 27 rfl
theorem dX12_init_66 : decode cX12_init 66 = .ok (.aload_n 0, 1) := ckS_g gdX12_init_0 28 rfl
theorem dX12_init_67 : decode cX12_init 67 = .ok (.getfield 27, 3) := ckS_g gdX12_init_0 29 rfl
theorem dX12_init_70 : decode cX12_init 70 = .ok (.iconst 0, 1) := ckS_g gdX12_init_0 30 rfl
theorem dX12_init_71 : decode cX12_init 71 = .ok (.iconst (-1), 1) := ckS_g gdX12_init_0 31 rfl
theorem dX12_init_72 : decode cX12_init 72 = .ok (.iastore, 1) := ckS_g gdX12_init_0 32 rfl
theorem dX12_init_73 : decode cX12_init 73 = .ok (.aload_n 0, 1) := ckS_g gdX12_init_0 33 rfl
theorem dX12_init_74 : decode cX12_init 74 = .ok (.getfield 27, 3) := ckS_g gdX12_init_0 34 rfl
theorem dX12_init_77 : decode cX12_init 77 = .ok (.iconst 1, 1) := ckS_g gdX12_init_0 35 rfl
theorem dX12_init_78 : decode cX12_init 78 = .ok (.iconst (-1), 1) := ckS_g gdX12_init_0 36 rfl
theorem dX12_init_79 : decode cX12_init 79 = .ok (.iastore, 1) := ckS_g gdX12_init_0 37 rfl
theorem dX12_init_80 : decode cX12_init 80 = .ok (.return_, 1) := ckS_g gdX12_init_0 38 rfl
set_option maxRecDepth 100000 in
theorem zc772 : wZ (.methodLink RX10 21 yX3_init) := ⟨wT1 (List.mem_of_getElem? (i := 236) (by decide +kernel)), Or.inl rfl⟩
set_option maxRecDepth 100000 in
theorem zc773 : wZ (.classLink RX10 19 RX3) := ⟨wT1 (List.mem_of_getElem? (i := 235) (by decide +kernel)), Or.inl rfl⟩
set_option maxRecDepth 100000 in
theorem zc774 : wZ (.methodLink RX10 1 objectInit) := ⟨wT1 (List.mem_of_getElem? (i := 22) (by decide +kernel)), Or.inl rfl⟩
set_option maxRecDepth 100000 in
theorem zc775 : wZ (.code yX10_init cX10_init 1 none) := ⟨wT1 (List.mem_of_getElem? (i := 21) rfl), Or.inl rfl⟩
set_option maxRecDepth 100000 in
theorem zc776 : wZ (.lays "MotionFloorModel$Hall" "MotionFloorModel$Hall" "seats" "I") := ⟨wT5 (List.mem_of_getElem? (i := 111) (by decide +kernel)), Or.inl rfl⟩
set_option maxRecDepth 100000 in
theorem zc777 : wZ (.lays "MotionFloorModel$Hall" "MotionFloorModel$Hall" "there" "I") := ⟨wT5 (List.mem_of_getElem? (i := 113) (by decide +kernel)), Or.inl rfl⟩
set_option maxRecDepth 100000 in
theorem zc778 : wZ (.lays "MotionFloorModel$Hall" "MotionFloorModel$Hall" "chair" "I") := ⟨wT5 (List.mem_of_getElem? (i := 115) (by decide +kernel)), Or.inl rfl⟩
set_option maxRecDepth 100000 in
theorem zc779 : wZ (.lays "MotionFloorModel$Hall" "MotionFloorModel$Hall" "quorum" "I") := ⟨wT5 (List.mem_of_getElem? (i := 117) (by decide +kernel)), Or.inl rfl⟩
set_option maxRecDepth 100000 in
theorem zc780 : wZ (.lays "MotionFloorModel$Hall" "MotionFloorModel$Hall" "limit" "I") := ⟨wT5 (List.mem_of_getElem? (i := 119) (by decide +kernel)), Or.inl rfl⟩
set_option maxRecDepth 100000 in
theorem zc781 : wZ (.lays "MotionFloorModel$Hall" "MotionFloorModel$Hall" "floor" "I") := ⟨wT5 (List.mem_of_getElem? (i := 121) (by decide +kernel)), Or.inl rfl⟩
set_option maxRecDepth 100000 in
theorem zc782 : wZ (.lays "MotionFloorModel$Hall" "MotionFloorModel$Hall" "pending" "I") := ⟨wT5 (List.mem_of_getElem? (i := 123) (by decide +kernel)), Or.inl rfl⟩
set_option maxRecDepth 100000 in
theorem zc783 : wZ (.lays "MotionFloorModel$Hall" "MotionFloorModel$Hall" "entries" "I") := ⟨wT5 (List.mem_of_getElem? (i := 125) (by decide +kernel)), Or.inl rfl⟩
set_option maxRecDepth 100000 in
theorem zc784 : wZ (.lays "MotionFloorModel$Hall" "MotionFloorModel$Hall" "results" "I") := ⟨wT5 (List.mem_of_getElem? (i := 127) (by decide +kernel)), Or.inl rfl⟩
set_option maxRecDepth 100000 in
theorem zc785 : wZ (.lays "MotionFloorModel$Hall" "MotionFloorModel$Hall" "adopted" "I") := ⟨wT5 (List.mem_of_getElem? (i := 129) (by decide +kernel)), Or.inl rfl⟩
set_option maxRecDepth 100000 in
theorem zc786 : wZ (.lays "MotionFloorModel$Hall" "MotionFloorModel$Hall" "why" "I") := ⟨wT5 (List.mem_of_getElem? (i := 131) (by decide +kernel)), Or.inl rfl⟩
set_option maxRecDepth 100000 in
theorem zc787 : wZ (.laysFinal "MotionFloorModel$Hall" "MotionFloorModel$Hall" "isThere" "[Z") := ⟨wT5 (List.mem_of_getElem? (i := 133) (by decide +kernel)), Or.inl rfl⟩
set_option maxRecDepth 100000 in
theorem zc788 : wZ (.laysFinal "MotionFloorModel$Hall" "MotionFloorModel$Hall" "majority" "[I") := ⟨wT5 (List.mem_of_getElem? (i := 135) (by decide +kernel)), Or.inl rfl⟩
set_option maxRecDepth 100000 in
theorem zc789 : wZ (.laysFinal "MotionFloorModel$Hall" "MotionFloorModel$Hall" "used" "[Z") := ⟨wT5 (List.mem_of_getElem? (i := 137) (by decide +kernel)), Or.inl rfl⟩
set_option maxRecDepth 100000 in
theorem zc790 : wZ (.laysFinal "MotionFloorModel$Hall" "MotionFloorModel$Hall" "kind" "[I") := ⟨wT5 (List.mem_of_getElem? (i := 139) (by decide +kernel)), Or.inl rfl⟩
set_option maxRecDepth 100000 in
theorem zc791 : wZ (.laysFinal "MotionFloorModel$Hall" "MotionFloorModel$Hall" "mover" "[I") := ⟨wT5 (List.mem_of_getElem? (i := 141) (by decide +kernel)), Or.inl rfl⟩
set_option maxRecDepth 100000 in
theorem zc792 : wZ (.laysFinal "MotionFloorModel$Hall" "MotionFloorModel$Hall" "seconder" "[I") := ⟨wT5 (List.mem_of_getElem? (i := 143) (by decide +kernel)), Or.inl rfl⟩
set_option maxRecDepth 100000 in
theorem zc793 : wZ (.laysFinal "MotionFloorModel$Hall" "MotionFloorModel$Hall" "floors" "[I") := ⟨wT5 (List.mem_of_getElem? (i := 145) (by decide +kernel)), Or.inl rfl⟩
set_option maxRecDepth 100000 in
theorem zc794 : wZ (.laysFinal "MotionFloorModel$Hall" "MotionFloorModel$Hall" "speeches" "[I") := ⟨wT5 (List.mem_of_getElem? (i := 147) (by decide +kernel)), Or.inl rfl⟩
set_option maxRecDepth 100000 in
theorem zc795 : wZ (.laysFinal "MotionFloorModel$Hall" "MotionFloorModel$Hall" "words" "[I") := ⟨wT5 (List.mem_of_getElem? (i := 149) (by decide +kernel)), Or.inl rfl⟩
set_option maxRecDepth 100000 in
theorem zc796 : wZ (.laysFinal "MotionFloorModel$Hall" "MotionFloorModel$Hall" "from" "[I") := ⟨wT5 (List.mem_of_getElem? (i := 151) (by decide +kernel)), Or.inl rfl⟩
set_option maxRecDepth 100000 in
theorem zc797 : wZ (.laysFinal "MotionFloorModel$Hall" "MotionFloorModel$Hall" "to" "[I") := ⟨wT5 (List.mem_of_getElem? (i := 153) (by decide +kernel)), Or.inl rfl⟩
set_option maxRecDepth 100000 in
theorem zc798 : wZ (.laysFinal "MotionFloorModel$Hall" "MotionFloorModel$Hall" "self" "[I") := ⟨wT5 (List.mem_of_getElem? (i := 155) (by decide +kernel)), Or.inl rfl⟩
set_option maxRecDepth 100000 in
theorem zc799 : wZ (.laysFinal "MotionFloorModel$Hall" "MotionFloorModel$Hall" "subject" "[I") := ⟨wT5 (List.mem_of_getElem? (i := 157) (by decide +kernel)), Or.inl rfl⟩
set_option maxRecDepth 100000 in
theorem zc800 : wZ (.laysFinal "MotionFloorModel$Hall" "MotionFloorModel$Hall" "closed" "[Z") := ⟨wT5 (List.mem_of_getElem? (i := 159) (by decide +kernel)), Or.inl rfl⟩
set_option maxRecDepth 100000 in
theorem zc801 : wZ (.laysFinal "MotionFloorModel$Hall" "MotionFloorModel$Hall" "laid" "[Z") := ⟨wT5 (List.mem_of_getElem? (i := 161) (by decide +kernel)), Or.inl rfl⟩
set_option maxRecDepth 100000 in
theorem zc802 : wZ (.laysFinal "MotionFloorModel$Hall" "MotionFloorModel$Hall" "outside" "[Z") := ⟨wT5 (List.mem_of_getElem? (i := 163) (by decide +kernel)), Or.inl rfl⟩
set_option maxRecDepth 100000 in
theorem zc803 : wZ (.laysFinal "MotionFloorModel$Hall" "MotionFloorModel$Hall" "letter" "[Z") := ⟨wT5 (List.mem_of_getElem? (i := 165) (by decide +kernel)), Or.inl rfl⟩
set_option maxRecDepth 100000 in
theorem zc804 : wZ (.laysFinal "MotionFloorModel$Hall" "MotionFloorModel$Hall" "text" "[I") := ⟨wT5 (List.mem_of_getElem? (i := 167) (by decide +kernel)), Or.inl rfl⟩
set_option maxRecDepth 100000 in
theorem zc805 : wZ (.laysFinal "MotionFloorModel$Hall" "MotionFloorModel$Hall" "ballot" "[B") := ⟨wT5 (List.mem_of_getElem? (i := 169) (by decide +kernel)), Or.inl rfl⟩
set_option maxRecDepth 100000 in
theorem zc806 : wZ (.lays "MotionFloorModel$Hall" "MotionFloorModel$Hall" "born" "I") := ⟨wT5 (List.mem_of_getElem? (i := 171) (by decide +kernel)), Or.inl rfl⟩
set_option maxRecDepth 100000 in
theorem zc807 : wZ (.laysFinal "MotionFloorModel$Hall" "MotionFloorModel$Hall" "row" "[I") := ⟨wT5 (List.mem_of_getElem? (i := 173) (by decide +kernel)), Or.inl rfl⟩
set_option maxRecDepth 100000 in
theorem zc808 : wZ (.laysFinal "MotionFloorModel$Hall" "MotionFloorModel$Hall" "draft" "[I") := ⟨wT5 (List.mem_of_getElem? (i := 175) (by decide +kernel)), Or.inl rfl⟩
set_option maxRecDepth 100000 in
theorem zc809 : wZ (.laysFinal "MotionFloorModel$Hall" "MotionFloorModel$Hall" "desk" "[I") := ⟨wT5 (List.mem_of_getElem? (i := 177) (by decide +kernel)), Or.inl rfl⟩
set_option maxRecDepth 100000 in
theorem zc810 : wZ (.laysFinal "MotionFloorModel$Hall" "MotionFloorModel$Hall" "lying" "[I") := ⟨wT5 (List.mem_of_getElem? (i := 179) (by decide +kernel)), Or.inl rfl⟩
set_option maxRecDepth 100000 in
theorem zc811 : wZ (.lays "MotionFloorModel$Hall" "MotionFloorModel$Hall" "drafted" "I") := ⟨wT5 (List.mem_of_getElem? (i := 181) (by decide +kernel)), Or.inl rfl⟩
set_option maxRecDepth 100000 in
theorem zc812 : wZ (.lays "MotionFloorModel$Hall" "MotionFloorModel$Hall" "draftTabled" "Z") := ⟨wT5 (List.mem_of_getElem? (i := 183) (by decide +kernel)), Or.inl rfl⟩
set_option maxRecDepth 100000 in
theorem zc813 : wZ (.laysFinal "MotionFloorModel$Hall" "MotionFloorModel$Hall" "tabled" "[Z") := ⟨wT5 (List.mem_of_getElem? (i := 185) (by decide +kernel)), Or.inl rfl⟩
set_option maxRecDepth 100000 in
theorem zc814 : wZ (.laysFinal "MotionFloorModel$Hall" "MotionFloorModel$Hall" "last" "[I") := ⟨wT5 (List.mem_of_getElem? (i := 187) (by decide +kernel)), Or.inl rfl⟩
set_option maxRecDepth 100000 in
theorem zc815 : wZ (.lays "MotionFloorModel$Hall" "MotionFloorModel$Hall" "lastWords" "I") := ⟨wT5 (List.mem_of_getElem? (i := 189) (by decide +kernel)), Or.inl rfl⟩
set_option maxRecDepth 100000 in
theorem zc816 : wZ (.laysFinal "MotionFloorModel$Hall" "MotionFloorModel$Hall" "minutes" "[I") := ⟨wT5 (List.mem_of_getElem? (i := 191) (by decide +kernel)), Or.inl rfl⟩
set_option maxRecDepth 100000 in
theorem zc817 : wZ (.laysFinal "MotionFloorModel$Hall" "MotionFloorModel$Hall" "result" "[I") := ⟨wT5 (List.mem_of_getElem? (i := 193) (by decide +kernel)), Or.inl rfl⟩
set_option maxRecDepth 100000 in
theorem zc818 : wZ (.fieldLink RX11 93 "MotionFloorModel$Hall" "result" "[I") := ⟨wT5 (List.mem_of_getElem? (i := 109) (by decide +kernel)), Or.inl rfl⟩
set_option maxRecDepth 100000 in
theorem zc819 : wZ (.fieldLink RX11 90 "MotionFloorModel$Hall" "minutes" "[I") := ⟨wT5 (List.mem_of_getElem? (i := 107) (by decide +kernel)), Or.inl rfl⟩
set_option maxRecDepth 100000 in
theorem zc820 : wZ (.fieldLink RX11 87 "MotionFloorModel$Hall" "last" "[I") := ⟨wT5 (List.mem_of_getElem? (i := 104) (by decide +kernel)), Or.inl rfl⟩
set_option maxRecDepth 100000 in
theorem zc821 : wZ (.fieldLink RX11 84 "MotionFloorModel$Hall" "tabled" "[Z") := ⟨wT5 (List.mem_of_getElem? (i := 102) (by decide +kernel)), Or.inl rfl⟩
set_option maxRecDepth 100000 in
theorem zc822 : wZ (.fieldLink RX11 81 "MotionFloorModel$Hall" "lying" "[I") := ⟨wT5 (List.mem_of_getElem? (i := 96) (by decide +kernel)), Or.inl rfl⟩
set_option maxRecDepth 100000 in
theorem zc823 : wZ (.fieldLink RX11 78 "MotionFloorModel$Hall" "desk" "[I") := ⟨wT5 (List.mem_of_getElem? (i := 94) (by decide +kernel)), Or.inl rfl⟩
set_option maxRecDepth 100000 in
theorem zc824 : wZ (.fieldLink RX11 75 "MotionFloorModel$Hall" "draft" "[I") := ⟨wT5 (List.mem_of_getElem? (i := 92) (by decide +kernel)), Or.inl rfl⟩
set_option maxRecDepth 100000 in
theorem zc825 : wZ (.fieldLink RX11 72 "MotionFloorModel$Hall" "row" "[I") := ⟨wT5 (List.mem_of_getElem? (i := 90) (by decide +kernel)), Or.inl rfl⟩
set_option maxRecDepth 100000 in
theorem zc826 : wZ (.fieldLink RX11 68 "MotionFloorModel$Hall" "ballot" "[B") := ⟨wT5 (List.mem_of_getElem? (i := 87) (by decide +kernel)), Or.inl rfl⟩
set_option maxRecDepth 100000 in
theorem zc827 : wZ (.fieldLink RX11 65 "MotionFloorModel$Hall" "text" "[I") := ⟨wT5 (List.mem_of_getElem? (i := 85) (by decide +kernel)), Or.inl rfl⟩
set_option maxRecDepth 100000 in
theorem zc828 : wZ (.constant RX11 64 36000) := ⟨wT5 (List.mem_of_getElem? (i := 33) (by decide +kernel)), Or.inl rfl⟩
set_option maxRecDepth 100000 in
theorem zc829 : wZ (.fieldLink RX11 61 "MotionFloorModel$Hall" "letter" "[Z") := ⟨wT5 (List.mem_of_getElem? (i := 83) (by decide +kernel)), Or.inl rfl⟩
set_option maxRecDepth 100000 in
theorem zc830 : wZ (.fieldLink RX11 58 "MotionFloorModel$Hall" "outside" "[Z") := ⟨wT5 (List.mem_of_getElem? (i := 81) (by decide +kernel)), Or.inl rfl⟩
set_option maxRecDepth 100000 in
theorem zc831 : wZ (.fieldLink RX11 55 "MotionFloorModel$Hall" "laid" "[Z") := ⟨wT5 (List.mem_of_getElem? (i := 80) (by decide +kernel)), Or.inl rfl⟩
set_option maxRecDepth 100000 in
theorem zc832 : wZ (.fieldLink RX11 52 "MotionFloorModel$Hall" "closed" "[Z") := ⟨wT5 (List.mem_of_getElem? (i := 78) (by decide +kernel)), Or.inl rfl⟩
set_option maxRecDepth 100000 in
theorem zc833 : wZ (.fieldLink RX11 49 "MotionFloorModel$Hall" "subject" "[I") := ⟨wT5 (List.mem_of_getElem? (i := 77) (by decide +kernel)), Or.inl rfl⟩
set_option maxRecDepth 100000 in
theorem zc834 : wZ (.fieldLink RX11 46 "MotionFloorModel$Hall" "self" "[I") := ⟨wT5 (List.mem_of_getElem? (i := 76) (by decide +kernel)), Or.inl rfl⟩
set_option maxRecDepth 100000 in
theorem zc835 : wZ (.fieldLink RX11 43 "MotionFloorModel$Hall" "to" "[I") := ⟨wT5 (List.mem_of_getElem? (i := 74) (by decide +kernel)), Or.inl rfl⟩
set_option maxRecDepth 100000 in
theorem zc836 : wZ (.fieldLink RX11 40 "MotionFloorModel$Hall" "from" "[I") := ⟨wT5 (List.mem_of_getElem? (i := 72) (by decide +kernel)), Or.inl rfl⟩
set_option maxRecDepth 100000 in
theorem zc837 : wZ (.fieldLink RX11 37 "MotionFloorModel$Hall" "words" "[I") := ⟨wT5 (List.mem_of_getElem? (i := 70) (by decide +kernel)), Or.inl rfl⟩
set_option maxRecDepth 100000 in
theorem zc838 : wZ (.fieldLink RX11 34 "MotionFloorModel$Hall" "speeches" "[I") := ⟨wT5 (List.mem_of_getElem? (i := 68) (by decide +kernel)), Or.inl rfl⟩
set_option maxRecDepth 100000 in
theorem zc839 : wZ (.fieldLink RX11 31 "MotionFloorModel$Hall" "floors" "[I") := ⟨wT5 (List.mem_of_getElem? (i := 66) (by decide +kernel)), Or.inl rfl⟩
set_option maxRecDepth 100000 in
theorem zc840 : wZ (.fieldLink RX11 28 "MotionFloorModel$Hall" "seconder" "[I") := ⟨wT5 (List.mem_of_getElem? (i := 64) (by decide +kernel)), Or.inl rfl⟩
set_option maxRecDepth 100000 in
theorem zc841 : wZ (.fieldLink RX11 25 "MotionFloorModel$Hall" "mover" "[I") := ⟨wT5 (List.mem_of_getElem? (i := 62) (by decide +kernel)), Or.inl rfl⟩
set_option maxRecDepth 100000 in
theorem zc842 : wZ (.fieldLink RX11 22 "MotionFloorModel$Hall" "kind" "[I") := ⟨wT5 (List.mem_of_getElem? (i := 60) (by decide +kernel)), Or.inl rfl⟩
set_option maxRecDepth 100000 in
theorem zc843 : wZ (.fieldLink RX11 19 "MotionFloorModel$Hall" "used" "[Z") := ⟨wT5 (List.mem_of_getElem? (i := 59) (by decide +kernel)), Or.inl rfl⟩
set_option maxRecDepth 100000 in
theorem zc844 : wZ (.fieldLink RX11 15 "MotionFloorModel$Hall" "majority" "[I") := ⟨wT5 (List.mem_of_getElem? (i := 58) (by decide +kernel)), Or.inl rfl⟩
set_option maxRecDepth 100000 in
theorem zc845 : wZ (.fieldLink RX11 9 "MotionFloorModel$Hall" "isThere" "[Z") := ⟨wT5 (List.mem_of_getElem? (i := 56) (by decide +kernel)), Or.inl rfl⟩
set_option maxRecDepth 100000 in
theorem zc846 : wZ (.methodLink RX11 3 objectInit) := ⟨wT5 (List.mem_of_getElem? (i := 32) (by decide +kernel)), Or.inl rfl⟩
set_option maxRecDepth 100000 in
theorem zc847 : wZ (.code yX11_init cX11_init 1 none) := ⟨wT5 (List.mem_of_getElem? (i := 31) rfl), Or.inl rfl⟩
set_option maxRecDepth 100000 in
theorem zc848 : wZ (.fieldLink RX11 133 "MotionFloorModel$Hall" "lastWords" "I") := ⟨wT5 (List.mem_of_getElem? (i := 105) (by decide +kernel)), Or.inl rfl⟩
set_option maxRecDepth 100000 in
theorem zc849 : wZ (.fieldLink RX11 130 "MotionFloorModel$Hall" "drafted" "I") := ⟨wT5 (List.mem_of_getElem? (i := 98) (by decide +kernel)), Or.inl rfl⟩
set_option maxRecDepth 100000 in
theorem zc850 : wZ (.fieldLink RX11 127 "MotionFloorModel$Hall" "why" "I") := ⟨wT5 (List.mem_of_getElem? (i := 54) (by decide +kernel)), Or.inl rfl⟩
set_option maxRecDepth 100000 in
theorem zc851 : wZ (.fieldLink RX11 124 "MotionFloorModel$Hall" "adopted" "I") := ⟨wT5 (List.mem_of_getElem? (i := 52) (by decide +kernel)), Or.inl rfl⟩
set_option maxRecDepth 100000 in
theorem zc852 : wZ (.fieldLink RX11 121 "MotionFloorModel$Hall" "results" "I") := ⟨wT5 (List.mem_of_getElem? (i := 50) (by decide +kernel)), Or.inl rfl⟩
set_option maxRecDepth 100000 in
theorem zc853 : wZ (.fieldLink RX11 118 "MotionFloorModel$Hall" "entries" "I") := ⟨wT5 (List.mem_of_getElem? (i := 48) (by decide +kernel)), Or.inl rfl⟩
set_option maxRecDepth 100000 in
theorem zc854 : wZ (.fieldLink RX11 115 "MotionFloorModel$Hall" "pending" "I") := ⟨wT5 (List.mem_of_getElem? (i := 46) (by decide +kernel)), Or.inl rfl⟩
set_option maxRecDepth 100000 in
theorem zc855 : wZ (.fieldLink RX11 112 "MotionFloorModel$Hall" "floor" "I") := ⟨wT5 (List.mem_of_getElem? (i := 44) (by decide +kernel)), Or.inl rfl⟩
set_option maxRecDepth 100000 in
theorem zc856 : wZ (.fieldLink RX11 109 "MotionFloorModel$Hall" "limit" "I") := ⟨wT5 (List.mem_of_getElem? (i := 42) (by decide +kernel)), Or.inl rfl⟩
set_option maxRecDepth 100000 in
theorem zc857 : wZ (.fieldLink RX11 106 "MotionFloorModel$Hall" "quorum" "I") := ⟨wT5 (List.mem_of_getElem? (i := 40) (by decide +kernel)), Or.inl rfl⟩
set_option maxRecDepth 100000 in
theorem zc858 : wZ (.fieldLink RX11 103 "MotionFloorModel$Hall" "chair" "I") := ⟨wT5 (List.mem_of_getElem? (i := 38) (by decide +kernel)), Or.inl rfl⟩
set_option maxRecDepth 100000 in
theorem zc859 : wZ (.fieldLink RX11 100 "MotionFloorModel$Hall" "there" "I") := ⟨wT5 (List.mem_of_getElem? (i := 36) (by decide +kernel)), Or.inl rfl⟩
set_option maxRecDepth 100000 in
theorem zc860 : wZ (.fieldLink RX11 96 "MotionFloorModel$Hall" "seats" "I") := ⟨wT5 (List.mem_of_getElem? (i := 34) (by decide +kernel)), Or.inl rfl⟩
set_option maxRecDepth 100000 in
theorem zc861 : wZ (.code yX11_begin cX11_begin 3 none) := ⟨wT5 (List.mem_of_getElem? (i := 199) rfl), Or.inl rfl⟩
set_option maxRecDepth 100000 in
theorem zc862 : wZ (.laysFinal "MotionFloorModel" "MotionFloorModel" "hall" "LMotionFloorModel$Hall;") := ⟨wT5 (List.mem_of_getElem? (i := 207) (by decide +kernel)), Or.inl rfl⟩
set_option maxRecDepth 100000 in
theorem zc863 : wZ (.laysFinal "MotionFloorModel" "MotionFloorModel" "spare" "LMotionFloorModel$Hall;") := ⟨wT5 (List.mem_of_getElem? (i := 209) (by decide +kernel)), Or.inl rfl⟩
set_option maxRecDepth 100000 in
theorem zc864 : wZ (.laysFinal "MotionFloorModel" "MotionFloorModel" "imageSeats" "[I") := ⟨wT5 (List.mem_of_getElem? (i := 211) (by decide +kernel)), Or.inl rfl⟩
set_option maxRecDepth 100000 in
theorem zc865 : wZ (.laysFinal "MotionFloorModel" "MotionFloorModel" "imageEntries" "[I") := ⟨wT5 (List.mem_of_getElem? (i := 213) (by decide +kernel)), Or.inl rfl⟩
set_option maxRecDepth 100000 in
theorem zc866 : wZ (.laysFinal "MotionFloorModel" "MotionFloorModel" "images" "[I") := ⟨wT5 (List.mem_of_getElem? (i := 215) (by decide +kernel)), Or.inl rfl⟩
set_option maxRecDepth 100000 in
theorem zc867 : wZ (.laysFinal "MotionFloorModel" "MotionFloorModel" "told" "[I") := ⟨wT5 (List.mem_of_getElem? (i := 217) (by decide +kernel)), Or.inl rfl⟩
set_option maxRecDepth 100000 in
theorem zc868 : wZ (.lays "MotionFloorModel" "MotionFloorModel" "tolds" "I") := ⟨wT5 (List.mem_of_getElem? (i := 219) (by decide +kernel)), Or.inl rfl⟩
set_option maxRecDepth 100000 in
theorem zc869 : wZ (.selects RX11 yX11_begin yX11_begin) := ⟨wT5 (List.mem_of_getElem? (i := 198) (by decide +kernel)), Or.inl rfl⟩
set_option maxRecDepth 100000 in
theorem zc870 : wZ (.instanceMethod yX11_begin) := ⟨wT5 (List.mem_of_getElem? (i := 197) (by decide +kernel)), Or.inl rfl⟩
set_option maxRecDepth 100000 in
theorem zc871 : wZ (.methodLink RX12 36 yX11_begin) := ⟨wT5 (List.mem_of_getElem? (i := 196) (by decide +kernel)), Or.inl rfl⟩
set_option maxRecDepth 100000 in
theorem zc872 : wZ (.fieldLink RX12 33 "MotionFloorModel" "told" "[I") := ⟨wT5 (List.mem_of_getElem? (i := 205) (by decide +kernel)), Or.inl rfl⟩
set_option maxRecDepth 100000 in
theorem zc873 : wZ (.fieldLink RX12 30 "MotionFloorModel" "images" "[I") := ⟨wT5 (List.mem_of_getElem? (i := 204) (by decide +kernel)), Or.inl rfl⟩
set_option maxRecDepth 100000 in
theorem zc874 : wZ (.fieldLink RX12 27 "MotionFloorModel" "imageEntries" "[I") := ⟨wT5 (List.mem_of_getElem? (i := 203) (by decide +kernel)), Or.inl rfl⟩
set_option maxRecDepth 100000 in
theorem zc875 : wZ (.fieldLink RX12 23 "MotionFloorModel" "imageSeats" "[I") := ⟨wT5 (List.mem_of_getElem? (i := 202) (by decide +kernel)), Or.inl rfl⟩
set_option maxRecDepth 100000 in
theorem zc876 : wZ (.fieldLink RX12 20 "MotionFloorModel" "spare" "LMotionFloorModel$Hall;") := ⟨wT5 (List.mem_of_getElem? (i := 201) (by decide +kernel)), Or.inl rfl⟩
set_option maxRecDepth 100000 in
theorem zc877 : wZ (.fieldLink RX12 16 "MotionFloorModel" "hall" "LMotionFloorModel$Hall;") := ⟨wT5 (List.mem_of_getElem? (i := 200) (by decide +kernel)), Or.inl rfl⟩
set_option maxRecDepth 100000 in
theorem zc878 : wZ (.instanceMethod yX11_init) := ⟨wT5 (List.mem_of_getElem? (i := 30) (by decide +kernel)), Or.inl rfl⟩
set_option maxRecDepth 100000 in
theorem zc879 : wZ (.initialized RX11) := ⟨wT1 (List.mem_of_getElem? (i := 11) (by decide +kernel)), Or.inl rfl⟩
set_option maxRecDepth 100000 in
theorem zc880 : wZ (.instantiable RX11 42) := ⟨wT5 (List.mem_of_getElem? (i := 28) (by decide +kernel)), Or.inl rfl⟩
set_option maxRecDepth 100000 in
theorem zc881 : wZ (.classLink RX12 13 RX11) := ⟨wT5 (List.mem_of_getElem? (i := 27) (by decide +kernel)), Or.inl rfl⟩
set_option maxRecDepth 100000 in
theorem zc882 : wZ (.methodLink RX12 7 objectInit) := ⟨wT5 (List.mem_of_getElem? (i := 26) (by decide +kernel)), Or.inl rfl⟩
set_option maxRecDepth 100000 in
theorem zc883 : wZ (.code yX12_init cX12_init 1 none) := ⟨wT5 (List.mem_of_getElem? (i := 25) rfl), Or.inl rfl⟩
set_option maxRecDepth 100000 in
theorem zc884 : wZ (.instanceMethod yX12_init) := ⟨wT5 (List.mem_of_getElem? (i := 24) (by decide +kernel)), Or.inl rfl⟩
set_option maxRecDepth 100000 in
theorem zc885 : wZ (.methodLink RL 12 yX12_init) := ⟨wT5 (List.mem_of_getElem? (i := 23) (by decide +kernel)), Or.inl rfl⟩
set_option maxRecDepth 100000 in
theorem zc886 : wZ (.initialized RX12) := ⟨wT1 (List.mem_of_getElem? (i := 10) (by decide +kernel)), Or.inl rfl⟩
set_option maxRecDepth 100000 in
theorem zc887 : wZ (.instantiable RX12 7) := ⟨wT5 (List.mem_of_getElem? (i := 22) (by decide +kernel)), Or.inl rfl⟩
set_option maxRecDepth 100000 in
theorem zc888 : wZ (.classLink RL 10 RX12) := ⟨wT5 (List.mem_of_getElem? (i := 21) (by decide +kernel)), Or.inl rfl⟩
set_option maxRecDepth 100000 in
theorem zc889 : wZ (.instanceMethod yX10_init) := ⟨wT1 (List.mem_of_getElem? (i := 20) (by decide +kernel)), Or.inl rfl⟩
set_option maxRecDepth 100000 in
theorem zc890 : wZ (.methodLink RL 9 yX10_init) := ⟨wT1 (List.mem_of_getElem? (i := 19) (by decide +kernel)), Or.inl rfl⟩
set_option maxRecDepth 100000 in
theorem zc891 : wZ (.instantiable RX10 5) := ⟨wT1 (List.mem_of_getElem? (i := 18) (by decide +kernel)), Or.inl rfl⟩
set_option maxRecDepth 100000 in
theorem zc892 : wZ (.classLink RL 7 RX10) := ⟨wT1 (List.mem_of_getElem? (i := 17) (by decide +kernel)), Or.inl rfl⟩
set_option maxRecDepth 100000 in
theorem zc893 : wZ (.selects RX12 yX12_seats yX12_seats) := ⟨wT5 (List.mem_of_getElem? (i := 224) (by decide +kernel)), Or.inl rfl⟩
set_option maxRecDepth 100000 in
theorem zc894 : wZ (.instanceMethod yX12_seats) := ⟨wT5 (List.mem_of_getElem? (i := 223) (by decide +kernel)), Or.inl rfl⟩
set_option maxRecDepth 100000 in
theorem zc895 : wZ (.methodLink RL 17 yX12_seats) := ⟨wT5 (List.mem_of_getElem? (i := 222) (by decide +kernel)), Or.inl rfl⟩
set_option maxRecDepth 100000 in
theorem zc896 : wZ (.selects RX10 yX10_seats yX10_seats) := ⟨wT2 (List.mem_of_getElem? (i := 15) (by decide +kernel)), Or.inl rfl⟩
set_option maxRecDepth 100000 in
theorem zc897 : wZ (.instanceMethod yX10_seats) := ⟨wT2 (List.mem_of_getElem? (i := 14) (by decide +kernel)), Or.inl rfl⟩
set_option maxRecDepth 100000 in
theorem zc898 : wZ (.methodLink RL 13 yX10_seats) := ⟨wT2 (List.mem_of_getElem? (i := 13) (by decide +kernel)), Or.inl rfl⟩
set_option maxRecDepth 100000 in
theorem zc899 : wZ (.selects RX12 yX12_there yX12_there) := ⟨wT5 (List.mem_of_getElem? (i := 231) (by decide +kernel)), Or.inl rfl⟩
set_option maxRecDepth 100000 in
theorem zc900 : wZ (.instanceMethod yX12_there) := ⟨wT5 (List.mem_of_getElem? (i := 230) (by decide +kernel)), Or.inl rfl⟩
set_option maxRecDepth 100000 in
theorem zc901 : wZ (.methodLink RL 21 yX12_there) := ⟨wT5 (List.mem_of_getElem? (i := 229) (by decide +kernel)), Or.inl rfl⟩
set_option maxRecDepth 100000 in
theorem zc902 : wZ (.selects RX10 yX10_there yX10_there) := ⟨wT2 (List.mem_of_getElem? (i := 43) (by decide +kernel)), Or.inl rfl⟩
set_option maxRecDepth 100000 in
theorem zc903 : wZ (.instanceMethod yX10_there) := ⟨wT2 (List.mem_of_getElem? (i := 42) (by decide +kernel)), Or.inl rfl⟩
set_option maxRecDepth 100000 in
theorem zc904 : wZ (.methodLink RL 18 yX10_there) := ⟨wT2 (List.mem_of_getElem? (i := 41) (by decide +kernel)), Or.inl rfl⟩
set_option maxRecDepth 100000 in
theorem zc905 : wZ (.selects RX12 yX12_gone yX12_gone) := ⟨wT6 (List.mem_of_getElem? (i := 118) (by decide +kernel)), Or.inl rfl⟩
set_option maxRecDepth 100000 in
theorem zc906 : wZ (.instanceMethod yX12_gone) := ⟨wT6 (List.mem_of_getElem? (i := 117) (by decide +kernel)), Or.inl rfl⟩
set_option maxRecDepth 100000 in
theorem zc907 : wZ (.methodLink RL 25 yX12_gone) := ⟨wT6 (List.mem_of_getElem? (i := 116) (by decide +kernel)), Or.inl rfl⟩
set_option maxRecDepth 100000 in
theorem zc908 : wZ (.selects RX10 yX10_gone yX10_gone) := ⟨wT4 (List.mem_of_getElem? (i := 30) (by decide +kernel)), Or.inl rfl⟩
set_option maxRecDepth 100000 in
theorem zc909 : wZ (.instanceMethod yX10_gone) := ⟨wT4 (List.mem_of_getElem? (i := 29) (by decide +kernel)), Or.inl rfl⟩
set_option maxRecDepth 100000 in
theorem zc910 : wZ (.methodLink RL 22 yX10_gone) := ⟨wT4 (List.mem_of_getElem? (i := 28) (by decide +kernel)), Or.inl rfl⟩
set_option maxRecDepth 100000 in
theorem zc911 : wZ (.selects RX12 yX12_quorum yX12_quorum) := ⟨wT6 (List.mem_of_getElem? (i := 122) (by decide +kernel)), Or.inl rfl⟩
set_option maxRecDepth 100000 in
theorem zc912 : wZ (.instanceMethod yX12_quorum) := ⟨wT6 (List.mem_of_getElem? (i := 121) (by decide +kernel)), Or.inl rfl⟩
set_option maxRecDepth 100000 in
theorem zc913 : wZ (.methodLink RL 29 yX12_quorum) := ⟨wT6 (List.mem_of_getElem? (i := 120) (by decide +kernel)), Or.inl rfl⟩
set_option maxRecDepth 100000 in
theorem zc914 : wZ (.selects RX10 yX10_quorum yX10_quorum) := ⟨wT4 (List.mem_of_getElem? (i := 34) (by decide +kernel)), Or.inl rfl⟩
set_option maxRecDepth 100000 in
theorem zc915 : wZ (.instanceMethod yX10_quorum) := ⟨wT4 (List.mem_of_getElem? (i := 33) (by decide +kernel)), Or.inl rfl⟩
set_option maxRecDepth 100000 in
theorem zc916 : wZ (.methodLink RL 26 yX10_quorum) := ⟨wT4 (List.mem_of_getElem? (i := 32) (by decide +kernel)), Or.inl rfl⟩
set_option maxRecDepth 100000 in
theorem zc917 : wZ (.selects RX12 yX12_chair yX12_chair) := ⟨wT6 (List.mem_of_getElem? (i := 126) (by decide +kernel)), Or.inl rfl⟩
set_option maxRecDepth 100000 in
theorem zc918 : wZ (.instanceMethod yX12_chair) := ⟨wT6 (List.mem_of_getElem? (i := 125) (by decide +kernel)), Or.inl rfl⟩
set_option maxRecDepth 100000 in
theorem zc919 : wZ (.methodLink RL 33 yX12_chair) := ⟨wT6 (List.mem_of_getElem? (i := 124) (by decide +kernel)), Or.inl rfl⟩
set_option maxRecDepth 100000 in
theorem zc920 : wZ (.selects RX10 yX10_chair yX10_chair) := ⟨wT4 (List.mem_of_getElem? (i := 38) (by decide +kernel)), Or.inl rfl⟩
set_option maxRecDepth 100000 in
theorem zc921 : wZ (.instanceMethod yX10_chair) := ⟨wT4 (List.mem_of_getElem? (i := 37) (by decide +kernel)), Or.inl rfl⟩
set_option maxRecDepth 100000 in
theorem zc922 : wZ (.methodLink RL 30 yX10_chair) := ⟨wT4 (List.mem_of_getElem? (i := 36) (by decide +kernel)), Or.inl rfl⟩
set_option maxRecDepth 100000 in
theorem zc923 : wZ (.selects RX12 yX12_majority yX12_majority) := ⟨wT6 (List.mem_of_getElem? (i := 130) (by decide +kernel)), Or.inl rfl⟩
set_option maxRecDepth 100000 in
theorem zc924 : wZ (.instanceMethod yX12_majority) := ⟨wT6 (List.mem_of_getElem? (i := 129) (by decide +kernel)), Or.inl rfl⟩
set_option maxRecDepth 100000 in
theorem zc925 : wZ (.methodLink RL 38 yX12_majority) := ⟨wT6 (List.mem_of_getElem? (i := 128) (by decide +kernel)), Or.inl rfl⟩
set_option maxRecDepth 100000 in
theorem zc926 : wZ (.selects RX10 yX10_majority yX10_majority) := ⟨wT4 (List.mem_of_getElem? (i := 42) (by decide +kernel)), Or.inl rfl⟩
set_option maxRecDepth 100000 in
theorem zc927 : wZ (.instanceMethod yX10_majority) := ⟨wT4 (List.mem_of_getElem? (i := 41) (by decide +kernel)), Or.inl rfl⟩
set_option maxRecDepth 100000 in
theorem zc928 : wZ (.methodLink RL 34 yX10_majority) := ⟨wT4 (List.mem_of_getElem? (i := 40) (by decide +kernel)), Or.inl rfl⟩
set_option maxRecDepth 100000 in
theorem zc929 : wZ (.selects RX12 yX12_limit yX12_limit) := ⟨wT6 (List.mem_of_getElem? (i := 134) (by decide +kernel)), Or.inl rfl⟩
set_option maxRecDepth 100000 in
theorem zc930 : wZ (.instanceMethod yX12_limit) := ⟨wT6 (List.mem_of_getElem? (i := 133) (by decide +kernel)), Or.inl rfl⟩
set_option maxRecDepth 100000 in
theorem zc931 : wZ (.methodLink RL 42 yX12_limit) := ⟨wT6 (List.mem_of_getElem? (i := 132) (by decide +kernel)), Or.inl rfl⟩
set_option maxRecDepth 100000 in
theorem zc932 : wZ (.selects RX10 yX10_limit yX10_limit) := ⟨wT4 (List.mem_of_getElem? (i := 46) (by decide +kernel)), Or.inl rfl⟩
set_option maxRecDepth 100000 in
theorem zc933 : wZ (.instanceMethod yX10_limit) := ⟨wT4 (List.mem_of_getElem? (i := 45) (by decide +kernel)), Or.inl rfl⟩
set_option maxRecDepth 100000 in
theorem zc934 : wZ (.methodLink RL 39 yX10_limit) := ⟨wT4 (List.mem_of_getElem? (i := 44) (by decide +kernel)), Or.inl rfl⟩
set_option maxRecDepth 100000 in
theorem zc935 : wZ (.selects RX12 yX12_floor yX12_floor) := ⟨wT6 (List.mem_of_getElem? (i := 138) (by decide +kernel)), Or.inl rfl⟩
set_option maxRecDepth 100000 in
theorem zc936 : wZ (.instanceMethod yX12_floor) := ⟨wT6 (List.mem_of_getElem? (i := 137) (by decide +kernel)), Or.inl rfl⟩
set_option maxRecDepth 100000 in
theorem zc937 : wZ (.methodLink RL 46 yX12_floor) := ⟨wT6 (List.mem_of_getElem? (i := 136) (by decide +kernel)), Or.inl rfl⟩
set_option maxRecDepth 100000 in
theorem zc938 : wZ (.selects RX10 yX10_floor yX10_floor) := ⟨wT4 (List.mem_of_getElem? (i := 50) (by decide +kernel)), Or.inl rfl⟩
set_option maxRecDepth 100000 in
theorem zc939 : wZ (.instanceMethod yX10_floor) := ⟨wT4 (List.mem_of_getElem? (i := 49) (by decide +kernel)), Or.inl rfl⟩
set_option maxRecDepth 100000 in
theorem zc940 : wZ (.methodLink RL 43 yX10_floor) := ⟨wT4 (List.mem_of_getElem? (i := 48) (by decide +kernel)), Or.inl rfl⟩
set_option maxRecDepth 100000 in
theorem zc941 : wZ (.selects RX12 yX12_cede yX12_cede) := ⟨wT6 (List.mem_of_getElem? (i := 142) (by decide +kernel)), Or.inl rfl⟩
set_option maxRecDepth 100000 in
theorem zc942 : wZ (.instanceMethod yX12_cede) := ⟨wT6 (List.mem_of_getElem? (i := 141) (by decide +kernel)), Or.inl rfl⟩
set_option maxRecDepth 100000 in
theorem zc943 : wZ (.methodLink RL 51 yX12_cede) := ⟨wT6 (List.mem_of_getElem? (i := 140) (by decide +kernel)), Or.inl rfl⟩
set_option maxRecDepth 100000 in
theorem zc944 : wZ (.selects RX10 yX10_cede yX10_cede) := ⟨wT4 (List.mem_of_getElem? (i := 54) (by decide +kernel)), Or.inl rfl⟩
set_option maxRecDepth 100000 in
theorem zc945 : wZ (.instanceMethod yX10_cede) := ⟨wT4 (List.mem_of_getElem? (i := 53) (by decide +kernel)), Or.inl rfl⟩
set_option maxRecDepth 100000 in
theorem zc946 : wZ (.methodLink RL 47 yX10_cede) := ⟨wT4 (List.mem_of_getElem? (i := 52) (by decide +kernel)), Or.inl rfl⟩
set_option maxRecDepth 100000 in
theorem zc947 : wZ (.selects RX12 yX12_debate yX12_debate) := ⟨wT6 (List.mem_of_getElem? (i := 146) (by decide +kernel)), Or.inl rfl⟩
set_option maxRecDepth 100000 in
theorem zc948 : wZ (.instanceMethod yX12_debate) := ⟨wT6 (List.mem_of_getElem? (i := 145) (by decide +kernel)), Or.inl rfl⟩
set_option maxRecDepth 100000 in
theorem zc949 : wZ (.methodLink RL 55 yX12_debate) := ⟨wT6 (List.mem_of_getElem? (i := 144) (by decide +kernel)), Or.inl rfl⟩
set_option maxRecDepth 100000 in
theorem zc950 : wZ (.selects RX10 yX10_debate yX10_debate) := ⟨wT4 (List.mem_of_getElem? (i := 58) (by decide +kernel)), Or.inl rfl⟩
set_option maxRecDepth 100000 in
theorem zc951 : wZ (.instanceMethod yX10_debate) := ⟨wT4 (List.mem_of_getElem? (i := 57) (by decide +kernel)), Or.inl rfl⟩
set_option maxRecDepth 100000 in
theorem zc952 : wZ (.methodLink RL 52 yX10_debate) := ⟨wT4 (List.mem_of_getElem? (i := 56) (by decide +kernel)), Or.inl rfl⟩
set_option maxRecDepth 100000 in
theorem zc953 : wZ (.selects RX12 yX12_draft yX12_draft) := ⟨wT6 (List.mem_of_getElem? (i := 150) (by decide +kernel)), Or.inl rfl⟩
set_option maxRecDepth 100000 in
theorem zc954 : wZ (.instanceMethod yX12_draft) := ⟨wT6 (List.mem_of_getElem? (i := 149) (by decide +kernel)), Or.inl rfl⟩
set_option maxRecDepth 100000 in
theorem zc955 : wZ (.methodLink RL 59 yX12_draft) := ⟨wT6 (List.mem_of_getElem? (i := 148) (by decide +kernel)), Or.inl rfl⟩
set_option maxRecDepth 100000 in
theorem zc956 : wZ (.selects RX10 yX10_draft yX10_draft) := ⟨wT4 (List.mem_of_getElem? (i := 62) (by decide +kernel)), Or.inl rfl⟩
set_option maxRecDepth 100000 in
theorem zc957 : wZ (.instanceMethod yX10_draft) := ⟨wT4 (List.mem_of_getElem? (i := 61) (by decide +kernel)), Or.inl rfl⟩
set_option maxRecDepth 100000 in
theorem zc958 : wZ (.methodLink RL 56 yX10_draft) := ⟨wT4 (List.mem_of_getElem? (i := 60) (by decide +kernel)), Or.inl rfl⟩
set_option maxRecDepth 100000 in
theorem zc959 : wZ (.selects RX12 yX12_span yX12_span) := ⟨wT6 (List.mem_of_getElem? (i := 154) (by decide +kernel)), Or.inl rfl⟩
set_option maxRecDepth 100000 in
theorem zc960 : wZ (.instanceMethod yX12_span) := ⟨wT6 (List.mem_of_getElem? (i := 153) (by decide +kernel)), Or.inl rfl⟩
set_option maxRecDepth 100000 in
theorem zc961 : wZ (.methodLink RL 63 yX12_span) := ⟨wT6 (List.mem_of_getElem? (i := 152) (by decide +kernel)), Or.inl rfl⟩
set_option maxRecDepth 100000 in
theorem zc962 : wZ (.selects RX10 yX10_span yX10_span) := ⟨wT4 (List.mem_of_getElem? (i := 66) (by decide +kernel)), Or.inl rfl⟩
set_option maxRecDepth 100000 in
theorem zc963 : wZ (.instanceMethod yX10_span) := ⟨wT4 (List.mem_of_getElem? (i := 65) (by decide +kernel)), Or.inl rfl⟩
set_option maxRecDepth 100000 in
theorem zc964 : wZ (.methodLink RL 60 yX10_span) := ⟨wT4 (List.mem_of_getElem? (i := 64) (by decide +kernel)), Or.inl rfl⟩
set_option maxRecDepth 100000 in
theorem zc965 : wZ (.selects RX12 yX12_word yX12_word) := ⟨wT6 (List.mem_of_getElem? (i := 158) (by decide +kernel)), Or.inl rfl⟩
set_option maxRecDepth 100000 in
theorem zc966 : wZ (.instanceMethod yX12_word) := ⟨wT6 (List.mem_of_getElem? (i := 157) (by decide +kernel)), Or.inl rfl⟩
set_option maxRecDepth 100000 in
theorem zc967 : wZ (.methodLink RL 68 yX12_word) := ⟨wT6 (List.mem_of_getElem? (i := 156) (by decide +kernel)), Or.inl rfl⟩
set_option maxRecDepth 100000 in
theorem zc968 : wZ (.selects RX10 yX10_word yX10_word) := ⟨wT4 (List.mem_of_getElem? (i := 70) (by decide +kernel)), Or.inl rfl⟩
set_option maxRecDepth 100000 in
theorem zc969 : wZ (.instanceMethod yX10_word) := ⟨wT4 (List.mem_of_getElem? (i := 69) (by decide +kernel)), Or.inl rfl⟩
set_option maxRecDepth 100000 in
theorem zc970 : wZ (.methodLink RL 64 yX10_word) := ⟨wT4 (List.mem_of_getElem? (i := 68) (by decide +kernel)), Or.inl rfl⟩
set_option maxRecDepth 100000 in
theorem zc971 : wZ (.selects RX12 yX12_lay yX12_lay) := ⟨wT6 (List.mem_of_getElem? (i := 162) (by decide +kernel)), Or.inl rfl⟩
set_option maxRecDepth 100000 in
theorem zc972 : wZ (.instanceMethod yX12_lay) := ⟨wT6 (List.mem_of_getElem? (i := 161) (by decide +kernel)), Or.inl rfl⟩
set_option maxRecDepth 100000 in
theorem zc973 : wZ (.methodLink RL 72 yX12_lay) := ⟨wT6 (List.mem_of_getElem? (i := 160) (by decide +kernel)), Or.inl rfl⟩
set_option maxRecDepth 100000 in
theorem zc974 : wZ (.selects RX10 yX10_lay yX10_lay) := ⟨wT4 (List.mem_of_getElem? (i := 74) (by decide +kernel)), Or.inl rfl⟩
set_option maxRecDepth 100000 in
theorem zc975 : wZ (.instanceMethod yX10_lay) := ⟨wT4 (List.mem_of_getElem? (i := 73) (by decide +kernel)), Or.inl rfl⟩
set_option maxRecDepth 100000 in
theorem zc976 : wZ (.methodLink RL 69 yX10_lay) := ⟨wT4 (List.mem_of_getElem? (i := 72) (by decide +kernel)), Or.inl rfl⟩
set_option maxRecDepth 100000 in
theorem zc977 : wZ (.selects RX12 yX12_take yX12_take) := ⟨wT6 (List.mem_of_getElem? (i := 166) (by decide +kernel)), Or.inl rfl⟩
set_option maxRecDepth 100000 in
theorem zc978 : wZ (.instanceMethod yX12_take) := ⟨wT6 (List.mem_of_getElem? (i := 165) (by decide +kernel)), Or.inl rfl⟩
set_option maxRecDepth 100000 in
theorem zc979 : wZ (.methodLink RL 76 yX12_take) := ⟨wT6 (List.mem_of_getElem? (i := 164) (by decide +kernel)), Or.inl rfl⟩
set_option maxRecDepth 100000 in
theorem zc980 : wZ (.selects RX10 yX10_take yX10_take) := ⟨wT4 (List.mem_of_getElem? (i := 78) (by decide +kernel)), Or.inl rfl⟩
set_option maxRecDepth 100000 in
theorem zc981 : wZ (.instanceMethod yX10_take) := ⟨wT4 (List.mem_of_getElem? (i := 77) (by decide +kernel)), Or.inl rfl⟩
set_option maxRecDepth 100000 in
theorem zc982 : wZ (.methodLink RL 73 yX10_take) := ⟨wT4 (List.mem_of_getElem? (i := 76) (by decide +kernel)), Or.inl rfl⟩
set_option maxRecDepth 100000 in
theorem zc983 : wZ (.selects RX12 yX12_move yX12_move) := ⟨wT6 (List.mem_of_getElem? (i := 170) (by decide +kernel)), Or.inl rfl⟩
set_option maxRecDepth 100000 in
theorem zc984 : wZ (.instanceMethod yX12_move) := ⟨wT6 (List.mem_of_getElem? (i := 169) (by decide +kernel)), Or.inl rfl⟩
set_option maxRecDepth 100000 in
theorem zc985 : wZ (.methodLink RL 80 yX12_move) := ⟨wT6 (List.mem_of_getElem? (i := 168) (by decide +kernel)), Or.inl rfl⟩
set_option maxRecDepth 100000 in
theorem zc986 : wZ (.selects RX10 yX10_move yX10_move) := ⟨wT4 (List.mem_of_getElem? (i := 82) (by decide +kernel)), Or.inl rfl⟩
set_option maxRecDepth 100000 in
theorem zc987 : wZ (.instanceMethod yX10_move) := ⟨wT4 (List.mem_of_getElem? (i := 81) (by decide +kernel)), Or.inl rfl⟩
set_option maxRecDepth 100000 in
theorem zc988 : wZ (.methodLink RL 77 yX10_move) := ⟨wT4 (List.mem_of_getElem? (i := 80) (by decide +kernel)), Or.inl rfl⟩
set_option maxRecDepth 100000 in
theorem zc989 : wZ (.selects RX12 yX12_second yX12_second) := ⟨wT6 (List.mem_of_getElem? (i := 174) (by decide +kernel)), Or.inl rfl⟩
set_option maxRecDepth 100000 in
theorem zc990 : wZ (.instanceMethod yX12_second) := ⟨wT6 (List.mem_of_getElem? (i := 173) (by decide +kernel)), Or.inl rfl⟩
set_option maxRecDepth 100000 in
theorem zc991 : wZ (.methodLink RL 84 yX12_second) := ⟨wT6 (List.mem_of_getElem? (i := 172) (by decide +kernel)), Or.inl rfl⟩
set_option maxRecDepth 100000 in
theorem zc992 : wZ (.selects RX10 yX10_second yX10_second) := ⟨wT4 (List.mem_of_getElem? (i := 86) (by decide +kernel)), Or.inl rfl⟩
set_option maxRecDepth 100000 in
theorem zc993 : wZ (.instanceMethod yX10_second) := ⟨wT4 (List.mem_of_getElem? (i := 85) (by decide +kernel)), Or.inl rfl⟩
set_option maxRecDepth 100000 in
theorem zc994 : wZ (.methodLink RL 81 yX10_second) := ⟨wT4 (List.mem_of_getElem? (i := 84) (by decide +kernel)), Or.inl rfl⟩
set_option maxRecDepth 100000 in
theorem zc995 : wZ (.selects RX12 yX12_vote yX12_vote) := ⟨wT6 (List.mem_of_getElem? (i := 178) (by decide +kernel)), Or.inl rfl⟩
set_option maxRecDepth 100000 in
theorem zc996 : wZ (.instanceMethod yX12_vote) := ⟨wT6 (List.mem_of_getElem? (i := 177) (by decide +kernel)), Or.inl rfl⟩
set_option maxRecDepth 100000 in
theorem zc997 : wZ (.methodLink RL 88 yX12_vote) := ⟨wT6 (List.mem_of_getElem? (i := 176) (by decide +kernel)), Or.inl rfl⟩
set_option maxRecDepth 100000 in
theorem zc998 : wZ (.selects RX10 yX10_vote yX10_vote) := ⟨wT4 (List.mem_of_getElem? (i := 90) (by decide +kernel)), Or.inl rfl⟩
set_option maxRecDepth 100000 in
theorem zc999 : wZ (.instanceMethod yX10_vote) := ⟨wT4 (List.mem_of_getElem? (i := 89) (by decide +kernel)), Or.inl rfl⟩
set_option maxRecDepth 100000 in
theorem zc1000 : wZ (.methodLink RL 85 yX10_vote) := ⟨wT4 (List.mem_of_getElem? (i := 88) (by decide +kernel)), Or.inl rfl⟩
set_option maxRecDepth 100000 in
theorem zc1001 : wZ (.selects RX12 yX12_withdraw yX12_withdraw) := ⟨wT6 (List.mem_of_getElem? (i := 182) (by decide +kernel)), Or.inl rfl⟩
set_option maxRecDepth 100000 in
theorem zc1002 : wZ (.instanceMethod yX12_withdraw) := ⟨wT6 (List.mem_of_getElem? (i := 181) (by decide +kernel)), Or.inl rfl⟩
set_option maxRecDepth 100000 in
theorem zc1003 : wZ (.methodLink RL 92 yX12_withdraw) := ⟨wT6 (List.mem_of_getElem? (i := 180) (by decide +kernel)), Or.inl rfl⟩
set_option maxRecDepth 100000 in
theorem zc1004 : wZ (.selects RX10 yX10_withdraw yX10_withdraw) := ⟨wT4 (List.mem_of_getElem? (i := 94) (by decide +kernel)), Or.inl rfl⟩
set_option maxRecDepth 100000 in
theorem zc1005 : wZ (.instanceMethod yX10_withdraw) := ⟨wT4 (List.mem_of_getElem? (i := 93) (by decide +kernel)), Or.inl rfl⟩
set_option maxRecDepth 100000 in
theorem zc1006 : wZ (.methodLink RL 89 yX10_withdraw) := ⟨wT4 (List.mem_of_getElem? (i := 92) (by decide +kernel)), Or.inl rfl⟩
set_option maxRecDepth 100000 in
theorem zc1007 : wZ (.selects RX12 yX12_rule yX12_rule) := ⟨wT6 (List.mem_of_getElem? (i := 186) (by decide +kernel)), Or.inl rfl⟩
set_option maxRecDepth 100000 in
theorem zc1008 : wZ (.instanceMethod yX12_rule) := ⟨wT6 (List.mem_of_getElem? (i := 185) (by decide +kernel)), Or.inl rfl⟩
set_option maxRecDepth 100000 in
theorem zc1009 : wZ (.methodLink RL 96 yX12_rule) := ⟨wT6 (List.mem_of_getElem? (i := 184) (by decide +kernel)), Or.inl rfl⟩
set_option maxRecDepth 100000 in
theorem zc1010 : wZ (.selects RX10 yX10_rule yX10_rule) := ⟨wT4 (List.mem_of_getElem? (i := 98) (by decide +kernel)), Or.inl rfl⟩
set_option maxRecDepth 100000 in
theorem zc1011 : wZ (.instanceMethod yX10_rule) := ⟨wT4 (List.mem_of_getElem? (i := 97) (by decide +kernel)), Or.inl rfl⟩
set_option maxRecDepth 100000 in
theorem zc1012 : wZ (.methodLink RL 93 yX10_rule) := ⟨wT4 (List.mem_of_getElem? (i := 96) (by decide +kernel)), Or.inl rfl⟩
set_option maxRecDepth 100000 in
theorem zc1013 : wZ (.selects RX12 yX12_appeal yX12_appeal) := ⟨wT6 (List.mem_of_getElem? (i := 190) (by decide +kernel)), Or.inl rfl⟩
set_option maxRecDepth 100000 in
theorem zc1014 : wZ (.instanceMethod yX12_appeal) := ⟨wT6 (List.mem_of_getElem? (i := 189) (by decide +kernel)), Or.inl rfl⟩
set_option maxRecDepth 100000 in
theorem zc1015 : wZ (.methodLink RL 100 yX12_appeal) := ⟨wT6 (List.mem_of_getElem? (i := 188) (by decide +kernel)), Or.inl rfl⟩
set_option maxRecDepth 100000 in
theorem zc1016 : wZ (.selects RX10 yX10_appeal yX10_appeal) := ⟨wT4 (List.mem_of_getElem? (i := 102) (by decide +kernel)), Or.inl rfl⟩
set_option maxRecDepth 100000 in
theorem zc1017 : wZ (.instanceMethod yX10_appeal) := ⟨wT4 (List.mem_of_getElem? (i := 101) (by decide +kernel)), Or.inl rfl⟩
set_option maxRecDepth 100000 in
theorem zc1018 : wZ (.methodLink RL 97 yX10_appeal) := ⟨wT4 (List.mem_of_getElem? (i := 100) (by decide +kernel)), Or.inl rfl⟩
set_option maxRecDepth 100000 in
theorem zc1019 : wZ (.selects RX12 yX12_told yX12_told) := ⟨wT6 (List.mem_of_getElem? (i := 194) (by decide +kernel)), Or.inl rfl⟩
set_option maxRecDepth 100000 in
theorem zc1020 : wZ (.instanceMethod yX12_told) := ⟨wT6 (List.mem_of_getElem? (i := 193) (by decide +kernel)), Or.inl rfl⟩
set_option maxRecDepth 100000 in
theorem zc1021 : wZ (.methodLink RL 104 yX12_told) := ⟨wT6 (List.mem_of_getElem? (i := 192) (by decide +kernel)), Or.inl rfl⟩
set_option maxRecDepth 100000 in
theorem zc1022 : wZ (.selects RX10 yX10_told yX10_told) := ⟨wT4 (List.mem_of_getElem? (i := 106) (by decide +kernel)), Or.inl rfl⟩
set_option maxRecDepth 100000 in
theorem zc1023 : wZ (.instanceMethod yX10_told) := ⟨wT4 (List.mem_of_getElem? (i := 105) (by decide +kernel)), Or.inl rfl⟩
set_option maxRecDepth 100000 in
theorem zc1024 : wZ (.methodLink RL 101 yX10_told) := ⟨wT4 (List.mem_of_getElem? (i := 104) (by decide +kernel)), Or.inl rfl⟩
set_option maxRecDepth 100000 in
theorem zc1025 : wZ (.selects RX12 yX12_adjourn yX12_adjourn) := ⟨wT6 (List.mem_of_getElem? (i := 198) (by decide +kernel)), Or.inl rfl⟩
set_option maxRecDepth 100000 in
theorem zc1026 : wZ (.instanceMethod yX12_adjourn) := ⟨wT6 (List.mem_of_getElem? (i := 197) (by decide +kernel)), Or.inl rfl⟩
set_option maxRecDepth 100000 in
theorem zc1027 : wZ (.methodLink RL 108 yX12_adjourn) := ⟨wT6 (List.mem_of_getElem? (i := 196) (by decide +kernel)), Or.inl rfl⟩
set_option maxRecDepth 100000 in
theorem zc1028 : wZ (.selects RX10 yX10_adjourn yX10_adjourn) := ⟨wT4 (List.mem_of_getElem? (i := 110) (by decide +kernel)), Or.inl rfl⟩
set_option maxRecDepth 100000 in
theorem zc1029 : wZ (.instanceMethod yX10_adjourn) := ⟨wT4 (List.mem_of_getElem? (i := 109) (by decide +kernel)), Or.inl rfl⟩
set_option maxRecDepth 100000 in
theorem zc1030 : wZ (.methodLink RL 105 yX10_adjourn) := ⟨wT4 (List.mem_of_getElem? (i := 108) (by decide +kernel)), Or.inl rfl⟩
set_option maxRecDepth 100000 in
theorem zc1031 : wZ (.selects RX12 yX12_order yX12_order) := ⟨wT6 (List.mem_of_getElem? (i := 202) (by decide +kernel)), Or.inl rfl⟩
set_option maxRecDepth 100000 in
theorem zc1032 : wZ (.instanceMethod yX12_order) := ⟨wT6 (List.mem_of_getElem? (i := 201) (by decide +kernel)), Or.inl rfl⟩
set_option maxRecDepth 100000 in
theorem zc1033 : wZ (.methodLink RL 112 yX12_order) := ⟨wT6 (List.mem_of_getElem? (i := 200) (by decide +kernel)), Or.inl rfl⟩
set_option maxRecDepth 100000 in
theorem zc1034 : wZ (.selects RX10 yX10_order yX10_order) := ⟨wT4 (List.mem_of_getElem? (i := 114) (by decide +kernel)), Or.inl rfl⟩
set_option maxRecDepth 100000 in
theorem zc1035 : wZ (.instanceMethod yX10_order) := ⟨wT4 (List.mem_of_getElem? (i := 113) (by decide +kernel)), Or.inl rfl⟩
set_option maxRecDepth 100000 in
theorem zc1036 : wZ (.methodLink RL 109 yX10_order) := ⟨wT4 (List.mem_of_getElem? (i := 112) (by decide +kernel)), Or.inl rfl⟩
set_option maxRecDepth 100000 in
theorem zc1037 : wZ (.selects RX12 yX12_why yX12_why) := ⟨wT6 (List.mem_of_getElem? (i := 207) (by decide +kernel)), Or.inl rfl⟩
set_option maxRecDepth 100000 in
theorem zc1038 : wZ (.instanceMethod yX12_why) := ⟨wT6 (List.mem_of_getElem? (i := 206) (by decide +kernel)), Or.inl rfl⟩
set_option maxRecDepth 100000 in
theorem zc1039 : wZ (.methodLink RL 116 yX12_why) := ⟨wT6 (List.mem_of_getElem? (i := 205) (by decide +kernel)), Or.inl rfl⟩
set_option maxRecDepth 100000 in
theorem zc1040 : wZ (.selects RX10 yX10_why yX10_why) := ⟨wT4 (List.mem_of_getElem? (i := 119) (by decide +kernel)), Or.inl rfl⟩
set_option maxRecDepth 100000 in
theorem zc1041 : wZ (.instanceMethod yX10_why) := ⟨wT4 (List.mem_of_getElem? (i := 118) (by decide +kernel)), Or.inl rfl⟩
set_option maxRecDepth 100000 in
theorem zc1042 : wZ (.methodLink RL 113 yX10_why) := ⟨wT4 (List.mem_of_getElem? (i := 117) (by decide +kernel)), Or.inl rfl⟩
set_option maxRecDepth 100000 in
theorem zc1043 : wZ (.selects RX12 yX12_pending yX12_pending) := ⟨wT6 (List.mem_of_getElem? (i := 211) (by decide +kernel)), Or.inl rfl⟩
set_option maxRecDepth 100000 in
theorem zc1044 : wZ (.instanceMethod yX12_pending) := ⟨wT6 (List.mem_of_getElem? (i := 210) (by decide +kernel)), Or.inl rfl⟩
set_option maxRecDepth 100000 in
theorem zc1045 : wZ (.methodLink RL 120 yX12_pending) := ⟨wT6 (List.mem_of_getElem? (i := 209) (by decide +kernel)), Or.inl rfl⟩
set_option maxRecDepth 100000 in
theorem zc1046 : wZ (.selects RX10 yX10_pending yX10_pending) := ⟨wT4 (List.mem_of_getElem? (i := 123) (by decide +kernel)), Or.inl rfl⟩
set_option maxRecDepth 100000 in
theorem zc1047 : wZ (.instanceMethod yX10_pending) := ⟨wT4 (List.mem_of_getElem? (i := 122) (by decide +kernel)), Or.inl rfl⟩
set_option maxRecDepth 100000 in
theorem zc1048 : wZ (.methodLink RL 117 yX10_pending) := ⟨wT4 (List.mem_of_getElem? (i := 121) (by decide +kernel)), Or.inl rfl⟩
set_option maxRecDepth 100000 in
theorem zc1049 : wZ (.selects RX12 yX12_text yX12_text) := ⟨wT6 (List.mem_of_getElem? (i := 216) (by decide +kernel)), Or.inl rfl⟩
set_option maxRecDepth 100000 in
theorem zc1050 : wZ (.instanceMethod yX12_text) := ⟨wT6 (List.mem_of_getElem? (i := 215) (by decide +kernel)), Or.inl rfl⟩
set_option maxRecDepth 100000 in
theorem zc1051 : wZ (.methodLink RL 124 yX12_text) := ⟨wT6 (List.mem_of_getElem? (i := 214) (by decide +kernel)), Or.inl rfl⟩
set_option maxRecDepth 100000 in
theorem zc1052 : wZ (.selects RX10 yX10_text yX10_text) := ⟨wT4 (List.mem_of_getElem? (i := 132) (by decide +kernel)), Or.inl rfl⟩
set_option maxRecDepth 100000 in
theorem zc1053 : wZ (.instanceMethod yX10_text) := ⟨wT4 (List.mem_of_getElem? (i := 131) (by decide +kernel)), Or.inl rfl⟩
set_option maxRecDepth 100000 in
theorem zc1054 : wZ (.methodLink RL 121 yX10_text) := ⟨wT4 (List.mem_of_getElem? (i := 130) (by decide +kernel)), Or.inl rfl⟩
set_option maxRecDepth 100000 in
theorem zc1055 : wZ (.selects RX12 yX12_ballot yX12_ballot) := ⟨wT6 (List.mem_of_getElem? (i := 224) (by decide +kernel)), Or.inl rfl⟩
set_option maxRecDepth 100000 in
theorem zc1056 : wZ (.instanceMethod yX12_ballot) := ⟨wT6 (List.mem_of_getElem? (i := 223) (by decide +kernel)), Or.inl rfl⟩
set_option maxRecDepth 100000 in
theorem zc1057 : wZ (.methodLink RL 128 yX12_ballot) := ⟨wT6 (List.mem_of_getElem? (i := 222) (by decide +kernel)), Or.inl rfl⟩
set_option maxRecDepth 100000 in
theorem zc1058 : wZ (.selects RX10 yX10_ballot yX10_ballot) := ⟨wT4 (List.mem_of_getElem? (i := 146) (by decide +kernel)), Or.inl rfl⟩
set_option maxRecDepth 100000 in
theorem zc1059 : wZ (.instanceMethod yX10_ballot) := ⟨wT4 (List.mem_of_getElem? (i := 145) (by decide +kernel)), Or.inl rfl⟩
set_option maxRecDepth 100000 in
theorem zc1060 : wZ (.methodLink RL 125 yX10_ballot) := ⟨wT4 (List.mem_of_getElem? (i := 144) (by decide +kernel)), Or.inl rfl⟩
set_option maxRecDepth 100000 in
theorem zc1061 : wZ (.selects RX12 yX12_desk yX12_desk) := ⟨wT6 (List.mem_of_getElem? (i := 229) (by decide +kernel)), Or.inl rfl⟩
set_option maxRecDepth 100000 in
theorem zc1062 : wZ (.instanceMethod yX12_desk) := ⟨wT6 (List.mem_of_getElem? (i := 228) (by decide +kernel)), Or.inl rfl⟩
set_option maxRecDepth 100000 in
theorem zc1063 : wZ (.methodLink RL 132 yX12_desk) := ⟨wT6 (List.mem_of_getElem? (i := 227) (by decide +kernel)), Or.inl rfl⟩
set_option maxRecDepth 100000 in
theorem zc1064 : wZ (.selects RX10 yX10_desk yX10_desk) := ⟨wT4 (List.mem_of_getElem? (i := 152) (by decide +kernel)), Or.inl rfl⟩
set_option maxRecDepth 100000 in
theorem zc1065 : wZ (.instanceMethod yX10_desk) := ⟨wT4 (List.mem_of_getElem? (i := 151) (by decide +kernel)), Or.inl rfl⟩
set_option maxRecDepth 100000 in
theorem zc1066 : wZ (.methodLink RL 129 yX10_desk) := ⟨wT4 (List.mem_of_getElem? (i := 150) (by decide +kernel)), Or.inl rfl⟩
set_option maxRecDepth 100000 in
theorem zc1067 : wZ (.selects RX12 yX12_lying yX12_lying) := ⟨wT6 (List.mem_of_getElem? (i := 233) (by decide +kernel)), Or.inl rfl⟩
set_option maxRecDepth 100000 in
theorem zc1068 : wZ (.instanceMethod yX12_lying) := ⟨wT6 (List.mem_of_getElem? (i := 232) (by decide +kernel)), Or.inl rfl⟩
set_option maxRecDepth 100000 in
theorem zc1069 : wZ (.methodLink RL 136 yX12_lying) := ⟨wT6 (List.mem_of_getElem? (i := 231) (by decide +kernel)), Or.inl rfl⟩
set_option maxRecDepth 100000 in
theorem zc1070 : wZ (.selects RX10 yX10_lying yX10_lying) := ⟨wT4 (List.mem_of_getElem? (i := 163) (by decide +kernel)), Or.inl rfl⟩
set_option maxRecDepth 100000 in
theorem zc1071 : wZ (.instanceMethod yX10_lying) := ⟨wT4 (List.mem_of_getElem? (i := 162) (by decide +kernel)), Or.inl rfl⟩
set_option maxRecDepth 100000 in
theorem zc1072 : wZ (.methodLink RL 133 yX10_lying) := ⟨wT4 (List.mem_of_getElem? (i := 161) (by decide +kernel)), Or.inl rfl⟩
set_option maxRecDepth 100000 in
theorem zc1073 : wZ (.selects RX12 yX12_result yX12_result) := ⟨wT6 (List.mem_of_getElem? (i := 237) (by decide +kernel)), Or.inl rfl⟩
set_option maxRecDepth 100000 in
theorem zc1074 : wZ (.instanceMethod yX12_result) := ⟨wT6 (List.mem_of_getElem? (i := 236) (by decide +kernel)), Or.inl rfl⟩
set_option maxRecDepth 100000 in
theorem zc1075 : wZ (.methodLink RL 140 yX12_result) := ⟨wT6 (List.mem_of_getElem? (i := 235) (by decide +kernel)), Or.inl rfl⟩
set_option maxRecDepth 100000 in
theorem zc1076 : wZ (.selects RX10 yX10_result yX10_result) := ⟨wT4 (List.mem_of_getElem? (i := 172) (by decide +kernel)), Or.inl rfl⟩
set_option maxRecDepth 100000 in
theorem zc1077 : wZ (.instanceMethod yX10_result) := ⟨wT4 (List.mem_of_getElem? (i := 171) (by decide +kernel)), Or.inl rfl⟩
set_option maxRecDepth 100000 in
theorem zc1078 : wZ (.methodLink RL 137 yX10_result) := ⟨wT4 (List.mem_of_getElem? (i := 170) (by decide +kernel)), Or.inl rfl⟩
set_option maxRecDepth 100000 in
theorem zc1079 : wZ (.selects RX12 yX12_count yX12_count) := ⟨wT7 (List.mem_of_getElem? (i := 1) (by decide +kernel)), Or.inl rfl⟩
set_option maxRecDepth 100000 in
theorem zc1080 : wZ (.instanceMethod yX12_count) := ⟨wT7 (List.mem_of_getElem? (i := 0) (by decide +kernel)), Or.inl rfl⟩
set_option maxRecDepth 100000 in
theorem zc1081 : wZ (.methodLink RL 144 yX12_count) := ⟨wT6 (List.mem_of_getElem? (i := 239) (by decide +kernel)), Or.inl rfl⟩
set_option maxRecDepth 100000 in
theorem zc1082 : wZ (.selects RX10 yX10_count yX10_count) := ⟨wT4 (List.mem_of_getElem? (i := 180) (by decide +kernel)), Or.inl rfl⟩
set_option maxRecDepth 100000 in
theorem zc1083 : wZ (.instanceMethod yX10_count) := ⟨wT4 (List.mem_of_getElem? (i := 179) (by decide +kernel)), Or.inl rfl⟩
set_option maxRecDepth 100000 in
theorem zc1084 : wZ (.methodLink RL 141 yX10_count) := ⟨wT4 (List.mem_of_getElem? (i := 178) (by decide +kernel)), Or.inl rfl⟩
set_option maxRecDepth 100000 in
theorem zc1085 : wZ (.selects RX12 yX12_seat yX12_seat) := ⟨wT7 (List.mem_of_getElem? (i := 5) (by decide +kernel)), Or.inl rfl⟩
set_option maxRecDepth 100000 in
theorem zc1086 : wZ (.instanceMethod yX12_seat) := ⟨wT7 (List.mem_of_getElem? (i := 4) (by decide +kernel)), Or.inl rfl⟩
set_option maxRecDepth 100000 in
theorem zc1087 : wZ (.methodLink RL 148 yX12_seat) := ⟨wT7 (List.mem_of_getElem? (i := 3) (by decide +kernel)), Or.inl rfl⟩
set_option maxRecDepth 100000 in
theorem zc1088 : wZ (.selects RX10 yX10_seat yX10_seat) := ⟨wT4 (List.mem_of_getElem? (i := 185) (by decide +kernel)), Or.inl rfl⟩
set_option maxRecDepth 100000 in
theorem zc1089 : wZ (.instanceMethod yX10_seat) := ⟨wT4 (List.mem_of_getElem? (i := 184) (by decide +kernel)), Or.inl rfl⟩
set_option maxRecDepth 100000 in
theorem zc1090 : wZ (.methodLink RL 145 yX10_seat) := ⟨wT4 (List.mem_of_getElem? (i := 183) (by decide +kernel)), Or.inl rfl⟩
set_option maxRecDepth 100000 in
theorem zc1091 : wZ (.selects RX12 yX12_journal yX12_journal) := ⟨wT7 (List.mem_of_getElem? (i := 9) (by decide +kernel)), Or.inl rfl⟩
set_option maxRecDepth 100000 in
theorem zc1092 : wZ (.instanceMethod yX12_journal) := ⟨wT7 (List.mem_of_getElem? (i := 8) (by decide +kernel)), Or.inl rfl⟩
set_option maxRecDepth 100000 in
theorem zc1093 : wZ (.methodLink RL 152 yX12_journal) := ⟨wT7 (List.mem_of_getElem? (i := 7) (by decide +kernel)), Or.inl rfl⟩
set_option maxRecDepth 100000 in
theorem zc1094 : wZ (.selects RX10 yX10_journal yX10_journal) := ⟨wT4 (List.mem_of_getElem? (i := 191) (by decide +kernel)), Or.inl rfl⟩
set_option maxRecDepth 100000 in
theorem zc1095 : wZ (.instanceMethod yX10_journal) := ⟨wT4 (List.mem_of_getElem? (i := 190) (by decide +kernel)), Or.inl rfl⟩
set_option maxRecDepth 100000 in
theorem zc1096 : wZ (.methodLink RL 149 yX10_journal) := ⟨wT4 (List.mem_of_getElem? (i := 189) (by decide +kernel)), Or.inl rfl⟩
set_option maxRecDepth 100000 in
theorem zc1097 : wZ (.selects RX12 yX12_before yX12_before) := ⟨wT7 (List.mem_of_getElem? (i := 13) (by decide +kernel)), Or.inl rfl⟩
set_option maxRecDepth 100000 in
theorem zc1098 : wZ (.instanceMethod yX12_before) := ⟨wT7 (List.mem_of_getElem? (i := 12) (by decide +kernel)), Or.inl rfl⟩
set_option maxRecDepth 100000 in
theorem zc1099 : wZ (.methodLink RL 157 yX12_before) := ⟨wT7 (List.mem_of_getElem? (i := 11) (by decide +kernel)), Or.inl rfl⟩
set_option maxRecDepth 100000 in
theorem zc1100 : wZ (.selects RX10 yX10_before yX10_before) := ⟨wT4 (List.mem_of_getElem? (i := 195) (by decide +kernel)), Or.inl rfl⟩
set_option maxRecDepth 100000 in
theorem zc1101 : wZ (.instanceMethod yX10_before) := ⟨wT4 (List.mem_of_getElem? (i := 194) (by decide +kernel)), Or.inl rfl⟩
set_option maxRecDepth 100000 in
theorem zc1102 : wZ (.methodLink RL 153 yX10_before) := ⟨wT4 (List.mem_of_getElem? (i := 193) (by decide +kernel)), Or.inl rfl⟩
set_option maxRecDepth 100000 in
theorem zc1103 : wZ (.selects RX12 yX12_again yX12_again) := ⟨wT7 (List.mem_of_getElem? (i := 22) (by decide +kernel)), Or.inl rfl⟩
set_option maxRecDepth 100000 in
theorem zc1104 : wZ (.instanceMethod yX12_again) := ⟨wT7 (List.mem_of_getElem? (i := 21) (by decide +kernel)), Or.inl rfl⟩
set_option maxRecDepth 100000 in
theorem zc1105 : wZ (.methodLink RL 161 yX12_again) := ⟨wT7 (List.mem_of_getElem? (i := 20) (by decide +kernel)), Or.inl rfl⟩
set_option maxRecDepth 100000 in
theorem zc1106 : wZ (.selects RX10 yX10_again yX10_again) := ⟨wT4 (List.mem_of_getElem? (i := 199) (by decide +kernel)), Or.inl rfl⟩
set_option maxRecDepth 100000 in
theorem zc1107 : wZ (.instanceMethod yX10_again) := ⟨wT4 (List.mem_of_getElem? (i := 198) (by decide +kernel)), Or.inl rfl⟩
set_option maxRecDepth 100000 in
theorem zc1108 : wZ (.methodLink RL 158 yX10_again) := ⟨wT4 (List.mem_of_getElem? (i := 197) (by decide +kernel)), Or.inl rfl⟩
set_option maxRecDepth 100000 in
theorem zc1109 : wZ (.selects RX12 yX12_tell yX12_tell) := ⟨wT7 (List.mem_of_getElem? (i := 26) (by decide +kernel)), Or.inl rfl⟩
set_option maxRecDepth 100000 in
theorem zc1110 : wZ (.instanceMethod yX12_tell) := ⟨wT7 (List.mem_of_getElem? (i := 25) (by decide +kernel)), Or.inl rfl⟩
set_option maxRecDepth 100000 in
theorem zc1111 : wZ (.methodLink RL 166 yX12_tell) := ⟨wT7 (List.mem_of_getElem? (i := 24) (by decide +kernel)), Or.inl rfl⟩
set_option maxRecDepth 100000 in
theorem zc1112 : wZ (.selects RX10 yX10_tell yX10_tell) := ⟨wT4 (List.mem_of_getElem? (i := 203) (by decide +kernel)), Or.inl rfl⟩
set_option maxRecDepth 100000 in
theorem zc1113 : wZ (.instanceMethod yX10_tell) := ⟨wT4 (List.mem_of_getElem? (i := 202) (by decide +kernel)), Or.inl rfl⟩
set_option maxRecDepth 100000 in
theorem zc1114 : wZ (.methodLink RL 162 yX10_tell) := ⟨wT4 (List.mem_of_getElem? (i := 201) (by decide +kernel)), Or.inl rfl⟩
set_option maxRecDepth 100000 in
theorem zc1115 : wZ (.selects RX12 yX12_check yX12_check) := ⟨wT7 (List.mem_of_getElem? (i := 30) (by decide +kernel)), Or.inl rfl⟩
set_option maxRecDepth 100000 in
theorem zc1116 : wZ (.instanceMethod yX12_check) := ⟨wT7 (List.mem_of_getElem? (i := 29) (by decide +kernel)), Or.inl rfl⟩
set_option maxRecDepth 100000 in
theorem zc1117 : wZ (.methodLink RL 170 yX12_check) := ⟨wT7 (List.mem_of_getElem? (i := 28) (by decide +kernel)), Or.inl rfl⟩
set_option maxRecDepth 100000 in
theorem zc1118 : wZ (.selects RX10 yX10_check yX10_check) := ⟨wT4 (List.mem_of_getElem? (i := 210) (by decide +kernel)), Or.inl rfl⟩
set_option maxRecDepth 100000 in
theorem zc1119 : wZ (.instanceMethod yX10_check) := ⟨wT4 (List.mem_of_getElem? (i := 209) (by decide +kernel)), Or.inl rfl⟩
set_option maxRecDepth 100000 in
theorem zc1120 : wZ (.methodLink RL 167 yX10_check) := ⟨wT4 (List.mem_of_getElem? (i := 208) (by decide +kernel)), Or.inl rfl⟩
set_option maxRecDepth 100000 in
theorem zc1121 : wZ (.selects RX12 yX12_strike yX12_strike) := ⟨wT7 (List.mem_of_getElem? (i := 35) (by decide +kernel)), Or.inl rfl⟩
set_option maxRecDepth 100000 in
theorem zc1122 : wZ (.instanceMethod yX12_strike) := ⟨wT7 (List.mem_of_getElem? (i := 34) (by decide +kernel)), Or.inl rfl⟩
set_option maxRecDepth 100000 in
theorem zc1123 : wZ (.methodLink RL 174 yX12_strike) := ⟨wT7 (List.mem_of_getElem? (i := 33) (by decide +kernel)), Or.inl rfl⟩
set_option maxRecDepth 100000 in
theorem zc1124 : wZ (.selects RX10 yX10_strike yX10_strike) := ⟨wT4 (List.mem_of_getElem? (i := 220) (by decide +kernel)), Or.inl rfl⟩
set_option maxRecDepth 100000 in
theorem zc1125 : wZ (.instanceMethod yX10_strike) := ⟨wT4 (List.mem_of_getElem? (i := 219) (by decide +kernel)), Or.inl rfl⟩
set_option maxRecDepth 100000 in
theorem zc1126 : wZ (.methodLink RL 171 yX10_strike) := ⟨wT4 (List.mem_of_getElem? (i := 218) (by decide +kernel)), Or.inl rfl⟩
set_option maxRecDepth 100000 in
theorem zc1127 : wZ (.selects RX12 yX12_image yX12_image) := ⟨wT7 (List.mem_of_getElem? (i := 39) (by decide +kernel)), Or.inl rfl⟩
set_option maxRecDepth 100000 in
theorem zc1128 : wZ (.instanceMethod yX12_image) := ⟨wT7 (List.mem_of_getElem? (i := 38) (by decide +kernel)), Or.inl rfl⟩
set_option maxRecDepth 100000 in
theorem zc1129 : wZ (.methodLink RL 178 yX12_image) := ⟨wT7 (List.mem_of_getElem? (i := 37) (by decide +kernel)), Or.inl rfl⟩
set_option maxRecDepth 100000 in
theorem zc1130 : wZ (.selects RX10 yX10_image yX10_image) := ⟨wT4 (List.mem_of_getElem? (i := 224) (by decide +kernel)), Or.inl rfl⟩
set_option maxRecDepth 100000 in
theorem zc1131 : wZ (.instanceMethod yX10_image) := ⟨wT4 (List.mem_of_getElem? (i := 223) (by decide +kernel)), Or.inl rfl⟩
set_option maxRecDepth 100000 in
theorem zc1132 : wZ (.methodLink RL 175 yX10_image) := ⟨wT4 (List.mem_of_getElem? (i := 222) (by decide +kernel)), Or.inl rfl⟩
set_option maxRecDepth 100000 in
theorem zc1133 : wZ (.selects RX12 yX12_back yX12_back) := ⟨wT7 (List.mem_of_getElem? (i := 43) (by decide +kernel)), Or.inl rfl⟩
set_option maxRecDepth 100000 in
theorem zc1134 : wZ (.instanceMethod yX12_back) := ⟨wT7 (List.mem_of_getElem? (i := 42) (by decide +kernel)), Or.inl rfl⟩
set_option maxRecDepth 100000 in
theorem zc1135 : wZ (.methodLink RL 182 yX12_back) := ⟨wT7 (List.mem_of_getElem? (i := 41) (by decide +kernel)), Or.inl rfl⟩
set_option maxRecDepth 100000 in
theorem zc1136 : wZ (.selects RX10 yX10_back yX10_back) := ⟨wT5 (List.mem_of_getElem? (i := 19) (by decide +kernel)), Or.inl rfl⟩
set_option maxRecDepth 100000 in
theorem zc1137 : wZ (.instanceMethod yX10_back) := ⟨wT5 (List.mem_of_getElem? (i := 18) (by decide +kernel)), Or.inl rfl⟩
set_option maxRecDepth 100000 in
theorem zc1138 : wZ (.methodLink RL 179 yX10_back) := ⟨wT5 (List.mem_of_getElem? (i := 17) (by decide +kernel)), Or.inl rfl⟩
