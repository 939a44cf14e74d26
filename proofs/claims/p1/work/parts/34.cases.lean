/-! the law: rules, what they decide -/
theorem dL_law_176 : decode cL_law 176 = .ok (.aload_n 1, 1) := by decide +kernel
theorem dL_law_177 : decode cL_law 177 = .ok (.aload_n 0, 1) := by decide +kernel
theorem dL_law_178 : decode cL_law 178 = .ok (.iload 4, 2) := by decide +kernel
theorem dL_law_180 : decode cL_law 180 = .ok (.iconst 1, 1) := by decide +kernel
theorem dL_law_181 : decode cL_law 181 = .ok (.iadd, 1) := by decide +kernel
theorem dL_law_182 : decode cL_law 182 = .ok (.iaload, 1) := by decide +kernel
theorem dL_law_183 : decode cL_law 183 = .ok (.aload_n 3, 1) := by decide +kernel
set_option maxRecDepth 20000 in
theorem ggL_law_L_rule : GoodIn wsL_law wsL_rule := goodIn_ca (goodIn_ca (goodIn_r _ [118, 119, 120, 121, 122, 123, 2, 124, 125, 126, 16, 127, 128, 129, 130, 131, 132, 133, 134, 135, 15, 136, 45, 137, 138, 139, 140, 47, 141, 142, 143, 51, 52, 144, 145, 146, 147, 21, 148, 25, 149, 29, 150, 33, 151, 1019, 1020, 1021, 1022, 1023, 1024, 1025, 1026, 1038, 1039, 1040, 1072, 1073, 1074, 1075, 1041, 1042, 1043, 1044, 1045, 1046, 1047, 1048, 1049, 1050, 1051, 1052, 1053, 1054, 1055, 1056, 1057, 1058, 1059, 1060, 1061, 1062, 1063, 1064, 1065] (by decide +kernel) (by decide +kernel)) (goodIn_sub (fun _ h => List.mem_append_left _ (List.mem_append_left _ (List.mem_append_right _ h))) (by decide +kernel))) (goodIn_sub (fun _ h => List.mem_append_left _ (List.mem_append_right _ h)) (by decide +kernel))
set_option maxRecDepth 20000 in
theorem gL_law_L_rule : GoodIn wsL_law (va_wsS RL 83 yL_rule wsL_rule) := goodIn_app (goodIn_of _ (by decide +kernel)) ggL_law_L_rule
theorem dL_law_184 : decode cL_law 184 = .ok (.invokestatic 83, 3) := by decide +kernel
theorem dL_law_187 : decode cL_law 187 = .ok (.istore 5, 2) := by decide +kernel
theorem dL_law_189 : decode cL_law 189 = .ok (.aload_n 2, 1) := by decide +kernel
theorem dL_law_190 : decode cL_law 190 = .ok (.aload_n 0, 1) := by decide +kernel
theorem dL_law_191 : decode cL_law 191 = .ok (.iload 4, 2) := by decide +kernel
theorem dL_law_193 : decode cL_law 193 = .ok (.iconst 1, 1) := by decide +kernel
theorem dL_law_194 : decode cL_law 194 = .ok (.iadd, 1) := by decide +kernel
theorem dL_law_195 : decode cL_law 195 = .ok (.iaload, 1) := by decide +kernel
set_option maxRecDepth 20000 in
theorem ggL_law_X9_rule : GoodIn wsL_law wsX9_rule := goodIn_r _ [155, 156, 99, 157, 158, 159, 160, 101, 161, 162, 5, 163, 164, 165, 166, 167, 168, 169, 170, 1027, 1028, 1029, 1030, 1031, 1032, 1033, 1034, 1035, 1036, 1037, 1076, 1077, 1078, 1079, 1080, 1081] (by decide +kernel) (by decide +kernel)
set_option maxRecDepth 20000 in
theorem gL_law_X9_rule : GoodIn wsL_law (wsV RL 88 RX9 yX9_rule wsX9_rule) := goodIn_app (goodIn_of _ (by decide +kernel)) ggL_law_X9_rule
theorem dL_law_196 : decode cL_law 196 = .ok (.invokevirtual 88, 3) := by decide +kernel
theorem dL_law_199 : decode cL_law 199 = .ok (.istore 6, 2) := by decide +kernel
theorem dL_law_201 : decode cL_law 201 = .ok (.aload_n 2, 1) := by decide +kernel
set_option maxRecDepth 20000 in
theorem ggL_law_X9_thrown : GoodIn wsL_law wsX9_thrown := goodIn_r _ [174, 156, 1027, 1028, 1029, 1030, 1031, 1032, 1033, 1034, 1035, 1036, 1037] (by decide +kernel) (by decide +kernel)
set_option maxRecDepth 20000 in
theorem gL_law_X9_thrown : GoodIn wsL_law (wsV RL 89 RX9 yX9_thrown wsX9_thrown) := goodIn_app (goodIn_of _ (by decide +kernel)) ggL_law_X9_thrown
theorem dL_law_202 : decode cL_law 202 = .ok (.invokevirtual 89, 3) := by decide +kernel
theorem dL_law_205 : decode cL_law 205 = .ok (.iload 5, 2) := by decide +kernel
theorem dL_law_207 : decode cL_law 207 = .ok (.if_icmp .eq 5, 3) := by decide +kernel
theorem dL_law_212 : decode cL_law 212 = .ok (.iload 5, 2) := by decide +kernel
theorem dL_law_214 : decode cL_law 214 = .ok (.ifCond .ne 15, 3) := by decide +kernel
theorem dL_law_229 : decode cL_law 229 = .ok (.goto 1519, 3) := by decide +kernel
theorem dL_law_217 : decode cL_law 217 = .ok (.aload_n 3, 1) := by decide +kernel
theorem dL_law_218 : decode cL_law 218 = .ok (.iconst 0, 1) := by decide +kernel
theorem dL_law_219 : decode cL_law 219 = .ok (.laload, 1) := by decide +kernel
theorem dL_law_220 : decode cL_law 220 = .ok (.iload 6, 2) := by decide +kernel
theorem dL_law_222 : decode cL_law 222 = .ok (.i2l, 1) := by decide +kernel
theorem dL_law_223 : decode cL_law 223 = .ok (.lcmp, 1) := by decide +kernel
theorem dL_law_224 : decode cL_law 224 = .ok (.ifCond .eq 5, 3) := by decide +kernel
theorem dL_law_232 : decode cL_law 232 = .ok (.aload_n 1, 1) := by decide +kernel
theorem dL_law_233 : decode cL_law 233 = .ok (.aload_n 0, 1) := by decide +kernel
theorem dL_law_234 : decode cL_law 234 = .ok (.iload 4, 2) := by decide +kernel
theorem dL_law_236 : decode cL_law 236 = .ok (.iconst 1, 1) := by decide +kernel
theorem dL_law_237 : decode cL_law 237 = .ok (.iadd, 1) := by decide +kernel
theorem dL_law_238 : decode cL_law 238 = .ok (.iaload, 1) := by decide +kernel
theorem dL_law_239 : decode cL_law 239 = .ok (.aload_n 0, 1) := by decide +kernel
theorem dL_law_240 : decode cL_law 240 = .ok (.iload 4, 2) := by decide +kernel
theorem dL_law_242 : decode cL_law 242 = .ok (.iconst 2, 1) := by decide +kernel
theorem dL_law_243 : decode cL_law 243 = .ok (.iadd, 1) := by decide +kernel
theorem dL_law_244 : decode cL_law 244 = .ok (.iaload, 1) := by decide +kernel
theorem dL_law_245 : decode cL_law 245 = .ok (.aload_n 0, 1) := by decide +kernel
theorem dL_law_246 : decode cL_law 246 = .ok (.iload 4, 2) := by decide +kernel
theorem dL_law_248 : decode cL_law 248 = .ok (.iconst 3, 1) := by decide +kernel
theorem dL_law_249 : decode cL_law 249 = .ok (.iadd, 1) := by decide +kernel
theorem dL_law_250 : decode cL_law 250 = .ok (.iaload, 1) := by decide +kernel
theorem dL_law_251 : decode cL_law 251 = .ok (.aload_n 0, 1) := by decide +kernel
theorem dL_law_252 : decode cL_law 252 = .ok (.iload 4, 2) := by decide +kernel
theorem dL_law_254 : decode cL_law 254 = .ok (.iconst 4, 1) := by decide +kernel
theorem dL_law_255 : decode cL_law 255 = .ok (.iadd, 1) := by decide +kernel
theorem dL_law_256 : decode cL_law 256 = .ok (.iaload, 1) := by decide +kernel
theorem dL_law_257 : decode cL_law 257 = .ok (.aload_n 3, 1) := by decide +kernel
set_option maxRecDepth 20000 in
theorem ggL_law_L_narrow : GoodIn wsL_law wsL_narrow := goodIn_ca (goodIn_ca (goodIn_r _ [177, 178, 119, 179, 180, 181, 2, 182, 183, 184, 131, 132, 16, 185, 186, 187, 188, 189, 190, 191, 127, 192, 193, 194, 195, 196, 197, 198, 47, 199, 52, 51, 144, 145, 146, 147, 21, 148, 25, 149, 29, 150, 33, 151, 1019, 1020, 1021, 1022, 1023, 1024, 1025, 1026, 1038, 1039, 1040, 1072, 1073, 1074, 1075, 1041, 1042, 1043, 1044, 1045, 1046, 1047, 1048, 1049, 1050, 1051, 1052, 1053, 1054, 1055, 1056, 1057, 1058, 1059, 1060, 1061, 1062, 1063, 1064, 1065] (by decide +kernel) (by decide +kernel)) (goodIn_sub (fun _ h => List.mem_append_right _ h) (by decide +kernel))) (goodIn_sub (fun _ h => List.mem_append_left _ (List.mem_append_right _ h)) (by decide +kernel))
set_option maxRecDepth 20000 in
theorem gL_law_L_narrow : GoodIn wsL_law (va_wsS RL 93 yL_narrow wsL_narrow) := goodIn_app (goodIn_of _ (by decide +kernel)) ggL_law_L_narrow
theorem dL_law_258 : decode cL_law 258 = .ok (.invokestatic 93, 3) := by decide +kernel
theorem dL_law_261 : decode cL_law 261 = .ok (.istore 5, 2) := by decide +kernel
theorem dL_law_263 : decode cL_law 263 = .ok (.aload_n 2, 1) := by decide +kernel
theorem dL_law_264 : decode cL_law 264 = .ok (.aload_n 0, 1) := by decide +kernel
theorem dL_law_265 : decode cL_law 265 = .ok (.iload 4, 2) := by decide +kernel
theorem dL_law_267 : decode cL_law 267 = .ok (.iconst 1, 1) := by decide +kernel
theorem dL_law_268 : decode cL_law 268 = .ok (.iadd, 1) := by decide +kernel
theorem dL_law_269 : decode cL_law 269 = .ok (.iaload, 1) := by decide +kernel
theorem dL_law_270 : decode cL_law 270 = .ok (.aload_n 0, 1) := by decide +kernel
theorem dL_law_271 : decode cL_law 271 = .ok (.iload 4, 2) := by decide +kernel
theorem dL_law_273 : decode cL_law 273 = .ok (.iconst 2, 1) := by decide +kernel
theorem dL_law_274 : decode cL_law 274 = .ok (.iadd, 1) := by decide +kernel
theorem dL_law_275 : decode cL_law 275 = .ok (.iaload, 1) := by decide +kernel
theorem dL_law_276 : decode cL_law 276 = .ok (.aload_n 0, 1) := by decide +kernel
theorem dL_law_277 : decode cL_law 277 = .ok (.iload 4, 2) := by decide +kernel
theorem dL_law_279 : decode cL_law 279 = .ok (.iconst 3, 1) := by decide +kernel
theorem dL_law_280 : decode cL_law 280 = .ok (.iadd, 1) := by decide +kernel
theorem dL_law_281 : decode cL_law 281 = .ok (.iaload, 1) := by decide +kernel
theorem dL_law_282 : decode cL_law 282 = .ok (.aload_n 0, 1) := by decide +kernel
theorem dL_law_283 : decode cL_law 283 = .ok (.iload 4, 2) := by decide +kernel
theorem dL_law_285 : decode cL_law 285 = .ok (.iconst 4, 1) := by decide +kernel
theorem dL_law_286 : decode cL_law 286 = .ok (.iadd, 1) := by decide +kernel
theorem dL_law_287 : decode cL_law 287 = .ok (.iaload, 1) := by decide +kernel
set_option maxRecDepth 20000 in
theorem ggL_law_X9_narrow : GoodIn wsL_law wsX9_narrow := goodIn_r _ [203, 156, 99, 160, 159, 204, 205, 206, 5, 207, 157, 161, 162, 163, 164, 165, 166, 167, 168, 169, 170, 1027, 1028, 1029, 1030, 1031, 1032, 1033, 1034, 1035, 1036, 1037, 1076, 1077, 1078, 1079, 1080, 1081] (by decide +kernel) (by decide +kernel)
set_option maxRecDepth 20000 in
theorem gL_law_X9_narrow : GoodIn wsL_law (wsV RL 96 RX9 yX9_narrow wsX9_narrow) := goodIn_app (goodIn_of _ (by decide +kernel)) ggL_law_X9_narrow
theorem dL_law_288 : decode cL_law 288 = .ok (.invokevirtual 96, 3) := by decide +kernel
theorem dL_law_291 : decode cL_law 291 = .ok (.istore 6, 2) := by decide +kernel
theorem dL_law_293 : decode cL_law 293 = .ok (.aload_n 2, 1) := by decide +kernel
theorem dL_law_294 : decode cL_law 294 = .ok (.invokevirtual 89, 3) := by decide +kernel
theorem dL_law_297 : decode cL_law 297 = .ok (.iload 5, 2) := by decide +kernel
theorem dL_law_299 : decode cL_law 299 = .ok (.if_icmp .eq 5, 3) := by decide +kernel
theorem dL_law_304 : decode cL_law 304 = .ok (.iload 5, 2) := by decide +kernel
theorem dL_law_306 : decode cL_law 306 = .ok (.ifCond .ne 15, 3) := by decide +kernel
theorem dL_law_321 : decode cL_law 321 = .ok (.goto 1427, 3) := by decide +kernel
theorem dL_law_324 : decode cL_law 324 = .ok (.aload_n 1, 1) := by decide +kernel
theorem dL_law_325 : decode cL_law 325 = .ok (.aload_n 0, 1) := by decide +kernel
theorem dL_law_326 : decode cL_law 326 = .ok (.iload 4, 2) := by decide +kernel
theorem dL_law_328 : decode cL_law 328 = .ok (.iconst 1, 1) := by decide +kernel
theorem dL_law_329 : decode cL_law 329 = .ok (.iadd, 1) := by decide +kernel
theorem dL_law_330 : decode cL_law 330 = .ok (.iaload, 1) := by decide +kernel
theorem dL_law_331 : decode cL_law 331 = .ok (.aload_n 0, 1) := by decide +kernel
theorem dL_law_332 : decode cL_law 332 = .ok (.iload 4, 2) := by decide +kernel
theorem dL_law_334 : decode cL_law 334 = .ok (.iconst 2, 1) := by decide +kernel
theorem dL_law_335 : decode cL_law 335 = .ok (.iadd, 1) := by decide +kernel
theorem dL_law_336 : decode cL_law 336 = .ok (.iaload, 1) := by decide +kernel
theorem dL_law_337 : decode cL_law 337 = .ok (.aload_n 3, 1) := by decide +kernel
set_option maxRecDepth 20000 in
theorem ggL_law_L_turn : GoodIn wsL_law wsL_turn := goodIn_ca (goodIn_ca (goodIn_r _ [210, 178, 119, 211, 212, 213, 2, 214, 16, 185, 215, 188, 189, 190, 191, 183, 184, 127, 128, 129, 130, 131, 132, 144, 145, 146, 147, 21, 148, 25, 149, 29, 150, 33, 151, 1019, 1020, 1021, 1022, 1023, 1024, 1025, 1026, 1038, 1039, 1040, 1072, 1073, 1074, 1075, 1041, 1042, 1043, 1044, 1045, 1046, 1047, 1048, 1049, 1050, 1051, 1052, 1053, 1054, 1055, 1056, 1057, 1058, 1059, 1060, 1061, 1062, 1063, 1064, 1065] (by decide +kernel) (by decide +kernel)) (goodIn_sub (fun _ h => List.mem_append_right _ h) (by decide +kernel))) (goodIn_sub (fun _ h => List.mem_append_left _ (List.mem_append_right _ h)) (by decide +kernel))
set_option maxRecDepth 20000 in
theorem gL_law_L_turn : GoodIn wsL_law (va_wsS RL 97 yL_turn wsL_turn) := goodIn_app (goodIn_of _ (by decide +kernel)) ggL_law_L_turn
theorem dL_law_338 : decode cL_law 338 = .ok (.invokestatic 97, 3) := by decide +kernel
theorem dL_law_341 : decode cL_law 341 = .ok (.istore 5, 2) := by decide +kernel
theorem dL_law_343 : decode cL_law 343 = .ok (.aload_n 2, 1) := by decide +kernel
theorem dL_law_344 : decode cL_law 344 = .ok (.aload_n 0, 1) := by decide +kernel
theorem dL_law_345 : decode cL_law 345 = .ok (.iload 4, 2) := by decide +kernel
theorem dL_law_347 : decode cL_law 347 = .ok (.iconst 1, 1) := by decide +kernel
theorem dL_law_348 : decode cL_law 348 = .ok (.iadd, 1) := by decide +kernel
theorem dL_law_349 : decode cL_law 349 = .ok (.iaload, 1) := by decide +kernel
theorem dL_law_350 : decode cL_law 350 = .ok (.aload_n 0, 1) := by decide +kernel
theorem dL_law_351 : decode cL_law 351 = .ok (.iload 4, 2) := by decide +kernel
theorem dL_law_353 : decode cL_law 353 = .ok (.iconst 2, 1) := by decide +kernel
theorem dL_law_354 : decode cL_law 354 = .ok (.iadd, 1) := by decide +kernel
theorem dL_law_355 : decode cL_law 355 = .ok (.iaload, 1) := by decide +kernel
set_option maxRecDepth 20000 in
theorem ggL_law_X9_turn : GoodIn wsL_law wsX9_turn := goodIn_r _ [219, 156, 99, 158, 204, 205, 206, 5, 207, 157, 161, 162, 163, 164, 165, 166, 167, 1027, 1028, 1029, 1030, 1031, 1032, 1033, 1034, 1035, 1036, 1037, 1076, 1077, 1078, 1079, 1080, 1081] (by decide +kernel) (by decide +kernel)
set_option maxRecDepth 20000 in
theorem gL_law_X9_turn : GoodIn wsL_law (wsV RL 100 RX9 yX9_turn wsX9_turn) := goodIn_app (goodIn_of _ (by decide +kernel)) ggL_law_X9_turn
theorem dL_law_356 : decode cL_law 356 = .ok (.invokevirtual 100, 3) := by decide +kernel
theorem dL_law_359 : decode cL_law 359 = .ok (.istore 6, 2) := by decide +kernel
theorem dL_law_361 : decode cL_law 361 = .ok (.aload_n 2, 1) := by decide +kernel
theorem dL_law_362 : decode cL_law 362 = .ok (.invokevirtual 89, 3) := by decide +kernel
theorem dL_law_365 : decode cL_law 365 = .ok (.iload 5, 2) := by decide +kernel
theorem dL_law_367 : decode cL_law 367 = .ok (.if_icmp .eq 5, 3) := by decide +kernel
theorem dL_law_372 : decode cL_law 372 = .ok (.iload 5, 2) := by decide +kernel
theorem dL_law_374 : decode cL_law 374 = .ok (.ifCond .ne 15, 3) := by decide +kernel
theorem dL_law_389 : decode cL_law 389 = .ok (.goto 1359, 3) := by decide +kernel
theorem dL_law_392 : decode cL_law 392 = .ok (.aload_n 1, 1) := by decide +kernel
theorem dL_law_393 : decode cL_law 393 = .ok (.aload_n 0, 1) := by decide +kernel
theorem dL_law_394 : decode cL_law 394 = .ok (.iload 4, 2) := by decide +kernel
theorem dL_law_396 : decode cL_law 396 = .ok (.iconst 1, 1) := by decide +kernel
theorem dL_law_397 : decode cL_law 397 = .ok (.iadd, 1) := by decide +kernel
theorem dL_law_398 : decode cL_law 398 = .ok (.iaload, 1) := by decide +kernel
theorem dL_law_399 : decode cL_law 399 = .ok (.aload_n 0, 1) := by decide +kernel
theorem dL_law_400 : decode cL_law 400 = .ok (.iload 4, 2) := by decide +kernel
theorem dL_law_402 : decode cL_law 402 = .ok (.iconst 2, 1) := by decide +kernel
theorem dL_law_403 : decode cL_law 403 = .ok (.iadd, 1) := by decide +kernel
theorem dL_law_404 : decode cL_law 404 = .ok (.iaload, 1) := by decide +kernel
theorem dL_law_405 : decode cL_law 405 = .ok (.aload_n 3, 1) := by decide +kernel
set_option maxRecDepth 20000 in
theorem ggL_law_L_move : GoodIn wsL_law wsL_move := goodIn_ca (goodIn_r _ [222, 178, 223, 224, 225, 2, 226, 16, 227, 228, 229, 230, 188, 189, 190, 191, 183, 184, 127, 231, 232, 233, 15, 234, 45, 144, 145, 146, 147, 21, 148, 25, 149, 29, 150, 33, 151, 1019, 1020, 1021, 1022, 1023, 1024, 1025, 1026, 1038, 1039, 1040, 1041, 1042, 1043, 1044, 1045, 1046, 1047, 1048, 1049, 1050, 1051, 1052, 1053, 1054, 1055, 1056, 1057, 1058, 1059, 1060, 1061, 1062, 1063, 1064, 1065] (by decide +kernel) (by decide +kernel)) (goodIn_sub (fun _ h => List.mem_append_right _ h) (by decide +kernel))
set_option maxRecDepth 20000 in
theorem gL_law_L_move : GoodIn wsL_law (va_wsS RL 101 yL_move wsL_move) := goodIn_app (goodIn_of _ (by decide +kernel)) ggL_law_L_move
theorem dL_law_406 : decode cL_law 406 = .ok (.invokestatic 101, 3) := by decide +kernel
theorem dL_law_409 : decode cL_law 409 = .ok (.istore 5, 2) := by decide +kernel
theorem dL_law_411 : decode cL_law 411 = .ok (.aload_n 2, 1) := by decide +kernel
theorem dL_law_412 : decode cL_law 412 = .ok (.aload_n 0, 1) := by decide +kernel
theorem dL_law_413 : decode cL_law 413 = .ok (.iload 4, 2) := by decide +kernel
theorem dL_law_415 : decode cL_law 415 = .ok (.iconst 1, 1) := by decide +kernel
theorem dL_law_416 : decode cL_law 416 = .ok (.iadd, 1) := by decide +kernel
theorem dL_law_417 : decode cL_law 417 = .ok (.iaload, 1) := by decide +kernel
theorem dL_law_418 : decode cL_law 418 = .ok (.aload_n 0, 1) := by decide +kernel
theorem dL_law_419 : decode cL_law 419 = .ok (.iload 4, 2) := by decide +kernel
theorem dL_law_421 : decode cL_law 421 = .ok (.iconst 2, 1) := by decide +kernel
theorem dL_law_422 : decode cL_law 422 = .ok (.iadd, 1) := by decide +kernel
theorem dL_law_423 : decode cL_law 423 = .ok (.iaload, 1) := by decide +kernel
set_option maxRecDepth 20000 in
theorem ggL_law_X9_move : GoodIn wsL_law wsX9_move := goodIn_r _ [238, 156, 99, 38, 101, 239, 240, 241, 242, 157, 243, 228, 229, 230, 204, 205, 206, 5, 207, 161, 162, 163, 164, 165, 166, 167, 244, 245, 246, 247, 248, 249, 98, 250, 251, 97, 252, 253, 254, 108, 109, 110, 11, 12, 111, 112, 113, 114, 255, 256, 257, 258, 259, 260, 261, 262, 263, 1027, 1028, 1029, 1030, 1031, 1032, 1033, 1034, 1035, 1036, 1037, 1076, 1077, 1078, 1079, 1080, 1081] (by decide +kernel) (by decide +kernel)
set_option maxRecDepth 20000 in
theorem gL_law_X9_move : GoodIn wsL_law (wsV RL 103 RX9 yX9_move wsX9_move) := goodIn_app (goodIn_of _ (by decide +kernel)) ggL_law_X9_move
theorem dL_law_424 : decode cL_law 424 = .ok (.invokevirtual 103, 3) := by decide +kernel
theorem dL_law_427 : decode cL_law 427 = .ok (.istore 6, 2) := by decide +kernel
theorem dL_law_429 : decode cL_law 429 = .ok (.aload_n 2, 1) := by decide +kernel
theorem dL_law_430 : decode cL_law 430 = .ok (.invokevirtual 89, 3) := by decide +kernel
theorem dL_law_433 : decode cL_law 433 = .ok (.iload 5, 2) := by decide +kernel
theorem dL_law_435 : decode cL_law 435 = .ok (.if_icmp .eq 5, 3) := by decide +kernel
theorem dL_law_440 : decode cL_law 440 = .ok (.iload 5, 2) := by decide +kernel
theorem dL_law_442 : decode cL_law 442 = .ok (.ifCond .ne 15, 3) := by decide +kernel
theorem dL_law_457 : decode cL_law 457 = .ok (.goto 1291, 3) := by decide +kernel
theorem dL_law_460 : decode cL_law 460 = .ok (.aload_n 1, 1) := by decide +kernel
theorem dL_law_461 : decode cL_law 461 = .ok (.aload_n 0, 1) := by decide +kernel
theorem dL_law_462 : decode cL_law 462 = .ok (.iload 4, 2) := by decide +kernel
theorem dL_law_464 : decode cL_law 464 = .ok (.iconst 1, 1) := by decide +kernel
theorem dL_law_465 : decode cL_law 465 = .ok (.iadd, 1) := by decide +kernel
theorem dL_law_466 : decode cL_law 466 = .ok (.iaload, 1) := by decide +kernel
theorem dL_law_467 : decode cL_law 467 = .ok (.aload_n 3, 1) := by decide +kernel
set_option maxRecDepth 20000 in
theorem ggL_law_L_drop : GoodIn wsL_law wsL_drop := goodIn_ca (goodIn_r _ [266, 178, 267, 268, 269, 2, 270, 16, 127, 188, 189, 190, 191, 183, 184, 271, 272, 273, 15, 274, 137, 275, 232, 233, 234, 45, 144, 145, 146, 147, 21, 148, 25, 149, 29, 150, 33, 151, 1019, 1020, 1021, 1022, 1023, 1024, 1025, 1026, 1038, 1039, 1040, 1041, 1042, 1043, 1044, 1045, 1046, 1047, 1048, 1049, 1050, 1051, 1052, 1053, 1054, 1055, 1056, 1057, 1058, 1059, 1060, 1061, 1062, 1063, 1064, 1065] (by decide +kernel) (by decide +kernel)) (goodIn_sub (fun _ h => List.mem_append_right _ h) (by decide +kernel))
set_option maxRecDepth 20000 in
theorem gL_law_L_drop : GoodIn wsL_law (va_wsS RL 104 yL_drop wsL_drop) := goodIn_app (goodIn_of _ (by decide +kernel)) ggL_law_L_drop
theorem dL_law_468 : decode cL_law 468 = .ok (.invokestatic 104, 3) := by decide +kernel
theorem dL_law_471 : decode cL_law 471 = .ok (.istore 5, 2) := by decide +kernel
theorem dL_law_473 : decode cL_law 473 = .ok (.aload_n 2, 1) := by decide +kernel
theorem dL_law_474 : decode cL_law 474 = .ok (.aload_n 0, 1) := by decide +kernel
theorem dL_law_475 : decode cL_law 475 = .ok (.iload 4, 2) := by decide +kernel
theorem dL_law_477 : decode cL_law 477 = .ok (.iconst 1, 1) := by decide +kernel
theorem dL_law_478 : decode cL_law 478 = .ok (.iadd, 1) := by decide +kernel
theorem dL_law_479 : decode cL_law 479 = .ok (.iaload, 1) := by decide +kernel
set_option maxRecDepth 20000 in
theorem ggL_law_X9_drop : GoodIn wsL_law wsX9_drop := goodIn_r _ [279, 156, 99, 157, 204, 205, 206, 5, 207, 161, 162, 163, 164, 165, 166, 167, 280, 281, 282, 283, 284, 236, 237, 238, 38, 101, 239, 240, 241, 242, 243, 228, 229, 230, 244, 245, 246, 247, 248, 249, 98, 250, 251, 97, 252, 253, 254, 108, 109, 110, 11, 12, 111, 112, 113, 114, 255, 256, 257, 258, 259, 260, 261, 262, 263, 1027, 1028, 1029, 1030, 1031, 1032, 1033, 1034, 1035, 1036, 1037, 1076, 1077, 1078, 1079, 1080, 1081] (by decide +kernel) (by decide +kernel)
set_option maxRecDepth 20000 in
theorem gL_law_X9_drop : GoodIn wsL_law (wsV RL 106 RX9 yX9_drop wsX9_drop) := goodIn_app (goodIn_of _ (by decide +kernel)) ggL_law_X9_drop
theorem dL_law_480 : decode cL_law 480 = .ok (.invokevirtual 106, 3) := by decide +kernel
theorem dL_law_483 : decode cL_law 483 = .ok (.istore 6, 2) := by decide +kernel
theorem dL_law_485 : decode cL_law 485 = .ok (.aload_n 2, 1) := by decide +kernel
theorem dL_law_486 : decode cL_law 486 = .ok (.invokevirtual 89, 3) := by decide +kernel
theorem dL_law_489 : decode cL_law 489 = .ok (.iload 5, 2) := by decide +kernel
theorem dL_law_491 : decode cL_law 491 = .ok (.if_icmp .eq 5, 3) := by decide +kernel
theorem dL_law_496 : decode cL_law 496 = .ok (.iload 5, 2) := by decide +kernel
theorem dL_law_498 : decode cL_law 498 = .ok (.ifCond .ne 15, 3) := by decide +kernel
theorem dL_law_513 : decode cL_law 513 = .ok (.goto 1235, 3) := by decide +kernel
theorem dL_law_583 : decode cL_law 583 = .ok (.aload_n 1, 1) := by decide +kernel
theorem dL_law_584 : decode cL_law 584 = .ok (.aload_n 0, 1) := by decide +kernel
theorem dL_law_585 : decode cL_law 585 = .ok (.iload 4, 2) := by decide +kernel
theorem dL_law_587 : decode cL_law 587 = .ok (.iconst 1, 1) := by decide +kernel
theorem dL_law_588 : decode cL_law 588 = .ok (.iadd, 1) := by decide +kernel
theorem dL_law_589 : decode cL_law 589 = .ok (.iaload, 1) := by decide +kernel
theorem dL_law_590 : decode cL_law 590 = .ok (.aload_n 0, 1) := by decide +kernel
theorem dL_law_591 : decode cL_law 591 = .ok (.iload 4, 2) := by decide +kernel
theorem dL_law_593 : decode cL_law 593 = .ok (.iconst 2, 1) := by decide +kernel
theorem dL_law_594 : decode cL_law 594 = .ok (.iadd, 1) := by decide +kernel
theorem dL_law_595 : decode cL_law 595 = .ok (.iaload, 1) := by decide +kernel
theorem dL_law_596 : decode cL_law 596 = .ok (.aload_n 3, 1) := by decide +kernel
set_option maxRecDepth 20000 in
theorem ggL_law_L_ofRule : GoodIn wsL_law wsL_ofRule := goodIn_ca (goodIn_ca (goodIn_r _ [457, 178, 119, 458, 459, 460, 2, 461, 16, 185, 215, 462, 186, 187, 188, 189, 190, 191, 183, 184, 127, 463, 464, 465, 131, 132, 1019, 1020, 1021, 1022, 1023, 1024, 1025, 1026, 1038, 1039, 1040, 1072, 1073, 1074, 1075] (by decide +kernel) (by decide +kernel)) (goodIn_sub (fun _ h => List.mem_append_right _ h) (by decide +kernel))) (goodIn_sub (fun _ h => List.mem_append_left _ (List.mem_append_right _ h)) (by decide +kernel))
set_option maxRecDepth 20000 in
theorem gL_law_L_ofRule : GoodIn wsL_law (va_wsS RL 120 yL_ofRule wsL_ofRule) := goodIn_app (goodIn_of _ (by decide +kernel)) ggL_law_L_ofRule
theorem dL_law_597 : decode cL_law 597 = .ok (.invokestatic 120, 3) := by decide +kernel
theorem dL_law_600 : decode cL_law 600 = .ok (.istore 5, 2) := by decide +kernel
theorem dL_law_602 : decode cL_law 602 = .ok (.aload_n 2, 1) := by decide +kernel
theorem dL_law_603 : decode cL_law 603 = .ok (.aload_n 0, 1) := by decide +kernel
theorem dL_law_604 : decode cL_law 604 = .ok (.iload 4, 2) := by decide +kernel
theorem dL_law_606 : decode cL_law 606 = .ok (.iconst 1, 1) := by decide +kernel
theorem dL_law_607 : decode cL_law 607 = .ok (.iadd, 1) := by decide +kernel
theorem dL_law_608 : decode cL_law 608 = .ok (.iaload, 1) := by decide +kernel
theorem dL_law_609 : decode cL_law 609 = .ok (.aload_n 0, 1) := by decide +kernel
theorem dL_law_610 : decode cL_law 610 = .ok (.iload 4, 2) := by decide +kernel
theorem dL_law_612 : decode cL_law 612 = .ok (.iconst 2, 1) := by decide +kernel
theorem dL_law_613 : decode cL_law 613 = .ok (.iadd, 1) := by decide +kernel
theorem dL_law_614 : decode cL_law 614 = .ok (.iaload, 1) := by decide +kernel
set_option maxRecDepth 20000 in
theorem ggL_law_X9_ofRule : GoodIn wsL_law wsX9_ofRule := goodIn_r _ [469, 156, 204, 205, 206, 5, 207, 99, 157, 161, 162, 163, 164, 165, 166, 167, 470, 471, 472, 473, 158, 101, 159, 160, 1027, 1028, 1029, 1030, 1031, 1032, 1033, 1034, 1035, 1036, 1037, 1076, 1077, 1078, 1079, 1080, 1081] (by decide +kernel) (by decide +kernel)
set_option maxRecDepth 20000 in
theorem gL_law_X9_ofRule : GoodIn wsL_law (wsV RL 122 RX9 yX9_ofRule wsX9_ofRule) := goodIn_app (goodIn_of _ (by decide +kernel)) ggL_law_X9_ofRule
theorem dL_law_615 : decode cL_law 615 = .ok (.invokevirtual 122, 3) := by decide +kernel
theorem dL_law_618 : decode cL_law 618 = .ok (.istore 6, 2) := by decide +kernel
theorem dL_law_620 : decode cL_law 620 = .ok (.aload_n 2, 1) := by decide +kernel
theorem dL_law_621 : decode cL_law 621 = .ok (.invokevirtual 89, 3) := by decide +kernel
theorem dL_law_624 : decode cL_law 624 = .ok (.iload 5, 2) := by decide +kernel
theorem dL_law_626 : decode cL_law 626 = .ok (.if_icmp .eq 5, 3) := by decide +kernel
theorem dL_law_631 : decode cL_law 631 = .ok (.iload 5, 2) := by decide +kernel
theorem dL_law_633 : decode cL_law 633 = .ok (.ifCond .ne 15, 3) := by decide +kernel
theorem dL_law_648 : decode cL_law 648 = .ok (.goto 1100, 3) := by decide +kernel
theorem dL_law_651 : decode cL_law 651 = .ok (.aload_n 1, 1) := by decide +kernel
theorem dL_law_652 : decode cL_law 652 = .ok (.aload_n 0, 1) := by decide +kernel
theorem dL_law_653 : decode cL_law 653 = .ok (.iload 4, 2) := by decide +kernel
theorem dL_law_655 : decode cL_law 655 = .ok (.iconst 1, 1) := by decide +kernel
theorem dL_law_656 : decode cL_law 656 = .ok (.iadd, 1) := by decide +kernel
theorem dL_law_657 : decode cL_law 657 = .ok (.iaload, 1) := by decide +kernel
theorem dL_law_658 : decode cL_law 658 = .ok (.aload_n 3, 1) := by decide +kernel
set_option maxRecDepth 20000 in
theorem ggL_law_L_decides : GoodIn wsL_law wsL_decides := goodIn_ca (goodIn_r _ [476, 178, 477, 478, 479, 2, 480, 188, 189, 190, 191, 183, 184, 16, 127, 303, 304, 305, 306, 21, 307, 308, 309, 20, 310, 311, 57, 58, 59, 312, 313, 314, 315, 60, 316, 317, 318, 319, 320, 321, 322, 323, 324, 229, 325, 326, 327, 328, 329, 330, 331, 332, 15, 333, 137, 334, 335, 336, 337, 481, 343, 344, 345, 346, 347, 348, 349, 45, 350, 351, 352, 47, 353, 142, 1019, 1020, 1021, 1022, 1023, 1024, 1025, 1026, 1038, 1039, 1040, 1041, 1042, 1043, 1044, 1045, 1072, 1073, 1074, 1075] (by decide +kernel) (by decide +kernel)) (goodIn_sub (fun _ h => List.mem_append_right _ h) (by decide +kernel))
set_option maxRecDepth 20000 in
theorem gL_law_L_decides : GoodIn wsL_law (va_wsS RL 123 yL_decides wsL_decides) := goodIn_app (goodIn_of _ (by decide +kernel)) ggL_law_L_decides
theorem dL_law_659 : decode cL_law 659 = .ok (.invokestatic 123, 3) := by decide +kernel
theorem dL_law_662 : decode cL_law 662 = .ok (.istore 5, 2) := by decide +kernel
theorem dL_law_664 : decode cL_law 664 = .ok (.aload_n 2, 1) := by decide +kernel
theorem dL_law_665 : decode cL_law 665 = .ok (.aload_n 0, 1) := by decide +kernel
theorem dL_law_666 : decode cL_law 666 = .ok (.iload 4, 2) := by decide +kernel
theorem dL_law_668 : decode cL_law 668 = .ok (.iconst 1, 1) := by decide +kernel
theorem dL_law_669 : decode cL_law 669 = .ok (.iadd, 1) := by decide +kernel
theorem dL_law_670 : decode cL_law 670 = .ok (.iaload, 1) := by decide +kernel
set_option maxRecDepth 20000 in
theorem ggL_law_X9_decides : GoodIn wsL_law wsX9_decides := goodIn_r _ [485, 156, 99, 204, 205, 206, 5, 207, 157, 161, 162, 163, 374, 375, 376, 98, 377, 378, 379, 380, 381, 38, 114, 382, 383, 384, 385, 111, 386, 387, 388, 389, 390, 391, 392, 393, 112, 113, 394, 395, 396, 169, 170, 397, 398, 399, 400, 401, 402, 403, 404, 405, 406, 407, 252, 408, 328, 229, 329, 409, 410, 411, 412, 164, 165, 166, 167, 1027, 1028, 1029, 1030, 1031, 1032, 1033, 1034, 1035, 1036, 1037, 1076, 1077, 1078, 1079, 1080, 1081] (by decide +kernel) (by decide +kernel)
set_option maxRecDepth 20000 in
theorem gL_law_X9_decides : GoodIn wsL_law (wsV RL 125 RX9 yX9_decides wsX9_decides) := goodIn_app (goodIn_of _ (by decide +kernel)) ggL_law_X9_decides
theorem dL_law_671 : decode cL_law 671 = .ok (.invokevirtual 125, 3) := by decide +kernel
theorem dL_law_674 : decode cL_law 674 = .ok (.istore 6, 2) := by decide +kernel
theorem dL_law_676 : decode cL_law 676 = .ok (.aload_n 2, 1) := by decide +kernel
theorem dL_law_677 : decode cL_law 677 = .ok (.invokevirtual 89, 3) := by decide +kernel
theorem dL_law_680 : decode cL_law 680 = .ok (.iload 5, 2) := by decide +kernel
theorem dL_law_682 : decode cL_law 682 = .ok (.if_icmp .eq 5, 3) := by decide +kernel
theorem dL_law_687 : decode cL_law 687 = .ok (.iload 5, 2) := by decide +kernel
theorem dL_law_689 : decode cL_law 689 = .ok (.ifCond .ne 15, 3) := by decide +kernel
theorem dL_law_704 : decode cL_law 704 = .ok (.goto 1044, 3) := by decide +kernel
theorem dL_law_720 : decode cL_law 720 = .ok (.aload_n 1, 1) := by decide +kernel
theorem dL_law_721 : decode cL_law 721 = .ok (.aload_n 0, 1) := by decide +kernel
theorem dL_law_722 : decode cL_law 722 = .ok (.iload 4, 2) := by decide +kernel
theorem dL_law_724 : decode cL_law 724 = .ok (.iconst 1, 1) := by decide +kernel
theorem dL_law_725 : decode cL_law 725 = .ok (.iadd, 1) := by decide +kernel
theorem dL_law_726 : decode cL_law 726 = .ok (.iaload, 1) := by decide +kernel
theorem dL_law_727 : decode cL_law 727 = .ok (.aload_n 3, 1) := by decide +kernel
set_option maxRecDepth 20000 in
theorem ggL_law_L_state : GoodIn wsL_law wsL_state := goodIn_ca (goodIn_r _ [504, 178, 505, 506, 507, 2, 508, 16, 185, 215, 188, 189, 190, 191, 183, 184, 127, 303, 304, 305, 306, 21, 307, 308, 309, 20, 310, 311, 57, 58, 59, 312, 313, 314, 315, 60, 316, 317, 318, 319, 320, 321, 322, 323, 324, 229, 325, 326, 327, 328, 329, 330, 331, 332, 15, 333, 137, 334, 335, 336, 337, 338, 339, 340, 341, 342, 343, 344, 345, 346, 347, 348, 349, 45, 350, 351, 352, 47, 353, 142, 354, 355, 356, 357, 358, 359, 360, 361, 362, 363, 364, 365, 509, 510, 511, 512, 513, 514, 515, 516, 51, 52, 1019, 1020, 1021, 1022, 1023, 1024, 1025, 1026, 1038, 1039, 1040, 1072, 1073, 1074, 1075, 1041, 1042, 1043, 1044, 1045] (by decide +kernel) (by decide +kernel)) (goodIn_sub (fun _ h => List.mem_append_right _ h) (by decide +kernel))
set_option maxRecDepth 20000 in
theorem gL_law_L_state : GoodIn wsL_law (va_wsS RL 130 yL_state wsL_state) := goodIn_app (goodIn_of _ (by decide +kernel)) ggL_law_L_state
theorem dL_law_728 : decode cL_law 728 = .ok (.invokestatic 130, 3) := by decide +kernel
theorem dL_law_731 : decode cL_law 731 = .ok (.istore 5, 2) := by decide +kernel
theorem dL_law_733 : decode cL_law 733 = .ok (.aload_n 2, 1) := by decide +kernel
theorem dL_law_734 : decode cL_law 734 = .ok (.aload_n 0, 1) := by decide +kernel
theorem dL_law_735 : decode cL_law 735 = .ok (.iload 4, 2) := by decide +kernel
theorem dL_law_737 : decode cL_law 737 = .ok (.iconst 1, 1) := by decide +kernel
theorem dL_law_738 : decode cL_law 738 = .ok (.iadd, 1) := by decide +kernel
theorem dL_law_739 : decode cL_law 739 = .ok (.iaload, 1) := by decide +kernel
set_option maxRecDepth 20000 in
theorem ggL_law_X9_state : GoodIn wsL_law wsX9_state := goodIn_r _ [520, 156, 204, 205, 206, 5, 207, 99, 157, 161, 162, 163, 370, 371, 372, 373, 158, 374, 375, 376, 98, 377, 378, 379, 380, 381, 38, 114, 382, 383, 384, 385, 111, 386, 387, 388, 389, 390, 391, 392, 393, 112, 113, 394, 395, 396, 169, 170, 397, 398, 399, 400, 401, 402, 403, 404, 405, 406, 407, 252, 408, 328, 229, 329, 409, 410, 411, 412, 413, 414, 415, 416, 159, 160, 417, 418, 419, 420, 247, 248, 249, 250, 251, 97, 253, 254, 108, 109, 110, 11, 12, 255, 256, 257, 258, 259, 240, 241, 242, 421, 422, 423, 424, 425, 426, 427, 428, 429, 430, 431, 432, 433, 434, 435, 436, 437, 438, 439, 440, 168, 441, 442, 164, 165, 166, 167, 1027, 1028, 1029, 1030, 1031, 1032, 1033, 1034, 1035, 1036, 1037, 1076, 1077, 1078, 1079, 1080, 1081] (by decide +kernel) (by decide +kernel)
set_option maxRecDepth 20000 in
theorem gL_law_X9_state : GoodIn wsL_law (wsV RL 132 RX9 yX9_state wsX9_state) := goodIn_app (goodIn_of _ (by decide +kernel)) ggL_law_X9_state
theorem dL_law_740 : decode cL_law 740 = .ok (.invokevirtual 132, 3) := by decide +kernel
theorem dL_law_743 : decode cL_law 743 = .ok (.istore 6, 2) := by decide +kernel
theorem dL_law_745 : decode cL_law 745 = .ok (.aload_n 2, 1) := by decide +kernel
theorem dL_law_746 : decode cL_law 746 = .ok (.invokevirtual 89, 3) := by decide +kernel
theorem dL_law_749 : decode cL_law 749 = .ok (.iload 5, 2) := by decide +kernel
theorem dL_law_751 : decode cL_law 751 = .ok (.if_icmp .eq 5, 3) := by decide +kernel
theorem dL_law_756 : decode cL_law 756 = .ok (.iload 5, 2) := by decide +kernel
theorem dL_law_758 : decode cL_law 758 = .ok (.ifCond .ne 15, 3) := by decide +kernel
theorem dL_law_773 : decode cL_law 773 = .ok (.goto 975, 3) := by decide +kernel
theorem dL_law_776 : decode cL_law 776 = .ok (.aload_n 1, 1) := by decide +kernel
theorem dL_law_777 : decode cL_law 777 = .ok (.aload_n 0, 1) := by decide +kernel
theorem dL_law_778 : decode cL_law 778 = .ok (.iload 4, 2) := by decide +kernel
theorem dL_law_780 : decode cL_law 780 = .ok (.iconst 1, 1) := by decide +kernel
theorem dL_law_781 : decode cL_law 781 = .ok (.iadd, 1) := by decide +kernel
theorem dL_law_782 : decode cL_law 782 = .ok (.iaload, 1) := by decide +kernel
theorem dL_law_783 : decode cL_law 783 = .ok (.aload_n 3, 1) := by decide +kernel
set_option maxRecDepth 20000 in
theorem ggL_law_L_coveredBy : GoodIn wsL_law wsL_coveredBy := goodIn_ca (goodIn_r _ [523, 178, 524, 525, 526, 2, 527, 16, 188, 189, 190, 191, 183, 184, 127, 509, 510, 511, 15, 512, 45, 350, 351, 352, 47, 353, 142, 513, 514, 515, 516, 51, 52, 1019, 1020, 1021, 1022, 1023, 1024, 1025, 1026, 1038, 1039, 1040, 1072, 1073, 1074, 1075] (by decide +kernel) (by decide +kernel)) (goodIn_sub (fun _ h => List.mem_append_right _ h) (by decide +kernel))
set_option maxRecDepth 20000 in
theorem gL_law_L_coveredBy : GoodIn wsL_law (va_wsS RL 133 yL_coveredBy wsL_coveredBy) := goodIn_app (goodIn_of _ (by decide +kernel)) ggL_law_L_coveredBy
theorem dL_law_784 : decode cL_law 784 = .ok (.invokestatic 133, 3) := by decide +kernel
theorem dL_law_787 : decode cL_law 787 = .ok (.istore 5, 2) := by decide +kernel
theorem dL_law_789 : decode cL_law 789 = .ok (.aload_n 2, 1) := by decide +kernel
theorem dL_law_790 : decode cL_law 790 = .ok (.aload_n 0, 1) := by decide +kernel
theorem dL_law_791 : decode cL_law 791 = .ok (.iload 4, 2) := by decide +kernel
theorem dL_law_793 : decode cL_law 793 = .ok (.iconst 1, 1) := by decide +kernel
theorem dL_law_794 : decode cL_law 794 = .ok (.iadd, 1) := by decide +kernel
theorem dL_law_795 : decode cL_law 795 = .ok (.iaload, 1) := by decide +kernel
set_option maxRecDepth 20000 in
theorem ggL_law_X9_coveredBy : GoodIn wsL_law wsX9_coveredBy := goodIn_r _ [531, 156, 204, 205, 206, 5, 207, 99, 157, 161, 162, 163, 413, 414, 415, 416, 158, 159, 160, 164, 165, 166, 167, 1027, 1028, 1029, 1030, 1031, 1032, 1033, 1034, 1035, 1036, 1037, 1076, 1077, 1078, 1079, 1080, 1081] (by decide +kernel) (by decide +kernel)
set_option maxRecDepth 20000 in
theorem gL_law_X9_coveredBy : GoodIn wsL_law (wsV RL 135 RX9 yX9_coveredBy wsX9_coveredBy) := goodIn_app (goodIn_of _ (by decide +kernel)) ggL_law_X9_coveredBy
theorem dL_law_796 : decode cL_law 796 = .ok (.invokevirtual 135, 3) := by decide +kernel
theorem dL_law_799 : decode cL_law 799 = .ok (.istore 6, 2) := by decide +kernel
theorem dL_law_801 : decode cL_law 801 = .ok (.aload_n 2, 1) := by decide +kernel
theorem dL_law_802 : decode cL_law 802 = .ok (.invokevirtual 89, 3) := by decide +kernel
theorem dL_law_805 : decode cL_law 805 = .ok (.iload 5, 2) := by decide +kernel
theorem dL_law_807 : decode cL_law 807 = .ok (.if_icmp .eq 5, 3) := by decide +kernel
theorem dL_law_812 : decode cL_law 812 = .ok (.iload 5, 2) := by decide +kernel
theorem dL_law_814 : decode cL_law 814 = .ok (.ifCond .ne 15, 3) := by decide +kernel
theorem dL_law_829 : decode cL_law 829 = .ok (.goto 919, 3) := by decide +kernel
theorem dL_law_832 : decode cL_law 832 = .ok (.aload_n 1, 1) := by decide +kernel
theorem dL_law_833 : decode cL_law 833 = .ok (.aload_n 0, 1) := by decide +kernel
theorem dL_law_834 : decode cL_law 834 = .ok (.iload 4, 2) := by decide +kernel
theorem dL_law_836 : decode cL_law 836 = .ok (.iconst 1, 1) := by decide +kernel
theorem dL_law_837 : decode cL_law 837 = .ok (.iadd, 1) := by decide +kernel
theorem dL_law_838 : decode cL_law 838 = .ok (.iaload, 1) := by decide +kernel
theorem dL_law_839 : decode cL_law 839 = .ok (.aload_n 0, 1) := by decide +kernel
theorem dL_law_840 : decode cL_law 840 = .ok (.iload 4, 2) := by decide +kernel
theorem dL_law_842 : decode cL_law 842 = .ok (.iconst 2, 1) := by decide +kernel
theorem dL_law_843 : decode cL_law 843 = .ok (.iadd, 1) := by decide +kernel
theorem dL_law_844 : decode cL_law 844 = .ok (.iaload, 1) := by decide +kernel
theorem dL_law_845 : decode cL_law 845 = .ok (.aload_n 3, 1) := by decide +kernel
set_option maxRecDepth 20000 in
theorem ggL_law_L_shared : GoodIn wsL_law wsL_shared := goodIn_ca (goodIn_r _ [534, 178, 535, 536, 537, 2, 538, 16, 185, 188, 189, 190, 191, 183, 184, 127, 539, 540, 541, 47, 542, 51, 543, 324, 229, 325, 52, 544, 328, 329, 1019, 1020, 1021, 1022, 1023, 1024, 1025, 1026, 1038, 1039, 1040, 1072, 1073, 1074, 1075] (by decide +kernel) (by decide +kernel)) (goodIn_sub (fun _ h => List.mem_append_right _ h) (by decide +kernel))
set_option maxRecDepth 20000 in
theorem gL_law_L_shared : GoodIn wsL_law (va_wsS RL 136 yL_shared wsL_shared) := goodIn_app (goodIn_of _ (by decide +kernel)) ggL_law_L_shared
theorem dL_law_846 : decode cL_law 846 = .ok (.invokestatic 136, 3) := by decide +kernel
theorem dL_law_849 : decode cL_law 849 = .ok (.istore 5, 2) := by decide +kernel
theorem dL_law_851 : decode cL_law 851 = .ok (.aload_n 2, 1) := by decide +kernel
theorem dL_law_852 : decode cL_law 852 = .ok (.aload_n 0, 1) := by decide +kernel
theorem dL_law_853 : decode cL_law 853 = .ok (.iload 4, 2) := by decide +kernel
theorem dL_law_855 : decode cL_law 855 = .ok (.iconst 1, 1) := by decide +kernel
theorem dL_law_856 : decode cL_law 856 = .ok (.iadd, 1) := by decide +kernel
theorem dL_law_857 : decode cL_law 857 = .ok (.iaload, 1) := by decide +kernel
theorem dL_law_858 : decode cL_law 858 = .ok (.aload_n 0, 1) := by decide +kernel
theorem dL_law_859 : decode cL_law 859 = .ok (.iload 4, 2) := by decide +kernel
theorem dL_law_861 : decode cL_law 861 = .ok (.iconst 2, 1) := by decide +kernel
theorem dL_law_862 : decode cL_law 862 = .ok (.iadd, 1) := by decide +kernel
theorem dL_law_863 : decode cL_law 863 = .ok (.iaload, 1) := by decide +kernel
set_option maxRecDepth 20000 in
theorem ggL_law_X9_shared : GoodIn wsL_law wsX9_shared := goodIn_r _ [548, 156, 204, 205, 206, 5, 207, 99, 157, 161, 162, 163, 549, 550, 551, 552, 160, 428, 328, 229, 329, 159, 553, 324, 325, 164, 165, 166, 167, 1027, 1028, 1029, 1030, 1031, 1032, 1033, 1034, 1035, 1036, 1037, 1076, 1077, 1078, 1079, 1080, 1081] (by decide +kernel) (by decide +kernel)
set_option maxRecDepth 20000 in
theorem gL_law_X9_shared : GoodIn wsL_law (wsV RL 138 RX9 yX9_shared wsX9_shared) := goodIn_app (goodIn_of _ (by decide +kernel)) ggL_law_X9_shared
theorem dL_law_864 : decode cL_law 864 = .ok (.invokevirtual 138, 3) := by decide +kernel
theorem dL_law_867 : decode cL_law 867 = .ok (.istore 6, 2) := by decide +kernel
theorem dL_law_869 : decode cL_law 869 = .ok (.aload_n 2, 1) := by decide +kernel
theorem dL_law_870 : decode cL_law 870 = .ok (.invokevirtual 89, 3) := by decide +kernel
theorem dL_law_873 : decode cL_law 873 = .ok (.iload 5, 2) := by decide +kernel
theorem dL_law_875 : decode cL_law 875 = .ok (.if_icmp .eq 5, 3) := by decide +kernel
theorem dL_law_880 : decode cL_law 880 = .ok (.iload 5, 2) := by decide +kernel
theorem dL_law_882 : decode cL_law 882 = .ok (.ifCond .ne 15, 3) := by decide +kernel
theorem dL_law_897 : decode cL_law 897 = .ok (.goto 851, 3) := by decide +kernel
theorem dL_law_1610 : decode cL_law 1610 = .ok (.aload_n 1, 1) := by decide +kernel
theorem dL_law_1611 : decode cL_law 1611 = .ok (.aload_n 0, 1) := by decide +kernel
theorem dL_law_1612 : decode cL_law 1612 = .ok (.iload 4, 2) := by decide +kernel
theorem dL_law_1614 : decode cL_law 1614 = .ok (.iconst 1, 1) := by decide +kernel
theorem dL_law_1615 : decode cL_law 1615 = .ok (.iadd, 1) := by decide +kernel
theorem dL_law_1616 : decode cL_law 1616 = .ok (.iaload, 1) := by decide +kernel
theorem dL_law_1617 : decode cL_law 1617 = .ok (.aload_n 3, 1) := by decide +kernel
set_option maxRecDepth 20000 in
theorem ggL_law_L_allowedWithout : GoodIn wsL_law wsL_allowedWithout := goodIn_ca (goodIn_r _ [948, 178, 949, 950, 951, 2, 952, 188, 189, 190, 191, 183, 184, 16, 127, 303, 304, 305, 306, 21, 307, 308, 309, 20, 310, 311, 57, 58, 59, 312, 313, 314, 315, 60, 316, 317, 318, 319, 320, 321, 322, 323, 324, 229, 325, 326, 327, 328, 329, 330, 331, 332, 15, 333, 137, 334, 335, 336, 337, 490, 491, 492, 493, 346, 347, 348, 349, 45, 350, 351, 352, 47, 353, 142, 359, 360, 361, 362, 363, 364, 365, 1019, 1020, 1021, 1022, 1023, 1024, 1025, 1026, 1038, 1039, 1040, 1041, 1042, 1043, 1044, 1045, 1072, 1073, 1074, 1075] (by decide +kernel) (by decide +kernel)) (goodIn_sub (fun _ h => List.mem_append_right _ h) (by decide +kernel))
set_option maxRecDepth 20000 in
theorem gL_law_L_allowedWithout : GoodIn wsL_law (va_wsS RL 189 yL_allowedWithout wsL_allowedWithout) := goodIn_app (goodIn_of _ (by decide +kernel)) ggL_law_L_allowedWithout
theorem dL_law_1618 : decode cL_law 1618 = .ok (.invokestatic 189, 3) := by decide +kernel
theorem dL_law_1621 : decode cL_law 1621 = .ok (.istore 5, 2) := by decide +kernel
theorem dL_law_1623 : decode cL_law 1623 = .ok (.aload_n 2, 1) := by decide +kernel
theorem dL_law_1624 : decode cL_law 1624 = .ok (.aload_n 0, 1) := by decide +kernel
theorem dL_law_1625 : decode cL_law 1625 = .ok (.iload 4, 2) := by decide +kernel
theorem dL_law_1627 : decode cL_law 1627 = .ok (.iconst 1, 1) := by decide +kernel
theorem dL_law_1628 : decode cL_law 1628 = .ok (.iadd, 1) := by decide +kernel
theorem dL_law_1629 : decode cL_law 1629 = .ok (.iaload, 1) := by decide +kernel
set_option maxRecDepth 20000 in
theorem ggL_law_X9_allowedWithout : GoodIn wsL_law wsX9_allowedWithout := goodIn_r _ [956, 156, 99, 204, 205, 206, 5, 207, 157, 161, 162, 163, 417, 418, 419, 98, 420, 252, 382, 383, 384, 385, 111, 498, 499, 500, 501, 424, 379, 380, 381, 38, 114, 430, 431, 432, 433, 390, 391, 392, 393, 112, 113, 394, 395, 396, 169, 170, 434, 435, 436, 437, 253, 400, 401, 402, 403, 404, 405, 406, 407, 408, 328, 229, 329, 409, 410, 411, 412, 438, 164, 165, 166, 167, 1027, 1028, 1029, 1030, 1031, 1032, 1033, 1034, 1035, 1036, 1037, 1076, 1077, 1078, 1079, 1080, 1081] (by decide +kernel) (by decide +kernel)
set_option maxRecDepth 20000 in
theorem gL_law_X9_allowedWithout : GoodIn wsL_law (wsV RL 191 RX9 yX9_allowedWithout wsX9_allowedWithout) := goodIn_app (goodIn_of _ (by decide +kernel)) ggL_law_X9_allowedWithout
theorem dL_law_1630 : decode cL_law 1630 = .ok (.invokevirtual 191, 3) := by decide +kernel
theorem dL_law_1633 : decode cL_law 1633 = .ok (.istore 6, 2) := by decide +kernel
theorem dL_law_1635 : decode cL_law 1635 = .ok (.aload_n 2, 1) := by decide +kernel
theorem dL_law_1636 : decode cL_law 1636 = .ok (.invokevirtual 89, 3) := by decide +kernel
theorem dL_law_1639 : decode cL_law 1639 = .ok (.iload 5, 2) := by decide +kernel
theorem dL_law_1641 : decode cL_law 1641 = .ok (.if_icmp .eq 5, 3) := by decide +kernel
theorem dL_law_1646 : decode cL_law 1646 = .ok (.iload 5, 2) := by decide +kernel
theorem dL_law_1648 : decode cL_law 1648 = .ok (.ifCond .ne 15, 3) := by decide +kernel
theorem dL_law_1663 : decode cL_law 1663 = .ok (.goto 85, 3) := by decide +kernel
theorem dL_law_1666 : decode cL_law 1666 = .ok (.aload_n 1, 1) := by decide +kernel
theorem dL_law_1667 : decode cL_law 1667 = .ok (.aload_n 0, 1) := by decide +kernel
theorem dL_law_1668 : decode cL_law 1668 = .ok (.iload 4, 2) := by decide +kernel
theorem dL_law_1670 : decode cL_law 1670 = .ok (.iconst 1, 1) := by decide +kernel
theorem dL_law_1671 : decode cL_law 1671 = .ok (.iadd, 1) := by decide +kernel
theorem dL_law_1672 : decode cL_law 1672 = .ok (.iaload, 1) := by decide +kernel
theorem dL_law_1673 : decode cL_law 1673 = .ok (.aload_n 0, 1) := by decide +kernel
theorem dL_law_1674 : decode cL_law 1674 = .ok (.iload 4, 2) := by decide +kernel
theorem dL_law_1676 : decode cL_law 1676 = .ok (.iconst 2, 1) := by decide +kernel
theorem dL_law_1677 : decode cL_law 1677 = .ok (.iadd, 1) := by decide +kernel
theorem dL_law_1678 : decode cL_law 1678 = .ok (.iaload, 1) := by decide +kernel
theorem dL_law_1679 : decode cL_law 1679 = .ok (.aload_n 3, 1) := by decide +kernel
set_option maxRecDepth 20000 in
theorem ggL_law_L_changedByMove : GoodIn wsL_law wsL_changedByMove := goodIn_ca (goodIn_r _ [959, 178, 960, 961, 962, 2, 963, 188, 189, 190, 191, 183, 184, 16, 127, 303, 304, 305, 306, 21, 307, 308, 309, 20, 310, 311, 57, 58, 59, 312, 313, 314, 315, 60, 316, 317, 318, 319, 320, 321, 322, 323, 324, 229, 325, 326, 327, 328, 329, 330, 331, 332, 15, 333, 137, 334, 335, 336, 337, 964, 965, 966, 967, 346, 347, 348, 349, 45, 350, 351, 352, 47, 353, 142, 359, 360, 361, 362, 363, 364, 365, 968, 969, 970, 971, 1019, 1020, 1021, 1022, 1023, 1024, 1025, 1026, 1038, 1039, 1040, 1041, 1042, 1043, 1044, 1045, 1072, 1073, 1074, 1075] (by decide +kernel) (by decide +kernel)) (goodIn_sub (fun _ h => List.mem_append_right _ h) (by decide +kernel))
set_option maxRecDepth 20000 in
theorem gL_law_L_changedByMove : GoodIn wsL_law (va_wsS RL 192 yL_changedByMove wsL_changedByMove) := goodIn_app (goodIn_of _ (by decide +kernel)) ggL_law_L_changedByMove
theorem dL_law_1680 : decode cL_law 1680 = .ok (.invokestatic 192, 3) := by decide +kernel
theorem dL_law_1683 : decode cL_law 1683 = .ok (.istore 5, 2) := by decide +kernel
theorem dL_law_1685 : decode cL_law 1685 = .ok (.aload_n 2, 1) := by decide +kernel
theorem dL_law_1686 : decode cL_law 1686 = .ok (.aload_n 0, 1) := by decide +kernel
theorem dL_law_1687 : decode cL_law 1687 = .ok (.iload 4, 2) := by decide +kernel
theorem dL_law_1689 : decode cL_law 1689 = .ok (.iconst 1, 1) := by decide +kernel
theorem dL_law_1690 : decode cL_law 1690 = .ok (.iadd, 1) := by decide +kernel
theorem dL_law_1691 : decode cL_law 1691 = .ok (.iaload, 1) := by decide +kernel
theorem dL_law_1692 : decode cL_law 1692 = .ok (.aload_n 0, 1) := by decide +kernel
theorem dL_law_1693 : decode cL_law 1693 = .ok (.iload 4, 2) := by decide +kernel
theorem dL_law_1695 : decode cL_law 1695 = .ok (.iconst 2, 1) := by decide +kernel
theorem dL_law_1696 : decode cL_law 1696 = .ok (.iadd, 1) := by decide +kernel
theorem dL_law_1697 : decode cL_law 1697 = .ok (.iaload, 1) := by decide +kernel
set_option maxRecDepth 20000 in
theorem ggL_law_X9_changedByMove : GoodIn wsL_law wsX9_changedByMove := goodIn_r _ [975, 156, 99, 204, 205, 206, 5, 207, 157, 161, 162, 163, 164, 165, 166, 167, 244, 245, 246, 247, 248, 249, 98, 250, 251, 97, 252, 253, 254, 108, 109, 110, 11, 12, 38, 111, 112, 113, 114, 255, 256, 257, 258, 259, 240, 241, 242, 260, 261, 262, 263, 417, 418, 419, 420, 382, 383, 384, 385, 421, 422, 423, 424, 379, 380, 381, 425, 426, 427, 428, 328, 229, 329, 429, 391, 392, 393, 394, 395, 396, 169, 170, 430, 431, 432, 433, 390, 434, 435, 436, 437, 400, 401, 402, 403, 404, 405, 406, 407, 408, 409, 410, 411, 412, 438, 439, 440, 168, 441, 442, 1027, 1028, 1029, 1030, 1031, 1032, 1033, 1034, 1035, 1036, 1037, 1076, 1077, 1078, 1079, 1080, 1081] (by decide +kernel) (by decide +kernel)
set_option maxRecDepth 20000 in
theorem gL_law_X9_changedByMove : GoodIn wsL_law (wsV RL 194 RX9 yX9_changedByMove wsX9_changedByMove) := goodIn_app (goodIn_of _ (by decide +kernel)) ggL_law_X9_changedByMove
theorem dL_law_1698 : decode cL_law 1698 = .ok (.invokevirtual 194, 3) := by decide +kernel
theorem dL_law_1701 : decode cL_law 1701 = .ok (.istore 6, 2) := by decide +kernel
theorem dL_law_1703 : decode cL_law 1703 = .ok (.aload_n 2, 1) := by decide +kernel
theorem dL_law_1704 : decode cL_law 1704 = .ok (.invokevirtual 89, 3) := by decide +kernel
theorem dL_law_1707 : decode cL_law 1707 = .ok (.iload 5, 2) := by decide +kernel
theorem dL_law_1709 : decode cL_law 1709 = .ok (.if_icmp .eq 5, 3) := by decide +kernel
theorem dL_law_1714 : decode cL_law 1714 = .ok (.iload 5, 2) := by decide +kernel
theorem dL_law_1716 : decode cL_law 1716 = .ok (.ifCond .ne 15, 3) := by decide +kernel
theorem dL_law_1731 : decode cL_law 1731 = .ok (.goto 17, 3) := by decide +kernel
theorem dL_law_516 : decode cL_law 516 = .ok (.aload_n 1, 1) := by decide +kernel
theorem dL_law_517 : decode cL_law 517 = .ok (.aload_n 0, 1) := by decide +kernel
theorem dL_law_518 : decode cL_law 518 = .ok (.iload 4, 2) := by decide +kernel
theorem dL_law_520 : decode cL_law 520 = .ok (.iconst 1, 1) := by decide +kernel
theorem dL_law_521 : decode cL_law 521 = .ok (.iadd, 1) := by decide +kernel
theorem dL_law_522 : decode cL_law 522 = .ok (.iaload, 1) := by decide +kernel
theorem dL_law_523 : decode cL_law 523 = .ok (.ifCond .eq 7, 3) := by decide +kernel
theorem dL_law_530 : decode cL_law 530 = .ok (.iconst 0, 1) := by decide +kernel
set_option maxRecDepth 20000 in
theorem ggL_law_X7_setLast : GoodIn wsL_law wsX7_setLast := goodIn_r _ [288, 16, 289, 144, 145, 146, 2, 147, 21, 148, 25, 149, 29, 150, 33, 151, 1019, 1020, 1021, 1022, 1023, 1024, 1025, 1026, 1038, 1039, 1040, 1041, 1042, 1043, 1044, 1045, 1046, 1047, 1048, 1049, 1050, 1051, 1052, 1053, 1054, 1055, 1056, 1057, 1058, 1059, 1060, 1061, 1062, 1063, 1064, 1065] (by decide +kernel) (by decide +kernel)
set_option maxRecDepth 20000 in
theorem gL_law_X7_setLast : GoodIn wsL_law (wsV RL 107 RX7 yX7_setLast wsX7_setLast) := goodIn_app (goodIn_of _ (by decide +kernel)) ggL_law_X7_setLast
theorem dL_law_531 : decode cL_law 531 = .ok (.invokevirtual 107, 3) := by decide +kernel
theorem dL_law_534 : decode cL_law 534 = .ok (.aload_n 2, 1) := by decide +kernel
theorem dL_law_535 : decode cL_law 535 = .ok (.aload_n 0, 1) := by decide +kernel
theorem dL_law_536 : decode cL_law 536 = .ok (.iload 4, 2) := by decide +kernel
theorem dL_law_538 : decode cL_law 538 = .ok (.iconst 1, 1) := by decide +kernel
theorem dL_law_539 : decode cL_law 539 = .ok (.iadd, 1) := by decide +kernel
theorem dL_law_540 : decode cL_law 540 = .ok (.iaload, 1) := by decide +kernel
theorem dL_law_541 : decode cL_law 541 = .ok (.ifCond .eq 7, 3) := by decide +kernel
theorem dL_law_548 : decode cL_law 548 = .ok (.iconst 0, 1) := by decide +kernel
set_option maxRecDepth 20000 in
theorem ggL_law_X9_setLast : GoodIn wsL_law wsX9_setLast := goodIn_r _ [293, 156, 99, 294, 1027, 1028, 1029, 1030, 1031, 1032, 1033, 1034, 1035, 1036, 1037, 1076, 1077, 1078, 1079, 1080, 1081] (by decide +kernel) (by decide +kernel)
set_option maxRecDepth 20000 in
theorem gL_law_X9_setLast : GoodIn wsL_law (wsV RL 111 RX9 yX9_setLast wsX9_setLast) := goodIn_app (goodIn_of _ (by decide +kernel)) ggL_law_X9_setLast
theorem dL_law_549 : decode cL_law 549 = .ok (.invokevirtual 111, 3) := by decide +kernel
theorem dL_law_552 : decode cL_law 552 = .ok (.if_icmp .eq 1196, 3) := by decide +kernel
theorem dL_law_526 : decode cL_law 526 = .ok (.iconst 1, 1) := by decide +kernel
theorem dL_law_527 : decode cL_law 527 = .ok (.goto 4, 3) := by decide +kernel
theorem dL_law_544 : decode cL_law 544 = .ok (.iconst 1, 1) := by decide +kernel
theorem dL_law_545 : decode cL_law 545 = .ok (.goto 4, 3) := by decide +kernel
theorem dL_law_557 : decode cL_law 557 = .ok (.aload_n 1, 1) := by decide +kernel
set_option maxRecDepth 20000 in
theorem ggL_law_X7_shrink : GoodIn wsL_law wsX7_shrink := goodIn_r _ [298, 16, 127, 299, 300, 301, 2, 302, 303, 304, 305, 306, 21, 307, 308, 309, 20, 310, 311, 57, 58, 59, 312, 313, 314, 315, 60, 316, 317, 318, 319, 320, 321, 322, 323, 324, 229, 325, 326, 327, 328, 329, 330, 331, 332, 15, 333, 137, 334, 335, 336, 337, 338, 339, 340, 341, 342, 343, 344, 345, 346, 347, 348, 349, 45, 350, 351, 352, 47, 353, 142, 354, 355, 356, 357, 358, 359, 360, 361, 362, 363, 364, 365, 271, 272, 273, 274, 275, 232, 233, 234, 144, 145, 146, 147, 148, 25, 149, 29, 150, 33, 151, 1019, 1020, 1021, 1022, 1023, 1024, 1025, 1026, 1038, 1039, 1040, 1041, 1042, 1043, 1044, 1045, 1072, 1073, 1074, 1075, 1046, 1047, 1048, 1049, 1050, 1051, 1052, 1053, 1054, 1055, 1056, 1057, 1058, 1059, 1060, 1061, 1062, 1063, 1064, 1065] (by decide +kernel) (by decide +kernel)
set_option maxRecDepth 20000 in
theorem gL_law_X7_shrink : GoodIn wsL_law (wsV RL 112 RX7 yX7_shrink wsX7_shrink) := goodIn_app (goodIn_of _ (by decide +kernel)) ggL_law_X7_shrink
theorem dL_law_558 : decode cL_law 558 = .ok (.invokevirtual 112, 3) := by decide +kernel
theorem dL_law_561 : decode cL_law 561 = .ok (.aload_n 2, 1) := by decide +kernel
set_option maxRecDepth 20000 in
theorem ggL_law_X9_shrink : GoodIn wsL_law wsX9_shrink := goodIn_r _ [369, 99, 157, 156, 370, 371, 372, 5, 373, 158, 374, 375, 376, 98, 377, 378, 379, 380, 381, 38, 114, 382, 383, 384, 385, 111, 386, 387, 388, 389, 390, 391, 392, 393, 112, 113, 394, 395, 396, 169, 170, 397, 398, 399, 400, 401, 402, 403, 404, 405, 406, 407, 252, 408, 328, 229, 329, 409, 410, 411, 412, 162, 163, 413, 414, 415, 416, 159, 160, 417, 418, 419, 420, 247, 248, 249, 250, 251, 97, 253, 254, 108, 109, 110, 11, 12, 255, 256, 257, 258, 259, 240, 241, 242, 421, 422, 423, 424, 425, 426, 427, 428, 429, 430, 431, 432, 433, 434, 435, 436, 437, 438, 439, 440, 168, 441, 442, 280, 281, 282, 283, 284, 236, 237, 238, 101, 239, 243, 228, 230, 204, 205, 206, 207, 161, 164, 165, 166, 167, 244, 245, 246, 260, 261, 262, 263, 1027, 1028, 1029, 1030, 1031, 1032, 1033, 1034, 1035, 1036, 1037, 1076, 1077, 1078, 1079, 1080, 1081] (by decide +kernel) (by decide +kernel)
set_option maxRecDepth 20000 in
theorem gL_law_X9_shrink : GoodIn wsL_law (wsV RL 115 RX9 yX9_shrink wsX9_shrink) := goodIn_app (goodIn_of _ (by decide +kernel)) ggL_law_X9_shrink
theorem dL_law_562 : decode cL_law 562 = .ok (.invokevirtual 115, 3) := by decide +kernel
theorem dL_law_565 : decode cL_law 565 = .ok (.if_icmp .eq 1183, 3) := by decide +kernel
theorem dL_law_570 : decode cL_law 570 = .ok (.aload_n 1, 1) := by decide +kernel
set_option maxRecDepth 20000 in
theorem ggL_law_X7_rules : GoodIn wsL_law wsX7_rules := goodIn_r _ [446, 16, 127, 1019, 1020, 1021, 1022, 1023, 1024, 1025, 1026, 1038, 1039, 1040] (by decide +kernel) (by decide +kernel)
set_option maxRecDepth 20000 in
theorem gL_law_X7_rules : GoodIn wsL_law (wsV RL 116 RX7 yX7_rules wsX7_rules) := goodIn_app (goodIn_of _ (by decide +kernel)) ggL_law_X7_rules
theorem dL_law_571 : decode cL_law 571 = .ok (.invokevirtual 116, 3) := by decide +kernel
theorem dL_law_574 : decode cL_law 574 = .ok (.aload_n 2, 1) := by decide +kernel
set_option maxRecDepth 20000 in
theorem ggL_law_X9_rules : GoodIn wsL_law wsX9_rules := goodIn_r _ [450, 99, 157, 451, 452, 453, 5, 454, 156, 1027, 1028, 1029, 1030, 1031, 1032, 1033, 1034, 1035, 1036, 1037, 1076, 1077, 1078, 1079, 1080, 1081] (by decide +kernel) (by decide +kernel)
set_option maxRecDepth 20000 in
theorem gL_law_X9_rules : GoodIn wsL_law (wsV RL 119 RX9 yX9_rules wsX9_rules) := goodIn_app (goodIn_of _ (by decide +kernel)) ggL_law_X9_rules
theorem dL_law_575 : decode cL_law 575 = .ok (.invokevirtual 119, 3) := by decide +kernel
theorem dL_law_578 : decode cL_law 578 = .ok (.if_icmp .eq 1170, 3) := by decide +kernel
theorem dL_law_707 : decode cL_law 707 = .ok (.aload_n 1, 1) := by decide +kernel
set_option maxRecDepth 20000 in
theorem ggL_law_X7_allowed : GoodIn wsL_law wsX7_allowed := goodIn_r _ [489, 303, 304, 305, 2, 306, 21, 307, 308, 309, 20, 310, 311, 57, 58, 59, 312, 313, 314, 315, 60, 316, 317, 318, 319, 320, 321, 322, 323, 324, 229, 325, 326, 327, 328, 329, 330, 331, 332, 15, 333, 137, 334, 335, 336, 337, 490, 491, 492, 493, 346, 347, 348, 349, 45, 350, 351, 352, 47, 353, 142, 359, 360, 361, 362, 363, 364, 365, 1019, 1020, 1021, 1022, 1023, 1024, 1025, 1026, 1041, 1042, 1043, 1044, 1045, 1038, 1039, 1040, 1072, 1073, 1074, 1075] (by decide +kernel) (by decide +kernel)
set_option maxRecDepth 20000 in
theorem gL_law_X7_allowed : GoodIn wsL_law (wsV RL 126 RX7 yX7_allowed wsX7_allowed) := goodIn_app (goodIn_of _ (by decide +kernel)) ggL_law_X7_allowed
theorem dL_law_708 : decode cL_law 708 = .ok (.invokevirtual 126, 3) := by decide +kernel
theorem dL_law_711 : decode cL_law 711 = .ok (.aload_n 2, 1) := by decide +kernel
set_option maxRecDepth 20000 in
theorem ggL_law_X9_allowed : GoodIn wsL_law wsX9_allowed := goodIn_r _ [497, 99, 417, 418, 419, 98, 420, 252, 382, 383, 384, 385, 111, 498, 499, 500, 5, 501, 424, 379, 380, 381, 38, 114, 430, 431, 432, 433, 390, 391, 392, 393, 112, 113, 394, 395, 396, 169, 170, 434, 435, 436, 437, 253, 400, 401, 402, 403, 404, 405, 406, 407, 408, 328, 229, 329, 409, 410, 411, 412, 162, 163, 438, 451, 452, 453, 454, 156, 1027, 1028, 1029, 1030, 1031, 1032, 1033, 1034, 1035, 1036, 1037, 1076, 1077, 1078, 1079, 1080, 1081] (by decide +kernel) (by decide +kernel)
set_option maxRecDepth 20000 in
theorem gL_law_X9_allowed : GoodIn wsL_law (wsV RL 129 RX9 yX9_allowed wsX9_allowed) := goodIn_app (goodIn_of _ (by decide +kernel)) ggL_law_X9_allowed
theorem dL_law_712 : decode cL_law 712 = .ok (.invokevirtual 129, 3) := by decide +kernel
theorem dL_law_715 : decode cL_law 715 = .ok (.if_icmp .eq 1033, 3) := by decide +kernel
theorem dL_law_900 : decode cL_law 900 = .ok (.aload_n 1, 1) := by decide +kernel
set_option maxRecDepth 20000 in
theorem ggL_law_X7_quarrels : GoodIn wsL_law wsX7_quarrels := goodIn_r _ [557, 16, 127, 185, 558, 559, 560, 47, 561, 142, 562, 351, 352, 353, 563, 540, 541, 542, 51, 543, 324, 229, 325, 52, 544, 328, 329, 1019, 1020, 1021, 1022, 1023, 1024, 1025, 1026, 1038, 1039, 1040, 1072, 1073, 1074, 1075] (by decide +kernel) (by decide +kernel)
set_option maxRecDepth 20000 in
theorem gL_law_X7_quarrels : GoodIn wsL_law (wsV RL 139 RX7 yX7_quarrels wsX7_quarrels) := goodIn_app (goodIn_of _ (by decide +kernel)) ggL_law_X7_quarrels
theorem dL_law_901 : decode cL_law 901 = .ok (.invokevirtual 139, 3) := by decide +kernel
theorem dL_law_904 : decode cL_law 904 = .ok (.aload_n 2, 1) := by decide +kernel
set_option maxRecDepth 20000 in
theorem ggL_law_X9_quarrels : GoodIn wsL_law wsX9_quarrels := goodIn_r _ [567, 568, 569, 570, 5, 571, 99, 157, 158, 549, 550, 551, 552, 160, 428, 328, 229, 329, 159, 553, 324, 325, 451, 452, 453, 454, 156, 1027, 1028, 1029, 1030, 1031, 1032, 1033, 1034, 1035, 1036, 1037, 1076, 1077, 1078, 1079, 1080, 1081] (by decide +kernel) (by decide +kernel)
set_option maxRecDepth 20000 in
theorem gL_law_X9_quarrels : GoodIn wsL_law (wsV RL 142 RX9 yX9_quarrels wsX9_quarrels) := goodIn_app (goodIn_of _ (by decide +kernel)) ggL_law_X9_quarrels
theorem dL_law_905 : decode cL_law 905 = .ok (.invokevirtual 142, 3) := by decide +kernel
theorem dL_law_908 : decode cL_law 908 = .ok (.if_icmp .eq 840, 3) := by decide +kernel
set_option maxHeartbeats 4000000 in
set_option maxRecDepth 100000 in
theorem z_case0 {p : Program} {l : Launch} {e : Env} {s : State} {m : MethodId} {below : List Frame} {meth : Method} {c : Code} {A : Nat → Prop} {H : Heap} {locs : List Loc} {ls : Array Slot} {G : zG} {b : Nat} {xs : Nat → Int32} (hx : p.tables.exec = Jvm.exec) (hb : c.code = code) (hr : meth.sig.returnType = ret) (hml : c.maxLocals = 9) (hown : s.vm.findClass RL = some m.cls) (hts : ∀ w ∈ wsL_law, w.before #[Value.ref b] s = true) (hX : va_X b 5 xs s s.heap) (hbl : b < s.heap.size) (hlocks : meth.locks = false) (hl0 : l.stackTraces = false) (hA : ∀ q : Nat, s.heap.size ≤ q → A q) (hA2 : ∀ q : Nat, A q → s.heap.size ≤ q) (hbA : ¬ A b) (hE : zZ G A s s.heap) {x : Nat} {wa : Nat} {wb : Nat} {su : Nat} {cu : Nat} {tr : Nat} {co : Nat} {lo : Nat} {pk : Nat} {ro : Nat} {ou : Nat} {r0 : Nat} {l0 : Nat} {g0 : Nat} {rv : Int32} {rh : Int32} {f01 : Nat → Int32} {f02 : Nat → Int32} {fr : Nat → Option Nat} {sl : Nat} {sh : Nat} {sa : Nat} {cc : Nat} {cs : Nat} {cm : Nat} {tn : Nat} {tc : Nat} {ts : Nat} {cf : Nat} {cp : Nat} {f1 : Int32} {f2 : Int32} {f3 : Int32} {f4 : Int32} {mm : Nat} {nw : Nat} {cq : Nat} {hi : Nat} {ko : Nat} {se : Nat} {nf : Nat} {ns : Nat} {pi : Nat} {vd : Nat} {lw : Nat} {hg : Nat} {rk : Nat} {fv : Nat → Int32} {fl : Nat → Int32} {fh : Nat → Int32} {fi : Nat → Int32} (v1 : Int32) (e1 : xs 1 = v1) (hr0 : fr 0 = some r0) (hP : va_P G.1 vwCl [(x, .inr (7, [.ref wa, .ref wb, .ref su, .ref cu, .ref tr, .ref co, .ref lo, .ref pk])), (wa, .inr (6, [.ref ro, .int 0, .int 0])), (ro, .inl (G.2.2.1, 8, .inr (.inr (.inr (.inr (fr)))))), (r0, .inr (3, [.int rv, .int rh, .ref l0, .ref g0])), (l0, .inl (G.2.1, 4, .inl (f01))), (g0, .inl (G.2.1, 4, .inl (f02))), (su, .inr (4, [.ref wa, .ref sl, .ref sh, .ref sa, .int f1])), (cu, .inr (1, [.ref wa, .ref wb, .ref cc, .ref cs, .ref cm, .int f2])), (tr, .inr (5, [.ref wa, .ref cu, .ref tn, .ref tc, .ref ts, .int 0, .int f3])), (co, .inr (0, [.ref wa, .ref wb, .ref cu, .ref cf, .ref cp, .int 0, .int f4])), (ou, .inl (G.2.2.2.1, 1, .inr (.inl (fun _ => 0)))), (mm, .inr (9, [.int 0, .ref nw, .ref cq, .ref hi, .int 0, .ref ko, .ref se, .int 0, .ref nf, .ref ns, .ref pi])), (nw, .inr (8, [.int 0, .int 0, .ref vd, .ref lw, .ref hg, .ref rk])), (vd, .inl (G.2.1, 8, .inl (fv))), (lw, .inl (G.2.1, 32, .inl (fl))), (hg, .inl (G.2.1, 32, .inl (fh))), (hi, .inl (G.2.1, 8, .inl (fi)))] H) (hD : va_D A [(x, .inr (7, [.ref wa, .ref wb, .ref su, .ref cu, .ref tr, .ref co, .ref lo, .ref pk])), (wa, .inr (6, [.ref ro, .int 0, .int 0])), (ro, .inl (G.2.2.1, 8, .inr (.inr (.inr (.inr (fr)))))), (r0, .inr (3, [.int rv, .int rh, .ref l0, .ref g0])), (l0, .inl (G.2.1, 4, .inl (f01))), (g0, .inl (G.2.1, 4, .inl (f02))), (su, .inr (4, [.ref wa, .ref sl, .ref sh, .ref sa, .int f1])), (cu, .inr (1, [.ref wa, .ref wb, .ref cc, .ref cs, .ref cm, .int f2])), (tr, .inr (5, [.ref wa, .ref cu, .ref tn, .ref tc, .ref ts, .int 0, .int f3])), (co, .inr (0, [.ref wa, .ref wb, .ref cu, .ref cf, .ref cp, .int 0, .int f4])), (ou, .inl (G.2.2.2.1, 1, .inr (.inl (fun _ => 0)))), (mm, .inr (9, [.int 0, .ref nw, .ref cq, .ref hi, .int 0, .ref ko, .ref se, .int 0, .ref nf, .ref ns, .ref pi])), (nw, .inr (8, [.int 0, .int 0, .ref vd, .ref lw, .ref hg, .ref rk])), (vd, .inl (G.2.1, 8, .inl (fv))), (lw, .inl (G.2.1, 32, .inl (fl))), (hg, .inl (G.2.1, 32, .inl (fh))), (hi, .inl (G.2.1, 8, .inl (fi)))]) (hS : va_S A s.heap H locs) (hl : lv_has ls 9 [(4, .int 0), (3, .ref ou), (2, .ref mm), (1, .ref x), (0, .ref b)]) : W p l e room_1 s m #[Value.ref b] below meth c H locs 89 9213 (lw_Z below #[Value.ref b] s) (F0 m 176 ls []) := by
  rcases zV3 v1 with h1 | h1 | h1
  · refine lv_aload_n hx hb dL_law_176 rfl (lv_at hl 3 rfl) ?_
    refine lv_aload_n hx hb dL_law_177 rfl (lv_at hl 4 rfl) ?_
    refine lv_iload hx hb dL_law_178 (lv_at hl 0 rfl) ?_
    refine lv_iconst (v := 1) hx hb dL_law_180 (by decide) ?_
    refine lv_iadd hx hb dL_law_181 ?_
    refine zti (v := 1) (by decide) ?_
    refine va_sld hx hb hX hbl hbA hS (zin (by decide +kernel)) dL_law_182 ?_
    refine zti (v := v1) e1 ?_
    refine lv_aload_n hx hb dL_law_183 rfl (lv_at hl 1 rfl) ?_
    refine zcall (wr := [(wa, .inr (6, [.ref ro, .int 0, .int 0])), (ro, .inl (G.2.2.1, 8, .inr (.inr (.inr (.inr (fr)))))), (r0, .inr (3, [.int rv, .int rh, .ref l0, .ref g0])), (l0, .inl (G.2.1, 4, .inl (f01))), (g0, .inl (G.2.1, 4, .inl (f02))), (su, .inr (4, [.ref wa, .ref sl, .ref sh, .ref sa, .int f1])), (cu, .inr (1, [.ref wa, .ref wb, .ref cc, .ref cs, .ref cm, .int f2])), (tr, .inr (5, [.ref wa, .ref cu, .ref tn, .ref tc, .ref ts, .int 0, .int f3])), (co, .inr (0, [.ref wa, .ref wb, .ref cu, .ref cf, .ref cp, .int 0, .int f4])), (ou, .inl (G.2.2.2.1, 1, .inr (.inl (fun _ => 0)))), (mm, .inr (9, [.int 0, .ref nw, .ref cq, .ref hi, .int 0, .ref ko, .ref se, .int 0, .ref nf, .ref ns, .ref pi])), (nw, .inr (8, [.int 0, .int 0, .ref vd, .ref lw, .ref hg, .ref rk])), (vd, .inl (G.2.1, 8, .inl (fv))), (lw, .inl (G.2.1, 32, .inl (fl))), (hg, .inl (G.2.1, 32, .inl (fh))), (hi, .inl (G.2.1, 8, .inl (fi)))]) (zrunH (vx_runSX (As := [.ref x, .int v1, .ref ou]) (rest := []) ⟨hx, hb, hml, hown, hts⟩ (z_L_ruleT l G x wa wb su cu tr co lo pk ou v1 hl0 (Or.inl h1) H.size) (vx_cwSW 3 hts gL_law_L_rule rfl rfl rfl (by decide +kernel) ⟨Nat.le_of_ble_eq_true rfl, Nat.le_of_ble_eq_true rfl⟩) (zPre (Wc := [(x, .inr (7, [.ref wa, .ref wb, .ref su, .ref cu, .ref tr, .ref co, .ref lo, .ref pk]))]) hP hD hE hS hA [0] rfl (by decide)) rfl rfl hl.1 rfl (lv_room (Nat.le_of_ble_eq_true rfl)) dL_law_184 ⟨Nat.le_of_ble_eq_true rfl, Nat.le_of_ble_eq_true rfl⟩)) hP hD hS hA [0] [1, 2, 3, 4, 5, 6, 7, 8, 9, 10, 11, 12, 13, 14, 15, 16] rfl rfl (by decide) (by decide) (fun u1 H locs hP hD hS => ?_)
    have hP : va_P G.1 vwCl [(wa, .inr (6, [.ref ro, .int 0, .int 0])), (ro, .inl (G.2.2.1, 8, .inr (.inr (.inr (.inr (fr)))))), (r0, .inr (3, [.int rv, .int rh, .ref l0, .ref g0])), (l0, .inl (G.2.1, 4, .inl (f01))), (g0, .inl (G.2.1, 4, .inl (f02))), (su, .inr (4, [.ref wa, .ref sl, .ref sh, .ref sa, .int f1])), (cu, .inr (1, [.ref wa, .ref wb, .ref cc, .ref cs, .ref cm, .int f2])), (tr, .inr (5, [.ref wa, .ref cu, .ref tn, .ref tc, .ref ts, .int 0, .int f3])), (co, .inr (0, [.ref wa, .ref wb, .ref cu, .ref cf, .ref cp, .int 0, .int f4])), (ou, .inl (G.2.2.2.1, 1, .inr (.inl (fun _ => 0)))), (mm, .inr (9, [.int 0, .ref nw, .ref cq, .ref hi, .int 0, .ref ko, .ref se, .int 0, .ref nf, .ref ns, .ref pi])), (nw, .inr (8, [.int 0, .int 0, .ref vd, .ref lw, .ref hg, .ref rk])), (vd, .inl (G.2.1, 8, .inl (fv))), (lw, .inl (G.2.1, 32, .inl (fl))), (hg, .inl (G.2.1, 32, .inl (fh))), (hi, .inl (G.2.1, 8, .inl (fi))), (x, .inr (7, [.ref wa, .ref wb, .ref su, .ref cu, .ref tr, .ref co, .ref lo, .ref pk]))] H := hP
    have hD : va_D A [(wa, .inr (6, [.ref ro, .int 0, .int 0])), (ro, .inl (G.2.2.1, 8, .inr (.inr (.inr (.inr (fr)))))), (r0, .inr (3, [.int rv, .int rh, .ref l0, .ref g0])), (l0, .inl (G.2.1, 4, .inl (f01))), (g0, .inl (G.2.1, 4, .inl (f02))), (su, .inr (4, [.ref wa, .ref sl, .ref sh, .ref sa, .int f1])), (cu, .inr (1, [.ref wa, .ref wb, .ref cc, .ref cs, .ref cm, .int f2])), (tr, .inr (5, [.ref wa, .ref cu, .ref tn, .ref tc, .ref ts, .int 0, .int f3])), (co, .inr (0, [.ref wa, .ref wb, .ref cu, .ref cf, .ref cp, .int 0, .int f4])), (ou, .inl (G.2.2.2.1, 1, .inr (.inl (fun _ => 0)))), (mm, .inr (9, [.int 0, .ref nw, .ref cq, .ref hi, .int 0, .ref ko, .ref se, .int 0, .ref nf, .ref ns, .ref pi])), (nw, .inr (8, [.int 0, .int 0, .ref vd, .ref lw, .ref hg, .ref rk])), (vd, .inl (G.2.1, 8, .inl (fv))), (lw, .inl (G.2.1, 32, .inl (fl))), (hg, .inl (G.2.1, 32, .inl (fh))), (hi, .inl (G.2.1, 8, .inl (fi))), (x, .inr (7, [.ref wa, .ref wb, .ref su, .ref cu, .ref tr, .ref co, .ref lo, .ref pk]))] := hD
    refine W.eq (g2 := F0 m 187 ls [.int 1]) rfl ?_
    refine lv_istore (lv' := [(5, .int 1), (4, .int 0), (3, .ref ou), (2, .ref mm), (1, .ref x), (0, .ref b)]) hx hb dL_law_187 hl (by decide) rfl (fun ls hl => ?_)
    refine lv_aload_n hx hb dL_law_189 rfl (lv_at hl 3 rfl) ?_
    refine lv_aload_n hx hb dL_law_190 rfl (lv_at hl 5 rfl) ?_
    refine lv_iload hx hb dL_law_191 (lv_at hl 1 rfl) ?_
    refine lv_iconst (v := 1) hx hb dL_law_193 (by decide) ?_
    refine lv_iadd hx hb dL_law_194 ?_
    refine zti (v := 1) (by decide) ?_
    refine va_sld hx hb hX hbl hbA hS (zin (by decide +kernel)) dL_law_195 ?_
    refine zti (v := v1) e1 ?_
    refine zcall (wr := [(wa, .inr (6, [.ref ro, .int 0, .int 0])), (ro, .inl (G.2.2.1, 8, .inr (.inr (.inr (.inr (fr)))))), (r0, .inr (3, [.int rv, .int rh, .ref l0, .ref g0])), (l0, .inl (G.2.1, 4, .inl (f01))), (g0, .inl (G.2.1, 4, .inl (f02))), (su, .inr (4, [.ref wa, .ref sl, .ref sh, .ref sa, .int f1])), (cu, .inr (1, [.ref wa, .ref wb, .ref cc, .ref cs, .ref cm, .int f2])), (tr, .inr (5, [.ref wa, .ref cu, .ref tn, .ref tc, .ref ts, .int 0, .int f3])), (co, .inr (0, [.ref wa, .ref wb, .ref cu, .ref cf, .ref cp, .int 0, .int f4])), (ou, .inl (G.2.2.2.1, 1, .inr (.inl (fun _ => 0)))), (nw, .inr (8, [.int 0, .int 0, .ref vd, .ref lw, .ref hg, .ref rk])), (vd, .inl (G.2.1, 8, .inl (fv))), (lw, .inl (G.2.1, 32, .inl (fl))), (hg, .inl (G.2.1, 32, .inl (fh))), (hi, .inl (G.2.1, 8, .inl (fi))), (x, .inr (7, [.ref wa, .ref wb, .ref su, .ref cu, .ref tr, .ref co, .ref lo, .ref pk]))]) (va_runV (As := [.int v1]) (rest := []) ⟨hx, hb, hml, hown, hts⟩ (z_X9_ruleT l G mm nw cq hi ko se nf ns pi 0 v1 (Or.inl h1) H.size) (cwV 1 hts gL_law_X9_rule rfl rfl rfl (by decide +kernel) ⟨Nat.le_of_ble_eq_true rfl, Nat.le_of_ble_eq_true rfl⟩) (zPreV (Wc := [(mm, .inr (9, [.int 0, .ref nw, .ref cq, .ref hi, .int 0, .ref ko, .ref se, .int 0, .ref nf, .ref ns, .ref pi]))]) (q0 := 10) (ci := 9) (q := (RX9, TX9, 11)) hP hD hE hS hA [10] rfl (by decide) rfl rfl) rfl rfl hl.1 rfl (lv_room (Nat.le_of_ble_eq_true rfl)) dL_law_196 ⟨Nat.le_of_ble_eq_true rfl, Nat.le_of_ble_eq_true rfl⟩) hP hD hS hA [10] [0, 1, 2, 3, 4, 5, 6, 7, 8, 9, 11, 12, 13, 14, 15, 16] rfl rfl (by decide) (by decide) (fun u2 H locs hP hD hS => ?_)
    have hP : va_P G.1 vwCl [(wa, .inr (6, [.ref ro, .int 0, .int 0])), (ro, .inl (G.2.2.1, 8, .inr (.inr (.inr (.inr (fr)))))), (r0, .inr (3, [.int rv, .int rh, .ref l0, .ref g0])), (l0, .inl (G.2.1, 4, .inl (f01))), (g0, .inl (G.2.1, 4, .inl (f02))), (su, .inr (4, [.ref wa, .ref sl, .ref sh, .ref sa, .int f1])), (cu, .inr (1, [.ref wa, .ref wb, .ref cc, .ref cs, .ref cm, .int f2])), (tr, .inr (5, [.ref wa, .ref cu, .ref tn, .ref tc, .ref ts, .int 0, .int f3])), (co, .inr (0, [.ref wa, .ref wb, .ref cu, .ref cf, .ref cp, .int 0, .int f4])), (ou, .inl (G.2.2.2.1, 1, .inr (.inl (fun _ => 0)))), (nw, .inr (8, [.int 0, .int 0, .ref vd, .ref lw, .ref hg, .ref rk])), (vd, .inl (G.2.1, 8, .inl (fv))), (lw, .inl (G.2.1, 32, .inl (fl))), (hg, .inl (G.2.1, 32, .inl (fh))), (hi, .inl (G.2.1, 8, .inl (fi))), (x, .inr (7, [.ref wa, .ref wb, .ref su, .ref cu, .ref tr, .ref co, .ref lo, .ref pk])), (mm, .inr (9, [.int 1, .ref nw, .ref cq, .ref hi, .int 0, .ref ko, .ref se, .int 0, .ref nf, .ref ns, .ref pi]))] H := hP
    have hD : va_D A [(wa, .inr (6, [.ref ro, .int 0, .int 0])), (ro, .inl (G.2.2.1, 8, .inr (.inr (.inr (.inr (fr)))))), (r0, .inr (3, [.int rv, .int rh, .ref l0, .ref g0])), (l0, .inl (G.2.1, 4, .inl (f01))), (g0, .inl (G.2.1, 4, .inl (f02))), (su, .inr (4, [.ref wa, .ref sl, .ref sh, .ref sa, .int f1])), (cu, .inr (1, [.ref wa, .ref wb, .ref cc, .ref cs, .ref cm, .int f2])), (tr, .inr (5, [.ref wa, .ref cu, .ref tn, .ref tc, .ref ts, .int 0, .int f3])), (co, .inr (0, [.ref wa, .ref wb, .ref cu, .ref cf, .ref cp, .int 0, .int f4])), (ou, .inl (G.2.2.2.1, 1, .inr (.inl (fun _ => 0)))), (nw, .inr (8, [.int 0, .int 0, .ref vd, .ref lw, .ref hg, .ref rk])), (vd, .inl (G.2.1, 8, .inl (fv))), (lw, .inl (G.2.1, 32, .inl (fl))), (hg, .inl (G.2.1, 32, .inl (fh))), (hi, .inl (G.2.1, 8, .inl (fi))), (x, .inr (7, [.ref wa, .ref wb, .ref su, .ref cu, .ref tr, .ref co, .ref lo, .ref pk])), (mm, .inr (9, [.int 1, .ref nw, .ref cq, .ref hi, .int 0, .ref ko, .ref se, .int 0, .ref nf, .ref ns, .ref pi]))] := hD
    refine W.eq (g2 := F0 m 199 ls [.int 0]) rfl ?_
    refine lv_istore (lv' := [(6, .int 0), (5, .int 1), (4, .int 0), (3, .ref ou), (2, .ref mm), (1, .ref x), (0, .ref b)]) hx hb dL_law_199 hl (by decide) rfl (fun ls hl => ?_)
    refine lv_aload_n hx hb dL_law_201 rfl (lv_at hl 4 rfl) ?_
    refine zcall (wr := [(wa, .inr (6, [.ref ro, .int 0, .int 0])), (ro, .inl (G.2.2.1, 8, .inr (.inr (.inr (.inr (fr)))))), (r0, .inr (3, [.int rv, .int rh, .ref l0, .ref g0])), (l0, .inl (G.2.1, 4, .inl (f01))), (g0, .inl (G.2.1, 4, .inl (f02))), (su, .inr (4, [.ref wa, .ref sl, .ref sh, .ref sa, .int f1])), (cu, .inr (1, [.ref wa, .ref wb, .ref cc, .ref cs, .ref cm, .int f2])), (tr, .inr (5, [.ref wa, .ref cu, .ref tn, .ref tc, .ref ts, .int 0, .int f3])), (co, .inr (0, [.ref wa, .ref wb, .ref cu, .ref cf, .ref cp, .int 0, .int f4])), (ou, .inl (G.2.2.2.1, 1, .inr (.inl (fun _ => 0)))), (nw, .inr (8, [.int 0, .int 0, .ref vd, .ref lw, .ref hg, .ref rk])), (vd, .inl (G.2.1, 8, .inl (fv))), (lw, .inl (G.2.1, 32, .inl (fl))), (hg, .inl (G.2.1, 32, .inl (fh))), (hi, .inl (G.2.1, 8, .inl (fi))), (x, .inr (7, [.ref wa, .ref wb, .ref su, .ref cu, .ref tr, .ref co, .ref lo, .ref pk]))]) (va_runV (As := []) (rest := []) ⟨hx, hb, hml, hown, hts⟩ (z_X9_thrown l G mm nw cq hi ko se nf ns pi 1 H.size) (cwV 0 hts gL_law_X9_thrown rfl rfl rfl (by decide +kernel) ⟨Nat.le_of_ble_eq_true rfl, Nat.le_of_ble_eq_true rfl⟩) (zPreV (Wc := [(mm, .inr (9, [.int 1, .ref nw, .ref cq, .ref hi, .int 0, .ref ko, .ref se, .int 0, .ref nf, .ref ns, .ref pi]))]) (q0 := 16) (ci := 9) (q := (RX9, TX9, 11)) hP hD hE hS hA [16] rfl (by decide) rfl rfl) rfl rfl hl.1 rfl (lv_room (Nat.le_of_ble_eq_true rfl)) dL_law_202 ⟨Nat.le_of_ble_eq_true rfl, Nat.le_of_ble_eq_true rfl⟩) hP hD hS hA [16] [0, 1, 2, 3, 4, 5, 6, 7, 8, 9, 10, 11, 12, 13, 14, 15] rfl rfl (by decide) (by decide) (fun u3 H locs hP hD hS => ?_)
    have hP : va_P G.1 vwCl [(wa, .inr (6, [.ref ro, .int 0, .int 0])), (ro, .inl (G.2.2.1, 8, .inr (.inr (.inr (.inr (fr)))))), (r0, .inr (3, [.int rv, .int rh, .ref l0, .ref g0])), (l0, .inl (G.2.1, 4, .inl (f01))), (g0, .inl (G.2.1, 4, .inl (f02))), (su, .inr (4, [.ref wa, .ref sl, .ref sh, .ref sa, .int f1])), (cu, .inr (1, [.ref wa, .ref wb, .ref cc, .ref cs, .ref cm, .int f2])), (tr, .inr (5, [.ref wa, .ref cu, .ref tn, .ref tc, .ref ts, .int 0, .int f3])), (co, .inr (0, [.ref wa, .ref wb, .ref cu, .ref cf, .ref cp, .int 0, .int f4])), (ou, .inl (G.2.2.2.1, 1, .inr (.inl (fun _ => 0)))), (nw, .inr (8, [.int 0, .int 0, .ref vd, .ref lw, .ref hg, .ref rk])), (vd, .inl (G.2.1, 8, .inl (fv))), (lw, .inl (G.2.1, 32, .inl (fl))), (hg, .inl (G.2.1, 32, .inl (fh))), (hi, .inl (G.2.1, 8, .inl (fi))), (x, .inr (7, [.ref wa, .ref wb, .ref su, .ref cu, .ref tr, .ref co, .ref lo, .ref pk])), (mm, .inr (9, [.int 1, .ref nw, .ref cq, .ref hi, .int 0, .ref ko, .ref se, .int 0, .ref nf, .ref ns, .ref pi]))] H := hP
    have hD : va_D A [(wa, .inr (6, [.ref ro, .int 0, .int 0])), (ro, .inl (G.2.2.1, 8, .inr (.inr (.inr (.inr (fr)))))), (r0, .inr (3, [.int rv, .int rh, .ref l0, .ref g0])), (l0, .inl (G.2.1, 4, .inl (f01))), (g0, .inl (G.2.1, 4, .inl (f02))), (su, .inr (4, [.ref wa, .ref sl, .ref sh, .ref sa, .int f1])), (cu, .inr (1, [.ref wa, .ref wb, .ref cc, .ref cs, .ref cm, .int f2])), (tr, .inr (5, [.ref wa, .ref cu, .ref tn, .ref tc, .ref ts, .int 0, .int f3])), (co, .inr (0, [.ref wa, .ref wb, .ref cu, .ref cf, .ref cp, .int 0, .int f4])), (ou, .inl (G.2.2.2.1, 1, .inr (.inl (fun _ => 0)))), (nw, .inr (8, [.int 0, .int 0, .ref vd, .ref lw, .ref hg, .ref rk])), (vd, .inl (G.2.1, 8, .inl (fv))), (lw, .inl (G.2.1, 32, .inl (fl))), (hg, .inl (G.2.1, 32, .inl (fh))), (hi, .inl (G.2.1, 8, .inl (fi))), (x, .inr (7, [.ref wa, .ref wb, .ref su, .ref cu, .ref tr, .ref co, .ref lo, .ref pk])), (mm, .inr (9, [.int 1, .ref nw, .ref cq, .ref hi, .int 0, .ref ko, .ref se, .int 0, .ref nf, .ref ns, .ref pi]))] := hD
    refine W.eq (g2 := F0 m 205 ls [.int 1]) rfl ?_
    refine lv_iload hx hb dL_law_205 (lv_at hl 1 rfl) ?_
    refine lv_icmp_eq (tgt := 212) hx hb dL_law_207 (by decide) (fun _ => ?_) (fun h9 => absurd (by decide) h9)
    refine lv_iload hx hb dL_law_212 (lv_at hl 1 rfl) ?_
    refine lv_if_ne (tgt := 229) hx hb dL_law_214 (by decide) (fun _ => ?_) (fun h9 => absurd h9 (by decide))
    refine lv_goto (tgt := 1748) hx hb dL_law_229 (by decide) ?_
    exact z_lawend hx hb hr hml hown hts hX hbl hlocks hl0 hA hA2 hbA hE (Nat.le_of_ble_eq_true rfl) (Nat.le_of_ble_eq_true rfl) hS (lv_sub hl [2, 6] rfl)
  · refine lv_aload_n hx hb dL_law_176 rfl (lv_at hl 3 rfl) ?_
    refine lv_aload_n hx hb dL_law_177 rfl (lv_at hl 4 rfl) ?_
    refine lv_iload hx hb dL_law_178 (lv_at hl 0 rfl) ?_
    refine lv_iconst (v := 1) hx hb dL_law_180 (by decide) ?_
    refine lv_iadd hx hb dL_law_181 ?_
    refine zti (v := 1) (by decide) ?_
    refine va_sld hx hb hX hbl hbA hS (zin (by decide +kernel)) dL_law_182 ?_
    refine zti (v := v1) e1 ?_
    refine lv_aload_n hx hb dL_law_183 rfl (lv_at hl 1 rfl) ?_
    refine zcall (wr := [(wa, .inr (6, [.ref ro, .int 0, .int 0])), (ro, .inl (G.2.2.1, 8, .inr (.inr (.inr (.inr (fr)))))), (r0, .inr (3, [.int rv, .int rh, .ref l0, .ref g0])), (l0, .inl (G.2.1, 4, .inl (f01))), (g0, .inl (G.2.1, 4, .inl (f02))), (su, .inr (4, [.ref wa, .ref sl, .ref sh, .ref sa, .int f1])), (cu, .inr (1, [.ref wa, .ref wb, .ref cc, .ref cs, .ref cm, .int f2])), (tr, .inr (5, [.ref wa, .ref cu, .ref tn, .ref tc, .ref ts, .int 0, .int f3])), (co, .inr (0, [.ref wa, .ref wb, .ref cu, .ref cf, .ref cp, .int 0, .int f4])), (ou, .inl (G.2.2.2.1, 1, .inr (.inl (fun _ => 0)))), (mm, .inr (9, [.int 0, .ref nw, .ref cq, .ref hi, .int 0, .ref ko, .ref se, .int 0, .ref nf, .ref ns, .ref pi])), (nw, .inr (8, [.int 0, .int 0, .ref vd, .ref lw, .ref hg, .ref rk])), (vd, .inl (G.2.1, 8, .inl (fv))), (lw, .inl (G.2.1, 32, .inl (fl))), (hg, .inl (G.2.1, 32, .inl (fh))), (hi, .inl (G.2.1, 8, .inl (fi)))]) (zrunH (vx_runSX (As := [.ref x, .int v1, .ref ou]) (rest := []) ⟨hx, hb, hml, hown, hts⟩ (z_L_ruleT l G x wa wb su cu tr co lo pk ou v1 hl0 (Or.inr h1) H.size) (vx_cwSW 3 hts gL_law_L_rule rfl rfl rfl (by decide +kernel) ⟨Nat.le_of_ble_eq_true rfl, Nat.le_of_ble_eq_true rfl⟩) (zPre (Wc := [(x, .inr (7, [.ref wa, .ref wb, .ref su, .ref cu, .ref tr, .ref co, .ref lo, .ref pk]))]) hP hD hE hS hA [0] rfl (by decide)) rfl rfl hl.1 rfl (lv_room (Nat.le_of_ble_eq_true rfl)) dL_law_184 ⟨Nat.le_of_ble_eq_true rfl, Nat.le_of_ble_eq_true rfl⟩)) hP hD hS hA [0] [1, 2, 3, 4, 5, 6, 7, 8, 9, 10, 11, 12, 13, 14, 15, 16] rfl rfl (by decide) (by decide) (fun u1 H locs hP hD hS => ?_)
    have hP : va_P G.1 vwCl [(wa, .inr (6, [.ref ro, .int 0, .int 0])), (ro, .inl (G.2.2.1, 8, .inr (.inr (.inr (.inr (fr)))))), (r0, .inr (3, [.int rv, .int rh, .ref l0, .ref g0])), (l0, .inl (G.2.1, 4, .inl (f01))), (g0, .inl (G.2.1, 4, .inl (f02))), (su, .inr (4, [.ref wa, .ref sl, .ref sh, .ref sa, .int f1])), (cu, .inr (1, [.ref wa, .ref wb, .ref cc, .ref cs, .ref cm, .int f2])), (tr, .inr (5, [.ref wa, .ref cu, .ref tn, .ref tc, .ref ts, .int 0, .int f3])), (co, .inr (0, [.ref wa, .ref wb, .ref cu, .ref cf, .ref cp, .int 0, .int f4])), (ou, .inl (G.2.2.2.1, 1, .inr (.inl (fun _ => 0)))), (mm, .inr (9, [.int 0, .ref nw, .ref cq, .ref hi, .int 0, .ref ko, .ref se, .int 0, .ref nf, .ref ns, .ref pi])), (nw, .inr (8, [.int 0, .int 0, .ref vd, .ref lw, .ref hg, .ref rk])), (vd, .inl (G.2.1, 8, .inl (fv))), (lw, .inl (G.2.1, 32, .inl (fl))), (hg, .inl (G.2.1, 32, .inl (fh))), (hi, .inl (G.2.1, 8, .inl (fi))), (x, .inr (7, [.ref wa, .ref wb, .ref su, .ref cu, .ref tr, .ref co, .ref lo, .ref pk]))] H := hP
    have hD : va_D A [(wa, .inr (6, [.ref ro, .int 0, .int 0])), (ro, .inl (G.2.2.1, 8, .inr (.inr (.inr (.inr (fr)))))), (r0, .inr (3, [.int rv, .int rh, .ref l0, .ref g0])), (l0, .inl (G.2.1, 4, .inl (f01))), (g0, .inl (G.2.1, 4, .inl (f02))), (su, .inr (4, [.ref wa, .ref sl, .ref sh, .ref sa, .int f1])), (cu, .inr (1, [.ref wa, .ref wb, .ref cc, .ref cs, .ref cm, .int f2])), (tr, .inr (5, [.ref wa, .ref cu, .ref tn, .ref tc, .ref ts, .int 0, .int f3])), (co, .inr (0, [.ref wa, .ref wb, .ref cu, .ref cf, .ref cp, .int 0, .int f4])), (ou, .inl (G.2.2.2.1, 1, .inr (.inl (fun _ => 0)))), (mm, .inr (9, [.int 0, .ref nw, .ref cq, .ref hi, .int 0, .ref ko, .ref se, .int 0, .ref nf, .ref ns, .ref pi])), (nw, .inr (8, [.int 0, .int 0, .ref vd, .ref lw, .ref hg, .ref rk])), (vd, .inl (G.2.1, 8, .inl (fv))), (lw, .inl (G.2.1, 32, .inl (fl))), (hg, .inl (G.2.1, 32, .inl (fh))), (hi, .inl (G.2.1, 8, .inl (fi))), (x, .inr (7, [.ref wa, .ref wb, .ref su, .ref cu, .ref tr, .ref co, .ref lo, .ref pk]))] := hD
    refine W.eq (g2 := F0 m 187 ls [.int 1]) rfl ?_
    refine lv_istore (lv' := [(5, .int 1), (4, .int 0), (3, .ref ou), (2, .ref mm), (1, .ref x), (0, .ref b)]) hx hb dL_law_187 hl (by decide) rfl (fun ls hl => ?_)
    refine lv_aload_n hx hb dL_law_189 rfl (lv_at hl 3 rfl) ?_
    refine lv_aload_n hx hb dL_law_190 rfl (lv_at hl 5 rfl) ?_
    refine lv_iload hx hb dL_law_191 (lv_at hl 1 rfl) ?_
    refine lv_iconst (v := 1) hx hb dL_law_193 (by decide) ?_
    refine lv_iadd hx hb dL_law_194 ?_
    refine zti (v := 1) (by decide) ?_
    refine va_sld hx hb hX hbl hbA hS (zin (by decide +kernel)) dL_law_195 ?_
    refine zti (v := v1) e1 ?_
    refine zcall (wr := [(wa, .inr (6, [.ref ro, .int 0, .int 0])), (ro, .inl (G.2.2.1, 8, .inr (.inr (.inr (.inr (fr)))))), (r0, .inr (3, [.int rv, .int rh, .ref l0, .ref g0])), (l0, .inl (G.2.1, 4, .inl (f01))), (g0, .inl (G.2.1, 4, .inl (f02))), (su, .inr (4, [.ref wa, .ref sl, .ref sh, .ref sa, .int f1])), (cu, .inr (1, [.ref wa, .ref wb, .ref cc, .ref cs, .ref cm, .int f2])), (tr, .inr (5, [.ref wa, .ref cu, .ref tn, .ref tc, .ref ts, .int 0, .int f3])), (co, .inr (0, [.ref wa, .ref wb, .ref cu, .ref cf, .ref cp, .int 0, .int f4])), (ou, .inl (G.2.2.2.1, 1, .inr (.inl (fun _ => 0)))), (nw, .inr (8, [.int 0, .int 0, .ref vd, .ref lw, .ref hg, .ref rk])), (vd, .inl (G.2.1, 8, .inl (fv))), (lw, .inl (G.2.1, 32, .inl (fl))), (hg, .inl (G.2.1, 32, .inl (fh))), (hi, .inl (G.2.1, 8, .inl (fi))), (x, .inr (7, [.ref wa, .ref wb, .ref su, .ref cu, .ref tr, .ref co, .ref lo, .ref pk]))]) (va_runV (As := [.int v1]) (rest := []) ⟨hx, hb, hml, hown, hts⟩ (z_X9_ruleT l G mm nw cq hi ko se nf ns pi 0 v1 (Or.inr ⟨h1.1, zgt h1.2⟩) H.size) (cwV 1 hts gL_law_X9_rule rfl rfl rfl (by decide +kernel) ⟨Nat.le_of_ble_eq_true rfl, Nat.le_of_ble_eq_true rfl⟩) (zPreV (Wc := [(mm, .inr (9, [.int 0, .ref nw, .ref cq, .ref hi, .int 0, .ref ko, .ref se, .int 0, .ref nf, .ref ns, .ref pi]))]) (q0 := 10) (ci := 9) (q := (RX9, TX9, 11)) hP hD hE hS hA [10] rfl (by decide) rfl rfl) rfl rfl hl.1 rfl (lv_room (Nat.le_of_ble_eq_true rfl)) dL_law_196 ⟨Nat.le_of_ble_eq_true rfl, Nat.le_of_ble_eq_true rfl⟩) hP hD hS hA [10] [0, 1, 2, 3, 4, 5, 6, 7, 8, 9, 11, 12, 13, 14, 15, 16] rfl rfl (by decide) (by decide) (fun u2 H locs hP hD hS => ?_)
    have hP : va_P G.1 vwCl [(wa, .inr (6, [.ref ro, .int 0, .int 0])), (ro, .inl (G.2.2.1, 8, .inr (.inr (.inr (.inr (fr)))))), (r0, .inr (3, [.int rv, .int rh, .ref l0, .ref g0])), (l0, .inl (G.2.1, 4, .inl (f01))), (g0, .inl (G.2.1, 4, .inl (f02))), (su, .inr (4, [.ref wa, .ref sl, .ref sh, .ref sa, .int f1])), (cu, .inr (1, [.ref wa, .ref wb, .ref cc, .ref cs, .ref cm, .int f2])), (tr, .inr (5, [.ref wa, .ref cu, .ref tn, .ref tc, .ref ts, .int 0, .int f3])), (co, .inr (0, [.ref wa, .ref wb, .ref cu, .ref cf, .ref cp, .int 0, .int f4])), (ou, .inl (G.2.2.2.1, 1, .inr (.inl (fun _ => 0)))), (nw, .inr (8, [.int 0, .int 0, .ref vd, .ref lw, .ref hg, .ref rk])), (vd, .inl (G.2.1, 8, .inl (fv))), (lw, .inl (G.2.1, 32, .inl (fl))), (hg, .inl (G.2.1, 32, .inl (fh))), (hi, .inl (G.2.1, 8, .inl (fi))), (x, .inr (7, [.ref wa, .ref wb, .ref su, .ref cu, .ref tr, .ref co, .ref lo, .ref pk])), (mm, .inr (9, [.int 1, .ref nw, .ref cq, .ref hi, .int 0, .ref ko, .ref se, .int 0, .ref nf, .ref ns, .ref pi]))] H := hP
    have hD : va_D A [(wa, .inr (6, [.ref ro, .int 0, .int 0])), (ro, .inl (G.2.2.1, 8, .inr (.inr (.inr (.inr (fr)))))), (r0, .inr (3, [.int rv, .int rh, .ref l0, .ref g0])), (l0, .inl (G.2.1, 4, .inl (f01))), (g0, .inl (G.2.1, 4, .inl (f02))), (su, .inr (4, [.ref wa, .ref sl, .ref sh, .ref sa, .int f1])), (cu, .inr (1, [.ref wa, .ref wb, .ref cc, .ref cs, .ref cm, .int f2])), (tr, .inr (5, [.ref wa, .ref cu, .ref tn, .ref tc, .ref ts, .int 0, .int f3])), (co, .inr (0, [.ref wa, .ref wb, .ref cu, .ref cf, .ref cp, .int 0, .int f4])), (ou, .inl (G.2.2.2.1, 1, .inr (.inl (fun _ => 0)))), (nw, .inr (8, [.int 0, .int 0, .ref vd, .ref lw, .ref hg, .ref rk])), (vd, .inl (G.2.1, 8, .inl (fv))), (lw, .inl (G.2.1, 32, .inl (fl))), (hg, .inl (G.2.1, 32, .inl (fh))), (hi, .inl (G.2.1, 8, .inl (fi))), (x, .inr (7, [.ref wa, .ref wb, .ref su, .ref cu, .ref tr, .ref co, .ref lo, .ref pk])), (mm, .inr (9, [.int 1, .ref nw, .ref cq, .ref hi, .int 0, .ref ko, .ref se, .int 0, .ref nf, .ref ns, .ref pi]))] := hD
    refine W.eq (g2 := F0 m 199 ls [.int 0]) rfl ?_
    refine lv_istore (lv' := [(6, .int 0), (5, .int 1), (4, .int 0), (3, .ref ou), (2, .ref mm), (1, .ref x), (0, .ref b)]) hx hb dL_law_199 hl (by decide) rfl (fun ls hl => ?_)
    refine lv_aload_n hx hb dL_law_201 rfl (lv_at hl 4 rfl) ?_
    refine zcall (wr := [(wa, .inr (6, [.ref ro, .int 0, .int 0])), (ro, .inl (G.2.2.1, 8, .inr (.inr (.inr (.inr (fr)))))), (r0, .inr (3, [.int rv, .int rh, .ref l0, .ref g0])), (l0, .inl (G.2.1, 4, .inl (f01))), (g0, .inl (G.2.1, 4, .inl (f02))), (su, .inr (4, [.ref wa, .ref sl, .ref sh, .ref sa, .int f1])), (cu, .inr (1, [.ref wa, .ref wb, .ref cc, .ref cs, .ref cm, .int f2])), (tr, .inr (5, [.ref wa, .ref cu, .ref tn, .ref tc, .ref ts, .int 0, .int f3])), (co, .inr (0, [.ref wa, .ref wb, .ref cu, .ref cf, .ref cp, .int 0, .int f4])), (ou, .inl (G.2.2.2.1, 1, .inr (.inl (fun _ => 0)))), (nw, .inr (8, [.int 0, .int 0, .ref vd, .ref lw, .ref hg, .ref rk])), (vd, .inl (G.2.1, 8, .inl (fv))), (lw, .inl (G.2.1, 32, .inl (fl))), (hg, .inl (G.2.1, 32, .inl (fh))), (hi, .inl (G.2.1, 8, .inl (fi))), (x, .inr (7, [.ref wa, .ref wb, .ref su, .ref cu, .ref tr, .ref co, .ref lo, .ref pk]))]) (va_runV (As := []) (rest := []) ⟨hx, hb, hml, hown, hts⟩ (z_X9_thrown l G mm nw cq hi ko se nf ns pi 1 H.size) (cwV 0 hts gL_law_X9_thrown rfl rfl rfl (by decide +kernel) ⟨Nat.le_of_ble_eq_true rfl, Nat.le_of_ble_eq_true rfl⟩) (zPreV (Wc := [(mm, .inr (9, [.int 1, .ref nw, .ref cq, .ref hi, .int 0, .ref ko, .ref se, .int 0, .ref nf, .ref ns, .ref pi]))]) (q0 := 16) (ci := 9) (q := (RX9, TX9, 11)) hP hD hE hS hA [16] rfl (by decide) rfl rfl) rfl rfl hl.1 rfl (lv_room (Nat.le_of_ble_eq_true rfl)) dL_law_202 ⟨Nat.le_of_ble_eq_true rfl, Nat.le_of_ble_eq_true rfl⟩) hP hD hS hA [16] [0, 1, 2, 3, 4, 5, 6, 7, 8, 9, 10, 11, 12, 13, 14, 15] rfl rfl (by decide) (by decide) (fun u3 H locs hP hD hS => ?_)
    have hP : va_P G.1 vwCl [(wa, .inr (6, [.ref ro, .int 0, .int 0])), (ro, .inl (G.2.2.1, 8, .inr (.inr (.inr (.inr (fr)))))), (r0, .inr (3, [.int rv, .int rh, .ref l0, .ref g0])), (l0, .inl (G.2.1, 4, .inl (f01))), (g0, .inl (G.2.1, 4, .inl (f02))), (su, .inr (4, [.ref wa, .ref sl, .ref sh, .ref sa, .int f1])), (cu, .inr (1, [.ref wa, .ref wb, .ref cc, .ref cs, .ref cm, .int f2])), (tr, .inr (5, [.ref wa, .ref cu, .ref tn, .ref tc, .ref ts, .int 0, .int f3])), (co, .inr (0, [.ref wa, .ref wb, .ref cu, .ref cf, .ref cp, .int 0, .int f4])), (ou, .inl (G.2.2.2.1, 1, .inr (.inl (fun _ => 0)))), (nw, .inr (8, [.int 0, .int 0, .ref vd, .ref lw, .ref hg, .ref rk])), (vd, .inl (G.2.1, 8, .inl (fv))), (lw, .inl (G.2.1, 32, .inl (fl))), (hg, .inl (G.2.1, 32, .inl (fh))), (hi, .inl (G.2.1, 8, .inl (fi))), (x, .inr (7, [.ref wa, .ref wb, .ref su, .ref cu, .ref tr, .ref co, .ref lo, .ref pk])), (mm, .inr (9, [.int 1, .ref nw, .ref cq, .ref hi, .int 0, .ref ko, .ref se, .int 0, .ref nf, .ref ns, .ref pi]))] H := hP
    have hD : va_D A [(wa, .inr (6, [.ref ro, .int 0, .int 0])), (ro, .inl (G.2.2.1, 8, .inr (.inr (.inr (.inr (fr)))))), (r0, .inr (3, [.int rv, .int rh, .ref l0, .ref g0])), (l0, .inl (G.2.1, 4, .inl (f01))), (g0, .inl (G.2.1, 4, .inl (f02))), (su, .inr (4, [.ref wa, .ref sl, .ref sh, .ref sa, .int f1])), (cu, .inr (1, [.ref wa, .ref wb, .ref cc, .ref cs, .ref cm, .int f2])), (tr, .inr (5, [.ref wa, .ref cu, .ref tn, .ref tc, .ref ts, .int 0, .int f3])), (co, .inr (0, [.ref wa, .ref wb, .ref cu, .ref cf, .ref cp, .int 0, .int f4])), (ou, .inl (G.2.2.2.1, 1, .inr (.inl (fun _ => 0)))), (nw, .inr (8, [.int 0, .int 0, .ref vd, .ref lw, .ref hg, .ref rk])), (vd, .inl (G.2.1, 8, .inl (fv))), (lw, .inl (G.2.1, 32, .inl (fl))), (hg, .inl (G.2.1, 32, .inl (fh))), (hi, .inl (G.2.1, 8, .inl (fi))), (x, .inr (7, [.ref wa, .ref wb, .ref su, .ref cu, .ref tr, .ref co, .ref lo, .ref pk])), (mm, .inr (9, [.int 1, .ref nw, .ref cq, .ref hi, .int 0, .ref ko, .ref se, .int 0, .ref nf, .ref ns, .ref pi]))] := hD
    refine W.eq (g2 := F0 m 205 ls [.int 1]) rfl ?_
    refine lv_iload hx hb dL_law_205 (lv_at hl 1 rfl) ?_
    refine lv_icmp_eq (tgt := 212) hx hb dL_law_207 (by decide) (fun _ => ?_) (fun h9 => absurd (by decide) h9)
    refine lv_iload hx hb dL_law_212 (lv_at hl 1 rfl) ?_
    refine lv_if_ne (tgt := 229) hx hb dL_law_214 (by decide) (fun _ => ?_) (fun h9 => absurd h9 (by decide))
    refine lv_goto (tgt := 1748) hx hb dL_law_229 (by decide) ?_
    exact z_lawend hx hb hr hml hown hts hX hbl hlocks hl0 hA hA2 hbA hE (Nat.le_of_ble_eq_true rfl) (Nat.le_of_ble_eq_true rfl) hS (lv_sub hl [2, 6] rfl)
  · refine lv_aload_n hx hb dL_law_176 rfl (lv_at hl 3 rfl) ?_
    refine lv_aload_n hx hb dL_law_177 rfl (lv_at hl 4 rfl) ?_
    refine lv_iload hx hb dL_law_178 (lv_at hl 0 rfl) ?_
    refine lv_iconst (v := 1) hx hb dL_law_180 (by decide) ?_
    refine lv_iadd hx hb dL_law_181 ?_
    refine zti (v := 1) (by decide) ?_
    refine va_sld hx hb hX hbl hbA hS (zin (by decide +kernel)) dL_law_182 ?_
    refine zti (v := v1) e1 ?_
    refine lv_aload_n hx hb dL_law_183 rfl (lv_at hl 1 rfl) ?_
    refine zcall (wr := [(mm, .inr (9, [.int 0, .ref nw, .ref cq, .ref hi, .int 0, .ref ko, .ref se, .int 0, .ref nf, .ref ns, .ref pi])), (nw, .inr (8, [.int 0, .int 0, .ref vd, .ref lw, .ref hg, .ref rk])), (vd, .inl (G.2.1, 8, .inl (fv))), (lw, .inl (G.2.1, 32, .inl (fl))), (hg, .inl (G.2.1, 32, .inl (fh))), (hi, .inl (G.2.1, 8, .inl (fi)))]) (zrunH (vx_runSX (As := [.ref x, .int v1, .ref ou]) (rest := []) ⟨hx, hb, hml, hown, hts⟩ (z_L_rule l G x wa wb su cu tr co lo pk ro ou v1 r0 l0 g0 rv rh (f01) (f02) (fr) sl sh sa cc cs cm tn tc ts cf cp f1 f2 f3 f4 (fun _ => 0) h1.1 h1.2 hr0 H.size) (vx_cwSW 3 hts gL_law_L_rule rfl rfl rfl (by decide +kernel) ⟨Nat.le_of_ble_eq_true rfl, Nat.le_of_ble_eq_true rfl⟩) (zPre (Wc := [(x, .inr (7, [.ref wa, .ref wb, .ref su, .ref cu, .ref tr, .ref co, .ref lo, .ref pk])), (wa, .inr (6, [.ref ro, .int 0, .int 0])), (ro, .inl (G.2.2.1, 8, .inr (.inr (.inr (.inr (fr)))))), (r0, .inr (3, [.int rv, .int rh, .ref l0, .ref g0])), (l0, .inl (G.2.1, 4, .inl (f01))), (g0, .inl (G.2.1, 4, .inl (f02))), (su, .inr (4, [.ref wa, .ref sl, .ref sh, .ref sa, .int f1])), (cu, .inr (1, [.ref wa, .ref wb, .ref cc, .ref cs, .ref cm, .int f2])), (tr, .inr (5, [.ref wa, .ref cu, .ref tn, .ref tc, .ref ts, .int 0, .int f3])), (co, .inr (0, [.ref wa, .ref wb, .ref cu, .ref cf, .ref cp, .int 0, .int f4])), (ou, .inl (G.2.2.2.1, 1, .inr (.inl (fun _ => 0))))]) hP hD hE hS hA [0, 1, 2, 3, 4, 5, 6, 7, 8, 9, 10] rfl (by decide)) rfl rfl hl.1 rfl (lv_room (Nat.le_of_ble_eq_true rfl)) dL_law_184 ⟨Nat.le_of_ble_eq_true rfl, Nat.le_of_ble_eq_true rfl⟩)) hP hD hS hA [0, 1, 2, 3, 4, 5, 6, 7, 8, 9, 10] [11, 12, 13, 14, 15, 16] rfl rfl (by decide) (by decide) (fun u1 H locs hP hD hS => ?_)
    have hP : va_P G.1 vwCl [(mm, .inr (9, [.int 0, .ref nw, .ref cq, .ref hi, .int 0, .ref ko, .ref se, .int 0, .ref nf, .ref ns, .ref pi])), (nw, .inr (8, [.int 0, .int 0, .ref vd, .ref lw, .ref hg, .ref rk])), (vd, .inl (G.2.1, 8, .inl (fv))), (lw, .inl (G.2.1, 32, .inl (fl))), (hg, .inl (G.2.1, 32, .inl (fh))), (hi, .inl (G.2.1, 8, .inl (fi))), (ou, .inl (G.2.2.2.1, 1, .inr (.inl (vp_updL (fun _ => 0) 0 0)))), (wa, .inr (6, [.ref ro, .int 1, .int 0])), (ro, .inl (G.2.2.1, 8, .inr (.inr (.inr (.inr (fr)))))), (r0, .inr (3, [.int v1, .int 0, .ref l0, .ref g0])), (l0, .inl (G.2.1, 4, .inl (upd (upd (upd (upd f01 0 0) 1 0) 2 0) 3 0))), (g0, .inl (G.2.1, 4, .inl (upd (upd (upd (upd f02 0 255) 1 255) 2 1023) 3 3))), (x, .inr (7, [.ref wa, .ref wb, .ref su, .ref cu, .ref tr, .ref co, .ref lo, .ref pk])), (su, .inr (4, [.ref wa, .ref sl, .ref sh, .ref sa, .int 0])), (cu, .inr (1, [.ref wa, .ref wb, .ref cc, .ref cs, .ref cm, .int 0])), (tr, .inr (5, [.ref wa, .ref cu, .ref tn, .ref tc, .ref ts, .int 0, .int 0])), (co, .inr (0, [.ref wa, .ref wb, .ref cu, .ref cf, .ref cp, .int 0, .int 0]))] H := hP
    have hD : va_D A [(mm, .inr (9, [.int 0, .ref nw, .ref cq, .ref hi, .int 0, .ref ko, .ref se, .int 0, .ref nf, .ref ns, .ref pi])), (nw, .inr (8, [.int 0, .int 0, .ref vd, .ref lw, .ref hg, .ref rk])), (vd, .inl (G.2.1, 8, .inl (fv))), (lw, .inl (G.2.1, 32, .inl (fl))), (hg, .inl (G.2.1, 32, .inl (fh))), (hi, .inl (G.2.1, 8, .inl (fi))), (ou, .inl (G.2.2.2.1, 1, .inr (.inl (vp_updL (fun _ => 0) 0 0)))), (wa, .inr (6, [.ref ro, .int 1, .int 0])), (ro, .inl (G.2.2.1, 8, .inr (.inr (.inr (.inr (fr)))))), (r0, .inr (3, [.int v1, .int 0, .ref l0, .ref g0])), (l0, .inl (G.2.1, 4, .inl (upd (upd (upd (upd f01 0 0) 1 0) 2 0) 3 0))), (g0, .inl (G.2.1, 4, .inl (upd (upd (upd (upd f02 0 255) 1 255) 2 1023) 3 3))), (x, .inr (7, [.ref wa, .ref wb, .ref su, .ref cu, .ref tr, .ref co, .ref lo, .ref pk])), (su, .inr (4, [.ref wa, .ref sl, .ref sh, .ref sa, .int 0])), (cu, .inr (1, [.ref wa, .ref wb, .ref cc, .ref cs, .ref cm, .int 0])), (tr, .inr (5, [.ref wa, .ref cu, .ref tn, .ref tc, .ref ts, .int 0, .int 0])), (co, .inr (0, [.ref wa, .ref wb, .ref cu, .ref cf, .ref cp, .int 0, .int 0]))] := hD
    refine W.eq (g2 := F0 m 187 ls [.int 0]) rfl ?_
    refine lv_istore (lv' := [(5, .int 0), (4, .int 0), (3, .ref ou), (2, .ref mm), (1, .ref x), (0, .ref b)]) hx hb dL_law_187 hl (by decide) rfl (fun ls hl => ?_)
    refine lv_aload_n hx hb dL_law_189 rfl (lv_at hl 3 rfl) ?_
    refine lv_aload_n hx hb dL_law_190 rfl (lv_at hl 5 rfl) ?_
    refine lv_iload hx hb dL_law_191 (lv_at hl 1 rfl) ?_
    refine lv_iconst (v := 1) hx hb dL_law_193 (by decide) ?_
    refine lv_iadd hx hb dL_law_194 ?_
    refine zti (v := 1) (by decide) ?_
    refine va_sld hx hb hX hbl hbA hS (zin (by decide +kernel)) dL_law_195 ?_
    refine zti (v := v1) e1 ?_
    refine zcall (wr := [(ou, .inl (G.2.2.2.1, 1, .inr (.inl (vp_updL (fun _ => 0) 0 0)))), (wa, .inr (6, [.ref ro, .int 1, .int 0])), (ro, .inl (G.2.2.1, 8, .inr (.inr (.inr (.inr (fr)))))), (r0, .inr (3, [.int v1, .int 0, .ref l0, .ref g0])), (l0, .inl (G.2.1, 4, .inl (upd (upd (upd (upd f01 0 0) 1 0) 2 0) 3 0))), (g0, .inl (G.2.1, 4, .inl (upd (upd (upd (upd f02 0 255) 1 255) 2 1023) 3 3))), (x, .inr (7, [.ref wa, .ref wb, .ref su, .ref cu, .ref tr, .ref co, .ref lo, .ref pk])), (su, .inr (4, [.ref wa, .ref sl, .ref sh, .ref sa, .int 0])), (cu, .inr (1, [.ref wa, .ref wb, .ref cc, .ref cs, .ref cm, .int 0])), (tr, .inr (5, [.ref wa, .ref cu, .ref tn, .ref tc, .ref ts, .int 0, .int 0])), (co, .inr (0, [.ref wa, .ref wb, .ref cu, .ref cf, .ref cp, .int 0, .int 0]))]) (va_runV (As := [.int v1]) (rest := []) ⟨hx, hb, hml, hown, hts⟩ (z_X9_rule l G mm nw cq hi ko se nf ns pi 0 vd lw hg rk v1 (fv) (fl) (fh) (fi) h1.1 (zng h1.2) H.size) (cwV 1 hts gL_law_X9_rule rfl rfl rfl (by decide +kernel) ⟨Nat.le_of_ble_eq_true rfl, Nat.le_of_ble_eq_true rfl⟩) (zPreV (Wc := [(mm, .inr (9, [.int 0, .ref nw, .ref cq, .ref hi, .int 0, .ref ko, .ref se, .int 0, .ref nf, .ref ns, .ref pi])), (nw, .inr (8, [.int 0, .int 0, .ref vd, .ref lw, .ref hg, .ref rk])), (vd, .inl (G.2.1, 8, .inl (fv))), (lw, .inl (G.2.1, 32, .inl (fl))), (hg, .inl (G.2.1, 32, .inl (fh))), (hi, .inl (G.2.1, 8, .inl (fi)))]) (q0 := 0) (ci := 9) (q := (RX9, TX9, 11)) hP hD hE hS hA [0, 1, 2, 3, 4, 5] rfl (by decide) rfl rfl) rfl rfl hl.1 rfl (lv_room (Nat.le_of_ble_eq_true rfl)) dL_law_196 ⟨Nat.le_of_ble_eq_true rfl, Nat.le_of_ble_eq_true rfl⟩) hP hD hS hA [0, 1, 2, 3, 4, 5] [6, 7, 8, 9, 10, 11, 12, 13, 14, 15, 16] rfl rfl (by decide) (by decide) (fun u2 H locs hP hD hS => ?_)
    have hP : va_P G.1 vwCl [(ou, .inl (G.2.2.2.1, 1, .inr (.inl (vp_updL (fun _ => 0) 0 0)))), (wa, .inr (6, [.ref ro, .int 1, .int 0])), (ro, .inl (G.2.2.1, 8, .inr (.inr (.inr (.inr (fr)))))), (r0, .inr (3, [.int v1, .int 0, .ref l0, .ref g0])), (l0, .inl (G.2.1, 4, .inl (upd (upd (upd (upd f01 0 0) 1 0) 2 0) 3 0))), (g0, .inl (G.2.1, 4, .inl (upd (upd (upd (upd f02 0 255) 1 255) 2 1023) 3 3))), (x, .inr (7, [.ref wa, .ref wb, .ref su, .ref cu, .ref tr, .ref co, .ref lo, .ref pk])), (su, .inr (4, [.ref wa, .ref sl, .ref sh, .ref sa, .int 0])), (cu, .inr (1, [.ref wa, .ref wb, .ref cc, .ref cs, .ref cm, .int 0])), (tr, .inr (5, [.ref wa, .ref cu, .ref tn, .ref tc, .ref ts, .int 0, .int 0])), (co, .inr (0, [.ref wa, .ref wb, .ref cu, .ref cf, .ref cp, .int 0, .int 0])), (mm, .inr (9, [.int 0, .ref nw, .ref cq, .ref hi, .int 0, .ref ko, .ref se, .int 0, .ref nf, .ref ns, .ref pi])), (nw, .inr (8, [.int 1, .int 0, .ref vd, .ref lw, .ref hg, .ref rk])), (vd, .inl (G.2.1, 8, .inl (upd fv 0 v1))), (lw, .inl (G.2.1, 32, .inl (upd (upd (upd (upd fl 0 0) 1 0) 2 0) 3 0))), (hg, .inl (G.2.1, 32, .inl (upd (upd (upd (upd fh 0 255) 1 255) 2 1023) 3 3))), (hi, .inl (G.2.1, 8, .inl (upd fi 0 0)))] H := hP
    have hD : va_D A [(ou, .inl (G.2.2.2.1, 1, .inr (.inl (vp_updL (fun _ => 0) 0 0)))), (wa, .inr (6, [.ref ro, .int 1, .int 0])), (ro, .inl (G.2.2.1, 8, .inr (.inr (.inr (.inr (fr)))))), (r0, .inr (3, [.int v1, .int 0, .ref l0, .ref g0])), (l0, .inl (G.2.1, 4, .inl (upd (upd (upd (upd f01 0 0) 1 0) 2 0) 3 0))), (g0, .inl (G.2.1, 4, .inl (upd (upd (upd (upd f02 0 255) 1 255) 2 1023) 3 3))), (x, .inr (7, [.ref wa, .ref wb, .ref su, .ref cu, .ref tr, .ref co, .ref lo, .ref pk])), (su, .inr (4, [.ref wa, .ref sl, .ref sh, .ref sa, .int 0])), (cu, .inr (1, [.ref wa, .ref wb, .ref cc, .ref cs, .ref cm, .int 0])), (tr, .inr (5, [.ref wa, .ref cu, .ref tn, .ref tc, .ref ts, .int 0, .int 0])), (co, .inr (0, [.ref wa, .ref wb, .ref cu, .ref cf, .ref cp, .int 0, .int 0])), (mm, .inr (9, [.int 0, .ref nw, .ref cq, .ref hi, .int 0, .ref ko, .ref se, .int 0, .ref nf, .ref ns, .ref pi])), (nw, .inr (8, [.int 1, .int 0, .ref vd, .ref lw, .ref hg, .ref rk])), (vd, .inl (G.2.1, 8, .inl (upd fv 0 v1))), (lw, .inl (G.2.1, 32, .inl (upd (upd (upd (upd fl 0 0) 1 0) 2 0) 3 0))), (hg, .inl (G.2.1, 32, .inl (upd (upd (upd (upd fh 0 255) 1 255) 2 1023) 3 3))), (hi, .inl (G.2.1, 8, .inl (upd fi 0 0)))] := hD
    refine W.eq (g2 := F0 m 199 ls [.int 0]) rfl ?_
    refine lv_istore (lv' := [(6, .int 0), (5, .int 0), (4, .int 0), (3, .ref ou), (2, .ref mm), (1, .ref x), (0, .ref b)]) hx hb dL_law_199 hl (by decide) rfl (fun ls hl => ?_)
    refine lv_aload_n hx hb dL_law_201 rfl (lv_at hl 4 rfl) ?_
    refine zcall (wr := [(ou, .inl (G.2.2.2.1, 1, .inr (.inl (vp_updL (fun _ => 0) 0 0)))), (wa, .inr (6, [.ref ro, .int 1, .int 0])), (ro, .inl (G.2.2.1, 8, .inr (.inr (.inr (.inr (fr)))))), (r0, .inr (3, [.int v1, .int 0, .ref l0, .ref g0])), (l0, .inl (G.2.1, 4, .inl (upd (upd (upd (upd f01 0 0) 1 0) 2 0) 3 0))), (g0, .inl (G.2.1, 4, .inl (upd (upd (upd (upd f02 0 255) 1 255) 2 1023) 3 3))), (x, .inr (7, [.ref wa, .ref wb, .ref su, .ref cu, .ref tr, .ref co, .ref lo, .ref pk])), (su, .inr (4, [.ref wa, .ref sl, .ref sh, .ref sa, .int 0])), (cu, .inr (1, [.ref wa, .ref wb, .ref cc, .ref cs, .ref cm, .int 0])), (tr, .inr (5, [.ref wa, .ref cu, .ref tn, .ref tc, .ref ts, .int 0, .int 0])), (co, .inr (0, [.ref wa, .ref wb, .ref cu, .ref cf, .ref cp, .int 0, .int 0])), (nw, .inr (8, [.int 1, .int 0, .ref vd, .ref lw, .ref hg, .ref rk])), (vd, .inl (G.2.1, 8, .inl (upd fv 0 v1))), (lw, .inl (G.2.1, 32, .inl (upd (upd (upd (upd fl 0 0) 1 0) 2 0) 3 0))), (hg, .inl (G.2.1, 32, .inl (upd (upd (upd (upd fh 0 255) 1 255) 2 1023) 3 3))), (hi, .inl (G.2.1, 8, .inl (upd fi 0 0)))]) (va_runV (As := []) (rest := []) ⟨hx, hb, hml, hown, hts⟩ (z_X9_thrown l G mm nw cq hi ko se nf ns pi 0 H.size) (cwV 0 hts gL_law_X9_thrown rfl rfl rfl (by decide +kernel) ⟨Nat.le_of_ble_eq_true rfl, Nat.le_of_ble_eq_true rfl⟩) (zPreV (Wc := [(mm, .inr (9, [.int 0, .ref nw, .ref cq, .ref hi, .int 0, .ref ko, .ref se, .int 0, .ref nf, .ref ns, .ref pi]))]) (q0 := 11) (ci := 9) (q := (RX9, TX9, 11)) hP hD hE hS hA [11] rfl (by decide) rfl rfl) rfl rfl hl.1 rfl (lv_room (Nat.le_of_ble_eq_true rfl)) dL_law_202 ⟨Nat.le_of_ble_eq_true rfl, Nat.le_of_ble_eq_true rfl⟩) hP hD hS hA [11] [0, 1, 2, 3, 4, 5, 6, 7, 8, 9, 10, 12, 13, 14, 15, 16] rfl rfl (by decide) (by decide) (fun u3 H locs hP hD hS => ?_)
    have hP : va_P G.1 vwCl [(ou, .inl (G.2.2.2.1, 1, .inr (.inl (vp_updL (fun _ => 0) 0 0)))), (wa, .inr (6, [.ref ro, .int 1, .int 0])), (ro, .inl (G.2.2.1, 8, .inr (.inr (.inr (.inr (fr)))))), (r0, .inr (3, [.int v1, .int 0, .ref l0, .ref g0])), (l0, .inl (G.2.1, 4, .inl (upd (upd (upd (upd f01 0 0) 1 0) 2 0) 3 0))), (g0, .inl (G.2.1, 4, .inl (upd (upd (upd (upd f02 0 255) 1 255) 2 1023) 3 3))), (x, .inr (7, [.ref wa, .ref wb, .ref su, .ref cu, .ref tr, .ref co, .ref lo, .ref pk])), (su, .inr (4, [.ref wa, .ref sl, .ref sh, .ref sa, .int 0])), (cu, .inr (1, [.ref wa, .ref wb, .ref cc, .ref cs, .ref cm, .int 0])), (tr, .inr (5, [.ref wa, .ref cu, .ref tn, .ref tc, .ref ts, .int 0, .int 0])), (co, .inr (0, [.ref wa, .ref wb, .ref cu, .ref cf, .ref cp, .int 0, .int 0])), (nw, .inr (8, [.int 1, .int 0, .ref vd, .ref lw, .ref hg, .ref rk])), (vd, .inl (G.2.1, 8, .inl (upd fv 0 v1))), (lw, .inl (G.2.1, 32, .inl (upd (upd (upd (upd fl 0 0) 1 0) 2 0) 3 0))), (hg, .inl (G.2.1, 32, .inl (upd (upd (upd (upd fh 0 255) 1 255) 2 1023) 3 3))), (hi, .inl (G.2.1, 8, .inl (upd fi 0 0))), (mm, .inr (9, [.int 0, .ref nw, .ref cq, .ref hi, .int 0, .ref ko, .ref se, .int 0, .ref nf, .ref ns, .ref pi]))] H := hP
    have hD : va_D A [(ou, .inl (G.2.2.2.1, 1, .inr (.inl (vp_updL (fun _ => 0) 0 0)))), (wa, .inr (6, [.ref ro, .int 1, .int 0])), (ro, .inl (G.2.2.1, 8, .inr (.inr (.inr (.inr (fr)))))), (r0, .inr (3, [.int v1, .int 0, .ref l0, .ref g0])), (l0, .inl (G.2.1, 4, .inl (upd (upd (upd (upd f01 0 0) 1 0) 2 0) 3 0))), (g0, .inl (G.2.1, 4, .inl (upd (upd (upd (upd f02 0 255) 1 255) 2 1023) 3 3))), (x, .inr (7, [.ref wa, .ref wb, .ref su, .ref cu, .ref tr, .ref co, .ref lo, .ref pk])), (su, .inr (4, [.ref wa, .ref sl, .ref sh, .ref sa, .int 0])), (cu, .inr (1, [.ref wa, .ref wb, .ref cc, .ref cs, .ref cm, .int 0])), (tr, .inr (5, [.ref wa, .ref cu, .ref tn, .ref tc, .ref ts, .int 0, .int 0])), (co, .inr (0, [.ref wa, .ref wb, .ref cu, .ref cf, .ref cp, .int 0, .int 0])), (nw, .inr (8, [.int 1, .int 0, .ref vd, .ref lw, .ref hg, .ref rk])), (vd, .inl (G.2.1, 8, .inl (upd fv 0 v1))), (lw, .inl (G.2.1, 32, .inl (upd (upd (upd (upd fl 0 0) 1 0) 2 0) 3 0))), (hg, .inl (G.2.1, 32, .inl (upd (upd (upd (upd fh 0 255) 1 255) 2 1023) 3 3))), (hi, .inl (G.2.1, 8, .inl (upd fi 0 0))), (mm, .inr (9, [.int 0, .ref nw, .ref cq, .ref hi, .int 0, .ref ko, .ref se, .int 0, .ref nf, .ref ns, .ref pi]))] := hD
    refine W.eq (g2 := F0 m 205 ls [.int 0]) rfl ?_
    refine lv_iload hx hb dL_law_205 (lv_at hl 1 rfl) ?_
    refine lv_icmp_eq (tgt := 212) hx hb dL_law_207 (by decide) (fun _ => ?_) (fun h9 => absurd (by decide) h9)
    refine lv_iload hx hb dL_law_212 (lv_at hl 1 rfl) ?_
    refine lv_if_ne (tgt := 229) hx hb dL_law_214 (by decide) (fun h9 => absurd (by decide) h9) (fun _ => ?_)
    refine lv_aload_n hx hb dL_law_217 rfl (lv_at hl 3 rfl) ?_
    refine lv_iconst (v := 0) hx hb dL_law_218 (by decide) ?_
    refine va_lald hx hb hE.1 hP 0 2 rfl rfl (zin (by decide +kernel)) dL_law_219 ?_
    refine ztl (v := 0) rfl ?_
    refine lv_iload hx hb dL_law_220 (lv_at hl 0 rfl) ?_
    refine lv_i2l (v := 0) hx hb dL_law_222 (by decide) ?_
    refine W.lcmp hx hb dL_law_223 ?_
    refine zti (v := 0) (by decide) ?_
    refine lv_if_eq (tgt := 229) hx hb dL_law_224 (by decide) (fun _ => ?_) (fun h9 => absurd (by decide) h9)
    refine lv_goto (tgt := 1748) hx hb dL_law_229 (by decide) ?_
    exact z_lawend hx hb hr hml hown hts hX hbl hlocks hl0 hA hA2 hbA hE (Nat.le_of_ble_eq_true rfl) (Nat.le_of_ble_eq_true rfl) hS (lv_sub hl [2, 6] rfl)

set_option maxHeartbeats 4000000 in
set_option maxRecDepth 100000 in
theorem z_case1 {p : Program} {l : Launch} {e : Env} {s : State} {m : MethodId} {below : List Frame} {meth : Method} {c : Code} {A : Nat → Prop} {H : Heap} {locs : List Loc} {ls : Array Slot} {G : zG} {b : Nat} {xs : Nat → Int32} (hx : p.tables.exec = Jvm.exec) (hb : c.code = code) (hr : meth.sig.returnType = ret) (hml : c.maxLocals = 9) (hown : s.vm.findClass RL = some m.cls) (hts : ∀ w ∈ wsL_law, w.before #[Value.ref b] s = true) (hX : va_X b 5 xs s s.heap) (hbl : b < s.heap.size) (hlocks : meth.locks = false) (hl0 : l.stackTraces = false) (hA : ∀ q : Nat, s.heap.size ≤ q → A q) (hA2 : ∀ q : Nat, A q → s.heap.size ≤ q) (hbA : ¬ A b) (hE : zZ G A s s.heap) {x : Nat} {wa : Nat} {wb : Nat} {su : Nat} {cu : Nat} {tr : Nat} {co : Nat} {lo : Nat} {pk : Nat} {ro : Nat} {ou : Nat} {mm : Nat} {nw : Nat} {cq : Nat} {hi : Nat} {ko : Nat} {se : Nat} {nf : Nat} {ns : Nat} {pi : Nat} {vd : Nat} {lw : Nat} {hg : Nat} {rk : Nat} (v1 : Int32) (e1 : xs 1 = v1) (v2 : Int32) (e2 : xs 2 = v2) (v3 : Int32) (e3 : xs 3 = v3) (v4 : Int32) (e4 : xs 4 = v4) (hP : va_P G.1 vwCl [(x, .inr (7, [.ref wa, .ref wb, .ref su, .ref cu, .ref tr, .ref co, .ref lo, .ref pk])), (wa, .inr (6, [.ref ro, .int 0, .int 0])), (mm, .inr (9, [.int 0, .ref nw, .ref cq, .ref hi, .int 0, .ref ko, .ref se, .int 0, .ref nf, .ref ns, .ref pi])), (nw, .inr (8, [.int 0, .int 0, .ref vd, .ref lw, .ref hg, .ref rk]))] H) (hD : va_D A [(x, .inr (7, [.ref wa, .ref wb, .ref su, .ref cu, .ref tr, .ref co, .ref lo, .ref pk])), (wa, .inr (6, [.ref ro, .int 0, .int 0])), (mm, .inr (9, [.int 0, .ref nw, .ref cq, .ref hi, .int 0, .ref ko, .ref se, .int 0, .ref nf, .ref ns, .ref pi])), (nw, .inr (8, [.int 0, .int 0, .ref vd, .ref lw, .ref hg, .ref rk]))]) (hS : va_S A s.heap H locs) (hl : lv_has ls 9 [(4, .int 0), (3, .ref ou), (2, .ref mm), (1, .ref x), (0, .ref b)]) : W p l e room_1 s m #[Value.ref b] below meth c H locs 89 9213 (lw_Z below #[Value.ref b] s) (F0 m 232 ls []) := by
  refine lv_aload_n hx hb dL_law_232 rfl (lv_at hl 3 rfl) ?_
  refine lv_aload_n hx hb dL_law_233 rfl (lv_at hl 4 rfl) ?_
  refine lv_iload hx hb dL_law_234 (lv_at hl 0 rfl) ?_
  refine lv_iconst (v := 1) hx hb dL_law_236 (by decide) ?_
  refine lv_iadd hx hb dL_law_237 ?_
  refine zti (v := 1) (by decide) ?_
  refine va_sld hx hb hX hbl hbA hS (zin (by decide +kernel)) dL_law_238 ?_
  refine zti (v := v1) e1 ?_
  refine lv_aload_n hx hb dL_law_239 rfl (lv_at hl 4 rfl) ?_
  refine lv_iload hx hb dL_law_240 (lv_at hl 0 rfl) ?_
  refine lv_iconst (v := 2) hx hb dL_law_242 (by decide) ?_
  refine lv_iadd hx hb dL_law_243 ?_
  refine zti (v := 2) (by decide) ?_
  refine va_sld hx hb hX hbl hbA hS (zin (by decide +kernel)) dL_law_244 ?_
  refine zti (v := v2) e2 ?_
  refine lv_aload_n hx hb dL_law_245 rfl (lv_at hl 4 rfl) ?_
  refine lv_iload hx hb dL_law_246 (lv_at hl 0 rfl) ?_
  refine lv_iconst (v := 3) hx hb dL_law_248 (by decide) ?_
  refine lv_iadd hx hb dL_law_249 ?_
  refine zti (v := 3) (by decide) ?_
  refine va_sld hx hb hX hbl hbA hS (zin (by decide +kernel)) dL_law_250 ?_
  refine zti (v := v3) e3 ?_
  refine lv_aload_n hx hb dL_law_251 rfl (lv_at hl 4 rfl) ?_
  refine lv_iload hx hb dL_law_252 (lv_at hl 0 rfl) ?_
  refine lv_iconst (v := 4) hx hb dL_law_254 (by decide) ?_
  refine lv_iadd hx hb dL_law_255 ?_
  refine zti (v := 4) (by decide) ?_
  refine va_sld hx hb hX hbl hbA hS (zin (by decide +kernel)) dL_law_256 ?_
  refine zti (v := v4) e4 ?_
  refine lv_aload_n hx hb dL_law_257 rfl (lv_at hl 1 rfl) ?_
  refine zcall (wr := [(mm, .inr (9, [.int 0, .ref nw, .ref cq, .ref hi, .int 0, .ref ko, .ref se, .int 0, .ref nf, .ref ns, .ref pi])), (nw, .inr (8, [.int 0, .int 0, .ref vd, .ref lw, .ref hg, .ref rk]))]) (zrunH (vx_runSX (As := [.ref x, .int v1, .int v2, .int v3, .int v4, .ref ou]) (rest := []) ⟨hx, hb, hml, hown, hts⟩ (z_L_narrow l G x wa wb su cu tr co lo pk ro ou v1 v2 v3 v4 hl0 H.size) (vx_cwSW 6 hts gL_law_L_narrow rfl rfl rfl (by decide +kernel) ⟨Nat.le_of_ble_eq_true rfl, Nat.le_of_ble_eq_true rfl⟩) (zPre (Wc := [(x, .inr (7, [.ref wa, .ref wb, .ref su, .ref cu, .ref tr, .ref co, .ref lo, .ref pk])), (wa, .inr (6, [.ref ro, .int 0, .int 0]))]) hP hD hE hS hA [0, 1] rfl (by decide)) rfl rfl hl.1 rfl (lv_room (Nat.le_of_ble_eq_true rfl)) dL_law_258 ⟨Nat.le_of_ble_eq_true rfl, Nat.le_of_ble_eq_true rfl⟩)) hP hD hS hA [0, 1] [2, 3] rfl rfl (by decide) (by decide) (fun u1 H locs hP hD hS => ?_)
  have hP : va_P G.1 vwCl [(mm, .inr (9, [.int 0, .ref nw, .ref cq, .ref hi, .int 0, .ref ko, .ref se, .int 0, .ref nf, .ref ns, .ref pi])), (nw, .inr (8, [.int 0, .int 0, .ref vd, .ref lw, .ref hg, .ref rk])), (x, .inr (7, [.ref wa, .ref wb, .ref su, .ref cu, .ref tr, .ref co, .ref lo, .ref pk])), (wa, .inr (6, [.ref ro, .int 0, .int 0]))] H := hP
  have hD : va_D A [(mm, .inr (9, [.int 0, .ref nw, .ref cq, .ref hi, .int 0, .ref ko, .ref se, .int 0, .ref nf, .ref ns, .ref pi])), (nw, .inr (8, [.int 0, .int 0, .ref vd, .ref lw, .ref hg, .ref rk])), (x, .inr (7, [.ref wa, .ref wb, .ref su, .ref cu, .ref tr, .ref co, .ref lo, .ref pk])), (wa, .inr (6, [.ref ro, .int 0, .int 0]))] := hD
  refine W.eq (g2 := F0 m 261 ls [.int 1]) rfl ?_
  refine lv_istore (lv' := [(5, .int 1), (4, .int 0), (3, .ref ou), (2, .ref mm), (1, .ref x), (0, .ref b)]) hx hb dL_law_261 hl (by decide) rfl (fun ls hl => ?_)
  refine lv_aload_n hx hb dL_law_263 rfl (lv_at hl 3 rfl) ?_
  refine lv_aload_n hx hb dL_law_264 rfl (lv_at hl 5 rfl) ?_
  refine lv_iload hx hb dL_law_265 (lv_at hl 1 rfl) ?_
  refine lv_iconst (v := 1) hx hb dL_law_267 (by decide) ?_
  refine lv_iadd hx hb dL_law_268 ?_
  refine zti (v := 1) (by decide) ?_
  refine va_sld hx hb hX hbl hbA hS (zin (by decide +kernel)) dL_law_269 ?_
  refine zti (v := v1) e1 ?_
  refine lv_aload_n hx hb dL_law_270 rfl (lv_at hl 5 rfl) ?_
  refine lv_iload hx hb dL_law_271 (lv_at hl 1 rfl) ?_
  refine lv_iconst (v := 2) hx hb dL_law_273 (by decide) ?_
  refine lv_iadd hx hb dL_law_274 ?_
  refine zti (v := 2) (by decide) ?_
  refine va_sld hx hb hX hbl hbA hS (zin (by decide +kernel)) dL_law_275 ?_
  refine zti (v := v2) e2 ?_
  refine lv_aload_n hx hb dL_law_276 rfl (lv_at hl 5 rfl) ?_
  refine lv_iload hx hb dL_law_277 (lv_at hl 1 rfl) ?_
  refine lv_iconst (v := 3) hx hb dL_law_279 (by decide) ?_
  refine lv_iadd hx hb dL_law_280 ?_
  refine zti (v := 3) (by decide) ?_
  refine va_sld hx hb hX hbl hbA hS (zin (by decide +kernel)) dL_law_281 ?_
  refine zti (v := v3) e3 ?_
  refine lv_aload_n hx hb dL_law_282 rfl (lv_at hl 5 rfl) ?_
  refine lv_iload hx hb dL_law_283 (lv_at hl 1 rfl) ?_
  refine lv_iconst (v := 4) hx hb dL_law_285 (by decide) ?_
  refine lv_iadd hx hb dL_law_286 ?_
  refine zti (v := 4) (by decide) ?_
  refine va_sld hx hb hX hbl hbA hS (zin (by decide +kernel)) dL_law_287 ?_
  refine zti (v := v4) e4 ?_
  refine zcall (wr := [(x, .inr (7, [.ref wa, .ref wb, .ref su, .ref cu, .ref tr, .ref co, .ref lo, .ref pk])), (wa, .inr (6, [.ref ro, .int 0, .int 0]))]) (va_runV (As := [.int v1, .int v2, .int v3, .int v4]) (rest := []) ⟨hx, hb, hml, hown, hts⟩ (z_X9_narrow l G mm nw cq hi ko se nf ns pi 0 vd lw hg rk v1 v2 v3 v4 H.size) (cwV 4 hts gL_law_X9_narrow rfl rfl rfl (by decide +kernel) ⟨Nat.le_of_ble_eq_true rfl, Nat.le_of_ble_eq_true rfl⟩) (zPreV (Wc := [(mm, .inr (9, [.int 0, .ref nw, .ref cq, .ref hi, .int 0, .ref ko, .ref se, .int 0, .ref nf, .ref ns, .ref pi])), (nw, .inr (8, [.int 0, .int 0, .ref vd, .ref lw, .ref hg, .ref rk]))]) (q0 := 0) (ci := 9) (q := (RX9, TX9, 11)) hP hD hE hS hA [0, 1] rfl (by decide) rfl rfl) rfl rfl hl.1 rfl (lv_room (Nat.le_of_ble_eq_true rfl)) dL_law_288 ⟨Nat.le_of_ble_eq_true rfl, Nat.le_of_ble_eq_true rfl⟩) hP hD hS hA [0, 1] [2, 3] rfl rfl (by decide) (by decide) (fun u2 H locs hP hD hS => ?_)
  have hP : va_P G.1 vwCl [(x, .inr (7, [.ref wa, .ref wb, .ref su, .ref cu, .ref tr, .ref co, .ref lo, .ref pk])), (wa, .inr (6, [.ref ro, .int 0, .int 0])), (nw, .inr (8, [.int 0, .int 0, .ref vd, .ref lw, .ref hg, .ref rk])), (mm, .inr (9, [.int 1, .ref nw, .ref cq, .ref hi, .int 0, .ref ko, .ref se, .int 0, .ref nf, .ref ns, .ref pi]))] H := hP
  have hD : va_D A [(x, .inr (7, [.ref wa, .ref wb, .ref su, .ref cu, .ref tr, .ref co, .ref lo, .ref pk])), (wa, .inr (6, [.ref ro, .int 0, .int 0])), (nw, .inr (8, [.int 0, .int 0, .ref vd, .ref lw, .ref hg, .ref rk])), (mm, .inr (9, [.int 1, .ref nw, .ref cq, .ref hi, .int 0, .ref ko, .ref se, .int 0, .ref nf, .ref ns, .ref pi]))] := hD
  refine W.eq (g2 := F0 m 291 ls [.int 0]) rfl ?_
  refine lv_istore (lv' := [(6, .int 0), (5, .int 1), (4, .int 0), (3, .ref ou), (2, .ref mm), (1, .ref x), (0, .ref b)]) hx hb dL_law_291 hl (by decide) rfl (fun ls hl => ?_)
  refine lv_aload_n hx hb dL_law_293 rfl (lv_at hl 4 rfl) ?_
  refine zcall (wr := [(x, .inr (7, [.ref wa, .ref wb, .ref su, .ref cu, .ref tr, .ref co, .ref lo, .ref pk])), (wa, .inr (6, [.ref ro, .int 0, .int 0])), (nw, .inr (8, [.int 0, .int 0, .ref vd, .ref lw, .ref hg, .ref rk]))]) (va_runV (As := []) (rest := []) ⟨hx, hb, hml, hown, hts⟩ (z_X9_thrown l G mm nw cq hi ko se nf ns pi 1 H.size) (cwV 0 hts gL_law_X9_thrown rfl rfl rfl (by decide +kernel) ⟨Nat.le_of_ble_eq_true rfl, Nat.le_of_ble_eq_true rfl⟩) (zPreV (Wc := [(mm, .inr (9, [.int 1, .ref nw, .ref cq, .ref hi, .int 0, .ref ko, .ref se, .int 0, .ref nf, .ref ns, .ref pi]))]) (q0 := 3) (ci := 9) (q := (RX9, TX9, 11)) hP hD hE hS hA [3] rfl (by decide) rfl rfl) rfl rfl hl.1 rfl (lv_room (Nat.le_of_ble_eq_true rfl)) dL_law_294 ⟨Nat.le_of_ble_eq_true rfl, Nat.le_of_ble_eq_true rfl⟩) hP hD hS hA [3] [0, 1, 2] rfl rfl (by decide) (by decide) (fun u3 H locs hP hD hS => ?_)
  have hP : va_P G.1 vwCl [(x, .inr (7, [.ref wa, .ref wb, .ref su, .ref cu, .ref tr, .ref co, .ref lo, .ref pk])), (wa, .inr (6, [.ref ro, .int 0, .int 0])), (nw, .inr (8, [.int 0, .int 0, .ref vd, .ref lw, .ref hg, .ref rk])), (mm, .inr (9, [.int 1, .ref nw, .ref cq, .ref hi, .int 0, .ref ko, .ref se, .int 0, .ref nf, .ref ns, .ref pi]))] H := hP
  have hD : va_D A [(x, .inr (7, [.ref wa, .ref wb, .ref su, .ref cu, .ref tr, .ref co, .ref lo, .ref pk])), (wa, .inr (6, [.ref ro, .int 0, .int 0])), (nw, .inr (8, [.int 0, .int 0, .ref vd, .ref lw, .ref hg, .ref rk])), (mm, .inr (9, [.int 1, .ref nw, .ref cq, .ref hi, .int 0, .ref ko, .ref se, .int 0, .ref nf, .ref ns, .ref pi]))] := hD
  refine W.eq (g2 := F0 m 297 ls [.int 1]) rfl ?_
  refine lv_iload hx hb dL_law_297 (lv_at hl 1 rfl) ?_
  refine lv_icmp_eq (tgt := 304) hx hb dL_law_299 (by decide) (fun _ => ?_) (fun h9 => absurd (by decide) h9)
  refine lv_iload hx hb dL_law_304 (lv_at hl 1 rfl) ?_
  refine lv_if_ne (tgt := 321) hx hb dL_law_306 (by decide) (fun _ => ?_) (fun h9 => absurd h9 (by decide))
  refine lv_goto (tgt := 1748) hx hb dL_law_321 (by decide) ?_
  exact z_lawend hx hb hr hml hown hts hX hbl hlocks hl0 hA hA2 hbA hE (Nat.le_of_ble_eq_true rfl) (Nat.le_of_ble_eq_true rfl) hS (lv_sub hl [2, 6] rfl)

set_option maxHeartbeats 4000000 in
set_option maxRecDepth 100000 in
theorem z_case2 {p : Program} {l : Launch} {e : Env} {s : State} {m : MethodId} {below : List Frame} {meth : Method} {c : Code} {A : Nat → Prop} {H : Heap} {locs : List Loc} {ls : Array Slot} {G : zG} {b : Nat} {xs : Nat → Int32} (hx : p.tables.exec = Jvm.exec) (hb : c.code = code) (hr : meth.sig.returnType = ret) (hml : c.maxLocals = 9) (hown : s.vm.findClass RL = some m.cls) (hts : ∀ w ∈ wsL_law, w.before #[Value.ref b] s = true) (hX : va_X b 5 xs s s.heap) (hbl : b < s.heap.size) (hlocks : meth.locks = false) (hl0 : l.stackTraces = false) (hA : ∀ q : Nat, s.heap.size ≤ q → A q) (hA2 : ∀ q : Nat, A q → s.heap.size ≤ q) (hbA : ¬ A b) (hE : zZ G A s s.heap) {x : Nat} {wa : Nat} {wb : Nat} {su : Nat} {cu : Nat} {tr : Nat} {co : Nat} {lo : Nat} {pk : Nat} {ro : Nat} {ou : Nat} {mm : Nat} {nw : Nat} {cq : Nat} {hi : Nat} {ko : Nat} {se : Nat} {nf : Nat} {ns : Nat} {pi : Nat} {vd : Nat} {lw : Nat} {hg : Nat} {rk : Nat} (v1 : Int32) (e1 : xs 1 = v1) (v2 : Int32) (e2 : xs 2 = v2) (hP : va_P G.1 vwCl [(x, .inr (7, [.ref wa, .ref wb, .ref su, .ref cu, .ref tr, .ref co, .ref lo, .ref pk])), (wa, .inr (6, [.ref ro, .int 0, .int 0])), (mm, .inr (9, [.int 0, .ref nw, .ref cq, .ref hi, .int 0, .ref ko, .ref se, .int 0, .ref nf, .ref ns, .ref pi])), (nw, .inr (8, [.int 0, .int 0, .ref vd, .ref lw, .ref hg, .ref rk]))] H) (hD : va_D A [(x, .inr (7, [.ref wa, .ref wb, .ref su, .ref cu, .ref tr, .ref co, .ref lo, .ref pk])), (wa, .inr (6, [.ref ro, .int 0, .int 0])), (mm, .inr (9, [.int 0, .ref nw, .ref cq, .ref hi, .int 0, .ref ko, .ref se, .int 0, .ref nf, .ref ns, .ref pi])), (nw, .inr (8, [.int 0, .int 0, .ref vd, .ref lw, .ref hg, .ref rk]))]) (hS : va_S A s.heap H locs) (hl : lv_has ls 9 [(4, .int 0), (3, .ref ou), (2, .ref mm), (1, .ref x), (0, .ref b)]) : W p l e room_1 s m #[Value.ref b] below meth c H locs 89 9213 (lw_Z below #[Value.ref b] s) (F0 m 324 ls []) := by
  refine lv_aload_n hx hb dL_law_324 rfl (lv_at hl 3 rfl) ?_
  refine lv_aload_n hx hb dL_law_325 rfl (lv_at hl 4 rfl) ?_
  refine lv_iload hx hb dL_law_326 (lv_at hl 0 rfl) ?_
  refine lv_iconst (v := 1) hx hb dL_law_328 (by decide) ?_
  refine lv_iadd hx hb dL_law_329 ?_
  refine zti (v := 1) (by decide) ?_
  refine va_sld hx hb hX hbl hbA hS (zin (by decide +kernel)) dL_law_330 ?_
  refine zti (v := v1) e1 ?_
  refine lv_aload_n hx hb dL_law_331 rfl (lv_at hl 4 rfl) ?_
  refine lv_iload hx hb dL_law_332 (lv_at hl 0 rfl) ?_
  refine lv_iconst (v := 2) hx hb dL_law_334 (by decide) ?_
  refine lv_iadd hx hb dL_law_335 ?_
  refine zti (v := 2) (by decide) ?_
  refine va_sld hx hb hX hbl hbA hS (zin (by decide +kernel)) dL_law_336 ?_
  refine zti (v := v2) e2 ?_
  refine lv_aload_n hx hb dL_law_337 rfl (lv_at hl 1 rfl) ?_
  refine zcall (wr := [(mm, .inr (9, [.int 0, .ref nw, .ref cq, .ref hi, .int 0, .ref ko, .ref se, .int 0, .ref nf, .ref ns, .ref pi])), (nw, .inr (8, [.int 0, .int 0, .ref vd, .ref lw, .ref hg, .ref rk]))]) (zrunH (vx_runSX (As := [.ref x, .int v1, .int v2, .ref ou]) (rest := []) ⟨hx, hb, hml, hown, hts⟩ (z_L_turn l G x wa wb su cu tr co lo pk ro ou v1 v2 hl0 H.size) (vx_cwSW 4 hts gL_law_L_turn rfl rfl rfl (by decide +kernel) ⟨Nat.le_of_ble_eq_true rfl, Nat.le_of_ble_eq_true rfl⟩) (zPre (Wc := [(x, .inr (7, [.ref wa, .ref wb, .ref su, .ref cu, .ref tr, .ref co, .ref lo, .ref pk])), (wa, .inr (6, [.ref ro, .int 0, .int 0]))]) hP hD hE hS hA [0, 1] rfl (by decide)) rfl rfl hl.1 rfl (lv_room (Nat.le_of_ble_eq_true rfl)) dL_law_338 ⟨Nat.le_of_ble_eq_true rfl, Nat.le_of_ble_eq_true rfl⟩)) hP hD hS hA [0, 1] [2, 3] rfl rfl (by decide) (by decide) (fun u1 H locs hP hD hS => ?_)
  have hP : va_P G.1 vwCl [(mm, .inr (9, [.int 0, .ref nw, .ref cq, .ref hi, .int 0, .ref ko, .ref se, .int 0, .ref nf, .ref ns, .ref pi])), (nw, .inr (8, [.int 0, .int 0, .ref vd, .ref lw, .ref hg, .ref rk])), (x, .inr (7, [.ref wa, .ref wb, .ref su, .ref cu, .ref tr, .ref co, .ref lo, .ref pk])), (wa, .inr (6, [.ref ro, .int 0, .int 0]))] H := hP
  have hD : va_D A [(mm, .inr (9, [.int 0, .ref nw, .ref cq, .ref hi, .int 0, .ref ko, .ref se, .int 0, .ref nf, .ref ns, .ref pi])), (nw, .inr (8, [.int 0, .int 0, .ref vd, .ref lw, .ref hg, .ref rk])), (x, .inr (7, [.ref wa, .ref wb, .ref su, .ref cu, .ref tr, .ref co, .ref lo, .ref pk])), (wa, .inr (6, [.ref ro, .int 0, .int 0]))] := hD
  refine W.eq (g2 := F0 m 341 ls [.int 1]) rfl ?_
  refine lv_istore (lv' := [(5, .int 1), (4, .int 0), (3, .ref ou), (2, .ref mm), (1, .ref x), (0, .ref b)]) hx hb dL_law_341 hl (by decide) rfl (fun ls hl => ?_)
  refine lv_aload_n hx hb dL_law_343 rfl (lv_at hl 3 rfl) ?_
  refine lv_aload_n hx hb dL_law_344 rfl (lv_at hl 5 rfl) ?_
  refine lv_iload hx hb dL_law_345 (lv_at hl 1 rfl) ?_
  refine lv_iconst (v := 1) hx hb dL_law_347 (by decide) ?_
  refine lv_iadd hx hb dL_law_348 ?_
  refine zti (v := 1) (by decide) ?_
  refine va_sld hx hb hX hbl hbA hS (zin (by decide +kernel)) dL_law_349 ?_
  refine zti (v := v1) e1 ?_
  refine lv_aload_n hx hb dL_law_350 rfl (lv_at hl 5 rfl) ?_
  refine lv_iload hx hb dL_law_351 (lv_at hl 1 rfl) ?_
  refine lv_iconst (v := 2) hx hb dL_law_353 (by decide) ?_
  refine lv_iadd hx hb dL_law_354 ?_
  refine zti (v := 2) (by decide) ?_
  refine va_sld hx hb hX hbl hbA hS (zin (by decide +kernel)) dL_law_355 ?_
  refine zti (v := v2) e2 ?_
  refine zcall (wr := [(x, .inr (7, [.ref wa, .ref wb, .ref su, .ref cu, .ref tr, .ref co, .ref lo, .ref pk])), (wa, .inr (6, [.ref ro, .int 0, .int 0]))]) (va_runV (As := [.int v1, .int v2]) (rest := []) ⟨hx, hb, hml, hown, hts⟩ (z_X9_turn l G mm nw cq hi ko se nf ns pi 0 vd lw hg rk v1 v2 H.size) (cwV 2 hts gL_law_X9_turn rfl rfl rfl (by decide +kernel) ⟨Nat.le_of_ble_eq_true rfl, Nat.le_of_ble_eq_true rfl⟩) (zPreV (Wc := [(mm, .inr (9, [.int 0, .ref nw, .ref cq, .ref hi, .int 0, .ref ko, .ref se, .int 0, .ref nf, .ref ns, .ref pi])), (nw, .inr (8, [.int 0, .int 0, .ref vd, .ref lw, .ref hg, .ref rk]))]) (q0 := 0) (ci := 9) (q := (RX9, TX9, 11)) hP hD hE hS hA [0, 1] rfl (by decide) rfl rfl) rfl rfl hl.1 rfl (lv_room (Nat.le_of_ble_eq_true rfl)) dL_law_356 ⟨Nat.le_of_ble_eq_true rfl, Nat.le_of_ble_eq_true rfl⟩) hP hD hS hA [0, 1] [2, 3] rfl rfl (by decide) (by decide) (fun u2 H locs hP hD hS => ?_)
  have hP : va_P G.1 vwCl [(x, .inr (7, [.ref wa, .ref wb, .ref su, .ref cu, .ref tr, .ref co, .ref lo, .ref pk])), (wa, .inr (6, [.ref ro, .int 0, .int 0])), (nw, .inr (8, [.int 0, .int 0, .ref vd, .ref lw, .ref hg, .ref rk])), (mm, .inr (9, [.int 1, .ref nw, .ref cq, .ref hi, .int 0, .ref ko, .ref se, .int 0, .ref nf, .ref ns, .ref pi]))] H := hP
  have hD : va_D A [(x, .inr (7, [.ref wa, .ref wb, .ref su, .ref cu, .ref tr, .ref co, .ref lo, .ref pk])), (wa, .inr (6, [.ref ro, .int 0, .int 0])), (nw, .inr (8, [.int 0, .int 0, .ref vd, .ref lw, .ref hg, .ref rk])), (mm, .inr (9, [.int 1, .ref nw, .ref cq, .ref hi, .int 0, .ref ko, .ref se, .int 0, .ref nf, .ref ns, .ref pi]))] := hD
  refine W.eq (g2 := F0 m 359 ls [.int 0]) rfl ?_
  refine lv_istore (lv' := [(6, .int 0), (5, .int 1), (4, .int 0), (3, .ref ou), (2, .ref mm), (1, .ref x), (0, .ref b)]) hx hb dL_law_359 hl (by decide) rfl (fun ls hl => ?_)
  refine lv_aload_n hx hb dL_law_361 rfl (lv_at hl 4 rfl) ?_
  refine zcall (wr := [(x, .inr (7, [.ref wa, .ref wb, .ref su, .ref cu, .ref tr, .ref co, .ref lo, .ref pk])), (wa, .inr (6, [.ref ro, .int 0, .int 0])), (nw, .inr (8, [.int 0, .int 0, .ref vd, .ref lw, .ref hg, .ref rk]))]) (va_runV (As := []) (rest := []) ⟨hx, hb, hml, hown, hts⟩ (z_X9_thrown l G mm nw cq hi ko se nf ns pi 1 H.size) (cwV 0 hts gL_law_X9_thrown rfl rfl rfl (by decide +kernel) ⟨Nat.le_of_ble_eq_true rfl, Nat.le_of_ble_eq_true rfl⟩) (zPreV (Wc := [(mm, .inr (9, [.int 1, .ref nw, .ref cq, .ref hi, .int 0, .ref ko, .ref se, .int 0, .ref nf, .ref ns, .ref pi]))]) (q0 := 3) (ci := 9) (q := (RX9, TX9, 11)) hP hD hE hS hA [3] rfl (by decide) rfl rfl) rfl rfl hl.1 rfl (lv_room (Nat.le_of_ble_eq_true rfl)) dL_law_362 ⟨Nat.le_of_ble_eq_true rfl, Nat.le_of_ble_eq_true rfl⟩) hP hD hS hA [3] [0, 1, 2] rfl rfl (by decide) (by decide) (fun u3 H locs hP hD hS => ?_)
  have hP : va_P G.1 vwCl [(x, .inr (7, [.ref wa, .ref wb, .ref su, .ref cu, .ref tr, .ref co, .ref lo, .ref pk])), (wa, .inr (6, [.ref ro, .int 0, .int 0])), (nw, .inr (8, [.int 0, .int 0, .ref vd, .ref lw, .ref hg, .ref rk])), (mm, .inr (9, [.int 1, .ref nw, .ref cq, .ref hi, .int 0, .ref ko, .ref se, .int 0, .ref nf, .ref ns, .ref pi]))] H := hP
  have hD : va_D A [(x, .inr (7, [.ref wa, .ref wb, .ref su, .ref cu, .ref tr, .ref co, .ref lo, .ref pk])), (wa, .inr (6, [.ref ro, .int 0, .int 0])), (nw, .inr (8, [.int 0, .int 0, .ref vd, .ref lw, .ref hg, .ref rk])), (mm, .inr (9, [.int 1, .ref nw, .ref cq, .ref hi, .int 0, .ref ko, .ref se, .int 0, .ref nf, .ref ns, .ref pi]))] := hD
  refine W.eq (g2 := F0 m 365 ls [.int 1]) rfl ?_
  refine lv_iload hx hb dL_law_365 (lv_at hl 1 rfl) ?_
  refine lv_icmp_eq (tgt := 372) hx hb dL_law_367 (by decide) (fun _ => ?_) (fun h9 => absurd (by decide) h9)
  refine lv_iload hx hb dL_law_372 (lv_at hl 1 rfl) ?_
  refine lv_if_ne (tgt := 389) hx hb dL_law_374 (by decide) (fun _ => ?_) (fun h9 => absurd h9 (by decide))
  refine lv_goto (tgt := 1748) hx hb dL_law_389 (by decide) ?_
  exact z_lawend hx hb hr hml hown hts hX hbl hlocks hl0 hA hA2 hbA hE (Nat.le_of_ble_eq_true rfl) (Nat.le_of_ble_eq_true rfl) hS (lv_sub hl [2, 6] rfl)

set_option maxHeartbeats 4000000 in
set_option maxRecDepth 100000 in
theorem z_case3 {p : Program} {l : Launch} {e : Env} {s : State} {m : MethodId} {below : List Frame} {meth : Method} {c : Code} {A : Nat → Prop} {H : Heap} {locs : List Loc} {ls : Array Slot} {G : zG} {b : Nat} {xs : Nat → Int32} (hx : p.tables.exec = Jvm.exec) (hb : c.code = code) (hr : meth.sig.returnType = ret) (hml : c.maxLocals = 9) (hown : s.vm.findClass RL = some m.cls) (hts : ∀ w ∈ wsL_law, w.before #[Value.ref b] s = true) (hX : va_X b 5 xs s s.heap) (hbl : b < s.heap.size) (hlocks : meth.locks = false) (hl0 : l.stackTraces = false) (hA : ∀ q : Nat, s.heap.size ≤ q → A q) (hA2 : ∀ q : Nat, A q → s.heap.size ≤ q) (hbA : ¬ A b) (hE : zZ G A s s.heap) {x : Nat} {wa : Nat} {wb : Nat} {su : Nat} {cu : Nat} {tr : Nat} {co : Nat} {lo : Nat} {pk : Nat} {ro : Nat} {ou : Nat} {mm : Nat} {nw : Nat} {cq : Nat} {hi : Nat} {ko : Nat} {se : Nat} {nf : Nat} {ns : Nat} {pi : Nat} {vd : Nat} {lw : Nat} {hg : Nat} {rk : Nat} (v1 : Int32) (e1 : xs 1 = v1) (v2 : Int32) (e2 : xs 2 = v2) (hP : va_P G.1 vwCl [(x, .inr (7, [.ref wa, .ref wb, .ref su, .ref cu, .ref tr, .ref co, .ref lo, .ref pk])), (wa, .inr (6, [.ref ro, .int 0, .int 0])), (mm, .inr (9, [.int 0, .ref nw, .ref cq, .ref hi, .int 0, .ref ko, .ref se, .int 0, .ref nf, .ref ns, .ref pi])), (nw, .inr (8, [.int 0, .int 0, .ref vd, .ref lw, .ref hg, .ref rk]))] H) (hD : va_D A [(x, .inr (7, [.ref wa, .ref wb, .ref su, .ref cu, .ref tr, .ref co, .ref lo, .ref pk])), (wa, .inr (6, [.ref ro, .int 0, .int 0])), (mm, .inr (9, [.int 0, .ref nw, .ref cq, .ref hi, .int 0, .ref ko, .ref se, .int 0, .ref nf, .ref ns, .ref pi])), (nw, .inr (8, [.int 0, .int 0, .ref vd, .ref lw, .ref hg, .ref rk]))]) (hS : va_S A s.heap H locs) (hl : lv_has ls 9 [(4, .int 0), (3, .ref ou), (2, .ref mm), (1, .ref x), (0, .ref b)]) : W p l e room_1 s m #[Value.ref b] below meth c H locs 89 9213 (lw_Z below #[Value.ref b] s) (F0 m 392 ls []) := by
  refine lv_aload_n hx hb dL_law_392 rfl (lv_at hl 3 rfl) ?_
  refine lv_aload_n hx hb dL_law_393 rfl (lv_at hl 4 rfl) ?_
  refine lv_iload hx hb dL_law_394 (lv_at hl 0 rfl) ?_
  refine lv_iconst (v := 1) hx hb dL_law_396 (by decide) ?_
  refine lv_iadd hx hb dL_law_397 ?_
  refine zti (v := 1) (by decide) ?_
  refine va_sld hx hb hX hbl hbA hS (zin (by decide +kernel)) dL_law_398 ?_
  refine zti (v := v1) e1 ?_
  refine lv_aload_n hx hb dL_law_399 rfl (lv_at hl 4 rfl) ?_
  refine lv_iload hx hb dL_law_400 (lv_at hl 0 rfl) ?_
  refine lv_iconst (v := 2) hx hb dL_law_402 (by decide) ?_
  refine lv_iadd hx hb dL_law_403 ?_
  refine zti (v := 2) (by decide) ?_
  refine va_sld hx hb hX hbl hbA hS (zin (by decide +kernel)) dL_law_404 ?_
  refine zti (v := v2) e2 ?_
  refine lv_aload_n hx hb dL_law_405 rfl (lv_at hl 1 rfl) ?_
  refine zcall (wr := [(mm, .inr (9, [.int 0, .ref nw, .ref cq, .ref hi, .int 0, .ref ko, .ref se, .int 0, .ref nf, .ref ns, .ref pi])), (nw, .inr (8, [.int 0, .int 0, .ref vd, .ref lw, .ref hg, .ref rk]))]) (zrunH (vx_runSX (As := [.ref x, .int v1, .int v2, .ref ou]) (rest := []) ⟨hx, hb, hml, hown, hts⟩ (z_L_move l G x wa wb su cu tr co lo pk ro ou v1 v2 hl0 H.size) (vx_cwSW 4 hts gL_law_L_move rfl rfl rfl (by decide +kernel) ⟨Nat.le_of_ble_eq_true rfl, Nat.le_of_ble_eq_true rfl⟩) (zPre (Wc := [(x, .inr (7, [.ref wa, .ref wb, .ref su, .ref cu, .ref tr, .ref co, .ref lo, .ref pk])), (wa, .inr (6, [.ref ro, .int 0, .int 0]))]) hP hD hE hS hA [0, 1] rfl (by decide)) rfl rfl hl.1 rfl (lv_room (Nat.le_of_ble_eq_true rfl)) dL_law_406 ⟨Nat.le_of_ble_eq_true rfl, Nat.le_of_ble_eq_true rfl⟩)) hP hD hS hA [0, 1] [2, 3] rfl rfl (by decide) (by decide) (fun u1 H locs hP hD hS => ?_)
  have hP : va_P G.1 vwCl [(mm, .inr (9, [.int 0, .ref nw, .ref cq, .ref hi, .int 0, .ref ko, .ref se, .int 0, .ref nf, .ref ns, .ref pi])), (nw, .inr (8, [.int 0, .int 0, .ref vd, .ref lw, .ref hg, .ref rk])), (x, .inr (7, [.ref wa, .ref wb, .ref su, .ref cu, .ref tr, .ref co, .ref lo, .ref pk])), (wa, .inr (6, [.ref ro, .int 0, .int 0]))] H := hP
  have hD : va_D A [(mm, .inr (9, [.int 0, .ref nw, .ref cq, .ref hi, .int 0, .ref ko, .ref se, .int 0, .ref nf, .ref ns, .ref pi])), (nw, .inr (8, [.int 0, .int 0, .ref vd, .ref lw, .ref hg, .ref rk])), (x, .inr (7, [.ref wa, .ref wb, .ref su, .ref cu, .ref tr, .ref co, .ref lo, .ref pk])), (wa, .inr (6, [.ref ro, .int 0, .int 0]))] := hD
  refine W.eq (g2 := F0 m 409 ls [.int 1]) rfl ?_
  refine lv_istore (lv' := [(5, .int 1), (4, .int 0), (3, .ref ou), (2, .ref mm), (1, .ref x), (0, .ref b)]) hx hb dL_law_409 hl (by decide) rfl (fun ls hl => ?_)
  refine lv_aload_n hx hb dL_law_411 rfl (lv_at hl 3 rfl) ?_
  refine lv_aload_n hx hb dL_law_412 rfl (lv_at hl 5 rfl) ?_
  refine lv_iload hx hb dL_law_413 (lv_at hl 1 rfl) ?_
  refine lv_iconst (v := 1) hx hb dL_law_415 (by decide) ?_
  refine lv_iadd hx hb dL_law_416 ?_
  refine zti (v := 1) (by decide) ?_
  refine va_sld hx hb hX hbl hbA hS (zin (by decide +kernel)) dL_law_417 ?_
  refine zti (v := v1) e1 ?_
  refine lv_aload_n hx hb dL_law_418 rfl (lv_at hl 5 rfl) ?_
  refine lv_iload hx hb dL_law_419 (lv_at hl 1 rfl) ?_
  refine lv_iconst (v := 2) hx hb dL_law_421 (by decide) ?_
  refine lv_iadd hx hb dL_law_422 ?_
  refine zti (v := 2) (by decide) ?_
  refine va_sld hx hb hX hbl hbA hS (zin (by decide +kernel)) dL_law_423 ?_
  refine zti (v := v2) e2 ?_
  refine zcall (wr := [(x, .inr (7, [.ref wa, .ref wb, .ref su, .ref cu, .ref tr, .ref co, .ref lo, .ref pk])), (wa, .inr (6, [.ref ro, .int 0, .int 0]))]) (va_runV (As := [.int v1, .int v2]) (rest := []) ⟨hx, hb, hml, hown, hts⟩ (z_X9_move l G mm nw cq hi ko se nf ns pi 0 vd lw hg rk v1 v2 H.size) (cwV 2 hts gL_law_X9_move rfl rfl rfl (by decide +kernel) ⟨Nat.le_of_ble_eq_true rfl, Nat.le_of_ble_eq_true rfl⟩) (zPreV (Wc := [(mm, .inr (9, [.int 0, .ref nw, .ref cq, .ref hi, .int 0, .ref ko, .ref se, .int 0, .ref nf, .ref ns, .ref pi])), (nw, .inr (8, [.int 0, .int 0, .ref vd, .ref lw, .ref hg, .ref rk]))]) (q0 := 0) (ci := 9) (q := (RX9, TX9, 11)) hP hD hE hS hA [0, 1] rfl (by decide) rfl rfl) rfl rfl hl.1 rfl (lv_room (Nat.le_of_ble_eq_true rfl)) dL_law_424 ⟨Nat.le_of_ble_eq_true rfl, Nat.le_of_ble_eq_true rfl⟩) hP hD hS hA [0, 1] [2, 3] rfl rfl (by decide) (by decide) (fun u2 H locs hP hD hS => ?_)
  have hP : va_P G.1 vwCl [(x, .inr (7, [.ref wa, .ref wb, .ref su, .ref cu, .ref tr, .ref co, .ref lo, .ref pk])), (wa, .inr (6, [.ref ro, .int 0, .int 0])), (nw, .inr (8, [.int 0, .int 0, .ref vd, .ref lw, .ref hg, .ref rk])), (mm, .inr (9, [.int 1, .ref nw, .ref cq, .ref hi, .int 0, .ref ko, .ref se, .int 0, .ref nf, .ref ns, .ref pi]))] H := hP
  have hD : va_D A [(x, .inr (7, [.ref wa, .ref wb, .ref su, .ref cu, .ref tr, .ref co, .ref lo, .ref pk])), (wa, .inr (6, [.ref ro, .int 0, .int 0])), (nw, .inr (8, [.int 0, .int 0, .ref vd, .ref lw, .ref hg, .ref rk])), (mm, .inr (9, [.int 1, .ref nw, .ref cq, .ref hi, .int 0, .ref ko, .ref se, .int 0, .ref nf, .ref ns, .ref pi]))] := hD
  refine W.eq (g2 := F0 m 427 ls [.int 0]) rfl ?_
  refine lv_istore (lv' := [(6, .int 0), (5, .int 1), (4, .int 0), (3, .ref ou), (2, .ref mm), (1, .ref x), (0, .ref b)]) hx hb dL_law_427 hl (by decide) rfl (fun ls hl => ?_)
  refine lv_aload_n hx hb dL_law_429 rfl (lv_at hl 4 rfl) ?_
  refine zcall (wr := [(x, .inr (7, [.ref wa, .ref wb, .ref su, .ref cu, .ref tr, .ref co, .ref lo, .ref pk])), (wa, .inr (6, [.ref ro, .int 0, .int 0])), (nw, .inr (8, [.int 0, .int 0, .ref vd, .ref lw, .ref hg, .ref rk]))]) (va_runV (As := []) (rest := []) ⟨hx, hb, hml, hown, hts⟩ (z_X9_thrown l G mm nw cq hi ko se nf ns pi 1 H.size) (cwV 0 hts gL_law_X9_thrown rfl rfl rfl (by decide +kernel) ⟨Nat.le_of_ble_eq_true rfl, Nat.le_of_ble_eq_true rfl⟩) (zPreV (Wc := [(mm, .inr (9, [.int 1, .ref nw, .ref cq, .ref hi, .int 0, .ref ko, .ref se, .int 0, .ref nf, .ref ns, .ref pi]))]) (q0 := 3) (ci := 9) (q := (RX9, TX9, 11)) hP hD hE hS hA [3] rfl (by decide) rfl rfl) rfl rfl hl.1 rfl (lv_room (Nat.le_of_ble_eq_true rfl)) dL_law_430 ⟨Nat.le_of_ble_eq_true rfl, Nat.le_of_ble_eq_true rfl⟩) hP hD hS hA [3] [0, 1, 2] rfl rfl (by decide) (by decide) (fun u3 H locs hP hD hS => ?_)
  have hP : va_P G.1 vwCl [(x, .inr (7, [.ref wa, .ref wb, .ref su, .ref cu, .ref tr, .ref co, .ref lo, .ref pk])), (wa, .inr (6, [.ref ro, .int 0, .int 0])), (nw, .inr (8, [.int 0, .int 0, .ref vd, .ref lw, .ref hg, .ref rk])), (mm, .inr (9, [.int 1, .ref nw, .ref cq, .ref hi, .int 0, .ref ko, .ref se, .int 0, .ref nf, .ref ns, .ref pi]))] H := hP
  have hD : va_D A [(x, .inr (7, [.ref wa, .ref wb, .ref su, .ref cu, .ref tr, .ref co, .ref lo, .ref pk])), (wa, .inr (6, [.ref ro, .int 0, .int 0])), (nw, .inr (8, [.int 0, .int 0, .ref vd, .ref lw, .ref hg, .ref rk])), (mm, .inr (9, [.int 1, .ref nw, .ref cq, .ref hi, .int 0, .ref ko, .ref se, .int 0, .ref nf, .ref ns, .ref pi]))] := hD
  refine W.eq (g2 := F0 m 433 ls [.int 1]) rfl ?_
  refine lv_iload hx hb dL_law_433 (lv_at hl 1 rfl) ?_
  refine lv_icmp_eq (tgt := 440) hx hb dL_law_435 (by decide) (fun _ => ?_) (fun h9 => absurd (by decide) h9)
  refine lv_iload hx hb dL_law_440 (lv_at hl 1 rfl) ?_
  refine lv_if_ne (tgt := 457) hx hb dL_law_442 (by decide) (fun _ => ?_) (fun h9 => absurd h9 (by decide))
  refine lv_goto (tgt := 1748) hx hb dL_law_457 (by decide) ?_
  exact z_lawend hx hb hr hml hown hts hX hbl hlocks hl0 hA hA2 hbA hE (Nat.le_of_ble_eq_true rfl) (Nat.le_of_ble_eq_true rfl) hS (lv_sub hl [2, 6] rfl)

set_option maxHeartbeats 4000000 in
set_option maxRecDepth 100000 in
theorem z_case4 {p : Program} {l : Launch} {e : Env} {s : State} {m : MethodId} {below : List Frame} {meth : Method} {c : Code} {A : Nat → Prop} {H : Heap} {locs : List Loc} {ls : Array Slot} {G : zG} {b : Nat} {xs : Nat → Int32} (hx : p.tables.exec = Jvm.exec) (hb : c.code = code) (hr : meth.sig.returnType = ret) (hml : c.maxLocals = 9) (hown : s.vm.findClass RL = some m.cls) (hts : ∀ w ∈ wsL_law, w.before #[Value.ref b] s = true) (hX : va_X b 5 xs s s.heap) (hbl : b < s.heap.size) (hlocks : meth.locks = false) (hl0 : l.stackTraces = false) (hA : ∀ q : Nat, s.heap.size ≤ q → A q) (hA2 : ∀ q : Nat, A q → s.heap.size ≤ q) (hbA : ¬ A b) (hE : zZ G A s s.heap) {x : Nat} {wa : Nat} {wb : Nat} {su : Nat} {cu : Nat} {tr : Nat} {co : Nat} {lo : Nat} {pk : Nat} {ro : Nat} {ou : Nat} {mm : Nat} {nw : Nat} {cq : Nat} {hi : Nat} {ko : Nat} {se : Nat} {nf : Nat} {ns : Nat} {pi : Nat} {vd : Nat} {lw : Nat} {hg : Nat} {rk : Nat} (v1 : Int32) (e1 : xs 1 = v1) (hP : va_P G.1 vwCl [(x, .inr (7, [.ref wa, .ref wb, .ref su, .ref cu, .ref tr, .ref co, .ref lo, .ref pk])), (wa, .inr (6, [.ref ro, .int 0, .int 0])), (mm, .inr (9, [.int 0, .ref nw, .ref cq, .ref hi, .int 0, .ref ko, .ref se, .int 0, .ref nf, .ref ns, .ref pi])), (nw, .inr (8, [.int 0, .int 0, .ref vd, .ref lw, .ref hg, .ref rk]))] H) (hD : va_D A [(x, .inr (7, [.ref wa, .ref wb, .ref su, .ref cu, .ref tr, .ref co, .ref lo, .ref pk])), (wa, .inr (6, [.ref ro, .int 0, .int 0])), (mm, .inr (9, [.int 0, .ref nw, .ref cq, .ref hi, .int 0, .ref ko, .ref se, .int 0, .ref nf, .ref ns, .ref pi])), (nw, .inr (8, [.int 0, .int 0, .ref vd, .ref lw, .ref hg, .ref rk]))]) (hS : va_S A s.heap H locs) (hl : lv_has ls 9 [(4, .int 0), (3, .ref ou), (2, .ref mm), (1, .ref x), (0, .ref b)]) : W p l e room_1 s m #[Value.ref b] below meth c H locs 89 9213 (lw_Z below #[Value.ref b] s) (F0 m 460 ls []) := by
  refine lv_aload_n hx hb dL_law_460 rfl (lv_at hl 3 rfl) ?_
  refine lv_aload_n hx hb dL_law_461 rfl (lv_at hl 4 rfl) ?_
  refine lv_iload hx hb dL_law_462 (lv_at hl 0 rfl) ?_
  refine lv_iconst (v := 1) hx hb dL_law_464 (by decide) ?_
  refine lv_iadd hx hb dL_law_465 ?_
  refine zti (v := 1) (by decide) ?_
  refine va_sld hx hb hX hbl hbA hS (zin (by decide +kernel)) dL_law_466 ?_
  refine zti (v := v1) e1 ?_
  refine lv_aload_n hx hb dL_law_467 rfl (lv_at hl 1 rfl) ?_
  refine zcall (wr := [(mm, .inr (9, [.int 0, .ref nw, .ref cq, .ref hi, .int 0, .ref ko, .ref se, .int 0, .ref nf, .ref ns, .ref pi])), (nw, .inr (8, [.int 0, .int 0, .ref vd, .ref lw, .ref hg, .ref rk]))]) (zrunH (vx_runSX (As := [.ref x, .int v1, .ref ou]) (rest := []) ⟨hx, hb, hml, hown, hts⟩ (z_L_drop l G x wa wb su cu tr co lo pk ro ou v1 hl0 H.size) (vx_cwSW 3 hts gL_law_L_drop rfl rfl rfl (by decide +kernel) ⟨Nat.le_of_ble_eq_true rfl, Nat.le_of_ble_eq_true rfl⟩) (zPre (Wc := [(x, .inr (7, [.ref wa, .ref wb, .ref su, .ref cu, .ref tr, .ref co, .ref lo, .ref pk])), (wa, .inr (6, [.ref ro, .int 0, .int 0]))]) hP hD hE hS hA [0, 1] rfl (by decide)) rfl rfl hl.1 rfl (lv_room (Nat.le_of_ble_eq_true rfl)) dL_law_468 ⟨Nat.le_of_ble_eq_true rfl, Nat.le_of_ble_eq_true rfl⟩)) hP hD hS hA [0, 1] [2, 3] rfl rfl (by decide) (by decide) (fun u1 H locs hP hD hS => ?_)
  have hP : va_P G.1 vwCl [(mm, .inr (9, [.int 0, .ref nw, .ref cq, .ref hi, .int 0, .ref ko, .ref se, .int 0, .ref nf, .ref ns, .ref pi])), (nw, .inr (8, [.int 0, .int 0, .ref vd, .ref lw, .ref hg, .ref rk])), (x, .inr (7, [.ref wa, .ref wb, .ref su, .ref cu, .ref tr, .ref co, .ref lo, .ref pk])), (wa, .inr (6, [.ref ro, .int 0, .int 0]))] H := hP
  have hD : va_D A [(mm, .inr (9, [.int 0, .ref nw, .ref cq, .ref hi, .int 0, .ref ko, .ref se, .int 0, .ref nf, .ref ns, .ref pi])), (nw, .inr (8, [.int 0, .int 0, .ref vd, .ref lw, .ref hg, .ref rk])), (x, .inr (7, [.ref wa, .ref wb, .ref su, .ref cu, .ref tr, .ref co, .ref lo, .ref pk])), (wa, .inr (6, [.ref ro, .int 0, .int 0]))] := hD
  refine W.eq (g2 := F0 m 471 ls [.int 1]) rfl ?_
  refine lv_istore (lv' := [(5, .int 1), (4, .int 0), (3, .ref ou), (2, .ref mm), (1, .ref x), (0, .ref b)]) hx hb dL_law_471 hl (by decide) rfl (fun ls hl => ?_)
  refine lv_aload_n hx hb dL_law_473 rfl (lv_at hl 3 rfl) ?_
  refine lv_aload_n hx hb dL_law_474 rfl (lv_at hl 5 rfl) ?_
  refine lv_iload hx hb dL_law_475 (lv_at hl 1 rfl) ?_
  refine lv_iconst (v := 1) hx hb dL_law_477 (by decide) ?_
  refine lv_iadd hx hb dL_law_478 ?_
  refine zti (v := 1) (by decide) ?_
  refine va_sld hx hb hX hbl hbA hS (zin (by decide +kernel)) dL_law_479 ?_
  refine zti (v := v1) e1 ?_
  refine zcall (wr := [(x, .inr (7, [.ref wa, .ref wb, .ref su, .ref cu, .ref tr, .ref co, .ref lo, .ref pk])), (wa, .inr (6, [.ref ro, .int 0, .int 0]))]) (va_runV (As := [.int v1]) (rest := []) ⟨hx, hb, hml, hown, hts⟩ (z_X9_drop l G mm nw cq hi ko se nf ns pi 0 vd lw hg rk v1 H.size) (cwV 1 hts gL_law_X9_drop rfl rfl rfl (by decide +kernel) ⟨Nat.le_of_ble_eq_true rfl, Nat.le_of_ble_eq_true rfl⟩) (zPreV (Wc := [(mm, .inr (9, [.int 0, .ref nw, .ref cq, .ref hi, .int 0, .ref ko, .ref se, .int 0, .ref nf, .ref ns, .ref pi])), (nw, .inr (8, [.int 0, .int 0, .ref vd, .ref lw, .ref hg, .ref rk]))]) (q0 := 0) (ci := 9) (q := (RX9, TX9, 11)) hP hD hE hS hA [0, 1] rfl (by decide) rfl rfl) rfl rfl hl.1 rfl (lv_room (Nat.le_of_ble_eq_true rfl)) dL_law_480 ⟨Nat.le_of_ble_eq_true rfl, Nat.le_of_ble_eq_true rfl⟩) hP hD hS hA [0, 1] [2, 3] rfl rfl (by decide) (by decide) (fun u2 H locs hP hD hS => ?_)
  have hP : va_P G.1 vwCl [(x, .inr (7, [.ref wa, .ref wb, .ref su, .ref cu, .ref tr, .ref co, .ref lo, .ref pk])), (wa, .inr (6, [.ref ro, .int 0, .int 0])), (nw, .inr (8, [.int 0, .int 0, .ref vd, .ref lw, .ref hg, .ref rk])), (mm, .inr (9, [.int 1, .ref nw, .ref cq, .ref hi, .int 0, .ref ko, .ref se, .int 0, .ref nf, .ref ns, .ref pi]))] H := hP
  have hD : va_D A [(x, .inr (7, [.ref wa, .ref wb, .ref su, .ref cu, .ref tr, .ref co, .ref lo, .ref pk])), (wa, .inr (6, [.ref ro, .int 0, .int 0])), (nw, .inr (8, [.int 0, .int 0, .ref vd, .ref lw, .ref hg, .ref rk])), (mm, .inr (9, [.int 1, .ref nw, .ref cq, .ref hi, .int 0, .ref ko, .ref se, .int 0, .ref nf, .ref ns, .ref pi]))] := hD
  refine W.eq (g2 := F0 m 483 ls [.int 0]) rfl ?_
  refine lv_istore (lv' := [(6, .int 0), (5, .int 1), (4, .int 0), (3, .ref ou), (2, .ref mm), (1, .ref x), (0, .ref b)]) hx hb dL_law_483 hl (by decide) rfl (fun ls hl => ?_)
  refine lv_aload_n hx hb dL_law_485 rfl (lv_at hl 4 rfl) ?_
  refine zcall (wr := [(x, .inr (7, [.ref wa, .ref wb, .ref su, .ref cu, .ref tr, .ref co, .ref lo, .ref pk])), (wa, .inr (6, [.ref ro, .int 0, .int 0])), (nw, .inr (8, [.int 0, .int 0, .ref vd, .ref lw, .ref hg, .ref rk]))]) (va_runV (As := []) (rest := []) ⟨hx, hb, hml, hown, hts⟩ (z_X9_thrown l G mm nw cq hi ko se nf ns pi 1 H.size) (cwV 0 hts gL_law_X9_thrown rfl rfl rfl (by decide +kernel) ⟨Nat.le_of_ble_eq_true rfl, Nat.le_of_ble_eq_true rfl⟩) (zPreV (Wc := [(mm, .inr (9, [.int 1, .ref nw, .ref cq, .ref hi, .int 0, .ref ko, .ref se, .int 0, .ref nf, .ref ns, .ref pi]))]) (q0 := 3) (ci := 9) (q := (RX9, TX9, 11)) hP hD hE hS hA [3] rfl (by decide) rfl rfl) rfl rfl hl.1 rfl (lv_room (Nat.le_of_ble_eq_true rfl)) dL_law_486 ⟨Nat.le_of_ble_eq_true rfl, Nat.le_of_ble_eq_true rfl⟩) hP hD hS hA [3] [0, 1, 2] rfl rfl (by decide) (by decide) (fun u3 H locs hP hD hS => ?_)
  have hP : va_P G.1 vwCl [(x, .inr (7, [.ref wa, .ref wb, .ref su, .ref cu, .ref tr, .ref co, .ref lo, .ref pk])), (wa, .inr (6, [.ref ro, .int 0, .int 0])), (nw, .inr (8, [.int 0, .int 0, .ref vd, .ref lw, .ref hg, .ref rk])), (mm, .inr (9, [.int 1, .ref nw, .ref cq, .ref hi, .int 0, .ref ko, .ref se, .int 0, .ref nf, .ref ns, .ref pi]))] H := hP
  have hD : va_D A [(x, .inr (7, [.ref wa, .ref wb, .ref su, .ref cu, .ref tr, .ref co, .ref lo, .ref pk])), (wa, .inr (6, [.ref ro, .int 0, .int 0])), (nw, .inr (8, [.int 0, .int 0, .ref vd, .ref lw, .ref hg, .ref rk])), (mm, .inr (9, [.int 1, .ref nw, .ref cq, .ref hi, .int 0, .ref ko, .ref se, .int 0, .ref nf, .ref ns, .ref pi]))] := hD
  refine W.eq (g2 := F0 m 489 ls [.int 1]) rfl ?_
  refine lv_iload hx hb dL_law_489 (lv_at hl 1 rfl) ?_
  refine lv_icmp_eq (tgt := 496) hx hb dL_law_491 (by decide) (fun _ => ?_) (fun h9 => absurd (by decide) h9)
  refine lv_iload hx hb dL_law_496 (lv_at hl 1 rfl) ?_
  refine lv_if_ne (tgt := 513) hx hb dL_law_498 (by decide) (fun _ => ?_) (fun h9 => absurd h9 (by decide))
  refine lv_goto (tgt := 1748) hx hb dL_law_513 (by decide) ?_
  exact z_lawend hx hb hr hml hown hts hX hbl hlocks hl0 hA hA2 hbA hE (Nat.le_of_ble_eq_true rfl) (Nat.le_of_ble_eq_true rfl) hS (lv_sub hl [2, 6] rfl)

set_option maxHeartbeats 4000000 in
set_option maxRecDepth 100000 in
theorem z_case8 {p : Program} {l : Launch} {e : Env} {s : State} {m : MethodId} {below : List Frame} {meth : Method} {c : Code} {A : Nat → Prop} {H : Heap} {locs : List Loc} {ls : Array Slot} {G : zG} {b : Nat} {xs : Nat → Int32} (hx : p.tables.exec = Jvm.exec) (hb : c.code = code) (hr : meth.sig.returnType = ret) (hml : c.maxLocals = 9) (hown : s.vm.findClass RL = some m.cls) (hts : ∀ w ∈ wsL_law, w.before #[Value.ref b] s = true) (hX : va_X b 5 xs s s.heap) (hbl : b < s.heap.size) (hlocks : meth.locks = false) (hl0 : l.stackTraces = false) (hA : ∀ q : Nat, s.heap.size ≤ q → A q) (hA2 : ∀ q : Nat, A q → s.heap.size ≤ q) (hbA : ¬ A b) (hE : zZ G A s s.heap) {x : Nat} {wa : Nat} {wb : Nat} {su : Nat} {cu : Nat} {tr : Nat} {co : Nat} {lo : Nat} {pk : Nat} {ro : Nat} {ou : Nat} {mm : Nat} {nw : Nat} {cq : Nat} {hi : Nat} {ko : Nat} {se : Nat} {nf : Nat} {ns : Nat} {pi : Nat} {vd : Nat} {lw : Nat} {hg : Nat} {rk : Nat} (v1 : Int32) (e1 : xs 1 = v1) (v2 : Int32) (e2 : xs 2 = v2) (hP : va_P G.1 vwCl [(x, .inr (7, [.ref wa, .ref wb, .ref su, .ref cu, .ref tr, .ref co, .ref lo, .ref pk])), (wa, .inr (6, [.ref ro, .int 0, .int 0])), (mm, .inr (9, [.int 0, .ref nw, .ref cq, .ref hi, .int 0, .ref ko, .ref se, .int 0, .ref nf, .ref ns, .ref pi])), (nw, .inr (8, [.int 0, .int 0, .ref vd, .ref lw, .ref hg, .ref rk]))] H) (hD : va_D A [(x, .inr (7, [.ref wa, .ref wb, .ref su, .ref cu, .ref tr, .ref co, .ref lo, .ref pk])), (wa, .inr (6, [.ref ro, .int 0, .int 0])), (mm, .inr (9, [.int 0, .ref nw, .ref cq, .ref hi, .int 0, .ref ko, .ref se, .int 0, .ref nf, .ref ns, .ref pi])), (nw, .inr (8, [.int 0, .int 0, .ref vd, .ref lw, .ref hg, .ref rk]))]) (hS : va_S A s.heap H locs) (hl : lv_has ls 9 [(4, .int 0), (3, .ref ou), (2, .ref mm), (1, .ref x), (0, .ref b)]) : W p l e room_1 s m #[Value.ref b] below meth c H locs 89 9213 (lw_Z below #[Value.ref b] s) (F0 m 583 ls []) := by
  refine lv_aload_n hx hb dL_law_583 rfl (lv_at hl 3 rfl) ?_
  refine lv_aload_n hx hb dL_law_584 rfl (lv_at hl 4 rfl) ?_
  refine lv_iload hx hb dL_law_585 (lv_at hl 0 rfl) ?_
  refine lv_iconst (v := 1) hx hb dL_law_587 (by decide) ?_
  refine lv_iadd hx hb dL_law_588 ?_
  refine zti (v := 1) (by decide) ?_
  refine va_sld hx hb hX hbl hbA hS (zin (by decide +kernel)) dL_law_589 ?_
  refine zti (v := v1) e1 ?_
  refine lv_aload_n hx hb dL_law_590 rfl (lv_at hl 4 rfl) ?_
  refine lv_iload hx hb dL_law_591 (lv_at hl 0 rfl) ?_
  refine lv_iconst (v := 2) hx hb dL_law_593 (by decide) ?_
  refine lv_iadd hx hb dL_law_594 ?_
  refine zti (v := 2) (by decide) ?_
  refine va_sld hx hb hX hbl hbA hS (zin (by decide +kernel)) dL_law_595 ?_
  refine zti (v := v2) e2 ?_
  refine lv_aload_n hx hb dL_law_596 rfl (lv_at hl 1 rfl) ?_
  refine zcall (wr := [(mm, .inr (9, [.int 0, .ref nw, .ref cq, .ref hi, .int 0, .ref ko, .ref se, .int 0, .ref nf, .ref ns, .ref pi])), (nw, .inr (8, [.int 0, .int 0, .ref vd, .ref lw, .ref hg, .ref rk]))]) (zrunH (vx_runSX (As := [.ref x, .int v1, .int v2, .ref ou]) (rest := []) ⟨hx, hb, hml, hown, hts⟩ (z_L_ofRule l G x wa wb su cu tr co lo pk ro ou v1 v2 hl0 H.size) (vx_cwSW 4 hts gL_law_L_ofRule rfl rfl rfl (by decide +kernel) ⟨Nat.le_of_ble_eq_true rfl, Nat.le_of_ble_eq_true rfl⟩) (zPre (Wc := [(x, .inr (7, [.ref wa, .ref wb, .ref su, .ref cu, .ref tr, .ref co, .ref lo, .ref pk])), (wa, .inr (6, [.ref ro, .int 0, .int 0]))]) hP hD hE hS hA [0, 1] rfl (by decide)) rfl rfl hl.1 rfl (lv_room (Nat.le_of_ble_eq_true rfl)) dL_law_597 ⟨Nat.le_of_ble_eq_true rfl, Nat.le_of_ble_eq_true rfl⟩)) hP hD hS hA [0, 1] [2, 3] rfl rfl (by decide) (by decide) (fun u1 H locs hP hD hS => ?_)
  have hP : va_P G.1 vwCl [(mm, .inr (9, [.int 0, .ref nw, .ref cq, .ref hi, .int 0, .ref ko, .ref se, .int 0, .ref nf, .ref ns, .ref pi])), (nw, .inr (8, [.int 0, .int 0, .ref vd, .ref lw, .ref hg, .ref rk])), (x, .inr (7, [.ref wa, .ref wb, .ref su, .ref cu, .ref tr, .ref co, .ref lo, .ref pk])), (wa, .inr (6, [.ref ro, .int 0, .int 0]))] H := hP
  have hD : va_D A [(mm, .inr (9, [.int 0, .ref nw, .ref cq, .ref hi, .int 0, .ref ko, .ref se, .int 0, .ref nf, .ref ns, .ref pi])), (nw, .inr (8, [.int 0, .int 0, .ref vd, .ref lw, .ref hg, .ref rk])), (x, .inr (7, [.ref wa, .ref wb, .ref su, .ref cu, .ref tr, .ref co, .ref lo, .ref pk])), (wa, .inr (6, [.ref ro, .int 0, .int 0]))] := hD
  refine W.eq (g2 := F0 m 600 ls [.int 1]) rfl ?_
  refine lv_istore (lv' := [(5, .int 1), (4, .int 0), (3, .ref ou), (2, .ref mm), (1, .ref x), (0, .ref b)]) hx hb dL_law_600 hl (by decide) rfl (fun ls hl => ?_)
  refine lv_aload_n hx hb dL_law_602 rfl (lv_at hl 3 rfl) ?_
  refine lv_aload_n hx hb dL_law_603 rfl (lv_at hl 5 rfl) ?_
  refine lv_iload hx hb dL_law_604 (lv_at hl 1 rfl) ?_
  refine lv_iconst (v := 1) hx hb dL_law_606 (by decide) ?_
  refine lv_iadd hx hb dL_law_607 ?_
  refine zti (v := 1) (by decide) ?_
  refine va_sld hx hb hX hbl hbA hS (zin (by decide +kernel)) dL_law_608 ?_
  refine zti (v := v1) e1 ?_
  refine lv_aload_n hx hb dL_law_609 rfl (lv_at hl 5 rfl) ?_
  refine lv_iload hx hb dL_law_610 (lv_at hl 1 rfl) ?_
  refine lv_iconst (v := 2) hx hb dL_law_612 (by decide) ?_
  refine lv_iadd hx hb dL_law_613 ?_
  refine zti (v := 2) (by decide) ?_
  refine va_sld hx hb hX hbl hbA hS (zin (by decide +kernel)) dL_law_614 ?_
  refine zti (v := v2) e2 ?_
  refine zcall (wr := [(x, .inr (7, [.ref wa, .ref wb, .ref su, .ref cu, .ref tr, .ref co, .ref lo, .ref pk])), (wa, .inr (6, [.ref ro, .int 0, .int 0]))]) (va_runV (As := [.int v1, .int v2]) (rest := []) ⟨hx, hb, hml, hown, hts⟩ (z_X9_ofRule l G mm nw cq hi ko se nf ns pi 0 vd lw hg rk v1 v2 H.size) (cwV 2 hts gL_law_X9_ofRule rfl rfl rfl (by decide +kernel) ⟨Nat.le_of_ble_eq_true rfl, Nat.le_of_ble_eq_true rfl⟩) (zPreV (Wc := [(mm, .inr (9, [.int 0, .ref nw, .ref cq, .ref hi, .int 0, .ref ko, .ref se, .int 0, .ref nf, .ref ns, .ref pi])), (nw, .inr (8, [.int 0, .int 0, .ref vd, .ref lw, .ref hg, .ref rk]))]) (q0 := 0) (ci := 9) (q := (RX9, TX9, 11)) hP hD hE hS hA [0, 1] rfl (by decide) rfl rfl) rfl rfl hl.1 rfl (lv_room (Nat.le_of_ble_eq_true rfl)) dL_law_615 ⟨Nat.le_of_ble_eq_true rfl, Nat.le_of_ble_eq_true rfl⟩) hP hD hS hA [0, 1] [2, 3] rfl rfl (by decide) (by decide) (fun u2 H locs hP hD hS => ?_)
  have hP : va_P G.1 vwCl [(x, .inr (7, [.ref wa, .ref wb, .ref su, .ref cu, .ref tr, .ref co, .ref lo, .ref pk])), (wa, .inr (6, [.ref ro, .int 0, .int 0])), (nw, .inr (8, [.int 0, .int 0, .ref vd, .ref lw, .ref hg, .ref rk])), (mm, .inr (9, [.int 1, .ref nw, .ref cq, .ref hi, .int 0, .ref ko, .ref se, .int 0, .ref nf, .ref ns, .ref pi]))] H := hP
  have hD : va_D A [(x, .inr (7, [.ref wa, .ref wb, .ref su, .ref cu, .ref tr, .ref co, .ref lo, .ref pk])), (wa, .inr (6, [.ref ro, .int 0, .int 0])), (nw, .inr (8, [.int 0, .int 0, .ref vd, .ref lw, .ref hg, .ref rk])), (mm, .inr (9, [.int 1, .ref nw, .ref cq, .ref hi, .int 0, .ref ko, .ref se, .int 0, .ref nf, .ref ns, .ref pi]))] := hD
  refine W.eq (g2 := F0 m 618 ls [.int 0]) rfl ?_
  refine lv_istore (lv' := [(6, .int 0), (5, .int 1), (4, .int 0), (3, .ref ou), (2, .ref mm), (1, .ref x), (0, .ref b)]) hx hb dL_law_618 hl (by decide) rfl (fun ls hl => ?_)
  refine lv_aload_n hx hb dL_law_620 rfl (lv_at hl 4 rfl) ?_
  refine zcall (wr := [(x, .inr (7, [.ref wa, .ref wb, .ref su, .ref cu, .ref tr, .ref co, .ref lo, .ref pk])), (wa, .inr (6, [.ref ro, .int 0, .int 0])), (nw, .inr (8, [.int 0, .int 0, .ref vd, .ref lw, .ref hg, .ref rk]))]) (va_runV (As := []) (rest := []) ⟨hx, hb, hml, hown, hts⟩ (z_X9_thrown l G mm nw cq hi ko se nf ns pi 1 H.size) (cwV 0 hts gL_law_X9_thrown rfl rfl rfl (by decide +kernel) ⟨Nat.le_of_ble_eq_true rfl, Nat.le_of_ble_eq_true rfl⟩) (zPreV (Wc := [(mm, .inr (9, [.int 1, .ref nw, .ref cq, .ref hi, .int 0, .ref ko, .ref se, .int 0, .ref nf, .ref ns, .ref pi]))]) (q0 := 3) (ci := 9) (q := (RX9, TX9, 11)) hP hD hE hS hA [3] rfl (by decide) rfl rfl) rfl rfl hl.1 rfl (lv_room (Nat.le_of_ble_eq_true rfl)) dL_law_621 ⟨Nat.le_of_ble_eq_true rfl, Nat.le_of_ble_eq_true rfl⟩) hP hD hS hA [3] [0, 1, 2] rfl rfl (by decide) (by decide) (fun u3 H locs hP hD hS => ?_)
  have hP : va_P G.1 vwCl [(x, .inr (7, [.ref wa, .ref wb, .ref su, .ref cu, .ref tr, .ref co, .ref lo, .ref pk])), (wa, .inr (6, [.ref ro, .int 0, .int 0])), (nw, .inr (8, [.int 0, .int 0, .ref vd, .ref lw, .ref hg, .ref rk])), (mm, .inr (9, [.int 1, .ref nw, .ref cq, .ref hi, .int 0, .ref ko, .ref se, .int 0, .ref nf, .ref ns, .ref pi]))] H := hP
  have hD : va_D A [(x, .inr (7, [.ref wa, .ref wb, .ref su, .ref cu, .ref tr, .ref co, .ref lo, .ref pk])), (wa, .inr (6, [.ref ro, .int 0, .int 0])), (nw, .inr (8, [.int 0, .int 0, .ref vd, .ref lw, .ref hg, .ref rk])), (mm, .inr (9, [.int 1, .ref nw, .ref cq, .ref hi, .int 0, .ref ko, .ref se, .int 0, .ref nf, .ref ns, .ref pi]))] := hD
  refine W.eq (g2 := F0 m 624 ls [.int 1]) rfl ?_
  refine lv_iload hx hb dL_law_624 (lv_at hl 1 rfl) ?_
  refine lv_icmp_eq (tgt := 631) hx hb dL_law_626 (by decide) (fun _ => ?_) (fun h9 => absurd (by decide) h9)
  refine lv_iload hx hb dL_law_631 (lv_at hl 1 rfl) ?_
  refine lv_if_ne (tgt := 648) hx hb dL_law_633 (by decide) (fun _ => ?_) (fun h9 => absurd h9 (by decide))
  refine lv_goto (tgt := 1748) hx hb dL_law_648 (by decide) ?_
  exact z_lawend hx hb hr hml hown hts hX hbl hlocks hl0 hA hA2 hbA hE (Nat.le_of_ble_eq_true rfl) (Nat.le_of_ble_eq_true rfl) hS (lv_sub hl [2, 6] rfl)

set_option maxHeartbeats 4000000 in
set_option maxRecDepth 100000 in
theorem z_case9 {p : Program} {l : Launch} {e : Env} {s : State} {m : MethodId} {below : List Frame} {meth : Method} {c : Code} {A : Nat → Prop} {H : Heap} {locs : List Loc} {ls : Array Slot} {G : zG} {b : Nat} {xs : Nat → Int32} (hx : p.tables.exec = Jvm.exec) (hb : c.code = code) (hr : meth.sig.returnType = ret) (hml : c.maxLocals = 9) (hown : s.vm.findClass RL = some m.cls) (hts : ∀ w ∈ wsL_law, w.before #[Value.ref b] s = true) (hX : va_X b 5 xs s s.heap) (hbl : b < s.heap.size) (hlocks : meth.locks = false) (hl0 : l.stackTraces = false) (hA : ∀ q : Nat, s.heap.size ≤ q → A q) (hA2 : ∀ q : Nat, A q → s.heap.size ≤ q) (hbA : ¬ A b) (hE : zZ G A s s.heap) {x : Nat} {wa : Nat} {wb : Nat} {su : Nat} {cu : Nat} {tr : Nat} {co : Nat} {lo : Nat} {pk : Nat} {ro : Nat} {ou : Nat} {mm : Nat} {nw : Nat} {cq : Nat} {hi : Nat} {ko : Nat} {se : Nat} {nf : Nat} {ns : Nat} {pi : Nat} {vd : Nat} {lw : Nat} {hg : Nat} {rk : Nat} (v1 : Int32) (e1 : xs 1 = v1) (hP : va_P G.1 vwCl [(x, .inr (7, [.ref wa, .ref wb, .ref su, .ref cu, .ref tr, .ref co, .ref lo, .ref pk])), (wa, .inr (6, [.ref ro, .int 0, .int 0])), (mm, .inr (9, [.int 0, .ref nw, .ref cq, .ref hi, .int 0, .ref ko, .ref se, .int 0, .ref nf, .ref ns, .ref pi])), (nw, .inr (8, [.int 0, .int 0, .ref vd, .ref lw, .ref hg, .ref rk]))] H) (hD : va_D A [(x, .inr (7, [.ref wa, .ref wb, .ref su, .ref cu, .ref tr, .ref co, .ref lo, .ref pk])), (wa, .inr (6, [.ref ro, .int 0, .int 0])), (mm, .inr (9, [.int 0, .ref nw, .ref cq, .ref hi, .int 0, .ref ko, .ref se, .int 0, .ref nf, .ref ns, .ref pi])), (nw, .inr (8, [.int 0, .int 0, .ref vd, .ref lw, .ref hg, .ref rk]))]) (hS : va_S A s.heap H locs) (hl : lv_has ls 9 [(4, .int 0), (3, .ref ou), (2, .ref mm), (1, .ref x), (0, .ref b)]) : W p l e room_1 s m #[Value.ref b] below meth c H locs 89 9213 (lw_Z below #[Value.ref b] s) (F0 m 651 ls []) := by
  refine lv_aload_n hx hb dL_law_651 rfl (lv_at hl 3 rfl) ?_
  refine lv_aload_n hx hb dL_law_652 rfl (lv_at hl 4 rfl) ?_
  refine lv_iload hx hb dL_law_653 (lv_at hl 0 rfl) ?_
  refine lv_iconst (v := 1) hx hb dL_law_655 (by decide) ?_
  refine lv_iadd hx hb dL_law_656 ?_
  refine zti (v := 1) (by decide) ?_
  refine va_sld hx hb hX hbl hbA hS (zin (by decide +kernel)) dL_law_657 ?_
  refine zti (v := v1) e1 ?_
  refine lv_aload_n hx hb dL_law_658 rfl (lv_at hl 1 rfl) ?_
  refine zcall (wr := [(mm, .inr (9, [.int 0, .ref nw, .ref cq, .ref hi, .int 0, .ref ko, .ref se, .int 0, .ref nf, .ref ns, .ref pi])), (nw, .inr (8, [.int 0, .int 0, .ref vd, .ref lw, .ref hg, .ref rk]))]) (zrunH (vx_runSX (As := [.ref x, .int v1, .ref ou]) (rest := []) ⟨hx, hb, hml, hown, hts⟩ (z_L_decides l G x wa wb su cu tr co lo pk ro ou v1 hl0 H.size) (vx_cwSW 3 hts gL_law_L_decides rfl rfl rfl (by decide +kernel) ⟨Nat.le_of_ble_eq_true rfl, Nat.le_of_ble_eq_true rfl⟩) (zPre (Wc := [(x, .inr (7, [.ref wa, .ref wb, .ref su, .ref cu, .ref tr, .ref co, .ref lo, .ref pk])), (wa, .inr (6, [.ref ro, .int 0, .int 0]))]) hP hD hE hS hA [0, 1] rfl (by decide)) rfl rfl hl.1 rfl (lv_room (Nat.le_of_ble_eq_true rfl)) dL_law_659 ⟨Nat.le_of_ble_eq_true rfl, Nat.le_of_ble_eq_true rfl⟩)) hP hD hS hA [0, 1] [2, 3] rfl rfl (by decide) (by decide) (fun u1 H locs hP hD hS => ?_)
  have hP : va_P G.1 vwCl [(mm, .inr (9, [.int 0, .ref nw, .ref cq, .ref hi, .int 0, .ref ko, .ref se, .int 0, .ref nf, .ref ns, .ref pi])), (nw, .inr (8, [.int 0, .int 0, .ref vd, .ref lw, .ref hg, .ref rk])), (x, .inr (7, [.ref wa, .ref wb, .ref su, .ref cu, .ref tr, .ref co, .ref lo, .ref pk])), (wa, .inr (6, [.ref ro, .int 0, .int 0]))] H := hP
  have hD : va_D A [(mm, .inr (9, [.int 0, .ref nw, .ref cq, .ref hi, .int 0, .ref ko, .ref se, .int 0, .ref nf, .ref ns, .ref pi])), (nw, .inr (8, [.int 0, .int 0, .ref vd, .ref lw, .ref hg, .ref rk])), (x, .inr (7, [.ref wa, .ref wb, .ref su, .ref cu, .ref tr, .ref co, .ref lo, .ref pk])), (wa, .inr (6, [.ref ro, .int 0, .int 0]))] := hD
  refine W.eq (g2 := F0 m 662 ls [.int 1]) rfl ?_
  refine lv_istore (lv' := [(5, .int 1), (4, .int 0), (3, .ref ou), (2, .ref mm), (1, .ref x), (0, .ref b)]) hx hb dL_law_662 hl (by decide) rfl (fun ls hl => ?_)
  refine lv_aload_n hx hb dL_law_664 rfl (lv_at hl 3 rfl) ?_
  refine lv_aload_n hx hb dL_law_665 rfl (lv_at hl 5 rfl) ?_
  refine lv_iload hx hb dL_law_666 (lv_at hl 1 rfl) ?_
  refine lv_iconst (v := 1) hx hb dL_law_668 (by decide) ?_
  refine lv_iadd hx hb dL_law_669 ?_
  refine zti (v := 1) (by decide) ?_
  refine va_sld hx hb hX hbl hbA hS (zin (by decide +kernel)) dL_law_670 ?_
  refine zti (v := v1) e1 ?_
  refine zcall (wr := [(x, .inr (7, [.ref wa, .ref wb, .ref su, .ref cu, .ref tr, .ref co, .ref lo, .ref pk])), (wa, .inr (6, [.ref ro, .int 0, .int 0]))]) (va_runV (As := [.int v1]) (rest := []) ⟨hx, hb, hml, hown, hts⟩ (z_X9_decides l G mm nw cq hi ko se nf ns pi 0 vd lw hg rk v1 H.size) (cwV 1 hts gL_law_X9_decides rfl rfl rfl (by decide +kernel) ⟨Nat.le_of_ble_eq_true rfl, Nat.le_of_ble_eq_true rfl⟩) (zPreV (Wc := [(mm, .inr (9, [.int 0, .ref nw, .ref cq, .ref hi, .int 0, .ref ko, .ref se, .int 0, .ref nf, .ref ns, .ref pi])), (nw, .inr (8, [.int 0, .int 0, .ref vd, .ref lw, .ref hg, .ref rk]))]) (q0 := 0) (ci := 9) (q := (RX9, TX9, 11)) hP hD hE hS hA [0, 1] rfl (by decide) rfl rfl) rfl rfl hl.1 rfl (lv_room (Nat.le_of_ble_eq_true rfl)) dL_law_671 ⟨Nat.le_of_ble_eq_true rfl, Nat.le_of_ble_eq_true rfl⟩) hP hD hS hA [0, 1] [2, 3] rfl rfl (by decide) (by decide) (fun u2 H locs hP hD hS => ?_)
  have hP : va_P G.1 vwCl [(x, .inr (7, [.ref wa, .ref wb, .ref su, .ref cu, .ref tr, .ref co, .ref lo, .ref pk])), (wa, .inr (6, [.ref ro, .int 0, .int 0])), (nw, .inr (8, [.int 0, .int 0, .ref vd, .ref lw, .ref hg, .ref rk])), (mm, .inr (9, [.int 1, .ref nw, .ref cq, .ref hi, .int 0, .ref ko, .ref se, .int 0, .ref nf, .ref ns, .ref pi]))] H := hP
  have hD : va_D A [(x, .inr (7, [.ref wa, .ref wb, .ref su, .ref cu, .ref tr, .ref co, .ref lo, .ref pk])), (wa, .inr (6, [.ref ro, .int 0, .int 0])), (nw, .inr (8, [.int 0, .int 0, .ref vd, .ref lw, .ref hg, .ref rk])), (mm, .inr (9, [.int 1, .ref nw, .ref cq, .ref hi, .int 0, .ref ko, .ref se, .int 0, .ref nf, .ref ns, .ref pi]))] := hD
  refine W.eq (g2 := F0 m 674 ls [.int 0]) rfl ?_
  refine lv_istore (lv' := [(6, .int 0), (5, .int 1), (4, .int 0), (3, .ref ou), (2, .ref mm), (1, .ref x), (0, .ref b)]) hx hb dL_law_674 hl (by decide) rfl (fun ls hl => ?_)
  refine lv_aload_n hx hb dL_law_676 rfl (lv_at hl 4 rfl) ?_
  refine zcall (wr := [(x, .inr (7, [.ref wa, .ref wb, .ref su, .ref cu, .ref tr, .ref co, .ref lo, .ref pk])), (wa, .inr (6, [.ref ro, .int 0, .int 0])), (nw, .inr (8, [.int 0, .int 0, .ref vd, .ref lw, .ref hg, .ref rk]))]) (va_runV (As := []) (rest := []) ⟨hx, hb, hml, hown, hts⟩ (z_X9_thrown l G mm nw cq hi ko se nf ns pi 1 H.size) (cwV 0 hts gL_law_X9_thrown rfl rfl rfl (by decide +kernel) ⟨Nat.le_of_ble_eq_true rfl, Nat.le_of_ble_eq_true rfl⟩) (zPreV (Wc := [(mm, .inr (9, [.int 1, .ref nw, .ref cq, .ref hi, .int 0, .ref ko, .ref se, .int 0, .ref nf, .ref ns, .ref pi]))]) (q0 := 3) (ci := 9) (q := (RX9, TX9, 11)) hP hD hE hS hA [3] rfl (by decide) rfl rfl) rfl rfl hl.1 rfl (lv_room (Nat.le_of_ble_eq_true rfl)) dL_law_677 ⟨Nat.le_of_ble_eq_true rfl, Nat.le_of_ble_eq_true rfl⟩) hP hD hS hA [3] [0, 1, 2] rfl rfl (by decide) (by decide) (fun u3 H locs hP hD hS => ?_)
  have hP : va_P G.1 vwCl [(x, .inr (7, [.ref wa, .ref wb, .ref su, .ref cu, .ref tr, .ref co, .ref lo, .ref pk])), (wa, .inr (6, [.ref ro, .int 0, .int 0])), (nw, .inr (8, [.int 0, .int 0, .ref vd, .ref lw, .ref hg, .ref rk])), (mm, .inr (9, [.int 1, .ref nw, .ref cq, .ref hi, .int 0, .ref ko, .ref se, .int 0, .ref nf, .ref ns, .ref pi]))] H := hP
  have hD : va_D A [(x, .inr (7, [.ref wa, .ref wb, .ref su, .ref cu, .ref tr, .ref co, .ref lo, .ref pk])), (wa, .inr (6, [.ref ro, .int 0, .int 0])), (nw, .inr (8, [.int 0, .int 0, .ref vd, .ref lw, .ref hg, .ref rk])), (mm, .inr (9, [.int 1, .ref nw, .ref cq, .ref hi, .int 0, .ref ko, .ref se, .int 0, .ref nf, .ref ns, .ref pi]))] := hD
  refine W.eq (g2 := F0 m 680 ls [.int 1]) rfl ?_
  refine lv_iload hx hb dL_law_680 (lv_at hl 1 rfl) ?_
  refine lv_icmp_eq (tgt := 687) hx hb dL_law_682 (by decide) (fun _ => ?_) (fun h9 => absurd (by decide) h9)
  refine lv_iload hx hb dL_law_687 (lv_at hl 1 rfl) ?_
  refine lv_if_ne (tgt := 704) hx hb dL_law_689 (by decide) (fun _ => ?_) (fun h9 => absurd h9 (by decide))
  refine lv_goto (tgt := 1748) hx hb dL_law_704 (by decide) ?_
  exact z_lawend hx hb hr hml hown hts hX hbl hlocks hl0 hA hA2 hbA hE (Nat.le_of_ble_eq_true rfl) (Nat.le_of_ble_eq_true rfl) hS (lv_sub hl [2, 6] rfl)

set_option maxHeartbeats 4000000 in
set_option maxRecDepth 100000 in
theorem z_case11 {p : Program} {l : Launch} {e : Env} {s : State} {m : MethodId} {below : List Frame} {meth : Method} {c : Code} {A : Nat → Prop} {H : Heap} {locs : List Loc} {ls : Array Slot} {G : zG} {b : Nat} {xs : Nat → Int32} (hx : p.tables.exec = Jvm.exec) (hb : c.code = code) (hr : meth.sig.returnType = ret) (hml : c.maxLocals = 9) (hown : s.vm.findClass RL = some m.cls) (hts : ∀ w ∈ wsL_law, w.before #[Value.ref b] s = true) (hX : va_X b 5 xs s s.heap) (hbl : b < s.heap.size) (hlocks : meth.locks = false) (hl0 : l.stackTraces = false) (hA : ∀ q : Nat, s.heap.size ≤ q → A q) (hA2 : ∀ q : Nat, A q → s.heap.size ≤ q) (hbA : ¬ A b) (hE : zZ G A s s.heap) {x : Nat} {wa : Nat} {wb : Nat} {su : Nat} {cu : Nat} {tr : Nat} {co : Nat} {lo : Nat} {pk : Nat} {ro : Nat} {ou : Nat} {mm : Nat} {nw : Nat} {cq : Nat} {hi : Nat} {ko : Nat} {se : Nat} {nf : Nat} {ns : Nat} {pi : Nat} {vd : Nat} {lw : Nat} {hg : Nat} {rk : Nat} (v1 : Int32) (e1 : xs 1 = v1) (hP : va_P G.1 vwCl [(x, .inr (7, [.ref wa, .ref wb, .ref su, .ref cu, .ref tr, .ref co, .ref lo, .ref pk])), (wa, .inr (6, [.ref ro, .int 0, .int 0])), (mm, .inr (9, [.int 0, .ref nw, .ref cq, .ref hi, .int 0, .ref ko, .ref se, .int 0, .ref nf, .ref ns, .ref pi])), (nw, .inr (8, [.int 0, .int 0, .ref vd, .ref lw, .ref hg, .ref rk]))] H) (hD : va_D A [(x, .inr (7, [.ref wa, .ref wb, .ref su, .ref cu, .ref tr, .ref co, .ref lo, .ref pk])), (wa, .inr (6, [.ref ro, .int 0, .int 0])), (mm, .inr (9, [.int 0, .ref nw, .ref cq, .ref hi, .int 0, .ref ko, .ref se, .int 0, .ref nf, .ref ns, .ref pi])), (nw, .inr (8, [.int 0, .int 0, .ref vd, .ref lw, .ref hg, .ref rk]))]) (hS : va_S A s.heap H locs) (hl : lv_has ls 9 [(4, .int 0), (3, .ref ou), (2, .ref mm), (1, .ref x), (0, .ref b)]) : W p l e room_1 s m #[Value.ref b] below meth c H locs 89 9213 (lw_Z below #[Value.ref b] s) (F0 m 720 ls []) := by
  refine lv_aload_n hx hb dL_law_720 rfl (lv_at hl 3 rfl) ?_
  refine lv_aload_n hx hb dL_law_721 rfl (lv_at hl 4 rfl) ?_
  refine lv_iload hx hb dL_law_722 (lv_at hl 0 rfl) ?_
  refine lv_iconst (v := 1) hx hb dL_law_724 (by decide) ?_
  refine lv_iadd hx hb dL_law_725 ?_
  refine zti (v := 1) (by decide) ?_
  refine va_sld hx hb hX hbl hbA hS (zin (by decide +kernel)) dL_law_726 ?_
  refine zti (v := v1) e1 ?_
  refine lv_aload_n hx hb dL_law_727 rfl (lv_at hl 1 rfl) ?_
  refine zcall (wr := [(mm, .inr (9, [.int 0, .ref nw, .ref cq, .ref hi, .int 0, .ref ko, .ref se, .int 0, .ref nf, .ref ns, .ref pi])), (nw, .inr (8, [.int 0, .int 0, .ref vd, .ref lw, .ref hg, .ref rk]))]) (zrunH (vx_runSX (As := [.ref x, .int v1, .ref ou]) (rest := []) ⟨hx, hb, hml, hown, hts⟩ (z_L_state l G x wa wb su cu tr co lo pk ro ou v1 hl0 H.size) (vx_cwSW 3 hts gL_law_L_state rfl rfl rfl (by decide +kernel) ⟨Nat.le_of_ble_eq_true rfl, Nat.le_of_ble_eq_true rfl⟩) (zPre (Wc := [(x, .inr (7, [.ref wa, .ref wb, .ref su, .ref cu, .ref tr, .ref co, .ref lo, .ref pk])), (wa, .inr (6, [.ref ro, .int 0, .int 0]))]) hP hD hE hS hA [0, 1] rfl (by decide)) rfl rfl hl.1 rfl (lv_room (Nat.le_of_ble_eq_true rfl)) dL_law_728 ⟨Nat.le_of_ble_eq_true rfl, Nat.le_of_ble_eq_true rfl⟩)) hP hD hS hA [0, 1] [2, 3] rfl rfl (by decide) (by decide) (fun u1 H locs hP hD hS => ?_)
  have hP : va_P G.1 vwCl [(mm, .inr (9, [.int 0, .ref nw, .ref cq, .ref hi, .int 0, .ref ko, .ref se, .int 0, .ref nf, .ref ns, .ref pi])), (nw, .inr (8, [.int 0, .int 0, .ref vd, .ref lw, .ref hg, .ref rk])), (x, .inr (7, [.ref wa, .ref wb, .ref su, .ref cu, .ref tr, .ref co, .ref lo, .ref pk])), (wa, .inr (6, [.ref ro, .int 0, .int 0]))] H := hP
  have hD : va_D A [(mm, .inr (9, [.int 0, .ref nw, .ref cq, .ref hi, .int 0, .ref ko, .ref se, .int 0, .ref nf, .ref ns, .ref pi])), (nw, .inr (8, [.int 0, .int 0, .ref vd, .ref lw, .ref hg, .ref rk])), (x, .inr (7, [.ref wa, .ref wb, .ref su, .ref cu, .ref tr, .ref co, .ref lo, .ref pk])), (wa, .inr (6, [.ref ro, .int 0, .int 0]))] := hD
  refine W.eq (g2 := F0 m 731 ls [.int 1]) rfl ?_
  refine lv_istore (lv' := [(5, .int 1), (4, .int 0), (3, .ref ou), (2, .ref mm), (1, .ref x), (0, .ref b)]) hx hb dL_law_731 hl (by decide) rfl (fun ls hl => ?_)
  refine lv_aload_n hx hb dL_law_733 rfl (lv_at hl 3 rfl) ?_
  refine lv_aload_n hx hb dL_law_734 rfl (lv_at hl 5 rfl) ?_
  refine lv_iload hx hb dL_law_735 (lv_at hl 1 rfl) ?_
  refine lv_iconst (v := 1) hx hb dL_law_737 (by decide) ?_
  refine lv_iadd hx hb dL_law_738 ?_
  refine zti (v := 1) (by decide) ?_
  refine va_sld hx hb hX hbl hbA hS (zin (by decide +kernel)) dL_law_739 ?_
  refine zti (v := v1) e1 ?_
  refine zcall (wr := [(x, .inr (7, [.ref wa, .ref wb, .ref su, .ref cu, .ref tr, .ref co, .ref lo, .ref pk])), (wa, .inr (6, [.ref ro, .int 0, .int 0]))]) (va_runV (As := [.int v1]) (rest := []) ⟨hx, hb, hml, hown, hts⟩ (z_X9_state l G mm nw cq hi ko se nf ns pi 0 vd lw hg rk v1 H.size) (cwV 1 hts gL_law_X9_state rfl rfl rfl (by decide +kernel) ⟨Nat.le_of_ble_eq_true rfl, Nat.le_of_ble_eq_true rfl⟩) (zPreV (Wc := [(mm, .inr (9, [.int 0, .ref nw, .ref cq, .ref hi, .int 0, .ref ko, .ref se, .int 0, .ref nf, .ref ns, .ref pi])), (nw, .inr (8, [.int 0, .int 0, .ref vd, .ref lw, .ref hg, .ref rk]))]) (q0 := 0) (ci := 9) (q := (RX9, TX9, 11)) hP hD hE hS hA [0, 1] rfl (by decide) rfl rfl) rfl rfl hl.1 rfl (lv_room (Nat.le_of_ble_eq_true rfl)) dL_law_740 ⟨Nat.le_of_ble_eq_true rfl, Nat.le_of_ble_eq_true rfl⟩) hP hD hS hA [0, 1] [2, 3] rfl rfl (by decide) (by decide) (fun u2 H locs hP hD hS => ?_)
  have hP : va_P G.1 vwCl [(x, .inr (7, [.ref wa, .ref wb, .ref su, .ref cu, .ref tr, .ref co, .ref lo, .ref pk])), (wa, .inr (6, [.ref ro, .int 0, .int 0])), (nw, .inr (8, [.int 0, .int 0, .ref vd, .ref lw, .ref hg, .ref rk])), (mm, .inr (9, [.int 1, .ref nw, .ref cq, .ref hi, .int 0, .ref ko, .ref se, .int 0, .ref nf, .ref ns, .ref pi]))] H := hP
  have hD : va_D A [(x, .inr (7, [.ref wa, .ref wb, .ref su, .ref cu, .ref tr, .ref co, .ref lo, .ref pk])), (wa, .inr (6, [.ref ro, .int 0, .int 0])), (nw, .inr (8, [.int 0, .int 0, .ref vd, .ref lw, .ref hg, .ref rk])), (mm, .inr (9, [.int 1, .ref nw, .ref cq, .ref hi, .int 0, .ref ko, .ref se, .int 0, .ref nf, .ref ns, .ref pi]))] := hD
  refine W.eq (g2 := F0 m 743 ls [.int 0]) rfl ?_
  refine lv_istore (lv' := [(6, .int 0), (5, .int 1), (4, .int 0), (3, .ref ou), (2, .ref mm), (1, .ref x), (0, .ref b)]) hx hb dL_law_743 hl (by decide) rfl (fun ls hl => ?_)
  refine lv_aload_n hx hb dL_law_745 rfl (lv_at hl 4 rfl) ?_
  refine zcall (wr := [(x, .inr (7, [.ref wa, .ref wb, .ref su, .ref cu, .ref tr, .ref co, .ref lo, .ref pk])), (wa, .inr (6, [.ref ro, .int 0, .int 0])), (nw, .inr (8, [.int 0, .int 0, .ref vd, .ref lw, .ref hg, .ref rk]))]) (va_runV (As := []) (rest := []) ⟨hx, hb, hml, hown, hts⟩ (z_X9_thrown l G mm nw cq hi ko se nf ns pi 1 H.size) (cwV 0 hts gL_law_X9_thrown rfl rfl rfl (by decide +kernel) ⟨Nat.le_of_ble_eq_true rfl, Nat.le_of_ble_eq_true rfl⟩) (zPreV (Wc := [(mm, .inr (9, [.int 1, .ref nw, .ref cq, .ref hi, .int 0, .ref ko, .ref se, .int 0, .ref nf, .ref ns, .ref pi]))]) (q0 := 3) (ci := 9) (q := (RX9, TX9, 11)) hP hD hE hS hA [3] rfl (by decide) rfl rfl) rfl rfl hl.1 rfl (lv_room (Nat.le_of_ble_eq_true rfl)) dL_law_746 ⟨Nat.le_of_ble_eq_true rfl, Nat.le_of_ble_eq_true rfl⟩) hP hD hS hA [3] [0, 1, 2] rfl rfl (by decide) (by decide) (fun u3 H locs hP hD hS => ?_)
  have hP : va_P G.1 vwCl [(x, .inr (7, [.ref wa, .ref wb, .ref su, .ref cu, .ref tr, .ref co, .ref lo, .ref pk])), (wa, .inr (6, [.ref ro, .int 0, .int 0])), (nw, .inr (8, [.int 0, .int 0, .ref vd, .ref lw, .ref hg, .ref rk])), (mm, .inr (9, [.int 1, .ref nw, .ref cq, .ref hi, .int 0, .ref ko, .ref se, .int 0, .ref nf, .ref ns, .ref pi]))] H := hP
  have hD : va_D A [(x, .inr (7, [.ref wa, .ref wb, .ref su, .ref cu, .ref tr, .ref co, .ref lo, .ref pk])), (wa, .inr (6, [.ref ro, .int 0, .int 0])), (nw, .inr (8, [.int 0, .int 0, .ref vd, .ref lw, .ref hg, .ref rk])), (mm, .inr (9, [.int 1, .ref nw, .ref cq, .ref hi, .int 0, .ref ko, .ref se, .int 0, .ref nf, .ref ns, .ref pi]))] := hD
  refine W.eq (g2 := F0 m 749 ls [.int 1]) rfl ?_
  refine lv_iload hx hb dL_law_749 (lv_at hl 1 rfl) ?_
  refine lv_icmp_eq (tgt := 756) hx hb dL_law_751 (by decide) (fun _ => ?_) (fun h9 => absurd (by decide) h9)
  refine lv_iload hx hb dL_law_756 (lv_at hl 1 rfl) ?_
  refine lv_if_ne (tgt := 773) hx hb dL_law_758 (by decide) (fun _ => ?_) (fun h9 => absurd h9 (by decide))
  refine lv_goto (tgt := 1748) hx hb dL_law_773 (by decide) ?_
  exact z_lawend hx hb hr hml hown hts hX hbl hlocks hl0 hA hA2 hbA hE (Nat.le_of_ble_eq_true rfl) (Nat.le_of_ble_eq_true rfl) hS (lv_sub hl [2, 6] rfl)

set_option maxHeartbeats 4000000 in
set_option maxRecDepth 100000 in
theorem z_case12 {p : Program} {l : Launch} {e : Env} {s : State} {m : MethodId} {below : List Frame} {meth : Method} {c : Code} {A : Nat → Prop} {H : Heap} {locs : List Loc} {ls : Array Slot} {G : zG} {b : Nat} {xs : Nat → Int32} (hx : p.tables.exec = Jvm.exec) (hb : c.code = code) (hr : meth.sig.returnType = ret) (hml : c.maxLocals = 9) (hown : s.vm.findClass RL = some m.cls) (hts : ∀ w ∈ wsL_law, w.before #[Value.ref b] s = true) (hX : va_X b 5 xs s s.heap) (hbl : b < s.heap.size) (hlocks : meth.locks = false) (hl0 : l.stackTraces = false) (hA : ∀ q : Nat, s.heap.size ≤ q → A q) (hA2 : ∀ q : Nat, A q → s.heap.size ≤ q) (hbA : ¬ A b) (hE : zZ G A s s.heap) {x : Nat} {wa : Nat} {wb : Nat} {su : Nat} {cu : Nat} {tr : Nat} {co : Nat} {lo : Nat} {pk : Nat} {ro : Nat} {ou : Nat} {mm : Nat} {nw : Nat} {cq : Nat} {hi : Nat} {ko : Nat} {se : Nat} {nf : Nat} {ns : Nat} {pi : Nat} {vd : Nat} {lw : Nat} {hg : Nat} {rk : Nat} (v1 : Int32) (e1 : xs 1 = v1) (hP : va_P G.1 vwCl [(x, .inr (7, [.ref wa, .ref wb, .ref su, .ref cu, .ref tr, .ref co, .ref lo, .ref pk])), (wa, .inr (6, [.ref ro, .int 0, .int 0])), (mm, .inr (9, [.int 0, .ref nw, .ref cq, .ref hi, .int 0, .ref ko, .ref se, .int 0, .ref nf, .ref ns, .ref pi])), (nw, .inr (8, [.int 0, .int 0, .ref vd, .ref lw, .ref hg, .ref rk]))] H) (hD : va_D A [(x, .inr (7, [.ref wa, .ref wb, .ref su, .ref cu, .ref tr, .ref co, .ref lo, .ref pk])), (wa, .inr (6, [.ref ro, .int 0, .int 0])), (mm, .inr (9, [.int 0, .ref nw, .ref cq, .ref hi, .int 0, .ref ko, .ref se, .int 0, .ref nf, .ref ns, .ref pi])), (nw, .inr (8, [.int 0, .int 0, .ref vd, .ref lw, .ref hg, .ref rk]))]) (hS : va_S A s.heap H locs) (hl : lv_has ls 9 [(4, .int 0), (3, .ref ou), (2, .ref mm), (1, .ref x), (0, .ref b)]) : W p l e room_1 s m #[Value.ref b] below meth c H locs 89 9213 (lw_Z below #[Value.ref b] s) (F0 m 776 ls []) := by
  refine lv_aload_n hx hb dL_law_776 rfl (lv_at hl 3 rfl) ?_
  refine lv_aload_n hx hb dL_law_777 rfl (lv_at hl 4 rfl) ?_
  refine lv_iload hx hb dL_law_778 (lv_at hl 0 rfl) ?_
  refine lv_iconst (v := 1) hx hb dL_law_780 (by decide) ?_
  refine lv_iadd hx hb dL_law_781 ?_
  refine zti (v := 1) (by decide) ?_
  refine va_sld hx hb hX hbl hbA hS (zin (by decide +kernel)) dL_law_782 ?_
  refine zti (v := v1) e1 ?_
  refine lv_aload_n hx hb dL_law_783 rfl (lv_at hl 1 rfl) ?_
  refine zcall (wr := [(mm, .inr (9, [.int 0, .ref nw, .ref cq, .ref hi, .int 0, .ref ko, .ref se, .int 0, .ref nf, .ref ns, .ref pi])), (nw, .inr (8, [.int 0, .int 0, .ref vd, .ref lw, .ref hg, .ref rk]))]) (zrunH (vx_runSX (As := [.ref x, .int v1, .ref ou]) (rest := []) ⟨hx, hb, hml, hown, hts⟩ (z_L_coveredBy l G x wa wb su cu tr co lo pk ro ou v1 hl0 H.size) (vx_cwSW 3 hts gL_law_L_coveredBy rfl rfl rfl (by decide +kernel) ⟨Nat.le_of_ble_eq_true rfl, Nat.le_of_ble_eq_true rfl⟩) (zPre (Wc := [(x, .inr (7, [.ref wa, .ref wb, .ref su, .ref cu, .ref tr, .ref co, .ref lo, .ref pk])), (wa, .inr (6, [.ref ro, .int 0, .int 0]))]) hP hD hE hS hA [0, 1] rfl (by decide)) rfl rfl hl.1 rfl (lv_room (Nat.le_of_ble_eq_true rfl)) dL_law_784 ⟨Nat.le_of_ble_eq_true rfl, Nat.le_of_ble_eq_true rfl⟩)) hP hD hS hA [0, 1] [2, 3] rfl rfl (by decide) (by decide) (fun u1 H locs hP hD hS => ?_)
  have hP : va_P G.1 vwCl [(mm, .inr (9, [.int 0, .ref nw, .ref cq, .ref hi, .int 0, .ref ko, .ref se, .int 0, .ref nf, .ref ns, .ref pi])), (nw, .inr (8, [.int 0, .int 0, .ref vd, .ref lw, .ref hg, .ref rk])), (x, .inr (7, [.ref wa, .ref wb, .ref su, .ref cu, .ref tr, .ref co, .ref lo, .ref pk])), (wa, .inr (6, [.ref ro, .int 0, .int 0]))] H := hP
  have hD : va_D A [(mm, .inr (9, [.int 0, .ref nw, .ref cq, .ref hi, .int 0, .ref ko, .ref se, .int 0, .ref nf, .ref ns, .ref pi])), (nw, .inr (8, [.int 0, .int 0, .ref vd, .ref lw, .ref hg, .ref rk])), (x, .inr (7, [.ref wa, .ref wb, .ref su, .ref cu, .ref tr, .ref co, .ref lo, .ref pk])), (wa, .inr (6, [.ref ro, .int 0, .int 0]))] := hD
  refine W.eq (g2 := F0 m 787 ls [.int 1]) rfl ?_
  refine lv_istore (lv' := [(5, .int 1), (4, .int 0), (3, .ref ou), (2, .ref mm), (1, .ref x), (0, .ref b)]) hx hb dL_law_787 hl (by decide) rfl (fun ls hl => ?_)
  refine lv_aload_n hx hb dL_law_789 rfl (lv_at hl 3 rfl) ?_
  refine lv_aload_n hx hb dL_law_790 rfl (lv_at hl 5 rfl) ?_
  refine lv_iload hx hb dL_law_791 (lv_at hl 1 rfl) ?_
  refine lv_iconst (v := 1) hx hb dL_law_793 (by decide) ?_
  refine lv_iadd hx hb dL_law_794 ?_
  refine zti (v := 1) (by decide) ?_
  refine va_sld hx hb hX hbl hbA hS (zin (by decide +kernel)) dL_law_795 ?_
  refine zti (v := v1) e1 ?_
  refine zcall (wr := [(x, .inr (7, [.ref wa, .ref wb, .ref su, .ref cu, .ref tr, .ref co, .ref lo, .ref pk])), (wa, .inr (6, [.ref ro, .int 0, .int 0]))]) (va_runV (As := [.int v1]) (rest := []) ⟨hx, hb, hml, hown, hts⟩ (z_X9_coveredBy l G mm nw cq hi ko se nf ns pi 0 vd lw hg rk v1 H.size) (cwV 1 hts gL_law_X9_coveredBy rfl rfl rfl (by decide +kernel) ⟨Nat.le_of_ble_eq_true rfl, Nat.le_of_ble_eq_true rfl⟩) (zPreV (Wc := [(mm, .inr (9, [.int 0, .ref nw, .ref cq, .ref hi, .int 0, .ref ko, .ref se, .int 0, .ref nf, .ref ns, .ref pi])), (nw, .inr (8, [.int 0, .int 0, .ref vd, .ref lw, .ref hg, .ref rk]))]) (q0 := 0) (ci := 9) (q := (RX9, TX9, 11)) hP hD hE hS hA [0, 1] rfl (by decide) rfl rfl) rfl rfl hl.1 rfl (lv_room (Nat.le_of_ble_eq_true rfl)) dL_law_796 ⟨Nat.le_of_ble_eq_true rfl, Nat.le_of_ble_eq_true rfl⟩) hP hD hS hA [0, 1] [2, 3] rfl rfl (by decide) (by decide) (fun u2 H locs hP hD hS => ?_)
  have hP : va_P G.1 vwCl [(x, .inr (7, [.ref wa, .ref wb, .ref su, .ref cu, .ref tr, .ref co, .ref lo, .ref pk])), (wa, .inr (6, [.ref ro, .int 0, .int 0])), (nw, .inr (8, [.int 0, .int 0, .ref vd, .ref lw, .ref hg, .ref rk])), (mm, .inr (9, [.int 1, .ref nw, .ref cq, .ref hi, .int 0, .ref ko, .ref se, .int 0, .ref nf, .ref ns, .ref pi]))] H := hP
  have hD : va_D A [(x, .inr (7, [.ref wa, .ref wb, .ref su, .ref cu, .ref tr, .ref co, .ref lo, .ref pk])), (wa, .inr (6, [.ref ro, .int 0, .int 0])), (nw, .inr (8, [.int 0, .int 0, .ref vd, .ref lw, .ref hg, .ref rk])), (mm, .inr (9, [.int 1, .ref nw, .ref cq, .ref hi, .int 0, .ref ko, .ref se, .int 0, .ref nf, .ref ns, .ref pi]))] := hD
  refine W.eq (g2 := F0 m 799 ls [.int 0]) rfl ?_
  refine lv_istore (lv' := [(6, .int 0), (5, .int 1), (4, .int 0), (3, .ref ou), (2, .ref mm), (1, .ref x), (0, .ref b)]) hx hb dL_law_799 hl (by decide) rfl (fun ls hl => ?_)
  refine lv_aload_n hx hb dL_law_801 rfl (lv_at hl 4 rfl) ?_
  refine zcall (wr := [(x, .inr (7, [.ref wa, .ref wb, .ref su, .ref cu, .ref tr, .ref co, .ref lo, .ref pk])), (wa, .inr (6, [.ref ro, .int 0, .int 0])), (nw, .inr (8, [.int 0, .int 0, .ref vd, .ref lw, .ref hg, .ref rk]))]) (va_runV (As := []) (rest := []) ⟨hx, hb, hml, hown, hts⟩ (z_X9_thrown l G mm nw cq hi ko se nf ns pi 1 H.size) (cwV 0 hts gL_law_X9_thrown rfl rfl rfl (by decide +kernel) ⟨Nat.le_of_ble_eq_true rfl, Nat.le_of_ble_eq_true rfl⟩) (zPreV (Wc := [(mm, .inr (9, [.int 1, .ref nw, .ref cq, .ref hi, .int 0, .ref ko, .ref se, .int 0, .ref nf, .ref ns, .ref pi]))]) (q0 := 3) (ci := 9) (q := (RX9, TX9, 11)) hP hD hE hS hA [3] rfl (by decide) rfl rfl) rfl rfl hl.1 rfl (lv_room (Nat.le_of_ble_eq_true rfl)) dL_law_802 ⟨Nat.le_of_ble_eq_true rfl, Nat.le_of_ble_eq_true rfl⟩) hP hD hS hA [3] [0, 1, 2] rfl rfl (by decide) (by decide) (fun u3 H locs hP hD hS => ?_)
  have hP : va_P G.1 vwCl [(x, .inr (7, [.ref wa, .ref wb, .ref su, .ref cu, .ref tr, .ref co, .ref lo, .ref pk])), (wa, .inr (6, [.ref ro, .int 0, .int 0])), (nw, .inr (8, [.int 0, .int 0, .ref vd, .ref lw, .ref hg, .ref rk])), (mm, .inr (9, [.int 1, .ref nw, .ref cq, .ref hi, .int 0, .ref ko, .ref se, .int 0, .ref nf, .ref ns, .ref pi]))] H := hP
  have hD : va_D A [(x, .inr (7, [.ref wa, .ref wb, .ref su, .ref cu, .ref tr, .ref co, .ref lo, .ref pk])), (wa, .inr (6, [.ref ro, .int 0, .int 0])), (nw, .inr (8, [.int 0, .int 0, .ref vd, .ref lw, .ref hg, .ref rk])), (mm, .inr (9, [.int 1, .ref nw, .ref cq, .ref hi, .int 0, .ref ko, .ref se, .int 0, .ref nf, .ref ns, .ref pi]))] := hD
  refine W.eq (g2 := F0 m 805 ls [.int 1]) rfl ?_
  refine lv_iload hx hb dL_law_805 (lv_at hl 1 rfl) ?_
  refine lv_icmp_eq (tgt := 812) hx hb dL_law_807 (by decide) (fun _ => ?_) (fun h9 => absurd (by decide) h9)
  refine lv_iload hx hb dL_law_812 (lv_at hl 1 rfl) ?_
  refine lv_if_ne (tgt := 829) hx hb dL_law_814 (by decide) (fun _ => ?_) (fun h9 => absurd h9 (by decide))
  refine lv_goto (tgt := 1748) hx hb dL_law_829 (by decide) ?_
  exact z_lawend hx hb hr hml hown hts hX hbl hlocks hl0 hA hA2 hbA hE (Nat.le_of_ble_eq_true rfl) (Nat.le_of_ble_eq_true rfl) hS (lv_sub hl [2, 6] rfl)

set_option maxHeartbeats 4000000 in
set_option maxRecDepth 100000 in
theorem z_case13 {p : Program} {l : Launch} {e : Env} {s : State} {m : MethodId} {below : List Frame} {meth : Method} {c : Code} {A : Nat → Prop} {H : Heap} {locs : List Loc} {ls : Array Slot} {G : zG} {b : Nat} {xs : Nat → Int32} (hx : p.tables.exec = Jvm.exec) (hb : c.code = code) (hr : meth.sig.returnType = ret) (hml : c.maxLocals = 9) (hown : s.vm.findClass RL = some m.cls) (hts : ∀ w ∈ wsL_law, w.before #[Value.ref b] s = true) (hX : va_X b 5 xs s s.heap) (hbl : b < s.heap.size) (hlocks : meth.locks = false) (hl0 : l.stackTraces = false) (hA : ∀ q : Nat, s.heap.size ≤ q → A q) (hA2 : ∀ q : Nat, A q → s.heap.size ≤ q) (hbA : ¬ A b) (hE : zZ G A s s.heap) {x : Nat} {wa : Nat} {wb : Nat} {su : Nat} {cu : Nat} {tr : Nat} {co : Nat} {lo : Nat} {pk : Nat} {ro : Nat} {ou : Nat} {mm : Nat} {nw : Nat} {cq : Nat} {hi : Nat} {ko : Nat} {se : Nat} {nf : Nat} {ns : Nat} {pi : Nat} {vd : Nat} {lw : Nat} {hg : Nat} {rk : Nat} (v1 : Int32) (e1 : xs 1 = v1) (v2 : Int32) (e2 : xs 2 = v2) (hP : va_P G.1 vwCl [(x, .inr (7, [.ref wa, .ref wb, .ref su, .ref cu, .ref tr, .ref co, .ref lo, .ref pk])), (wa, .inr (6, [.ref ro, .int 0, .int 0])), (mm, .inr (9, [.int 0, .ref nw, .ref cq, .ref hi, .int 0, .ref ko, .ref se, .int 0, .ref nf, .ref ns, .ref pi])), (nw, .inr (8, [.int 0, .int 0, .ref vd, .ref lw, .ref hg, .ref rk]))] H) (hD : va_D A [(x, .inr (7, [.ref wa, .ref wb, .ref su, .ref cu, .ref tr, .ref co, .ref lo, .ref pk])), (wa, .inr (6, [.ref ro, .int 0, .int 0])), (mm, .inr (9, [.int 0, .ref nw, .ref cq, .ref hi, .int 0, .ref ko, .ref se, .int 0, .ref nf, .ref ns, .ref pi])), (nw, .inr (8, [.int 0, .int 0, .ref vd, .ref lw, .ref hg, .ref rk]))]) (hS : va_S A s.heap H locs) (hl : lv_has ls 9 [(4, .int 0), (3, .ref ou), (2, .ref mm), (1, .ref x), (0, .ref b)]) : W p l e room_1 s m #[Value.ref b] below meth c H locs 89 9213 (lw_Z below #[Value.ref b] s) (F0 m 832 ls []) := by
  refine lv_aload_n hx hb dL_law_832 rfl (lv_at hl 3 rfl) ?_
  refine lv_aload_n hx hb dL_law_833 rfl (lv_at hl 4 rfl) ?_
  refine lv_iload hx hb dL_law_834 (lv_at hl 0 rfl) ?_
  refine lv_iconst (v := 1) hx hb dL_law_836 (by decide) ?_
  refine lv_iadd hx hb dL_law_837 ?_
  refine zti (v := 1) (by decide) ?_
  refine va_sld hx hb hX hbl hbA hS (zin (by decide +kernel)) dL_law_838 ?_
  refine zti (v := v1) e1 ?_
  refine lv_aload_n hx hb dL_law_839 rfl (lv_at hl 4 rfl) ?_
  refine lv_iload hx hb dL_law_840 (lv_at hl 0 rfl) ?_
  refine lv_iconst (v := 2) hx hb dL_law_842 (by decide) ?_
  refine lv_iadd hx hb dL_law_843 ?_
  refine zti (v := 2) (by decide) ?_
  refine va_sld hx hb hX hbl hbA hS (zin (by decide +kernel)) dL_law_844 ?_
  refine zti (v := v2) e2 ?_
  refine lv_aload_n hx hb dL_law_845 rfl (lv_at hl 1 rfl) ?_
  refine zcall (wr := [(mm, .inr (9, [.int 0, .ref nw, .ref cq, .ref hi, .int 0, .ref ko, .ref se, .int 0, .ref nf, .ref ns, .ref pi])), (nw, .inr (8, [.int 0, .int 0, .ref vd, .ref lw, .ref hg, .ref rk]))]) (zrunH (vx_runSX (As := [.ref x, .int v1, .int v2, .ref ou]) (rest := []) ⟨hx, hb, hml, hown, hts⟩ (z_L_shared l G x wa wb su cu tr co lo pk ro ou v1 v2 hl0 H.size) (vx_cwSW 4 hts gL_law_L_shared rfl rfl rfl (by decide +kernel) ⟨Nat.le_of_ble_eq_true rfl, Nat.le_of_ble_eq_true rfl⟩) (zPre (Wc := [(x, .inr (7, [.ref wa, .ref wb, .ref su, .ref cu, .ref tr, .ref co, .ref lo, .ref pk])), (wa, .inr (6, [.ref ro, .int 0, .int 0]))]) hP hD hE hS hA [0, 1] rfl (by decide)) rfl rfl hl.1 rfl (lv_room (Nat.le_of_ble_eq_true rfl)) dL_law_846 ⟨Nat.le_of_ble_eq_true rfl, Nat.le_of_ble_eq_true rfl⟩)) hP hD hS hA [0, 1] [2, 3] rfl rfl (by decide) (by decide) (fun u1 H locs hP hD hS => ?_)
  have hP : va_P G.1 vwCl [(mm, .inr (9, [.int 0, .ref nw, .ref cq, .ref hi, .int 0, .ref ko, .ref se, .int 0, .ref nf, .ref ns, .ref pi])), (nw, .inr (8, [.int 0, .int 0, .ref vd, .ref lw, .ref hg, .ref rk])), (x, .inr (7, [.ref wa, .ref wb, .ref su, .ref cu, .ref tr, .ref co, .ref lo, .ref pk])), (wa, .inr (6, [.ref ro, .int 0, .int 0]))] H := hP
  have hD : va_D A [(mm, .inr (9, [.int 0, .ref nw, .ref cq, .ref hi, .int 0, .ref ko, .ref se, .int 0, .ref nf, .ref ns, .ref pi])), (nw, .inr (8, [.int 0, .int 0, .ref vd, .ref lw, .ref hg, .ref rk])), (x, .inr (7, [.ref wa, .ref wb, .ref su, .ref cu, .ref tr, .ref co, .ref lo, .ref pk])), (wa, .inr (6, [.ref ro, .int 0, .int 0]))] := hD
  refine W.eq (g2 := F0 m 849 ls [.int 1]) rfl ?_
  refine lv_istore (lv' := [(5, .int 1), (4, .int 0), (3, .ref ou), (2, .ref mm), (1, .ref x), (0, .ref b)]) hx hb dL_law_849 hl (by decide) rfl (fun ls hl => ?_)
  refine lv_aload_n hx hb dL_law_851 rfl (lv_at hl 3 rfl) ?_
  refine lv_aload_n hx hb dL_law_852 rfl (lv_at hl 5 rfl) ?_
  refine lv_iload hx hb dL_law_853 (lv_at hl 1 rfl) ?_
  refine lv_iconst (v := 1) hx hb dL_law_855 (by decide) ?_
  refine lv_iadd hx hb dL_law_856 ?_
  refine zti (v := 1) (by decide) ?_
  refine va_sld hx hb hX hbl hbA hS (zin (by decide +kernel)) dL_law_857 ?_
  refine zti (v := v1) e1 ?_
  refine lv_aload_n hx hb dL_law_858 rfl (lv_at hl 5 rfl) ?_
  refine lv_iload hx hb dL_law_859 (lv_at hl 1 rfl) ?_
  refine lv_iconst (v := 2) hx hb dL_law_861 (by decide) ?_
  refine lv_iadd hx hb dL_law_862 ?_
  refine zti (v := 2) (by decide) ?_
  refine va_sld hx hb hX hbl hbA hS (zin (by decide +kernel)) dL_law_863 ?_
  refine zti (v := v2) e2 ?_
  refine zcall (wr := [(x, .inr (7, [.ref wa, .ref wb, .ref su, .ref cu, .ref tr, .ref co, .ref lo, .ref pk])), (wa, .inr (6, [.ref ro, .int 0, .int 0]))]) (va_runV (As := [.int v1, .int v2]) (rest := []) ⟨hx, hb, hml, hown, hts⟩ (z_X9_shared l G mm nw cq hi ko se nf ns pi 0 vd lw hg rk v1 v2 H.size) (cwV 2 hts gL_law_X9_shared rfl rfl rfl (by decide +kernel) ⟨Nat.le_of_ble_eq_true rfl, Nat.le_of_ble_eq_true rfl⟩) (zPreV (Wc := [(mm, .inr (9, [.int 0, .ref nw, .ref cq, .ref hi, .int 0, .ref ko, .ref se, .int 0, .ref nf, .ref ns, .ref pi])), (nw, .inr (8, [.int 0, .int 0, .ref vd, .ref lw, .ref hg, .ref rk]))]) (q0 := 0) (ci := 9) (q := (RX9, TX9, 11)) hP hD hE hS hA [0, 1] rfl (by decide) rfl rfl) rfl rfl hl.1 rfl (lv_room (Nat.le_of_ble_eq_true rfl)) dL_law_864 ⟨Nat.le_of_ble_eq_true rfl, Nat.le_of_ble_eq_true rfl⟩) hP hD hS hA [0, 1] [2, 3] rfl rfl (by decide) (by decide) (fun u2 H locs hP hD hS => ?_)
  have hP : va_P G.1 vwCl [(x, .inr (7, [.ref wa, .ref wb, .ref su, .ref cu, .ref tr, .ref co, .ref lo, .ref pk])), (wa, .inr (6, [.ref ro, .int 0, .int 0])), (nw, .inr (8, [.int 0, .int 0, .ref vd, .ref lw, .ref hg, .ref rk])), (mm, .inr (9, [.int 1, .ref nw, .ref cq, .ref hi, .int 0, .ref ko, .ref se, .int 0, .ref nf, .ref ns, .ref pi]))] H := hP
  have hD : va_D A [(x, .inr (7, [.ref wa, .ref wb, .ref su, .ref cu, .ref tr, .ref co, .ref lo, .ref pk])), (wa, .inr (6, [.ref ro, .int 0, .int 0])), (nw, .inr (8, [.int 0, .int 0, .ref vd, .ref lw, .ref hg, .ref rk])), (mm, .inr (9, [.int 1, .ref nw, .ref cq, .ref hi, .int 0, .ref ko, .ref se, .int 0, .ref nf, .ref ns, .ref pi]))] := hD
  refine W.eq (g2 := F0 m 867 ls [.int 0]) rfl ?_
  refine lv_istore (lv' := [(6, .int 0), (5, .int 1), (4, .int 0), (3, .ref ou), (2, .ref mm), (1, .ref x), (0, .ref b)]) hx hb dL_law_867 hl (by decide) rfl (fun ls hl => ?_)
  refine lv_aload_n hx hb dL_law_869 rfl (lv_at hl 4 rfl) ?_
  refine zcall (wr := [(x, .inr (7, [.ref wa, .ref wb, .ref su, .ref cu, .ref tr, .ref co, .ref lo, .ref pk])), (wa, .inr (6, [.ref ro, .int 0, .int 0])), (nw, .inr (8, [.int 0, .int 0, .ref vd, .ref lw, .ref hg, .ref rk]))]) (va_runV (As := []) (rest := []) ⟨hx, hb, hml, hown, hts⟩ (z_X9_thrown l G mm nw cq hi ko se nf ns pi 1 H.size) (cwV 0 hts gL_law_X9_thrown rfl rfl rfl (by decide +kernel) ⟨Nat.le_of_ble_eq_true rfl, Nat.le_of_ble_eq_true rfl⟩) (zPreV (Wc := [(mm, .inr (9, [.int 1, .ref nw, .ref cq, .ref hi, .int 0, .ref ko, .ref se, .int 0, .ref nf, .ref ns, .ref pi]))]) (q0 := 3) (ci := 9) (q := (RX9, TX9, 11)) hP hD hE hS hA [3] rfl (by decide) rfl rfl) rfl rfl hl.1 rfl (lv_room (Nat.le_of_ble_eq_true rfl)) dL_law_870 ⟨Nat.le_of_ble_eq_true rfl, Nat.le_of_ble_eq_true rfl⟩) hP hD hS hA [3] [0, 1, 2] rfl rfl (by decide) (by decide) (fun u3 H locs hP hD hS => ?_)
  have hP : va_P G.1 vwCl [(x, .inr (7, [.ref wa, .ref wb, .ref su, .ref cu, .ref tr, .ref co, .ref lo, .ref pk])), (wa, .inr (6, [.ref ro, .int 0, .int 0])), (nw, .inr (8, [.int 0, .int 0, .ref vd, .ref lw, .ref hg, .ref rk])), (mm, .inr (9, [.int 1, .ref nw, .ref cq, .ref hi, .int 0, .ref ko, .ref se, .int 0, .ref nf, .ref ns, .ref pi]))] H := hP
  have hD : va_D A [(x, .inr (7, [.ref wa, .ref wb, .ref su, .ref cu, .ref tr, .ref co, .ref lo, .ref pk])), (wa, .inr (6, [.ref ro, .int 0, .int 0])), (nw, .inr (8, [.int 0, .int 0, .ref vd, .ref lw, .ref hg, .ref rk])), (mm, .inr (9, [.int 1, .ref nw, .ref cq, .ref hi, .int 0, .ref ko, .ref se, .int 0, .ref nf, .ref ns, .ref pi]))] := hD
  refine W.eq (g2 := F0 m 873 ls [.int 1]) rfl ?_
  refine lv_iload hx hb dL_law_873 (lv_at hl 1 rfl) ?_
  refine lv_icmp_eq (tgt := 880) hx hb dL_law_875 (by decide) (fun _ => ?_) (fun h9 => absurd (by decide) h9)
  refine lv_iload hx hb dL_law_880 (lv_at hl 1 rfl) ?_
  refine lv_if_ne (tgt := 897) hx hb dL_law_882 (by decide) (fun _ => ?_) (fun h9 => absurd h9 (by decide))
  refine lv_goto (tgt := 1748) hx hb dL_law_897 (by decide) ?_
  exact z_lawend hx hb hr hml hown hts hX hbl hlocks hl0 hA hA2 hbA hE (Nat.le_of_ble_eq_true rfl) (Nat.le_of_ble_eq_true rfl) hS (lv_sub hl [2, 6] rfl)

set_option maxHeartbeats 4000000 in
set_option maxRecDepth 100000 in
theorem z_case28 {p : Program} {l : Launch} {e : Env} {s : State} {m : MethodId} {below : List Frame} {meth : Method} {c : Code} {A : Nat → Prop} {H : Heap} {locs : List Loc} {ls : Array Slot} {G : zG} {b : Nat} {xs : Nat → Int32} (hx : p.tables.exec = Jvm.exec) (hb : c.code = code) (hr : meth.sig.returnType = ret) (hml : c.maxLocals = 9) (hown : s.vm.findClass RL = some m.cls) (hts : ∀ w ∈ wsL_law, w.before #[Value.ref b] s = true) (hX : va_X b 5 xs s s.heap) (hbl : b < s.heap.size) (hlocks : meth.locks = false) (hl0 : l.stackTraces = false) (hA : ∀ q : Nat, s.heap.size ≤ q → A q) (hA2 : ∀ q : Nat, A q → s.heap.size ≤ q) (hbA : ¬ A b) (hE : zZ G A s s.heap) {x : Nat} {wa : Nat} {wb : Nat} {su : Nat} {cu : Nat} {tr : Nat} {co : Nat} {lo : Nat} {pk : Nat} {ro : Nat} {ou : Nat} {mm : Nat} {nw : Nat} {cq : Nat} {hi : Nat} {ko : Nat} {se : Nat} {nf : Nat} {ns : Nat} {pi : Nat} {vd : Nat} {lw : Nat} {hg : Nat} {rk : Nat} (v1 : Int32) (e1 : xs 1 = v1) (hP : va_P G.1 vwCl [(x, .inr (7, [.ref wa, .ref wb, .ref su, .ref cu, .ref tr, .ref co, .ref lo, .ref pk])), (wa, .inr (6, [.ref ro, .int 0, .int 0])), (mm, .inr (9, [.int 0, .ref nw, .ref cq, .ref hi, .int 0, .ref ko, .ref se, .int 0, .ref nf, .ref ns, .ref pi])), (nw, .inr (8, [.int 0, .int 0, .ref vd, .ref lw, .ref hg, .ref rk]))] H) (hD : va_D A [(x, .inr (7, [.ref wa, .ref wb, .ref su, .ref cu, .ref tr, .ref co, .ref lo, .ref pk])), (wa, .inr (6, [.ref ro, .int 0, .int 0])), (mm, .inr (9, [.int 0, .ref nw, .ref cq, .ref hi, .int 0, .ref ko, .ref se, .int 0, .ref nf, .ref ns, .ref pi])), (nw, .inr (8, [.int 0, .int 0, .ref vd, .ref lw, .ref hg, .ref rk]))]) (hS : va_S A s.heap H locs) (hl : lv_has ls 9 [(4, .int 0), (3, .ref ou), (2, .ref mm), (1, .ref x), (0, .ref b)]) : W p l e room_1 s m #[Value.ref b] below meth c H locs 89 9213 (lw_Z below #[Value.ref b] s) (F0 m 1610 ls []) := by
  refine lv_aload_n hx hb dL_law_1610 rfl (lv_at hl 3 rfl) ?_
  refine lv_aload_n hx hb dL_law_1611 rfl (lv_at hl 4 rfl) ?_
  refine lv_iload hx hb dL_law_1612 (lv_at hl 0 rfl) ?_
  refine lv_iconst (v := 1) hx hb dL_law_1614 (by decide) ?_
  refine lv_iadd hx hb dL_law_1615 ?_
  refine zti (v := 1) (by decide) ?_
  refine va_sld hx hb hX hbl hbA hS (zin (by decide +kernel)) dL_law_1616 ?_
  refine zti (v := v1) e1 ?_
  refine lv_aload_n hx hb dL_law_1617 rfl (lv_at hl 1 rfl) ?_
  refine zcall (wr := [(mm, .inr (9, [.int 0, .ref nw, .ref cq, .ref hi, .int 0, .ref ko, .ref se, .int 0, .ref nf, .ref ns, .ref pi])), (nw, .inr (8, [.int 0, .int 0, .ref vd, .ref lw, .ref hg, .ref rk]))]) (zrunH (vx_runSX (As := [.ref x, .int v1, .ref ou]) (rest := []) ⟨hx, hb, hml, hown, hts⟩ (z_L_allowedWithout l G x wa wb su cu tr co lo pk ro ou v1 hl0 H.size) (vx_cwSW 3 hts gL_law_L_allowedWithout rfl rfl rfl (by decide +kernel) ⟨Nat.le_of_ble_eq_true rfl, Nat.le_of_ble_eq_true rfl⟩) (zPre (Wc := [(x, .inr (7, [.ref wa, .ref wb, .ref su, .ref cu, .ref tr, .ref co, .ref lo, .ref pk])), (wa, .inr (6, [.ref ro, .int 0, .int 0]))]) hP hD hE hS hA [0, 1] rfl (by decide)) rfl rfl hl.1 rfl (lv_room (Nat.le_of_ble_eq_true rfl)) dL_law_1618 ⟨Nat.le_of_ble_eq_true rfl, Nat.le_of_ble_eq_true rfl⟩)) hP hD hS hA [0, 1] [2, 3] rfl rfl (by decide) (by decide) (fun u1 H locs hP hD hS => ?_)
  have hP : va_P G.1 vwCl [(mm, .inr (9, [.int 0, .ref nw, .ref cq, .ref hi, .int 0, .ref ko, .ref se, .int 0, .ref nf, .ref ns, .ref pi])), (nw, .inr (8, [.int 0, .int 0, .ref vd, .ref lw, .ref hg, .ref rk])), (x, .inr (7, [.ref wa, .ref wb, .ref su, .ref cu, .ref tr, .ref co, .ref lo, .ref pk])), (wa, .inr (6, [.ref ro, .int 0, .int 0]))] H := hP
  have hD : va_D A [(mm, .inr (9, [.int 0, .ref nw, .ref cq, .ref hi, .int 0, .ref ko, .ref se, .int 0, .ref nf, .ref ns, .ref pi])), (nw, .inr (8, [.int 0, .int 0, .ref vd, .ref lw, .ref hg, .ref rk])), (x, .inr (7, [.ref wa, .ref wb, .ref su, .ref cu, .ref tr, .ref co, .ref lo, .ref pk])), (wa, .inr (6, [.ref ro, .int 0, .int 0]))] := hD
  refine W.eq (g2 := F0 m 1621 ls [.int 1]) rfl ?_
  refine lv_istore (lv' := [(5, .int 1), (4, .int 0), (3, .ref ou), (2, .ref mm), (1, .ref x), (0, .ref b)]) hx hb dL_law_1621 hl (by decide) rfl (fun ls hl => ?_)
  refine lv_aload_n hx hb dL_law_1623 rfl (lv_at hl 3 rfl) ?_
  refine lv_aload_n hx hb dL_law_1624 rfl (lv_at hl 5 rfl) ?_
  refine lv_iload hx hb dL_law_1625 (lv_at hl 1 rfl) ?_
  refine lv_iconst (v := 1) hx hb dL_law_1627 (by decide) ?_
  refine lv_iadd hx hb dL_law_1628 ?_
  refine zti (v := 1) (by decide) ?_
  refine va_sld hx hb hX hbl hbA hS (zin (by decide +kernel)) dL_law_1629 ?_
  refine zti (v := v1) e1 ?_
  refine zcall (wr := [(x, .inr (7, [.ref wa, .ref wb, .ref su, .ref cu, .ref tr, .ref co, .ref lo, .ref pk])), (wa, .inr (6, [.ref ro, .int 0, .int 0]))]) (va_runV (As := [.int v1]) (rest := []) ⟨hx, hb, hml, hown, hts⟩ (z_X9_allowedWithout l G mm nw cq hi ko se nf ns pi 0 vd lw hg rk v1 H.size) (cwV 1 hts gL_law_X9_allowedWithout rfl rfl rfl (by decide +kernel) ⟨Nat.le_of_ble_eq_true rfl, Nat.le_of_ble_eq_true rfl⟩) (zPreV (Wc := [(mm, .inr (9, [.int 0, .ref nw, .ref cq, .ref hi, .int 0, .ref ko, .ref se, .int 0, .ref nf, .ref ns, .ref pi])), (nw, .inr (8, [.int 0, .int 0, .ref vd, .ref lw, .ref hg, .ref rk]))]) (q0 := 0) (ci := 9) (q := (RX9, TX9, 11)) hP hD hE hS hA [0, 1] rfl (by decide) rfl rfl) rfl rfl hl.1 rfl (lv_room (Nat.le_of_ble_eq_true rfl)) dL_law_1630 ⟨Nat.le_of_ble_eq_true rfl, Nat.le_of_ble_eq_true rfl⟩) hP hD hS hA [0, 1] [2, 3] rfl rfl (by decide) (by decide) (fun u2 H locs hP hD hS => ?_)
  have hP : va_P G.1 vwCl [(x, .inr (7, [.ref wa, .ref wb, .ref su, .ref cu, .ref tr, .ref co, .ref lo, .ref pk])), (wa, .inr (6, [.ref ro, .int 0, .int 0])), (nw, .inr (8, [.int 0, .int 0, .ref vd, .ref lw, .ref hg, .ref rk])), (mm, .inr (9, [.int 1, .ref nw, .ref cq, .ref hi, .int 0, .ref ko, .ref se, .int 0, .ref nf, .ref ns, .ref pi]))] H := hP
  have hD : va_D A [(x, .inr (7, [.ref wa, .ref wb, .ref su, .ref cu, .ref tr, .ref co, .ref lo, .ref pk])), (wa, .inr (6, [.ref ro, .int 0, .int 0])), (nw, .inr (8, [.int 0, .int 0, .ref vd, .ref lw, .ref hg, .ref rk])), (mm, .inr (9, [.int 1, .ref nw, .ref cq, .ref hi, .int 0, .ref ko, .ref se, .int 0, .ref nf, .ref ns, .ref pi]))] := hD
  refine W.eq (g2 := F0 m 1633 ls [.int 0]) rfl ?_
  refine lv_istore (lv' := [(6, .int 0), (5, .int 1), (4, .int 0), (3, .ref ou), (2, .ref mm), (1, .ref x), (0, .ref b)]) hx hb dL_law_1633 hl (by decide) rfl (fun ls hl => ?_)
  refine lv_aload_n hx hb dL_law_1635 rfl (lv_at hl 4 rfl) ?_
  refine zcall (wr := [(x, .inr (7, [.ref wa, .ref wb, .ref su, .ref cu, .ref tr, .ref co, .ref lo, .ref pk])), (wa, .inr (6, [.ref ro, .int 0, .int 0])), (nw, .inr (8, [.int 0, .int 0, .ref vd, .ref lw, .ref hg, .ref rk]))]) (va_runV (As := []) (rest := []) ⟨hx, hb, hml, hown, hts⟩ (z_X9_thrown l G mm nw cq hi ko se nf ns pi 1 H.size) (cwV 0 hts gL_law_X9_thrown rfl rfl rfl (by decide +kernel) ⟨Nat.le_of_ble_eq_true rfl, Nat.le_of_ble_eq_true rfl⟩) (zPreV (Wc := [(mm, .inr (9, [.int 1, .ref nw, .ref cq, .ref hi, .int 0, .ref ko, .ref se, .int 0, .ref nf, .ref ns, .ref pi]))]) (q0 := 3) (ci := 9) (q := (RX9, TX9, 11)) hP hD hE hS hA [3] rfl (by decide) rfl rfl) rfl rfl hl.1 rfl (lv_room (Nat.le_of_ble_eq_true rfl)) dL_law_1636 ⟨Nat.le_of_ble_eq_true rfl, Nat.le_of_ble_eq_true rfl⟩) hP hD hS hA [3] [0, 1, 2] rfl rfl (by decide) (by decide) (fun u3 H locs hP hD hS => ?_)
  have hP : va_P G.1 vwCl [(x, .inr (7, [.ref wa, .ref wb, .ref su, .ref cu, .ref tr, .ref co, .ref lo, .ref pk])), (wa, .inr (6, [.ref ro, .int 0, .int 0])), (nw, .inr (8, [.int 0, .int 0, .ref vd, .ref lw, .ref hg, .ref rk])), (mm, .inr (9, [.int 1, .ref nw, .ref cq, .ref hi, .int 0, .ref ko, .ref se, .int 0, .ref nf, .ref ns, .ref pi]))] H := hP
  have hD : va_D A [(x, .inr (7, [.ref wa, .ref wb, .ref su, .ref cu, .ref tr, .ref co, .ref lo, .ref pk])), (wa, .inr (6, [.ref ro, .int 0, .int 0])), (nw, .inr (8, [.int 0, .int 0, .ref vd, .ref lw, .ref hg, .ref rk])), (mm, .inr (9, [.int 1, .ref nw, .ref cq, .ref hi, .int 0, .ref ko, .ref se, .int 0, .ref nf, .ref ns, .ref pi]))] := hD
  refine W.eq (g2 := F0 m 1639 ls [.int 1]) rfl ?_
  refine lv_iload hx hb dL_law_1639 (lv_at hl 1 rfl) ?_
  refine lv_icmp_eq (tgt := 1646) hx hb dL_law_1641 (by decide) (fun _ => ?_) (fun h9 => absurd (by decide) h9)
  refine lv_iload hx hb dL_law_1646 (lv_at hl 1 rfl) ?_
  refine lv_if_ne (tgt := 1663) hx hb dL_law_1648 (by decide) (fun _ => ?_) (fun h9 => absurd h9 (by decide))
  refine lv_goto (tgt := 1748) hx hb dL_law_1663 (by decide) ?_
  exact z_lawend hx hb hr hml hown hts hX hbl hlocks hl0 hA hA2 hbA hE (Nat.le_of_ble_eq_true rfl) (Nat.le_of_ble_eq_true rfl) hS (lv_sub hl [2, 6] rfl)

set_option maxHeartbeats 4000000 in
set_option maxRecDepth 100000 in
theorem z_case29 {p : Program} {l : Launch} {e : Env} {s : State} {m : MethodId} {below : List Frame} {meth : Method} {c : Code} {A : Nat → Prop} {H : Heap} {locs : List Loc} {ls : Array Slot} {G : zG} {b : Nat} {xs : Nat → Int32} (hx : p.tables.exec = Jvm.exec) (hb : c.code = code) (hr : meth.sig.returnType = ret) (hml : c.maxLocals = 9) (hown : s.vm.findClass RL = some m.cls) (hts : ∀ w ∈ wsL_law, w.before #[Value.ref b] s = true) (hX : va_X b 5 xs s s.heap) (hbl : b < s.heap.size) (hlocks : meth.locks = false) (hl0 : l.stackTraces = false) (hA : ∀ q : Nat, s.heap.size ≤ q → A q) (hA2 : ∀ q : Nat, A q → s.heap.size ≤ q) (hbA : ¬ A b) (hE : zZ G A s s.heap) {x : Nat} {wa : Nat} {wb : Nat} {su : Nat} {cu : Nat} {tr : Nat} {co : Nat} {lo : Nat} {pk : Nat} {ro : Nat} {ou : Nat} {mm : Nat} {nw : Nat} {cq : Nat} {hi : Nat} {ko : Nat} {se : Nat} {nf : Nat} {ns : Nat} {pi : Nat} {vd : Nat} {lw : Nat} {hg : Nat} {rk : Nat} (v1 : Int32) (e1 : xs 1 = v1) (v2 : Int32) (e2 : xs 2 = v2) (hP : va_P G.1 vwCl [(x, .inr (7, [.ref wa, .ref wb, .ref su, .ref cu, .ref tr, .ref co, .ref lo, .ref pk])), (wa, .inr (6, [.ref ro, .int 0, .int 0])), (mm, .inr (9, [.int 0, .ref nw, .ref cq, .ref hi, .int 0, .ref ko, .ref se, .int 0, .ref nf, .ref ns, .ref pi])), (nw, .inr (8, [.int 0, .int 0, .ref vd, .ref lw, .ref hg, .ref rk]))] H) (hD : va_D A [(x, .inr (7, [.ref wa, .ref wb, .ref su, .ref cu, .ref tr, .ref co, .ref lo, .ref pk])), (wa, .inr (6, [.ref ro, .int 0, .int 0])), (mm, .inr (9, [.int 0, .ref nw, .ref cq, .ref hi, .int 0, .ref ko, .ref se, .int 0, .ref nf, .ref ns, .ref pi])), (nw, .inr (8, [.int 0, .int 0, .ref vd, .ref lw, .ref hg, .ref rk]))]) (hS : va_S A s.heap H locs) (hl : lv_has ls 9 [(4, .int 0), (3, .ref ou), (2, .ref mm), (1, .ref x), (0, .ref b)]) : W p l e room_1 s m #[Value.ref b] below meth c H locs 89 9213 (lw_Z below #[Value.ref b] s) (F0 m 1666 ls []) := by
  refine lv_aload_n hx hb dL_law_1666 rfl (lv_at hl 3 rfl) ?_
  refine lv_aload_n hx hb dL_law_1667 rfl (lv_at hl 4 rfl) ?_
  refine lv_iload hx hb dL_law_1668 (lv_at hl 0 rfl) ?_
  refine lv_iconst (v := 1) hx hb dL_law_1670 (by decide) ?_
  refine lv_iadd hx hb dL_law_1671 ?_
  refine zti (v := 1) (by decide) ?_
  refine va_sld hx hb hX hbl hbA hS (zin (by decide +kernel)) dL_law_1672 ?_
  refine zti (v := v1) e1 ?_
  refine lv_aload_n hx hb dL_law_1673 rfl (lv_at hl 4 rfl) ?_
  refine lv_iload hx hb dL_law_1674 (lv_at hl 0 rfl) ?_
  refine lv_iconst (v := 2) hx hb dL_law_1676 (by decide) ?_
  refine lv_iadd hx hb dL_law_1677 ?_
  refine zti (v := 2) (by decide) ?_
  refine va_sld hx hb hX hbl hbA hS (zin (by decide +kernel)) dL_law_1678 ?_
  refine zti (v := v2) e2 ?_
  refine lv_aload_n hx hb dL_law_1679 rfl (lv_at hl 1 rfl) ?_
  refine zcall (wr := [(mm, .inr (9, [.int 0, .ref nw, .ref cq, .ref hi, .int 0, .ref ko, .ref se, .int 0, .ref nf, .ref ns, .ref pi])), (nw, .inr (8, [.int 0, .int 0, .ref vd, .ref lw, .ref hg, .ref rk]))]) (zrunH (vx_runSX (As := [.ref x, .int v1, .int v2, .ref ou]) (rest := []) ⟨hx, hb, hml, hown, hts⟩ (z_L_changedByMove l G x wa wb su cu tr co lo pk ro ou v1 v2 hl0 H.size) (vx_cwSW 4 hts gL_law_L_changedByMove rfl rfl rfl (by decide +kernel) ⟨Nat.le_of_ble_eq_true rfl, Nat.le_of_ble_eq_true rfl⟩) (zPre (Wc := [(x, .inr (7, [.ref wa, .ref wb, .ref su, .ref cu, .ref tr, .ref co, .ref lo, .ref pk])), (wa, .inr (6, [.ref ro, .int 0, .int 0]))]) hP hD hE hS hA [0, 1] rfl (by decide)) rfl rfl hl.1 rfl (lv_room (Nat.le_of_ble_eq_true rfl)) dL_law_1680 ⟨Nat.le_of_ble_eq_true rfl, Nat.le_of_ble_eq_true rfl⟩)) hP hD hS hA [0, 1] [2, 3] rfl rfl (by decide) (by decide) (fun u1 H locs hP hD hS => ?_)
  have hP : va_P G.1 vwCl [(mm, .inr (9, [.int 0, .ref nw, .ref cq, .ref hi, .int 0, .ref ko, .ref se, .int 0, .ref nf, .ref ns, .ref pi])), (nw, .inr (8, [.int 0, .int 0, .ref vd, .ref lw, .ref hg, .ref rk])), (x, .inr (7, [.ref wa, .ref wb, .ref su, .ref cu, .ref tr, .ref co, .ref lo, .ref pk])), (wa, .inr (6, [.ref ro, .int 0, .int 0]))] H := hP
  have hD : va_D A [(mm, .inr (9, [.int 0, .ref nw, .ref cq, .ref hi, .int 0, .ref ko, .ref se, .int 0, .ref nf, .ref ns, .ref pi])), (nw, .inr (8, [.int 0, .int 0, .ref vd, .ref lw, .ref hg, .ref rk])), (x, .inr (7, [.ref wa, .ref wb, .ref su, .ref cu, .ref tr, .ref co, .ref lo, .ref pk])), (wa, .inr (6, [.ref ro, .int 0, .int 0]))] := hD
  refine W.eq (g2 := F0 m 1683 ls [.int 1]) rfl ?_
  refine lv_istore (lv' := [(5, .int 1), (4, .int 0), (3, .ref ou), (2, .ref mm), (1, .ref x), (0, .ref b)]) hx hb dL_law_1683 hl (by decide) rfl (fun ls hl => ?_)
  refine lv_aload_n hx hb dL_law_1685 rfl (lv_at hl 3 rfl) ?_
  refine lv_aload_n hx hb dL_law_1686 rfl (lv_at hl 5 rfl) ?_
  refine lv_iload hx hb dL_law_1687 (lv_at hl 1 rfl) ?_
  refine lv_iconst (v := 1) hx hb dL_law_1689 (by decide) ?_
  refine lv_iadd hx hb dL_law_1690 ?_
  refine zti (v := 1) (by decide) ?_
  refine va_sld hx hb hX hbl hbA hS (zin (by decide +kernel)) dL_law_1691 ?_
  refine zti (v := v1) e1 ?_
  refine lv_aload_n hx hb dL_law_1692 rfl (lv_at hl 5 rfl) ?_
  refine lv_iload hx hb dL_law_1693 (lv_at hl 1 rfl) ?_
  refine lv_iconst (v := 2) hx hb dL_law_1695 (by decide) ?_
  refine lv_iadd hx hb dL_law_1696 ?_
  refine zti (v := 2) (by decide) ?_
  refine va_sld hx hb hX hbl hbA hS (zin (by decide +kernel)) dL_law_1697 ?_
  refine zti (v := v2) e2 ?_
  refine zcall (wr := [(x, .inr (7, [.ref wa, .ref wb, .ref su, .ref cu, .ref tr, .ref co, .ref lo, .ref pk])), (wa, .inr (6, [.ref ro, .int 0, .int 0]))]) (va_runV (As := [.int v1, .int v2]) (rest := []) ⟨hx, hb, hml, hown, hts⟩ (z_X9_changedByMove l G mm nw cq hi ko se nf ns pi 0 vd lw hg rk v1 v2 H.size) (cwV 2 hts gL_law_X9_changedByMove rfl rfl rfl (by decide +kernel) ⟨Nat.le_of_ble_eq_true rfl, Nat.le_of_ble_eq_true rfl⟩) (zPreV (Wc := [(mm, .inr (9, [.int 0, .ref nw, .ref cq, .ref hi, .int 0, .ref ko, .ref se, .int 0, .ref nf, .ref ns, .ref pi])), (nw, .inr (8, [.int 0, .int 0, .ref vd, .ref lw, .ref hg, .ref rk]))]) (q0 := 0) (ci := 9) (q := (RX9, TX9, 11)) hP hD hE hS hA [0, 1] rfl (by decide) rfl rfl) rfl rfl hl.1 rfl (lv_room (Nat.le_of_ble_eq_true rfl)) dL_law_1698 ⟨Nat.le_of_ble_eq_true rfl, Nat.le_of_ble_eq_true rfl⟩) hP hD hS hA [0, 1] [2, 3] rfl rfl (by decide) (by decide) (fun u2 H locs hP hD hS => ?_)
  have hP : va_P G.1 vwCl [(x, .inr (7, [.ref wa, .ref wb, .ref su, .ref cu, .ref tr, .ref co, .ref lo, .ref pk])), (wa, .inr (6, [.ref ro, .int 0, .int 0])), (nw, .inr (8, [.int 0, .int 0, .ref vd, .ref lw, .ref hg, .ref rk])), (mm, .inr (9, [.int 1, .ref nw, .ref cq, .ref hi, .int 0, .ref ko, .ref se, .int 0, .ref nf, .ref ns, .ref pi]))] H := hP
  have hD : va_D A [(x, .inr (7, [.ref wa, .ref wb, .ref su, .ref cu, .ref tr, .ref co, .ref lo, .ref pk])), (wa, .inr (6, [.ref ro, .int 0, .int 0])), (nw, .inr (8, [.int 0, .int 0, .ref vd, .ref lw, .ref hg, .ref rk])), (mm, .inr (9, [.int 1, .ref nw, .ref cq, .ref hi, .int 0, .ref ko, .ref se, .int 0, .ref nf, .ref ns, .ref pi]))] := hD
  refine W.eq (g2 := F0 m 1701 ls [.int 0]) rfl ?_
  refine lv_istore (lv' := [(6, .int 0), (5, .int 1), (4, .int 0), (3, .ref ou), (2, .ref mm), (1, .ref x), (0, .ref b)]) hx hb dL_law_1701 hl (by decide) rfl (fun ls hl => ?_)
  refine lv_aload_n hx hb dL_law_1703 rfl (lv_at hl 4 rfl) ?_
  refine zcall (wr := [(x, .inr (7, [.ref wa, .ref wb, .ref su, .ref cu, .ref tr, .ref co, .ref lo, .ref pk])), (wa, .inr (6, [.ref ro, .int 0, .int 0])), (nw, .inr (8, [.int 0, .int 0, .ref vd, .ref lw, .ref hg, .ref rk]))]) (va_runV (As := []) (rest := []) ⟨hx, hb, hml, hown, hts⟩ (z_X9_thrown l G mm nw cq hi ko se nf ns pi 1 H.size) (cwV 0 hts gL_law_X9_thrown rfl rfl rfl (by decide +kernel) ⟨Nat.le_of_ble_eq_true rfl, Nat.le_of_ble_eq_true rfl⟩) (zPreV (Wc := [(mm, .inr (9, [.int 1, .ref nw, .ref cq, .ref hi, .int 0, .ref ko, .ref se, .int 0, .ref nf, .ref ns, .ref pi]))]) (q0 := 3) (ci := 9) (q := (RX9, TX9, 11)) hP hD hE hS hA [3] rfl (by decide) rfl rfl) rfl rfl hl.1 rfl (lv_room (Nat.le_of_ble_eq_true rfl)) dL_law_1704 ⟨Nat.le_of_ble_eq_true rfl, Nat.le_of_ble_eq_true rfl⟩) hP hD hS hA [3] [0, 1, 2] rfl rfl (by decide) (by decide) (fun u3 H locs hP hD hS => ?_)
  have hP : va_P G.1 vwCl [(x, .inr (7, [.ref wa, .ref wb, .ref su, .ref cu, .ref tr, .ref co, .ref lo, .ref pk])), (wa, .inr (6, [.ref ro, .int 0, .int 0])), (nw, .inr (8, [.int 0, .int 0, .ref vd, .ref lw, .ref hg, .ref rk])), (mm, .inr (9, [.int 1, .ref nw, .ref cq, .ref hi, .int 0, .ref ko, .ref se, .int 0, .ref nf, .ref ns, .ref pi]))] H := hP
  have hD : va_D A [(x, .inr (7, [.ref wa, .ref wb, .ref su, .ref cu, .ref tr, .ref co, .ref lo, .ref pk])), (wa, .inr (6, [.ref ro, .int 0, .int 0])), (nw, .inr (8, [.int 0, .int 0, .ref vd, .ref lw, .ref hg, .ref rk])), (mm, .inr (9, [.int 1, .ref nw, .ref cq, .ref hi, .int 0, .ref ko, .ref se, .int 0, .ref nf, .ref ns, .ref pi]))] := hD
  refine W.eq (g2 := F0 m 1707 ls [.int 1]) rfl ?_
  refine lv_iload hx hb dL_law_1707 (lv_at hl 1 rfl) ?_
  refine lv_icmp_eq (tgt := 1714) hx hb dL_law_1709 (by decide) (fun _ => ?_) (fun h9 => absurd (by decide) h9)
  refine lv_iload hx hb dL_law_1714 (lv_at hl 1 rfl) ?_
  refine lv_if_ne (tgt := 1731) hx hb dL_law_1716 (by decide) (fun _ => ?_) (fun h9 => absurd h9 (by decide))
  refine lv_goto (tgt := 1748) hx hb dL_law_1731 (by decide) ?_
  exact z_lawend hx hb hr hml hown hts hX hbl hlocks hl0 hA hA2 hbA hE (Nat.le_of_ble_eq_true rfl) (Nat.le_of_ble_eq_true rfl) hS (lv_sub hl [2, 6] rfl)

set_option maxHeartbeats 4000000 in
set_option maxRecDepth 100000 in
theorem z_case5 {p : Program} {l : Launch} {e : Env} {s : State} {m : MethodId} {below : List Frame} {meth : Method} {c : Code} {A : Nat → Prop} {H : Heap} {locs : List Loc} {ls : Array Slot} {G : zG} {b : Nat} {xs : Nat → Int32} (hx : p.tables.exec = Jvm.exec) (hb : c.code = code) (hr : meth.sig.returnType = ret) (hml : c.maxLocals = 9) (hown : s.vm.findClass RL = some m.cls) (hts : ∀ w ∈ wsL_law, w.before #[Value.ref b] s = true) (hX : va_X b 5 xs s s.heap) (hbl : b < s.heap.size) (hlocks : meth.locks = false) (hl0 : l.stackTraces = false) (hA : ∀ q : Nat, s.heap.size ≤ q → A q) (hA2 : ∀ q : Nat, A q → s.heap.size ≤ q) (hbA : ¬ A b) (hE : zZ G A s s.heap) {x : Nat} {wa : Nat} {wb : Nat} {su : Nat} {cu : Nat} {tr : Nat} {co : Nat} {lo : Nat} {pk : Nat} {ro : Nat} {ou : Nat} {sl : Nat} {sh : Nat} {sa : Nat} {cc : Nat} {cs : Nat} {cm : Nat} {tn : Nat} {tc : Nat} {ts : Nat} {cf : Nat} {cp : Nat} {f1 : Int32} {f2 : Int32} {f3 : Int32} {f4 : Int32} {mm : Nat} {nw : Nat} {cq : Nat} {hi : Nat} {ko : Nat} {se : Nat} {nf : Nat} {ns : Nat} {pi : Nat} {vd : Nat} {lw : Nat} {hg : Nat} {rk : Nat} (v1 : Int32) (e1 : xs 1 = v1) (hP : va_P G.1 vwCl [(x, .inr (7, [.ref wa, .ref wb, .ref su, .ref cu, .ref tr, .ref co, .ref lo, .ref pk])), (wa, .inr (6, [.ref ro, .int 0, .int 0])), (su, .inr (4, [.ref wa, .ref sl, .ref sh, .ref sa, .int f1])), (cu, .inr (1, [.ref wa, .ref wb, .ref cc, .ref cs, .ref cm, .int f2])), (tr, .inr (5, [.ref wa, .ref cu, .ref tn, .ref tc, .ref ts, .int 0, .int f3])), (co, .inr (0, [.ref wa, .ref wb, .ref cu, .ref cf, .ref cp, .int 0, .int f4])), (mm, .inr (9, [.int 0, .ref nw, .ref cq, .ref hi, .int 0, .ref ko, .ref se, .int 0, .ref nf, .ref ns, .ref pi])), (nw, .inr (8, [.int 0, .int 0, .ref vd, .ref lw, .ref hg, .ref rk]))] H) (hD : va_D A [(x, .inr (7, [.ref wa, .ref wb, .ref su, .ref cu, .ref tr, .ref co, .ref lo, .ref pk])), (wa, .inr (6, [.ref ro, .int 0, .int 0])), (su, .inr (4, [.ref wa, .ref sl, .ref sh, .ref sa, .int f1])), (cu, .inr (1, [.ref wa, .ref wb, .ref cc, .ref cs, .ref cm, .int f2])), (tr, .inr (5, [.ref wa, .ref cu, .ref tn, .ref tc, .ref ts, .int 0, .int f3])), (co, .inr (0, [.ref wa, .ref wb, .ref cu, .ref cf, .ref cp, .int 0, .int f4])), (mm, .inr (9, [.int 0, .ref nw, .ref cq, .ref hi, .int 0, .ref ko, .ref se, .int 0, .ref nf, .ref ns, .ref pi])), (nw, .inr (8, [.int 0, .int 0, .ref vd, .ref lw, .ref hg, .ref rk]))]) (hS : va_S A s.heap H locs) (hl : lv_has ls 9 [(4, .int 0), (3, .ref ou), (2, .ref mm), (1, .ref x), (0, .ref b)]) : W p l e room_1 s m #[Value.ref b] below meth c H locs 89 9213 (lw_Z below #[Value.ref b] s) (F0 m 516 ls []) := by
  by_cases h1 : v1 = 0
  · refine lv_aload_n hx hb dL_law_516 rfl (lv_at hl 3 rfl) ?_
    refine lv_aload_n hx hb dL_law_517 rfl (lv_at hl 4 rfl) ?_
    refine lv_iload hx hb dL_law_518 (lv_at hl 0 rfl) ?_
    refine lv_iconst (v := 1) hx hb dL_law_520 (by decide) ?_
    refine lv_iadd hx hb dL_law_521 ?_
    refine zti (v := 1) (by decide) ?_
    refine va_sld hx hb hX hbl hbA hS (zin (by decide +kernel)) dL_law_522 ?_
    refine zti (v := v1) e1 ?_
    refine lv_if_eq (tgt := 530) hx hb dL_law_523 (by decide) (fun _ => ?_) (fun h9 => absurd h1 h9)
    refine lv_iconst (v := 0) hx hb dL_law_530 (by decide) ?_
    refine zcall (wr := [(mm, .inr (9, [.int 0, .ref nw, .ref cq, .ref hi, .int 0, .ref ko, .ref se, .int 0, .ref nf, .ref ns, .ref pi])), (nw, .inr (8, [.int 0, .int 0, .ref vd, .ref lw, .ref hg, .ref rk]))]) (va_runV (As := [.int 0]) (rest := []) ⟨hx, hb, hml, hown, hts⟩ (z_X7_setLast0 l G x wa wb su cu tr co lo pk ro sl sh sa cc cs cm tn tc ts cf cp f1 f2 f3 f4 H.size) (cwV 1 hts gL_law_X7_setLast rfl rfl rfl (by decide +kernel) ⟨Nat.le_of_ble_eq_true rfl, Nat.le_of_ble_eq_true rfl⟩) (zPreV (Wc := [(x, .inr (7, [.ref wa, .ref wb, .ref su, .ref cu, .ref tr, .ref co, .ref lo, .ref pk])), (wa, .inr (6, [.ref ro, .int 0, .int 0])), (su, .inr (4, [.ref wa, .ref sl, .ref sh, .ref sa, .int f1])), (cu, .inr (1, [.ref wa, .ref wb, .ref cc, .ref cs, .ref cm, .int f2])), (tr, .inr (5, [.ref wa, .ref cu, .ref tn, .ref tc, .ref ts, .int 0, .int f3])), (co, .inr (0, [.ref wa, .ref wb, .ref cu, .ref cf, .ref cp, .int 0, .int f4]))]) (q0 := 0) (ci := 7) (q := (RX7, TX7, 8)) hP hD hE hS hA [0, 1, 2, 3, 4, 5] rfl (by decide) rfl rfl) rfl rfl hl.1 rfl (lv_room (Nat.le_of_ble_eq_true rfl)) dL_law_531 ⟨Nat.le_of_ble_eq_true rfl, Nat.le_of_ble_eq_true rfl⟩) hP hD hS hA [0, 1, 2, 3, 4, 5] [6, 7] rfl rfl (by decide) (by decide) (fun u1 H locs hP hD hS => ?_)
    have hP : va_P G.1 vwCl [(mm, .inr (9, [.int 0, .ref nw, .ref cq, .ref hi, .int 0, .ref ko, .ref se, .int 0, .ref nf, .ref ns, .ref pi])), (nw, .inr (8, [.int 0, .int 0, .ref vd, .ref lw, .ref hg, .ref rk])), (wa, .inr (6, [.ref ro, .int 0, .int 0])), (x, .inr (7, [.ref wa, .ref wb, .ref su, .ref cu, .ref tr, .ref co, .ref lo, .ref pk])), (su, .inr (4, [.ref wa, .ref sl, .ref sh, .ref sa, .int 0])), (cu, .inr (1, [.ref wa, .ref wb, .ref cc, .ref cs, .ref cm, .int 0])), (tr, .inr (5, [.ref wa, .ref cu, .ref tn, .ref tc, .ref ts, .int 0, .int 0])), (co, .inr (0, [.ref wa, .ref wb, .ref cu, .ref cf, .ref cp, .int 0, .int 0]))] H := hP
    have hD : va_D A [(mm, .inr (9, [.int 0, .ref nw, .ref cq, .ref hi, .int 0, .ref ko, .ref se, .int 0, .ref nf, .ref ns, .ref pi])), (nw, .inr (8, [.int 0, .int 0, .ref vd, .ref lw, .ref hg, .ref rk])), (wa, .inr (6, [.ref ro, .int 0, .int 0])), (x, .inr (7, [.ref wa, .ref wb, .ref su, .ref cu, .ref tr, .ref co, .ref lo, .ref pk])), (su, .inr (4, [.ref wa, .ref sl, .ref sh, .ref sa, .int 0])), (cu, .inr (1, [.ref wa, .ref wb, .ref cc, .ref cs, .ref cm, .int 0])), (tr, .inr (5, [.ref wa, .ref cu, .ref tn, .ref tc, .ref ts, .int 0, .int 0])), (co, .inr (0, [.ref wa, .ref wb, .ref cu, .ref cf, .ref cp, .int 0, .int 0]))] := hD
    refine W.eq (g2 := F0 m 534 ls [.int 0]) rfl ?_
    refine lv_aload_n hx hb dL_law_534 rfl (lv_at hl 2 rfl) ?_
    refine lv_aload_n hx hb dL_law_535 rfl (lv_at hl 4 rfl) ?_
    refine lv_iload hx hb dL_law_536 (lv_at hl 0 rfl) ?_
    refine lv_iconst (v := 1) hx hb dL_law_538 (by decide) ?_
    refine lv_iadd hx hb dL_law_539 ?_
    refine zti (v := 1) (by decide) ?_
    refine va_sld hx hb hX hbl hbA hS (zin (by decide +kernel)) dL_law_540 ?_
    refine zti (v := v1) e1 ?_
    refine lv_if_eq (tgt := 548) hx hb dL_law_541 (by decide) (fun _ => ?_) (fun h9 => absurd h1 h9)
    refine lv_iconst (v := 0) hx hb dL_law_548 (by decide) ?_
    refine zcall (wr := [(wa, .inr (6, [.ref ro, .int 0, .int 0])), (x, .inr (7, [.ref wa, .ref wb, .ref su, .ref cu, .ref tr, .ref co, .ref lo, .ref pk])), (su, .inr (4, [.ref wa, .ref sl, .ref sh, .ref sa, .int 0])), (cu, .inr (1, [.ref wa, .ref wb, .ref cc, .ref cs, .ref cm, .int 0])), (tr, .inr (5, [.ref wa, .ref cu, .ref tn, .ref tc, .ref ts, .int 0, .int 0])), (co, .inr (0, [.ref wa, .ref wb, .ref cu, .ref cf, .ref cp, .int 0, .int 0]))]) (va_runV (As := [.int 0]) (rest := [.int 0]) ⟨hx, hb, hml, hown, hts⟩ (z_X9_setLast0 l G mm nw cq hi ko se nf ns pi 0 vd lw hg rk H.size) (cwV 1 hts gL_law_X9_setLast rfl rfl rfl (by decide +kernel) ⟨Nat.le_of_ble_eq_true rfl, Nat.le_of_ble_eq_true rfl⟩) (zPreV (Wc := [(mm, .inr (9, [.int 0, .ref nw, .ref cq, .ref hi, .int 0, .ref ko, .ref se, .int 0, .ref nf, .ref ns, .ref pi])), (nw, .inr (8, [.int 0, .int 0, .ref vd, .ref lw, .ref hg, .ref rk]))]) (q0 := 0) (ci := 9) (q := (RX9, TX9, 11)) hP hD hE hS hA [0, 1] rfl (by decide) rfl rfl) rfl rfl hl.1 rfl (lv_room (Nat.le_of_ble_eq_true rfl)) dL_law_549 ⟨Nat.le_of_ble_eq_true rfl, Nat.le_of_ble_eq_true rfl⟩) hP hD hS hA [0, 1] [2, 3, 4, 5, 6, 7] rfl rfl (by decide) (by decide) (fun u2 H locs hP hD hS => ?_)
    have hP : va_P G.1 vwCl [(wa, .inr (6, [.ref ro, .int 0, .int 0])), (x, .inr (7, [.ref wa, .ref wb, .ref su, .ref cu, .ref tr, .ref co, .ref lo, .ref pk])), (su, .inr (4, [.ref wa, .ref sl, .ref sh, .ref sa, .int 0])), (cu, .inr (1, [.ref wa, .ref wb, .ref cc, .ref cs, .ref cm, .int 0])), (tr, .inr (5, [.ref wa, .ref cu, .ref tn, .ref tc, .ref ts, .int 0, .int 0])), (co, .inr (0, [.ref wa, .ref wb, .ref cu, .ref cf, .ref cp, .int 0, .int 0])), (mm, .inr (9, [.int 0, .ref nw, .ref cq, .ref hi, .int 0, .ref ko, .ref se, .int 0, .ref nf, .ref ns, .ref pi])), (nw, .inr (8, [.int 0, .int 0, .ref vd, .ref lw, .ref hg, .ref rk]))] H := hP
    have hD : va_D A [(wa, .inr (6, [.ref ro, .int 0, .int 0])), (x, .inr (7, [.ref wa, .ref wb, .ref su, .ref cu, .ref tr, .ref co, .ref lo, .ref pk])), (su, .inr (4, [.ref wa, .ref sl, .ref sh, .ref sa, .int 0])), (cu, .inr (1, [.ref wa, .ref wb, .ref cc, .ref cs, .ref cm, .int 0])), (tr, .inr (5, [.ref wa, .ref cu, .ref tn, .ref tc, .ref ts, .int 0, .int 0])), (co, .inr (0, [.ref wa, .ref wb, .ref cu, .ref cf, .ref cp, .int 0, .int 0])), (mm, .inr (9, [.int 0, .ref nw, .ref cq, .ref hi, .int 0, .ref ko, .ref se, .int 0, .ref nf, .ref ns, .ref pi])), (nw, .inr (8, [.int 0, .int 0, .ref vd, .ref lw, .ref hg, .ref rk]))] := hD
    refine W.eq (g2 := F0 m 552 ls [.int 0, .int 0]) rfl ?_
    refine lv_icmp_eq (tgt := 1748) hx hb dL_law_552 (by decide) (fun _ => ?_) (fun h9 => absurd (by decide) h9)
    exact z_lawend hx hb hr hml hown hts hX hbl hlocks hl0 hA hA2 hbA hE (Nat.le_of_ble_eq_true rfl) (Nat.le_of_ble_eq_true rfl) hS (lv_sub hl [0, 4] rfl)
  · refine lv_aload_n hx hb dL_law_516 rfl (lv_at hl 3 rfl) ?_
    refine lv_aload_n hx hb dL_law_517 rfl (lv_at hl 4 rfl) ?_
    refine lv_iload hx hb dL_law_518 (lv_at hl 0 rfl) ?_
    refine lv_iconst (v := 1) hx hb dL_law_520 (by decide) ?_
    refine lv_iadd hx hb dL_law_521 ?_
    refine zti (v := 1) (by decide) ?_
    refine va_sld hx hb hX hbl hbA hS (zin (by decide +kernel)) dL_law_522 ?_
    refine zti (v := v1) e1 ?_
    refine lv_if_eq (tgt := 530) hx hb dL_law_523 (by decide) (fun h9 => absurd h9 h1) (fun _ => ?_)
    refine lv_iconst (v := 1) hx hb dL_law_526 (by decide) ?_
    refine lv_goto (tgt := 531) hx hb dL_law_527 (by decide) ?_
    refine zcall (wr := [(mm, .inr (9, [.int 0, .ref nw, .ref cq, .ref hi, .int 0, .ref ko, .ref se, .int 0, .ref nf, .ref ns, .ref pi])), (nw, .inr (8, [.int 0, .int 0, .ref vd, .ref lw, .ref hg, .ref rk]))]) (va_runV (As := [.int 1]) (rest := []) ⟨hx, hb, hml, hown, hts⟩ (z_X7_setLast1 l G x wa wb su cu tr co lo pk ro sl sh sa cc cs cm tn tc ts cf cp f1 f2 f3 f4 H.size) (cwV 1 hts gL_law_X7_setLast rfl rfl rfl (by decide +kernel) ⟨Nat.le_of_ble_eq_true rfl, Nat.le_of_ble_eq_true rfl⟩) (zPreV (Wc := [(x, .inr (7, [.ref wa, .ref wb, .ref su, .ref cu, .ref tr, .ref co, .ref lo, .ref pk])), (wa, .inr (6, [.ref ro, .int 0, .int 0])), (su, .inr (4, [.ref wa, .ref sl, .ref sh, .ref sa, .int f1])), (cu, .inr (1, [.ref wa, .ref wb, .ref cc, .ref cs, .ref cm, .int f2])), (tr, .inr (5, [.ref wa, .ref cu, .ref tn, .ref tc, .ref ts, .int 0, .int f3])), (co, .inr (0, [.ref wa, .ref wb, .ref cu, .ref cf, .ref cp, .int 0, .int f4]))]) (q0 := 0) (ci := 7) (q := (RX7, TX7, 8)) hP hD hE hS hA [0, 1, 2, 3, 4, 5] rfl (by decide) rfl rfl) rfl rfl hl.1 rfl (lv_room (Nat.le_of_ble_eq_true rfl)) dL_law_531 ⟨Nat.le_of_ble_eq_true rfl, Nat.le_of_ble_eq_true rfl⟩) hP hD hS hA [0, 1, 2, 3, 4, 5] [6, 7] rfl rfl (by decide) (by decide) (fun u1 H locs hP hD hS => ?_)
    have hP : va_P G.1 vwCl [(mm, .inr (9, [.int 0, .ref nw, .ref cq, .ref hi, .int 0, .ref ko, .ref se, .int 0, .ref nf, .ref ns, .ref pi])), (nw, .inr (8, [.int 0, .int 0, .ref vd, .ref lw, .ref hg, .ref rk])), (wa, .inr (6, [.ref ro, .int 0, .int 1])), (x, .inr (7, [.ref wa, .ref wb, .ref su, .ref cu, .ref tr, .ref co, .ref lo, .ref pk])), (su, .inr (4, [.ref wa, .ref sl, .ref sh, .ref sa, .int 0])), (cu, .inr (1, [.ref wa, .ref wb, .ref cc, .ref cs, .ref cm, .int 0])), (tr, .inr (5, [.ref wa, .ref cu, .ref tn, .ref tc, .ref ts, .int 0, .int 0])), (co, .inr (0, [.ref wa, .ref wb, .ref cu, .ref cf, .ref cp, .int 0, .int 0]))] H := hP
    have hD : va_D A [(mm, .inr (9, [.int 0, .ref nw, .ref cq, .ref hi, .int 0, .ref ko, .ref se, .int 0, .ref nf, .ref ns, .ref pi])), (nw, .inr (8, [.int 0, .int 0, .ref vd, .ref lw, .ref hg, .ref rk])), (wa, .inr (6, [.ref ro, .int 0, .int 1])), (x, .inr (7, [.ref wa, .ref wb, .ref su, .ref cu, .ref tr, .ref co, .ref lo, .ref pk])), (su, .inr (4, [.ref wa, .ref sl, .ref sh, .ref sa, .int 0])), (cu, .inr (1, [.ref wa, .ref wb, .ref cc, .ref cs, .ref cm, .int 0])), (tr, .inr (5, [.ref wa, .ref cu, .ref tn, .ref tc, .ref ts, .int 0, .int 0])), (co, .inr (0, [.ref wa, .ref wb, .ref cu, .ref cf, .ref cp, .int 0, .int 0]))] := hD
    refine W.eq (g2 := F0 m 534 ls [.int 0]) rfl ?_
    refine lv_aload_n hx hb dL_law_534 rfl (lv_at hl 2 rfl) ?_
    refine lv_aload_n hx hb dL_law_535 rfl (lv_at hl 4 rfl) ?_
    refine lv_iload hx hb dL_law_536 (lv_at hl 0 rfl) ?_
    refine lv_iconst (v := 1) hx hb dL_law_538 (by decide) ?_
    refine lv_iadd hx hb dL_law_539 ?_
    refine zti (v := 1) (by decide) ?_
    refine va_sld hx hb hX hbl hbA hS (zin (by decide +kernel)) dL_law_540 ?_
    refine zti (v := v1) e1 ?_
    refine lv_if_eq (tgt := 548) hx hb dL_law_541 (by decide) (fun h9 => absurd h9 h1) (fun _ => ?_)
    refine lv_iconst (v := 1) hx hb dL_law_544 (by decide) ?_
    refine lv_goto (tgt := 549) hx hb dL_law_545 (by decide) ?_
    refine zcall (wr := [(wa, .inr (6, [.ref ro, .int 0, .int 1])), (x, .inr (7, [.ref wa, .ref wb, .ref su, .ref cu, .ref tr, .ref co, .ref lo, .ref pk])), (su, .inr (4, [.ref wa, .ref sl, .ref sh, .ref sa, .int 0])), (cu, .inr (1, [.ref wa, .ref wb, .ref cc, .ref cs, .ref cm, .int 0])), (tr, .inr (5, [.ref wa, .ref cu, .ref tn, .ref tc, .ref ts, .int 0, .int 0])), (co, .inr (0, [.ref wa, .ref wb, .ref cu, .ref cf, .ref cp, .int 0, .int 0]))]) (va_runV (As := [.int 1]) (rest := [.int 0]) ⟨hx, hb, hml, hown, hts⟩ (z_X9_setLast1 l G mm nw cq hi ko se nf ns pi 0 vd lw hg rk H.size) (cwV 1 hts gL_law_X9_setLast rfl rfl rfl (by decide +kernel) ⟨Nat.le_of_ble_eq_true rfl, Nat.le_of_ble_eq_true rfl⟩) (zPreV (Wc := [(mm, .inr (9, [.int 0, .ref nw, .ref cq, .ref hi, .int 0, .ref ko, .ref se, .int 0, .ref nf, .ref ns, .ref pi])), (nw, .inr (8, [.int 0, .int 0, .ref vd, .ref lw, .ref hg, .ref rk]))]) (q0 := 0) (ci := 9) (q := (RX9, TX9, 11)) hP hD hE hS hA [0, 1] rfl (by decide) rfl rfl) rfl rfl hl.1 rfl (lv_room (Nat.le_of_ble_eq_true rfl)) dL_law_549 ⟨Nat.le_of_ble_eq_true rfl, Nat.le_of_ble_eq_true rfl⟩) hP hD hS hA [0, 1] [2, 3, 4, 5, 6, 7] rfl rfl (by decide) (by decide) (fun u2 H locs hP hD hS => ?_)
    have hP : va_P G.1 vwCl [(wa, .inr (6, [.ref ro, .int 0, .int 1])), (x, .inr (7, [.ref wa, .ref wb, .ref su, .ref cu, .ref tr, .ref co, .ref lo, .ref pk])), (su, .inr (4, [.ref wa, .ref sl, .ref sh, .ref sa, .int 0])), (cu, .inr (1, [.ref wa, .ref wb, .ref cc, .ref cs, .ref cm, .int 0])), (tr, .inr (5, [.ref wa, .ref cu, .ref tn, .ref tc, .ref ts, .int 0, .int 0])), (co, .inr (0, [.ref wa, .ref wb, .ref cu, .ref cf, .ref cp, .int 0, .int 0])), (mm, .inr (9, [.int 0, .ref nw, .ref cq, .ref hi, .int 0, .ref ko, .ref se, .int 0, .ref nf, .ref ns, .ref pi])), (nw, .inr (8, [.int 0, .int 1, .ref vd, .ref lw, .ref hg, .ref rk]))] H := hP
    have hD : va_D A [(wa, .inr (6, [.ref ro, .int 0, .int 1])), (x, .inr (7, [.ref wa, .ref wb, .ref su, .ref cu, .ref tr, .ref co, .ref lo, .ref pk])), (su, .inr (4, [.ref wa, .ref sl, .ref sh, .ref sa, .int 0])), (cu, .inr (1, [.ref wa, .ref wb, .ref cc, .ref cs, .ref cm, .int 0])), (tr, .inr (5, [.ref wa, .ref cu, .ref tn, .ref tc, .ref ts, .int 0, .int 0])), (co, .inr (0, [.ref wa, .ref wb, .ref cu, .ref cf, .ref cp, .int 0, .int 0])), (mm, .inr (9, [.int 0, .ref nw, .ref cq, .ref hi, .int 0, .ref ko, .ref se, .int 0, .ref nf, .ref ns, .ref pi])), (nw, .inr (8, [.int 0, .int 1, .ref vd, .ref lw, .ref hg, .ref rk]))] := hD
    refine W.eq (g2 := F0 m 552 ls [.int 0, .int 0]) rfl ?_
    refine lv_icmp_eq (tgt := 1748) hx hb dL_law_552 (by decide) (fun _ => ?_) (fun h9 => absurd (by decide) h9)
    exact z_lawend hx hb hr hml hown hts hX hbl hlocks hl0 hA hA2 hbA hE (Nat.le_of_ble_eq_true rfl) (Nat.le_of_ble_eq_true rfl) hS (lv_sub hl [0, 4] rfl)

set_option maxHeartbeats 4000000 in
set_option maxRecDepth 100000 in
theorem z_case6 {p : Program} {l : Launch} {e : Env} {s : State} {m : MethodId} {below : List Frame} {meth : Method} {c : Code} {A : Nat → Prop} {H : Heap} {locs : List Loc} {ls : Array Slot} {G : zG} {b : Nat} {xs : Nat → Int32} (hx : p.tables.exec = Jvm.exec) (hb : c.code = code) (hr : meth.sig.returnType = ret) (hml : c.maxLocals = 9) (hown : s.vm.findClass RL = some m.cls) (hts : ∀ w ∈ wsL_law, w.before #[Value.ref b] s = true) (hX : va_X b 5 xs s s.heap) (hbl : b < s.heap.size) (hlocks : meth.locks = false) (hl0 : l.stackTraces = false) (hA : ∀ q : Nat, s.heap.size ≤ q → A q) (hA2 : ∀ q : Nat, A q → s.heap.size ≤ q) (hbA : ¬ A b) (hE : zZ G A s s.heap) {x : Nat} {wa : Nat} {wb : Nat} {su : Nat} {cu : Nat} {tr : Nat} {co : Nat} {lo : Nat} {pk : Nat} {ro : Nat} {ou : Nat} {mm : Nat} {nw : Nat} {cq : Nat} {hi : Nat} {ko : Nat} {se : Nat} {nf : Nat} {ns : Nat} {pi : Nat} {vd : Nat} {lw : Nat} {hg : Nat} {rk : Nat} (hP : va_P G.1 vwCl [(x, .inr (7, [.ref wa, .ref wb, .ref su, .ref cu, .ref tr, .ref co, .ref lo, .ref pk])), (wa, .inr (6, [.ref ro, .int 0, .int 0])), (mm, .inr (9, [.int 0, .ref nw, .ref cq, .ref hi, .int 0, .ref ko, .ref se, .int 0, .ref nf, .ref ns, .ref pi])), (nw, .inr (8, [.int 0, .int 0, .ref vd, .ref lw, .ref hg, .ref rk]))] H) (hD : va_D A [(x, .inr (7, [.ref wa, .ref wb, .ref su, .ref cu, .ref tr, .ref co, .ref lo, .ref pk])), (wa, .inr (6, [.ref ro, .int 0, .int 0])), (mm, .inr (9, [.int 0, .ref nw, .ref cq, .ref hi, .int 0, .ref ko, .ref se, .int 0, .ref nf, .ref ns, .ref pi])), (nw, .inr (8, [.int 0, .int 0, .ref vd, .ref lw, .ref hg, .ref rk]))]) (hS : va_S A s.heap H locs) (hl : lv_has ls 9 [(4, .int 0), (3, .ref ou), (2, .ref mm), (1, .ref x), (0, .ref b)]) : W p l e room_1 s m #[Value.ref b] below meth c H locs 89 9213 (lw_Z below #[Value.ref b] s) (F0 m 557 ls []) := by
  refine lv_aload_n hx hb dL_law_557 rfl (lv_at hl 3 rfl) ?_
  refine zcall (wr := [(mm, .inr (9, [.int 0, .ref nw, .ref cq, .ref hi, .int 0, .ref ko, .ref se, .int 0, .ref nf, .ref ns, .ref pi])), (nw, .inr (8, [.int 0, .int 0, .ref vd, .ref lw, .ref hg, .ref rk]))]) (va_runV (As := []) (rest := []) ⟨hx, hb, hml, hown, hts⟩ (z_X7_shrink l G x wa wb su cu tr co lo pk ro H.size) (cwV 0 hts gL_law_X7_shrink rfl rfl rfl (by decide +kernel) ⟨Nat.le_of_ble_eq_true rfl, Nat.le_of_ble_eq_true rfl⟩) (zPreV (Wc := [(x, .inr (7, [.ref wa, .ref wb, .ref su, .ref cu, .ref tr, .ref co, .ref lo, .ref pk])), (wa, .inr (6, [.ref ro, .int 0, .int 0]))]) (q0 := 0) (ci := 7) (q := (RX7, TX7, 8)) hP hD hE hS hA [0, 1] rfl (by decide) rfl rfl) rfl rfl hl.1 rfl (lv_room (Nat.le_of_ble_eq_true rfl)) dL_law_558 ⟨Nat.le_of_ble_eq_true rfl, Nat.le_of_ble_eq_true rfl⟩) hP hD hS hA [0, 1] [2, 3] rfl rfl (by decide) (by decide) (fun u1 H locs hP hD hS => ?_)
  have hP : va_P G.1 vwCl [(mm, .inr (9, [.int 0, .ref nw, .ref cq, .ref hi, .int 0, .ref ko, .ref se, .int 0, .ref nf, .ref ns, .ref pi])), (nw, .inr (8, [.int 0, .int 0, .ref vd, .ref lw, .ref hg, .ref rk])), (x, .inr (7, [.ref wa, .ref wb, .ref su, .ref cu, .ref tr, .ref co, .ref lo, .ref pk])), (wa, .inr (6, [.ref ro, .int 0, .int 0]))] H := hP
  have hD : va_D A [(mm, .inr (9, [.int 0, .ref nw, .ref cq, .ref hi, .int 0, .ref ko, .ref se, .int 0, .ref nf, .ref ns, .ref pi])), (nw, .inr (8, [.int 0, .int 0, .ref vd, .ref lw, .ref hg, .ref rk])), (x, .inr (7, [.ref wa, .ref wb, .ref su, .ref cu, .ref tr, .ref co, .ref lo, .ref pk])), (wa, .inr (6, [.ref ro, .int 0, .int 0]))] := hD
  refine W.eq (g2 := F0 m 561 ls [.int 0]) rfl ?_
  refine lv_aload_n hx hb dL_law_561 rfl (lv_at hl 2 rfl) ?_
  refine zcall (wr := [(x, .inr (7, [.ref wa, .ref wb, .ref su, .ref cu, .ref tr, .ref co, .ref lo, .ref pk])), (wa, .inr (6, [.ref ro, .int 0, .int 0]))]) (va_runV (As := []) (rest := [.int 0]) ⟨hx, hb, hml, hown, hts⟩ (z_X9_shrink l G mm nw cq hi ko se nf ns pi 0 vd lw hg rk H.size) (cwV 0 hts gL_law_X9_shrink rfl rfl rfl (by decide +kernel) ⟨Nat.le_of_ble_eq_true rfl, Nat.le_of_ble_eq_true rfl⟩) (zPreV (Wc := [(mm, .inr (9, [.int 0, .ref nw, .ref cq, .ref hi, .int 0, .ref ko, .ref se, .int 0, .ref nf, .ref ns, .ref pi])), (nw, .inr (8, [.int 0, .int 0, .ref vd, .ref lw, .ref hg, .ref rk]))]) (q0 := 0) (ci := 9) (q := (RX9, TX9, 11)) hP hD hE hS hA [0, 1] rfl (by decide) rfl rfl) rfl rfl hl.1 rfl (lv_room (Nat.le_of_ble_eq_true rfl)) dL_law_562 ⟨Nat.le_of_ble_eq_true rfl, Nat.le_of_ble_eq_true rfl⟩) hP hD hS hA [0, 1] [2, 3] rfl rfl (by decide) (by decide) (fun u2 H locs hP hD hS => ?_)
  have hP : va_P G.1 vwCl [(x, .inr (7, [.ref wa, .ref wb, .ref su, .ref cu, .ref tr, .ref co, .ref lo, .ref pk])), (wa, .inr (6, [.ref ro, .int 0, .int 0])), (mm, .inr (9, [.int 0, .ref nw, .ref cq, .ref hi, .int 0, .ref ko, .ref se, .int 0, .ref nf, .ref ns, .ref pi])), (nw, .inr (8, [.int 0, .int 0, .ref vd, .ref lw, .ref hg, .ref rk]))] H := hP
  have hD : va_D A [(x, .inr (7, [.ref wa, .ref wb, .ref su, .ref cu, .ref tr, .ref co, .ref lo, .ref pk])), (wa, .inr (6, [.ref ro, .int 0, .int 0])), (mm, .inr (9, [.int 0, .ref nw, .ref cq, .ref hi, .int 0, .ref ko, .ref se, .int 0, .ref nf, .ref ns, .ref pi])), (nw, .inr (8, [.int 0, .int 0, .ref vd, .ref lw, .ref hg, .ref rk]))] := hD
  refine W.eq (g2 := F0 m 565 ls [.int 0, .int 0]) rfl ?_
  refine lv_icmp_eq (tgt := 1748) hx hb dL_law_565 (by decide) (fun _ => ?_) (fun h9 => absurd (by decide) h9)
  exact z_lawend hx hb hr hml hown hts hX hbl hlocks hl0 hA hA2 hbA hE (Nat.le_of_ble_eq_true rfl) (Nat.le_of_ble_eq_true rfl) hS (lv_sub hl [0, 4] rfl)

set_option maxHeartbeats 4000000 in
set_option maxRecDepth 100000 in
theorem z_case7 {p : Program} {l : Launch} {e : Env} {s : State} {m : MethodId} {below : List Frame} {meth : Method} {c : Code} {A : Nat → Prop} {H : Heap} {locs : List Loc} {ls : Array Slot} {G : zG} {b : Nat} {xs : Nat → Int32} (hx : p.tables.exec = Jvm.exec) (hb : c.code = code) (hr : meth.sig.returnType = ret) (hml : c.maxLocals = 9) (hown : s.vm.findClass RL = some m.cls) (hts : ∀ w ∈ wsL_law, w.before #[Value.ref b] s = true) (hX : va_X b 5 xs s s.heap) (hbl : b < s.heap.size) (hlocks : meth.locks = false) (hl0 : l.stackTraces = false) (hA : ∀ q : Nat, s.heap.size ≤ q → A q) (hA2 : ∀ q : Nat, A q → s.heap.size ≤ q) (hbA : ¬ A b) (hE : zZ G A s s.heap) {x : Nat} {wa : Nat} {wb : Nat} {su : Nat} {cu : Nat} {tr : Nat} {co : Nat} {lo : Nat} {pk : Nat} {ro : Nat} {ou : Nat} {mm : Nat} {nw : Nat} {cq : Nat} {hi : Nat} {ko : Nat} {se : Nat} {nf : Nat} {ns : Nat} {pi : Nat} {vd : Nat} {lw : Nat} {hg : Nat} {rk : Nat} (hP : va_P G.1 vwCl [(x, .inr (7, [.ref wa, .ref wb, .ref su, .ref cu, .ref tr, .ref co, .ref lo, .ref pk])), (wa, .inr (6, [.ref ro, .int 0, .int 0])), (mm, .inr (9, [.int 0, .ref nw, .ref cq, .ref hi, .int 0, .ref ko, .ref se, .int 0, .ref nf, .ref ns, .ref pi])), (nw, .inr (8, [.int 0, .int 0, .ref vd, .ref lw, .ref hg, .ref rk]))] H) (hD : va_D A [(x, .inr (7, [.ref wa, .ref wb, .ref su, .ref cu, .ref tr, .ref co, .ref lo, .ref pk])), (wa, .inr (6, [.ref ro, .int 0, .int 0])), (mm, .inr (9, [.int 0, .ref nw, .ref cq, .ref hi, .int 0, .ref ko, .ref se, .int 0, .ref nf, .ref ns, .ref pi])), (nw, .inr (8, [.int 0, .int 0, .ref vd, .ref lw, .ref hg, .ref rk]))]) (hS : va_S A s.heap H locs) (hl : lv_has ls 9 [(4, .int 0), (3, .ref ou), (2, .ref mm), (1, .ref x), (0, .ref b)]) : W p l e room_1 s m #[Value.ref b] below meth c H locs 89 9213 (lw_Z below #[Value.ref b] s) (F0 m 570 ls []) := by
  refine lv_aload_n hx hb dL_law_570 rfl (lv_at hl 3 rfl) ?_
  refine zcall (wr := [(mm, .inr (9, [.int 0, .ref nw, .ref cq, .ref hi, .int 0, .ref ko, .ref se, .int 0, .ref nf, .ref ns, .ref pi])), (nw, .inr (8, [.int 0, .int 0, .ref vd, .ref lw, .ref hg, .ref rk]))]) (va_runV (As := []) (rest := []) ⟨hx, hb, hml, hown, hts⟩ (z_X7_rules l G x wa wb su cu tr co lo pk ro H.size) (cwV 0 hts gL_law_X7_rules rfl rfl rfl (by decide +kernel) ⟨Nat.le_of_ble_eq_true rfl, Nat.le_of_ble_eq_true rfl⟩) (zPreV (Wc := [(x, .inr (7, [.ref wa, .ref wb, .ref su, .ref cu, .ref tr, .ref co, .ref lo, .ref pk])), (wa, .inr (6, [.ref ro, .int 0, .int 0]))]) (q0 := 0) (ci := 7) (q := (RX7, TX7, 8)) hP hD hE hS hA [0, 1] rfl (by decide) rfl rfl) rfl rfl hl.1 rfl (lv_room (Nat.le_of_ble_eq_true rfl)) dL_law_571 ⟨Nat.le_of_ble_eq_true rfl, Nat.le_of_ble_eq_true rfl⟩) hP hD hS hA [0, 1] [2, 3] rfl rfl (by decide) (by decide) (fun u1 H locs hP hD hS => ?_)
  have hP : va_P G.1 vwCl [(mm, .inr (9, [.int 0, .ref nw, .ref cq, .ref hi, .int 0, .ref ko, .ref se, .int 0, .ref nf, .ref ns, .ref pi])), (nw, .inr (8, [.int 0, .int 0, .ref vd, .ref lw, .ref hg, .ref rk])), (x, .inr (7, [.ref wa, .ref wb, .ref su, .ref cu, .ref tr, .ref co, .ref lo, .ref pk])), (wa, .inr (6, [.ref ro, .int 0, .int 0]))] H := hP
  have hD : va_D A [(mm, .inr (9, [.int 0, .ref nw, .ref cq, .ref hi, .int 0, .ref ko, .ref se, .int 0, .ref nf, .ref ns, .ref pi])), (nw, .inr (8, [.int 0, .int 0, .ref vd, .ref lw, .ref hg, .ref rk])), (x, .inr (7, [.ref wa, .ref wb, .ref su, .ref cu, .ref tr, .ref co, .ref lo, .ref pk])), (wa, .inr (6, [.ref ro, .int 0, .int 0]))] := hD
  refine W.eq (g2 := F0 m 574 ls [.int 0]) rfl ?_
  refine lv_aload_n hx hb dL_law_574 rfl (lv_at hl 2 rfl) ?_
  refine zcall (wr := [(x, .inr (7, [.ref wa, .ref wb, .ref su, .ref cu, .ref tr, .ref co, .ref lo, .ref pk])), (wa, .inr (6, [.ref ro, .int 0, .int 0]))]) (va_runV (As := []) (rest := [.int 0]) ⟨hx, hb, hml, hown, hts⟩ (z_X9_rules l G mm nw cq hi ko se nf ns pi 0 vd lw hg rk H.size) (cwV 0 hts gL_law_X9_rules rfl rfl rfl (by decide +kernel) ⟨Nat.le_of_ble_eq_true rfl, Nat.le_of_ble_eq_true rfl⟩) (zPreV (Wc := [(mm, .inr (9, [.int 0, .ref nw, .ref cq, .ref hi, .int 0, .ref ko, .ref se, .int 0, .ref nf, .ref ns, .ref pi])), (nw, .inr (8, [.int 0, .int 0, .ref vd, .ref lw, .ref hg, .ref rk]))]) (q0 := 0) (ci := 9) (q := (RX9, TX9, 11)) hP hD hE hS hA [0, 1] rfl (by decide) rfl rfl) rfl rfl hl.1 rfl (lv_room (Nat.le_of_ble_eq_true rfl)) dL_law_575 ⟨Nat.le_of_ble_eq_true rfl, Nat.le_of_ble_eq_true rfl⟩) hP hD hS hA [0, 1] [2, 3] rfl rfl (by decide) (by decide) (fun u2 H locs hP hD hS => ?_)
  have hP : va_P G.1 vwCl [(x, .inr (7, [.ref wa, .ref wb, .ref su, .ref cu, .ref tr, .ref co, .ref lo, .ref pk])), (wa, .inr (6, [.ref ro, .int 0, .int 0])), (nw, .inr (8, [.int 0, .int 0, .ref vd, .ref lw, .ref hg, .ref rk])), (mm, .inr (9, [.int 0, .ref nw, .ref cq, .ref hi, .int 0, .ref ko, .ref se, .int 0, .ref nf, .ref ns, .ref pi]))] H := hP
  have hD : va_D A [(x, .inr (7, [.ref wa, .ref wb, .ref su, .ref cu, .ref tr, .ref co, .ref lo, .ref pk])), (wa, .inr (6, [.ref ro, .int 0, .int 0])), (nw, .inr (8, [.int 0, .int 0, .ref vd, .ref lw, .ref hg, .ref rk])), (mm, .inr (9, [.int 0, .ref nw, .ref cq, .ref hi, .int 0, .ref ko, .ref se, .int 0, .ref nf, .ref ns, .ref pi]))] := hD
  refine W.eq (g2 := F0 m 578 ls [.int 0, .int 0]) rfl ?_
  refine lv_icmp_eq (tgt := 1748) hx hb dL_law_578 (by decide) (fun _ => ?_) (fun h9 => absurd (by decide) h9)
  exact z_lawend hx hb hr hml hown hts hX hbl hlocks hl0 hA hA2 hbA hE (Nat.le_of_ble_eq_true rfl) (Nat.le_of_ble_eq_true rfl) hS (lv_sub hl [0, 4] rfl)

set_option maxHeartbeats 4000000 in
set_option maxRecDepth 100000 in
theorem z_case10 {p : Program} {l : Launch} {e : Env} {s : State} {m : MethodId} {below : List Frame} {meth : Method} {c : Code} {A : Nat → Prop} {H : Heap} {locs : List Loc} {ls : Array Slot} {G : zG} {b : Nat} {xs : Nat → Int32} (hx : p.tables.exec = Jvm.exec) (hb : c.code = code) (hr : meth.sig.returnType = ret) (hml : c.maxLocals = 9) (hown : s.vm.findClass RL = some m.cls) (hts : ∀ w ∈ wsL_law, w.before #[Value.ref b] s = true) (hX : va_X b 5 xs s s.heap) (hbl : b < s.heap.size) (hlocks : meth.locks = false) (hl0 : l.stackTraces = false) (hA : ∀ q : Nat, s.heap.size ≤ q → A q) (hA2 : ∀ q : Nat, A q → s.heap.size ≤ q) (hbA : ¬ A b) (hE : zZ G A s s.heap) {x : Nat} {wa : Nat} {wb : Nat} {su : Nat} {cu : Nat} {tr : Nat} {co : Nat} {lo : Nat} {pk : Nat} {ro : Nat} {ou : Nat} {sl : Nat} {sh : Nat} {sa : Nat} {fl : Nat → Int32} {fh : Nat → Int32} {fa : Nat → Int32} {mm : Nat} {nw : Nat} {cq : Nat} {hi : Nat} {ko : Nat} {se : Nat} {nf : Nat} {ns : Nat} {pi : Nat} {vd : Nat} {lw : Nat} {hg : Nat} {rk : Nat} (hP : va_P G.1 vwCl [(x, .inr (7, [.ref wa, .ref wb, .ref su, .ref cu, .ref tr, .ref co, .ref lo, .ref pk])), (su, .inr (4, [.ref wa, .ref sl, .ref sh, .ref sa, .int 0])), (wa, .inr (6, [.ref ro, .int 0, .int 0])), (sl, .inl (G.2.1, 1024, .inl (fl))), (sh, .inl (G.2.1, 1024, .inl (fh))), (sa, .inl (G.2.1, 256, .inl (fa))), (mm, .inr (9, [.int 0, .ref nw, .ref cq, .ref hi, .int 0, .ref ko, .ref se, .int 0, .ref nf, .ref ns, .ref pi])), (nw, .inr (8, [.int 0, .int 0, .ref vd, .ref lw, .ref hg, .ref rk]))] H) (hD : va_D A [(x, .inr (7, [.ref wa, .ref wb, .ref su, .ref cu, .ref tr, .ref co, .ref lo, .ref pk])), (su, .inr (4, [.ref wa, .ref sl, .ref sh, .ref sa, .int 0])), (wa, .inr (6, [.ref ro, .int 0, .int 0])), (sl, .inl (G.2.1, 1024, .inl (fl))), (sh, .inl (G.2.1, 1024, .inl (fh))), (sa, .inl (G.2.1, 256, .inl (fa))), (mm, .inr (9, [.int 0, .ref nw, .ref cq, .ref hi, .int 0, .ref ko, .ref se, .int 0, .ref nf, .ref ns, .ref pi])), (nw, .inr (8, [.int 0, .int 0, .ref vd, .ref lw, .ref hg, .ref rk]))]) (hS : va_S A s.heap H locs) (hl : lv_has ls 9 [(4, .int 0), (3, .ref ou), (2, .ref mm), (1, .ref x), (0, .ref b)]) : W p l e room_1 s m #[Value.ref b] below meth c H locs 89 9213 (lw_Z below #[Value.ref b] s) (F0 m 707 ls []) := by
  refine lv_aload_n hx hb dL_law_707 rfl (lv_at hl 3 rfl) ?_
  refine zcall (wr := [(mm, .inr (9, [.int 0, .ref nw, .ref cq, .ref hi, .int 0, .ref ko, .ref se, .int 0, .ref nf, .ref ns, .ref pi])), (nw, .inr (8, [.int 0, .int 0, .ref vd, .ref lw, .ref hg, .ref rk]))]) (va_runV (As := []) (rest := []) ⟨hx, hb, hml, hown, hts⟩ (z_X7_allowed l G x wa wb su cu tr co lo pk ro sl sh sa (fl) (fh) (fa) H.size) (cwV 0 hts gL_law_X7_allowed rfl rfl rfl (by decide +kernel) ⟨Nat.le_of_ble_eq_true rfl, Nat.le_of_ble_eq_true rfl⟩) (zPreV (Wc := [(x, .inr (7, [.ref wa, .ref wb, .ref su, .ref cu, .ref tr, .ref co, .ref lo, .ref pk])), (su, .inr (4, [.ref wa, .ref sl, .ref sh, .ref sa, .int 0])), (wa, .inr (6, [.ref ro, .int 0, .int 0])), (sl, .inl (G.2.1, 1024, .inl (fl))), (sh, .inl (G.2.1, 1024, .inl (fh))), (sa, .inl (G.2.1, 256, .inl (fa)))]) (q0 := 0) (ci := 7) (q := (RX7, TX7, 8)) hP hD hE hS hA [0, 1, 2, 3, 4, 5] rfl (by decide) rfl rfl) rfl rfl hl.1 rfl (lv_room (Nat.le_of_ble_eq_true rfl)) dL_law_708 ⟨Nat.le_of_ble_eq_true rfl, Nat.le_of_ble_eq_true rfl⟩) hP hD hS hA [0, 1, 2, 3, 4, 5] [6, 7] rfl rfl (by decide) (by decide) (fun u1 H locs hP hD hS => ?_)
  have hP : va_P G.1 vwCl [(mm, .inr (9, [.int 0, .ref nw, .ref cq, .ref hi, .int 0, .ref ko, .ref se, .int 0, .ref nf, .ref ns, .ref pi])), (nw, .inr (8, [.int 0, .int 0, .ref vd, .ref lw, .ref hg, .ref rk])), (x, .inr (7, [.ref wa, .ref wb, .ref su, .ref cu, .ref tr, .ref co, .ref lo, .ref pk])), (sl, .inl (G.2.1, 1024, .inl (upd (upd (upd (upd fl 0 0) 1 0) 2 0) 3 0))), (sh, .inl (G.2.1, 1024, .inl (upd (upd (upd (upd fh 0 255) 1 255) 2 1023) 3 3))), (sa, .inl (G.2.1, 256, .inl (upd fa 0 268435456))), (su, .inr (4, [.ref wa, .ref sl, .ref sh, .ref sa, .int 1])), (wa, .inr (6, [.ref ro, .int 0, .int 0]))] H := hP
  have hD : va_D A [(mm, .inr (9, [.int 0, .ref nw, .ref cq, .ref hi, .int 0, .ref ko, .ref se, .int 0, .ref nf, .ref ns, .ref pi])), (nw, .inr (8, [.int 0, .int 0, .ref vd, .ref lw, .ref hg, .ref rk])), (x, .inr (7, [.ref wa, .ref wb, .ref su, .ref cu, .ref tr, .ref co, .ref lo, .ref pk])), (sl, .inl (G.2.1, 1024, .inl (upd (upd (upd (upd fl 0 0) 1 0) 2 0) 3 0))), (sh, .inl (G.2.1, 1024, .inl (upd (upd (upd (upd fh 0 255) 1 255) 2 1023) 3 3))), (sa, .inl (G.2.1, 256, .inl (upd fa 0 268435456))), (su, .inr (4, [.ref wa, .ref sl, .ref sh, .ref sa, .int 1])), (wa, .inr (6, [.ref ro, .int 0, .int 0]))] := hD
  refine W.eq (g2 := F0 m 711 ls [.int 0]) rfl ?_
  refine lv_aload_n hx hb dL_law_711 rfl (lv_at hl 2 rfl) ?_
  refine zcall (wr := [(x, .inr (7, [.ref wa, .ref wb, .ref su, .ref cu, .ref tr, .ref co, .ref lo, .ref pk])), (sl, .inl (G.2.1, 1024, .inl (upd (upd (upd (upd fl 0 0) 1 0) 2 0) 3 0))), (sh, .inl (G.2.1, 1024, .inl (upd (upd (upd (upd fh 0 255) 1 255) 2 1023) 3 3))), (sa, .inl (G.2.1, 256, .inl (upd fa 0 268435456))), (su, .inr (4, [.ref wa, .ref sl, .ref sh, .ref sa, .int 1])), (wa, .inr (6, [.ref ro, .int 0, .int 0]))]) (va_runV (As := []) (rest := [.int 0]) ⟨hx, hb, hml, hown, hts⟩ (z_X9_allowed l G mm nw cq hi ko se nf ns pi 0 vd lw hg rk H.size) (cwV 0 hts gL_law_X9_allowed rfl rfl rfl (by decide +kernel) ⟨Nat.le_of_ble_eq_true rfl, Nat.le_of_ble_eq_true rfl⟩) (zPreV (Wc := [(mm, .inr (9, [.int 0, .ref nw, .ref cq, .ref hi, .int 0, .ref ko, .ref se, .int 0, .ref nf, .ref ns, .ref pi])), (nw, .inr (8, [.int 0, .int 0, .ref vd, .ref lw, .ref hg, .ref rk]))]) (q0 := 0) (ci := 9) (q := (RX9, TX9, 11)) hP hD hE hS hA [0, 1] rfl (by decide) rfl rfl) rfl rfl hl.1 rfl (lv_room (Nat.le_of_ble_eq_true rfl)) dL_law_712 ⟨Nat.le_of_ble_eq_true rfl, Nat.le_of_ble_eq_true rfl⟩) hP hD hS hA [0, 1] [2, 3, 4, 5, 6, 7] rfl rfl (by decide) (by decide) (fun u2 H locs hP hD hS => ?_)
  have hP : va_P G.1 vwCl [(x, .inr (7, [.ref wa, .ref wb, .ref su, .ref cu, .ref tr, .ref co, .ref lo, .ref pk])), (sl, .inl (G.2.1, 1024, .inl (upd (upd (upd (upd fl 0 0) 1 0) 2 0) 3 0))), (sh, .inl (G.2.1, 1024, .inl (upd (upd (upd (upd fh 0 255) 1 255) 2 1023) 3 3))), (sa, .inl (G.2.1, 256, .inl (upd fa 0 268435456))), (su, .inr (4, [.ref wa, .ref sl, .ref sh, .ref sa, .int 1])), (wa, .inr (6, [.ref ro, .int 0, .int 0])), (nw, .inr (8, [.int 0, .int 0, .ref vd, .ref lw, .ref hg, .ref (u2 0)])), (mm, .inr (9, [.int 0, .ref nw, .ref cq, .ref hi, .int 0, .ref ko, .ref se, .int 0, .ref nf, .ref ns, .ref pi]))] H := hP
  have hD : va_D A [(x, .inr (7, [.ref wa, .ref wb, .ref su, .ref cu, .ref tr, .ref co, .ref lo, .ref pk])), (sl, .inl (G.2.1, 1024, .inl (upd (upd (upd (upd fl 0 0) 1 0) 2 0) 3 0))), (sh, .inl (G.2.1, 1024, .inl (upd (upd (upd (upd fh 0 255) 1 255) 2 1023) 3 3))), (sa, .inl (G.2.1, 256, .inl (upd fa 0 268435456))), (su, .inr (4, [.ref wa, .ref sl, .ref sh, .ref sa, .int 1])), (wa, .inr (6, [.ref ro, .int 0, .int 0])), (nw, .inr (8, [.int 0, .int 0, .ref vd, .ref lw, .ref hg, .ref (u2 0)])), (mm, .inr (9, [.int 0, .ref nw, .ref cq, .ref hi, .int 0, .ref ko, .ref se, .int 0, .ref nf, .ref ns, .ref pi]))] := hD
  refine W.eq (g2 := F0 m 715 ls [.int 0, .int 0]) rfl ?_
  refine lv_icmp_eq (tgt := 1748) hx hb dL_law_715 (by decide) (fun _ => ?_) (fun h9 => absurd (by decide) h9)
  exact z_lawend hx hb hr hml hown hts hX hbl hlocks hl0 hA hA2 hbA hE (Nat.le_of_ble_eq_true rfl) (Nat.le_of_ble_eq_true rfl) hS (lv_sub hl [0, 4] rfl)

set_option maxHeartbeats 4000000 in
set_option maxRecDepth 100000 in
theorem z_case14 {p : Program} {l : Launch} {e : Env} {s : State} {m : MethodId} {below : List Frame} {meth : Method} {c : Code} {A : Nat → Prop} {H : Heap} {locs : List Loc} {ls : Array Slot} {G : zG} {b : Nat} {xs : Nat → Int32} (hx : p.tables.exec = Jvm.exec) (hb : c.code = code) (hr : meth.sig.returnType = ret) (hml : c.maxLocals = 9) (hown : s.vm.findClass RL = some m.cls) (hts : ∀ w ∈ wsL_law, w.before #[Value.ref b] s = true) (hX : va_X b 5 xs s s.heap) (hbl : b < s.heap.size) (hlocks : meth.locks = false) (hl0 : l.stackTraces = false) (hA : ∀ q : Nat, s.heap.size ≤ q → A q) (hA2 : ∀ q : Nat, A q → s.heap.size ≤ q) (hbA : ¬ A b) (hE : zZ G A s s.heap) {x : Nat} {wa : Nat} {wb : Nat} {su : Nat} {cu : Nat} {tr : Nat} {co : Nat} {lo : Nat} {pk : Nat} {ro : Nat} {ou : Nat} {mm : Nat} {nw : Nat} {cq : Nat} {hi : Nat} {ko : Nat} {se : Nat} {nf : Nat} {ns : Nat} {pi : Nat} {vd : Nat} {lw : Nat} {hg : Nat} {rk : Nat} (hP : va_P G.1 vwCl [(x, .inr (7, [.ref wa, .ref wb, .ref su, .ref cu, .ref tr, .ref co, .ref lo, .ref pk])), (wa, .inr (6, [.ref ro, .int 0, .int 0])), (mm, .inr (9, [.int 0, .ref nw, .ref cq, .ref hi, .int 0, .ref ko, .ref se, .int 0, .ref nf, .ref ns, .ref pi])), (nw, .inr (8, [.int 0, .int 0, .ref vd, .ref lw, .ref hg, .ref rk]))] H) (hD : va_D A [(x, .inr (7, [.ref wa, .ref wb, .ref su, .ref cu, .ref tr, .ref co, .ref lo, .ref pk])), (wa, .inr (6, [.ref ro, .int 0, .int 0])), (mm, .inr (9, [.int 0, .ref nw, .ref cq, .ref hi, .int 0, .ref ko, .ref se, .int 0, .ref nf, .ref ns, .ref pi])), (nw, .inr (8, [.int 0, .int 0, .ref vd, .ref lw, .ref hg, .ref rk]))]) (hS : va_S A s.heap H locs) (hl : lv_has ls 9 [(4, .int 0), (3, .ref ou), (2, .ref mm), (1, .ref x), (0, .ref b)]) : W p l e room_1 s m #[Value.ref b] below meth c H locs 89 9213 (lw_Z below #[Value.ref b] s) (F0 m 900 ls []) := by
  refine lv_aload_n hx hb dL_law_900 rfl (lv_at hl 3 rfl) ?_
  refine zcall (wr := [(mm, .inr (9, [.int 0, .ref nw, .ref cq, .ref hi, .int 0, .ref ko, .ref se, .int 0, .ref nf, .ref ns, .ref pi])), (nw, .inr (8, [.int 0, .int 0, .ref vd, .ref lw, .ref hg, .ref rk]))]) (va_runV (As := []) (rest := []) ⟨hx, hb, hml, hown, hts⟩ (z_X7_quarrels l G x wa wb su cu tr co lo pk ro H.size) (cwV 0 hts gL_law_X7_quarrels rfl rfl rfl (by decide +kernel) ⟨Nat.le_of_ble_eq_true rfl, Nat.le_of_ble_eq_true rfl⟩) (zPreV (Wc := [(x, .inr (7, [.ref wa, .ref wb, .ref su, .ref cu, .ref tr, .ref co, .ref lo, .ref pk])), (wa, .inr (6, [.ref ro, .int 0, .int 0]))]) (q0 := 0) (ci := 7) (q := (RX7, TX7, 8)) hP hD hE hS hA [0, 1] rfl (by decide) rfl rfl) rfl rfl hl.1 rfl (lv_room (Nat.le_of_ble_eq_true rfl)) dL_law_901 ⟨Nat.le_of_ble_eq_true rfl, Nat.le_of_ble_eq_true rfl⟩) hP hD hS hA [0, 1] [2, 3] rfl rfl (by decide) (by decide) (fun u1 H locs hP hD hS => ?_)
  have hP : va_P G.1 vwCl [(mm, .inr (9, [.int 0, .ref nw, .ref cq, .ref hi, .int 0, .ref ko, .ref se, .int 0, .ref nf, .ref ns, .ref pi])), (nw, .inr (8, [.int 0, .int 0, .ref vd, .ref lw, .ref hg, .ref rk])), (x, .inr (7, [.ref wa, .ref wb, .ref su, .ref cu, .ref tr, .ref co, .ref lo, .ref pk])), (wa, .inr (6, [.ref ro, .int 0, .int 0]))] H := hP
  have hD : va_D A [(mm, .inr (9, [.int 0, .ref nw, .ref cq, .ref hi, .int 0, .ref ko, .ref se, .int 0, .ref nf, .ref ns, .ref pi])), (nw, .inr (8, [.int 0, .int 0, .ref vd, .ref lw, .ref hg, .ref rk])), (x, .inr (7, [.ref wa, .ref wb, .ref su, .ref cu, .ref tr, .ref co, .ref lo, .ref pk])), (wa, .inr (6, [.ref ro, .int 0, .int 0]))] := hD
  refine W.eq (g2 := F0 m 904 ls [.int 0]) rfl ?_
  refine lv_aload_n hx hb dL_law_904 rfl (lv_at hl 2 rfl) ?_
  refine zcall (wr := [(x, .inr (7, [.ref wa, .ref wb, .ref su, .ref cu, .ref tr, .ref co, .ref lo, .ref pk])), (wa, .inr (6, [.ref ro, .int 0, .int 0]))]) (va_runV (As := []) (rest := [.int 0]) ⟨hx, hb, hml, hown, hts⟩ (z_X9_quarrels l G mm nw cq hi ko se nf ns pi 0 vd lw hg rk H.size) (cwV 0 hts gL_law_X9_quarrels rfl rfl rfl (by decide +kernel) ⟨Nat.le_of_ble_eq_true rfl, Nat.le_of_ble_eq_true rfl⟩) (zPreV (Wc := [(mm, .inr (9, [.int 0, .ref nw, .ref cq, .ref hi, .int 0, .ref ko, .ref se, .int 0, .ref nf, .ref ns, .ref pi])), (nw, .inr (8, [.int 0, .int 0, .ref vd, .ref lw, .ref hg, .ref rk]))]) (q0 := 0) (ci := 9) (q := (RX9, TX9, 11)) hP hD hE hS hA [0, 1] rfl (by decide) rfl rfl) rfl rfl hl.1 rfl (lv_room (Nat.le_of_ble_eq_true rfl)) dL_law_905 ⟨Nat.le_of_ble_eq_true rfl, Nat.le_of_ble_eq_true rfl⟩) hP hD hS hA [0, 1] [2, 3] rfl rfl (by decide) (by decide) (fun u2 H locs hP hD hS => ?_)
  have hP : va_P G.1 vwCl [(x, .inr (7, [.ref wa, .ref wb, .ref su, .ref cu, .ref tr, .ref co, .ref lo, .ref pk])), (wa, .inr (6, [.ref ro, .int 0, .int 0])), (nw, .inr (8, [.int 0, .int 0, .ref vd, .ref lw, .ref hg, .ref rk])), (mm, .inr (9, [.int 0, .ref nw, .ref cq, .ref hi, .int 0, .ref ko, .ref se, .int 0, .ref nf, .ref ns, .ref pi]))] H := hP
  have hD : va_D A [(x, .inr (7, [.ref wa, .ref wb, .ref su, .ref cu, .ref tr, .ref co, .ref lo, .ref pk])), (wa, .inr (6, [.ref ro, .int 0, .int 0])), (nw, .inr (8, [.int 0, .int 0, .ref vd, .ref lw, .ref hg, .ref rk])), (mm, .inr (9, [.int 0, .ref nw, .ref cq, .ref hi, .int 0, .ref ko, .ref se, .int 0, .ref nf, .ref ns, .ref pi]))] := hD
  refine W.eq (g2 := F0 m 908 ls [.int 0, .int 0]) rfl ?_
  refine lv_icmp_eq (tgt := 1748) hx hb dL_law_908 (by decide) (fun _ => ?_) (fun h9 => absurd (by decide) h9)
  exact z_lawend hx hb hr hml hown hts hX hbl hlocks hl0 hA hA2 hbA hE (Nat.le_of_ble_eq_true rfl) (Nat.le_of_ble_eq_true rfl) hS (lv_sub hl [0, 4] rfl)
