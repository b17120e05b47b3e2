abbrev b_W_law : ByteArray := code
theorem d_W_law_0 : decode b_W_law 0 = .ok (.new 8, 3) := by decide +kernel
theorem d_W_law_3 : decode b_W_law 3 = .ok (.dup, 1) := by decide +kernel
theorem d_W_law_4 : decode b_W_law 4 = .ok (.invokespecial 90, 3) := by decide +kernel
theorem d_W_law_7 : decode b_W_law 7 = .ok (.astore_n 1, 1) := by decide +kernel
theorem d_W_law_8 : decode b_W_law 8 = .ok (.new 91, 3) := by decide +kernel
theorem d_W_law_11 : decode b_W_law 11 = .ok (.dup, 1) := by decide +kernel
theorem d_W_law_12 : decode b_W_law 12 = .ok (.invokespecial 93, 3) := by decide +kernel
theorem d_W_law_15 : decode b_W_law 15 = .ok (.astore_n 2, 1) := by decide +kernel
theorem d_W_law_16 : decode b_W_law 16 = .ok (.iconst 1, 1) := by decide +kernel
theorem d_W_law_17 : decode b_W_law 17 = .ok (.newarray .long, 2) := by decide +kernel
theorem d_W_law_19 : decode b_W_law 19 = .ok (.astore_n 3, 1) := by decide +kernel
theorem d_W_law_20 : decode b_W_law 20 = .ok (.iconst 1, 1) := by decide +kernel
theorem d_W_law_21 : decode b_W_law 21 = .ok (.newarray .double, 2) := by decide +kernel
theorem d_W_law_23 : decode b_W_law 23 = .ok (.astore 4, 2) := by decide +kernel
theorem d_W_law_25 : decode b_W_law 25 = .ok (.iconst 0, 1) := by decide +kernel
theorem d_W_law_26 : decode b_W_law 26 = .ok (.istore 5, 2) := by decide +kernel
theorem d_W_law_28 : decode b_W_law 28 = .ok (.iload 5, 2) := by decide +kernel
theorem d_W_law_30 : decode b_W_law 30 = .ok (.aload_n 0, 1) := by decide +kernel
theorem d_W_law_31 : decode b_W_law 31 = .ok (.arraylength, 1) := by decide +kernel
theorem d_W_law_32 : decode b_W_law 32 = .ok (.bipush 6, 2) := by decide +kernel
theorem d_W_law_34 : decode b_W_law 34 = .ok (.isub, 1) := by decide +kernel
theorem d_W_law_35 : decode b_W_law 35 = .ok (.if_icmp .gt 1759, 3) := by decide +kernel
theorem d_W_law_38 : decode b_W_law 38 = .ok (.aload_n 0, 1) := by decide +kernel
theorem d_W_law_39 : decode b_W_law 39 = .ok (.iload 5, 2) := by decide +kernel
theorem d_W_law_41 : decode b_W_law 41 = .ok (.iaload, 1) := by decide +kernel
theorem d_W_law_42 : decode b_W_law 42 = .ok (.bipush 31, 2) := by decide +kernel
theorem d_W_law_44 : decode b_W_law 44 = .ok (.iand, 1) := by decide +kernel
theorem d_W_law_45 : decode b_W_law 45 = .ok (.tableswitch 1743 0 21 #[103, 181, 280, 336, 416, 496, 600, 720, 800, 880, 948, 1016, 1096, 1192, 1248, 1304, 1360, 1437, 1526, 1594, 1662, 1718], 103) := by decide +kernel
theorem d_W_law_148 : decode b_W_law 148 = .ok (.aload_n 1, 1) := by decide +kernel
theorem d_W_law_149 : decode b_W_law 149 = .ok (.aload_n 0, 1) := by decide +kernel
theorem d_W_law_150 : decode b_W_law 150 = .ok (.iload 5, 2) := by decide +kernel
theorem d_W_law_152 : decode b_W_law 152 = .ok (.iconst 1, 1) := by decide +kernel
theorem d_W_law_153 : decode b_W_law 153 = .ok (.iadd, 1) := by decide +kernel
theorem d_W_law_154 : decode b_W_law 154 = .ok (.iaload, 1) := by decide +kernel
theorem d_W_law_155 : decode b_W_law 155 = .ok (.aload_n 0, 1) := by decide +kernel
theorem d_W_law_156 : decode b_W_law 156 = .ok (.iload 5, 2) := by decide +kernel
theorem d_W_law_158 : decode b_W_law 158 = .ok (.iconst 2, 1) := by decide +kernel
theorem d_W_law_159 : decode b_W_law 159 = .ok (.iadd, 1) := by decide +kernel
theorem d_W_law_160 : decode b_W_law 160 = .ok (.iaload, 1) := by decide +kernel
theorem d_W_law_161 : decode b_W_law 161 = .ok (.i2d, 1) := by decide +kernel
theorem d_W_law_162 : decode b_W_law 162 = .ok (.ldc2_w 94, 3) := by decide +kernel
theorem d_W_law_165 : decode b_W_law 165 = .ok (.dmul, 1) := by decide +kernel
theorem d_W_law_166 : decode b_W_law 166 = .ok (.aload_n 3, 1) := by decide +kernel
theorem d_W_law_167 : decode b_W_law 167 = .ok (.invokestatic 96, 3) := by decide +kernel
theorem d_W_law_170 : decode b_W_law 170 = .ok (.istore 6, 2) := by decide +kernel
theorem d_W_law_172 : decode b_W_law 172 = .ok (.aload_n 2, 1) := by decide +kernel
theorem d_W_law_173 : decode b_W_law 173 = .ok (.aload_n 0, 1) := by decide +kernel
theorem d_W_law_174 : decode b_W_law 174 = .ok (.iload 5, 2) := by decide +kernel
theorem d_W_law_176 : decode b_W_law 176 = .ok (.iconst 1, 1) := by decide +kernel
theorem d_W_law_177 : decode b_W_law 177 = .ok (.iadd, 1) := by decide +kernel
theorem d_W_law_178 : decode b_W_law 178 = .ok (.iaload, 1) := by decide +kernel
theorem d_W_law_179 : decode b_W_law 179 = .ok (.aload_n 0, 1) := by decide +kernel
theorem d_W_law_180 : decode b_W_law 180 = .ok (.iload 5, 2) := by decide +kernel
theorem d_W_law_182 : decode b_W_law 182 = .ok (.iconst 2, 1) := by decide +kernel
theorem d_W_law_183 : decode b_W_law 183 = .ok (.iadd, 1) := by decide +kernel
theorem d_W_law_184 : decode b_W_law 184 = .ok (.iaload, 1) := by decide +kernel
theorem d_W_law_185 : decode b_W_law 185 = .ok (.i2d, 1) := by decide +kernel
theorem d_W_law_186 : decode b_W_law 186 = .ok (.ldc2_w 94, 3) := by decide +kernel
theorem d_W_law_189 : decode b_W_law 189 = .ok (.dmul, 1) := by decide +kernel
theorem d_W_law_190 : decode b_W_law 190 = .ok (.invokevirtual 101, 3) := by decide +kernel
theorem d_W_law_193 : decode b_W_law 193 = .ok (.istore 7, 2) := by decide +kernel
theorem d_W_law_195 : decode b_W_law 195 = .ok (.aload_n 2, 1) := by decide +kernel
theorem d_W_law_196 : decode b_W_law 196 = .ok (.invokevirtual 102, 3) := by decide +kernel
theorem d_W_law_199 : decode b_W_law 199 = .ok (.iload 6, 2) := by decide +kernel
theorem d_W_law_201 : decode b_W_law 201 = .ok (.if_icmp .eq 5, 3) := by decide +kernel
theorem d_W_law_204 : decode b_W_law 204 = .ok (.iconst 0, 1) := by decide +kernel
theorem d_W_law_205 : decode b_W_law 205 = .ok (.ireturn, 1) := by decide +kernel
theorem d_W_law_206 : decode b_W_law 206 = .ok (.iload 6, 2) := by decide +kernel
theorem d_W_law_208 : decode b_W_law 208 = .ok (.ifCond .ne 15, 3) := by decide +kernel
theorem d_W_law_211 : decode b_W_law 211 = .ok (.aload_n 3, 1) := by decide +kernel
theorem d_W_law_212 : decode b_W_law 212 = .ok (.iconst 0, 1) := by decide +kernel
theorem d_W_law_213 : decode b_W_law 213 = .ok (.laload, 1) := by decide +kernel
theorem d_W_law_214 : decode b_W_law 214 = .ok (.iload 7, 2) := by decide +kernel
theorem d_W_law_216 : decode b_W_law 216 = .ok (.i2l, 1) := by decide +kernel
theorem d_W_law_217 : decode b_W_law 217 = .ok (.lcmp, 1) := by decide +kernel
theorem d_W_law_218 : decode b_W_law 218 = .ok (.ifCond .eq 5, 3) := by decide +kernel
theorem d_W_law_221 : decode b_W_law 221 = .ok (.iconst 0, 1) := by decide +kernel
theorem d_W_law_222 : decode b_W_law 222 = .ok (.ireturn, 1) := by decide +kernel
theorem d_W_law_223 : decode b_W_law 223 = .ok (.goto 1565, 3) := by decide +kernel
theorem d_W_law_226 : decode b_W_law 226 = .ok (.aload_n 1, 1) := by decide +kernel
theorem d_W_law_227 : decode b_W_law 227 = .ok (.aload_n 0, 1) := by decide +kernel
theorem d_W_law_228 : decode b_W_law 228 = .ok (.iload 5, 2) := by decide +kernel
theorem d_W_law_230 : decode b_W_law 230 = .ok (.iconst 1, 1) := by decide +kernel
theorem d_W_law_231 : decode b_W_law 231 = .ok (.iadd, 1) := by decide +kernel
theorem d_W_law_232 : decode b_W_law 232 = .ok (.iaload, 1) := by decide +kernel
theorem d_W_law_233 : decode b_W_law 233 = .ok (.aload_n 0, 1) := by decide +kernel
theorem d_W_law_234 : decode b_W_law 234 = .ok (.iload 5, 2) := by decide +kernel
theorem d_W_law_236 : decode b_W_law 236 = .ok (.iconst 2, 1) := by decide +kernel
theorem d_W_law_237 : decode b_W_law 237 = .ok (.iadd, 1) := by decide +kernel
theorem d_W_law_238 : decode b_W_law 238 = .ok (.iaload, 1) := by decide +kernel
theorem d_W_law_239 : decode b_W_law 239 = .ok (.i2d, 1) := by decide +kernel
theorem d_W_law_240 : decode b_W_law 240 = .ok (.ldc2_w 94, 3) := by decide +kernel
theorem d_W_law_243 : decode b_W_law 243 = .ok (.dmul, 1) := by decide +kernel
theorem d_W_law_244 : decode b_W_law 244 = .ok (.aload 4, 2) := by decide +kernel
theorem d_W_law_246 : decode b_W_law 246 = .ok (.invokestatic 106, 3) := by decide +kernel
theorem d_W_law_249 : decode b_W_law 249 = .ok (.istore 6, 2) := by decide +kernel
theorem d_W_law_251 : decode b_W_law 251 = .ok (.aload_n 2, 1) := by decide +kernel
theorem d_W_law_252 : decode b_W_law 252 = .ok (.aload_n 0, 1) := by decide +kernel
theorem d_W_law_253 : decode b_W_law 253 = .ok (.iload 5, 2) := by decide +kernel
theorem d_W_law_255 : decode b_W_law 255 = .ok (.iconst 1, 1) := by decide +kernel
theorem d_W_law_256 : decode b_W_law 256 = .ok (.iadd, 1) := by decide +kernel
theorem d_W_law_257 : decode b_W_law 257 = .ok (.iaload, 1) := by decide +kernel
theorem d_W_law_258 : decode b_W_law 258 = .ok (.aload_n 0, 1) := by decide +kernel
theorem d_W_law_259 : decode b_W_law 259 = .ok (.iload 5, 2) := by decide +kernel
theorem d_W_law_261 : decode b_W_law 261 = .ok (.iconst 2, 1) := by decide +kernel
theorem d_W_law_262 : decode b_W_law 262 = .ok (.iadd, 1) := by decide +kernel
theorem d_W_law_263 : decode b_W_law 263 = .ok (.iaload, 1) := by decide +kernel
theorem d_W_law_264 : decode b_W_law 264 = .ok (.i2d, 1) := by decide +kernel
theorem d_W_law_265 : decode b_W_law 265 = .ok (.ldc2_w 94, 3) := by decide +kernel
theorem d_W_law_268 : decode b_W_law 268 = .ok (.dmul, 1) := by decide +kernel
theorem d_W_law_269 : decode b_W_law 269 = .ok (.invokevirtual 109, 3) := by decide +kernel
theorem d_W_law_272 : decode b_W_law 272 = .ok (.dstore 7, 2) := by decide +kernel
theorem d_W_law_274 : decode b_W_law 274 = .ok (.aload_n 2, 1) := by decide +kernel
theorem d_W_law_275 : decode b_W_law 275 = .ok (.invokevirtual 102, 3) := by decide +kernel
theorem d_W_law_278 : decode b_W_law 278 = .ok (.iload 6, 2) := by decide +kernel
theorem d_W_law_280 : decode b_W_law 280 = .ok (.if_icmp .eq 5, 3) := by decide +kernel
theorem d_W_law_283 : decode b_W_law 283 = .ok (.iconst 0, 1) := by decide +kernel
theorem d_W_law_284 : decode b_W_law 284 = .ok (.ireturn, 1) := by decide +kernel
theorem d_W_law_285 : decode b_W_law 285 = .ok (.iload 6, 2) := by decide +kernel
theorem d_W_law_287 : decode b_W_law 287 = .ok (.ifCond .ne 35, 3) := by decide +kernel
theorem d_W_law_290 : decode b_W_law 290 = .ok (.aload 4, 2) := by decide +kernel
theorem d_W_law_292 : decode b_W_law 292 = .ok (.iconst 0, 1) := by decide +kernel
theorem d_W_law_293 : decode b_W_law 293 = .ok (.daload, 1) := by decide +kernel
theorem d_W_law_294 : decode b_W_law 294 = .ok (.dload 7, 2) := by decide +kernel
theorem d_W_law_296 : decode b_W_law 296 = .ok (.dcmp .l, 1) := by decide +kernel
theorem d_W_law_297 : decode b_W_law 297 = .ok (.ifCond .eq 25, 3) := by decide +kernel
theorem d_W_law_300 : decode b_W_law 300 = .ok (.aload 4, 2) := by decide +kernel
theorem d_W_law_302 : decode b_W_law 302 = .ok (.iconst 0, 1) := by decide +kernel
theorem d_W_law_303 : decode b_W_law 303 = .ok (.daload, 1) := by decide +kernel
theorem d_W_law_304 : decode b_W_law 304 = .ok (.aload 4, 2) := by decide +kernel
theorem d_W_law_306 : decode b_W_law 306 = .ok (.iconst 0, 1) := by decide +kernel
theorem d_W_law_307 : decode b_W_law 307 = .ok (.daload, 1) := by decide +kernel
theorem d_W_law_308 : decode b_W_law 308 = .ok (.dcmp .l, 1) := by decide +kernel
theorem d_W_law_309 : decode b_W_law 309 = .ok (.ifCond .eq 11, 3) := by decide +kernel
theorem d_W_law_312 : decode b_W_law 312 = .ok (.dload 7, 2) := by decide +kernel
theorem d_W_law_314 : decode b_W_law 314 = .ok (.dload 7, 2) := by decide +kernel
theorem d_W_law_316 : decode b_W_law 316 = .ok (.dcmp .l, 1) := by decide +kernel
theorem d_W_law_317 : decode b_W_law 317 = .ok (.ifCond .ne 5, 3) := by decide +kernel
theorem d_W_law_320 : decode b_W_law 320 = .ok (.iconst 0, 1) := by decide +kernel
theorem d_W_law_321 : decode b_W_law 321 = .ok (.ireturn, 1) := by decide +kernel
theorem d_W_law_322 : decode b_W_law 322 = .ok (.goto 1466, 3) := by decide +kernel
theorem d_W_law_325 : decode b_W_law 325 = .ok (.aload_n 1, 1) := by decide +kernel
theorem d_W_law_326 : decode b_W_law 326 = .ok (.aload_n 0, 1) := by decide +kernel
theorem d_W_law_327 : decode b_W_law 327 = .ok (.iload 5, 2) := by decide +kernel
theorem d_W_law_329 : decode b_W_law 329 = .ok (.iconst 1, 1) := by decide +kernel
theorem d_W_law_330 : decode b_W_law 330 = .ok (.iadd, 1) := by decide +kernel
theorem d_W_law_331 : decode b_W_law 331 = .ok (.iaload, 1) := by decide +kernel
theorem d_W_law_332 : decode b_W_law 332 = .ok (.aload_n 3, 1) := by decide +kernel
theorem d_W_law_333 : decode b_W_law 333 = .ok (.invokestatic 110, 3) := by decide +kernel
theorem d_W_law_336 : decode b_W_law 336 = .ok (.istore 6, 2) := by decide +kernel
theorem d_W_law_338 : decode b_W_law 338 = .ok (.aload_n 2, 1) := by decide +kernel
theorem d_W_law_339 : decode b_W_law 339 = .ok (.aload_n 0, 1) := by decide +kernel
theorem d_W_law_340 : decode b_W_law 340 = .ok (.iload 5, 2) := by decide +kernel
theorem d_W_law_342 : decode b_W_law 342 = .ok (.iconst 1, 1) := by decide +kernel
theorem d_W_law_343 : decode b_W_law 343 = .ok (.iadd, 1) := by decide +kernel
theorem d_W_law_344 : decode b_W_law 344 = .ok (.iaload, 1) := by decide +kernel
theorem d_W_law_345 : decode b_W_law 345 = .ok (.invokevirtual 113, 3) := by decide +kernel
theorem d_W_law_348 : decode b_W_law 348 = .ok (.istore 7, 2) := by decide +kernel
theorem d_W_law_350 : decode b_W_law 350 = .ok (.aload_n 2, 1) := by decide +kernel
theorem d_W_law_351 : decode b_W_law 351 = .ok (.invokevirtual 102, 3) := by decide +kernel
theorem d_W_law_354 : decode b_W_law 354 = .ok (.iload 6, 2) := by decide +kernel
theorem d_W_law_356 : decode b_W_law 356 = .ok (.if_icmp .eq 5, 3) := by decide +kernel
theorem d_W_law_359 : decode b_W_law 359 = .ok (.iconst 0, 1) := by decide +kernel
theorem d_W_law_360 : decode b_W_law 360 = .ok (.ireturn, 1) := by decide +kernel
theorem d_W_law_361 : decode b_W_law 361 = .ok (.iload 6, 2) := by decide +kernel
theorem d_W_law_363 : decode b_W_law 363 = .ok (.ifCond .ne 15, 3) := by decide +kernel
theorem d_W_law_366 : decode b_W_law 366 = .ok (.aload_n 3, 1) := by decide +kernel
theorem d_W_law_367 : decode b_W_law 367 = .ok (.iconst 0, 1) := by decide +kernel
theorem d_W_law_368 : decode b_W_law 368 = .ok (.laload, 1) := by decide +kernel
theorem d_W_law_369 : decode b_W_law 369 = .ok (.iload 7, 2) := by decide +kernel
theorem d_W_law_371 : decode b_W_law 371 = .ok (.i2l, 1) := by decide +kernel
theorem d_W_law_372 : decode b_W_law 372 = .ok (.lcmp, 1) := by decide +kernel
theorem d_W_law_373 : decode b_W_law 373 = .ok (.ifCond .eq 5, 3) := by decide +kernel
theorem d_W_law_376 : decode b_W_law 376 = .ok (.iconst 0, 1) := by decide +kernel
theorem d_W_law_377 : decode b_W_law 377 = .ok (.ireturn, 1) := by decide +kernel
theorem d_W_law_378 : decode b_W_law 378 = .ok (.goto 1410, 3) := by decide +kernel
theorem d_W_law_381 : decode b_W_law 381 = .ok (.aload_n 1, 1) := by decide +kernel
theorem d_W_law_382 : decode b_W_law 382 = .ok (.aload_n 0, 1) := by decide +kernel
theorem d_W_law_383 : decode b_W_law 383 = .ok (.iload 5, 2) := by decide +kernel
theorem d_W_law_385 : decode b_W_law 385 = .ok (.iconst 1, 1) := by decide +kernel
theorem d_W_law_386 : decode b_W_law 386 = .ok (.iadd, 1) := by decide +kernel
theorem d_W_law_387 : decode b_W_law 387 = .ok (.iaload, 1) := by decide +kernel
theorem d_W_law_388 : decode b_W_law 388 = .ok (.aload_n 0, 1) := by decide +kernel
theorem d_W_law_389 : decode b_W_law 389 = .ok (.iload 5, 2) := by decide +kernel
theorem d_W_law_391 : decode b_W_law 391 = .ok (.iconst 2, 1) := by decide +kernel
theorem d_W_law_392 : decode b_W_law 392 = .ok (.iadd, 1) := by decide +kernel
theorem d_W_law_393 : decode b_W_law 393 = .ok (.iaload, 1) := by decide +kernel
theorem d_W_law_394 : decode b_W_law 394 = .ok (.aload_n 0, 1) := by decide +kernel
theorem d_W_law_395 : decode b_W_law 395 = .ok (.iload 5, 2) := by decide +kernel
theorem d_W_law_397 : decode b_W_law 397 = .ok (.iconst 3, 1) := by decide +kernel
theorem d_W_law_398 : decode b_W_law 398 = .ok (.iadd, 1) := by decide +kernel
theorem d_W_law_399 : decode b_W_law 399 = .ok (.iaload, 1) := by decide +kernel
theorem d_W_law_400 : decode b_W_law 400 = .ok (.aload_n 3, 1) := by decide +kernel
theorem d_W_law_401 : decode b_W_law 401 = .ok (.invokestatic 114, 3) := by decide +kernel
theorem d_W_law_404 : decode b_W_law 404 = .ok (.istore 6, 2) := by decide +kernel
theorem d_W_law_406 : decode b_W_law 406 = .ok (.aload_n 2, 1) := by decide +kernel
theorem d_W_law_407 : decode b_W_law 407 = .ok (.aload_n 0, 1) := by decide +kernel
theorem d_W_law_408 : decode b_W_law 408 = .ok (.iload 5, 2) := by decide +kernel
theorem d_W_law_410 : decode b_W_law 410 = .ok (.iconst 1, 1) := by decide +kernel
theorem d_W_law_411 : decode b_W_law 411 = .ok (.iadd, 1) := by decide +kernel
theorem d_W_law_412 : decode b_W_law 412 = .ok (.iaload, 1) := by decide +kernel
theorem d_W_law_413 : decode b_W_law 413 = .ok (.aload_n 0, 1) := by decide +kernel
theorem d_W_law_414 : decode b_W_law 414 = .ok (.iload 5, 2) := by decide +kernel
theorem d_W_law_416 : decode b_W_law 416 = .ok (.iconst 2, 1) := by decide +kernel
theorem d_W_law_417 : decode b_W_law 417 = .ok (.iadd, 1) := by decide +kernel
theorem d_W_law_418 : decode b_W_law 418 = .ok (.iaload, 1) := by decide +kernel
theorem d_W_law_419 : decode b_W_law 419 = .ok (.aload_n 0, 1) := by decide +kernel
theorem d_W_law_420 : decode b_W_law 420 = .ok (.iload 5, 2) := by decide +kernel
theorem d_W_law_422 : decode b_W_law 422 = .ok (.iconst 3, 1) := by decide +kernel
theorem d_W_law_423 : decode b_W_law 423 = .ok (.iadd, 1) := by decide +kernel
theorem d_W_law_424 : decode b_W_law 424 = .ok (.iaload, 1) := by decide +kernel
theorem d_W_law_425 : decode b_W_law 425 = .ok (.invokevirtual 117, 3) := by decide +kernel
theorem d_W_law_428 : decode b_W_law 428 = .ok (.istore 7, 2) := by decide +kernel
theorem d_W_law_430 : decode b_W_law 430 = .ok (.aload_n 2, 1) := by decide +kernel
theorem d_W_law_431 : decode b_W_law 431 = .ok (.invokevirtual 102, 3) := by decide +kernel
theorem d_W_law_434 : decode b_W_law 434 = .ok (.iload 6, 2) := by decide +kernel
theorem d_W_law_436 : decode b_W_law 436 = .ok (.if_icmp .eq 5, 3) := by decide +kernel
theorem d_W_law_439 : decode b_W_law 439 = .ok (.iconst 0, 1) := by decide +kernel
theorem d_W_law_440 : decode b_W_law 440 = .ok (.ireturn, 1) := by decide +kernel
theorem d_W_law_441 : decode b_W_law 441 = .ok (.iload 6, 2) := by decide +kernel
theorem d_W_law_443 : decode b_W_law 443 = .ok (.ifCond .ne 15, 3) := by decide +kernel
theorem d_W_law_446 : decode b_W_law 446 = .ok (.aload_n 3, 1) := by decide +kernel
theorem d_W_law_447 : decode b_W_law 447 = .ok (.iconst 0, 1) := by decide +kernel
theorem d_W_law_448 : decode b_W_law 448 = .ok (.laload, 1) := by decide +kernel
theorem d_W_law_449 : decode b_W_law 449 = .ok (.iload 7, 2) := by decide +kernel
theorem d_W_law_451 : decode b_W_law 451 = .ok (.i2l, 1) := by decide +kernel
theorem d_W_law_452 : decode b_W_law 452 = .ok (.lcmp, 1) := by decide +kernel
theorem d_W_law_453 : decode b_W_law 453 = .ok (.ifCond .eq 5, 3) := by decide +kernel
theorem d_W_law_456 : decode b_W_law 456 = .ok (.iconst 0, 1) := by decide +kernel
theorem d_W_law_457 : decode b_W_law 457 = .ok (.ireturn, 1) := by decide +kernel
theorem d_W_law_458 : decode b_W_law 458 = .ok (.goto 1330, 3) := by decide +kernel
theorem d_W_law_461 : decode b_W_law 461 = .ok (.aload_n 1, 1) := by decide +kernel
theorem d_W_law_462 : decode b_W_law 462 = .ok (.aload_n 0, 1) := by decide +kernel
theorem d_W_law_463 : decode b_W_law 463 = .ok (.iload 5, 2) := by decide +kernel
theorem d_W_law_465 : decode b_W_law 465 = .ok (.iconst 1, 1) := by decide +kernel
theorem d_W_law_466 : decode b_W_law 466 = .ok (.iadd, 1) := by decide +kernel
theorem d_W_law_467 : decode b_W_law 467 = .ok (.iaload, 1) := by decide +kernel
theorem d_W_law_468 : decode b_W_law 468 = .ok (.aload_n 0, 1) := by decide +kernel
theorem d_W_law_469 : decode b_W_law 469 = .ok (.iload 5, 2) := by decide +kernel
theorem d_W_law_471 : decode b_W_law 471 = .ok (.iconst 2, 1) := by decide +kernel
theorem d_W_law_472 : decode b_W_law 472 = .ok (.iadd, 1) := by decide +kernel
theorem d_W_law_473 : decode b_W_law 473 = .ok (.iaload, 1) := by decide +kernel
theorem d_W_law_474 : decode b_W_law 474 = .ok (.aload_n 0, 1) := by decide +kernel
theorem d_W_law_475 : decode b_W_law 475 = .ok (.iload 5, 2) := by decide +kernel
theorem d_W_law_477 : decode b_W_law 477 = .ok (.iconst 3, 1) := by decide +kernel
theorem d_W_law_478 : decode b_W_law 478 = .ok (.iadd, 1) := by decide +kernel
theorem d_W_law_479 : decode b_W_law 479 = .ok (.iaload, 1) := by decide +kernel
theorem d_W_law_480 : decode b_W_law 480 = .ok (.aload_n 3, 1) := by decide +kernel
theorem d_W_law_481 : decode b_W_law 481 = .ok (.invokestatic 118, 3) := by decide +kernel
theorem d_W_law_484 : decode b_W_law 484 = .ok (.istore 6, 2) := by decide +kernel
theorem d_W_law_486 : decode b_W_law 486 = .ok (.aload_n 2, 1) := by decide +kernel
theorem d_W_law_487 : decode b_W_law 487 = .ok (.aload_n 0, 1) := by decide +kernel
theorem d_W_law_488 : decode b_W_law 488 = .ok (.iload 5, 2) := by decide +kernel
theorem d_W_law_490 : decode b_W_law 490 = .ok (.iconst 1, 1) := by decide +kernel
theorem d_W_law_491 : decode b_W_law 491 = .ok (.iadd, 1) := by decide +kernel
theorem d_W_law_492 : decode b_W_law 492 = .ok (.iaload, 1) := by decide +kernel
theorem d_W_law_493 : decode b_W_law 493 = .ok (.aload_n 0, 1) := by decide +kernel
theorem d_W_law_494 : decode b_W_law 494 = .ok (.iload 5, 2) := by decide +kernel
theorem d_W_law_496 : decode b_W_law 496 = .ok (.iconst 2, 1) := by decide +kernel
theorem d_W_law_497 : decode b_W_law 497 = .ok (.iadd, 1) := by decide +kernel
theorem d_W_law_498 : decode b_W_law 498 = .ok (.iaload, 1) := by decide +kernel
theorem d_W_law_499 : decode b_W_law 499 = .ok (.aload_n 0, 1) := by decide +kernel
theorem d_W_law_500 : decode b_W_law 500 = .ok (.iload 5, 2) := by decide +kernel
theorem d_W_law_502 : decode b_W_law 502 = .ok (.iconst 3, 1) := by decide +kernel
theorem d_W_law_503 : decode b_W_law 503 = .ok (.iadd, 1) := by decide +kernel
theorem d_W_law_504 : decode b_W_law 504 = .ok (.iaload, 1) := by decide +kernel
theorem d_W_law_505 : decode b_W_law 505 = .ok (.invokevirtual 120, 3) := by decide +kernel
theorem d_W_law_508 : decode b_W_law 508 = .ok (.istore 7, 2) := by decide +kernel
theorem d_W_law_510 : decode b_W_law 510 = .ok (.aload_n 2, 1) := by decide +kernel
theorem d_W_law_511 : decode b_W_law 511 = .ok (.invokevirtual 102, 3) := by decide +kernel
theorem d_W_law_514 : decode b_W_law 514 = .ok (.iload 6, 2) := by decide +kernel
theorem d_W_law_516 : decode b_W_law 516 = .ok (.if_icmp .eq 5, 3) := by decide +kernel
theorem d_W_law_519 : decode b_W_law 519 = .ok (.iconst 0, 1) := by decide +kernel
theorem d_W_law_520 : decode b_W_law 520 = .ok (.ireturn, 1) := by decide +kernel
theorem d_W_law_521 : decode b_W_law 521 = .ok (.iload 6, 2) := by decide +kernel
theorem d_W_law_523 : decode b_W_law 523 = .ok (.ifCond .ne 15, 3) := by decide +kernel
theorem d_W_law_526 : decode b_W_law 526 = .ok (.aload_n 3, 1) := by decide +kernel
theorem d_W_law_527 : decode b_W_law 527 = .ok (.iconst 0, 1) := by decide +kernel
theorem d_W_law_528 : decode b_W_law 528 = .ok (.laload, 1) := by decide +kernel
theorem d_W_law_529 : decode b_W_law 529 = .ok (.iload 7, 2) := by decide +kernel
theorem d_W_law_531 : decode b_W_law 531 = .ok (.i2l, 1) := by decide +kernel
theorem d_W_law_532 : decode b_W_law 532 = .ok (.lcmp, 1) := by decide +kernel
theorem d_W_law_533 : decode b_W_law 533 = .ok (.ifCond .eq 5, 3) := by decide +kernel
theorem d_W_law_536 : decode b_W_law 536 = .ok (.iconst 0, 1) := by decide +kernel
theorem d_W_law_537 : decode b_W_law 537 = .ok (.ireturn, 1) := by decide +kernel
theorem d_W_law_538 : decode b_W_law 538 = .ok (.goto 1250, 3) := by decide +kernel
theorem d_W_law_541 : decode b_W_law 541 = .ok (.aload_n 1, 1) := by decide +kernel
theorem d_W_law_542 : decode b_W_law 542 = .ok (.aload_n 0, 1) := by decide +kernel
theorem d_W_law_543 : decode b_W_law 543 = .ok (.iload 5, 2) := by decide +kernel
theorem d_W_law_545 : decode b_W_law 545 = .ok (.iconst 1, 1) := by decide +kernel
theorem d_W_law_546 : decode b_W_law 546 = .ok (.iadd, 1) := by decide +kernel
theorem d_W_law_547 : decode b_W_law 547 = .ok (.iaload, 1) := by decide +kernel
theorem d_W_law_548 : decode b_W_law 548 = .ok (.aload_n 0, 1) := by decide +kernel
theorem d_W_law_549 : decode b_W_law 549 = .ok (.iload 5, 2) := by decide +kernel
theorem d_W_law_551 : decode b_W_law 551 = .ok (.iconst 2, 1) := by decide +kernel
theorem d_W_law_552 : decode b_W_law 552 = .ok (.iadd, 1) := by decide +kernel
theorem d_W_law_553 : decode b_W_law 553 = .ok (.iaload, 1) := by decide +kernel
theorem d_W_law_554 : decode b_W_law 554 = .ok (.aload_n 0, 1) := by decide +kernel
theorem d_W_law_555 : decode b_W_law 555 = .ok (.iload 5, 2) := by decide +kernel
theorem d_W_law_557 : decode b_W_law 557 = .ok (.iconst 3, 1) := by decide +kernel
theorem d_W_law_558 : decode b_W_law 558 = .ok (.iadd, 1) := by decide +kernel
theorem d_W_law_559 : decode b_W_law 559 = .ok (.iaload, 1) := by decide +kernel
theorem d_W_law_560 : decode b_W_law 560 = .ok (.aload_n 0, 1) := by decide +kernel
theorem d_W_law_561 : decode b_W_law 561 = .ok (.iload 5, 2) := by decide +kernel
theorem d_W_law_563 : decode b_W_law 563 = .ok (.iconst 4, 1) := by decide +kernel
theorem d_W_law_564 : decode b_W_law 564 = .ok (.iadd, 1) := by decide +kernel
theorem d_W_law_565 : decode b_W_law 565 = .ok (.iaload, 1) := by decide +kernel
theorem d_W_law_566 : decode b_W_law 566 = .ok (.aload_n 0, 1) := by decide +kernel
theorem d_W_law_567 : decode b_W_law 567 = .ok (.iload 5, 2) := by decide +kernel
theorem d_W_law_569 : decode b_W_law 569 = .ok (.iconst 5, 1) := by decide +kernel
theorem d_W_law_570 : decode b_W_law 570 = .ok (.iadd, 1) := by decide +kernel
theorem d_W_law_571 : decode b_W_law 571 = .ok (.iaload, 1) := by decide +kernel
theorem d_W_law_572 : decode b_W_law 572 = .ok (.aload_n 3, 1) := by decide +kernel
theorem d_W_law_573 : decode b_W_law 573 = .ok (.invokestatic 121, 3) := by decide +kernel
theorem d_W_law_576 : decode b_W_law 576 = .ok (.istore 6, 2) := by decide +kernel
theorem d_W_law_578 : decode b_W_law 578 = .ok (.aload_n 2, 1) := by decide +kernel
theorem d_W_law_579 : decode b_W_law 579 = .ok (.aload_n 0, 1) := by decide +kernel
theorem d_W_law_580 : decode b_W_law 580 = .ok (.iload 5, 2) := by decide +kernel
theorem d_W_law_582 : decode b_W_law 582 = .ok (.iconst 1, 1) := by decide +kernel
theorem d_W_law_583 : decode b_W_law 583 = .ok (.iadd, 1) := by decide +kernel
theorem d_W_law_584 : decode b_W_law 584 = .ok (.iaload, 1) := by decide +kernel
theorem d_W_law_585 : decode b_W_law 585 = .ok (.aload_n 0, 1) := by decide +kernel
theorem d_W_law_586 : decode b_W_law 586 = .ok (.iload 5, 2) := by decide +kernel
theorem d_W_law_588 : decode b_W_law 588 = .ok (.iconst 2, 1) := by decide +kernel
theorem d_W_law_589 : decode b_W_law 589 = .ok (.iadd, 1) := by decide +kernel
theorem d_W_law_590 : decode b_W_law 590 = .ok (.iaload, 1) := by decide +kernel
theorem d_W_law_591 : decode b_W_law 591 = .ok (.aload_n 0, 1) := by decide +kernel
theorem d_W_law_592 : decode b_W_law 592 = .ok (.iload 5, 2) := by decide +kernel
theorem d_W_law_594 : decode b_W_law 594 = .ok (.iconst 3, 1) := by decide +kernel
theorem d_W_law_595 : decode b_W_law 595 = .ok (.iadd, 1) := by decide +kernel
theorem d_W_law_596 : decode b_W_law 596 = .ok (.iaload, 1) := by decide +kernel
theorem d_W_law_597 : decode b_W_law 597 = .ok (.aload_n 0, 1) := by decide +kernel
theorem d_W_law_598 : decode b_W_law 598 = .ok (.iload 5, 2) := by decide +kernel
theorem d_W_law_600 : decode b_W_law 600 = .ok (.iconst 4, 1) := by decide +kernel
theorem d_W_law_601 : decode b_W_law 601 = .ok (.iadd, 1) := by decide +kernel
theorem d_W_law_602 : decode b_W_law 602 = .ok (.iaload, 1) := by decide +kernel
theorem d_W_law_603 : decode b_W_law 603 = .ok (.aload_n 0, 1) := by decide +kernel
theorem d_W_law_604 : decode b_W_law 604 = .ok (.iload 5, 2) := by decide +kernel
theorem d_W_law_606 : decode b_W_law 606 = .ok (.iconst 5, 1) := by decide +kernel
theorem d_W_law_607 : decode b_W_law 607 = .ok (.iadd, 1) := by decide +kernel
theorem d_W_law_608 : decode b_W_law 608 = .ok (.iaload, 1) := by decide +kernel
theorem d_W_law_609 : decode b_W_law 609 = .ok (.invokevirtual 124, 3) := by decide +kernel
theorem d_W_law_612 : decode b_W_law 612 = .ok (.istore 7, 2) := by decide +kernel
theorem d_W_law_614 : decode b_W_law 614 = .ok (.aload_n 2, 1) := by decide +kernel
theorem d_W_law_615 : decode b_W_law 615 = .ok (.invokevirtual 102, 3) := by decide +kernel
theorem d_W_law_618 : decode b_W_law 618 = .ok (.iload 6, 2) := by decide +kernel
theorem d_W_law_620 : decode b_W_law 620 = .ok (.if_icmp .eq 5, 3) := by decide +kernel
theorem d_W_law_623 : decode b_W_law 623 = .ok (.iconst 0, 1) := by decide +kernel
theorem d_W_law_624 : decode b_W_law 624 = .ok (.ireturn, 1) := by decide +kernel
theorem d_W_law_625 : decode b_W_law 625 = .ok (.iload 6, 2) := by decide +kernel
theorem d_W_law_627 : decode b_W_law 627 = .ok (.ifCond .ne 15, 3) := by decide +kernel
theorem d_W_law_630 : decode b_W_law 630 = .ok (.aload_n 3, 1) := by decide +kernel
theorem d_W_law_631 : decode b_W_law 631 = .ok (.iconst 0, 1) := by decide +kernel
theorem d_W_law_632 : decode b_W_law 632 = .ok (.laload, 1) := by decide +kernel
theorem d_W_law_633 : decode b_W_law 633 = .ok (.iload 7, 2) := by decide +kernel
theorem d_W_law_635 : decode b_W_law 635 = .ok (.i2l, 1) := by decide +kernel
theorem d_W_law_636 : decode b_W_law 636 = .ok (.lcmp, 1) := by decide +kernel
theorem d_W_law_637 : decode b_W_law 637 = .ok (.ifCond .eq 5, 3) := by decide +kernel
theorem d_W_law_640 : decode b_W_law 640 = .ok (.iconst 0, 1) := by decide +kernel
theorem d_W_law_641 : decode b_W_law 641 = .ok (.ireturn, 1) := by decide +kernel
theorem d_W_law_642 : decode b_W_law 642 = .ok (.goto 1146, 3) := by decide +kernel
theorem d_W_law_645 : decode b_W_law 645 = .ok (.aload_n 1, 1) := by decide +kernel
theorem d_W_law_646 : decode b_W_law 646 = .ok (.aload_n 0, 1) := by decide +kernel
theorem d_W_law_647 : decode b_W_law 647 = .ok (.iload 5, 2) := by decide +kernel
theorem d_W_law_649 : decode b_W_law 649 = .ok (.iconst 1, 1) := by decide +kernel
theorem d_W_law_650 : decode b_W_law 650 = .ok (.iadd, 1) := by decide +kernel
theorem d_W_law_651 : decode b_W_law 651 = .ok (.iaload, 1) := by decide +kernel
theorem d_W_law_652 : decode b_W_law 652 = .ok (.aload_n 0, 1) := by decide +kernel
theorem d_W_law_653 : decode b_W_law 653 = .ok (.iload 5, 2) := by decide +kernel
theorem d_W_law_655 : decode b_W_law 655 = .ok (.iconst 2, 1) := by decide +kernel
theorem d_W_law_656 : decode b_W_law 656 = .ok (.iadd, 1) := by decide +kernel
theorem d_W_law_657 : decode b_W_law 657 = .ok (.iaload, 1) := by decide +kernel
theorem d_W_law_658 : decode b_W_law 658 = .ok (.aload_n 0, 1) := by decide +kernel
theorem d_W_law_659 : decode b_W_law 659 = .ok (.iload 5, 2) := by decide +kernel
theorem d_W_law_661 : decode b_W_law 661 = .ok (.iconst 3, 1) := by decide +kernel
theorem d_W_law_662 : decode b_W_law 662 = .ok (.iadd, 1) := by decide +kernel
theorem d_W_law_663 : decode b_W_law 663 = .ok (.iaload, 1) := by decide +kernel
theorem d_W_law_664 : decode b_W_law 664 = .ok (.aload_n 0, 1) := by decide +kernel
theorem d_W_law_665 : decode b_W_law 665 = .ok (.iload 5, 2) := by decide +kernel
theorem d_W_law_667 : decode b_W_law 667 = .ok (.iconst 4, 1) := by decide +kernel
theorem d_W_law_668 : decode b_W_law 668 = .ok (.iadd, 1) := by decide +kernel
theorem d_W_law_669 : decode b_W_law 669 = .ok (.iaload, 1) := by decide +kernel
theorem d_W_law_670 : decode b_W_law 670 = .ok (.aload_n 0, 1) := by decide +kernel
theorem d_W_law_671 : decode b_W_law 671 = .ok (.iload 5, 2) := by decide +kernel
theorem d_W_law_673 : decode b_W_law 673 = .ok (.iconst 5, 1) := by decide +kernel
theorem d_W_law_674 : decode b_W_law 674 = .ok (.iadd, 1) := by decide +kernel
theorem d_W_law_675 : decode b_W_law 675 = .ok (.iaload, 1) := by decide +kernel
theorem d_W_law_676 : decode b_W_law 676 = .ok (.ifCond .eq 7, 3) := by decide +kernel
theorem d_W_law_679 : decode b_W_law 679 = .ok (.iconst 1, 1) := by decide +kernel
theorem d_W_law_680 : decode b_W_law 680 = .ok (.goto 4, 3) := by decide +kernel
theorem d_W_law_683 : decode b_W_law 683 = .ok (.iconst 0, 1) := by decide +kernel
theorem d_W_law_684 : decode b_W_law 684 = .ok (.aload_n 3, 1) := by decide +kernel
theorem d_W_law_685 : decode b_W_law 685 = .ok (.invokestatic 125, 3) := by decide +kernel
theorem d_W_law_688 : decode b_W_law 688 = .ok (.istore 6, 2) := by decide +kernel
theorem d_W_law_690 : decode b_W_law 690 = .ok (.aload_n 2, 1) := by decide +kernel
theorem d_W_law_691 : decode b_W_law 691 = .ok (.aload_n 0, 1) := by decide +kernel
theorem d_W_law_692 : decode b_W_law 692 = .ok (.iload 5, 2) := by decide +kernel
theorem d_W_law_694 : decode b_W_law 694 = .ok (.iconst 1, 1) := by decide +kernel
theorem d_W_law_695 : decode b_W_law 695 = .ok (.iadd, 1) := by decide +kernel
theorem d_W_law_696 : decode b_W_law 696 = .ok (.iaload, 1) := by decide +kernel
theorem d_W_law_697 : decode b_W_law 697 = .ok (.aload_n 0, 1) := by decide +kernel
theorem d_W_law_698 : decode b_W_law 698 = .ok (.iload 5, 2) := by decide +kernel
theorem d_W_law_700 : decode b_W_law 700 = .ok (.iconst 2, 1) := by decide +kernel
theorem d_W_law_701 : decode b_W_law 701 = .ok (.iadd, 1) := by decide +kernel
theorem d_W_law_702 : decode b_W_law 702 = .ok (.iaload, 1) := by decide +kernel
theorem d_W_law_703 : decode b_W_law 703 = .ok (.aload_n 0, 1) := by decide +kernel
theorem d_W_law_704 : decode b_W_law 704 = .ok (.iload 5, 2) := by decide +kernel
theorem d_W_law_706 : decode b_W_law 706 = .ok (.iconst 3, 1) := by decide +kernel
theorem d_W_law_707 : decode b_W_law 707 = .ok (.iadd, 1) := by decide +kernel
theorem d_W_law_708 : decode b_W_law 708 = .ok (.iaload, 1) := by decide +kernel
theorem d_W_law_709 : decode b_W_law 709 = .ok (.aload_n 0, 1) := by decide +kernel
theorem d_W_law_710 : decode b_W_law 710 = .ok (.iload 5, 2) := by decide +kernel
theorem d_W_law_712 : decode b_W_law 712 = .ok (.iconst 4, 1) := by decide +kernel
theorem d_W_law_713 : decode b_W_law 713 = .ok (.iadd, 1) := by decide +kernel
theorem d_W_law_714 : decode b_W_law 714 = .ok (.iaload, 1) := by decide +kernel
theorem d_W_law_715 : decode b_W_law 715 = .ok (.aload_n 0, 1) := by decide +kernel
theorem d_W_law_716 : decode b_W_law 716 = .ok (.iload 5, 2) := by decide +kernel
theorem d_W_law_718 : decode b_W_law 718 = .ok (.iconst 5, 1) := by decide +kernel
theorem d_W_law_719 : decode b_W_law 719 = .ok (.iadd, 1) := by decide +kernel
theorem d_W_law_720 : decode b_W_law 720 = .ok (.iaload, 1) := by decide +kernel
theorem d_W_law_721 : decode b_W_law 721 = .ok (.ifCond .eq 7, 3) := by decide +kernel
theorem d_W_law_724 : decode b_W_law 724 = .ok (.iconst 1, 1) := by decide +kernel
theorem d_W_law_725 : decode b_W_law 725 = .ok (.goto 4, 3) := by decide +kernel
theorem d_W_law_728 : decode b_W_law 728 = .ok (.iconst 0, 1) := by decide +kernel
theorem d_W_law_729 : decode b_W_law 729 = .ok (.invokevirtual 128, 3) := by decide +kernel
theorem d_W_law_732 : decode b_W_law 732 = .ok (.istore 7, 2) := by decide +kernel
theorem d_W_law_734 : decode b_W_law 734 = .ok (.aload_n 2, 1) := by decide +kernel
theorem d_W_law_735 : decode b_W_law 735 = .ok (.invokevirtual 102, 3) := by decide +kernel
theorem d_W_law_738 : decode b_W_law 738 = .ok (.iload 6, 2) := by decide +kernel
theorem d_W_law_740 : decode b_W_law 740 = .ok (.if_icmp .eq 5, 3) := by decide +kernel
theorem d_W_law_743 : decode b_W_law 743 = .ok (.iconst 0, 1) := by decide +kernel
theorem d_W_law_744 : decode b_W_law 744 = .ok (.ireturn, 1) := by decide +kernel
theorem d_W_law_745 : decode b_W_law 745 = .ok (.iload 6, 2) := by decide +kernel
theorem d_W_law_747 : decode b_W_law 747 = .ok (.ifCond .ne 15, 3) := by decide +kernel
theorem d_W_law_750 : decode b_W_law 750 = .ok (.aload_n 3, 1) := by decide +kernel
theorem d_W_law_751 : decode b_W_law 751 = .ok (.iconst 0, 1) := by decide +kernel
theorem d_W_law_752 : decode b_W_law 752 = .ok (.laload, 1) := by decide +kernel
theorem d_W_law_753 : decode b_W_law 753 = .ok (.iload 7, 2) := by decide +kernel
theorem d_W_law_755 : decode b_W_law 755 = .ok (.i2l, 1) := by decide +kernel
theorem d_W_law_756 : decode b_W_law 756 = .ok (.lcmp, 1) := by decide +kernel
theorem d_W_law_757 : decode b_W_law 757 = .ok (.ifCond .eq 5, 3) := by decide +kernel
theorem d_W_law_760 : decode b_W_law 760 = .ok (.iconst 0, 1) := by decide +kernel
theorem d_W_law_761 : decode b_W_law 761 = .ok (.ireturn, 1) := by decide +kernel
theorem d_W_law_762 : decode b_W_law 762 = .ok (.goto 1026, 3) := by decide +kernel
theorem d_W_law_765 : decode b_W_law 765 = .ok (.aload_n 1, 1) := by decide +kernel
theorem d_W_law_766 : decode b_W_law 766 = .ok (.aload_n 0, 1) := by decide +kernel
theorem d_W_law_767 : decode b_W_law 767 = .ok (.iload 5, 2) := by decide +kernel
theorem d_W_law_769 : decode b_W_law 769 = .ok (.iconst 1, 1) := by decide +kernel
theorem d_W_law_770 : decode b_W_law 770 = .ok (.iadd, 1) := by decide +kernel
theorem d_W_law_771 : decode b_W_law 771 = .ok (.iaload, 1) := by decide +kernel
theorem d_W_law_772 : decode b_W_law 772 = .ok (.aload_n 0, 1) := by decide +kernel
theorem d_W_law_773 : decode b_W_law 773 = .ok (.iload 5, 2) := by decide +kernel
theorem d_W_law_775 : decode b_W_law 775 = .ok (.iconst 2, 1) := by decide +kernel
theorem d_W_law_776 : decode b_W_law 776 = .ok (.iadd, 1) := by decide +kernel
theorem d_W_law_777 : decode b_W_law 777 = .ok (.iaload, 1) := by decide +kernel
theorem d_W_law_778 : decode b_W_law 778 = .ok (.aload_n 0, 1) := by decide +kernel
theorem d_W_law_779 : decode b_W_law 779 = .ok (.iload 5, 2) := by decide +kernel
theorem d_W_law_781 : decode b_W_law 781 = .ok (.iconst 3, 1) := by decide +kernel
theorem d_W_law_782 : decode b_W_law 782 = .ok (.iadd, 1) := by decide +kernel
theorem d_W_law_783 : decode b_W_law 783 = .ok (.iaload, 1) := by decide +kernel
theorem d_W_law_784 : decode b_W_law 784 = .ok (.aload_n 3, 1) := by decide +kernel
theorem d_W_law_785 : decode b_W_law 785 = .ok (.invokestatic 129, 3) := by decide +kernel
theorem d_W_law_788 : decode b_W_law 788 = .ok (.istore 6, 2) := by decide +kernel
theorem d_W_law_790 : decode b_W_law 790 = .ok (.aload_n 2, 1) := by decide +kernel
theorem d_W_law_791 : decode b_W_law 791 = .ok (.aload_n 0, 1) := by decide +kernel
theorem d_W_law_792 : decode b_W_law 792 = .ok (.iload 5, 2) := by decide +kernel
theorem d_W_law_794 : decode b_W_law 794 = .ok (.iconst 1, 1) := by decide +kernel
theorem d_W_law_795 : decode b_W_law 795 = .ok (.iadd, 1) := by decide +kernel
theorem d_W_law_796 : decode b_W_law 796 = .ok (.iaload, 1) := by decide +kernel
theorem d_W_law_797 : decode b_W_law 797 = .ok (.aload_n 0, 1) := by decide +kernel
theorem d_W_law_798 : decode b_W_law 798 = .ok (.iload 5, 2) := by decide +kernel
theorem d_W_law_800 : decode b_W_law 800 = .ok (.iconst 2, 1) := by decide +kernel
theorem d_W_law_801 : decode b_W_law 801 = .ok (.iadd, 1) := by decide +kernel
theorem d_W_law_802 : decode b_W_law 802 = .ok (.iaload, 1) := by decide +kernel
theorem d_W_law_803 : decode b_W_law 803 = .ok (.aload_n 0, 1) := by decide +kernel
theorem d_W_law_804 : decode b_W_law 804 = .ok (.iload 5, 2) := by decide +kernel
theorem d_W_law_806 : decode b_W_law 806 = .ok (.iconst 3, 1) := by decide +kernel
theorem d_W_law_807 : decode b_W_law 807 = .ok (.iadd, 1) := by decide +kernel
theorem d_W_law_808 : decode b_W_law 808 = .ok (.iaload, 1) := by decide +kernel
theorem d_W_law_809 : decode b_W_law 809 = .ok (.invokevirtual 131, 3) := by decide +kernel
theorem d_W_law_812 : decode b_W_law 812 = .ok (.istore 7, 2) := by decide +kernel
theorem d_W_law_814 : decode b_W_law 814 = .ok (.aload_n 2, 1) := by decide +kernel
theorem d_W_law_815 : decode b_W_law 815 = .ok (.invokevirtual 102, 3) := by decide +kernel
theorem d_W_law_818 : decode b_W_law 818 = .ok (.iload 6, 2) := by decide +kernel
theorem d_W_law_820 : decode b_W_law 820 = .ok (.if_icmp .eq 5, 3) := by decide +kernel
theorem d_W_law_823 : decode b_W_law 823 = .ok (.iconst 0, 1) := by decide +kernel
theorem d_W_law_824 : decode b_W_law 824 = .ok (.ireturn, 1) := by decide +kernel
theorem d_W_law_825 : decode b_W_law 825 = .ok (.iload 6, 2) := by decide +kernel
theorem d_W_law_827 : decode b_W_law 827 = .ok (.ifCond .ne 15, 3) := by decide +kernel
theorem d_W_law_830 : decode b_W_law 830 = .ok (.aload_n 3, 1) := by decide +kernel
theorem d_W_law_831 : decode b_W_law 831 = .ok (.iconst 0, 1) := by decide +kernel
theorem d_W_law_832 : decode b_W_law 832 = .ok (.laload, 1) := by decide +kernel
theorem d_W_law_833 : decode b_W_law 833 = .ok (.iload 7, 2) := by decide +kernel
theorem d_W_law_835 : decode b_W_law 835 = .ok (.i2l, 1) := by decide +kernel
theorem d_W_law_836 : decode b_W_law 836 = .ok (.lcmp, 1) := by decide +kernel
theorem d_W_law_837 : decode b_W_law 837 = .ok (.ifCond .eq 5, 3) := by decide +kernel
theorem d_W_law_840 : decode b_W_law 840 = .ok (.iconst 0, 1) := by decide +kernel
theorem d_W_law_841 : decode b_W_law 841 = .ok (.ireturn, 1) := by decide +kernel
theorem d_W_law_842 : decode b_W_law 842 = .ok (.goto 946, 3) := by decide +kernel
theorem d_W_law_845 : decode b_W_law 845 = .ok (.aload_n 1, 1) := by decide +kernel
theorem d_W_law_846 : decode b_W_law 846 = .ok (.aload_n 0, 1) := by decide +kernel
theorem d_W_law_847 : decode b_W_law 847 = .ok (.iload 5, 2) := by decide +kernel
theorem d_W_law_849 : decode b_W_law 849 = .ok (.iconst 1, 1) := by decide +kernel
theorem d_W_law_850 : decode b_W_law 850 = .ok (.iadd, 1) := by decide +kernel
theorem d_W_law_851 : decode b_W_law 851 = .ok (.iaload, 1) := by decide +kernel
theorem d_W_law_852 : decode b_W_law 852 = .ok (.aload_n 0, 1) := by decide +kernel
theorem d_W_law_853 : decode b_W_law 853 = .ok (.iload 5, 2) := by decide +kernel
theorem d_W_law_855 : decode b_W_law 855 = .ok (.iconst 2, 1) := by decide +kernel
theorem d_W_law_856 : decode b_W_law 856 = .ok (.iadd, 1) := by decide +kernel
theorem d_W_law_857 : decode b_W_law 857 = .ok (.iaload, 1) := by decide +kernel
theorem d_W_law_858 : decode b_W_law 858 = .ok (.aload_n 0, 1) := by decide +kernel
theorem d_W_law_859 : decode b_W_law 859 = .ok (.iload 5, 2) := by decide +kernel
theorem d_W_law_861 : decode b_W_law 861 = .ok (.iconst 3, 1) := by decide +kernel
theorem d_W_law_862 : decode b_W_law 862 = .ok (.iadd, 1) := by decide +kernel
theorem d_W_law_863 : decode b_W_law 863 = .ok (.iaload, 1) := by decide +kernel
theorem d_W_law_864 : decode b_W_law 864 = .ok (.aload_n 3, 1) := by decide +kernel
theorem d_W_law_865 : decode b_W_law 865 = .ok (.invokestatic 132, 3) := by decide +kernel
theorem d_W_law_868 : decode b_W_law 868 = .ok (.istore 6, 2) := by decide +kernel
theorem d_W_law_870 : decode b_W_law 870 = .ok (.aload_n 2, 1) := by decide +kernel
theorem d_W_law_871 : decode b_W_law 871 = .ok (.aload_n 0, 1) := by decide +kernel
theorem d_W_law_872 : decode b_W_law 872 = .ok (.iload 5, 2) := by decide +kernel
theorem d_W_law_874 : decode b_W_law 874 = .ok (.iconst 1, 1) := by decide +kernel
theorem d_W_law_875 : decode b_W_law 875 = .ok (.iadd, 1) := by decide +kernel
theorem d_W_law_876 : decode b_W_law 876 = .ok (.iaload, 1) := by decide +kernel
theorem d_W_law_877 : decode b_W_law 877 = .ok (.aload_n 0, 1) := by decide +kernel
theorem d_W_law_878 : decode b_W_law 878 = .ok (.iload 5, 2) := by decide +kernel
theorem d_W_law_880 : decode b_W_law 880 = .ok (.iconst 2, 1) := by decide +kernel
theorem d_W_law_881 : decode b_W_law 881 = .ok (.iadd, 1) := by decide +kernel
theorem d_W_law_882 : decode b_W_law 882 = .ok (.iaload, 1) := by decide +kernel
theorem d_W_law_883 : decode b_W_law 883 = .ok (.aload_n 0, 1) := by decide +kernel
theorem d_W_law_884 : decode b_W_law 884 = .ok (.iload 5, 2) := by decide +kernel
theorem d_W_law_886 : decode b_W_law 886 = .ok (.iconst 3, 1) := by decide +kernel
theorem d_W_law_887 : decode b_W_law 887 = .ok (.iadd, 1) := by decide +kernel
theorem d_W_law_888 : decode b_W_law 888 = .ok (.iaload, 1) := by decide +kernel
theorem d_W_law_889 : decode b_W_law 889 = .ok (.invokevirtual 134, 3) := by decide +kernel
theorem d_W_law_892 : decode b_W_law 892 = .ok (.istore 7, 2) := by decide +kernel
theorem d_W_law_894 : decode b_W_law 894 = .ok (.aload_n 2, 1) := by decide +kernel
theorem d_W_law_895 : decode b_W_law 895 = .ok (.invokevirtual 102, 3) := by decide +kernel
theorem d_W_law_898 : decode b_W_law 898 = .ok (.iload 6, 2) := by decide +kernel
theorem d_W_law_900 : decode b_W_law 900 = .ok (.if_icmp .eq 5, 3) := by decide +kernel
theorem d_W_law_903 : decode b_W_law 903 = .ok (.iconst 0, 1) := by decide +kernel
theorem d_W_law_904 : decode b_W_law 904 = .ok (.ireturn, 1) := by decide +kernel
theorem d_W_law_905 : decode b_W_law 905 = .ok (.iload 6, 2) := by decide +kernel
theorem d_W_law_907 : decode b_W_law 907 = .ok (.ifCond .ne 15, 3) := by decide +kernel
theorem d_W_law_910 : decode b_W_law 910 = .ok (.aload_n 3, 1) := by decide +kernel
theorem d_W_law_911 : decode b_W_law 911 = .ok (.iconst 0, 1) := by decide +kernel
theorem d_W_law_912 : decode b_W_law 912 = .ok (.laload, 1) := by decide +kernel
theorem d_W_law_913 : decode b_W_law 913 = .ok (.iload 7, 2) := by decide +kernel
theorem d_W_law_915 : decode b_W_law 915 = .ok (.i2l, 1) := by decide +kernel
theorem d_W_law_916 : decode b_W_law 916 = .ok (.lcmp, 1) := by decide +kernel
theorem d_W_law_917 : decode b_W_law 917 = .ok (.ifCond .eq 5, 3) := by decide +kernel
theorem d_W_law_920 : decode b_W_law 920 = .ok (.iconst 0, 1) := by decide +kernel
theorem d_W_law_921 : decode b_W_law 921 = .ok (.ireturn, 1) := by decide +kernel
theorem d_W_law_922 : decode b_W_law 922 = .ok (.goto 866, 3) := by decide +kernel
theorem d_W_law_925 : decode b_W_law 925 = .ok (.aload_n 1, 1) := by decide +kernel
theorem d_W_law_926 : decode b_W_law 926 = .ok (.aload_n 0, 1) := by decide +kernel
theorem d_W_law_927 : decode b_W_law 927 = .ok (.iload 5, 2) := by decide +kernel
theorem d_W_law_929 : decode b_W_law 929 = .ok (.iconst 1, 1) := by decide +kernel
theorem d_W_law_930 : decode b_W_law 930 = .ok (.iadd, 1) := by decide +kernel
theorem d_W_law_931 : decode b_W_law 931 = .ok (.iaload, 1) := by decide +kernel
theorem d_W_law_932 : decode b_W_law 932 = .ok (.aload_n 0, 1) := by decide +kernel
theorem d_W_law_933 : decode b_W_law 933 = .ok (.iload 5, 2) := by decide +kernel
theorem d_W_law_935 : decode b_W_law 935 = .ok (.iconst 2, 1) := by decide +kernel
theorem d_W_law_936 : decode b_W_law 936 = .ok (.iadd, 1) := by decide +kernel
theorem d_W_law_937 : decode b_W_law 937 = .ok (.iaload, 1) := by decide +kernel
theorem d_W_law_938 : decode b_W_law 938 = .ok (.aload_n 3, 1) := by decide +kernel
theorem d_W_law_939 : decode b_W_law 939 = .ok (.invokestatic 135, 3) := by decide +kernel
theorem d_W_law_942 : decode b_W_law 942 = .ok (.istore 6, 2) := by decide +kernel
theorem d_W_law_944 : decode b_W_law 944 = .ok (.aload_n 2, 1) := by decide +kernel
theorem d_W_law_945 : decode b_W_law 945 = .ok (.aload_n 0, 1) := by decide +kernel
theorem d_W_law_946 : decode b_W_law 946 = .ok (.iload 5, 2) := by decide +kernel
theorem d_W_law_948 : decode b_W_law 948 = .ok (.iconst 1, 1) := by decide +kernel
theorem d_W_law_949 : decode b_W_law 949 = .ok (.iadd, 1) := by decide +kernel
theorem d_W_law_950 : decode b_W_law 950 = .ok (.iaload, 1) := by decide +kernel
theorem d_W_law_951 : decode b_W_law 951 = .ok (.aload_n 0, 1) := by decide +kernel
theorem d_W_law_952 : decode b_W_law 952 = .ok (.iload 5, 2) := by decide +kernel
theorem d_W_law_954 : decode b_W_law 954 = .ok (.iconst 2, 1) := by decide +kernel
theorem d_W_law_955 : decode b_W_law 955 = .ok (.iadd, 1) := by decide +kernel
theorem d_W_law_956 : decode b_W_law 956 = .ok (.iaload, 1) := by decide +kernel
theorem d_W_law_957 : decode b_W_law 957 = .ok (.invokevirtual 138, 3) := by decide +kernel
theorem d_W_law_960 : decode b_W_law 960 = .ok (.istore 7, 2) := by decide +kernel
theorem d_W_law_962 : decode b_W_law 962 = .ok (.aload_n 2, 1) := by decide +kernel
theorem d_W_law_963 : decode b_W_law 963 = .ok (.invokevirtual 102, 3) := by decide +kernel
theorem d_W_law_966 : decode b_W_law 966 = .ok (.iload 6, 2) := by decide +kernel
theorem d_W_law_968 : decode b_W_law 968 = .ok (.if_icmp .eq 5, 3) := by decide +kernel
theorem d_W_law_971 : decode b_W_law 971 = .ok (.iconst 0, 1) := by decide +kernel
theorem d_W_law_972 : decode b_W_law 972 = .ok (.ireturn, 1) := by decide +kernel
theorem d_W_law_973 : decode b_W_law 973 = .ok (.iload 6, 2) := by decide +kernel
theorem d_W_law_975 : decode b_W_law 975 = .ok (.ifCond .ne 15, 3) := by decide +kernel
theorem d_W_law_978 : decode b_W_law 978 = .ok (.aload_n 3, 1) := by decide +kernel
theorem d_W_law_979 : decode b_W_law 979 = .ok (.iconst 0, 1) := by decide +kernel
theorem d_W_law_980 : decode b_W_law 980 = .ok (.laload, 1) := by decide +kernel
theorem d_W_law_981 : decode b_W_law 981 = .ok (.iload 7, 2) := by decide +kernel
theorem d_W_law_983 : decode b_W_law 983 = .ok (.i2l, 1) := by decide +kernel
theorem d_W_law_984 : decode b_W_law 984 = .ok (.lcmp, 1) := by decide +kernel
theorem d_W_law_985 : decode b_W_law 985 = .ok (.ifCond .eq 5, 3) := by decide +kernel
theorem d_W_law_988 : decode b_W_law 988 = .ok (.iconst 0, 1) := by decide +kernel
theorem d_W_law_989 : decode b_W_law 989 = .ok (.ireturn, 1) := by decide +kernel
theorem d_W_law_990 : decode b_W_law 990 = .ok (.goto 798, 3) := by decide +kernel
theorem d_W_law_993 : decode b_W_law 993 = .ok (.aload_n 1, 1) := by decide +kernel
theorem d_W_law_994 : decode b_W_law 994 = .ok (.aload_n 0, 1) := by decide +kernel
theorem d_W_law_995 : decode b_W_law 995 = .ok (.iload 5, 2) := by decide +kernel
theorem d_W_law_997 : decode b_W_law 997 = .ok (.iconst 1, 1) := by decide +kernel
theorem d_W_law_998 : decode b_W_law 998 = .ok (.iadd, 1) := by decide +kernel
theorem d_W_law_999 : decode b_W_law 999 = .ok (.iaload, 1) := by decide +kernel
theorem d_W_law_1000 : decode b_W_law 1000 = .ok (.aload_n 0, 1) := by decide +kernel
theorem d_W_law_1001 : decode b_W_law 1001 = .ok (.iload 5, 2) := by decide +kernel
theorem d_W_law_1003 : decode b_W_law 1003 = .ok (.iconst 2, 1) := by decide +kernel
theorem d_W_law_1004 : decode b_W_law 1004 = .ok (.iadd, 1) := by decide +kernel
theorem d_W_law_1005 : decode b_W_law 1005 = .ok (.iaload, 1) := by decide +kernel
theorem d_W_law_1006 : decode b_W_law 1006 = .ok (.aload_n 3, 1) := by decide +kernel
theorem d_W_law_1007 : decode b_W_law 1007 = .ok (.invokestatic 139, 3) := by decide +kernel
theorem d_W_law_1010 : decode b_W_law 1010 = .ok (.istore 6, 2) := by decide +kernel
theorem d_W_law_1012 : decode b_W_law 1012 = .ok (.aload_n 2, 1) := by decide +kernel
theorem d_W_law_1013 : decode b_W_law 1013 = .ok (.aload_n 0, 1) := by decide +kernel
theorem d_W_law_1014 : decode b_W_law 1014 = .ok (.iload 5, 2) := by decide +kernel
theorem d_W_law_1016 : decode b_W_law 1016 = .ok (.iconst 1, 1) := by decide +kernel
theorem d_W_law_1017 : decode b_W_law 1017 = .ok (.iadd, 1) := by decide +kernel
theorem d_W_law_1018 : decode b_W_law 1018 = .ok (.iaload, 1) := by decide +kernel
theorem d_W_law_1019 : decode b_W_law 1019 = .ok (.aload_n 0, 1) := by decide +kernel
theorem d_W_law_1020 : decode b_W_law 1020 = .ok (.iload 5, 2) := by decide +kernel
theorem d_W_law_1022 : decode b_W_law 1022 = .ok (.iconst 2, 1) := by decide +kernel
theorem d_W_law_1023 : decode b_W_law 1023 = .ok (.iadd, 1) := by decide +kernel
theorem d_W_law_1024 : decode b_W_law 1024 = .ok (.iaload, 1) := by decide +kernel
theorem d_W_law_1025 : decode b_W_law 1025 = .ok (.invokevirtual 141, 3) := by decide +kernel
theorem d_W_law_1028 : decode b_W_law 1028 = .ok (.istore 7, 2) := by decide +kernel
theorem d_W_law_1030 : decode b_W_law 1030 = .ok (.aload_n 2, 1) := by decide +kernel
theorem d_W_law_1031 : decode b_W_law 1031 = .ok (.invokevirtual 102, 3) := by decide +kernel
theorem d_W_law_1034 : decode b_W_law 1034 = .ok (.iload 6, 2) := by decide +kernel
theorem d_W_law_1036 : decode b_W_law 1036 = .ok (.if_icmp .eq 5, 3) := by decide +kernel
theorem d_W_law_1039 : decode b_W_law 1039 = .ok (.iconst 0, 1) := by decide +kernel
theorem d_W_law_1040 : decode b_W_law 1040 = .ok (.ireturn, 1) := by decide +kernel
theorem d_W_law_1041 : decode b_W_law 1041 = .ok (.iload 6, 2) := by decide +kernel
theorem d_W_law_1043 : decode b_W_law 1043 = .ok (.ifCond .ne 15, 3) := by decide +kernel
theorem d_W_law_1046 : decode b_W_law 1046 = .ok (.aload_n 3, 1) := by decide +kernel
theorem d_W_law_1047 : decode b_W_law 1047 = .ok (.iconst 0, 1) := by decide +kernel
theorem d_W_law_1048 : decode b_W_law 1048 = .ok (.laload, 1) := by decide +kernel
theorem d_W_law_1049 : decode b_W_law 1049 = .ok (.iload 7, 2) := by decide +kernel
theorem d_W_law_1051 : decode b_W_law 1051 = .ok (.i2l, 1) := by decide +kernel
theorem d_W_law_1052 : decode b_W_law 1052 = .ok (.lcmp, 1) := by decide +kernel
theorem d_W_law_1053 : decode b_W_law 1053 = .ok (.ifCond .eq 5, 3) := by decide +kernel
theorem d_W_law_1056 : decode b_W_law 1056 = .ok (.iconst 0, 1) := by decide +kernel
theorem d_W_law_1057 : decode b_W_law 1057 = .ok (.ireturn, 1) := by decide +kernel
theorem d_W_law_1058 : decode b_W_law 1058 = .ok (.goto 730, 3) := by decide +kernel
theorem d_W_law_1061 : decode b_W_law 1061 = .ok (.aload_n 1, 1) := by decide +kernel
theorem d_W_law_1062 : decode b_W_law 1062 = .ok (.aload_n 0, 1) := by decide +kernel
theorem d_W_law_1063 : decode b_W_law 1063 = .ok (.iload 5, 2) := by decide +kernel
theorem d_W_law_1065 : decode b_W_law 1065 = .ok (.iconst 1, 1) := by decide +kernel
theorem d_W_law_1066 : decode b_W_law 1066 = .ok (.iadd, 1) := by decide +kernel
theorem d_W_law_1067 : decode b_W_law 1067 = .ok (.iaload, 1) := by decide +kernel
theorem d_W_law_1068 : decode b_W_law 1068 = .ok (.aload_n 0, 1) := by decide +kernel
theorem d_W_law_1069 : decode b_W_law 1069 = .ok (.iload 5, 2) := by decide +kernel
theorem d_W_law_1071 : decode b_W_law 1071 = .ok (.iconst 2, 1) := by decide +kernel
theorem d_W_law_1072 : decode b_W_law 1072 = .ok (.iadd, 1) := by decide +kernel
theorem d_W_law_1073 : decode b_W_law 1073 = .ok (.iaload, 1) := by decide +kernel
theorem d_W_law_1074 : decode b_W_law 1074 = .ok (.aload_n 0, 1) := by decide +kernel
theorem d_W_law_1075 : decode b_W_law 1075 = .ok (.iload 5, 2) := by decide +kernel
theorem d_W_law_1077 : decode b_W_law 1077 = .ok (.iconst 3, 1) := by decide +kernel
theorem d_W_law_1078 : decode b_W_law 1078 = .ok (.iadd, 1) := by decide +kernel
theorem d_W_law_1079 : decode b_W_law 1079 = .ok (.iaload, 1) := by decide +kernel
theorem d_W_law_1080 : decode b_W_law 1080 = .ok (.aload_n 3, 1) := by decide +kernel
theorem d_W_law_1081 : decode b_W_law 1081 = .ok (.invokestatic 142, 3) := by decide +kernel
theorem d_W_law_1084 : decode b_W_law 1084 = .ok (.istore 6, 2) := by decide +kernel
theorem d_W_law_1086 : decode b_W_law 1086 = .ok (.aload_n 2, 1) := by decide +kernel
theorem d_W_law_1087 : decode b_W_law 1087 = .ok (.aload_n 0, 1) := by decide +kernel
theorem d_W_law_1088 : decode b_W_law 1088 = .ok (.iload 5, 2) := by decide +kernel
theorem d_W_law_1090 : decode b_W_law 1090 = .ok (.iconst 1, 1) := by decide +kernel
theorem d_W_law_1091 : decode b_W_law 1091 = .ok (.iadd, 1) := by decide +kernel
theorem d_W_law_1092 : decode b_W_law 1092 = .ok (.iaload, 1) := by decide +kernel
theorem d_W_law_1093 : decode b_W_law 1093 = .ok (.aload_n 0, 1) := by decide +kernel
theorem d_W_law_1094 : decode b_W_law 1094 = .ok (.iload 5, 2) := by decide +kernel
theorem d_W_law_1096 : decode b_W_law 1096 = .ok (.iconst 2, 1) := by decide +kernel
theorem d_W_law_1097 : decode b_W_law 1097 = .ok (.iadd, 1) := by decide +kernel
theorem d_W_law_1098 : decode b_W_law 1098 = .ok (.iaload, 1) := by decide +kernel
theorem d_W_law_1099 : decode b_W_law 1099 = .ok (.aload_n 0, 1) := by decide +kernel
theorem d_W_law_1100 : decode b_W_law 1100 = .ok (.iload 5, 2) := by decide +kernel
theorem d_W_law_1102 : decode b_W_law 1102 = .ok (.iconst 3, 1) := by decide +kernel
theorem d_W_law_1103 : decode b_W_law 1103 = .ok (.iadd, 1) := by decide +kernel
theorem d_W_law_1104 : decode b_W_law 1104 = .ok (.iaload, 1) := by decide +kernel
theorem d_W_law_1105 : decode b_W_law 1105 = .ok (.invokevirtual 144, 3) := by decide +kernel
theorem d_W_law_1108 : decode b_W_law 1108 = .ok (.istore 7, 2) := by decide +kernel
theorem d_W_law_1110 : decode b_W_law 1110 = .ok (.aload_n 2, 1) := by decide +kernel
theorem d_W_law_1111 : decode b_W_law 1111 = .ok (.invokevirtual 102, 3) := by decide +kernel
theorem d_W_law_1114 : decode b_W_law 1114 = .ok (.iload 6, 2) := by decide +kernel
theorem d_W_law_1116 : decode b_W_law 1116 = .ok (.if_icmp .eq 5, 3) := by decide +kernel
theorem d_W_law_1119 : decode b_W_law 1119 = .ok (.iconst 0, 1) := by decide +kernel
theorem d_W_law_1120 : decode b_W_law 1120 = .ok (.ireturn, 1) := by decide +kernel
theorem d_W_law_1121 : decode b_W_law 1121 = .ok (.iload 6, 2) := by decide +kernel
theorem d_W_law_1123 : decode b_W_law 1123 = .ok (.ifCond .ne 15, 3) := by decide +kernel
theorem d_W_law_1126 : decode b_W_law 1126 = .ok (.aload_n 3, 1) := by decide +kernel
theorem d_W_law_1127 : decode b_W_law 1127 = .ok (.iconst 0, 1) := by decide +kernel
theorem d_W_law_1128 : decode b_W_law 1128 = .ok (.laload, 1) := by decide +kernel
theorem d_W_law_1129 : decode b_W_law 1129 = .ok (.iload 7, 2) := by decide +kernel
theorem d_W_law_1131 : decode b_W_law 1131 = .ok (.i2l, 1) := by decide +kernel
theorem d_W_law_1132 : decode b_W_law 1132 = .ok (.lcmp, 1) := by decide +kernel
theorem d_W_law_1133 : decode b_W_law 1133 = .ok (.ifCond .eq 5, 3) := by decide +kernel
theorem d_W_law_1136 : decode b_W_law 1136 = .ok (.iconst 0, 1) := by decide +kernel
theorem d_W_law_1137 : decode b_W_law 1137 = .ok (.ireturn, 1) := by decide +kernel
theorem d_W_law_1138 : decode b_W_law 1138 = .ok (.goto 650, 3) := by decide +kernel
theorem d_W_law_1141 : decode b_W_law 1141 = .ok (.aload_n 1, 1) := by decide +kernel
theorem d_W_law_1142 : decode b_W_law 1142 = .ok (.aload_n 0, 1) := by decide +kernel
theorem d_W_law_1143 : decode b_W_law 1143 = .ok (.iload 5, 2) := by decide +kernel
theorem d_W_law_1145 : decode b_W_law 1145 = .ok (.iconst 1, 1) := by decide +kernel
theorem d_W_law_1146 : decode b_W_law 1146 = .ok (.iadd, 1) := by decide +kernel
theorem d_W_law_1147 : decode b_W_law 1147 = .ok (.iaload, 1) := by decide +kernel
theorem d_W_law_1148 : decode b_W_law 1148 = .ok (.aload_n 0, 1) := by decide +kernel
theorem d_W_law_1149 : decode b_W_law 1149 = .ok (.iload 5, 2) := by decide +kernel
theorem d_W_law_1151 : decode b_W_law 1151 = .ok (.iconst 2, 1) := by decide +kernel
theorem d_W_law_1152 : decode b_W_law 1152 = .ok (.iadd, 1) := by decide +kernel
theorem d_W_law_1153 : decode b_W_law 1153 = .ok (.iaload, 1) := by decide +kernel
theorem d_W_law_1154 : decode b_W_law 1154 = .ok (.aload_n 0, 1) := by decide +kernel
theorem d_W_law_1155 : decode b_W_law 1155 = .ok (.iload 5, 2) := by decide +kernel
theorem d_W_law_1157 : decode b_W_law 1157 = .ok (.iconst 3, 1) := by decide +kernel
theorem d_W_law_1158 : decode b_W_law 1158 = .ok (.iadd, 1) := by decide +kernel
theorem d_W_law_1159 : decode b_W_law 1159 = .ok (.iaload, 1) := by decide +kernel
theorem d_W_law_1160 : decode b_W_law 1160 = .ok (.ifCond .eq 7, 3) := by decide +kernel
theorem d_W_law_1163 : decode b_W_law 1163 = .ok (.iconst 1, 1) := by decide +kernel
theorem d_W_law_1164 : decode b_W_law 1164 = .ok (.goto 4, 3) := by decide +kernel
theorem d_W_law_1167 : decode b_W_law 1167 = .ok (.iconst 0, 1) := by decide +kernel
theorem d_W_law_1168 : decode b_W_law 1168 = .ok (.aload_n 3, 1) := by decide +kernel
theorem d_W_law_1169 : decode b_W_law 1169 = .ok (.invokestatic 145, 3) := by decide +kernel
theorem d_W_law_1172 : decode b_W_law 1172 = .ok (.istore 6, 2) := by decide +kernel
theorem d_W_law_1174 : decode b_W_law 1174 = .ok (.aload_n 2, 1) := by decide +kernel
theorem d_W_law_1175 : decode b_W_law 1175 = .ok (.aload_n 0, 1) := by decide +kernel
theorem d_W_law_1176 : decode b_W_law 1176 = .ok (.iload 5, 2) := by decide +kernel
theorem d_W_law_1178 : decode b_W_law 1178 = .ok (.iconst 1, 1) := by decide +kernel
theorem d_W_law_1179 : decode b_W_law 1179 = .ok (.iadd, 1) := by decide +kernel
theorem d_W_law_1180 : decode b_W_law 1180 = .ok (.iaload, 1) := by decide +kernel
theorem d_W_law_1181 : decode b_W_law 1181 = .ok (.aload_n 0, 1) := by decide +kernel
theorem d_W_law_1182 : decode b_W_law 1182 = .ok (.iload 5, 2) := by decide +kernel
theorem d_W_law_1184 : decode b_W_law 1184 = .ok (.iconst 2, 1) := by decide +kernel
theorem d_W_law_1185 : decode b_W_law 1185 = .ok (.iadd, 1) := by decide +kernel
theorem d_W_law_1186 : decode b_W_law 1186 = .ok (.iaload, 1) := by decide +kernel
theorem d_W_law_1187 : decode b_W_law 1187 = .ok (.aload_n 0, 1) := by decide +kernel
theorem d_W_law_1188 : decode b_W_law 1188 = .ok (.iload 5, 2) := by decide +kernel
theorem d_W_law_1190 : decode b_W_law 1190 = .ok (.iconst 3, 1) := by decide +kernel
theorem d_W_law_1191 : decode b_W_law 1191 = .ok (.iadd, 1) := by decide +kernel
theorem d_W_law_1192 : decode b_W_law 1192 = .ok (.iaload, 1) := by decide +kernel
theorem d_W_law_1193 : decode b_W_law 1193 = .ok (.ifCond .eq 7, 3) := by decide +kernel
theorem d_W_law_1196 : decode b_W_law 1196 = .ok (.iconst 1, 1) := by decide +kernel
theorem d_W_law_1197 : decode b_W_law 1197 = .ok (.goto 4, 3) := by decide +kernel
theorem d_W_law_1200 : decode b_W_law 1200 = .ok (.iconst 0, 1) := by decide +kernel
theorem d_W_law_1201 : decode b_W_law 1201 = .ok (.invokevirtual 148, 3) := by decide +kernel
theorem d_W_law_1204 : decode b_W_law 1204 = .ok (.istore 7, 2) := by decide +kernel
theorem d_W_law_1206 : decode b_W_law 1206 = .ok (.aload_n 2, 1) := by decide +kernel
theorem d_W_law_1207 : decode b_W_law 1207 = .ok (.invokevirtual 102, 3) := by decide +kernel
theorem d_W_law_1210 : decode b_W_law 1210 = .ok (.iload 6, 2) := by decide +kernel
theorem d_W_law_1212 : decode b_W_law 1212 = .ok (.if_icmp .eq 5, 3) := by decide +kernel
theorem d_W_law_1215 : decode b_W_law 1215 = .ok (.iconst 0, 1) := by decide +kernel
theorem d_W_law_1216 : decode b_W_law 1216 = .ok (.ireturn, 1) := by decide +kernel
theorem d_W_law_1217 : decode b_W_law 1217 = .ok (.iload 6, 2) := by decide +kernel
theorem d_W_law_1219 : decode b_W_law 1219 = .ok (.ifCond .ne 15, 3) := by decide +kernel
theorem d_W_law_1222 : decode b_W_law 1222 = .ok (.aload_n 3, 1) := by decide +kernel
theorem d_W_law_1223 : decode b_W_law 1223 = .ok (.iconst 0, 1) := by decide +kernel
theorem d_W_law_1224 : decode b_W_law 1224 = .ok (.laload, 1) := by decide +kernel
theorem d_W_law_1225 : decode b_W_law 1225 = .ok (.iload 7, 2) := by decide +kernel
theorem d_W_law_1227 : decode b_W_law 1227 = .ok (.i2l, 1) := by decide +kernel
theorem d_W_law_1228 : decode b_W_law 1228 = .ok (.lcmp, 1) := by decide +kernel
theorem d_W_law_1229 : decode b_W_law 1229 = .ok (.ifCond .eq 5, 3) := by decide +kernel
theorem d_W_law_1232 : decode b_W_law 1232 = .ok (.iconst 0, 1) := by decide +kernel
theorem d_W_law_1233 : decode b_W_law 1233 = .ok (.ireturn, 1) := by decide +kernel
theorem d_W_law_1234 : decode b_W_law 1234 = .ok (.goto 554, 3) := by decide +kernel
theorem d_W_law_1237 : decode b_W_law 1237 = .ok (.aload_n 1, 1) := by decide +kernel
theorem d_W_law_1238 : decode b_W_law 1238 = .ok (.aload_n 0, 1) := by decide +kernel
theorem d_W_law_1239 : decode b_W_law 1239 = .ok (.iload 5, 2) := by decide +kernel
theorem d_W_law_1241 : decode b_W_law 1241 = .ok (.iconst 1, 1) := by decide +kernel
theorem d_W_law_1242 : decode b_W_law 1242 = .ok (.iadd, 1) := by decide +kernel
theorem d_W_law_1243 : decode b_W_law 1243 = .ok (.iaload, 1) := by decide +kernel
theorem d_W_law_1244 : decode b_W_law 1244 = .ok (.aload_n 3, 1) := by decide +kernel
theorem d_W_law_1245 : decode b_W_law 1245 = .ok (.invokestatic 149, 3) := by decide +kernel
theorem d_W_law_1248 : decode b_W_law 1248 = .ok (.istore 6, 2) := by decide +kernel
theorem d_W_law_1250 : decode b_W_law 1250 = .ok (.aload_n 2, 1) := by decide +kernel
theorem d_W_law_1251 : decode b_W_law 1251 = .ok (.aload_n 0, 1) := by decide +kernel
theorem d_W_law_1252 : decode b_W_law 1252 = .ok (.iload 5, 2) := by decide +kernel
theorem d_W_law_1254 : decode b_W_law 1254 = .ok (.iconst 1, 1) := by decide +kernel
theorem d_W_law_1255 : decode b_W_law 1255 = .ok (.iadd, 1) := by decide +kernel
theorem d_W_law_1256 : decode b_W_law 1256 = .ok (.iaload, 1) := by decide +kernel
theorem d_W_law_1257 : decode b_W_law 1257 = .ok (.invokevirtual 151, 3) := by decide +kernel
theorem d_W_law_1260 : decode b_W_law 1260 = .ok (.istore 7, 2) := by decide +kernel
theorem d_W_law_1262 : decode b_W_law 1262 = .ok (.aload_n 2, 1) := by decide +kernel
theorem d_W_law_1263 : decode b_W_law 1263 = .ok (.invokevirtual 102, 3) := by decide +kernel
theorem d_W_law_1266 : decode b_W_law 1266 = .ok (.iload 6, 2) := by decide +kernel
theorem d_W_law_1268 : decode b_W_law 1268 = .ok (.if_icmp .eq 5, 3) := by decide +kernel
theorem d_W_law_1271 : decode b_W_law 1271 = .ok (.iconst 0, 1) := by decide +kernel
theorem d_W_law_1272 : decode b_W_law 1272 = .ok (.ireturn, 1) := by decide +kernel
theorem d_W_law_1273 : decode b_W_law 1273 = .ok (.iload 6, 2) := by decide +kernel
theorem d_W_law_1275 : decode b_W_law 1275 = .ok (.ifCond .ne 15, 3) := by decide +kernel
theorem d_W_law_1278 : decode b_W_law 1278 = .ok (.aload_n 3, 1) := by decide +kernel
theorem d_W_law_1279 : decode b_W_law 1279 = .ok (.iconst 0, 1) := by decide +kernel
theorem d_W_law_1280 : decode b_W_law 1280 = .ok (.laload, 1) := by decide +kernel
theorem d_W_law_1281 : decode b_W_law 1281 = .ok (.iload 7, 2) := by decide +kernel
theorem d_W_law_1283 : decode b_W_law 1283 = .ok (.i2l, 1) := by decide +kernel
theorem d_W_law_1284 : decode b_W_law 1284 = .ok (.lcmp, 1) := by decide +kernel
theorem d_W_law_1285 : decode b_W_law 1285 = .ok (.ifCond .eq 5, 3) := by decide +kernel
theorem d_W_law_1288 : decode b_W_law 1288 = .ok (.iconst 0, 1) := by decide +kernel
theorem d_W_law_1289 : decode b_W_law 1289 = .ok (.ireturn, 1) := by decide +kernel
theorem d_W_law_1290 : decode b_W_law 1290 = .ok (.goto 498, 3) := by decide +kernel
theorem d_W_law_1293 : decode b_W_law 1293 = .ok (.aload_n 1, 1) := by decide +kernel
theorem d_W_law_1294 : decode b_W_law 1294 = .ok (.aload_n 0, 1) := by decide +kernel
theorem d_W_law_1295 : decode b_W_law 1295 = .ok (.iload 5, 2) := by decide +kernel
theorem d_W_law_1297 : decode b_W_law 1297 = .ok (.iconst 1, 1) := by decide +kernel
theorem d_W_law_1298 : decode b_W_law 1298 = .ok (.iadd, 1) := by decide +kernel
theorem d_W_law_1299 : decode b_W_law 1299 = .ok (.iaload, 1) := by decide +kernel
theorem d_W_law_1300 : decode b_W_law 1300 = .ok (.aload_n 3, 1) := by decide +kernel
theorem d_W_law_1301 : decode b_W_law 1301 = .ok (.invokestatic 152, 3) := by decide +kernel
theorem d_W_law_1304 : decode b_W_law 1304 = .ok (.istore 6, 2) := by decide +kernel
theorem d_W_law_1306 : decode b_W_law 1306 = .ok (.aload_n 2, 1) := by decide +kernel
theorem d_W_law_1307 : decode b_W_law 1307 = .ok (.aload_n 0, 1) := by decide +kernel
theorem d_W_law_1308 : decode b_W_law 1308 = .ok (.iload 5, 2) := by decide +kernel
theorem d_W_law_1310 : decode b_W_law 1310 = .ok (.iconst 1, 1) := by decide +kernel
theorem d_W_law_1311 : decode b_W_law 1311 = .ok (.iadd, 1) := by decide +kernel
theorem d_W_law_1312 : decode b_W_law 1312 = .ok (.iaload, 1) := by decide +kernel
theorem d_W_law_1313 : decode b_W_law 1313 = .ok (.invokevirtual 154, 3) := by decide +kernel
theorem d_W_law_1316 : decode b_W_law 1316 = .ok (.istore 7, 2) := by decide +kernel
theorem d_W_law_1318 : decode b_W_law 1318 = .ok (.aload_n 2, 1) := by decide +kernel
theorem d_W_law_1319 : decode b_W_law 1319 = .ok (.invokevirtual 102, 3) := by decide +kernel
theorem d_W_law_1322 : decode b_W_law 1322 = .ok (.iload 6, 2) := by decide +kernel
theorem d_W_law_1324 : decode b_W_law 1324 = .ok (.if_icmp .eq 5, 3) := by decide +kernel
theorem d_W_law_1327 : decode b_W_law 1327 = .ok (.iconst 0, 1) := by decide +kernel
theorem d_W_law_1328 : decode b_W_law 1328 = .ok (.ireturn, 1) := by decide +kernel
theorem d_W_law_1329 : decode b_W_law 1329 = .ok (.iload 6, 2) := by decide +kernel
theorem d_W_law_1331 : decode b_W_law 1331 = .ok (.ifCond .ne 15, 3) := by decide +kernel
theorem d_W_law_1334 : decode b_W_law 1334 = .ok (.aload_n 3, 1) := by decide +kernel
theorem d_W_law_1335 : decode b_W_law 1335 = .ok (.iconst 0, 1) := by decide +kernel
theorem d_W_law_1336 : decode b_W_law 1336 = .ok (.laload, 1) := by decide +kernel
theorem d_W_law_1337 : decode b_W_law 1337 = .ok (.iload 7, 2) := by decide +kernel
theorem d_W_law_1339 : decode b_W_law 1339 = .ok (.i2l, 1) := by decide +kernel
theorem d_W_law_1340 : decode b_W_law 1340 = .ok (.lcmp, 1) := by decide +kernel
theorem d_W_law_1341 : decode b_W_law 1341 = .ok (.ifCond .eq 5, 3) := by decide +kernel
theorem d_W_law_1344 : decode b_W_law 1344 = .ok (.iconst 0, 1) := by decide +kernel
theorem d_W_law_1345 : decode b_W_law 1345 = .ok (.ireturn, 1) := by decide +kernel
theorem d_W_law_1346 : decode b_W_law 1346 = .ok (.goto 442, 3) := by decide +kernel
theorem d_W_law_1349 : decode b_W_law 1349 = .ok (.aload_n 1, 1) := by decide +kernel
theorem d_W_law_1350 : decode b_W_law 1350 = .ok (.aload_n 0, 1) := by decide +kernel
theorem d_W_law_1351 : decode b_W_law 1351 = .ok (.iload 5, 2) := by decide +kernel
theorem d_W_law_1353 : decode b_W_law 1353 = .ok (.iconst 1, 1) := by decide +kernel
theorem d_W_law_1354 : decode b_W_law 1354 = .ok (.iadd, 1) := by decide +kernel
theorem d_W_law_1355 : decode b_W_law 1355 = .ok (.iaload, 1) := by decide +kernel
theorem d_W_law_1356 : decode b_W_law 1356 = .ok (.aload_n 3, 1) := by decide +kernel
theorem d_W_law_1357 : decode b_W_law 1357 = .ok (.invokestatic 155, 3) := by decide +kernel
theorem d_W_law_1360 : decode b_W_law 1360 = .ok (.istore 6, 2) := by decide +kernel
theorem d_W_law_1362 : decode b_W_law 1362 = .ok (.aload_n 2, 1) := by decide +kernel
theorem d_W_law_1363 : decode b_W_law 1363 = .ok (.aload_n 0, 1) := by decide +kernel
theorem d_W_law_1364 : decode b_W_law 1364 = .ok (.iload 5, 2) := by decide +kernel
theorem d_W_law_1366 : decode b_W_law 1366 = .ok (.iconst 1, 1) := by decide +kernel
theorem d_W_law_1367 : decode b_W_law 1367 = .ok (.iadd, 1) := by decide +kernel
theorem d_W_law_1368 : decode b_W_law 1368 = .ok (.iaload, 1) := by decide +kernel
theorem d_W_law_1369 : decode b_W_law 1369 = .ok (.invokevirtual 157, 3) := by decide +kernel
theorem d_W_law_1372 : decode b_W_law 1372 = .ok (.istore 7, 2) := by decide +kernel
theorem d_W_law_1374 : decode b_W_law 1374 = .ok (.aload_n 2, 1) := by decide +kernel
theorem d_W_law_1375 : decode b_W_law 1375 = .ok (.invokevirtual 102, 3) := by decide +kernel
theorem d_W_law_1378 : decode b_W_law 1378 = .ok (.iload 6, 2) := by decide +kernel
theorem d_W_law_1380 : decode b_W_law 1380 = .ok (.if_icmp .eq 5, 3) := by decide +kernel
theorem d_W_law_1383 : decode b_W_law 1383 = .ok (.iconst 0, 1) := by decide +kernel
theorem d_W_law_1384 : decode b_W_law 1384 = .ok (.ireturn, 1) := by decide +kernel
theorem d_W_law_1385 : decode b_W_law 1385 = .ok (.iload 6, 2) := by decide +kernel
theorem d_W_law_1387 : decode b_W_law 1387 = .ok (.ifCond .ne 15, 3) := by decide +kernel
theorem d_W_law_1390 : decode b_W_law 1390 = .ok (.aload_n 3, 1) := by decide +kernel
theorem d_W_law_1391 : decode b_W_law 1391 = .ok (.iconst 0, 1) := by decide +kernel
theorem d_W_law_1392 : decode b_W_law 1392 = .ok (.laload, 1) := by decide +kernel
theorem d_W_law_1393 : decode b_W_law 1393 = .ok (.iload 7, 2) := by decide +kernel
theorem d_W_law_1395 : decode b_W_law 1395 = .ok (.i2l, 1) := by decide +kernel
theorem d_W_law_1396 : decode b_W_law 1396 = .ok (.lcmp, 1) := by decide +kernel
theorem d_W_law_1397 : decode b_W_law 1397 = .ok (.ifCond .eq 5, 3) := by decide +kernel
theorem d_W_law_1400 : decode b_W_law 1400 = .ok (.iconst 0, 1) := by decide +kernel
theorem d_W_law_1401 : decode b_W_law 1401 = .ok (.ireturn, 1) := by decide +kernel
theorem d_W_law_1402 : decode b_W_law 1402 = .ok (.goto 386, 3) := by decide +kernel
theorem d_W_law_1405 : decode b_W_law 1405 = .ok (.aload_n 1, 1) := by decide +kernel
theorem d_W_law_1406 : decode b_W_law 1406 = .ok (.aload_n 0, 1) := by decide +kernel
theorem d_W_law_1407 : decode b_W_law 1407 = .ok (.iload 5, 2) := by decide +kernel
theorem d_W_law_1409 : decode b_W_law 1409 = .ok (.iconst 1, 1) := by decide +kernel
theorem d_W_law_1410 : decode b_W_law 1410 = .ok (.iadd, 1) := by decide +kernel
theorem d_W_law_1411 : decode b_W_law 1411 = .ok (.iaload, 1) := by decide +kernel
theorem d_W_law_1412 : decode b_W_law 1412 = .ok (.aload 4, 2) := by decide +kernel
theorem d_W_law_1414 : decode b_W_law 1414 = .ok (.invokestatic 158, 3) := by decide +kernel
theorem d_W_law_1417 : decode b_W_law 1417 = .ok (.istore 6, 2) := by decide +kernel
theorem d_W_law_1419 : decode b_W_law 1419 = .ok (.aload_n 2, 1) := by decide +kernel
theorem d_W_law_1420 : decode b_W_law 1420 = .ok (.aload_n 0, 1) := by decide +kernel
theorem d_W_law_1421 : decode b_W_law 1421 = .ok (.iload 5, 2) := by decide +kernel
theorem d_W_law_1423 : decode b_W_law 1423 = .ok (.iconst 1, 1) := by decide +kernel
theorem d_W_law_1424 : decode b_W_law 1424 = .ok (.iadd, 1) := by decide +kernel
theorem d_W_law_1425 : decode b_W_law 1425 = .ok (.iaload, 1) := by decide +kernel
theorem d_W_law_1426 : decode b_W_law 1426 = .ok (.invokevirtual 161, 3) := by decide +kernel
theorem d_W_law_1429 : decode b_W_law 1429 = .ok (.dstore 7, 2) := by decide +kernel
theorem d_W_law_1431 : decode b_W_law 1431 = .ok (.aload_n 2, 1) := by decide +kernel
theorem d_W_law_1432 : decode b_W_law 1432 = .ok (.invokevirtual 102, 3) := by decide +kernel
theorem d_W_law_1435 : decode b_W_law 1435 = .ok (.iload 6, 2) := by decide +kernel
theorem d_W_law_1437 : decode b_W_law 1437 = .ok (.if_icmp .eq 5, 3) := by decide +kernel
theorem d_W_law_1440 : decode b_W_law 1440 = .ok (.iconst 0, 1) := by decide +kernel
theorem d_W_law_1441 : decode b_W_law 1441 = .ok (.ireturn, 1) := by decide +kernel
theorem d_W_law_1442 : decode b_W_law 1442 = .ok (.iload 6, 2) := by decide +kernel
theorem d_W_law_1444 : decode b_W_law 1444 = .ok (.ifCond .ne 35, 3) := by decide +kernel
theorem d_W_law_1447 : decode b_W_law 1447 = .ok (.aload 4, 2) := by decide +kernel
theorem d_W_law_1449 : decode b_W_law 1449 = .ok (.iconst 0, 1) := by decide +kernel
theorem d_W_law_1450 : decode b_W_law 1450 = .ok (.daload, 1) := by decide +kernel
theorem d_W_law_1451 : decode b_W_law 1451 = .ok (.dload 7, 2) := by decide +kernel
theorem d_W_law_1453 : decode b_W_law 1453 = .ok (.dcmp .l, 1) := by decide +kernel
theorem d_W_law_1454 : decode b_W_law 1454 = .ok (.ifCond .eq 25, 3) := by decide +kernel
theorem d_W_law_1457 : decode b_W_law 1457 = .ok (.aload 4, 2) := by decide +kernel
theorem d_W_law_1459 : decode b_W_law 1459 = .ok (.iconst 0, 1) := by decide +kernel
theorem d_W_law_1460 : decode b_W_law 1460 = .ok (.daload, 1) := by decide +kernel
theorem d_W_law_1461 : decode b_W_law 1461 = .ok (.aload 4, 2) := by decide +kernel
theorem d_W_law_1463 : decode b_W_law 1463 = .ok (.iconst 0, 1) := by decide +kernel
theorem d_W_law_1464 : decode b_W_law 1464 = .ok (.daload, 1) := by decide +kernel
theorem d_W_law_1465 : decode b_W_law 1465 = .ok (.dcmp .l, 1) := by decide +kernel
theorem d_W_law_1466 : decode b_W_law 1466 = .ok (.ifCond .eq 11, 3) := by decide +kernel
theorem d_W_law_1469 : decode b_W_law 1469 = .ok (.dload 7, 2) := by decide +kernel
theorem d_W_law_1471 : decode b_W_law 1471 = .ok (.dload 7, 2) := by decide +kernel
theorem d_W_law_1473 : decode b_W_law 1473 = .ok (.dcmp .l, 1) := by decide +kernel
theorem d_W_law_1474 : decode b_W_law 1474 = .ok (.ifCond .ne 5, 3) := by decide +kernel
theorem d_W_law_1477 : decode b_W_law 1477 = .ok (.iconst 0, 1) := by decide +kernel
theorem d_W_law_1478 : decode b_W_law 1478 = .ok (.ireturn, 1) := by decide +kernel
theorem d_W_law_1479 : decode b_W_law 1479 = .ok (.goto 309, 3) := by decide +kernel
theorem d_W_law_1482 : decode b_W_law 1482 = .ok (.aload_n 1, 1) := by decide +kernel
theorem d_W_law_1483 : decode b_W_law 1483 = .ok (.aload_n 0, 1) := by decide +kernel
theorem d_W_law_1484 : decode b_W_law 1484 = .ok (.iload 5, 2) := by decide +kernel
theorem d_W_law_1486 : decode b_W_law 1486 = .ok (.iconst 1, 1) := by decide +kernel
theorem d_W_law_1487 : decode b_W_law 1487 = .ok (.iadd, 1) := by decide +kernel
theorem d_W_law_1488 : decode b_W_law 1488 = .ok (.iaload, 1) := by decide +kernel
theorem d_W_law_1489 : decode b_W_law 1489 = .ok (.aload_n 0, 1) := by decide +kernel
theorem d_W_law_1490 : decode b_W_law 1490 = .ok (.iload 5, 2) := by decide +kernel
theorem d_W_law_1492 : decode b_W_law 1492 = .ok (.iconst 2, 1) := by decide +kernel
theorem d_W_law_1493 : decode b_W_law 1493 = .ok (.iadd, 1) := by decide +kernel
theorem d_W_law_1494 : decode b_W_law 1494 = .ok (.iaload, 1) := by decide +kernel
theorem d_W_law_1495 : decode b_W_law 1495 = .ok (.aload 4, 2) := by decide +kernel
theorem d_W_law_1497 : decode b_W_law 1497 = .ok (.invokestatic 162, 3) := by decide +kernel
theorem d_W_law_1500 : decode b_W_law 1500 = .ok (.istore 6, 2) := by decide +kernel
theorem d_W_law_1502 : decode b_W_law 1502 = .ok (.aload_n 2, 1) := by decide +kernel
theorem d_W_law_1503 : decode b_W_law 1503 = .ok (.aload_n 0, 1) := by decide +kernel
theorem d_W_law_1504 : decode b_W_law 1504 = .ok (.iload 5, 2) := by decide +kernel
theorem d_W_law_1506 : decode b_W_law 1506 = .ok (.iconst 1, 1) := by decide +kernel
theorem d_W_law_1507 : decode b_W_law 1507 = .ok (.iadd, 1) := by decide +kernel
theorem d_W_law_1508 : decode b_W_law 1508 = .ok (.iaload, 1) := by decide +kernel
theorem d_W_law_1509 : decode b_W_law 1509 = .ok (.aload_n 0, 1) := by decide +kernel
theorem d_W_law_1510 : decode b_W_law 1510 = .ok (.iload 5, 2) := by decide +kernel
theorem d_W_law_1512 : decode b_W_law 1512 = .ok (.iconst 2, 1) := by decide +kernel
theorem d_W_law_1513 : decode b_W_law 1513 = .ok (.iadd, 1) := by decide +kernel
theorem d_W_law_1514 : decode b_W_law 1514 = .ok (.iaload, 1) := by decide +kernel
theorem d_W_law_1515 : decode b_W_law 1515 = .ok (.invokevirtual 165, 3) := by decide +kernel
theorem d_W_law_1518 : decode b_W_law 1518 = .ok (.dstore 7, 2) := by decide +kernel
theorem d_W_law_1520 : decode b_W_law 1520 = .ok (.aload_n 2, 1) := by decide +kernel
theorem d_W_law_1521 : decode b_W_law 1521 = .ok (.invokevirtual 102, 3) := by decide +kernel
theorem d_W_law_1524 : decode b_W_law 1524 = .ok (.iload 6, 2) := by decide +kernel
theorem d_W_law_1526 : decode b_W_law 1526 = .ok (.if_icmp .eq 5, 3) := by decide +kernel
theorem d_W_law_1529 : decode b_W_law 1529 = .ok (.iconst 0, 1) := by decide +kernel
theorem d_W_law_1530 : decode b_W_law 1530 = .ok (.ireturn, 1) := by decide +kernel
theorem d_W_law_1531 : decode b_W_law 1531 = .ok (.iload 6, 2) := by decide +kernel
theorem d_W_law_1533 : decode b_W_law 1533 = .ok (.ifCond .ne 35, 3) := by decide +kernel
theorem d_W_law_1536 : decode b_W_law 1536 = .ok (.aload 4, 2) := by decide +kernel
theorem d_W_law_1538 : decode b_W_law 1538 = .ok (.iconst 0, 1) := by decide +kernel
theorem d_W_law_1539 : decode b_W_law 1539 = .ok (.daload, 1) := by decide +kernel
theorem d_W_law_1540 : decode b_W_law 1540 = .ok (.dload 7, 2) := by decide +kernel
theorem d_W_law_1542 : decode b_W_law 1542 = .ok (.dcmp .l, 1) := by decide +kernel
theorem d_W_law_1543 : decode b_W_law 1543 = .ok (.ifCond .eq 25, 3) := by decide +kernel
theorem d_W_law_1546 : decode b_W_law 1546 = .ok (.aload 4, 2) := by decide +kernel
theorem d_W_law_1548 : decode b_W_law 1548 = .ok (.iconst 0, 1) := by decide +kernel
theorem d_W_law_1549 : decode b_W_law 1549 = .ok (.daload, 1) := by decide +kernel
theorem d_W_law_1550 : decode b_W_law 1550 = .ok (.aload 4, 2) := by decide +kernel
theorem d_W_law_1552 : decode b_W_law 1552 = .ok (.iconst 0, 1) := by decide +kernel
theorem d_W_law_1553 : decode b_W_law 1553 = .ok (.daload, 1) := by decide +kernel
theorem d_W_law_1554 : decode b_W_law 1554 = .ok (.dcmp .l, 1) := by decide +kernel
theorem d_W_law_1555 : decode b_W_law 1555 = .ok (.ifCond .eq 11, 3) := by decide +kernel
theorem d_W_law_1558 : decode b_W_law 1558 = .ok (.dload 7, 2) := by decide +kernel
theorem d_W_law_1560 : decode b_W_law 1560 = .ok (.dload 7, 2) := by decide +kernel
theorem d_W_law_1562 : decode b_W_law 1562 = .ok (.dcmp .l, 1) := by decide +kernel
theorem d_W_law_1563 : decode b_W_law 1563 = .ok (.ifCond .ne 5, 3) := by decide +kernel
theorem d_W_law_1566 : decode b_W_law 1566 = .ok (.iconst 0, 1) := by decide +kernel
theorem d_W_law_1567 : decode b_W_law 1567 = .ok (.ireturn, 1) := by decide +kernel
theorem d_W_law_1568 : decode b_W_law 1568 = .ok (.goto 220, 3) := by decide +kernel
theorem d_W_law_1571 : decode b_W_law 1571 = .ok (.aload_n 1, 1) := by decide +kernel
theorem d_W_law_1572 : decode b_W_law 1572 = .ok (.aload_n 0, 1) := by decide +kernel
theorem d_W_law_1573 : decode b_W_law 1573 = .ok (.iload 5, 2) := by decide +kernel
theorem d_W_law_1575 : decode b_W_law 1575 = .ok (.iconst 1, 1) := by decide +kernel
theorem d_W_law_1576 : decode b_W_law 1576 = .ok (.iadd, 1) := by decide +kernel
theorem d_W_law_1577 : decode b_W_law 1577 = .ok (.iaload, 1) := by decide +kernel
theorem d_W_law_1578 : decode b_W_law 1578 = .ok (.aload_n 0, 1) := by decide +kernel
theorem d_W_law_1579 : decode b_W_law 1579 = .ok (.iload 5, 2) := by decide +kernel
theorem d_W_law_1581 : decode b_W_law 1581 = .ok (.iconst 2, 1) := by decide +kernel
theorem d_W_law_1582 : decode b_W_law 1582 = .ok (.iadd, 1) := by decide +kernel
theorem d_W_law_1583 : decode b_W_law 1583 = .ok (.iaload, 1) := by decide +kernel
theorem d_W_law_1584 : decode b_W_law 1584 = .ok (.aload_n 3, 1) := by decide +kernel
theorem d_W_law_1585 : decode b_W_law 1585 = .ok (.invokestatic 166, 3) := by decide +kernel
theorem d_W_law_1588 : decode b_W_law 1588 = .ok (.istore 6, 2) := by decide +kernel
theorem d_W_law_1590 : decode b_W_law 1590 = .ok (.aload_n 2, 1) := by decide +kernel
theorem d_W_law_1591 : decode b_W_law 1591 = .ok (.aload_n 0, 1) := by decide +kernel
theorem d_W_law_1592 : decode b_W_law 1592 = .ok (.iload 5, 2) := by decide +kernel
theorem d_W_law_1594 : decode b_W_law 1594 = .ok (.iconst 1, 1) := by decide +kernel
theorem d_W_law_1595 : decode b_W_law 1595 = .ok (.iadd, 1) := by decide +kernel
theorem d_W_law_1596 : decode b_W_law 1596 = .ok (.iaload, 1) := by decide +kernel
theorem d_W_law_1597 : decode b_W_law 1597 = .ok (.aload_n 0, 1) := by decide +kernel
theorem d_W_law_1598 : decode b_W_law 1598 = .ok (.iload 5, 2) := by decide +kernel
theorem d_W_law_1600 : decode b_W_law 1600 = .ok (.iconst 2, 1) := by decide +kernel
theorem d_W_law_1601 : decode b_W_law 1601 = .ok (.iadd, 1) := by decide +kernel
theorem d_W_law_1602 : decode b_W_law 1602 = .ok (.iaload, 1) := by decide +kernel
theorem d_W_law_1603 : decode b_W_law 1603 = .ok (.invokevirtual 168, 3) := by decide +kernel
theorem d_W_law_1606 : decode b_W_law 1606 = .ok (.istore 7, 2) := by decide +kernel
theorem d_W_law_1608 : decode b_W_law 1608 = .ok (.aload_n 2, 1) := by decide +kernel
theorem d_W_law_1609 : decode b_W_law 1609 = .ok (.invokevirtual 102, 3) := by decide +kernel
theorem d_W_law_1612 : decode b_W_law 1612 = .ok (.iload 6, 2) := by decide +kernel
theorem d_W_law_1614 : decode b_W_law 1614 = .ok (.if_icmp .eq 5, 3) := by decide +kernel
theorem d_W_law_1617 : decode b_W_law 1617 = .ok (.iconst 0, 1) := by decide +kernel
theorem d_W_law_1618 : decode b_W_law 1618 = .ok (.ireturn, 1) := by decide +kernel
theorem d_W_law_1619 : decode b_W_law 1619 = .ok (.iload 6, 2) := by decide +kernel
theorem d_W_law_1621 : decode b_W_law 1621 = .ok (.ifCond .ne 15, 3) := by decide +kernel
theorem d_W_law_1624 : decode b_W_law 1624 = .ok (.aload_n 3, 1) := by decide +kernel
theorem d_W_law_1625 : decode b_W_law 1625 = .ok (.iconst 0, 1) := by decide +kernel
theorem d_W_law_1626 : decode b_W_law 1626 = .ok (.laload, 1) := by decide +kernel
theorem d_W_law_1627 : decode b_W_law 1627 = .ok (.iload 7, 2) := by decide +kernel
theorem d_W_law_1629 : decode b_W_law 1629 = .ok (.i2l, 1) := by decide +kernel
theorem d_W_law_1630 : decode b_W_law 1630 = .ok (.lcmp, 1) := by decide +kernel
theorem d_W_law_1631 : decode b_W_law 1631 = .ok (.ifCond .eq 5, 3) := by decide +kernel
theorem d_W_law_1634 : decode b_W_law 1634 = .ok (.iconst 0, 1) := by decide +kernel
theorem d_W_law_1635 : decode b_W_law 1635 = .ok (.ireturn, 1) := by decide +kernel
theorem d_W_law_1636 : decode b_W_law 1636 = .ok (.goto 152, 3) := by decide +kernel
theorem d_W_law_1639 : decode b_W_law 1639 = .ok (.aload_n 1, 1) := by decide +kernel
theorem d_W_law_1640 : decode b_W_law 1640 = .ok (.aload_n 0, 1) := by decide +kernel
theorem d_W_law_1641 : decode b_W_law 1641 = .ok (.iload 5, 2) := by decide +kernel
theorem d_W_law_1643 : decode b_W_law 1643 = .ok (.iconst 1, 1) := by decide +kernel
theorem d_W_law_1644 : decode b_W_law 1644 = .ok (.iadd, 1) := by decide +kernel
theorem d_W_law_1645 : decode b_W_law 1645 = .ok (.iaload, 1) := by decide +kernel
theorem d_W_law_1646 : decode b_W_law 1646 = .ok (.aload_n 0, 1) := by decide +kernel
theorem d_W_law_1647 : decode b_W_law 1647 = .ok (.iload 5, 2) := by decide +kernel
theorem d_W_law_1649 : decode b_W_law 1649 = .ok (.iconst 2, 1) := by decide +kernel
theorem d_W_law_1650 : decode b_W_law 1650 = .ok (.iadd, 1) := by decide +kernel
theorem d_W_law_1651 : decode b_W_law 1651 = .ok (.iaload, 1) := by decide +kernel
theorem d_W_law_1652 : decode b_W_law 1652 = .ok (.aload_n 3, 1) := by decide +kernel
theorem d_W_law_1653 : decode b_W_law 1653 = .ok (.invokestatic 169, 3) := by decide +kernel
theorem d_W_law_1656 : decode b_W_law 1656 = .ok (.istore 6, 2) := by decide +kernel
theorem d_W_law_1658 : decode b_W_law 1658 = .ok (.aload_n 2, 1) := by decide +kernel
theorem d_W_law_1659 : decode b_W_law 1659 = .ok (.aload_n 0, 1) := by decide +kernel
theorem d_W_law_1660 : decode b_W_law 1660 = .ok (.iload 5, 2) := by decide +kernel
theorem d_W_law_1662 : decode b_W_law 1662 = .ok (.iconst 1, 1) := by decide +kernel
theorem d_W_law_1663 : decode b_W_law 1663 = .ok (.iadd, 1) := by decide +kernel
theorem d_W_law_1664 : decode b_W_law 1664 = .ok (.iaload, 1) := by decide +kernel
theorem d_W_law_1665 : decode b_W_law 1665 = .ok (.aload_n 0, 1) := by decide +kernel
theorem d_W_law_1666 : decode b_W_law 1666 = .ok (.iload 5, 2) := by decide +kernel
theorem d_W_law_1668 : decode b_W_law 1668 = .ok (.iconst 2, 1) := by decide +kernel
theorem d_W_law_1669 : decode b_W_law 1669 = .ok (.iadd, 1) := by decide +kernel
theorem d_W_law_1670 : decode b_W_law 1670 = .ok (.iaload, 1) := by decide +kernel
theorem d_W_law_1671 : decode b_W_law 1671 = .ok (.invokevirtual 171, 3) := by decide +kernel
theorem d_W_law_1674 : decode b_W_law 1674 = .ok (.istore 7, 2) := by decide +kernel
theorem d_W_law_1676 : decode b_W_law 1676 = .ok (.aload_n 2, 1) := by decide +kernel
theorem d_W_law_1677 : decode b_W_law 1677 = .ok (.invokevirtual 102, 3) := by decide +kernel
theorem d_W_law_1680 : decode b_W_law 1680 = .ok (.iload 6, 2) := by decide +kernel
theorem d_W_law_1682 : decode b_W_law 1682 = .ok (.if_icmp .eq 5, 3) := by decide +kernel
theorem d_W_law_1685 : decode b_W_law 1685 = .ok (.iconst 0, 1) := by decide +kernel
theorem d_W_law_1686 : decode b_W_law 1686 = .ok (.ireturn, 1) := by decide +kernel
theorem d_W_law_1687 : decode b_W_law 1687 = .ok (.iload 6, 2) := by decide +kernel
theorem d_W_law_1689 : decode b_W_law 1689 = .ok (.ifCond .ne 15, 3) := by decide +kernel
theorem d_W_law_1692 : decode b_W_law 1692 = .ok (.aload_n 3, 1) := by decide +kernel
theorem d_W_law_1693 : decode b_W_law 1693 = .ok (.iconst 0, 1) := by decide +kernel
theorem d_W_law_1694 : decode b_W_law 1694 = .ok (.laload, 1) := by decide +kernel
theorem d_W_law_1695 : decode b_W_law 1695 = .ok (.iload 7, 2) := by decide +kernel
theorem d_W_law_1697 : decode b_W_law 1697 = .ok (.i2l, 1) := by decide +kernel
theorem d_W_law_1698 : decode b_W_law 1698 = .ok (.lcmp, 1) := by decide +kernel
theorem d_W_law_1699 : decode b_W_law 1699 = .ok (.ifCond .eq 5, 3) := by decide +kernel
theorem d_W_law_1702 : decode b_W_law 1702 = .ok (.iconst 0, 1) := by decide +kernel
theorem d_W_law_1703 : decode b_W_law 1703 = .ok (.ireturn, 1) := by decide +kernel
theorem d_W_law_1704 : decode b_W_law 1704 = .ok (.goto 84, 3) := by decide +kernel
theorem d_W_law_1707 : decode b_W_law 1707 = .ok (.aload_n 1, 1) := by decide +kernel
theorem d_W_law_1708 : decode b_W_law 1708 = .ok (.aload_n 0, 1) := by decide +kernel
theorem d_W_law_1709 : decode b_W_law 1709 = .ok (.iload 5, 2) := by decide +kernel
theorem d_W_law_1711 : decode b_W_law 1711 = .ok (.iconst 1, 1) := by decide +kernel
theorem d_W_law_1712 : decode b_W_law 1712 = .ok (.iadd, 1) := by decide +kernel
theorem d_W_law_1713 : decode b_W_law 1713 = .ok (.iaload, 1) := by decide +kernel
theorem d_W_law_1714 : decode b_W_law 1714 = .ok (.aload_n 3, 1) := by decide +kernel
theorem d_W_law_1715 : decode b_W_law 1715 = .ok (.invokestatic 172, 3) := by decide +kernel
theorem d_W_law_1718 : decode b_W_law 1718 = .ok (.istore 6, 2) := by decide +kernel
theorem d_W_law_1720 : decode b_W_law 1720 = .ok (.aload_n 2, 1) := by decide +kernel
theorem d_W_law_1721 : decode b_W_law 1721 = .ok (.aload_n 0, 1) := by decide +kernel
theorem d_W_law_1722 : decode b_W_law 1722 = .ok (.iload 5, 2) := by decide +kernel
theorem d_W_law_1724 : decode b_W_law 1724 = .ok (.iconst 1, 1) := by decide +kernel
theorem d_W_law_1725 : decode b_W_law 1725 = .ok (.iadd, 1) := by decide +kernel
theorem d_W_law_1726 : decode b_W_law 1726 = .ok (.iaload, 1) := by decide +kernel
theorem d_W_law_1727 : decode b_W_law 1727 = .ok (.invokevirtual 174, 3) := by decide +kernel
theorem d_W_law_1730 : decode b_W_law 1730 = .ok (.istore 7, 2) := by decide +kernel
theorem d_W_law_1732 : decode b_W_law 1732 = .ok (.aload_n 2, 1) := by decide +kernel
theorem d_W_law_1733 : decode b_W_law 1733 = .ok (.invokevirtual 102, 3) := by decide +kernel
theorem d_W_law_1736 : decode b_W_law 1736 = .ok (.iload 6, 2) := by decide +kernel
theorem d_W_law_1738 : decode b_W_law 1738 = .ok (.if_icmp .eq 5, 3) := by decide +kernel
theorem d_W_law_1741 : decode b_W_law 1741 = .ok (.iconst 0, 1) := by decide +kernel
theorem d_W_law_1742 : decode b_W_law 1742 = .ok (.ireturn, 1) := by decide +kernel
theorem d_W_law_1743 : decode b_W_law 1743 = .ok (.iload 6, 2) := by decide +kernel
theorem d_W_law_1745 : decode b_W_law 1745 = .ok (.ifCond .ne 15, 3) := by decide +kernel
theorem d_W_law_1748 : decode b_W_law 1748 = .ok (.aload_n 3, 1) := by decide +kernel
theorem d_W_law_1749 : decode b_W_law 1749 = .ok (.iconst 0, 1) := by decide +kernel
theorem d_W_law_1750 : decode b_W_law 1750 = .ok (.laload, 1) := by decide +kernel
theorem d_W_law_1751 : decode b_W_law 1751 = .ok (.iload 7, 2) := by decide +kernel
theorem d_W_law_1753 : decode b_W_law 1753 = .ok (.i2l, 1) := by decide +kernel
theorem d_W_law_1754 : decode b_W_law 1754 = .ok (.lcmp, 1) := by decide +kernel
theorem d_W_law_1755 : decode b_W_law 1755 = .ok (.ifCond .eq 5, 3) := by decide +kernel
theorem d_W_law_1758 : decode b_W_law 1758 = .ok (.iconst 0, 1) := by decide +kernel
theorem d_W_law_1759 : decode b_W_law 1759 = .ok (.ireturn, 1) := by decide +kernel
theorem d_W_law_1760 : decode b_W_law 1760 = .ok (.goto 28, 3) := by decide +kernel
theorem d_W_law_1763 : decode b_W_law 1763 = .ok (.aload_n 1, 1) := by decide +kernel
theorem d_W_law_1764 : decode b_W_law 1764 = .ok (.aload_n 0, 1) := by decide +kernel
theorem d_W_law_1765 : decode b_W_law 1765 = .ok (.iload 5, 2) := by decide +kernel
theorem d_W_law_1767 : decode b_W_law 1767 = .ok (.iconst 1, 1) := by decide +kernel
theorem d_W_law_1768 : decode b_W_law 1768 = .ok (.iadd, 1) := by decide +kernel
theorem d_W_law_1769 : decode b_W_law 1769 = .ok (.iaload, 1) := by decide +kernel
theorem d_W_law_1770 : decode b_W_law 1770 = .ok (.invokevirtual 175, 3) := by decide +kernel
theorem d_W_law_1773 : decode b_W_law 1773 = .ok (.aload_n 2, 1) := by decide +kernel
theorem d_W_law_1774 : decode b_W_law 1774 = .ok (.aload_n 0, 1) := by decide +kernel
theorem d_W_law_1775 : decode b_W_law 1775 = .ok (.iload 5, 2) := by decide +kernel
theorem d_W_law_1777 : decode b_W_law 1777 = .ok (.iconst 1, 1) := by decide +kernel
theorem d_W_law_1778 : decode b_W_law 1778 = .ok (.iadd, 1) := by decide +kernel
theorem d_W_law_1779 : decode b_W_law 1779 = .ok (.iaload, 1) := by decide +kernel
theorem d_W_law_1780 : decode b_W_law 1780 = .ok (.invokevirtual 178, 3) := by decide +kernel
theorem d_W_law_1783 : decode b_W_law 1783 = .ok (.if_icmp .eq 5, 3) := by decide +kernel
theorem d_W_law_1786 : decode b_W_law 1786 = .ok (.iconst 0, 1) := by decide +kernel
theorem d_W_law_1787 : decode b_W_law 1787 = .ok (.ireturn, 1) := by decide +kernel
theorem d_W_law_1788 : decode b_W_law 1788 = .ok (.iinc 5 6, 3) := by decide +kernel
theorem d_W_law_1791 : decode b_W_law 1791 = .ok (.goto (-1763), 3) := by decide +kernel
theorem d_W_law_1794 : decode b_W_law 1794 = .ok (.iconst 1, 1) := by decide +kernel
theorem d_W_law_1795 : decode b_W_law 1795 = .ok (.ireturn, 1) := by decide +kernel
def R_law : String := "RegistryDeskLaw"
def lw_P (b : Addr) (xs : List Int32) (args : Array Value) (s : State) : Prop := args = #[.ref b] ∧ s.IntsAt b xs ∧ xs.length ≤ 3072 ∧ (Jvm.Cond.and given_1 narrow_1).before args s = true
def lw_Q (_ : Array Value) (s : State) (o : Outcome) (t : State) : Prop := o = .returned (some (.int 1)) ∧ Framed s o t [] 655733 7128906
def lw_Z (below : List Frame) (a : Array Value) (s : State) : State → Prop := fun t => ∃ o, t.status = .running ∧ Ended t below o ∧ lw_Q a s o t
/-- the law's own end, with 1 on the stack, nothing written that was there before, its room as the claim has it -/
theorem lw_ret {p : Program} {l : Launch} {e : Env} {s : State} {m : MethodId} {below : List Frame} {meth : Method} {c : Code} {b : Nat} (hx : p.tables.exec = Jvm.exec) (hb : c.code = code) (hr : meth.sig.returnType = ret) (hlocks : meth.locks = false) {pc : Nat} {H : Heap} {ls : Array Slot} (hdg : decode code pc = .ok (.ireturn, 1)) : W p l e room_1 s m #[Value.ref b] below meth c H [] 655733 7128906 (lw_Z below #[Value.ref b] s) (F0 m pc ls [.int 1]) := by
  intro T hT X
  obtain ⟨fs, hret, hrun, hended, hW, hframe⟩ := X.leave (v := some (.int 1)) (hlocks := hlocks) (fun h => by rw [hr] at h; cases h)
  have hmeth' : T.vm.method? m = some meth := X.method'
  refine ⟨T.setFrames fs, ?_, .returned (some (.int 1)), hrun, hended, rfl, ⟨_, rfl⟩, hW, hframe⟩
  jvm_step X.here [X.here.top, hx, hb, hdg, hmeth', hr, ret, narrow_b1]
  (try refine ⟨rfl, ?_⟩); (try refine ⟨rfl, ?_⟩)
  first | (intro acts; rw [hret _ acts rfl rfl rfl]) | rw [hret _ _ rfl rfl rfl]
  exact Steps.refl _
/-- what holds at the law's entry: the machine, the code, the tables' words (any of lw_tbl by 'hts w (by decide +kernel)'), the script of L ints xs at the cell b, what the Statement gives of the start (any of its parts by flat_of_before) -/
def lw_At (p : Program) (s : State) (m : MethodId) (meth : Method) (c : Code) (b L : Nat) (xs : Nat → Int32) : Prop :=
  p.tables.exec = Jvm.exec ∧ c.code = code ∧ meth.sig.returnType = ret ∧ c.maxLocals = 9 ∧ s.vm.findClass R_law = some m.cls ∧ (∀ w ∈ lw_tbl, w.before #[Value.ref b] s = true) ∧ va_X b L xs s s.heap ∧ b < s.heap.size ∧ meth.locks = false ∧ (Jvm.Cond.and given_1 narrow_1).before #[Value.ref b] s = true

