theorem dXL_law_239 : decode code 239 = .ok (.land, 1) := by decide +kernel
theorem dXL_law_240 : decode code 240 = .ok (.lor, 1) := by decide +kernel
theorem dXL_law_241 : decode code 241 = .ok (.invokevirtual 25, 3) := by decide +kernel
theorem dXL_law_244 : decode code 244 = .ok (.aload_n 2, 1) := by decide +kernel
theorem dXL_law_245 : decode code 245 = .ok (.aload_n 0, 1) := by decide +kernel
theorem dXL_law_246 : decode code 246 = .ok (.iload_n 3, 1) := by decide +kernel
theorem dXL_law_247 : decode code 247 = .ok (.iconst 1, 1) := by decide +kernel
theorem dXL_law_248 : decode code 248 = .ok (.iadd, 1) := by decide +kernel
theorem dXL_law_249 : decode code 249 = .ok (.iaload, 1) := by decide +kernel
theorem dXL_law_250 : decode code 250 = .ok (.i2l, 1) := by decide +kernel
theorem dXL_law_251 : decode code 251 = .ok (.bipush 32, 2) := by decide +kernel
theorem dXL_law_253 : decode code 253 = .ok (.lshl, 1) := by decide +kernel
theorem dXL_law_254 : decode code 254 = .ok (.aload_n 0, 1) := by decide +kernel
theorem dXL_law_255 : decode code 255 = .ok (.iload_n 3, 1) := by decide +kernel
theorem dXL_law_256 : decode code 256 = .ok (.iconst 2, 1) := by decide +kernel
theorem dXL_law_257 : decode code 257 = .ok (.iadd, 1) := by decide +kernel
theorem dXL_law_258 : decode code 258 = .ok (.iaload, 1) := by decide +kernel
theorem dXL_law_259 : decode code 259 = .ok (.i2l, 1) := by decide +kernel
theorem dXL_law_260 : decode code 260 = .ok (.ldc2_w 23, 3) := by decide +kernel
theorem dXL_law_263 : decode code 263 = .ok (.land, 1) := by decide +kernel
theorem dXL_law_264 : decode code 264 = .ok (.lor, 1) := by decide +kernel
theorem dXL_law_265 : decode code 265 = .ok (.invokevirtual 29, 3) := by decide +kernel
theorem dXL_law_268 : decode code 268 = .ok (.if_icmp .eq 431, 3) := by decide +kernel
theorem dXL_law_271 : decode code 271 = .ok (.iconst 0, 1) := by decide +kernel
theorem dXL_law_272 : decode code 272 = .ok (.ireturn, 1) := by decide +kernel
theorem dXL_law_273 : decode code 273 = .ok (.aload_n 1, 1) := by decide +kernel
theorem dXL_law_274 : decode code 274 = .ok (.invokevirtual 30, 3) := by decide +kernel
theorem dXL_law_277 : decode code 277 = .ok (.aload_n 2, 1) := by decide +kernel
theorem dXL_law_278 : decode code 278 = .ok (.invokevirtual 34, 3) := by decide +kernel
theorem dXL_law_281 : decode code 281 = .ok (.lcmp, 1) := by decide +kernel
theorem dXL_law_282 : decode code 282 = .ok (.ifCond .eq 417, 3) := by decide +kernel
theorem dXL_law_285 : decode code 285 = .ok (.iconst 0, 1) := by decide +kernel
theorem dXL_law_286 : decode code 286 = .ok (.ireturn, 1) := by decide +kernel
theorem dXL_law_287 : decode code 287 = .ok (.aload_n 1, 1) := by decide +kernel
theorem dXL_law_288 : decode code 288 = .ok (.aload_n 0, 1) := by decide +kernel
theorem dXL_law_289 : decode code 289 = .ok (.iload_n 3, 1) := by decide +kernel
theorem dXL_law_290 : decode code 290 = .ok (.iconst 1, 1) := by decide +kernel
theorem dXL_law_291 : decode code 291 = .ok (.iadd, 1) := by decide +kernel
theorem dXL_law_292 : decode code 292 = .ok (.iaload, 1) := by decide +kernel
theorem dXL_law_293 : decode code 293 = .ok (.invokevirtual 35, 3) := by decide +kernel
theorem dXL_law_296 : decode code 296 = .ok (.aload_n 2, 1) := by decide +kernel
theorem dXL_law_297 : decode code 297 = .ok (.aload_n 0, 1) := by decide +kernel
theorem dXL_law_298 : decode code 298 = .ok (.iload_n 3, 1) := by decide +kernel
theorem dXL_law_299 : decode code 299 = .ok (.iconst 1, 1) := by decide +kernel
theorem dXL_law_300 : decode code 300 = .ok (.iadd, 1) := by decide +kernel
theorem dXL_law_301 : decode code 301 = .ok (.iaload, 1) := by decide +kernel
theorem dXL_law_302 : decode code 302 = .ok (.invokevirtual 39, 3) := by decide +kernel
theorem dXL_law_305 : decode code 305 = .ok (.if_icmp .eq 394, 3) := by decide +kernel
theorem dXL_law_308 : decode code 308 = .ok (.iconst 0, 1) := by decide +kernel
theorem dXL_law_309 : decode code 309 = .ok (.ireturn, 1) := by decide +kernel
theorem dXL_law_310 : decode code 310 = .ok (.aload_n 1, 1) := by decide +kernel
theorem dXL_law_311 : decode code 311 = .ok (.aload_n 0, 1) := by decide +kernel
theorem dXL_law_312 : decode code 312 = .ok (.iload_n 3, 1) := by decide +kernel
theorem dXL_law_313 : decode code 313 = .ok (.iconst 1, 1) := by decide +kernel
theorem dXL_law_314 : decode code 314 = .ok (.iadd, 1) := by decide +kernel
theorem dXL_law_315 : decode code 315 = .ok (.iaload, 1) := by decide +kernel
theorem dXL_law_316 : decode code 316 = .ok (.aload_n 0, 1) := by decide +kernel
theorem dXL_law_317 : decode code 317 = .ok (.iload_n 3, 1) := by decide +kernel
theorem dXL_law_318 : decode code 318 = .ok (.iconst 2, 1) := by decide +kernel
theorem dXL_law_319 : decode code 319 = .ok (.iadd, 1) := by decide +kernel
theorem dXL_law_320 : decode code 320 = .ok (.iaload, 1) := by decide +kernel
theorem dXL_law_321 : decode code 321 = .ok (.invokevirtual 40, 3) := by decide +kernel
theorem dXL_law_324 : decode code 324 = .ok (.aload_n 2, 1) := by decide +kernel
theorem dXL_law_325 : decode code 325 = .ok (.aload_n 0, 1) := by decide +kernel
theorem dXL_law_326 : decode code 326 = .ok (.iload_n 3, 1) := by decide +kernel
theorem dXL_law_327 : decode code 327 = .ok (.iconst 1, 1) := by decide +kernel
theorem dXL_law_328 : decode code 328 = .ok (.iadd, 1) := by decide +kernel
theorem dXL_law_329 : decode code 329 = .ok (.iaload, 1) := by decide +kernel
theorem dXL_law_330 : decode code 330 = .ok (.aload_n 0, 1) := by decide +kernel
theorem dXL_law_331 : decode code 331 = .ok (.iload_n 3, 1) := by decide +kernel
theorem dXL_law_332 : decode code 332 = .ok (.iconst 2, 1) := by decide +kernel
theorem dXL_law_333 : decode code 333 = .ok (.iadd, 1) := by decide +kernel
theorem dXL_law_334 : decode code 334 = .ok (.iaload, 1) := by decide +kernel
theorem dXL_law_335 : decode code 335 = .ok (.invokevirtual 44, 3) := by decide +kernel
theorem dXL_law_338 : decode code 338 = .ok (.if_icmp .eq 361, 3) := by decide +kernel
theorem dXL_law_341 : decode code 341 = .ok (.iconst 0, 1) := by decide +kernel
theorem dXL_law_342 : decode code 342 = .ok (.ireturn, 1) := by decide +kernel
theorem dXL_law_343 : decode code 343 = .ok (.aload_n 1, 1) := by decide +kernel
theorem dXL_law_344 : decode code 344 = .ok (.aload_n 0, 1) := by decide +kernel
theorem dXL_law_345 : decode code 345 = .ok (.iload_n 3, 1) := by decide +kernel
theorem dXL_law_346 : decode code 346 = .ok (.iconst 1, 1) := by decide +kernel
theorem dXL_law_347 : decode code 347 = .ok (.iadd, 1) := by decide +kernel
theorem dXL_law_348 : decode code 348 = .ok (.iaload, 1) := by decide +kernel
theorem dXL_law_349 : decode code 349 = .ok (.invokevirtual 45, 3) := by decide +kernel
theorem dXL_law_352 : decode code 352 = .ok (.aload_n 2, 1) := by decide +kernel
theorem dXL_law_353 : decode code 353 = .ok (.aload_n 0, 1) := by decide +kernel
theorem dXL_law_354 : decode code 354 = .ok (.iload_n 3, 1) := by decide +kernel
theorem dXL_law_355 : decode code 355 = .ok (.iconst 1, 1) := by decide +kernel
theorem dXL_law_356 : decode code 356 = .ok (.iadd, 1) := by decide +kernel
theorem dXL_law_357 : decode code 357 = .ok (.iaload, 1) := by decide +kernel
theorem dXL_law_358 : decode code 358 = .ok (.invokevirtual 48, 3) := by decide +kernel
theorem dXL_law_361 : decode code 361 = .ok (.if_icmp .eq 338, 3) := by decide +kernel
theorem dXL_law_364 : decode code 364 = .ok (.iconst 0, 1) := by decide +kernel
theorem dXL_law_365 : decode code 365 = .ok (.ireturn, 1) := by decide +kernel
theorem dXL_law_366 : decode code 366 = .ok (.aload_n 1, 1) := by decide +kernel
theorem dXL_law_367 : decode code 367 = .ok (.aload_n 0, 1) := by decide +kernel
theorem dXL_law_368 : decode code 368 = .ok (.iload_n 3, 1) := by decide +kernel
theorem dXL_law_369 : decode code 369 = .ok (.iconst 1, 1) := by decide +kernel
theorem dXL_law_370 : decode code 370 = .ok (.iadd, 1) := by decide +kernel
theorem dXL_law_371 : decode code 371 = .ok (.iaload, 1) := by decide +kernel
theorem dXL_law_372 : decode code 372 = .ok (.invokevirtual 49, 3) := by decide +kernel
theorem dXL_law_375 : decode code 375 = .ok (.aload_n 2, 1) := by decide +kernel
theorem dXL_law_376 : decode code 376 = .ok (.aload_n 0, 1) := by decide +kernel
theorem dXL_law_377 : decode code 377 = .ok (.iload_n 3, 1) := by decide +kernel
theorem dXL_law_378 : decode code 378 = .ok (.iconst 1, 1) := by decide +kernel
theorem dXL_law_379 : decode code 379 = .ok (.iadd, 1) := by decide +kernel
theorem dXL_law_380 : decode code 380 = .ok (.iaload, 1) := by decide +kernel
theorem dXL_law_381 : decode code 381 = .ok (.invokevirtual 52, 3) := by decide +kernel
theorem dXL_law_384 : decode code 384 = .ok (.if_icmp .eq 315, 3) := by decide +kernel
theorem dXL_law_387 : decode code 387 = .ok (.iconst 0, 1) := by decide +kernel
theorem dXL_law_388 : decode code 388 = .ok (.ireturn, 1) := by decide +kernel
theorem dXL_law_389 : decode code 389 = .ok (.aload_n 1, 1) := by decide +kernel
theorem dXL_law_390 : decode code 390 = .ok (.aload_n 0, 1) := by decide +kernel
theorem dXL_law_391 : decode code 391 = .ok (.iload_n 3, 1) := by decide +kernel
theorem dXL_law_392 : decode code 392 = .ok (.iconst 1, 1) := by decide +kernel
theorem dXL_law_393 : decode code 393 = .ok (.iadd, 1) := by decide +kernel
theorem dXL_law_394 : decode code 394 = .ok (.iaload, 1) := by decide +kernel
theorem dXL_law_395 : decode code 395 = .ok (.invokevirtual 53, 3) := by decide +kernel
theorem dXL_law_398 : decode code 398 = .ok (.aload_n 2, 1) := by decide +kernel
theorem dXL_law_399 : decode code 399 = .ok (.aload_n 0, 1) := by decide +kernel
theorem dXL_law_400 : decode code 400 = .ok (.iload_n 3, 1) := by decide +kernel
theorem dXL_law_401 : decode code 401 = .ok (.iconst 1, 1) := by decide +kernel
theorem dXL_law_402 : decode code 402 = .ok (.iadd, 1) := by decide +kernel
theorem dXL_law_403 : decode code 403 = .ok (.iaload, 1) := by decide +kernel
theorem dXL_law_404 : decode code 404 = .ok (.invokevirtual 56, 3) := by decide +kernel
theorem dXL_law_407 : decode code 407 = .ok (.if_icmp .eq 292, 3) := by decide +kernel
theorem dXL_law_410 : decode code 410 = .ok (.iconst 0, 1) := by decide +kernel
theorem dXL_law_411 : decode code 411 = .ok (.ireturn, 1) := by decide +kernel
theorem dXL_law_412 : decode code 412 = .ok (.aload_n 1, 1) := by decide +kernel
theorem dXL_law_413 : decode code 413 = .ok (.aload_n 0, 1) := by decide +kernel
