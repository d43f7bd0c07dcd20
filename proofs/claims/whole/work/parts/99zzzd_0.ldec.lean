/-! the law decoded -/
theorem dL_0 : decode code 0 = .ok (.new 7, 3) := by decide +kernel
theorem dL_3 : decode code 3 = .ok (.dup, 1) := by decide +kernel
theorem dL_4 : decode code 4 = .ok (.invokespecial 9, 3) := by decide +kernel
theorem dL_7 : decode code 7 = .ok (.astore_n 1, 1) := by decide +kernel
theorem dL_8 : decode code 8 = .ok (.new 10, 3) := by decide +kernel
theorem dL_11 : decode code 11 = .ok (.dup, 1) := by decide +kernel
theorem dL_12 : decode code 12 = .ok (.invokespecial 12, 3) := by decide +kernel
theorem dL_15 : decode code 15 = .ok (.astore_n 2, 1) := by decide +kernel
theorem dL_16 : decode code 16 = .ok (.iconst 0, 1) := by decide +kernel
theorem dL_17 : decode code 17 = .ok (.istore_n 3, 1) := by decide +kernel
theorem dL_18 : decode code 18 = .ok (.iload_n 3, 1) := by decide +kernel
theorem dL_19 : decode code 19 = .ok (.aload_n 0, 1) := by decide +kernel
theorem dL_20 : decode code 20 = .ok (.arraylength, 1) := by decide +kernel
theorem dL_21 : decode code 21 = .ok (.bipush 6, 2) := by decide +kernel
theorem dL_23 : decode code 23 = .ok (.isub, 1) := by decide +kernel
theorem dL_24 : decode code 24 = .ok (.if_icmp .gt 1429, 3) := by decide +kernel
theorem dL_27 : decode code 27 = .ok (.aload_n 0, 1) := by decide +kernel
theorem dL_28 : decode code 28 = .ok (.iload_n 3, 1) := by decide +kernel
theorem dL_29 : decode code 29 = .ok (.iaload, 1) := by decide +kernel
theorem dL_30 : decode code 30 = .ok (.bipush 63, 2) := by decide +kernel
theorem dL_32 : decode code 32 = .ok (.iand, 1) := by decide +kernel
theorem dL_33 : decode code 33 = .ok (.tableswitch 1414 0 43 #[191, 244, 287, 330, 373, 406, 449, 492, 515, 548, 611, 634, 647, 660, 673, 686, 709, 732, 755, 768, 801, 834, 857, 870, 893, 916, 939, 962, 985, 998, 1021, 1044, 1068, 1121, 1144, 1177, 1210, 1233, 1266, 1299, 1332, 1355, 1378, 1401], 191) := by decide +kernel
theorem dL_224 : decode code 224 = .ok (.aload_n 1, 1) := by decide +kernel
theorem dL_225 : decode code 225 = .ok (.aload_n 0, 1) := by decide +kernel
theorem dL_226 : decode code 226 = .ok (.iload_n 3, 1) := by decide +kernel
theorem dL_227 : decode code 227 = .ok (.iconst 1, 1) := by decide +kernel
theorem dL_228 : decode code 228 = .ok (.iadd, 1) := by decide +kernel
theorem dL_229 : decode code 229 = .ok (.iaload, 1) := by decide +kernel
theorem dL_230 : decode code 230 = .ok (.aload_n 0, 1) := by decide +kernel
theorem dL_231 : decode code 231 = .ok (.iload_n 3, 1) := by decide +kernel
theorem dL_232 : decode code 232 = .ok (.iconst 2, 1) := by decide +kernel
theorem dL_233 : decode code 233 = .ok (.iadd, 1) := by decide +kernel
theorem dL_234 : decode code 234 = .ok (.iaload, 1) := by decide +kernel
theorem dL_235 : decode code 235 = .ok (.aload_n 0, 1) := by decide +kernel
theorem dL_236 : decode code 236 = .ok (.iload_n 3, 1) := by decide +kernel
theorem dL_237 : decode code 237 = .ok (.iconst 3, 1) := by decide +kernel
theorem dL_238 : decode code 238 = .ok (.iadd, 1) := by decide +kernel
theorem dL_239 : decode code 239 = .ok (.iaload, 1) := by decide +kernel
theorem dL_240 : decode code 240 = .ok (.aload_n 0, 1) := by decide +kernel
theorem dL_241 : decode code 241 = .ok (.iload_n 3, 1) := by decide +kernel
theorem dL_242 : decode code 242 = .ok (.iconst 4, 1) := by decide +kernel
theorem dL_243 : decode code 243 = .ok (.iadd, 1) := by decide +kernel
theorem dL_244 : decode code 244 = .ok (.iaload, 1) := by decide +kernel
theorem dL_245 : decode code 245 = .ok (.invokevirtual 13, 3) := by decide +kernel
theorem dL_248 : decode code 248 = .ok (.aload_n 2, 1) := by decide +kernel
theorem dL_249 : decode code 249 = .ok (.aload_n 0, 1) := by decide +kernel
theorem dL_250 : decode code 250 = .ok (.iload_n 3, 1) := by decide +kernel
theorem dL_251 : decode code 251 = .ok (.iconst 1, 1) := by decide +kernel
theorem dL_252 : decode code 252 = .ok (.iadd, 1) := by decide +kernel
theorem dL_253 : decode code 253 = .ok (.iaload, 1) := by decide +kernel
theorem dL_254 : decode code 254 = .ok (.aload_n 0, 1) := by decide +kernel
theorem dL_255 : decode code 255 = .ok (.iload_n 3, 1) := by decide +kernel
theorem dL_256 : decode code 256 = .ok (.iconst 2, 1) := by decide +kernel
theorem dL_257 : decode code 257 = .ok (.iadd, 1) := by decide +kernel
theorem dL_258 : decode code 258 = .ok (.iaload, 1) := by decide +kernel
theorem dL_259 : decode code 259 = .ok (.aload_n 0, 1) := by decide +kernel
theorem dL_260 : decode code 260 = .ok (.iload_n 3, 1) := by decide +kernel
theorem dL_261 : decode code 261 = .ok (.iconst 3, 1) := by decide +kernel
theorem dL_262 : decode code 262 = .ok (.iadd, 1) := by decide +kernel
theorem dL_263 : decode code 263 = .ok (.iaload, 1) := by decide +kernel
theorem dL_264 : decode code 264 = .ok (.aload_n 0, 1) := by decide +kernel
theorem dL_265 : decode code 265 = .ok (.iload_n 3, 1) := by decide +kernel
theorem dL_266 : decode code 266 = .ok (.iconst 4, 1) := by decide +kernel
theorem dL_267 : decode code 267 = .ok (.iadd, 1) := by decide +kernel
theorem dL_268 : decode code 268 = .ok (.iaload, 1) := by decide +kernel
theorem dL_269 : decode code 269 = .ok (.invokevirtual 17, 3) := by decide +kernel
theorem dL_272 : decode code 272 = .ok (.if_icmp .eq 1175, 3) := by decide +kernel
theorem dL_277 : decode code 277 = .ok (.aload_n 1, 1) := by decide +kernel
theorem dL_278 : decode code 278 = .ok (.aload_n 0, 1) := by decide +kernel
theorem dL_279 : decode code 279 = .ok (.iload_n 3, 1) := by decide +kernel
theorem dL_280 : decode code 280 = .ok (.iconst 1, 1) := by decide +kernel
theorem dL_281 : decode code 281 = .ok (.iadd, 1) := by decide +kernel
theorem dL_282 : decode code 282 = .ok (.iaload, 1) := by decide +kernel
theorem dL_283 : decode code 283 = .ok (.aload_n 0, 1) := by decide +kernel
theorem dL_284 : decode code 284 = .ok (.iload_n 3, 1) := by decide +kernel
theorem dL_285 : decode code 285 = .ok (.iconst 2, 1) := by decide +kernel
theorem dL_286 : decode code 286 = .ok (.iadd, 1) := by decide +kernel
theorem dL_287 : decode code 287 = .ok (.iaload, 1) := by decide +kernel
theorem dL_288 : decode code 288 = .ok (.aload_n 0, 1) := by decide +kernel
theorem dL_289 : decode code 289 = .ok (.iload_n 3, 1) := by decide +kernel
theorem dL_290 : decode code 290 = .ok (.iconst 3, 1) := by decide +kernel
theorem dL_291 : decode code 291 = .ok (.iadd, 1) := by decide +kernel
theorem dL_292 : decode code 292 = .ok (.iaload, 1) := by decide +kernel
theorem dL_293 : decode code 293 = .ok (.invokevirtual 18, 3) := by decide +kernel
theorem dL_296 : decode code 296 = .ok (.aload_n 2, 1) := by decide +kernel
theorem dL_297 : decode code 297 = .ok (.aload_n 0, 1) := by decide +kernel
theorem dL_298 : decode code 298 = .ok (.iload_n 3, 1) := by decide +kernel
theorem dL_299 : decode code 299 = .ok (.iconst 1, 1) := by decide +kernel
theorem dL_300 : decode code 300 = .ok (.iadd, 1) := by decide +kernel
theorem dL_301 : decode code 301 = .ok (.iaload, 1) := by decide +kernel
theorem dL_302 : decode code 302 = .ok (.aload_n 0, 1) := by decide +kernel
theorem dL_303 : decode code 303 = .ok (.iload_n 3, 1) := by decide +kernel
theorem dL_304 : decode code 304 = .ok (.iconst 2, 1) := by decide +kernel
theorem dL_305 : decode code 305 = .ok (.iadd, 1) := by decide +kernel
theorem dL_306 : decode code 306 = .ok (.iaload, 1) := by decide +kernel
theorem dL_307 : decode code 307 = .ok (.aload_n 0, 1) := by decide +kernel
theorem dL_308 : decode code 308 = .ok (.iload_n 3, 1) := by decide +kernel
theorem dL_309 : decode code 309 = .ok (.iconst 3, 1) := by decide +kernel
theorem dL_310 : decode code 310 = .ok (.iadd, 1) := by decide +kernel
theorem dL_311 : decode code 311 = .ok (.iaload, 1) := by decide +kernel
theorem dL_312 : decode code 312 = .ok (.invokevirtual 22, 3) := by decide +kernel
theorem dL_315 : decode code 315 = .ok (.if_icmp .eq 1132, 3) := by decide +kernel
theorem dL_320 : decode code 320 = .ok (.aload_n 1, 1) := by decide +kernel
theorem dL_321 : decode code 321 = .ok (.aload_n 0, 1) := by decide +kernel
theorem dL_322 : decode code 322 = .ok (.iload_n 3, 1) := by decide +kernel
theorem dL_323 : decode code 323 = .ok (.iconst 1, 1) := by decide +kernel
theorem dL_324 : decode code 324 = .ok (.iadd, 1) := by decide +kernel
theorem dL_325 : decode code 325 = .ok (.iaload, 1) := by decide +kernel
theorem dL_326 : decode code 326 = .ok (.aload_n 0, 1) := by decide +kernel
theorem dL_327 : decode code 327 = .ok (.iload_n 3, 1) := by decide +kernel
theorem dL_328 : decode code 328 = .ok (.iconst 2, 1) := by decide +kernel
theorem dL_329 : decode code 329 = .ok (.iadd, 1) := by decide +kernel
theorem dL_330 : decode code 330 = .ok (.iaload, 1) := by decide +kernel
theorem dL_331 : decode code 331 = .ok (.aload_n 0, 1) := by decide +kernel
theorem dL_332 : decode code 332 = .ok (.iload_n 3, 1) := by decide +kernel
theorem dL_333 : decode code 333 = .ok (.iconst 3, 1) := by decide +kernel
theorem dL_334 : decode code 334 = .ok (.iadd, 1) := by decide +kernel
theorem dL_335 : decode code 335 = .ok (.iaload, 1) := by decide +kernel
theorem dL_336 : decode code 336 = .ok (.invokevirtual 23, 3) := by decide +kernel
theorem dL_339 : decode code 339 = .ok (.aload_n 2, 1) := by decide +kernel
theorem dL_340 : decode code 340 = .ok (.aload_n 0, 1) := by decide +kernel
theorem dL_341 : decode code 341 = .ok (.iload_n 3, 1) := by decide +kernel
theorem dL_342 : decode code 342 = .ok (.iconst 1, 1) := by decide +kernel
theorem dL_343 : decode code 343 = .ok (.iadd, 1) := by decide +kernel
theorem dL_344 : decode code 344 = .ok (.iaload, 1) := by decide +kernel
theorem dL_345 : decode code 345 = .ok (.aload_n 0, 1) := by decide +kernel
theorem dL_346 : decode code 346 = .ok (.iload_n 3, 1) := by decide +kernel
theorem dL_347 : decode code 347 = .ok (.iconst 2, 1) := by decide +kernel
theorem dL_348 : decode code 348 = .ok (.iadd, 1) := by decide +kernel
theorem dL_349 : decode code 349 = .ok (.iaload, 1) := by decide +kernel
theorem dL_350 : decode code 350 = .ok (.aload_n 0, 1) := by decide +kernel
theorem dL_351 : decode code 351 = .ok (.iload_n 3, 1) := by decide +kernel
theorem dL_352 : decode code 352 = .ok (.iconst 3, 1) := by decide +kernel
theorem dL_353 : decode code 353 = .ok (.iadd, 1) := by decide +kernel
theorem dL_354 : decode code 354 = .ok (.iaload, 1) := by decide +kernel
theorem dL_355 : decode code 355 = .ok (.invokevirtual 26, 3) := by decide +kernel
theorem dL_358 : decode code 358 = .ok (.if_icmp .eq 1089, 3) := by decide +kernel
theorem dL_363 : decode code 363 = .ok (.aload_n 1, 1) := by decide +kernel
theorem dL_364 : decode code 364 = .ok (.aload_n 0, 1) := by decide +kernel
theorem dL_365 : decode code 365 = .ok (.iload_n 3, 1) := by decide +kernel
theorem dL_366 : decode code 366 = .ok (.iconst 1, 1) := by decide +kernel
theorem dL_367 : decode code 367 = .ok (.iadd, 1) := by decide +kernel
theorem dL_368 : decode code 368 = .ok (.iaload, 1) := by decide +kernel
theorem dL_369 : decode code 369 = .ok (.aload_n 0, 1) := by decide +kernel
theorem dL_370 : decode code 370 = .ok (.iload_n 3, 1) := by decide +kernel
theorem dL_371 : decode code 371 = .ok (.iconst 2, 1) := by decide +kernel
theorem dL_372 : decode code 372 = .ok (.iadd, 1) := by decide +kernel
theorem dL_373 : decode code 373 = .ok (.iaload, 1) := by decide +kernel
theorem dL_374 : decode code 374 = .ok (.aload_n 0, 1) := by decide +kernel
theorem dL_375 : decode code 375 = .ok (.iload_n 3, 1) := by decide +kernel
theorem dL_376 : decode code 376 = .ok (.iconst 3, 1) := by decide +kernel
theorem dL_377 : decode code 377 = .ok (.iadd, 1) := by decide +kernel
theorem dL_378 : decode code 378 = .ok (.iaload, 1) := by decide +kernel
theorem dL_379 : decode code 379 = .ok (.invokevirtual 27, 3) := by decide +kernel
theorem dL_382 : decode code 382 = .ok (.aload_n 2, 1) := by decide +kernel
theorem dL_383 : decode code 383 = .ok (.aload_n 0, 1) := by decide +kernel
theorem dL_384 : decode code 384 = .ok (.iload_n 3, 1) := by decide +kernel
theorem dL_385 : decode code 385 = .ok (.iconst 1, 1) := by decide +kernel
theorem dL_386 : decode code 386 = .ok (.iadd, 1) := by decide +kernel
theorem dL_387 : decode code 387 = .ok (.iaload, 1) := by decide +kernel
theorem dL_388 : decode code 388 = .ok (.aload_n 0, 1) := by decide +kernel
theorem dL_389 : decode code 389 = .ok (.iload_n 3, 1) := by decide +kernel
theorem dL_390 : decode code 390 = .ok (.iconst 2, 1) := by decide +kernel
theorem dL_391 : decode code 391 = .ok (.iadd, 1) := by decide +kernel
theorem dL_392 : decode code 392 = .ok (.iaload, 1) := by decide +kernel
theorem dL_393 : decode code 393 = .ok (.aload_n 0, 1) := by decide +kernel
theorem dL_394 : decode code 394 = .ok (.iload_n 3, 1) := by decide +kernel
theorem dL_395 : decode code 395 = .ok (.iconst 3, 1) := by decide +kernel
theorem dL_396 : decode code 396 = .ok (.iadd, 1) := by decide +kernel
theorem dL_397 : decode code 397 = .ok (.iaload, 1) := by decide +kernel
theorem dL_398 : decode code 398 = .ok (.invokevirtual 30, 3) := by decide +kernel
theorem dL_401 : decode code 401 = .ok (.if_icmp .eq 1046, 3) := by decide +kernel
theorem dL_406 : decode code 406 = .ok (.aload_n 1, 1) := by decide +kernel
theorem dL_407 : decode code 407 = .ok (.aload_n 0, 1) := by decide +kernel
theorem dL_408 : decode code 408 = .ok (.iload_n 3, 1) := by decide +kernel
theorem dL_409 : decode code 409 = .ok (.iconst 1, 1) := by decide +kernel
theorem dL_410 : decode code 410 = .ok (.iadd, 1) := by decide +kernel
theorem dL_411 : decode code 411 = .ok (.iaload, 1) := by decide +kernel
theorem dL_412 : decode code 412 = .ok (.aload_n 0, 1) := by decide +kernel
theorem dL_413 : decode code 413 = .ok (.iload_n 3, 1) := by decide +kernel
theorem dL_414 : decode code 414 = .ok (.iconst 2, 1) := by decide +kernel
theorem dL_415 : decode code 415 = .ok (.iadd, 1) := by decide +kernel
theorem dL_416 : decode code 416 = .ok (.iaload, 1) := by decide +kernel
theorem dL_417 : decode code 417 = .ok (.invokevirtual 31, 3) := by decide +kernel
theorem dL_420 : decode code 420 = .ok (.aload_n 2, 1) := by decide +kernel
theorem dL_421 : decode code 421 = .ok (.aload_n 0, 1) := by decide +kernel
theorem dL_422 : decode code 422 = .ok (.iload_n 3, 1) := by decide +kernel
theorem dL_423 : decode code 423 = .ok (.iconst 1, 1) := by decide +kernel
theorem dL_424 : decode code 424 = .ok (.iadd, 1) := by decide +kernel
theorem dL_425 : decode code 425 = .ok (.iaload, 1) := by decide +kernel
theorem dL_426 : decode code 426 = .ok (.aload_n 0, 1) := by decide +kernel
theorem dL_427 : decode code 427 = .ok (.iload_n 3, 1) := by decide +kernel
theorem dL_428 : decode code 428 = .ok (.iconst 2, 1) := by decide +kernel
theorem dL_429 : decode code 429 = .ok (.iadd, 1) := by decide +kernel
theorem dL_430 : decode code 430 = .ok (.iaload, 1) := by decide +kernel
theorem dL_431 : decode code 431 = .ok (.invokevirtual 35, 3) := by decide +kernel
theorem dL_434 : decode code 434 = .ok (.if_icmp .eq 1013, 3) := by decide +kernel
theorem dL_439 : decode code 439 = .ok (.aload_n 1, 1) := by decide +kernel
theorem dL_440 : decode code 440 = .ok (.aload_n 0, 1) := by decide +kernel
theorem dL_441 : decode code 441 = .ok (.iload_n 3, 1) := by decide +kernel
theorem dL_442 : decode code 442 = .ok (.iconst 1, 1) := by decide +kernel
theorem dL_443 : decode code 443 = .ok (.iadd, 1) := by decide +kernel
theorem dL_444 : decode code 444 = .ok (.iaload, 1) := by decide +kernel
theorem dL_445 : decode code 445 = .ok (.aload_n 0, 1) := by decide +kernel
theorem dL_446 : decode code 446 = .ok (.iload_n 3, 1) := by decide +kernel
theorem dL_447 : decode code 447 = .ok (.iconst 2, 1) := by decide +kernel
theorem dL_448 : decode code 448 = .ok (.iadd, 1) := by decide +kernel
theorem dL_449 : decode code 449 = .ok (.iaload, 1) := by decide +kernel
theorem dL_450 : decode code 450 = .ok (.aload_n 0, 1) := by decide +kernel
theorem dL_451 : decode code 451 = .ok (.iload_n 3, 1) := by decide +kernel
theorem dL_452 : decode code 452 = .ok (.iconst 3, 1) := by decide +kernel
theorem dL_453 : decode code 453 = .ok (.iadd, 1) := by decide +kernel
theorem dL_454 : decode code 454 = .ok (.iaload, 1) := by decide +kernel
theorem dL_455 : decode code 455 = .ok (.invokevirtual 36, 3) := by decide +kernel
theorem dL_458 : decode code 458 = .ok (.aload_n 2, 1) := by decide +kernel
theorem dL_459 : decode code 459 = .ok (.aload_n 0, 1) := by decide +kernel
theorem dL_460 : decode code 460 = .ok (.iload_n 3, 1) := by decide +kernel
theorem dL_461 : decode code 461 = .ok (.iconst 1, 1) := by decide +kernel
theorem dL_462 : decode code 462 = .ok (.iadd, 1) := by decide +kernel
theorem dL_463 : decode code 463 = .ok (.iaload, 1) := by decide +kernel
theorem dL_464 : decode code 464 = .ok (.aload_n 0, 1) := by decide +kernel
theorem dL_465 : decode code 465 = .ok (.iload_n 3, 1) := by decide +kernel
theorem dL_466 : decode code 466 = .ok (.iconst 2, 1) := by decide +kernel
theorem dL_467 : decode code 467 = .ok (.iadd, 1) := by decide +kernel
theorem dL_468 : decode code 468 = .ok (.iaload, 1) := by decide +kernel
