/-! decode rows, printed by wip/whole/gen_decparts.py -/
theorem d_294_0 : decode (am_b 294) 0 = .ok (.new 7, 3) := by decide +kernel
theorem d_294_3 : decode (am_b 294) 3 = .ok (.dup, 1) := by decide +kernel
theorem d_294_4 : decode (am_b 294) 4 = .ok (.invokespecial 9, 3) := by decide +kernel
theorem d_294_7 : decode (am_b 294) 7 = .ok (.astore_n 1, 1) := by decide +kernel
theorem d_294_8 : decode (am_b 294) 8 = .ok (.new 10, 3) := by decide +kernel
theorem d_294_11 : decode (am_b 294) 11 = .ok (.dup, 1) := by decide +kernel
theorem d_294_12 : decode (am_b 294) 12 = .ok (.invokespecial 12, 3) := by decide +kernel
theorem d_294_15 : decode (am_b 294) 15 = .ok (.astore_n 2, 1) := by decide +kernel
theorem d_294_16 : decode (am_b 294) 16 = .ok (.iconst 0, 1) := by decide +kernel
theorem d_294_17 : decode (am_b 294) 17 = .ok (.istore_n 3, 1) := by decide +kernel
theorem d_294_18 : decode (am_b 294) 18 = .ok (.iload_n 3, 1) := by decide +kernel
theorem d_294_19 : decode (am_b 294) 19 = .ok (.aload_n 0, 1) := by decide +kernel
theorem d_294_20 : decode (am_b 294) 20 = .ok (.arraylength, 1) := by decide +kernel
theorem d_294_21 : decode (am_b 294) 21 = .ok (.bipush 6, 2) := by decide +kernel
theorem d_294_23 : decode (am_b 294) 23 = .ok (.isub, 1) := by decide +kernel
theorem d_294_24 : decode (am_b 294) 24 = .ok (.if_icmp .gt 1789, 3) := by decide +kernel
theorem d_294_27 : decode (am_b 294) 27 = .ok (.aload_n 0, 1) := by decide +kernel
theorem d_294_28 : decode (am_b 294) 28 = .ok (.iload_n 3, 1) := by decide +kernel
theorem d_294_29 : decode (am_b 294) 29 = .ok (.iaload, 1) := by decide +kernel
theorem d_294_30 : decode (am_b 294) 30 = .ok (.bipush 63, 2) := by decide +kernel
theorem d_294_32 : decode (am_b 294) 32 = .ok (.iand, 1) := by decide +kernel
theorem d_294_33 : decode (am_b 294) 33 = .ok (.tableswitch 1774 0 46 #[203, 266, 289, 312, 345, 378, 421, 454, 487, 540, 583, 626, 669, 682, 695, 718, 771, 804, 817, 830, 863, 906, 949, 1012, 1045, 1078, 1111, 1144, 1177, 1210, 1253, 1296, 1329, 1362, 1415, 1448, 1481, 1504, 1547, 1560, 1583, 1616, 1659, 1692, 1715, 1738, 1761], 203) := by decide +kernel
theorem d_294_236 : decode (am_b 294) 236 = .ok (.aload_n 1, 1) := by decide +kernel
theorem d_294_237 : decode (am_b 294) 237 = .ok (.aload_n 0, 1) := by decide +kernel
theorem d_294_238 : decode (am_b 294) 238 = .ok (.iload_n 3, 1) := by decide +kernel
theorem d_294_239 : decode (am_b 294) 239 = .ok (.iconst 1, 1) := by decide +kernel
theorem d_294_240 : decode (am_b 294) 240 = .ok (.iadd, 1) := by decide +kernel
theorem d_294_241 : decode (am_b 294) 241 = .ok (.iaload, 1) := by decide +kernel
theorem d_294_242 : decode (am_b 294) 242 = .ok (.aload_n 0, 1) := by decide +kernel
theorem d_294_243 : decode (am_b 294) 243 = .ok (.iload_n 3, 1) := by decide +kernel
theorem d_294_244 : decode (am_b 294) 244 = .ok (.iconst 2, 1) := by decide +kernel
theorem d_294_245 : decode (am_b 294) 245 = .ok (.iadd, 1) := by decide +kernel
theorem d_294_246 : decode (am_b 294) 246 = .ok (.iaload, 1) := by decide +kernel
theorem d_294_247 : decode (am_b 294) 247 = .ok (.aload_n 0, 1) := by decide +kernel
theorem d_294_248 : decode (am_b 294) 248 = .ok (.iload_n 3, 1) := by decide +kernel
theorem d_294_249 : decode (am_b 294) 249 = .ok (.iconst 3, 1) := by decide +kernel
theorem d_294_250 : decode (am_b 294) 250 = .ok (.iadd, 1) := by decide +kernel
theorem d_294_251 : decode (am_b 294) 251 = .ok (.iaload, 1) := by decide +kernel
theorem d_294_252 : decode (am_b 294) 252 = .ok (.aload_n 0, 1) := by decide +kernel
theorem d_294_253 : decode (am_b 294) 253 = .ok (.iload_n 3, 1) := by decide +kernel
theorem d_294_254 : decode (am_b 294) 254 = .ok (.iconst 4, 1) := by decide +kernel
theorem d_294_255 : decode (am_b 294) 255 = .ok (.iadd, 1) := by decide +kernel
theorem d_294_256 : decode (am_b 294) 256 = .ok (.iaload, 1) := by decide +kernel
theorem d_294_257 : decode (am_b 294) 257 = .ok (.aload_n 0, 1) := by decide +kernel
theorem d_294_258 : decode (am_b 294) 258 = .ok (.iload_n 3, 1) := by decide +kernel
theorem d_294_259 : decode (am_b 294) 259 = .ok (.iconst 5, 1) := by decide +kernel
theorem d_294_260 : decode (am_b 294) 260 = .ok (.iadd, 1) := by decide +kernel
theorem d_294_261 : decode (am_b 294) 261 = .ok (.iaload, 1) := by decide +kernel
theorem d_294_262 : decode (am_b 294) 262 = .ok (.invokevirtual 13, 3) := by decide +kernel
theorem d_294_265 : decode (am_b 294) 265 = .ok (.aload_n 2, 1) := by decide +kernel
theorem d_294_266 : decode (am_b 294) 266 = .ok (.aload_n 0, 1) := by decide +kernel
theorem d_294_267 : decode (am_b 294) 267 = .ok (.iload_n 3, 1) := by decide +kernel
theorem d_294_268 : decode (am_b 294) 268 = .ok (.iconst 1, 1) := by decide +kernel
theorem d_294_269 : decode (am_b 294) 269 = .ok (.iadd, 1) := by decide +kernel
theorem d_294_270 : decode (am_b 294) 270 = .ok (.iaload, 1) := by decide +kernel
theorem d_294_271 : decode (am_b 294) 271 = .ok (.aload_n 0, 1) := by decide +kernel
theorem d_294_272 : decode (am_b 294) 272 = .ok (.iload_n 3, 1) := by decide +kernel
theorem d_294_273 : decode (am_b 294) 273 = .ok (.iconst 2, 1) := by decide +kernel
theorem d_294_274 : decode (am_b 294) 274 = .ok (.iadd, 1) := by decide +kernel
theorem d_294_275 : decode (am_b 294) 275 = .ok (.iaload, 1) := by decide +kernel
theorem d_294_276 : decode (am_b 294) 276 = .ok (.aload_n 0, 1) := by decide +kernel
theorem d_294_277 : decode (am_b 294) 277 = .ok (.iload_n 3, 1) := by decide +kernel
theorem d_294_278 : decode (am_b 294) 278 = .ok (.iconst 3, 1) := by decide +kernel
theorem d_294_279 : decode (am_b 294) 279 = .ok (.iadd, 1) := by decide +kernel
theorem d_294_280 : decode (am_b 294) 280 = .ok (.iaload, 1) := by decide +kernel
theorem d_294_281 : decode (am_b 294) 281 = .ok (.aload_n 0, 1) := by decide +kernel
theorem d_294_282 : decode (am_b 294) 282 = .ok (.iload_n 3, 1) := by decide +kernel
theorem d_294_283 : decode (am_b 294) 283 = .ok (.iconst 4, 1) := by decide +kernel
theorem d_294_284 : decode (am_b 294) 284 = .ok (.iadd, 1) := by decide +kernel
theorem d_294_285 : decode (am_b 294) 285 = .ok (.iaload, 1) := by decide +kernel
theorem d_294_286 : decode (am_b 294) 286 = .ok (.aload_n 0, 1) := by decide +kernel
theorem d_294_287 : decode (am_b 294) 287 = .ok (.iload_n 3, 1) := by decide +kernel
theorem d_294_288 : decode (am_b 294) 288 = .ok (.iconst 5, 1) := by decide +kernel
theorem d_294_289 : decode (am_b 294) 289 = .ok (.iadd, 1) := by decide +kernel
theorem d_294_290 : decode (am_b 294) 290 = .ok (.iaload, 1) := by decide +kernel
theorem d_294_291 : decode (am_b 294) 291 = .ok (.invokevirtual 17, 3) := by decide +kernel
theorem d_294_294 : decode (am_b 294) 294 = .ok (.if_icmp .eq 1513, 3) := by decide +kernel
theorem d_294_297 : decode (am_b 294) 297 = .ok (.iconst 0, 1) := by decide +kernel
theorem d_294_298 : decode (am_b 294) 298 = .ok (.ireturn, 1) := by decide +kernel
theorem d_294_299 : decode (am_b 294) 299 = .ok (.aload_n 1, 1) := by decide +kernel
theorem d_294_300 : decode (am_b 294) 300 = .ok (.aload_n 0, 1) := by decide +kernel
theorem d_294_301 : decode (am_b 294) 301 = .ok (.iload_n 3, 1) := by decide +kernel
theorem d_294_302 : decode (am_b 294) 302 = .ok (.iconst 1, 1) := by decide +kernel
theorem d_294_303 : decode (am_b 294) 303 = .ok (.iadd, 1) := by decide +kernel
theorem d_294_304 : decode (am_b 294) 304 = .ok (.iaload, 1) := by decide +kernel
theorem d_294_305 : decode (am_b 294) 305 = .ok (.invokevirtual 18, 3) := by decide +kernel
theorem d_294_308 : decode (am_b 294) 308 = .ok (.aload_n 2, 1) := by decide +kernel
theorem d_294_309 : decode (am_b 294) 309 = .ok (.aload_n 0, 1) := by decide +kernel
theorem d_294_310 : decode (am_b 294) 310 = .ok (.iload_n 3, 1) := by decide +kernel
theorem d_294_311 : decode (am_b 294) 311 = .ok (.iconst 1, 1) := by decide +kernel
theorem d_294_312 : decode (am_b 294) 312 = .ok (.iadd, 1) := by decide +kernel
theorem d_294_313 : decode (am_b 294) 313 = .ok (.iaload, 1) := by decide +kernel
theorem d_294_314 : decode (am_b 294) 314 = .ok (.invokevirtual 22, 3) := by decide +kernel
theorem d_294_317 : decode (am_b 294) 317 = .ok (.if_icmp .eq 1490, 3) := by decide +kernel
theorem d_294_320 : decode (am_b 294) 320 = .ok (.iconst 0, 1) := by decide +kernel
theorem d_294_321 : decode (am_b 294) 321 = .ok (.ireturn, 1) := by decide +kernel
theorem d_294_322 : decode (am_b 294) 322 = .ok (.aload_n 1, 1) := by decide +kernel
theorem d_294_323 : decode (am_b 294) 323 = .ok (.aload_n 0, 1) := by decide +kernel
theorem d_294_324 : decode (am_b 294) 324 = .ok (.iload_n 3, 1) := by decide +kernel
theorem d_294_325 : decode (am_b 294) 325 = .ok (.iconst 1, 1) := by decide +kernel
theorem d_294_326 : decode (am_b 294) 326 = .ok (.iadd, 1) := by decide +kernel
theorem d_294_327 : decode (am_b 294) 327 = .ok (.iaload, 1) := by decide +kernel
theorem d_294_328 : decode (am_b 294) 328 = .ok (.invokevirtual 23, 3) := by decide +kernel
theorem d_294_331 : decode (am_b 294) 331 = .ok (.aload_n 2, 1) := by decide +kernel
theorem d_294_332 : decode (am_b 294) 332 = .ok (.aload_n 0, 1) := by decide +kernel
theorem d_294_333 : decode (am_b 294) 333 = .ok (.iload_n 3, 1) := by decide +kernel
theorem d_294_334 : decode (am_b 294) 334 = .ok (.iconst 1, 1) := by decide +kernel
theorem d_294_335 : decode (am_b 294) 335 = .ok (.iadd, 1) := by decide +kernel
theorem d_294_336 : decode (am_b 294) 336 = .ok (.iaload, 1) := by decide +kernel
theorem d_294_337 : decode (am_b 294) 337 = .ok (.invokevirtual 26, 3) := by decide +kernel
theorem d_294_340 : decode (am_b 294) 340 = .ok (.if_icmp .eq 1467, 3) := by decide +kernel
theorem d_294_343 : decode (am_b 294) 343 = .ok (.iconst 0, 1) := by decide +kernel
theorem d_294_344 : decode (am_b 294) 344 = .ok (.ireturn, 1) := by decide +kernel
theorem d_294_345 : decode (am_b 294) 345 = .ok (.aload_n 1, 1) := by decide +kernel
theorem d_294_346 : decode (am_b 294) 346 = .ok (.aload_n 0, 1) := by decide +kernel
theorem d_294_347 : decode (am_b 294) 347 = .ok (.iload_n 3, 1) := by decide +kernel
theorem d_294_348 : decode (am_b 294) 348 = .ok (.iconst 1, 1) := by decide +kernel
theorem d_294_349 : decode (am_b 294) 349 = .ok (.iadd, 1) := by decide +kernel
theorem d_294_350 : decode (am_b 294) 350 = .ok (.iaload, 1) := by decide +kernel
theorem d_294_351 : decode (am_b 294) 351 = .ok (.aload_n 0, 1) := by decide +kernel
theorem d_294_352 : decode (am_b 294) 352 = .ok (.iload_n 3, 1) := by decide +kernel
theorem d_294_353 : decode (am_b 294) 353 = .ok (.iconst 2, 1) := by decide +kernel
theorem d_294_354 : decode (am_b 294) 354 = .ok (.iadd, 1) := by decide +kernel
theorem d_294_355 : decode (am_b 294) 355 = .ok (.iaload, 1) := by decide +kernel
theorem d_294_356 : decode (am_b 294) 356 = .ok (.invokevirtual 27, 3) := by decide +kernel
theorem d_294_359 : decode (am_b 294) 359 = .ok (.aload_n 2, 1) := by decide +kernel
theorem d_294_360 : decode (am_b 294) 360 = .ok (.aload_n 0, 1) := by decide +kernel
theorem d_294_361 : decode (am_b 294) 361 = .ok (.iload_n 3, 1) := by decide +kernel
theorem d_294_362 : decode (am_b 294) 362 = .ok (.iconst 1, 1) := by decide +kernel
theorem d_294_363 : decode (am_b 294) 363 = .ok (.iadd, 1) := by decide +kernel
theorem d_294_364 : decode (am_b 294) 364 = .ok (.iaload, 1) := by decide +kernel
theorem d_294_365 : decode (am_b 294) 365 = .ok (.aload_n 0, 1) := by decide +kernel
theorem d_294_366 : decode (am_b 294) 366 = .ok (.iload_n 3, 1) := by decide +kernel
theorem d_294_367 : decode (am_b 294) 367 = .ok (.iconst 2, 1) := by decide +kernel
theorem d_294_368 : decode (am_b 294) 368 = .ok (.iadd, 1) := by decide +kernel
theorem d_294_369 : decode (am_b 294) 369 = .ok (.iaload, 1) := by decide +kernel
theorem d_294_370 : decode (am_b 294) 370 = .ok (.invokevirtual 31, 3) := by decide +kernel
theorem d_294_373 : decode (am_b 294) 373 = .ok (.if_icmp .eq 1434, 3) := by decide +kernel
theorem d_294_376 : decode (am_b 294) 376 = .ok (.iconst 0, 1) := by decide +kernel
theorem d_294_377 : decode (am_b 294) 377 = .ok (.ireturn, 1) := by decide +kernel
theorem d_294_378 : decode (am_b 294) 378 = .ok (.aload_n 1, 1) := by decide +kernel
theorem d_294_379 : decode (am_b 294) 379 = .ok (.aload_n 0, 1) := by decide +kernel
theorem d_294_380 : decode (am_b 294) 380 = .ok (.iload_n 3, 1) := by decide +kernel
theorem d_294_381 : decode (am_b 294) 381 = .ok (.iconst 1, 1) := by decide +kernel
theorem d_294_382 : decode (am_b 294) 382 = .ok (.iadd, 1) := by decide +kernel
theorem d_294_383 : decode (am_b 294) 383 = .ok (.iaload, 1) := by decide +kernel
theorem d_294_384 : decode (am_b 294) 384 = .ok (.aload_n 0, 1) := by decide +kernel
theorem d_294_385 : decode (am_b 294) 385 = .ok (.iload_n 3, 1) := by decide +kernel
theorem d_294_386 : decode (am_b 294) 386 = .ok (.iconst 2, 1) := by decide +kernel
theorem d_294_387 : decode (am_b 294) 387 = .ok (.iadd, 1) := by decide +kernel
theorem d_294_388 : decode (am_b 294) 388 = .ok (.iaload, 1) := by decide +kernel
theorem d_294_389 : decode (am_b 294) 389 = .ok (.invokevirtual 32, 3) := by decide +kernel
theorem d_294_392 : decode (am_b 294) 392 = .ok (.aload_n 2, 1) := by decide +kernel
theorem d_294_393 : decode (am_b 294) 393 = .ok (.aload_n 0, 1) := by decide +kernel
theorem d_294_394 : decode (am_b 294) 394 = .ok (.iload_n 3, 1) := by decide +kernel
theorem d_294_395 : decode (am_b 294) 395 = .ok (.iconst 1, 1) := by decide +kernel
theorem d_294_396 : decode (am_b 294) 396 = .ok (.iadd, 1) := by decide +kernel
theorem d_294_397 : decode (am_b 294) 397 = .ok (.iaload, 1) := by decide +kernel
theorem d_294_398 : decode (am_b 294) 398 = .ok (.aload_n 0, 1) := by decide +kernel
theorem d_294_399 : decode (am_b 294) 399 = .ok (.iload_n 3, 1) := by decide +kernel
theorem d_294_400 : decode (am_b 294) 400 = .ok (.iconst 2, 1) := by decide +kernel
theorem d_294_401 : decode (am_b 294) 401 = .ok (.iadd, 1) := by decide +kernel
theorem d_294_402 : decode (am_b 294) 402 = .ok (.iaload, 1) := by decide +kernel
theorem d_294_403 : decode (am_b 294) 403 = .ok (.invokevirtual 35, 3) := by decide +kernel
theorem d_294_406 : decode (am_b 294) 406 = .ok (.if_icmp .eq 1401, 3) := by decide +kernel
theorem d_294_409 : decode (am_b 294) 409 = .ok (.iconst 0, 1) := by decide +kernel
theorem d_294_410 : decode (am_b 294) 410 = .ok (.ireturn, 1) := by decide +kernel
theorem d_294_411 : decode (am_b 294) 411 = .ok (.aload_n 1, 1) := by decide +kernel
theorem d_294_412 : decode (am_b 294) 412 = .ok (.aload_n 0, 1) := by decide +kernel
theorem d_294_413 : decode (am_b 294) 413 = .ok (.iload_n 3, 1) := by decide +kernel
theorem d_294_414 : decode (am_b 294) 414 = .ok (.iconst 1, 1) := by decide +kernel
theorem d_294_415 : decode (am_b 294) 415 = .ok (.iadd, 1) := by decide +kernel
theorem d_294_416 : decode (am_b 294) 416 = .ok (.iaload, 1) := by decide +kernel
theorem d_294_417 : decode (am_b 294) 417 = .ok (.aload_n 0, 1) := by decide +kernel
theorem d_294_418 : decode (am_b 294) 418 = .ok (.iload_n 3, 1) := by decide +kernel
theorem d_294_419 : decode (am_b 294) 419 = .ok (.iconst 2, 1) := by decide +kernel
theorem d_294_420 : decode (am_b 294) 420 = .ok (.iadd, 1) := by decide +kernel
theorem d_294_421 : decode (am_b 294) 421 = .ok (.iaload, 1) := by decide +kernel
theorem d_294_422 : decode (am_b 294) 422 = .ok (.aload_n 0, 1) := by decide +kernel
theorem d_294_423 : decode (am_b 294) 423 = .ok (.iload_n 3, 1) := by decide +kernel
theorem d_294_424 : decode (am_b 294) 424 = .ok (.iconst 3, 1) := by decide +kernel
theorem d_294_425 : decode (am_b 294) 425 = .ok (.iadd, 1) := by decide +kernel
theorem d_294_426 : decode (am_b 294) 426 = .ok (.iaload, 1) := by decide +kernel
theorem d_294_427 : decode (am_b 294) 427 = .ok (.invokevirtual 36, 3) := by decide +kernel
theorem d_294_430 : decode (am_b 294) 430 = .ok (.aload_n 2, 1) := by decide +kernel
theorem d_294_431 : decode (am_b 294) 431 = .ok (.aload_n 0, 1) := by decide +kernel
theorem d_294_432 : decode (am_b 294) 432 = .ok (.iload_n 3, 1) := by decide +kernel
theorem d_294_433 : decode (am_b 294) 433 = .ok (.iconst 1, 1) := by decide +kernel
theorem d_294_434 : decode (am_b 294) 434 = .ok (.iadd, 1) := by decide +kernel
theorem d_294_435 : decode (am_b 294) 435 = .ok (.iaload, 1) := by decide +kernel
theorem d_294_436 : decode (am_b 294) 436 = .ok (.aload_n 0, 1) := by decide +kernel
theorem d_294_437 : decode (am_b 294) 437 = .ok (.iload_n 3, 1) := by decide +kernel
theorem d_294_438 : decode (am_b 294) 438 = .ok (.iconst 2, 1) := by decide +kernel
theorem d_294_439 : decode (am_b 294) 439 = .ok (.iadd, 1) := by decide +kernel
theorem d_294_440 : decode (am_b 294) 440 = .ok (.iaload, 1) := by decide +kernel
theorem d_294_441 : decode (am_b 294) 441 = .ok (.aload_n 0, 1) := by decide +kernel
theorem d_294_442 : decode (am_b 294) 442 = .ok (.iload_n 3, 1) := by decide +kernel
theorem d_294_443 : decode (am_b 294) 443 = .ok (.iconst 3, 1) := by decide +kernel
theorem d_294_444 : decode (am_b 294) 444 = .ok (.iadd, 1) := by decide +kernel
theorem d_294_445 : decode (am_b 294) 445 = .ok (.iaload, 1) := by decide +kernel
theorem d_294_446 : decode (am_b 294) 446 = .ok (.invokevirtual 40, 3) := by decide +kernel
theorem d_294_449 : decode (am_b 294) 449 = .ok (.if_icmp .eq 1358, 3) := by decide +kernel
theorem d_294_452 : decode (am_b 294) 452 = .ok (.iconst 0, 1) := by decide +kernel
theorem d_294_453 : decode (am_b 294) 453 = .ok (.ireturn, 1) := by decide +kernel
theorem d_294_454 : decode (am_b 294) 454 = .ok (.aload_n 1, 1) := by decide +kernel
theorem d_294_455 : decode (am_b 294) 455 = .ok (.aload_n 0, 1) := by decide +kernel
theorem d_294_456 : decode (am_b 294) 456 = .ok (.iload_n 3, 1) := by decide +kernel
theorem d_294_457 : decode (am_b 294) 457 = .ok (.iconst 1, 1) := by decide +kernel
theorem d_294_458 : decode (am_b 294) 458 = .ok (.iadd, 1) := by decide +kernel
theorem d_294_459 : decode (am_b 294) 459 = .ok (.iaload, 1) := by decide +kernel
theorem d_294_460 : decode (am_b 294) 460 = .ok (.aload_n 0, 1) := by decide +kernel
theorem d_294_461 : decode (am_b 294) 461 = .ok (.iload_n 3, 1) := by decide +kernel
theorem d_294_462 : decode (am_b 294) 462 = .ok (.iconst 2, 1) := by decide +kernel
theorem d_294_463 : decode (am_b 294) 463 = .ok (.iadd, 1) := by decide +kernel
theorem d_294_464 : decode (am_b 294) 464 = .ok (.iaload, 1) := by decide +kernel
theorem d_294_465 : decode (am_b 294) 465 = .ok (.invokevirtual 41, 3) := by decide +kernel
theorem d_294_468 : decode (am_b 294) 468 = .ok (.aload_n 2, 1) := by decide +kernel
theorem d_294_469 : decode (am_b 294) 469 = .ok (.aload_n 0, 1) := by decide +kernel
theorem d_294_470 : decode (am_b 294) 470 = .ok (.iload_n 3, 1) := by decide +kernel
theorem d_294_471 : decode (am_b 294) 471 = .ok (.iconst 1, 1) := by decide +kernel
theorem d_294_472 : decode (am_b 294) 472 = .ok (.iadd, 1) := by decide +kernel
theorem d_294_473 : decode (am_b 294) 473 = .ok (.iaload, 1) := by decide +kernel
theorem d_294_474 : decode (am_b 294) 474 = .ok (.aload_n 0, 1) := by decide +kernel
theorem d_294_475 : decode (am_b 294) 475 = .ok (.iload_n 3, 1) := by decide +kernel
theorem d_294_476 : decode (am_b 294) 476 = .ok (.iconst 2, 1) := by decide +kernel
theorem d_294_477 : decode (am_b 294) 477 = .ok (.iadd, 1) := by decide +kernel
theorem d_294_478 : decode (am_b 294) 478 = .ok (.iaload, 1) := by decide +kernel
theorem d_294_479 : decode (am_b 294) 479 = .ok (.invokevirtual 44, 3) := by decide +kernel
theorem d_294_482 : decode (am_b 294) 482 = .ok (.if_icmp .eq 1325, 3) := by decide +kernel
theorem d_294_485 : decode (am_b 294) 485 = .ok (.iconst 0, 1) := by decide +kernel
theorem d_294_486 : decode (am_b 294) 486 = .ok (.ireturn, 1) := by decide +kernel
theorem d_294_487 : decode (am_b 294) 487 = .ok (.aload_n 1, 1) := by decide +kernel
theorem d_294_488 : decode (am_b 294) 488 = .ok (.aload_n 0, 1) := by decide +kernel
theorem d_294_489 : decode (am_b 294) 489 = .ok (.iload_n 3, 1) := by decide +kernel
theorem d_294_490 : decode (am_b 294) 490 = .ok (.iconst 1, 1) := by decide +kernel
theorem d_294_491 : decode (am_b 294) 491 = .ok (.iadd, 1) := by decide +kernel
theorem d_294_492 : decode (am_b 294) 492 = .ok (.iaload, 1) := by decide +kernel
theorem d_294_493 : decode (am_b 294) 493 = .ok (.aload_n 0, 1) := by decide +kernel
theorem d_294_494 : decode (am_b 294) 494 = .ok (.iload_n 3, 1) := by decide +kernel
theorem d_294_495 : decode (am_b 294) 495 = .ok (.iconst 2, 1) := by decide +kernel
theorem d_294_496 : decode (am_b 294) 496 = .ok (.iadd, 1) := by decide +kernel
theorem d_294_497 : decode (am_b 294) 497 = .ok (.iaload, 1) := by decide +kernel
theorem d_294_498 : decode (am_b 294) 498 = .ok (.invokevirtual 45, 3) := by decide +kernel
theorem d_294_501 : decode (am_b 294) 501 = .ok (.aload_n 2, 1) := by decide +kernel
theorem d_294_502 : decode (am_b 294) 502 = .ok (.aload_n 0, 1) := by decide +kernel
theorem d_294_503 : decode (am_b 294) 503 = .ok (.iload_n 3, 1) := by decide +kernel
theorem d_294_504 : decode (am_b 294) 504 = .ok (.iconst 1, 1) := by decide +kernel
theorem d_294_505 : decode (am_b 294) 505 = .ok (.iadd, 1) := by decide +kernel
theorem d_294_506 : decode (am_b 294) 506 = .ok (.iaload, 1) := by decide +kernel
theorem d_294_507 : decode (am_b 294) 507 = .ok (.aload_n 0, 1) := by decide +kernel
theorem d_294_508 : decode (am_b 294) 508 = .ok (.iload_n 3, 1) := by decide +kernel
theorem d_294_509 : decode (am_b 294) 509 = .ok (.iconst 2, 1) := by decide +kernel
theorem d_294_510 : decode (am_b 294) 510 = .ok (.iadd, 1) := by decide +kernel
theorem d_294_511 : decode (am_b 294) 511 = .ok (.iaload, 1) := by decide +kernel
theorem d_294_512 : decode (am_b 294) 512 = .ok (.invokevirtual 48, 3) := by decide +kernel
theorem d_294_515 : decode (am_b 294) 515 = .ok (.if_icmp .eq 1292, 3) := by decide +kernel
theorem d_294_518 : decode (am_b 294) 518 = .ok (.iconst 0, 1) := by decide +kernel
theorem d_294_519 : decode (am_b 294) 519 = .ok (.ireturn, 1) := by decide +kernel
theorem d_294_520 : decode (am_b 294) 520 = .ok (.aload_n 1, 1) := by decide +kernel
theorem d_294_521 : decode (am_b 294) 521 = .ok (.aload_n 0, 1) := by decide +kernel
theorem d_294_522 : decode (am_b 294) 522 = .ok (.iload_n 3, 1) := by decide +kernel
theorem d_294_523 : decode (am_b 294) 523 = .ok (.iconst 1, 1) := by decide +kernel
theorem d_294_524 : decode (am_b 294) 524 = .ok (.iadd, 1) := by decide +kernel
theorem d_294_525 : decode (am_b 294) 525 = .ok (.iaload, 1) := by decide +kernel
theorem d_294_526 : decode (am_b 294) 526 = .ok (.aload_n 0, 1) := by decide +kernel
theorem d_294_527 : decode (am_b 294) 527 = .ok (.iload_n 3, 1) := by decide +kernel
theorem d_294_528 : decode (am_b 294) 528 = .ok (.iconst 2, 1) := by decide +kernel
theorem d_294_529 : decode (am_b 294) 529 = .ok (.iadd, 1) := by decide +kernel
theorem d_294_530 : decode (am_b 294) 530 = .ok (.iaload, 1) := by decide +kernel
theorem d_294_531 : decode (am_b 294) 531 = .ok (.aload_n 0, 1) := by decide +kernel
theorem d_294_532 : decode (am_b 294) 532 = .ok (.iload_n 3, 1) := by decide +kernel
theorem d_294_533 : decode (am_b 294) 533 = .ok (.iconst 3, 1) := by decide +kernel
theorem d_294_534 : decode (am_b 294) 534 = .ok (.iadd, 1) := by decide +kernel
theorem d_294_535 : decode (am_b 294) 535 = .ok (.iaload, 1) := by decide +kernel
theorem d_294_536 : decode (am_b 294) 536 = .ok (.aload_n 0, 1) := by decide +kernel
theorem d_294_537 : decode (am_b 294) 537 = .ok (.iload_n 3, 1) := by decide +kernel
theorem d_294_538 : decode (am_b 294) 538 = .ok (.iconst 4, 1) := by decide +kernel
theorem d_294_539 : decode (am_b 294) 539 = .ok (.iadd, 1) := by decide +kernel
theorem d_294_540 : decode (am_b 294) 540 = .ok (.iaload, 1) := by decide +kernel
theorem d_294_541 : decode (am_b 294) 541 = .ok (.invokevirtual 49, 3) := by decide +kernel
theorem d_294_544 : decode (am_b 294) 544 = .ok (.aload_n 2, 1) := by decide +kernel
theorem d_294_545 : decode (am_b 294) 545 = .ok (.aload_n 0, 1) := by decide +kernel
theorem d_294_546 : decode (am_b 294) 546 = .ok (.iload_n 3, 1) := by decide +kernel
theorem d_294_547 : decode (am_b 294) 547 = .ok (.iconst 1, 1) := by decide +kernel
theorem d_294_548 : decode (am_b 294) 548 = .ok (.iadd, 1) := by decide +kernel
theorem d_294_549 : decode (am_b 294) 549 = .ok (.iaload, 1) := by decide +kernel
theorem d_294_550 : decode (am_b 294) 550 = .ok (.aload_n 0, 1) := by decide +kernel
theorem d_294_551 : decode (am_b 294) 551 = .ok (.iload_n 3, 1) := by decide +kernel
theorem d_294_552 : decode (am_b 294) 552 = .ok (.iconst 2, 1) := by decide +kernel
theorem d_294_553 : decode (am_b 294) 553 = .ok (.iadd, 1) := by decide +kernel
theorem d_294_554 : decode (am_b 294) 554 = .ok (.iaload, 1) := by decide +kernel
theorem d_294_555 : decode (am_b 294) 555 = .ok (.aload_n 0, 1) := by decide +kernel
theorem d_294_556 : decode (am_b 294) 556 = .ok (.iload_n 3, 1) := by decide +kernel
theorem d_294_557 : decode (am_b 294) 557 = .ok (.iconst 3, 1) := by decide +kernel
theorem d_294_558 : decode (am_b 294) 558 = .ok (.iadd, 1) := by decide +kernel
theorem d_294_559 : decode (am_b 294) 559 = .ok (.iaload, 1) := by decide +kernel
theorem d_294_560 : decode (am_b 294) 560 = .ok (.aload_n 0, 1) := by decide +kernel
theorem d_294_561 : decode (am_b 294) 561 = .ok (.iload_n 3, 1) := by decide +kernel
theorem d_294_562 : decode (am_b 294) 562 = .ok (.iconst 4, 1) := by decide +kernel
theorem d_294_563 : decode (am_b 294) 563 = .ok (.iadd, 1) := by decide +kernel
theorem d_294_564 : decode (am_b 294) 564 = .ok (.iaload, 1) := by decide +kernel
theorem d_294_565 : decode (am_b 294) 565 = .ok (.invokevirtual 53, 3) := by decide +kernel
theorem d_294_568 : decode (am_b 294) 568 = .ok (.if_icmp .eq 1239, 3) := by decide +kernel
theorem d_294_571 : decode (am_b 294) 571 = .ok (.iconst 0, 1) := by decide +kernel
theorem d_294_572 : decode (am_b 294) 572 = .ok (.ireturn, 1) := by decide +kernel
theorem d_294_573 : decode (am_b 294) 573 = .ok (.aload_n 1, 1) := by decide +kernel
theorem d_294_574 : decode (am_b 294) 574 = .ok (.aload_n 0, 1) := by decide +kernel
theorem d_294_575 : decode (am_b 294) 575 = .ok (.iload_n 3, 1) := by decide +kernel
theorem d_294_576 : decode (am_b 294) 576 = .ok (.iconst 1, 1) := by decide +kernel
theorem d_294_577 : decode (am_b 294) 577 = .ok (.iadd, 1) := by decide +kernel
theorem d_294_578 : decode (am_b 294) 578 = .ok (.iaload, 1) := by decide +kernel
theorem d_294_579 : decode (am_b 294) 579 = .ok (.aload_n 0, 1) := by decide +kernel
theorem d_294_580 : decode (am_b 294) 580 = .ok (.iload_n 3, 1) := by decide +kernel
theorem d_294_581 : decode (am_b 294) 581 = .ok (.iconst 2, 1) := by decide +kernel
theorem d_294_582 : decode (am_b 294) 582 = .ok (.iadd, 1) := by decide +kernel
theorem d_294_583 : decode (am_b 294) 583 = .ok (.iaload, 1) := by decide +kernel
theorem d_294_584 : decode (am_b 294) 584 = .ok (.aload_n 0, 1) := by decide +kernel
theorem d_294_585 : decode (am_b 294) 585 = .ok (.iload_n 3, 1) := by decide +kernel
theorem d_294_586 : decode (am_b 294) 586 = .ok (.iconst 3, 1) := by decide +kernel
theorem d_294_587 : decode (am_b 294) 587 = .ok (.iadd, 1) := by decide +kernel
theorem d_294_588 : decode (am_b 294) 588 = .ok (.iaload, 1) := by decide +kernel
theorem d_294_589 : decode (am_b 294) 589 = .ok (.invokevirtual 54, 3) := by decide +kernel
theorem d_294_592 : decode (am_b 294) 592 = .ok (.aload_n 2, 1) := by decide +kernel
theorem d_294_593 : decode (am_b 294) 593 = .ok (.aload_n 0, 1) := by decide +kernel
theorem d_294_594 : decode (am_b 294) 594 = .ok (.iload_n 3, 1) := by decide +kernel
theorem d_294_595 : decode (am_b 294) 595 = .ok (.iconst 1, 1) := by decide +kernel
theorem d_294_596 : decode (am_b 294) 596 = .ok (.iadd, 1) := by decide +kernel
theorem d_294_597 : decode (am_b 294) 597 = .ok (.iaload, 1) := by decide +kernel
theorem d_294_598 : decode (am_b 294) 598 = .ok (.aload_n 0, 1) := by decide +kernel
theorem d_294_599 : decode (am_b 294) 599 = .ok (.iload_n 3, 1) := by decide +kernel
theorem d_294_600 : decode (am_b 294) 600 = .ok (.iconst 2, 1) := by decide +kernel
theorem d_294_601 : decode (am_b 294) 601 = .ok (.iadd, 1) := by decide +kernel
theorem d_294_602 : decode (am_b 294) 602 = .ok (.iaload, 1) := by decide +kernel
theorem d_294_603 : decode (am_b 294) 603 = .ok (.aload_n 0, 1) := by decide +kernel
theorem d_294_604 : decode (am_b 294) 604 = .ok (.iload_n 3, 1) := by decide +kernel
theorem d_294_605 : decode (am_b 294) 605 = .ok (.iconst 3, 1) := by decide +kernel
theorem d_294_606 : decode (am_b 294) 606 = .ok (.iadd, 1) := by decide +kernel
theorem d_294_607 : decode (am_b 294) 607 = .ok (.iaload, 1) := by decide +kernel
theorem d_294_608 : decode (am_b 294) 608 = .ok (.invokevirtual 57, 3) := by decide +kernel
theorem d_294_611 : decode (am_b 294) 611 = .ok (.if_icmp .eq 1196, 3) := by decide +kernel
theorem d_294_614 : decode (am_b 294) 614 = .ok (.iconst 0, 1) := by decide +kernel
theorem d_294_615 : decode (am_b 294) 615 = .ok (.ireturn, 1) := by decide +kernel
theorem d_294_616 : decode (am_b 294) 616 = .ok (.aload_n 1, 1) := by decide +kernel
theorem d_294_617 : decode (am_b 294) 617 = .ok (.aload_n 0, 1) := by decide +kernel
theorem d_294_618 : decode (am_b 294) 618 = .ok (.iload_n 3, 1) := by decide +kernel
theorem d_294_619 : decode (am_b 294) 619 = .ok (.iconst 1, 1) := by decide +kernel
theorem d_294_620 : decode (am_b 294) 620 = .ok (.iadd, 1) := by decide +kernel
theorem d_294_621 : decode (am_b 294) 621 = .ok (.iaload, 1) := by decide +kernel
theorem d_294_622 : decode (am_b 294) 622 = .ok (.aload_n 0, 1) := by decide +kernel
theorem d_294_623 : decode (am_b 294) 623 = .ok (.iload_n 3, 1) := by decide +kernel
theorem d_294_624 : decode (am_b 294) 624 = .ok (.iconst 2, 1) := by decide +kernel
theorem d_294_625 : decode (am_b 294) 625 = .ok (.iadd, 1) := by decide +kernel
theorem d_294_626 : decode (am_b 294) 626 = .ok (.iaload, 1) := by decide +kernel
theorem d_294_627 : decode (am_b 294) 627 = .ok (.aload_n 0, 1) := by decide +kernel
theorem d_294_628 : decode (am_b 294) 628 = .ok (.iload_n 3, 1) := by decide +kernel
theorem d_294_629 : decode (am_b 294) 629 = .ok (.iconst 3, 1) := by decide +kernel
theorem d_294_630 : decode (am_b 294) 630 = .ok (.iadd, 1) := by decide +kernel
theorem d_294_631 : decode (am_b 294) 631 = .ok (.iaload, 1) := by decide +kernel
theorem d_294_632 : decode (am_b 294) 632 = .ok (.invokevirtual 58, 3) := by decide +kernel
theorem d_294_635 : decode (am_b 294) 635 = .ok (.aload_n 2, 1) := by decide +kernel
theorem d_294_636 : decode (am_b 294) 636 = .ok (.aload_n 0, 1) := by decide +kernel
theorem d_294_637 : decode (am_b 294) 637 = .ok (.iload_n 3, 1) := by decide +kernel
theorem d_294_638 : decode (am_b 294) 638 = .ok (.iconst 1, 1) := by decide +kernel
theorem d_294_639 : decode (am_b 294) 639 = .ok (.iadd, 1) := by decide +kernel
theorem d_294_640 : decode (am_b 294) 640 = .ok (.iaload, 1) := by decide +kernel
theorem d_294_641 : decode (am_b 294) 641 = .ok (.aload_n 0, 1) := by decide +kernel
theorem d_294_642 : decode (am_b 294) 642 = .ok (.iload_n 3, 1) := by decide +kernel
theorem d_294_643 : decode (am_b 294) 643 = .ok (.iconst 2, 1) := by decide +kernel
theorem d_294_644 : decode (am_b 294) 644 = .ok (.iadd, 1) := by decide +kernel
theorem d_294_645 : decode (am_b 294) 645 = .ok (.iaload, 1) := by decide +kernel
theorem d_294_646 : decode (am_b 294) 646 = .ok (.aload_n 0, 1) := by decide +kernel
theorem d_294_647 : decode (am_b 294) 647 = .ok (.iload_n 3, 1) := by decide +kernel
theorem d_294_648 : decode (am_b 294) 648 = .ok (.iconst 3, 1) := by decide +kernel
theorem d_294_649 : decode (am_b 294) 649 = .ok (.iadd, 1) := by decide +kernel
theorem d_294_650 : decode (am_b 294) 650 = .ok (.iaload, 1) := by decide +kernel
theorem d_294_651 : decode (am_b 294) 651 = .ok (.invokevirtual 61, 3) := by decide +kernel
theorem d_294_654 : decode (am_b 294) 654 = .ok (.if_icmp .eq 1153, 3) := by decide +kernel
theorem d_294_657 : decode (am_b 294) 657 = .ok (.iconst 0, 1) := by decide +kernel
theorem d_294_658 : decode (am_b 294) 658 = .ok (.ireturn, 1) := by decide +kernel
theorem d_294_659 : decode (am_b 294) 659 = .ok (.aload_n 1, 1) := by decide +kernel
theorem d_294_660 : decode (am_b 294) 660 = .ok (.aload_n 0, 1) := by decide +kernel
theorem d_294_661 : decode (am_b 294) 661 = .ok (.iload_n 3, 1) := by decide +kernel
theorem d_294_662 : decode (am_b 294) 662 = .ok (.iconst 1, 1) := by decide +kernel
theorem d_294_663 : decode (am_b 294) 663 = .ok (.iadd, 1) := by decide +kernel
theorem d_294_664 : decode (am_b 294) 664 = .ok (.iaload, 1) := by decide +kernel
theorem d_294_665 : decode (am_b 294) 665 = .ok (.aload_n 0, 1) := by decide +kernel
theorem d_294_666 : decode (am_b 294) 666 = .ok (.iload_n 3, 1) := by decide +kernel
theorem d_294_667 : decode (am_b 294) 667 = .ok (.iconst 2, 1) := by decide +kernel
theorem d_294_668 : decode (am_b 294) 668 = .ok (.iadd, 1) := by decide +kernel
theorem d_294_669 : decode (am_b 294) 669 = .ok (.iaload, 1) := by decide +kernel
theorem d_294_670 : decode (am_b 294) 670 = .ok (.aload_n 0, 1) := by decide +kernel
theorem d_294_671 : decode (am_b 294) 671 = .ok (.iload_n 3, 1) := by decide +kernel
theorem d_294_672 : decode (am_b 294) 672 = .ok (.iconst 3, 1) := by decide +kernel
theorem d_294_673 : decode (am_b 294) 673 = .ok (.iadd, 1) := by decide +kernel
theorem d_294_674 : decode (am_b 294) 674 = .ok (.iaload, 1) := by decide +kernel
theorem d_294_675 : decode (am_b 294) 675 = .ok (.invokevirtual 62, 3) := by decide +kernel
theorem d_294_678 : decode (am_b 294) 678 = .ok (.aload_n 2, 1) := by decide +kernel
theorem d_294_679 : decode (am_b 294) 679 = .ok (.aload_n 0, 1) := by decide +kernel
theorem d_294_680 : decode (am_b 294) 680 = .ok (.iload_n 3, 1) := by decide +kernel
theorem d_294_681 : decode (am_b 294) 681 = .ok (.iconst 1, 1) := by decide +kernel
theorem d_294_682 : decode (am_b 294) 682 = .ok (.iadd, 1) := by decide +kernel
theorem d_294_683 : decode (am_b 294) 683 = .ok (.iaload, 1) := by decide +kernel
theorem d_294_684 : decode (am_b 294) 684 = .ok (.aload_n 0, 1) := by decide +kernel
theorem d_294_685 : decode (am_b 294) 685 = .ok (.iload_n 3, 1) := by decide +kernel
theorem d_294_686 : decode (am_b 294) 686 = .ok (.iconst 2, 1) := by decide +kernel
theorem d_294_687 : decode (am_b 294) 687 = .ok (.iadd, 1) := by decide +kernel
theorem d_294_688 : decode (am_b 294) 688 = .ok (.iaload, 1) := by decide +kernel
theorem d_294_689 : decode (am_b 294) 689 = .ok (.aload_n 0, 1) := by decide +kernel
theorem d_294_690 : decode (am_b 294) 690 = .ok (.iload_n 3, 1) := by decide +kernel
theorem d_294_691 : decode (am_b 294) 691 = .ok (.iconst 3, 1) := by decide +kernel
theorem d_294_692 : decode (am_b 294) 692 = .ok (.iadd, 1) := by decide +kernel
theorem d_294_693 : decode (am_b 294) 693 = .ok (.iaload, 1) := by decide +kernel
theorem d_294_694 : decode (am_b 294) 694 = .ok (.invokevirtual 65, 3) := by decide +kernel
theorem d_294_697 : decode (am_b 294) 697 = .ok (.if_icmp .eq 1110, 3) := by decide +kernel
theorem d_294_700 : decode (am_b 294) 700 = .ok (.iconst 0, 1) := by decide +kernel
theorem d_294_701 : decode (am_b 294) 701 = .ok (.ireturn, 1) := by decide +kernel
theorem d_294_702 : decode (am_b 294) 702 = .ok (.aload_n 1, 1) := by decide +kernel
theorem d_294_703 : decode (am_b 294) 703 = .ok (.invokevirtual 66, 3) := by decide +kernel
theorem d_294_706 : decode (am_b 294) 706 = .ok (.aload_n 2, 1) := by decide +kernel
theorem d_294_707 : decode (am_b 294) 707 = .ok (.invokevirtual 70, 3) := by decide +kernel
theorem d_294_710 : decode (am_b 294) 710 = .ok (.if_icmp .eq 1097, 3) := by decide +kernel
theorem d_294_713 : decode (am_b 294) 713 = .ok (.iconst 0, 1) := by decide +kernel
theorem d_294_714 : decode (am_b 294) 714 = .ok (.ireturn, 1) := by decide +kernel
theorem d_294_715 : decode (am_b 294) 715 = .ok (.aload_n 1, 1) := by decide +kernel
theorem d_294_716 : decode (am_b 294) 716 = .ok (.invokevirtual 71, 3) := by decide +kernel
theorem d_294_719 : decode (am_b 294) 719 = .ok (.aload_n 2, 1) := by decide +kernel
theorem d_294_720 : decode (am_b 294) 720 = .ok (.invokevirtual 74, 3) := by decide +kernel
theorem d_294_723 : decode (am_b 294) 723 = .ok (.if_icmp .eq 1084, 3) := by decide +kernel
theorem d_294_726 : decode (am_b 294) 726 = .ok (.iconst 0, 1) := by decide +kernel
theorem d_294_727 : decode (am_b 294) 727 = .ok (.ireturn, 1) := by decide +kernel
theorem d_294_728 : decode (am_b 294) 728 = .ok (.aload_n 1, 1) := by decide +kernel
theorem d_294_729 : decode (am_b 294) 729 = .ok (.aload_n 0, 1) := by decide +kernel
theorem d_294_730 : decode (am_b 294) 730 = .ok (.iload_n 3, 1) := by decide +kernel
theorem d_294_731 : decode (am_b 294) 731 = .ok (.iconst 1, 1) := by decide +kernel
theorem d_294_732 : decode (am_b 294) 732 = .ok (.iadd, 1) := by decide +kernel
theorem d_294_733 : decode (am_b 294) 733 = .ok (.iaload, 1) := by decide +kernel
theorem d_294_734 : decode (am_b 294) 734 = .ok (.invokevirtual 75, 3) := by decide +kernel
theorem d_294_737 : decode (am_b 294) 737 = .ok (.aload_n 2, 1) := by decide +kernel
theorem d_294_738 : decode (am_b 294) 738 = .ok (.aload_n 0, 1) := by decide +kernel
theorem d_294_739 : decode (am_b 294) 739 = .ok (.iload_n 3, 1) := by decide +kernel
theorem d_294_740 : decode (am_b 294) 740 = .ok (.iconst 1, 1) := by decide +kernel
theorem d_294_741 : decode (am_b 294) 741 = .ok (.iadd, 1) := by decide +kernel
theorem d_294_742 : decode (am_b 294) 742 = .ok (.iaload, 1) := by decide +kernel
theorem d_294_743 : decode (am_b 294) 743 = .ok (.invokevirtual 78, 3) := by decide +kernel
theorem d_294_746 : decode (am_b 294) 746 = .ok (.if_icmp .eq 1061, 3) := by decide +kernel
theorem d_294_749 : decode (am_b 294) 749 = .ok (.iconst 0, 1) := by decide +kernel
theorem d_294_750 : decode (am_b 294) 750 = .ok (.ireturn, 1) := by decide +kernel
theorem d_294_751 : decode (am_b 294) 751 = .ok (.aload_n 1, 1) := by decide +kernel
theorem d_294_752 : decode (am_b 294) 752 = .ok (.aload_n 0, 1) := by decide +kernel
theorem d_294_753 : decode (am_b 294) 753 = .ok (.iload_n 3, 1) := by decide +kernel
theorem d_294_754 : decode (am_b 294) 754 = .ok (.iconst 1, 1) := by decide +kernel
theorem d_294_755 : decode (am_b 294) 755 = .ok (.iadd, 1) := by decide +kernel
theorem d_294_756 : decode (am_b 294) 756 = .ok (.iaload, 1) := by decide +kernel
theorem d_294_757 : decode (am_b 294) 757 = .ok (.aload_n 0, 1) := by decide +kernel
theorem d_294_758 : decode (am_b 294) 758 = .ok (.iload_n 3, 1) := by decide +kernel
theorem d_294_759 : decode (am_b 294) 759 = .ok (.iconst 2, 1) := by decide +kernel
theorem d_294_760 : decode (am_b 294) 760 = .ok (.iadd, 1) := by decide +kernel
theorem d_294_761 : decode (am_b 294) 761 = .ok (.iaload, 1) := by decide +kernel
theorem d_294_762 : decode (am_b 294) 762 = .ok (.aload_n 0, 1) := by decide +kernel
theorem d_294_763 : decode (am_b 294) 763 = .ok (.iload_n 3, 1) := by decide +kernel
theorem d_294_764 : decode (am_b 294) 764 = .ok (.iconst 3, 1) := by decide +kernel
theorem d_294_765 : decode (am_b 294) 765 = .ok (.iadd, 1) := by decide +kernel
theorem d_294_766 : decode (am_b 294) 766 = .ok (.iaload, 1) := by decide +kernel
theorem d_294_767 : decode (am_b 294) 767 = .ok (.aload_n 0, 1) := by decide +kernel
theorem d_294_768 : decode (am_b 294) 768 = .ok (.iload_n 3, 1) := by decide +kernel
theorem d_294_769 : decode (am_b 294) 769 = .ok (.iconst 4, 1) := by decide +kernel
theorem d_294_770 : decode (am_b 294) 770 = .ok (.iadd, 1) := by decide +kernel
theorem d_294_771 : decode (am_b 294) 771 = .ok (.iaload, 1) := by decide +kernel
theorem d_294_772 : decode (am_b 294) 772 = .ok (.invokevirtual 79, 3) := by decide +kernel
theorem d_294_775 : decode (am_b 294) 775 = .ok (.aload_n 2, 1) := by decide +kernel
theorem d_294_776 : decode (am_b 294) 776 = .ok (.aload_n 0, 1) := by decide +kernel
theorem d_294_777 : decode (am_b 294) 777 = .ok (.iload_n 3, 1) := by decide +kernel
theorem d_294_778 : decode (am_b 294) 778 = .ok (.iconst 1, 1) := by decide +kernel
theorem d_294_779 : decode (am_b 294) 779 = .ok (.iadd, 1) := by decide +kernel
theorem d_294_780 : decode (am_b 294) 780 = .ok (.iaload, 1) := by decide +kernel
theorem d_294_781 : decode (am_b 294) 781 = .ok (.aload_n 0, 1) := by decide +kernel
theorem d_294_782 : decode (am_b 294) 782 = .ok (.iload_n 3, 1) := by decide +kernel
theorem d_294_783 : decode (am_b 294) 783 = .ok (.iconst 2, 1) := by decide +kernel
theorem d_294_784 : decode (am_b 294) 784 = .ok (.iadd, 1) := by decide +kernel
theorem d_294_785 : decode (am_b 294) 785 = .ok (.iaload, 1) := by decide +kernel
theorem d_294_786 : decode (am_b 294) 786 = .ok (.aload_n 0, 1) := by decide +kernel
theorem d_294_787 : decode (am_b 294) 787 = .ok (.iload_n 3, 1) := by decide +kernel
theorem d_294_788 : decode (am_b 294) 788 = .ok (.iconst 3, 1) := by decide +kernel
theorem d_294_789 : decode (am_b 294) 789 = .ok (.iadd, 1) := by decide +kernel
theorem d_294_790 : decode (am_b 294) 790 = .ok (.iaload, 1) := by decide +kernel
theorem d_294_791 : decode (am_b 294) 791 = .ok (.aload_n 0, 1) := by decide +kernel
theorem d_294_792 : decode (am_b 294) 792 = .ok (.iload_n 3, 1) := by decide +kernel
theorem d_294_793 : decode (am_b 294) 793 = .ok (.iconst 4, 1) := by decide +kernel
theorem d_294_794 : decode (am_b 294) 794 = .ok (.iadd, 1) := by decide +kernel
theorem d_294_795 : decode (am_b 294) 795 = .ok (.iaload, 1) := by decide +kernel
theorem d_294_796 : decode (am_b 294) 796 = .ok (.invokevirtual 82, 3) := by decide +kernel
theorem d_294_799 : decode (am_b 294) 799 = .ok (.if_icmp .eq 1008, 3) := by decide +kernel
theorem d_294_802 : decode (am_b 294) 802 = .ok (.iconst 0, 1) := by decide +kernel
theorem d_294_803 : decode (am_b 294) 803 = .ok (.ireturn, 1) := by decide +kernel
theorem d_294_804 : decode (am_b 294) 804 = .ok (.aload_n 1, 1) := by decide +kernel
theorem d_294_805 : decode (am_b 294) 805 = .ok (.aload_n 0, 1) := by decide +kernel
theorem d_294_806 : decode (am_b 294) 806 = .ok (.iload_n 3, 1) := by decide +kernel
theorem d_294_807 : decode (am_b 294) 807 = .ok (.iconst 1, 1) := by decide +kernel
theorem d_294_808 : decode (am_b 294) 808 = .ok (.iadd, 1) := by decide +kernel
theorem d_294_809 : decode (am_b 294) 809 = .ok (.iaload, 1) := by decide +kernel
theorem d_294_810 : decode (am_b 294) 810 = .ok (.aload_n 0, 1) := by decide +kernel
theorem d_294_811 : decode (am_b 294) 811 = .ok (.iload_n 3, 1) := by decide +kernel
theorem d_294_812 : decode (am_b 294) 812 = .ok (.iconst 2, 1) := by decide +kernel
theorem d_294_813 : decode (am_b 294) 813 = .ok (.iadd, 1) := by decide +kernel
theorem d_294_814 : decode (am_b 294) 814 = .ok (.iaload, 1) := by decide +kernel
theorem d_294_815 : decode (am_b 294) 815 = .ok (.invokevirtual 83, 3) := by decide +kernel
theorem d_294_818 : decode (am_b 294) 818 = .ok (.aload_n 2, 1) := by decide +kernel
theorem d_294_819 : decode (am_b 294) 819 = .ok (.aload_n 0, 1) := by decide +kernel
theorem d_294_820 : decode (am_b 294) 820 = .ok (.iload_n 3, 1) := by decide +kernel
theorem d_294_821 : decode (am_b 294) 821 = .ok (.iconst 1, 1) := by decide +kernel
theorem d_294_822 : decode (am_b 294) 822 = .ok (.iadd, 1) := by decide +kernel
theorem d_294_823 : decode (am_b 294) 823 = .ok (.iaload, 1) := by decide +kernel
theorem d_294_824 : decode (am_b 294) 824 = .ok (.aload_n 0, 1) := by decide +kernel
theorem d_294_825 : decode (am_b 294) 825 = .ok (.iload_n 3, 1) := by decide +kernel
theorem d_294_826 : decode (am_b 294) 826 = .ok (.iconst 2, 1) := by decide +kernel
theorem d_294_827 : decode (am_b 294) 827 = .ok (.iadd, 1) := by decide +kernel
theorem d_294_828 : decode (am_b 294) 828 = .ok (.iaload, 1) := by decide +kernel
theorem d_294_829 : decode (am_b 294) 829 = .ok (.invokevirtual 86, 3) := by decide +kernel
theorem d_294_832 : decode (am_b 294) 832 = .ok (.if_icmp .eq 975, 3) := by decide +kernel
theorem d_294_835 : decode (am_b 294) 835 = .ok (.iconst 0, 1) := by decide +kernel
theorem d_294_836 : decode (am_b 294) 836 = .ok (.ireturn, 1) := by decide +kernel
theorem d_294_837 : decode (am_b 294) 837 = .ok (.aload_n 1, 1) := by decide +kernel
theorem d_294_838 : decode (am_b 294) 838 = .ok (.invokevirtual 87, 3) := by decide +kernel
theorem d_294_841 : decode (am_b 294) 841 = .ok (.aload_n 2, 1) := by decide +kernel
theorem d_294_842 : decode (am_b 294) 842 = .ok (.invokevirtual 90, 3) := by decide +kernel
theorem d_294_845 : decode (am_b 294) 845 = .ok (.if_icmp .eq 962, 3) := by decide +kernel
theorem d_294_848 : decode (am_b 294) 848 = .ok (.iconst 0, 1) := by decide +kernel
theorem d_294_849 : decode (am_b 294) 849 = .ok (.ireturn, 1) := by decide +kernel
theorem d_294_850 : decode (am_b 294) 850 = .ok (.aload_n 1, 1) := by decide +kernel
theorem d_294_851 : decode (am_b 294) 851 = .ok (.invokevirtual 91, 3) := by decide +kernel
theorem d_294_854 : decode (am_b 294) 854 = .ok (.aload_n 2, 1) := by decide +kernel
theorem d_294_855 : decode (am_b 294) 855 = .ok (.invokevirtual 94, 3) := by decide +kernel
theorem d_294_858 : decode (am_b 294) 858 = .ok (.if_icmp .eq 949, 3) := by decide +kernel
theorem d_294_861 : decode (am_b 294) 861 = .ok (.iconst 0, 1) := by decide +kernel
theorem d_294_862 : decode (am_b 294) 862 = .ok (.ireturn, 1) := by decide +kernel
theorem d_294_863 : decode (am_b 294) 863 = .ok (.aload_n 1, 1) := by decide +kernel
theorem d_294_864 : decode (am_b 294) 864 = .ok (.aload_n 0, 1) := by decide +kernel
theorem d_294_865 : decode (am_b 294) 865 = .ok (.iload_n 3, 1) := by decide +kernel
theorem d_294_866 : decode (am_b 294) 866 = .ok (.iconst 1, 1) := by decide +kernel
theorem d_294_867 : decode (am_b 294) 867 = .ok (.iadd, 1) := by decide +kernel
theorem d_294_868 : decode (am_b 294) 868 = .ok (.iaload, 1) := by decide +kernel
theorem d_294_869 : decode (am_b 294) 869 = .ok (.aload_n 0, 1) := by decide +kernel
theorem d_294_870 : decode (am_b 294) 870 = .ok (.iload_n 3, 1) := by decide +kernel
theorem d_294_871 : decode (am_b 294) 871 = .ok (.iconst 2, 1) := by decide +kernel
theorem d_294_872 : decode (am_b 294) 872 = .ok (.iadd, 1) := by decide +kernel
theorem d_294_873 : decode (am_b 294) 873 = .ok (.iaload, 1) := by decide +kernel
theorem d_294_874 : decode (am_b 294) 874 = .ok (.invokevirtual 95, 3) := by decide +kernel
theorem d_294_877 : decode (am_b 294) 877 = .ok (.aload_n 2, 1) := by decide +kernel
theorem d_294_878 : decode (am_b 294) 878 = .ok (.aload_n 0, 1) := by decide +kernel
theorem d_294_879 : decode (am_b 294) 879 = .ok (.iload_n 3, 1) := by decide +kernel
theorem d_294_880 : decode (am_b 294) 880 = .ok (.iconst 1, 1) := by decide +kernel
theorem d_294_881 : decode (am_b 294) 881 = .ok (.iadd, 1) := by decide +kernel
theorem d_294_882 : decode (am_b 294) 882 = .ok (.iaload, 1) := by decide +kernel
theorem d_294_883 : decode (am_b 294) 883 = .ok (.aload_n 0, 1) := by decide +kernel
theorem d_294_884 : decode (am_b 294) 884 = .ok (.iload_n 3, 1) := by decide +kernel
theorem d_294_885 : decode (am_b 294) 885 = .ok (.iconst 2, 1) := by decide +kernel
theorem d_294_886 : decode (am_b 294) 886 = .ok (.iadd, 1) := by decide +kernel
theorem d_294_887 : decode (am_b 294) 887 = .ok (.iaload, 1) := by decide +kernel
theorem d_294_888 : decode (am_b 294) 888 = .ok (.invokevirtual 98, 3) := by decide +kernel
theorem d_294_891 : decode (am_b 294) 891 = .ok (.if_icmp .eq 916, 3) := by decide +kernel
theorem d_294_894 : decode (am_b 294) 894 = .ok (.iconst 0, 1) := by decide +kernel
theorem d_294_895 : decode (am_b 294) 895 = .ok (.ireturn, 1) := by decide +kernel
theorem d_294_896 : decode (am_b 294) 896 = .ok (.aload_n 1, 1) := by decide +kernel
theorem d_294_897 : decode (am_b 294) 897 = .ok (.aload_n 0, 1) := by decide +kernel
theorem d_294_898 : decode (am_b 294) 898 = .ok (.iload_n 3, 1) := by decide +kernel
theorem d_294_899 : decode (am_b 294) 899 = .ok (.iconst 1, 1) := by decide +kernel
theorem d_294_900 : decode (am_b 294) 900 = .ok (.iadd, 1) := by decide +kernel
theorem d_294_901 : decode (am_b 294) 901 = .ok (.iaload, 1) := by decide +kernel
theorem d_294_902 : decode (am_b 294) 902 = .ok (.aload_n 0, 1) := by decide +kernel
theorem d_294_903 : decode (am_b 294) 903 = .ok (.iload_n 3, 1) := by decide +kernel
theorem d_294_904 : decode (am_b 294) 904 = .ok (.iconst 2, 1) := by decide +kernel
theorem d_294_905 : decode (am_b 294) 905 = .ok (.iadd, 1) := by decide +kernel
theorem d_294_906 : decode (am_b 294) 906 = .ok (.iaload, 1) := by decide +kernel
theorem d_294_907 : decode (am_b 294) 907 = .ok (.aload_n 0, 1) := by decide +kernel
theorem d_294_908 : decode (am_b 294) 908 = .ok (.iload_n 3, 1) := by decide +kernel
theorem d_294_909 : decode (am_b 294) 909 = .ok (.iconst 3, 1) := by decide +kernel
theorem d_294_910 : decode (am_b 294) 910 = .ok (.iadd, 1) := by decide +kernel
theorem d_294_911 : decode (am_b 294) 911 = .ok (.iaload, 1) := by decide +kernel
theorem d_294_912 : decode (am_b 294) 912 = .ok (.invokevirtual 99, 3) := by decide +kernel
theorem d_294_915 : decode (am_b 294) 915 = .ok (.aload_n 2, 1) := by decide +kernel
theorem d_294_916 : decode (am_b 294) 916 = .ok (.aload_n 0, 1) := by decide +kernel
theorem d_294_917 : decode (am_b 294) 917 = .ok (.iload_n 3, 1) := by decide +kernel
theorem d_294_918 : decode (am_b 294) 918 = .ok (.iconst 1, 1) := by decide +kernel
theorem d_294_919 : decode (am_b 294) 919 = .ok (.iadd, 1) := by decide +kernel
theorem d_294_920 : decode (am_b 294) 920 = .ok (.iaload, 1) := by decide +kernel
theorem d_294_921 : decode (am_b 294) 921 = .ok (.aload_n 0, 1) := by decide +kernel
theorem d_294_922 : decode (am_b 294) 922 = .ok (.iload_n 3, 1) := by decide +kernel
theorem d_294_923 : decode (am_b 294) 923 = .ok (.iconst 2, 1) := by decide +kernel
theorem d_294_924 : decode (am_b 294) 924 = .ok (.iadd, 1) := by decide +kernel
theorem d_294_925 : decode (am_b 294) 925 = .ok (.iaload, 1) := by decide +kernel
theorem d_294_926 : decode (am_b 294) 926 = .ok (.aload_n 0, 1) := by decide +kernel
theorem d_294_927 : decode (am_b 294) 927 = .ok (.iload_n 3, 1) := by decide +kernel
theorem d_294_928 : decode (am_b 294) 928 = .ok (.iconst 3, 1) := by decide +kernel
theorem d_294_929 : decode (am_b 294) 929 = .ok (.iadd, 1) := by decide +kernel
theorem d_294_930 : decode (am_b 294) 930 = .ok (.iaload, 1) := by decide +kernel
theorem d_294_931 : decode (am_b 294) 931 = .ok (.invokevirtual 102, 3) := by decide +kernel
theorem d_294_934 : decode (am_b 294) 934 = .ok (.if_icmp .eq 873, 3) := by decide +kernel
theorem d_294_937 : decode (am_b 294) 937 = .ok (.iconst 0, 1) := by decide +kernel
theorem d_294_938 : decode (am_b 294) 938 = .ok (.ireturn, 1) := by decide +kernel
theorem d_294_939 : decode (am_b 294) 939 = .ok (.aload_n 1, 1) := by decide +kernel
theorem d_294_940 : decode (am_b 294) 940 = .ok (.aload_n 0, 1) := by decide +kernel
theorem d_294_941 : decode (am_b 294) 941 = .ok (.iload_n 3, 1) := by decide +kernel
theorem d_294_942 : decode (am_b 294) 942 = .ok (.iconst 1, 1) := by decide +kernel
theorem d_294_943 : decode (am_b 294) 943 = .ok (.iadd, 1) := by decide +kernel
theorem d_294_944 : decode (am_b 294) 944 = .ok (.iaload, 1) := by decide +kernel
theorem d_294_945 : decode (am_b 294) 945 = .ok (.aload_n 0, 1) := by decide +kernel
theorem d_294_946 : decode (am_b 294) 946 = .ok (.iload_n 3, 1) := by decide +kernel
theorem d_294_947 : decode (am_b 294) 947 = .ok (.iconst 2, 1) := by decide +kernel
theorem d_294_948 : decode (am_b 294) 948 = .ok (.iadd, 1) := by decide +kernel
theorem d_294_949 : decode (am_b 294) 949 = .ok (.iaload, 1) := by decide +kernel
theorem d_294_950 : decode (am_b 294) 950 = .ok (.aload_n 0, 1) := by decide +kernel
theorem d_294_951 : decode (am_b 294) 951 = .ok (.iload_n 3, 1) := by decide +kernel
theorem d_294_952 : decode (am_b 294) 952 = .ok (.iconst 3, 1) := by decide +kernel
theorem d_294_953 : decode (am_b 294) 953 = .ok (.iadd, 1) := by decide +kernel
theorem d_294_954 : decode (am_b 294) 954 = .ok (.iaload, 1) := by decide +kernel
theorem d_294_955 : decode (am_b 294) 955 = .ok (.invokevirtual 103, 3) := by decide +kernel
theorem d_294_958 : decode (am_b 294) 958 = .ok (.aload_n 2, 1) := by decide +kernel
theorem d_294_959 : decode (am_b 294) 959 = .ok (.aload_n 0, 1) := by decide +kernel
theorem d_294_960 : decode (am_b 294) 960 = .ok (.iload_n 3, 1) := by decide +kernel
theorem d_294_961 : decode (am_b 294) 961 = .ok (.iconst 1, 1) := by decide +kernel
theorem d_294_962 : decode (am_b 294) 962 = .ok (.iadd, 1) := by decide +kernel
theorem d_294_963 : decode (am_b 294) 963 = .ok (.iaload, 1) := by decide +kernel
theorem d_294_964 : decode (am_b 294) 964 = .ok (.aload_n 0, 1) := by decide +kernel
theorem d_294_965 : decode (am_b 294) 965 = .ok (.iload_n 3, 1) := by decide +kernel
theorem d_294_966 : decode (am_b 294) 966 = .ok (.iconst 2, 1) := by decide +kernel
theorem d_294_967 : decode (am_b 294) 967 = .ok (.iadd, 1) := by decide +kernel
theorem d_294_968 : decode (am_b 294) 968 = .ok (.iaload, 1) := by decide +kernel
theorem d_294_969 : decode (am_b 294) 969 = .ok (.aload_n 0, 1) := by decide +kernel
theorem d_294_970 : decode (am_b 294) 970 = .ok (.iload_n 3, 1) := by decide +kernel
theorem d_294_971 : decode (am_b 294) 971 = .ok (.iconst 3, 1) := by decide +kernel
theorem d_294_972 : decode (am_b 294) 972 = .ok (.iadd, 1) := by decide +kernel
theorem d_294_973 : decode (am_b 294) 973 = .ok (.iaload, 1) := by decide +kernel
theorem d_294_974 : decode (am_b 294) 974 = .ok (.invokevirtual 106, 3) := by decide +kernel
theorem d_294_977 : decode (am_b 294) 977 = .ok (.if_icmp .eq 830, 3) := by decide +kernel
theorem d_294_980 : decode (am_b 294) 980 = .ok (.iconst 0, 1) := by decide +kernel
theorem d_294_981 : decode (am_b 294) 981 = .ok (.ireturn, 1) := by decide +kernel
theorem d_294_982 : decode (am_b 294) 982 = .ok (.aload_n 1, 1) := by decide +kernel
theorem d_294_983 : decode (am_b 294) 983 = .ok (.aload_n 0, 1) := by decide +kernel
theorem d_294_984 : decode (am_b 294) 984 = .ok (.iload_n 3, 1) := by decide +kernel
theorem d_294_985 : decode (am_b 294) 985 = .ok (.iconst 1, 1) := by decide +kernel
theorem d_294_986 : decode (am_b 294) 986 = .ok (.iadd, 1) := by decide +kernel
theorem d_294_987 : decode (am_b 294) 987 = .ok (.iaload, 1) := by decide +kernel
theorem d_294_988 : decode (am_b 294) 988 = .ok (.aload_n 0, 1) := by decide +kernel
theorem d_294_989 : decode (am_b 294) 989 = .ok (.iload_n 3, 1) := by decide +kernel
theorem d_294_990 : decode (am_b 294) 990 = .ok (.iconst 2, 1) := by decide +kernel
theorem d_294_991 : decode (am_b 294) 991 = .ok (.iadd, 1) := by decide +kernel
theorem d_294_992 : decode (am_b 294) 992 = .ok (.iaload, 1) := by decide +kernel
theorem d_294_993 : decode (am_b 294) 993 = .ok (.aload_n 0, 1) := by decide +kernel
theorem d_294_994 : decode (am_b 294) 994 = .ok (.iload_n 3, 1) := by decide +kernel
theorem d_294_995 : decode (am_b 294) 995 = .ok (.iconst 3, 1) := by decide +kernel
theorem d_294_996 : decode (am_b 294) 996 = .ok (.iadd, 1) := by decide +kernel
theorem d_294_997 : decode (am_b 294) 997 = .ok (.iaload, 1) := by decide +kernel
theorem d_294_998 : decode (am_b 294) 998 = .ok (.aload_n 0, 1) := by decide +kernel
theorem d_294_999 : decode (am_b 294) 999 = .ok (.iload_n 3, 1) := by decide +kernel
theorem d_294_1000 : decode (am_b 294) 1000 = .ok (.iconst 4, 1) := by decide +kernel
theorem d_294_1001 : decode (am_b 294) 1001 = .ok (.iadd, 1) := by decide +kernel
theorem d_294_1002 : decode (am_b 294) 1002 = .ok (.iaload, 1) := by decide +kernel
theorem d_294_1003 : decode (am_b 294) 1003 = .ok (.aload_n 0, 1) := by decide +kernel
theorem d_294_1004 : decode (am_b 294) 1004 = .ok (.iload_n 3, 1) := by decide +kernel
theorem d_294_1005 : decode (am_b 294) 1005 = .ok (.iconst 5, 1) := by decide +kernel
theorem d_294_1006 : decode (am_b 294) 1006 = .ok (.iadd, 1) := by decide +kernel
theorem d_294_1007 : decode (am_b 294) 1007 = .ok (.iaload, 1) := by decide +kernel
theorem d_294_1008 : decode (am_b 294) 1008 = .ok (.invokevirtual 107, 3) := by decide +kernel
theorem d_294_1011 : decode (am_b 294) 1011 = .ok (.aload_n 2, 1) := by decide +kernel
theorem d_294_1012 : decode (am_b 294) 1012 = .ok (.aload_n 0, 1) := by decide +kernel
theorem d_294_1013 : decode (am_b 294) 1013 = .ok (.iload_n 3, 1) := by decide +kernel
theorem d_294_1014 : decode (am_b 294) 1014 = .ok (.iconst 1, 1) := by decide +kernel
theorem d_294_1015 : decode (am_b 294) 1015 = .ok (.iadd, 1) := by decide +kernel
theorem d_294_1016 : decode (am_b 294) 1016 = .ok (.iaload, 1) := by decide +kernel
theorem d_294_1017 : decode (am_b 294) 1017 = .ok (.aload_n 0, 1) := by decide +kernel
theorem d_294_1018 : decode (am_b 294) 1018 = .ok (.iload_n 3, 1) := by decide +kernel
theorem d_294_1019 : decode (am_b 294) 1019 = .ok (.iconst 2, 1) := by decide +kernel
theorem d_294_1020 : decode (am_b 294) 1020 = .ok (.iadd, 1) := by decide +kernel
theorem d_294_1021 : decode (am_b 294) 1021 = .ok (.iaload, 1) := by decide +kernel
theorem d_294_1022 : decode (am_b 294) 1022 = .ok (.aload_n 0, 1) := by decide +kernel
theorem d_294_1023 : decode (am_b 294) 1023 = .ok (.iload_n 3, 1) := by decide +kernel
theorem d_294_1024 : decode (am_b 294) 1024 = .ok (.iconst 3, 1) := by decide +kernel
theorem d_294_1025 : decode (am_b 294) 1025 = .ok (.iadd, 1) := by decide +kernel
theorem d_294_1026 : decode (am_b 294) 1026 = .ok (.iaload, 1) := by decide +kernel
theorem d_294_1027 : decode (am_b 294) 1027 = .ok (.aload_n 0, 1) := by decide +kernel
theorem d_294_1028 : decode (am_b 294) 1028 = .ok (.iload_n 3, 1) := by decide +kernel
theorem d_294_1029 : decode (am_b 294) 1029 = .ok (.iconst 4, 1) := by decide +kernel
theorem d_294_1030 : decode (am_b 294) 1030 = .ok (.iadd, 1) := by decide +kernel
theorem d_294_1031 : decode (am_b 294) 1031 = .ok (.iaload, 1) := by decide +kernel
theorem d_294_1032 : decode (am_b 294) 1032 = .ok (.aload_n 0, 1) := by decide +kernel
theorem d_294_1033 : decode (am_b 294) 1033 = .ok (.iload_n 3, 1) := by decide +kernel
theorem d_294_1034 : decode (am_b 294) 1034 = .ok (.iconst 5, 1) := by decide +kernel
theorem d_294_1035 : decode (am_b 294) 1035 = .ok (.iadd, 1) := by decide +kernel
theorem d_294_1036 : decode (am_b 294) 1036 = .ok (.iaload, 1) := by decide +kernel
theorem d_294_1037 : decode (am_b 294) 1037 = .ok (.invokevirtual 110, 3) := by decide +kernel
theorem d_294_1040 : decode (am_b 294) 1040 = .ok (.if_icmp .eq 767, 3) := by decide +kernel
theorem d_294_1043 : decode (am_b 294) 1043 = .ok (.iconst 0, 1) := by decide +kernel
theorem d_294_1044 : decode (am_b 294) 1044 = .ok (.ireturn, 1) := by decide +kernel
theorem d_294_1045 : decode (am_b 294) 1045 = .ok (.aload_n 1, 1) := by decide +kernel
theorem d_294_1046 : decode (am_b 294) 1046 = .ok (.aload_n 0, 1) := by decide +kernel
theorem d_294_1047 : decode (am_b 294) 1047 = .ok (.iload_n 3, 1) := by decide +kernel
theorem d_294_1048 : decode (am_b 294) 1048 = .ok (.iconst 1, 1) := by decide +kernel
theorem d_294_1049 : decode (am_b 294) 1049 = .ok (.iadd, 1) := by decide +kernel
theorem d_294_1050 : decode (am_b 294) 1050 = .ok (.iaload, 1) := by decide +kernel
theorem d_294_1051 : decode (am_b 294) 1051 = .ok (.aload_n 0, 1) := by decide +kernel
theorem d_294_1052 : decode (am_b 294) 1052 = .ok (.iload_n 3, 1) := by decide +kernel
theorem d_294_1053 : decode (am_b 294) 1053 = .ok (.iconst 2, 1) := by decide +kernel
theorem d_294_1054 : decode (am_b 294) 1054 = .ok (.iadd, 1) := by decide +kernel
theorem d_294_1055 : decode (am_b 294) 1055 = .ok (.iaload, 1) := by decide +kernel
theorem d_294_1056 : decode (am_b 294) 1056 = .ok (.invokevirtual 111, 3) := by decide +kernel
theorem d_294_1059 : decode (am_b 294) 1059 = .ok (.aload_n 2, 1) := by decide +kernel
theorem d_294_1060 : decode (am_b 294) 1060 = .ok (.aload_n 0, 1) := by decide +kernel
theorem d_294_1061 : decode (am_b 294) 1061 = .ok (.iload_n 3, 1) := by decide +kernel
theorem d_294_1062 : decode (am_b 294) 1062 = .ok (.iconst 1, 1) := by decide +kernel
theorem d_294_1063 : decode (am_b 294) 1063 = .ok (.iadd, 1) := by decide +kernel
theorem d_294_1064 : decode (am_b 294) 1064 = .ok (.iaload, 1) := by decide +kernel
theorem d_294_1065 : decode (am_b 294) 1065 = .ok (.aload_n 0, 1) := by decide +kernel
theorem d_294_1066 : decode (am_b 294) 1066 = .ok (.iload_n 3, 1) := by decide +kernel
theorem d_294_1067 : decode (am_b 294) 1067 = .ok (.iconst 2, 1) := by decide +kernel
theorem d_294_1068 : decode (am_b 294) 1068 = .ok (.iadd, 1) := by decide +kernel
theorem d_294_1069 : decode (am_b 294) 1069 = .ok (.iaload, 1) := by decide +kernel
theorem d_294_1070 : decode (am_b 294) 1070 = .ok (.invokevirtual 114, 3) := by decide +kernel
theorem d_294_1073 : decode (am_b 294) 1073 = .ok (.if_icmp .eq 734, 3) := by decide +kernel
theorem d_294_1076 : decode (am_b 294) 1076 = .ok (.iconst 0, 1) := by decide +kernel
theorem d_294_1077 : decode (am_b 294) 1077 = .ok (.ireturn, 1) := by decide +kernel
theorem d_294_1078 : decode (am_b 294) 1078 = .ok (.aload_n 1, 1) := by decide +kernel
theorem d_294_1079 : decode (am_b 294) 1079 = .ok (.aload_n 0, 1) := by decide +kernel
theorem d_294_1080 : decode (am_b 294) 1080 = .ok (.iload_n 3, 1) := by decide +kernel
theorem d_294_1081 : decode (am_b 294) 1081 = .ok (.iconst 1, 1) := by decide +kernel
theorem d_294_1082 : decode (am_b 294) 1082 = .ok (.iadd, 1) := by decide +kernel
theorem d_294_1083 : decode (am_b 294) 1083 = .ok (.iaload, 1) := by decide +kernel
theorem d_294_1084 : decode (am_b 294) 1084 = .ok (.aload_n 0, 1) := by decide +kernel
theorem d_294_1085 : decode (am_b 294) 1085 = .ok (.iload_n 3, 1) := by decide +kernel
theorem d_294_1086 : decode (am_b 294) 1086 = .ok (.iconst 2, 1) := by decide +kernel
theorem d_294_1087 : decode (am_b 294) 1087 = .ok (.iadd, 1) := by decide +kernel
theorem d_294_1088 : decode (am_b 294) 1088 = .ok (.iaload, 1) := by decide +kernel
theorem d_294_1089 : decode (am_b 294) 1089 = .ok (.invokevirtual 115, 3) := by decide +kernel
theorem d_294_1092 : decode (am_b 294) 1092 = .ok (.aload_n 2, 1) := by decide +kernel
theorem d_294_1093 : decode (am_b 294) 1093 = .ok (.aload_n 0, 1) := by decide +kernel
theorem d_294_1094 : decode (am_b 294) 1094 = .ok (.iload_n 3, 1) := by decide +kernel
theorem d_294_1095 : decode (am_b 294) 1095 = .ok (.iconst 1, 1) := by decide +kernel
theorem d_294_1096 : decode (am_b 294) 1096 = .ok (.iadd, 1) := by decide +kernel
theorem d_294_1097 : decode (am_b 294) 1097 = .ok (.iaload, 1) := by decide +kernel
theorem d_294_1098 : decode (am_b 294) 1098 = .ok (.aload_n 0, 1) := by decide +kernel
theorem d_294_1099 : decode (am_b 294) 1099 = .ok (.iload_n 3, 1) := by decide +kernel
theorem d_294_1100 : decode (am_b 294) 1100 = .ok (.iconst 2, 1) := by decide +kernel
theorem d_294_1101 : decode (am_b 294) 1101 = .ok (.iadd, 1) := by decide +kernel
theorem d_294_1102 : decode (am_b 294) 1102 = .ok (.iaload, 1) := by decide +kernel
theorem d_294_1103 : decode (am_b 294) 1103 = .ok (.invokevirtual 118, 3) := by decide +kernel
theorem d_294_1106 : decode (am_b 294) 1106 = .ok (.if_icmp .eq 701, 3) := by decide +kernel
theorem d_294_1109 : decode (am_b 294) 1109 = .ok (.iconst 0, 1) := by decide +kernel
theorem d_294_1110 : decode (am_b 294) 1110 = .ok (.ireturn, 1) := by decide +kernel
theorem d_294_1111 : decode (am_b 294) 1111 = .ok (.aload_n 1, 1) := by decide +kernel
theorem d_294_1112 : decode (am_b 294) 1112 = .ok (.aload_n 0, 1) := by decide +kernel
theorem d_294_1113 : decode (am_b 294) 1113 = .ok (.iload_n 3, 1) := by decide +kernel
theorem d_294_1114 : decode (am_b 294) 1114 = .ok (.iconst 1, 1) := by decide +kernel
theorem d_294_1115 : decode (am_b 294) 1115 = .ok (.iadd, 1) := by decide +kernel
theorem d_294_1116 : decode (am_b 294) 1116 = .ok (.iaload, 1) := by decide +kernel
theorem d_294_1117 : decode (am_b 294) 1117 = .ok (.aload_n 0, 1) := by decide +kernel
theorem d_294_1118 : decode (am_b 294) 1118 = .ok (.iload_n 3, 1) := by decide +kernel
theorem d_294_1119 : decode (am_b 294) 1119 = .ok (.iconst 2, 1) := by decide +kernel
theorem d_294_1120 : decode (am_b 294) 1120 = .ok (.iadd, 1) := by decide +kernel
theorem d_294_1121 : decode (am_b 294) 1121 = .ok (.iaload, 1) := by decide +kernel
theorem d_294_1122 : decode (am_b 294) 1122 = .ok (.invokevirtual 119, 3) := by decide +kernel
theorem d_294_1125 : decode (am_b 294) 1125 = .ok (.aload_n 2, 1) := by decide +kernel
theorem d_294_1126 : decode (am_b 294) 1126 = .ok (.aload_n 0, 1) := by decide +kernel
theorem d_294_1127 : decode (am_b 294) 1127 = .ok (.iload_n 3, 1) := by decide +kernel
theorem d_294_1128 : decode (am_b 294) 1128 = .ok (.iconst 1, 1) := by decide +kernel
theorem d_294_1129 : decode (am_b 294) 1129 = .ok (.iadd, 1) := by decide +kernel
theorem d_294_1130 : decode (am_b 294) 1130 = .ok (.iaload, 1) := by decide +kernel
theorem d_294_1131 : decode (am_b 294) 1131 = .ok (.aload_n 0, 1) := by decide +kernel
theorem d_294_1132 : decode (am_b 294) 1132 = .ok (.iload_n 3, 1) := by decide +kernel
theorem d_294_1133 : decode (am_b 294) 1133 = .ok (.iconst 2, 1) := by decide +kernel
theorem d_294_1134 : decode (am_b 294) 1134 = .ok (.iadd, 1) := by decide +kernel
theorem d_294_1135 : decode (am_b 294) 1135 = .ok (.iaload, 1) := by decide +kernel
theorem d_294_1136 : decode (am_b 294) 1136 = .ok (.invokevirtual 122, 3) := by decide +kernel
theorem d_294_1139 : decode (am_b 294) 1139 = .ok (.if_icmp .eq 668, 3) := by decide +kernel
theorem d_294_1142 : decode (am_b 294) 1142 = .ok (.iconst 0, 1) := by decide +kernel
theorem d_294_1143 : decode (am_b 294) 1143 = .ok (.ireturn, 1) := by decide +kernel
theorem d_294_1144 : decode (am_b 294) 1144 = .ok (.aload_n 1, 1) := by decide +kernel
theorem d_294_1145 : decode (am_b 294) 1145 = .ok (.aload_n 0, 1) := by decide +kernel
theorem d_294_1146 : decode (am_b 294) 1146 = .ok (.iload_n 3, 1) := by decide +kernel
theorem d_294_1147 : decode (am_b 294) 1147 = .ok (.iconst 1, 1) := by decide +kernel
theorem d_294_1148 : decode (am_b 294) 1148 = .ok (.iadd, 1) := by decide +kernel
theorem d_294_1149 : decode (am_b 294) 1149 = .ok (.iaload, 1) := by decide +kernel
theorem d_294_1150 : decode (am_b 294) 1150 = .ok (.aload_n 0, 1) := by decide +kernel
theorem d_294_1151 : decode (am_b 294) 1151 = .ok (.iload_n 3, 1) := by decide +kernel
theorem d_294_1152 : decode (am_b 294) 1152 = .ok (.iconst 2, 1) := by decide +kernel
theorem d_294_1153 : decode (am_b 294) 1153 = .ok (.iadd, 1) := by decide +kernel
theorem d_294_1154 : decode (am_b 294) 1154 = .ok (.iaload, 1) := by decide +kernel
theorem d_294_1155 : decode (am_b 294) 1155 = .ok (.invokevirtual 123, 3) := by decide +kernel
theorem d_294_1158 : decode (am_b 294) 1158 = .ok (.aload_n 2, 1) := by decide +kernel
theorem d_294_1159 : decode (am_b 294) 1159 = .ok (.aload_n 0, 1) := by decide +kernel
theorem d_294_1160 : decode (am_b 294) 1160 = .ok (.iload_n 3, 1) := by decide +kernel
theorem d_294_1161 : decode (am_b 294) 1161 = .ok (.iconst 1, 1) := by decide +kernel
theorem d_294_1162 : decode (am_b 294) 1162 = .ok (.iadd, 1) := by decide +kernel
theorem d_294_1163 : decode (am_b 294) 1163 = .ok (.iaload, 1) := by decide +kernel
theorem d_294_1164 : decode (am_b 294) 1164 = .ok (.aload_n 0, 1) := by decide +kernel
theorem d_294_1165 : decode (am_b 294) 1165 = .ok (.iload_n 3, 1) := by decide +kernel
theorem d_294_1166 : decode (am_b 294) 1166 = .ok (.iconst 2, 1) := by decide +kernel
theorem d_294_1167 : decode (am_b 294) 1167 = .ok (.iadd, 1) := by decide +kernel
theorem d_294_1168 : decode (am_b 294) 1168 = .ok (.iaload, 1) := by decide +kernel
theorem d_294_1169 : decode (am_b 294) 1169 = .ok (.invokevirtual 126, 3) := by decide +kernel
theorem d_294_1172 : decode (am_b 294) 1172 = .ok (.if_icmp .eq 635, 3) := by decide +kernel
theorem d_294_1175 : decode (am_b 294) 1175 = .ok (.iconst 0, 1) := by decide +kernel
theorem d_294_1176 : decode (am_b 294) 1176 = .ok (.ireturn, 1) := by decide +kernel
theorem d_294_1177 : decode (am_b 294) 1177 = .ok (.aload_n 1, 1) := by decide +kernel
theorem d_294_1178 : decode (am_b 294) 1178 = .ok (.aload_n 0, 1) := by decide +kernel
theorem d_294_1179 : decode (am_b 294) 1179 = .ok (.iload_n 3, 1) := by decide +kernel
theorem d_294_1180 : decode (am_b 294) 1180 = .ok (.iconst 1, 1) := by decide +kernel
theorem d_294_1181 : decode (am_b 294) 1181 = .ok (.iadd, 1) := by decide +kernel
theorem d_294_1182 : decode (am_b 294) 1182 = .ok (.iaload, 1) := by decide +kernel
theorem d_294_1183 : decode (am_b 294) 1183 = .ok (.aload_n 0, 1) := by decide +kernel
theorem d_294_1184 : decode (am_b 294) 1184 = .ok (.iload_n 3, 1) := by decide +kernel
theorem d_294_1185 : decode (am_b 294) 1185 = .ok (.iconst 2, 1) := by decide +kernel
theorem d_294_1186 : decode (am_b 294) 1186 = .ok (.iadd, 1) := by decide +kernel
theorem d_294_1187 : decode (am_b 294) 1187 = .ok (.iaload, 1) := by decide +kernel
theorem d_294_1188 : decode (am_b 294) 1188 = .ok (.invokevirtual 127, 3) := by decide +kernel
theorem d_294_1191 : decode (am_b 294) 1191 = .ok (.aload_n 2, 1) := by decide +kernel
theorem d_294_1192 : decode (am_b 294) 1192 = .ok (.aload_n 0, 1) := by decide +kernel
theorem d_294_1193 : decode (am_b 294) 1193 = .ok (.iload_n 3, 1) := by decide +kernel
theorem d_294_1194 : decode (am_b 294) 1194 = .ok (.iconst 1, 1) := by decide +kernel
theorem d_294_1195 : decode (am_b 294) 1195 = .ok (.iadd, 1) := by decide +kernel
theorem d_294_1196 : decode (am_b 294) 1196 = .ok (.iaload, 1) := by decide +kernel
theorem d_294_1197 : decode (am_b 294) 1197 = .ok (.aload_n 0, 1) := by decide +kernel
theorem d_294_1198 : decode (am_b 294) 1198 = .ok (.iload_n 3, 1) := by decide +kernel
theorem d_294_1199 : decode (am_b 294) 1199 = .ok (.iconst 2, 1) := by decide +kernel
theorem d_294_1200 : decode (am_b 294) 1200 = .ok (.iadd, 1) := by decide +kernel
theorem d_294_1201 : decode (am_b 294) 1201 = .ok (.iaload, 1) := by decide +kernel
theorem d_294_1202 : decode (am_b 294) 1202 = .ok (.invokevirtual 130, 3) := by decide +kernel
theorem d_294_1205 : decode (am_b 294) 1205 = .ok (.if_icmp .eq 602, 3) := by decide +kernel
theorem d_294_1208 : decode (am_b 294) 1208 = .ok (.iconst 0, 1) := by decide +kernel
theorem d_294_1209 : decode (am_b 294) 1209 = .ok (.ireturn, 1) := by decide +kernel
theorem d_294_1210 : decode (am_b 294) 1210 = .ok (.aload_n 1, 1) := by decide +kernel
theorem d_294_1211 : decode (am_b 294) 1211 = .ok (.aload_n 0, 1) := by decide +kernel
theorem d_294_1212 : decode (am_b 294) 1212 = .ok (.iload_n 3, 1) := by decide +kernel
theorem d_294_1213 : decode (am_b 294) 1213 = .ok (.iconst 1, 1) := by decide +kernel
theorem d_294_1214 : decode (am_b 294) 1214 = .ok (.iadd, 1) := by decide +kernel
theorem d_294_1215 : decode (am_b 294) 1215 = .ok (.iaload, 1) := by decide +kernel
theorem d_294_1216 : decode (am_b 294) 1216 = .ok (.aload_n 0, 1) := by decide +kernel
theorem d_294_1217 : decode (am_b 294) 1217 = .ok (.iload_n 3, 1) := by decide +kernel
theorem d_294_1218 : decode (am_b 294) 1218 = .ok (.iconst 2, 1) := by decide +kernel
theorem d_294_1219 : decode (am_b 294) 1219 = .ok (.iadd, 1) := by decide +kernel
theorem d_294_1220 : decode (am_b 294) 1220 = .ok (.iaload, 1) := by decide +kernel
theorem d_294_1221 : decode (am_b 294) 1221 = .ok (.invokevirtual 131, 3) := by decide +kernel
theorem d_294_1224 : decode (am_b 294) 1224 = .ok (.aload_n 2, 1) := by decide +kernel
theorem d_294_1225 : decode (am_b 294) 1225 = .ok (.aload_n 0, 1) := by decide +kernel
theorem d_294_1226 : decode (am_b 294) 1226 = .ok (.iload_n 3, 1) := by decide +kernel
theorem d_294_1227 : decode (am_b 294) 1227 = .ok (.iconst 1, 1) := by decide +kernel
theorem d_294_1228 : decode (am_b 294) 1228 = .ok (.iadd, 1) := by decide +kernel
theorem d_294_1229 : decode (am_b 294) 1229 = .ok (.iaload, 1) := by decide +kernel
theorem d_294_1230 : decode (am_b 294) 1230 = .ok (.aload_n 0, 1) := by decide +kernel
theorem d_294_1231 : decode (am_b 294) 1231 = .ok (.iload_n 3, 1) := by decide +kernel
theorem d_294_1232 : decode (am_b 294) 1232 = .ok (.iconst 2, 1) := by decide +kernel
theorem d_294_1233 : decode (am_b 294) 1233 = .ok (.iadd, 1) := by decide +kernel
theorem d_294_1234 : decode (am_b 294) 1234 = .ok (.iaload, 1) := by decide +kernel
theorem d_294_1235 : decode (am_b 294) 1235 = .ok (.invokevirtual 134, 3) := by decide +kernel
theorem d_294_1238 : decode (am_b 294) 1238 = .ok (.if_icmp .eq 569, 3) := by decide +kernel
theorem d_294_1241 : decode (am_b 294) 1241 = .ok (.iconst 0, 1) := by decide +kernel
theorem d_294_1242 : decode (am_b 294) 1242 = .ok (.ireturn, 1) := by decide +kernel
theorem d_294_1243 : decode (am_b 294) 1243 = .ok (.aload_n 1, 1) := by decide +kernel
theorem d_294_1244 : decode (am_b 294) 1244 = .ok (.aload_n 0, 1) := by decide +kernel
theorem d_294_1245 : decode (am_b 294) 1245 = .ok (.iload_n 3, 1) := by decide +kernel
theorem d_294_1246 : decode (am_b 294) 1246 = .ok (.iconst 1, 1) := by decide +kernel
theorem d_294_1247 : decode (am_b 294) 1247 = .ok (.iadd, 1) := by decide +kernel
theorem d_294_1248 : decode (am_b 294) 1248 = .ok (.iaload, 1) := by decide +kernel
theorem d_294_1249 : decode (am_b 294) 1249 = .ok (.aload_n 0, 1) := by decide +kernel
theorem d_294_1250 : decode (am_b 294) 1250 = .ok (.iload_n 3, 1) := by decide +kernel
theorem d_294_1251 : decode (am_b 294) 1251 = .ok (.iconst 2, 1) := by decide +kernel
theorem d_294_1252 : decode (am_b 294) 1252 = .ok (.iadd, 1) := by decide +kernel
theorem d_294_1253 : decode (am_b 294) 1253 = .ok (.iaload, 1) := by decide +kernel
theorem d_294_1254 : decode (am_b 294) 1254 = .ok (.aload_n 0, 1) := by decide +kernel
theorem d_294_1255 : decode (am_b 294) 1255 = .ok (.iload_n 3, 1) := by decide +kernel
theorem d_294_1256 : decode (am_b 294) 1256 = .ok (.iconst 3, 1) := by decide +kernel
theorem d_294_1257 : decode (am_b 294) 1257 = .ok (.iadd, 1) := by decide +kernel
theorem d_294_1258 : decode (am_b 294) 1258 = .ok (.iaload, 1) := by decide +kernel
theorem d_294_1259 : decode (am_b 294) 1259 = .ok (.invokevirtual 135, 3) := by decide +kernel
theorem d_294_1262 : decode (am_b 294) 1262 = .ok (.aload_n 2, 1) := by decide +kernel
theorem d_294_1263 : decode (am_b 294) 1263 = .ok (.aload_n 0, 1) := by decide +kernel
theorem d_294_1264 : decode (am_b 294) 1264 = .ok (.iload_n 3, 1) := by decide +kernel
theorem d_294_1265 : decode (am_b 294) 1265 = .ok (.iconst 1, 1) := by decide +kernel
theorem d_294_1266 : decode (am_b 294) 1266 = .ok (.iadd, 1) := by decide +kernel
theorem d_294_1267 : decode (am_b 294) 1267 = .ok (.iaload, 1) := by decide +kernel
theorem d_294_1268 : decode (am_b 294) 1268 = .ok (.aload_n 0, 1) := by decide +kernel
theorem d_294_1269 : decode (am_b 294) 1269 = .ok (.iload_n 3, 1) := by decide +kernel
theorem d_294_1270 : decode (am_b 294) 1270 = .ok (.iconst 2, 1) := by decide +kernel
theorem d_294_1271 : decode (am_b 294) 1271 = .ok (.iadd, 1) := by decide +kernel
theorem d_294_1272 : decode (am_b 294) 1272 = .ok (.iaload, 1) := by decide +kernel
theorem d_294_1273 : decode (am_b 294) 1273 = .ok (.aload_n 0, 1) := by decide +kernel
theorem d_294_1274 : decode (am_b 294) 1274 = .ok (.iload_n 3, 1) := by decide +kernel
theorem d_294_1275 : decode (am_b 294) 1275 = .ok (.iconst 3, 1) := by decide +kernel
theorem d_294_1276 : decode (am_b 294) 1276 = .ok (.iadd, 1) := by decide +kernel
theorem d_294_1277 : decode (am_b 294) 1277 = .ok (.iaload, 1) := by decide +kernel
theorem d_294_1278 : decode (am_b 294) 1278 = .ok (.invokevirtual 138, 3) := by decide +kernel
theorem d_294_1281 : decode (am_b 294) 1281 = .ok (.if_icmp .eq 526, 3) := by decide +kernel
theorem d_294_1284 : decode (am_b 294) 1284 = .ok (.iconst 0, 1) := by decide +kernel
theorem d_294_1285 : decode (am_b 294) 1285 = .ok (.ireturn, 1) := by decide +kernel
theorem d_294_1286 : decode (am_b 294) 1286 = .ok (.aload_n 1, 1) := by decide +kernel
theorem d_294_1287 : decode (am_b 294) 1287 = .ok (.aload_n 0, 1) := by decide +kernel
theorem d_294_1288 : decode (am_b 294) 1288 = .ok (.iload_n 3, 1) := by decide +kernel
theorem d_294_1289 : decode (am_b 294) 1289 = .ok (.iconst 1, 1) := by decide +kernel
theorem d_294_1290 : decode (am_b 294) 1290 = .ok (.iadd, 1) := by decide +kernel
theorem d_294_1291 : decode (am_b 294) 1291 = .ok (.iaload, 1) := by decide +kernel
theorem d_294_1292 : decode (am_b 294) 1292 = .ok (.aload_n 0, 1) := by decide +kernel
theorem d_294_1293 : decode (am_b 294) 1293 = .ok (.iload_n 3, 1) := by decide +kernel
theorem d_294_1294 : decode (am_b 294) 1294 = .ok (.iconst 2, 1) := by decide +kernel
theorem d_294_1295 : decode (am_b 294) 1295 = .ok (.iadd, 1) := by decide +kernel
theorem d_294_1296 : decode (am_b 294) 1296 = .ok (.iaload, 1) := by decide +kernel
theorem d_294_1297 : decode (am_b 294) 1297 = .ok (.aload_n 0, 1) := by decide +kernel
theorem d_294_1298 : decode (am_b 294) 1298 = .ok (.iload_n 3, 1) := by decide +kernel
theorem d_294_1299 : decode (am_b 294) 1299 = .ok (.iconst 3, 1) := by decide +kernel
theorem d_294_1300 : decode (am_b 294) 1300 = .ok (.iadd, 1) := by decide +kernel
theorem d_294_1301 : decode (am_b 294) 1301 = .ok (.iaload, 1) := by decide +kernel
theorem d_294_1302 : decode (am_b 294) 1302 = .ok (.invokevirtual 139, 3) := by decide +kernel
theorem d_294_1305 : decode (am_b 294) 1305 = .ok (.aload_n 2, 1) := by decide +kernel
theorem d_294_1306 : decode (am_b 294) 1306 = .ok (.aload_n 0, 1) := by decide +kernel
theorem d_294_1307 : decode (am_b 294) 1307 = .ok (.iload_n 3, 1) := by decide +kernel
theorem d_294_1308 : decode (am_b 294) 1308 = .ok (.iconst 1, 1) := by decide +kernel
theorem d_294_1309 : decode (am_b 294) 1309 = .ok (.iadd, 1) := by decide +kernel
theorem d_294_1310 : decode (am_b 294) 1310 = .ok (.iaload, 1) := by decide +kernel
theorem d_294_1311 : decode (am_b 294) 1311 = .ok (.aload_n 0, 1) := by decide +kernel
theorem d_294_1312 : decode (am_b 294) 1312 = .ok (.iload_n 3, 1) := by decide +kernel
theorem d_294_1313 : decode (am_b 294) 1313 = .ok (.iconst 2, 1) := by decide +kernel
theorem d_294_1314 : decode (am_b 294) 1314 = .ok (.iadd, 1) := by decide +kernel
theorem d_294_1315 : decode (am_b 294) 1315 = .ok (.iaload, 1) := by decide +kernel
theorem d_294_1316 : decode (am_b 294) 1316 = .ok (.aload_n 0, 1) := by decide +kernel
theorem d_294_1317 : decode (am_b 294) 1317 = .ok (.iload_n 3, 1) := by decide +kernel
theorem d_294_1318 : decode (am_b 294) 1318 = .ok (.iconst 3, 1) := by decide +kernel
theorem d_294_1319 : decode (am_b 294) 1319 = .ok (.iadd, 1) := by decide +kernel
theorem d_294_1320 : decode (am_b 294) 1320 = .ok (.iaload, 1) := by decide +kernel
theorem d_294_1321 : decode (am_b 294) 1321 = .ok (.invokevirtual 142, 3) := by decide +kernel
theorem d_294_1324 : decode (am_b 294) 1324 = .ok (.if_icmp .eq 483, 3) := by decide +kernel
theorem d_294_1327 : decode (am_b 294) 1327 = .ok (.iconst 0, 1) := by decide +kernel
theorem d_294_1328 : decode (am_b 294) 1328 = .ok (.ireturn, 1) := by decide +kernel
theorem d_294_1329 : decode (am_b 294) 1329 = .ok (.aload_n 1, 1) := by decide +kernel
theorem d_294_1330 : decode (am_b 294) 1330 = .ok (.aload_n 0, 1) := by decide +kernel
theorem d_294_1331 : decode (am_b 294) 1331 = .ok (.iload_n 3, 1) := by decide +kernel
theorem d_294_1332 : decode (am_b 294) 1332 = .ok (.iconst 1, 1) := by decide +kernel
theorem d_294_1333 : decode (am_b 294) 1333 = .ok (.iadd, 1) := by decide +kernel
theorem d_294_1334 : decode (am_b 294) 1334 = .ok (.iaload, 1) := by decide +kernel
theorem d_294_1335 : decode (am_b 294) 1335 = .ok (.aload_n 0, 1) := by decide +kernel
theorem d_294_1336 : decode (am_b 294) 1336 = .ok (.iload_n 3, 1) := by decide +kernel
theorem d_294_1337 : decode (am_b 294) 1337 = .ok (.iconst 2, 1) := by decide +kernel
theorem d_294_1338 : decode (am_b 294) 1338 = .ok (.iadd, 1) := by decide +kernel
theorem d_294_1339 : decode (am_b 294) 1339 = .ok (.iaload, 1) := by decide +kernel
theorem d_294_1340 : decode (am_b 294) 1340 = .ok (.invokevirtual 143, 3) := by decide +kernel
theorem d_294_1343 : decode (am_b 294) 1343 = .ok (.aload_n 2, 1) := by decide +kernel
theorem d_294_1344 : decode (am_b 294) 1344 = .ok (.aload_n 0, 1) := by decide +kernel
theorem d_294_1345 : decode (am_b 294) 1345 = .ok (.iload_n 3, 1) := by decide +kernel
theorem d_294_1346 : decode (am_b 294) 1346 = .ok (.iconst 1, 1) := by decide +kernel
theorem d_294_1347 : decode (am_b 294) 1347 = .ok (.iadd, 1) := by decide +kernel
theorem d_294_1348 : decode (am_b 294) 1348 = .ok (.iaload, 1) := by decide +kernel
theorem d_294_1349 : decode (am_b 294) 1349 = .ok (.aload_n 0, 1) := by decide +kernel
theorem d_294_1350 : decode (am_b 294) 1350 = .ok (.iload_n 3, 1) := by decide +kernel
theorem d_294_1351 : decode (am_b 294) 1351 = .ok (.iconst 2, 1) := by decide +kernel
theorem d_294_1352 : decode (am_b 294) 1352 = .ok (.iadd, 1) := by decide +kernel
theorem d_294_1353 : decode (am_b 294) 1353 = .ok (.iaload, 1) := by decide +kernel
theorem d_294_1354 : decode (am_b 294) 1354 = .ok (.invokevirtual 146, 3) := by decide +kernel
theorem d_294_1357 : decode (am_b 294) 1357 = .ok (.if_icmp .eq 450, 3) := by decide +kernel
theorem d_294_1360 : decode (am_b 294) 1360 = .ok (.iconst 0, 1) := by decide +kernel
theorem d_294_1361 : decode (am_b 294) 1361 = .ok (.ireturn, 1) := by decide +kernel
theorem d_294_1362 : decode (am_b 294) 1362 = .ok (.aload_n 1, 1) := by decide +kernel
theorem d_294_1363 : decode (am_b 294) 1363 = .ok (.aload_n 0, 1) := by decide +kernel
theorem d_294_1364 : decode (am_b 294) 1364 = .ok (.iload_n 3, 1) := by decide +kernel
theorem d_294_1365 : decode (am_b 294) 1365 = .ok (.iconst 1, 1) := by decide +kernel
theorem d_294_1366 : decode (am_b 294) 1366 = .ok (.iadd, 1) := by decide +kernel
theorem d_294_1367 : decode (am_b 294) 1367 = .ok (.iaload, 1) := by decide +kernel
theorem d_294_1368 : decode (am_b 294) 1368 = .ok (.aload_n 0, 1) := by decide +kernel
theorem d_294_1369 : decode (am_b 294) 1369 = .ok (.iload_n 3, 1) := by decide +kernel
theorem d_294_1370 : decode (am_b 294) 1370 = .ok (.iconst 2, 1) := by decide +kernel
theorem d_294_1371 : decode (am_b 294) 1371 = .ok (.iadd, 1) := by decide +kernel
theorem d_294_1372 : decode (am_b 294) 1372 = .ok (.iaload, 1) := by decide +kernel
theorem d_294_1373 : decode (am_b 294) 1373 = .ok (.invokevirtual 147, 3) := by decide +kernel
theorem d_294_1376 : decode (am_b 294) 1376 = .ok (.aload_n 2, 1) := by decide +kernel
theorem d_294_1377 : decode (am_b 294) 1377 = .ok (.aload_n 0, 1) := by decide +kernel
theorem d_294_1378 : decode (am_b 294) 1378 = .ok (.iload_n 3, 1) := by decide +kernel
theorem d_294_1379 : decode (am_b 294) 1379 = .ok (.iconst 1, 1) := by decide +kernel
theorem d_294_1380 : decode (am_b 294) 1380 = .ok (.iadd, 1) := by decide +kernel
theorem d_294_1381 : decode (am_b 294) 1381 = .ok (.iaload, 1) := by decide +kernel
theorem d_294_1382 : decode (am_b 294) 1382 = .ok (.aload_n 0, 1) := by decide +kernel
theorem d_294_1383 : decode (am_b 294) 1383 = .ok (.iload_n 3, 1) := by decide +kernel
theorem d_294_1384 : decode (am_b 294) 1384 = .ok (.iconst 2, 1) := by decide +kernel
theorem d_294_1385 : decode (am_b 294) 1385 = .ok (.iadd, 1) := by decide +kernel
theorem d_294_1386 : decode (am_b 294) 1386 = .ok (.iaload, 1) := by decide +kernel
theorem d_294_1387 : decode (am_b 294) 1387 = .ok (.invokevirtual 150, 3) := by decide +kernel
theorem d_294_1390 : decode (am_b 294) 1390 = .ok (.if_icmp .eq 417, 3) := by decide +kernel
theorem d_294_1393 : decode (am_b 294) 1393 = .ok (.iconst 0, 1) := by decide +kernel
theorem d_294_1394 : decode (am_b 294) 1394 = .ok (.ireturn, 1) := by decide +kernel
theorem d_294_1395 : decode (am_b 294) 1395 = .ok (.aload_n 1, 1) := by decide +kernel
theorem d_294_1396 : decode (am_b 294) 1396 = .ok (.aload_n 0, 1) := by decide +kernel
theorem d_294_1397 : decode (am_b 294) 1397 = .ok (.iload_n 3, 1) := by decide +kernel
theorem d_294_1398 : decode (am_b 294) 1398 = .ok (.iconst 1, 1) := by decide +kernel
theorem d_294_1399 : decode (am_b 294) 1399 = .ok (.iadd, 1) := by decide +kernel
theorem d_294_1400 : decode (am_b 294) 1400 = .ok (.iaload, 1) := by decide +kernel
theorem d_294_1401 : decode (am_b 294) 1401 = .ok (.aload_n 0, 1) := by decide +kernel
theorem d_294_1402 : decode (am_b 294) 1402 = .ok (.iload_n 3, 1) := by decide +kernel
theorem d_294_1403 : decode (am_b 294) 1403 = .ok (.iconst 2, 1) := by decide +kernel
theorem d_294_1404 : decode (am_b 294) 1404 = .ok (.iadd, 1) := by decide +kernel
theorem d_294_1405 : decode (am_b 294) 1405 = .ok (.iaload, 1) := by decide +kernel
theorem d_294_1406 : decode (am_b 294) 1406 = .ok (.aload_n 0, 1) := by decide +kernel
theorem d_294_1407 : decode (am_b 294) 1407 = .ok (.iload_n 3, 1) := by decide +kernel
theorem d_294_1408 : decode (am_b 294) 1408 = .ok (.iconst 3, 1) := by decide +kernel
theorem d_294_1409 : decode (am_b 294) 1409 = .ok (.iadd, 1) := by decide +kernel
theorem d_294_1410 : decode (am_b 294) 1410 = .ok (.iaload, 1) := by decide +kernel
theorem d_294_1411 : decode (am_b 294) 1411 = .ok (.aload_n 0, 1) := by decide +kernel
theorem d_294_1412 : decode (am_b 294) 1412 = .ok (.iload_n 3, 1) := by decide +kernel
theorem d_294_1413 : decode (am_b 294) 1413 = .ok (.iconst 4, 1) := by decide +kernel
theorem d_294_1414 : decode (am_b 294) 1414 = .ok (.iadd, 1) := by decide +kernel
theorem d_294_1415 : decode (am_b 294) 1415 = .ok (.iaload, 1) := by decide +kernel
theorem d_294_1416 : decode (am_b 294) 1416 = .ok (.invokevirtual 151, 3) := by decide +kernel
theorem d_294_1419 : decode (am_b 294) 1419 = .ok (.aload_n 2, 1) := by decide +kernel
theorem d_294_1420 : decode (am_b 294) 1420 = .ok (.aload_n 0, 1) := by decide +kernel
theorem d_294_1421 : decode (am_b 294) 1421 = .ok (.iload_n 3, 1) := by decide +kernel
theorem d_294_1422 : decode (am_b 294) 1422 = .ok (.iconst 1, 1) := by decide +kernel
theorem d_294_1423 : decode (am_b 294) 1423 = .ok (.iadd, 1) := by decide +kernel
theorem d_294_1424 : decode (am_b 294) 1424 = .ok (.iaload, 1) := by decide +kernel
theorem d_294_1425 : decode (am_b 294) 1425 = .ok (.aload_n 0, 1) := by decide +kernel
theorem d_294_1426 : decode (am_b 294) 1426 = .ok (.iload_n 3, 1) := by decide +kernel
theorem d_294_1427 : decode (am_b 294) 1427 = .ok (.iconst 2, 1) := by decide +kernel
theorem d_294_1428 : decode (am_b 294) 1428 = .ok (.iadd, 1) := by decide +kernel
theorem d_294_1429 : decode (am_b 294) 1429 = .ok (.iaload, 1) := by decide +kernel
theorem d_294_1430 : decode (am_b 294) 1430 = .ok (.aload_n 0, 1) := by decide +kernel
theorem d_294_1431 : decode (am_b 294) 1431 = .ok (.iload_n 3, 1) := by decide +kernel
theorem d_294_1432 : decode (am_b 294) 1432 = .ok (.iconst 3, 1) := by decide +kernel
theorem d_294_1433 : decode (am_b 294) 1433 = .ok (.iadd, 1) := by decide +kernel
theorem d_294_1434 : decode (am_b 294) 1434 = .ok (.iaload, 1) := by decide +kernel
theorem d_294_1435 : decode (am_b 294) 1435 = .ok (.aload_n 0, 1) := by decide +kernel
theorem d_294_1436 : decode (am_b 294) 1436 = .ok (.iload_n 3, 1) := by decide +kernel
theorem d_294_1437 : decode (am_b 294) 1437 = .ok (.iconst 4, 1) := by decide +kernel
theorem d_294_1438 : decode (am_b 294) 1438 = .ok (.iadd, 1) := by decide +kernel
theorem d_294_1439 : decode (am_b 294) 1439 = .ok (.iaload, 1) := by decide +kernel
theorem d_294_1440 : decode (am_b 294) 1440 = .ok (.invokevirtual 154, 3) := by decide +kernel
theorem d_294_1443 : decode (am_b 294) 1443 = .ok (.if_icmp .eq 364, 3) := by decide +kernel
theorem d_294_1446 : decode (am_b 294) 1446 = .ok (.iconst 0, 1) := by decide +kernel
theorem d_294_1447 : decode (am_b 294) 1447 = .ok (.ireturn, 1) := by decide +kernel
theorem d_294_1448 : decode (am_b 294) 1448 = .ok (.aload_n 1, 1) := by decide +kernel
theorem d_294_1449 : decode (am_b 294) 1449 = .ok (.aload_n 0, 1) := by decide +kernel
theorem d_294_1450 : decode (am_b 294) 1450 = .ok (.iload_n 3, 1) := by decide +kernel
theorem d_294_1451 : decode (am_b 294) 1451 = .ok (.iconst 1, 1) := by decide +kernel
theorem d_294_1452 : decode (am_b 294) 1452 = .ok (.iadd, 1) := by decide +kernel
theorem d_294_1453 : decode (am_b 294) 1453 = .ok (.iaload, 1) := by decide +kernel
theorem d_294_1454 : decode (am_b 294) 1454 = .ok (.aload_n 0, 1) := by decide +kernel
theorem d_294_1455 : decode (am_b 294) 1455 = .ok (.iload_n 3, 1) := by decide +kernel
theorem d_294_1456 : decode (am_b 294) 1456 = .ok (.iconst 2, 1) := by decide +kernel
theorem d_294_1457 : decode (am_b 294) 1457 = .ok (.iadd, 1) := by decide +kernel
theorem d_294_1458 : decode (am_b 294) 1458 = .ok (.iaload, 1) := by decide +kernel
theorem d_294_1459 : decode (am_b 294) 1459 = .ok (.invokevirtual 155, 3) := by decide +kernel
theorem d_294_1462 : decode (am_b 294) 1462 = .ok (.aload_n 2, 1) := by decide +kernel
theorem d_294_1463 : decode (am_b 294) 1463 = .ok (.aload_n 0, 1) := by decide +kernel
theorem d_294_1464 : decode (am_b 294) 1464 = .ok (.iload_n 3, 1) := by decide +kernel
theorem d_294_1465 : decode (am_b 294) 1465 = .ok (.iconst 1, 1) := by decide +kernel
theorem d_294_1466 : decode (am_b 294) 1466 = .ok (.iadd, 1) := by decide +kernel
theorem d_294_1467 : decode (am_b 294) 1467 = .ok (.iaload, 1) := by decide +kernel
theorem d_294_1468 : decode (am_b 294) 1468 = .ok (.aload_n 0, 1) := by decide +kernel
theorem d_294_1469 : decode (am_b 294) 1469 = .ok (.iload_n 3, 1) := by decide +kernel
theorem d_294_1470 : decode (am_b 294) 1470 = .ok (.iconst 2, 1) := by decide +kernel
theorem d_294_1471 : decode (am_b 294) 1471 = .ok (.iadd, 1) := by decide +kernel
theorem d_294_1472 : decode (am_b 294) 1472 = .ok (.iaload, 1) := by decide +kernel
theorem d_294_1473 : decode (am_b 294) 1473 = .ok (.invokevirtual 158, 3) := by decide +kernel
theorem d_294_1476 : decode (am_b 294) 1476 = .ok (.if_icmp .eq 331, 3) := by decide +kernel
theorem d_294_1479 : decode (am_b 294) 1479 = .ok (.iconst 0, 1) := by decide +kernel
theorem d_294_1480 : decode (am_b 294) 1480 = .ok (.ireturn, 1) := by decide +kernel
theorem d_294_1481 : decode (am_b 294) 1481 = .ok (.aload_n 1, 1) := by decide +kernel
theorem d_294_1482 : decode (am_b 294) 1482 = .ok (.aload_n 0, 1) := by decide +kernel
theorem d_294_1483 : decode (am_b 294) 1483 = .ok (.iload_n 3, 1) := by decide +kernel
theorem d_294_1484 : decode (am_b 294) 1484 = .ok (.iconst 1, 1) := by decide +kernel
theorem d_294_1485 : decode (am_b 294) 1485 = .ok (.iadd, 1) := by decide +kernel
theorem d_294_1486 : decode (am_b 294) 1486 = .ok (.iaload, 1) := by decide +kernel
theorem d_294_1487 : decode (am_b 294) 1487 = .ok (.aload_n 0, 1) := by decide +kernel
theorem d_294_1488 : decode (am_b 294) 1488 = .ok (.iload_n 3, 1) := by decide +kernel
theorem d_294_1489 : decode (am_b 294) 1489 = .ok (.iconst 2, 1) := by decide +kernel
theorem d_294_1490 : decode (am_b 294) 1490 = .ok (.iadd, 1) := by decide +kernel
theorem d_294_1491 : decode (am_b 294) 1491 = .ok (.iaload, 1) := by decide +kernel
theorem d_294_1492 : decode (am_b 294) 1492 = .ok (.invokevirtual 159, 3) := by decide +kernel
theorem d_294_1495 : decode (am_b 294) 1495 = .ok (.aload_n 2, 1) := by decide +kernel
theorem d_294_1496 : decode (am_b 294) 1496 = .ok (.aload_n 0, 1) := by decide +kernel
theorem d_294_1497 : decode (am_b 294) 1497 = .ok (.iload_n 3, 1) := by decide +kernel
theorem d_294_1498 : decode (am_b 294) 1498 = .ok (.iconst 1, 1) := by decide +kernel
theorem d_294_1499 : decode (am_b 294) 1499 = .ok (.iadd, 1) := by decide +kernel
theorem d_294_1500 : decode (am_b 294) 1500 = .ok (.iaload, 1) := by decide +kernel
theorem d_294_1501 : decode (am_b 294) 1501 = .ok (.aload_n 0, 1) := by decide +kernel
theorem d_294_1502 : decode (am_b 294) 1502 = .ok (.iload_n 3, 1) := by decide +kernel
theorem d_294_1503 : decode (am_b 294) 1503 = .ok (.iconst 2, 1) := by decide +kernel
theorem d_294_1504 : decode (am_b 294) 1504 = .ok (.iadd, 1) := by decide +kernel
theorem d_294_1505 : decode (am_b 294) 1505 = .ok (.iaload, 1) := by decide +kernel
theorem d_294_1506 : decode (am_b 294) 1506 = .ok (.invokevirtual 162, 3) := by decide +kernel
theorem d_294_1509 : decode (am_b 294) 1509 = .ok (.if_icmp .eq 298, 3) := by decide +kernel
theorem d_294_1512 : decode (am_b 294) 1512 = .ok (.iconst 0, 1) := by decide +kernel
theorem d_294_1513 : decode (am_b 294) 1513 = .ok (.ireturn, 1) := by decide +kernel
theorem d_294_1514 : decode (am_b 294) 1514 = .ok (.aload_n 1, 1) := by decide +kernel
theorem d_294_1515 : decode (am_b 294) 1515 = .ok (.aload_n 0, 1) := by decide +kernel
theorem d_294_1516 : decode (am_b 294) 1516 = .ok (.iload_n 3, 1) := by decide +kernel
theorem d_294_1517 : decode (am_b 294) 1517 = .ok (.iconst 1, 1) := by decide +kernel
theorem d_294_1518 : decode (am_b 294) 1518 = .ok (.iadd, 1) := by decide +kernel
theorem d_294_1519 : decode (am_b 294) 1519 = .ok (.iaload, 1) := by decide +kernel
theorem d_294_1520 : decode (am_b 294) 1520 = .ok (.invokevirtual 163, 3) := by decide +kernel
theorem d_294_1523 : decode (am_b 294) 1523 = .ok (.aload_n 2, 1) := by decide +kernel
theorem d_294_1524 : decode (am_b 294) 1524 = .ok (.aload_n 0, 1) := by decide +kernel
theorem d_294_1525 : decode (am_b 294) 1525 = .ok (.iload_n 3, 1) := by decide +kernel
theorem d_294_1526 : decode (am_b 294) 1526 = .ok (.iconst 1, 1) := by decide +kernel
theorem d_294_1527 : decode (am_b 294) 1527 = .ok (.iadd, 1) := by decide +kernel
theorem d_294_1528 : decode (am_b 294) 1528 = .ok (.iaload, 1) := by decide +kernel
theorem d_294_1529 : decode (am_b 294) 1529 = .ok (.invokevirtual 166, 3) := by decide +kernel
theorem d_294_1532 : decode (am_b 294) 1532 = .ok (.if_icmp .eq 275, 3) := by decide +kernel
theorem d_294_1535 : decode (am_b 294) 1535 = .ok (.iconst 0, 1) := by decide +kernel
theorem d_294_1536 : decode (am_b 294) 1536 = .ok (.ireturn, 1) := by decide +kernel
theorem d_294_1537 : decode (am_b 294) 1537 = .ok (.aload_n 1, 1) := by decide +kernel
theorem d_294_1538 : decode (am_b 294) 1538 = .ok (.aload_n 0, 1) := by decide +kernel
theorem d_294_1539 : decode (am_b 294) 1539 = .ok (.iload_n 3, 1) := by decide +kernel
theorem d_294_1540 : decode (am_b 294) 1540 = .ok (.iconst 1, 1) := by decide +kernel
theorem d_294_1541 : decode (am_b 294) 1541 = .ok (.iadd, 1) := by decide +kernel
theorem d_294_1542 : decode (am_b 294) 1542 = .ok (.iaload, 1) := by decide +kernel
theorem d_294_1543 : decode (am_b 294) 1543 = .ok (.aload_n 0, 1) := by decide +kernel
theorem d_294_1544 : decode (am_b 294) 1544 = .ok (.iload_n 3, 1) := by decide +kernel
theorem d_294_1545 : decode (am_b 294) 1545 = .ok (.iconst 2, 1) := by decide +kernel
theorem d_294_1546 : decode (am_b 294) 1546 = .ok (.iadd, 1) := by decide +kernel
theorem d_294_1547 : decode (am_b 294) 1547 = .ok (.iaload, 1) := by decide +kernel
theorem d_294_1548 : decode (am_b 294) 1548 = .ok (.aload_n 0, 1) := by decide +kernel
theorem d_294_1549 : decode (am_b 294) 1549 = .ok (.iload_n 3, 1) := by decide +kernel
theorem d_294_1550 : decode (am_b 294) 1550 = .ok (.iconst 3, 1) := by decide +kernel
theorem d_294_1551 : decode (am_b 294) 1551 = .ok (.iadd, 1) := by decide +kernel
theorem d_294_1552 : decode (am_b 294) 1552 = .ok (.iaload, 1) := by decide +kernel
theorem d_294_1553 : decode (am_b 294) 1553 = .ok (.invokevirtual 167, 3) := by decide +kernel
theorem d_294_1556 : decode (am_b 294) 1556 = .ok (.aload_n 2, 1) := by decide +kernel
theorem d_294_1557 : decode (am_b 294) 1557 = .ok (.aload_n 0, 1) := by decide +kernel
theorem d_294_1558 : decode (am_b 294) 1558 = .ok (.iload_n 3, 1) := by decide +kernel
theorem d_294_1559 : decode (am_b 294) 1559 = .ok (.iconst 1, 1) := by decide +kernel
theorem d_294_1560 : decode (am_b 294) 1560 = .ok (.iadd, 1) := by decide +kernel
theorem d_294_1561 : decode (am_b 294) 1561 = .ok (.iaload, 1) := by decide +kernel
theorem d_294_1562 : decode (am_b 294) 1562 = .ok (.aload_n 0, 1) := by decide +kernel
theorem d_294_1563 : decode (am_b 294) 1563 = .ok (.iload_n 3, 1) := by decide +kernel
theorem d_294_1564 : decode (am_b 294) 1564 = .ok (.iconst 2, 1) := by decide +kernel
theorem d_294_1565 : decode (am_b 294) 1565 = .ok (.iadd, 1) := by decide +kernel
theorem d_294_1566 : decode (am_b 294) 1566 = .ok (.iaload, 1) := by decide +kernel
theorem d_294_1567 : decode (am_b 294) 1567 = .ok (.aload_n 0, 1) := by decide +kernel
theorem d_294_1568 : decode (am_b 294) 1568 = .ok (.iload_n 3, 1) := by decide +kernel
theorem d_294_1569 : decode (am_b 294) 1569 = .ok (.iconst 3, 1) := by decide +kernel
theorem d_294_1570 : decode (am_b 294) 1570 = .ok (.iadd, 1) := by decide +kernel
theorem d_294_1571 : decode (am_b 294) 1571 = .ok (.iaload, 1) := by decide +kernel
theorem d_294_1572 : decode (am_b 294) 1572 = .ok (.invokevirtual 170, 3) := by decide +kernel
theorem d_294_1575 : decode (am_b 294) 1575 = .ok (.if_icmp .eq 232, 3) := by decide +kernel
theorem d_294_1578 : decode (am_b 294) 1578 = .ok (.iconst 0, 1) := by decide +kernel
theorem d_294_1579 : decode (am_b 294) 1579 = .ok (.ireturn, 1) := by decide +kernel
theorem d_294_1580 : decode (am_b 294) 1580 = .ok (.aload_n 1, 1) := by decide +kernel
theorem d_294_1581 : decode (am_b 294) 1581 = .ok (.invokevirtual 171, 3) := by decide +kernel
theorem d_294_1584 : decode (am_b 294) 1584 = .ok (.aload_n 2, 1) := by decide +kernel
theorem d_294_1585 : decode (am_b 294) 1585 = .ok (.invokevirtual 174, 3) := by decide +kernel
theorem d_294_1588 : decode (am_b 294) 1588 = .ok (.if_icmp .eq 219, 3) := by decide +kernel
theorem d_294_1591 : decode (am_b 294) 1591 = .ok (.iconst 0, 1) := by decide +kernel
theorem d_294_1592 : decode (am_b 294) 1592 = .ok (.ireturn, 1) := by decide +kernel
theorem d_294_1593 : decode (am_b 294) 1593 = .ok (.aload_n 1, 1) := by decide +kernel
theorem d_294_1594 : decode (am_b 294) 1594 = .ok (.aload_n 0, 1) := by decide +kernel
theorem d_294_1595 : decode (am_b 294) 1595 = .ok (.iload_n 3, 1) := by decide +kernel
theorem d_294_1596 : decode (am_b 294) 1596 = .ok (.iconst 1, 1) := by decide +kernel
theorem d_294_1597 : decode (am_b 294) 1597 = .ok (.iadd, 1) := by decide +kernel
theorem d_294_1598 : decode (am_b 294) 1598 = .ok (.iaload, 1) := by decide +kernel
theorem d_294_1599 : decode (am_b 294) 1599 = .ok (.invokevirtual 175, 3) := by decide +kernel
theorem d_294_1602 : decode (am_b 294) 1602 = .ok (.aload_n 2, 1) := by decide +kernel
theorem d_294_1603 : decode (am_b 294) 1603 = .ok (.aload_n 0, 1) := by decide +kernel
theorem d_294_1604 : decode (am_b 294) 1604 = .ok (.iload_n 3, 1) := by decide +kernel
theorem d_294_1605 : decode (am_b 294) 1605 = .ok (.iconst 1, 1) := by decide +kernel
theorem d_294_1606 : decode (am_b 294) 1606 = .ok (.iadd, 1) := by decide +kernel
theorem d_294_1607 : decode (am_b 294) 1607 = .ok (.iaload, 1) := by decide +kernel
theorem d_294_1608 : decode (am_b 294) 1608 = .ok (.invokevirtual 178, 3) := by decide +kernel
theorem d_294_1611 : decode (am_b 294) 1611 = .ok (.if_icmp .eq 196, 3) := by decide +kernel
theorem d_294_1614 : decode (am_b 294) 1614 = .ok (.iconst 0, 1) := by decide +kernel
theorem d_294_1615 : decode (am_b 294) 1615 = .ok (.ireturn, 1) := by decide +kernel
theorem d_294_1616 : decode (am_b 294) 1616 = .ok (.aload_n 1, 1) := by decide +kernel
theorem d_294_1617 : decode (am_b 294) 1617 = .ok (.aload_n 0, 1) := by decide +kernel
theorem d_294_1618 : decode (am_b 294) 1618 = .ok (.iload_n 3, 1) := by decide +kernel
theorem d_294_1619 : decode (am_b 294) 1619 = .ok (.iconst 1, 1) := by decide +kernel
theorem d_294_1620 : decode (am_b 294) 1620 = .ok (.iadd, 1) := by decide +kernel
theorem d_294_1621 : decode (am_b 294) 1621 = .ok (.iaload, 1) := by decide +kernel
theorem d_294_1622 : decode (am_b 294) 1622 = .ok (.aload_n 0, 1) := by decide +kernel
theorem d_294_1623 : decode (am_b 294) 1623 = .ok (.iload_n 3, 1) := by decide +kernel
theorem d_294_1624 : decode (am_b 294) 1624 = .ok (.iconst 2, 1) := by decide +kernel
theorem d_294_1625 : decode (am_b 294) 1625 = .ok (.iadd, 1) := by decide +kernel
theorem d_294_1626 : decode (am_b 294) 1626 = .ok (.iaload, 1) := by decide +kernel
theorem d_294_1627 : decode (am_b 294) 1627 = .ok (.invokevirtual 179, 3) := by decide +kernel
theorem d_294_1630 : decode (am_b 294) 1630 = .ok (.aload_n 2, 1) := by decide +kernel
theorem d_294_1631 : decode (am_b 294) 1631 = .ok (.aload_n 0, 1) := by decide +kernel
theorem d_294_1632 : decode (am_b 294) 1632 = .ok (.iload_n 3, 1) := by decide +kernel
theorem d_294_1633 : decode (am_b 294) 1633 = .ok (.iconst 1, 1) := by decide +kernel
theorem d_294_1634 : decode (am_b 294) 1634 = .ok (.iadd, 1) := by decide +kernel
theorem d_294_1635 : decode (am_b 294) 1635 = .ok (.iaload, 1) := by decide +kernel
theorem d_294_1636 : decode (am_b 294) 1636 = .ok (.aload_n 0, 1) := by decide +kernel
theorem d_294_1637 : decode (am_b 294) 1637 = .ok (.iload_n 3, 1) := by decide +kernel
theorem d_294_1638 : decode (am_b 294) 1638 = .ok (.iconst 2, 1) := by decide +kernel
theorem d_294_1639 : decode (am_b 294) 1639 = .ok (.iadd, 1) := by decide +kernel
theorem d_294_1640 : decode (am_b 294) 1640 = .ok (.iaload, 1) := by decide +kernel
theorem d_294_1641 : decode (am_b 294) 1641 = .ok (.invokevirtual 182, 3) := by decide +kernel
theorem d_294_1644 : decode (am_b 294) 1644 = .ok (.if_icmp .eq 163, 3) := by decide +kernel
theorem d_294_1647 : decode (am_b 294) 1647 = .ok (.iconst 0, 1) := by decide +kernel
theorem d_294_1648 : decode (am_b 294) 1648 = .ok (.ireturn, 1) := by decide +kernel
theorem d_294_1649 : decode (am_b 294) 1649 = .ok (.aload_n 1, 1) := by decide +kernel
theorem d_294_1650 : decode (am_b 294) 1650 = .ok (.aload_n 0, 1) := by decide +kernel
theorem d_294_1651 : decode (am_b 294) 1651 = .ok (.iload_n 3, 1) := by decide +kernel
theorem d_294_1652 : decode (am_b 294) 1652 = .ok (.iconst 1, 1) := by decide +kernel
theorem d_294_1653 : decode (am_b 294) 1653 = .ok (.iadd, 1) := by decide +kernel
theorem d_294_1654 : decode (am_b 294) 1654 = .ok (.iaload, 1) := by decide +kernel
theorem d_294_1655 : decode (am_b 294) 1655 = .ok (.aload_n 0, 1) := by decide +kernel
theorem d_294_1656 : decode (am_b 294) 1656 = .ok (.iload_n 3, 1) := by decide +kernel
theorem d_294_1657 : decode (am_b 294) 1657 = .ok (.iconst 2, 1) := by decide +kernel
theorem d_294_1658 : decode (am_b 294) 1658 = .ok (.iadd, 1) := by decide +kernel
theorem d_294_1659 : decode (am_b 294) 1659 = .ok (.iaload, 1) := by decide +kernel
theorem d_294_1660 : decode (am_b 294) 1660 = .ok (.aload_n 0, 1) := by decide +kernel
theorem d_294_1661 : decode (am_b 294) 1661 = .ok (.iload_n 3, 1) := by decide +kernel
theorem d_294_1662 : decode (am_b 294) 1662 = .ok (.iconst 3, 1) := by decide +kernel
theorem d_294_1663 : decode (am_b 294) 1663 = .ok (.iadd, 1) := by decide +kernel
theorem d_294_1664 : decode (am_b 294) 1664 = .ok (.iaload, 1) := by decide +kernel
theorem d_294_1665 : decode (am_b 294) 1665 = .ok (.invokevirtual 183, 3) := by decide +kernel
theorem d_294_1668 : decode (am_b 294) 1668 = .ok (.aload_n 2, 1) := by decide +kernel
theorem d_294_1669 : decode (am_b 294) 1669 = .ok (.aload_n 0, 1) := by decide +kernel
theorem d_294_1670 : decode (am_b 294) 1670 = .ok (.iload_n 3, 1) := by decide +kernel
theorem d_294_1671 : decode (am_b 294) 1671 = .ok (.iconst 1, 1) := by decide +kernel
theorem d_294_1672 : decode (am_b 294) 1672 = .ok (.iadd, 1) := by decide +kernel
theorem d_294_1673 : decode (am_b 294) 1673 = .ok (.iaload, 1) := by decide +kernel
theorem d_294_1674 : decode (am_b 294) 1674 = .ok (.aload_n 0, 1) := by decide +kernel
theorem d_294_1675 : decode (am_b 294) 1675 = .ok (.iload_n 3, 1) := by decide +kernel
theorem d_294_1676 : decode (am_b 294) 1676 = .ok (.iconst 2, 1) := by decide +kernel
theorem d_294_1677 : decode (am_b 294) 1677 = .ok (.iadd, 1) := by decide +kernel
theorem d_294_1678 : decode (am_b 294) 1678 = .ok (.iaload, 1) := by decide +kernel
theorem d_294_1679 : decode (am_b 294) 1679 = .ok (.aload_n 0, 1) := by decide +kernel
theorem d_294_1680 : decode (am_b 294) 1680 = .ok (.iload_n 3, 1) := by decide +kernel
theorem d_294_1681 : decode (am_b 294) 1681 = .ok (.iconst 3, 1) := by decide +kernel
theorem d_294_1682 : decode (am_b 294) 1682 = .ok (.iadd, 1) := by decide +kernel
theorem d_294_1683 : decode (am_b 294) 1683 = .ok (.iaload, 1) := by decide +kernel
theorem d_294_1684 : decode (am_b 294) 1684 = .ok (.invokevirtual 186, 3) := by decide +kernel
theorem d_294_1687 : decode (am_b 294) 1687 = .ok (.if_icmp .eq 120, 3) := by decide +kernel
theorem d_294_1690 : decode (am_b 294) 1690 = .ok (.iconst 0, 1) := by decide +kernel
theorem d_294_1691 : decode (am_b 294) 1691 = .ok (.ireturn, 1) := by decide +kernel
theorem d_294_1692 : decode (am_b 294) 1692 = .ok (.aload_n 1, 1) := by decide +kernel
theorem d_294_1693 : decode (am_b 294) 1693 = .ok (.aload_n 0, 1) := by decide +kernel
theorem d_294_1694 : decode (am_b 294) 1694 = .ok (.iload_n 3, 1) := by decide +kernel
theorem d_294_1695 : decode (am_b 294) 1695 = .ok (.iconst 1, 1) := by decide +kernel
theorem d_294_1696 : decode (am_b 294) 1696 = .ok (.iadd, 1) := by decide +kernel
theorem d_294_1697 : decode (am_b 294) 1697 = .ok (.iaload, 1) := by decide +kernel
theorem d_294_1698 : decode (am_b 294) 1698 = .ok (.aload_n 0, 1) := by decide +kernel
theorem d_294_1699 : decode (am_b 294) 1699 = .ok (.iload_n 3, 1) := by decide +kernel
theorem d_294_1700 : decode (am_b 294) 1700 = .ok (.iconst 2, 1) := by decide +kernel
theorem d_294_1701 : decode (am_b 294) 1701 = .ok (.iadd, 1) := by decide +kernel
theorem d_294_1702 : decode (am_b 294) 1702 = .ok (.iaload, 1) := by decide +kernel
theorem d_294_1703 : decode (am_b 294) 1703 = .ok (.invokevirtual 187, 3) := by decide +kernel
theorem d_294_1706 : decode (am_b 294) 1706 = .ok (.aload_n 2, 1) := by decide +kernel
theorem d_294_1707 : decode (am_b 294) 1707 = .ok (.aload_n 0, 1) := by decide +kernel
theorem d_294_1708 : decode (am_b 294) 1708 = .ok (.iload_n 3, 1) := by decide +kernel
theorem d_294_1709 : decode (am_b 294) 1709 = .ok (.iconst 1, 1) := by decide +kernel
theorem d_294_1710 : decode (am_b 294) 1710 = .ok (.iadd, 1) := by decide +kernel
theorem d_294_1711 : decode (am_b 294) 1711 = .ok (.iaload, 1) := by decide +kernel
theorem d_294_1712 : decode (am_b 294) 1712 = .ok (.aload_n 0, 1) := by decide +kernel
theorem d_294_1713 : decode (am_b 294) 1713 = .ok (.iload_n 3, 1) := by decide +kernel
theorem d_294_1714 : decode (am_b 294) 1714 = .ok (.iconst 2, 1) := by decide +kernel
theorem d_294_1715 : decode (am_b 294) 1715 = .ok (.iadd, 1) := by decide +kernel
theorem d_294_1716 : decode (am_b 294) 1716 = .ok (.iaload, 1) := by decide +kernel
theorem d_294_1717 : decode (am_b 294) 1717 = .ok (.invokevirtual 190, 3) := by decide +kernel
theorem d_294_1720 : decode (am_b 294) 1720 = .ok (.if_icmp .eq 87, 3) := by decide +kernel
theorem d_294_1723 : decode (am_b 294) 1723 = .ok (.iconst 0, 1) := by decide +kernel
theorem d_294_1724 : decode (am_b 294) 1724 = .ok (.ireturn, 1) := by decide +kernel
theorem d_294_1725 : decode (am_b 294) 1725 = .ok (.aload_n 1, 1) := by decide +kernel
theorem d_294_1726 : decode (am_b 294) 1726 = .ok (.aload_n 0, 1) := by decide +kernel
theorem d_294_1727 : decode (am_b 294) 1727 = .ok (.iload_n 3, 1) := by decide +kernel
theorem d_294_1728 : decode (am_b 294) 1728 = .ok (.iconst 1, 1) := by decide +kernel
theorem d_294_1729 : decode (am_b 294) 1729 = .ok (.iadd, 1) := by decide +kernel
theorem d_294_1730 : decode (am_b 294) 1730 = .ok (.iaload, 1) := by decide +kernel
theorem d_294_1731 : decode (am_b 294) 1731 = .ok (.invokevirtual 191, 3) := by decide +kernel
theorem d_294_1734 : decode (am_b 294) 1734 = .ok (.aload_n 2, 1) := by decide +kernel
theorem d_294_1735 : decode (am_b 294) 1735 = .ok (.aload_n 0, 1) := by decide +kernel
theorem d_294_1736 : decode (am_b 294) 1736 = .ok (.iload_n 3, 1) := by decide +kernel
theorem d_294_1737 : decode (am_b 294) 1737 = .ok (.iconst 1, 1) := by decide +kernel
theorem d_294_1738 : decode (am_b 294) 1738 = .ok (.iadd, 1) := by decide +kernel
theorem d_294_1739 : decode (am_b 294) 1739 = .ok (.iaload, 1) := by decide +kernel
theorem d_294_1740 : decode (am_b 294) 1740 = .ok (.invokevirtual 194, 3) := by decide +kernel
theorem d_294_1743 : decode (am_b 294) 1743 = .ok (.if_icmp .eq 64, 3) := by decide +kernel
theorem d_294_1746 : decode (am_b 294) 1746 = .ok (.iconst 0, 1) := by decide +kernel
theorem d_294_1747 : decode (am_b 294) 1747 = .ok (.ireturn, 1) := by decide +kernel
theorem d_294_1748 : decode (am_b 294) 1748 = .ok (.aload_n 1, 1) := by decide +kernel
theorem d_294_1749 : decode (am_b 294) 1749 = .ok (.aload_n 0, 1) := by decide +kernel
theorem d_294_1750 : decode (am_b 294) 1750 = .ok (.iload_n 3, 1) := by decide +kernel
theorem d_294_1751 : decode (am_b 294) 1751 = .ok (.iconst 1, 1) := by decide +kernel
theorem d_294_1752 : decode (am_b 294) 1752 = .ok (.iadd, 1) := by decide +kernel
theorem d_294_1753 : decode (am_b 294) 1753 = .ok (.iaload, 1) := by decide +kernel
theorem d_294_1754 : decode (am_b 294) 1754 = .ok (.invokevirtual 195, 3) := by decide +kernel
theorem d_294_1757 : decode (am_b 294) 1757 = .ok (.aload_n 2, 1) := by decide +kernel
theorem d_294_1758 : decode (am_b 294) 1758 = .ok (.aload_n 0, 1) := by decide +kernel
theorem d_294_1759 : decode (am_b 294) 1759 = .ok (.iload_n 3, 1) := by decide +kernel
theorem d_294_1760 : decode (am_b 294) 1760 = .ok (.iconst 1, 1) := by decide +kernel
theorem d_294_1761 : decode (am_b 294) 1761 = .ok (.iadd, 1) := by decide +kernel
theorem d_294_1762 : decode (am_b 294) 1762 = .ok (.iaload, 1) := by decide +kernel
theorem d_294_1763 : decode (am_b 294) 1763 = .ok (.invokevirtual 198, 3) := by decide +kernel
theorem d_294_1766 : decode (am_b 294) 1766 = .ok (.if_icmp .eq 41, 3) := by decide +kernel
theorem d_294_1769 : decode (am_b 294) 1769 = .ok (.iconst 0, 1) := by decide +kernel
theorem d_294_1770 : decode (am_b 294) 1770 = .ok (.ireturn, 1) := by decide +kernel
theorem d_294_1771 : decode (am_b 294) 1771 = .ok (.aload_n 1, 1) := by decide +kernel
theorem d_294_1772 : decode (am_b 294) 1772 = .ok (.aload_n 0, 1) := by decide +kernel
theorem d_294_1773 : decode (am_b 294) 1773 = .ok (.iload_n 3, 1) := by decide +kernel
theorem d_294_1774 : decode (am_b 294) 1774 = .ok (.iconst 1, 1) := by decide +kernel
theorem d_294_1775 : decode (am_b 294) 1775 = .ok (.iadd, 1) := by decide +kernel
theorem d_294_1776 : decode (am_b 294) 1776 = .ok (.iaload, 1) := by decide +kernel
theorem d_294_1777 : decode (am_b 294) 1777 = .ok (.invokevirtual 199, 3) := by decide +kernel
theorem d_294_1780 : decode (am_b 294) 1780 = .ok (.aload_n 2, 1) := by decide +kernel
theorem d_294_1781 : decode (am_b 294) 1781 = .ok (.aload_n 0, 1) := by decide +kernel
theorem d_294_1782 : decode (am_b 294) 1782 = .ok (.iload_n 3, 1) := by decide +kernel
theorem d_294_1783 : decode (am_b 294) 1783 = .ok (.iconst 1, 1) := by decide +kernel
theorem d_294_1784 : decode (am_b 294) 1784 = .ok (.iadd, 1) := by decide +kernel
theorem d_294_1785 : decode (am_b 294) 1785 = .ok (.iaload, 1) := by decide +kernel
theorem d_294_1786 : decode (am_b 294) 1786 = .ok (.invokevirtual 202, 3) := by decide +kernel
theorem d_294_1789 : decode (am_b 294) 1789 = .ok (.if_icmp .eq 18, 3) := by decide +kernel
theorem d_294_1792 : decode (am_b 294) 1792 = .ok (.iconst 0, 1) := by decide +kernel
theorem d_294_1793 : decode (am_b 294) 1793 = .ok (.ireturn, 1) := by decide +kernel
theorem d_294_1794 : decode (am_b 294) 1794 = .ok (.aload_n 1, 1) := by decide +kernel
theorem d_294_1795 : decode (am_b 294) 1795 = .ok (.invokevirtual 203, 3) := by decide +kernel
theorem d_294_1798 : decode (am_b 294) 1798 = .ok (.aload_n 2, 1) := by decide +kernel
theorem d_294_1799 : decode (am_b 294) 1799 = .ok (.invokevirtual 206, 3) := by decide +kernel
theorem d_294_1802 : decode (am_b 294) 1802 = .ok (.if_icmp .eq 5, 3) := by decide +kernel
theorem d_294_1805 : decode (am_b 294) 1805 = .ok (.iconst 0, 1) := by decide +kernel
theorem d_294_1806 : decode (am_b 294) 1806 = .ok (.ireturn, 1) := by decide +kernel
theorem d_294_1807 : decode (am_b 294) 1807 = .ok (.iinc 3 6, 3) := by decide +kernel
theorem d_294_1810 : decode (am_b 294) 1810 = .ok (.goto (-1792), 3) := by decide +kernel
theorem d_294_1813 : decode (am_b 294) 1813 = .ok (.iconst 1, 1) := by decide +kernel
theorem d_294_1814 : decode (am_b 294) 1814 = .ok (.ireturn, 1) := by decide +kernel
