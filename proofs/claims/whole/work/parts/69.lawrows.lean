/-! what stands at each place of the law -/
theorem gL_law_28 : zget (zMt mL_law) 28 = some (.iload 5, 2) := by decide +kernel
theorem gL_law_30 : zget (zMt mL_law) 30 = some (.aload_n 0, 1) := by decide +kernel
theorem gL_law_31 : zget (zMt mL_law) 31 = some (.arraylength, 1) := by decide +kernel
theorem gL_law_32 : zget (zMt mL_law) 32 = some (.iconst 4, 1) := by decide +kernel
theorem gL_law_33 : zget (zMt mL_law) 33 = some (.isub, 1) := by decide +kernel
theorem gL_law_34 : zget (zMt mL_law) 34 = some (.if_icmp .gt 2102, 3) := by decide +kernel
theorem gL_law_37 : zget (zMt mL_law) 37 = some (.aload_n 0, 1) := by decide +kernel
theorem gL_law_38 : zget (zMt mL_law) 38 = some (.iload 5, 2) := by decide +kernel
theorem gL_law_40 : zget (zMt mL_law) 40 = some (.iaload, 1) := by decide +kernel
theorem gL_law_41 : zget (zMt mL_law) 41 = some (.bipush 63, 2) := by decide +kernel
theorem gL_law_43 : zget (zMt mL_law) 43 = some (.iand, 1) := by decide +kernel
theorem gL_law_44 : zget (zMt mL_law) 44 = some (.tableswitch 2086 0 38 #[172, 240, 296, 340, 384, 397, 453, 509, 565, 621, 677, 721, 817, 880, 893, 949, 1005, 1061, 1124, 1137, 1181, 1244, 1300, 1344, 1412, 1480, 1524, 1580, 1636, 1691, 1757, 1813, 1826, 1839, 1852, 1896, 1952, 2008, 2073], 172) := by decide +kernel
theorem gL_law_216 : zget (zMt mL_law) 216 = some (.aload_n 1, 1) := by decide +kernel
theorem gL_law_217 : zget (zMt mL_law) 217 = some (.aload_n 0, 1) := by decide +kernel
theorem gL_law_218 : zget (zMt mL_law) 218 = some (.iload 5, 2) := by decide +kernel
theorem gL_law_220 : zget (zMt mL_law) 220 = some (.iconst 1, 1) := by decide +kernel
theorem gL_law_221 : zget (zMt mL_law) 221 = some (.iadd, 1) := by decide +kernel
theorem gL_law_222 : zget (zMt mL_law) 222 = some (.iaload, 1) := by decide +kernel
theorem gL_law_223 : zget (zMt mL_law) 223 = some (.aload_n 0, 1) := by decide +kernel
theorem gL_law_224 : zget (zMt mL_law) 224 = some (.iload 5, 2) := by decide +kernel
theorem gL_law_226 : zget (zMt mL_law) 226 = some (.iconst 2, 1) := by decide +kernel
theorem gL_law_227 : zget (zMt mL_law) 227 = some (.iadd, 1) := by decide +kernel
theorem gL_law_228 : zget (zMt mL_law) 228 = some (.iaload, 1) := by decide +kernel
theorem gL_law_229 : zget (zMt mL_law) 229 = some (.aload_n 3, 1) := by decide +kernel
theorem gL_law_230 : zget (zMt mL_law) 230 = some (.invokestatic 130, 3) := by decide +kernel
theorem gL_law_233 : zget (zMt mL_law) 233 = some (.istore 6, 2) := by decide +kernel
theorem gL_law_235 : zget (zMt mL_law) 235 = some (.aload_n 2, 1) := by decide +kernel
theorem gL_law_236 : zget (zMt mL_law) 236 = some (.aload_n 0, 1) := by decide +kernel
theorem gL_law_237 : zget (zMt mL_law) 237 = some (.iload 5, 2) := by decide +kernel
theorem gL_law_239 : zget (zMt mL_law) 239 = some (.iconst 1, 1) := by decide +kernel
theorem gL_law_240 : zget (zMt mL_law) 240 = some (.iadd, 1) := by decide +kernel
theorem gL_law_241 : zget (zMt mL_law) 241 = some (.iaload, 1) := by decide +kernel
theorem gL_law_242 : zget (zMt mL_law) 242 = some (.aload_n 0, 1) := by decide +kernel
theorem gL_law_243 : zget (zMt mL_law) 243 = some (.iload 5, 2) := by decide +kernel
theorem gL_law_245 : zget (zMt mL_law) 245 = some (.iconst 2, 1) := by decide +kernel
theorem gL_law_246 : zget (zMt mL_law) 246 = some (.iadd, 1) := by decide +kernel
theorem gL_law_247 : zget (zMt mL_law) 247 = some (.iaload, 1) := by decide +kernel
theorem gL_law_248 : zget (zMt mL_law) 248 = some (.invokevirtual 135, 3) := by decide +kernel
theorem gL_law_251 : zget (zMt mL_law) 251 = some (.istore 7, 2) := by decide +kernel
theorem gL_law_253 : zget (zMt mL_law) 253 = some (.aload_n 2, 1) := by decide +kernel
theorem gL_law_254 : zget (zMt mL_law) 254 = some (.invokevirtual 136, 3) := by decide +kernel
theorem gL_law_257 : zget (zMt mL_law) 257 = some (.iload 6, 2) := by decide +kernel
theorem gL_law_259 : zget (zMt mL_law) 259 = some (.if_icmp .eq 5, 3) := by decide +kernel
theorem gL_law_262 : zget (zMt mL_law) 262 = some (.iconst 0, 1) := by decide +kernel
theorem gL_law_263 : zget (zMt mL_law) 263 = some (.ireturn, 1) := by decide +kernel
theorem gL_law_264 : zget (zMt mL_law) 264 = some (.iload 6, 2) := by decide +kernel
theorem gL_law_266 : zget (zMt mL_law) 266 = some (.ifCond .ne 15, 3) := by decide +kernel
theorem gL_law_269 : zget (zMt mL_law) 269 = some (.aload_n 3, 1) := by decide +kernel
theorem gL_law_270 : zget (zMt mL_law) 270 = some (.iconst 0, 1) := by decide +kernel
theorem gL_law_271 : zget (zMt mL_law) 271 = some (.laload, 1) := by decide +kernel
theorem gL_law_272 : zget (zMt mL_law) 272 = some (.iload 7, 2) := by decide +kernel
theorem gL_law_274 : zget (zMt mL_law) 274 = some (.i2l, 1) := by decide +kernel
theorem gL_law_275 : zget (zMt mL_law) 275 = some (.lcmp, 1) := by decide +kernel
theorem gL_law_276 : zget (zMt mL_law) 276 = some (.ifCond .eq 5, 3) := by decide +kernel
theorem gL_law_279 : zget (zMt mL_law) 279 = some (.iconst 0, 1) := by decide +kernel
theorem gL_law_280 : zget (zMt mL_law) 280 = some (.ireturn, 1) := by decide +kernel
theorem gL_law_281 : zget (zMt mL_law) 281 = some (.goto 1849, 3) := by decide +kernel
theorem gL_law_284 : zget (zMt mL_law) 284 = some (.aload_n 1, 1) := by decide +kernel
theorem gL_law_285 : zget (zMt mL_law) 285 = some (.aload_n 0, 1) := by decide +kernel
theorem gL_law_286 : zget (zMt mL_law) 286 = some (.iload 5, 2) := by decide +kernel
theorem gL_law_288 : zget (zMt mL_law) 288 = some (.iconst 1, 1) := by decide +kernel
theorem gL_law_289 : zget (zMt mL_law) 289 = some (.iadd, 1) := by decide +kernel
theorem gL_law_290 : zget (zMt mL_law) 290 = some (.iaload, 1) := by decide +kernel
theorem gL_law_291 : zget (zMt mL_law) 291 = some (.aload_n 3, 1) := by decide +kernel
theorem gL_law_292 : zget (zMt mL_law) 292 = some (.invokestatic 139, 3) := by decide +kernel
theorem gL_law_295 : zget (zMt mL_law) 295 = some (.istore 6, 2) := by decide +kernel
theorem gL_law_297 : zget (zMt mL_law) 297 = some (.aload_n 2, 1) := by decide +kernel
theorem gL_law_298 : zget (zMt mL_law) 298 = some (.aload_n 0, 1) := by decide +kernel
theorem gL_law_299 : zget (zMt mL_law) 299 = some (.iload 5, 2) := by decide +kernel
theorem gL_law_301 : zget (zMt mL_law) 301 = some (.iconst 1, 1) := by decide +kernel
theorem gL_law_302 : zget (zMt mL_law) 302 = some (.iadd, 1) := by decide +kernel
theorem gL_law_303 : zget (zMt mL_law) 303 = some (.iaload, 1) := by decide +kernel
theorem gL_law_304 : zget (zMt mL_law) 304 = some (.invokevirtual 142, 3) := by decide +kernel
theorem gL_law_307 : zget (zMt mL_law) 307 = some (.istore 7, 2) := by decide +kernel
theorem gL_law_309 : zget (zMt mL_law) 309 = some (.aload_n 2, 1) := by decide +kernel
theorem gL_law_310 : zget (zMt mL_law) 310 = some (.invokevirtual 136, 3) := by decide +kernel
theorem gL_law_313 : zget (zMt mL_law) 313 = some (.iload 6, 2) := by decide +kernel
theorem gL_law_315 : zget (zMt mL_law) 315 = some (.if_icmp .eq 5, 3) := by decide +kernel
theorem gL_law_318 : zget (zMt mL_law) 318 = some (.iconst 0, 1) := by decide +kernel
theorem gL_law_319 : zget (zMt mL_law) 319 = some (.ireturn, 1) := by decide +kernel
theorem gL_law_320 : zget (zMt mL_law) 320 = some (.iload 6, 2) := by decide +kernel
theorem gL_law_322 : zget (zMt mL_law) 322 = some (.ifCond .ne 15, 3) := by decide +kernel
theorem gL_law_325 : zget (zMt mL_law) 325 = some (.aload_n 3, 1) := by decide +kernel
theorem gL_law_326 : zget (zMt mL_law) 326 = some (.iconst 0, 1) := by decide +kernel
theorem gL_law_327 : zget (zMt mL_law) 327 = some (.laload, 1) := by decide +kernel
theorem gL_law_328 : zget (zMt mL_law) 328 = some (.iload 7, 2) := by decide +kernel
theorem gL_law_330 : zget (zMt mL_law) 330 = some (.i2l, 1) := by decide +kernel
theorem gL_law_331 : zget (zMt mL_law) 331 = some (.lcmp, 1) := by decide +kernel
theorem gL_law_332 : zget (zMt mL_law) 332 = some (.ifCond .eq 5, 3) := by decide +kernel
theorem gL_law_335 : zget (zMt mL_law) 335 = some (.iconst 0, 1) := by decide +kernel
theorem gL_law_336 : zget (zMt mL_law) 336 = some (.ireturn, 1) := by decide +kernel
theorem gL_law_337 : zget (zMt mL_law) 337 = some (.goto 1793, 3) := by decide +kernel
theorem gL_law_340 : zget (zMt mL_law) 340 = some (.aload_n 1, 1) := by decide +kernel
theorem gL_law_341 : zget (zMt mL_law) 341 = some (.aload_n 3, 1) := by decide +kernel
theorem gL_law_342 : zget (zMt mL_law) 342 = some (.invokestatic 143, 3) := by decide +kernel
theorem gL_law_345 : zget (zMt mL_law) 345 = some (.istore 6, 2) := by decide +kernel
theorem gL_law_347 : zget (zMt mL_law) 347 = some (.aload_n 2, 1) := by decide +kernel
theorem gL_law_348 : zget (zMt mL_law) 348 = some (.invokevirtual 146, 3) := by decide +kernel
theorem gL_law_351 : zget (zMt mL_law) 351 = some (.istore 7, 2) := by decide +kernel
theorem gL_law_353 : zget (zMt mL_law) 353 = some (.aload_n 2, 1) := by decide +kernel
theorem gL_law_354 : zget (zMt mL_law) 354 = some (.invokevirtual 136, 3) := by decide +kernel
theorem gL_law_357 : zget (zMt mL_law) 357 = some (.iload 6, 2) := by decide +kernel
theorem gL_law_359 : zget (zMt mL_law) 359 = some (.if_icmp .eq 5, 3) := by decide +kernel
theorem gL_law_362 : zget (zMt mL_law) 362 = some (.iconst 0, 1) := by decide +kernel
theorem gL_law_363 : zget (zMt mL_law) 363 = some (.ireturn, 1) := by decide +kernel
theorem gL_law_364 : zget (zMt mL_law) 364 = some (.iload 6, 2) := by decide +kernel
theorem gL_law_366 : zget (zMt mL_law) 366 = some (.ifCond .ne 15, 3) := by decide +kernel
theorem gL_law_369 : zget (zMt mL_law) 369 = some (.aload_n 3, 1) := by decide +kernel
theorem gL_law_370 : zget (zMt mL_law) 370 = some (.iconst 0, 1) := by decide +kernel
theorem gL_law_371 : zget (zMt mL_law) 371 = some (.laload, 1) := by decide +kernel
theorem gL_law_372 : zget (zMt mL_law) 372 = some (.iload 7, 2) := by decide +kernel
theorem gL_law_374 : zget (zMt mL_law) 374 = some (.i2l, 1) := by decide +kernel
theorem gL_law_375 : zget (zMt mL_law) 375 = some (.lcmp, 1) := by decide +kernel
theorem gL_law_376 : zget (zMt mL_law) 376 = some (.ifCond .eq 5, 3) := by decide +kernel
theorem gL_law_379 : zget (zMt mL_law) 379 = some (.iconst 0, 1) := by decide +kernel
theorem gL_law_380 : zget (zMt mL_law) 380 = some (.ireturn, 1) := by decide +kernel
theorem gL_law_381 : zget (zMt mL_law) 381 = some (.goto 1749, 3) := by decide +kernel
theorem gL_law_384 : zget (zMt mL_law) 384 = some (.aload_n 1, 1) := by decide +kernel
theorem gL_law_385 : zget (zMt mL_law) 385 = some (.aload_n 3, 1) := by decide +kernel
theorem gL_law_386 : zget (zMt mL_law) 386 = some (.invokestatic 147, 3) := by decide +kernel
theorem gL_law_389 : zget (zMt mL_law) 389 = some (.istore 6, 2) := by decide +kernel
theorem gL_law_391 : zget (zMt mL_law) 391 = some (.aload_n 2, 1) := by decide +kernel
theorem gL_law_392 : zget (zMt mL_law) 392 = some (.invokevirtual 149, 3) := by decide +kernel
theorem gL_law_395 : zget (zMt mL_law) 395 = some (.istore 7, 2) := by decide +kernel
theorem gL_law_397 : zget (zMt mL_law) 397 = some (.aload_n 2, 1) := by decide +kernel
theorem gL_law_398 : zget (zMt mL_law) 398 = some (.invokevirtual 136, 3) := by decide +kernel
theorem gL_law_401 : zget (zMt mL_law) 401 = some (.iload 6, 2) := by decide +kernel
theorem gL_law_403 : zget (zMt mL_law) 403 = some (.if_icmp .eq 5, 3) := by decide +kernel
theorem gL_law_406 : zget (zMt mL_law) 406 = some (.iconst 0, 1) := by decide +kernel
theorem gL_law_407 : zget (zMt mL_law) 407 = some (.ireturn, 1) := by decide +kernel
theorem gL_law_408 : zget (zMt mL_law) 408 = some (.iload 6, 2) := by decide +kernel
theorem gL_law_410 : zget (zMt mL_law) 410 = some (.ifCond .ne 15, 3) := by decide +kernel
theorem gL_law_413 : zget (zMt mL_law) 413 = some (.aload_n 3, 1) := by decide +kernel
theorem gL_law_414 : zget (zMt mL_law) 414 = some (.iconst 0, 1) := by decide +kernel
theorem gL_law_415 : zget (zMt mL_law) 415 = some (.laload, 1) := by decide +kernel
theorem gL_law_416 : zget (zMt mL_law) 416 = some (.iload 7, 2) := by decide +kernel
theorem gL_law_418 : zget (zMt mL_law) 418 = some (.i2l, 1) := by decide +kernel
theorem gL_law_419 : zget (zMt mL_law) 419 = some (.lcmp, 1) := by decide +kernel
theorem gL_law_420 : zget (zMt mL_law) 420 = some (.ifCond .eq 5, 3) := by decide +kernel
theorem gL_law_423 : zget (zMt mL_law) 423 = some (.iconst 0, 1) := by decide +kernel
theorem gL_law_424 : zget (zMt mL_law) 424 = some (.ireturn, 1) := by decide +kernel
theorem gL_law_425 : zget (zMt mL_law) 425 = some (.goto 1705, 3) := by decide +kernel
theorem gL_law_428 : zget (zMt mL_law) 428 = some (.aload_n 1, 1) := by decide +kernel
theorem gL_law_429 : zget (zMt mL_law) 429 = some (.invokevirtual 150, 3) := by decide +kernel
theorem gL_law_432 : zget (zMt mL_law) 432 = some (.aload_n 2, 1) := by decide +kernel
theorem gL_law_433 : zget (zMt mL_law) 433 = some (.invokevirtual 153, 3) := by decide +kernel
theorem gL_law_436 : zget (zMt mL_law) 436 = some (.if_icmp .eq 1694, 3) := by decide +kernel
theorem gL_law_439 : zget (zMt mL_law) 439 = some (.iconst 0, 1) := by decide +kernel
theorem gL_law_440 : zget (zMt mL_law) 440 = some (.ireturn, 1) := by decide +kernel
theorem gL_law_441 : zget (zMt mL_law) 441 = some (.aload_n 1, 1) := by decide +kernel
theorem gL_law_442 : zget (zMt mL_law) 442 = some (.aload_n 0, 1) := by decide +kernel
theorem gL_law_443 : zget (zMt mL_law) 443 = some (.iload 5, 2) := by decide +kernel
theorem gL_law_445 : zget (zMt mL_law) 445 = some (.iconst 1, 1) := by decide +kernel
theorem gL_law_446 : zget (zMt mL_law) 446 = some (.iadd, 1) := by decide +kernel
theorem gL_law_447 : zget (zMt mL_law) 447 = some (.iaload, 1) := by decide +kernel
theorem gL_law_448 : zget (zMt mL_law) 448 = some (.aload_n 3, 1) := by decide +kernel
theorem gL_law_449 : zget (zMt mL_law) 449 = some (.invokestatic 154, 3) := by decide +kernel
theorem gL_law_452 : zget (zMt mL_law) 452 = some (.istore 6, 2) := by decide +kernel
theorem gL_law_454 : zget (zMt mL_law) 454 = some (.aload_n 2, 1) := by decide +kernel
theorem gL_law_455 : zget (zMt mL_law) 455 = some (.aload_n 0, 1) := by decide +kernel
theorem gL_law_456 : zget (zMt mL_law) 456 = some (.iload 5, 2) := by decide +kernel
theorem gL_law_458 : zget (zMt mL_law) 458 = some (.iconst 1, 1) := by decide +kernel
theorem gL_law_459 : zget (zMt mL_law) 459 = some (.iadd, 1) := by decide +kernel
theorem gL_law_460 : zget (zMt mL_law) 460 = some (.iaload, 1) := by decide +kernel
theorem gL_law_461 : zget (zMt mL_law) 461 = some (.invokevirtual 156, 3) := by decide +kernel
theorem gL_law_464 : zget (zMt mL_law) 464 = some (.istore 7, 2) := by decide +kernel
theorem gL_law_466 : zget (zMt mL_law) 466 = some (.aload_n 2, 1) := by decide +kernel
theorem gL_law_467 : zget (zMt mL_law) 467 = some (.invokevirtual 136, 3) := by decide +kernel
theorem gL_law_470 : zget (zMt mL_law) 470 = some (.iload 6, 2) := by decide +kernel
theorem gL_law_472 : zget (zMt mL_law) 472 = some (.if_icmp .eq 5, 3) := by decide +kernel
theorem gL_law_475 : zget (zMt mL_law) 475 = some (.iconst 0, 1) := by decide +kernel
theorem gL_law_476 : zget (zMt mL_law) 476 = some (.ireturn, 1) := by decide +kernel
theorem gL_law_477 : zget (zMt mL_law) 477 = some (.iload 6, 2) := by decide +kernel
theorem gL_law_479 : zget (zMt mL_law) 479 = some (.ifCond .ne 15, 3) := by decide +kernel
theorem gL_law_482 : zget (zMt mL_law) 482 = some (.aload_n 3, 1) := by decide +kernel
theorem gL_law_483 : zget (zMt mL_law) 483 = some (.iconst 0, 1) := by decide +kernel
theorem gL_law_484 : zget (zMt mL_law) 484 = some (.laload, 1) := by decide +kernel
theorem gL_law_485 : zget (zMt mL_law) 485 = some (.iload 7, 2) := by decide +kernel
theorem gL_law_487 : zget (zMt mL_law) 487 = some (.i2l, 1) := by decide +kernel
theorem gL_law_488 : zget (zMt mL_law) 488 = some (.lcmp, 1) := by decide +kernel
theorem gL_law_489 : zget (zMt mL_law) 489 = some (.ifCond .eq 5, 3) := by decide +kernel
theorem gL_law_492 : zget (zMt mL_law) 492 = some (.iconst 0, 1) := by decide +kernel
theorem gL_law_493 : zget (zMt mL_law) 493 = some (.ireturn, 1) := by decide +kernel
theorem gL_law_494 : zget (zMt mL_law) 494 = some (.goto 1636, 3) := by decide +kernel
theorem gL_law_497 : zget (zMt mL_law) 497 = some (.aload_n 1, 1) := by decide +kernel
theorem gL_law_498 : zget (zMt mL_law) 498 = some (.aload_n 0, 1) := by decide +kernel
theorem gL_law_499 : zget (zMt mL_law) 499 = some (.iload 5, 2) := by decide +kernel
theorem gL_law_501 : zget (zMt mL_law) 501 = some (.iconst 1, 1) := by decide +kernel
theorem gL_law_502 : zget (zMt mL_law) 502 = some (.iadd, 1) := by decide +kernel
theorem gL_law_503 : zget (zMt mL_law) 503 = some (.iaload, 1) := by decide +kernel
theorem gL_law_504 : zget (zMt mL_law) 504 = some (.aload_n 3, 1) := by decide +kernel
theorem gL_law_505 : zget (zMt mL_law) 505 = some (.invokestatic 157, 3) := by decide +kernel
theorem gL_law_508 : zget (zMt mL_law) 508 = some (.istore 6, 2) := by decide +kernel
theorem gL_law_510 : zget (zMt mL_law) 510 = some (.aload_n 2, 1) := by decide +kernel
theorem gL_law_511 : zget (zMt mL_law) 511 = some (.aload_n 0, 1) := by decide +kernel
theorem gL_law_512 : zget (zMt mL_law) 512 = some (.iload 5, 2) := by decide +kernel
theorem gL_law_514 : zget (zMt mL_law) 514 = some (.iconst 1, 1) := by decide +kernel
theorem gL_law_515 : zget (zMt mL_law) 515 = some (.iadd, 1) := by decide +kernel
theorem gL_law_516 : zget (zMt mL_law) 516 = some (.iaload, 1) := by decide +kernel
theorem gL_law_517 : zget (zMt mL_law) 517 = some (.invokevirtual 159, 3) := by decide +kernel
theorem gL_law_520 : zget (zMt mL_law) 520 = some (.istore 7, 2) := by decide +kernel
theorem gL_law_522 : zget (zMt mL_law) 522 = some (.aload_n 2, 1) := by decide +kernel
theorem gL_law_523 : zget (zMt mL_law) 523 = some (.invokevirtual 136, 3) := by decide +kernel
theorem gL_law_526 : zget (zMt mL_law) 526 = some (.iload 6, 2) := by decide +kernel
theorem gL_law_528 : zget (zMt mL_law) 528 = some (.if_icmp .eq 5, 3) := by decide +kernel
theorem gL_law_531 : zget (zMt mL_law) 531 = some (.iconst 0, 1) := by decide +kernel
theorem gL_law_532 : zget (zMt mL_law) 532 = some (.ireturn, 1) := by decide +kernel
theorem gL_law_533 : zget (zMt mL_law) 533 = some (.iload 6, 2) := by decide +kernel
theorem gL_law_535 : zget (zMt mL_law) 535 = some (.ifCond .ne 15, 3) := by decide +kernel
theorem gL_law_538 : zget (zMt mL_law) 538 = some (.aload_n 3, 1) := by decide +kernel
theorem gL_law_539 : zget (zMt mL_law) 539 = some (.iconst 0, 1) := by decide +kernel
theorem gL_law_540 : zget (zMt mL_law) 540 = some (.laload, 1) := by decide +kernel
theorem gL_law_541 : zget (zMt mL_law) 541 = some (.iload 7, 2) := by decide +kernel
theorem gL_law_543 : zget (zMt mL_law) 543 = some (.i2l, 1) := by decide +kernel
theorem gL_law_544 : zget (zMt mL_law) 544 = some (.lcmp, 1) := by decide +kernel
theorem gL_law_545 : zget (zMt mL_law) 545 = some (.ifCond .eq 5, 3) := by decide +kernel
theorem gL_law_548 : zget (zMt mL_law) 548 = some (.iconst 0, 1) := by decide +kernel
theorem gL_law_549 : zget (zMt mL_law) 549 = some (.ireturn, 1) := by decide +kernel
theorem gL_law_550 : zget (zMt mL_law) 550 = some (.goto 1580, 3) := by decide +kernel
theorem gL_law_553 : zget (zMt mL_law) 553 = some (.aload_n 1, 1) := by decide +kernel
theorem gL_law_554 : zget (zMt mL_law) 554 = some (.aload_n 0, 1) := by decide +kernel
theorem gL_law_555 : zget (zMt mL_law) 555 = some (.iload 5, 2) := by decide +kernel
theorem gL_law_557 : zget (zMt mL_law) 557 = some (.iconst 1, 1) := by decide +kernel
theorem gL_law_558 : zget (zMt mL_law) 558 = some (.iadd, 1) := by decide +kernel
theorem gL_law_559 : zget (zMt mL_law) 559 = some (.iaload, 1) := by decide +kernel
theorem gL_law_560 : zget (zMt mL_law) 560 = some (.aload_n 3, 1) := by decide +kernel
theorem gL_law_561 : zget (zMt mL_law) 561 = some (.invokestatic 160, 3) := by decide +kernel
theorem gL_law_564 : zget (zMt mL_law) 564 = some (.istore 6, 2) := by decide +kernel
theorem gL_law_566 : zget (zMt mL_law) 566 = some (.aload_n 2, 1) := by decide +kernel
theorem gL_law_567 : zget (zMt mL_law) 567 = some (.aload_n 0, 1) := by decide +kernel
theorem gL_law_568 : zget (zMt mL_law) 568 = some (.iload 5, 2) := by decide +kernel
theorem gL_law_570 : zget (zMt mL_law) 570 = some (.iconst 1, 1) := by decide +kernel
theorem gL_law_571 : zget (zMt mL_law) 571 = some (.iadd, 1) := by decide +kernel
theorem gL_law_572 : zget (zMt mL_law) 572 = some (.iaload, 1) := by decide +kernel
theorem gL_law_573 : zget (zMt mL_law) 573 = some (.invokevirtual 162, 3) := by decide +kernel
theorem gL_law_576 : zget (zMt mL_law) 576 = some (.istore 7, 2) := by decide +kernel
theorem gL_law_578 : zget (zMt mL_law) 578 = some (.aload_n 2, 1) := by decide +kernel
theorem gL_law_579 : zget (zMt mL_law) 579 = some (.invokevirtual 136, 3) := by decide +kernel
theorem gL_law_582 : zget (zMt mL_law) 582 = some (.iload 6, 2) := by decide +kernel
theorem gL_law_584 : zget (zMt mL_law) 584 = some (.if_icmp .eq 5, 3) := by decide +kernel
theorem gL_law_587 : zget (zMt mL_law) 587 = some (.iconst 0, 1) := by decide +kernel
theorem gL_law_588 : zget (zMt mL_law) 588 = some (.ireturn, 1) := by decide +kernel
theorem gL_law_589 : zget (zMt mL_law) 589 = some (.iload 6, 2) := by decide +kernel
theorem gL_law_591 : zget (zMt mL_law) 591 = some (.ifCond .ne 15, 3) := by decide +kernel
theorem gL_law_594 : zget (zMt mL_law) 594 = some (.aload_n 3, 1) := by decide +kernel
theorem gL_law_595 : zget (zMt mL_law) 595 = some (.iconst 0, 1) := by decide +kernel
theorem gL_law_596 : zget (zMt mL_law) 596 = some (.laload, 1) := by decide +kernel
theorem gL_law_597 : zget (zMt mL_law) 597 = some (.iload 7, 2) := by decide +kernel
theorem gL_law_599 : zget (zMt mL_law) 599 = some (.i2l, 1) := by decide +kernel
theorem gL_law_600 : zget (zMt mL_law) 600 = some (.lcmp, 1) := by decide +kernel
theorem gL_law_601 : zget (zMt mL_law) 601 = some (.ifCond .eq 5, 3) := by decide +kernel
theorem gL_law_604 : zget (zMt mL_law) 604 = some (.iconst 0, 1) := by decide +kernel
theorem gL_law_605 : zget (zMt mL_law) 605 = some (.ireturn, 1) := by decide +kernel
theorem gL_law_606 : zget (zMt mL_law) 606 = some (.goto 1524, 3) := by decide +kernel
theorem gL_law_609 : zget (zMt mL_law) 609 = some (.aload_n 1, 1) := by decide +kernel
theorem gL_law_610 : zget (zMt mL_law) 610 = some (.aload_n 0, 1) := by decide +kernel
theorem gL_law_611 : zget (zMt mL_law) 611 = some (.iload 5, 2) := by decide +kernel
theorem gL_law_613 : zget (zMt mL_law) 613 = some (.iconst 1, 1) := by decide +kernel
theorem gL_law_614 : zget (zMt mL_law) 614 = some (.iadd, 1) := by decide +kernel
theorem gL_law_615 : zget (zMt mL_law) 615 = some (.iaload, 1) := by decide +kernel
theorem gL_law_616 : zget (zMt mL_law) 616 = some (.aload_n 3, 1) := by decide +kernel
theorem gL_law_617 : zget (zMt mL_law) 617 = some (.invokestatic 163, 3) := by decide +kernel
theorem gL_law_620 : zget (zMt mL_law) 620 = some (.istore 6, 2) := by decide +kernel
theorem gL_law_622 : zget (zMt mL_law) 622 = some (.aload_n 2, 1) := by decide +kernel
theorem gL_law_623 : zget (zMt mL_law) 623 = some (.aload_n 0, 1) := by decide +kernel
theorem gL_law_624 : zget (zMt mL_law) 624 = some (.iload 5, 2) := by decide +kernel
theorem gL_law_626 : zget (zMt mL_law) 626 = some (.iconst 1, 1) := by decide +kernel
theorem gL_law_627 : zget (zMt mL_law) 627 = some (.iadd, 1) := by decide +kernel
theorem gL_law_628 : zget (zMt mL_law) 628 = some (.iaload, 1) := by decide +kernel
theorem gL_law_629 : zget (zMt mL_law) 629 = some (.invokevirtual 165, 3) := by decide +kernel
theorem gL_law_632 : zget (zMt mL_law) 632 = some (.istore 7, 2) := by decide +kernel
theorem gL_law_634 : zget (zMt mL_law) 634 = some (.aload_n 2, 1) := by decide +kernel
theorem gL_law_635 : zget (zMt mL_law) 635 = some (.invokevirtual 136, 3) := by decide +kernel
theorem gL_law_638 : zget (zMt mL_law) 638 = some (.iload 6, 2) := by decide +kernel
theorem gL_law_640 : zget (zMt mL_law) 640 = some (.if_icmp .eq 5, 3) := by decide +kernel
theorem gL_law_643 : zget (zMt mL_law) 643 = some (.iconst 0, 1) := by decide +kernel
theorem gL_law_644 : zget (zMt mL_law) 644 = some (.ireturn, 1) := by decide +kernel
theorem gL_law_645 : zget (zMt mL_law) 645 = some (.iload 6, 2) := by decide +kernel
theorem gL_law_647 : zget (zMt mL_law) 647 = some (.ifCond .ne 15, 3) := by decide +kernel
theorem gL_law_650 : zget (zMt mL_law) 650 = some (.aload_n 3, 1) := by decide +kernel
theorem gL_law_651 : zget (zMt mL_law) 651 = some (.iconst 0, 1) := by decide +kernel
theorem gL_law_652 : zget (zMt mL_law) 652 = some (.laload, 1) := by decide +kernel
theorem gL_law_653 : zget (zMt mL_law) 653 = some (.iload 7, 2) := by decide +kernel
theorem gL_law_655 : zget (zMt mL_law) 655 = some (.i2l, 1) := by decide +kernel
theorem gL_law_656 : zget (zMt mL_law) 656 = some (.lcmp, 1) := by decide +kernel
theorem gL_law_657 : zget (zMt mL_law) 657 = some (.ifCond .eq 5, 3) := by decide +kernel
theorem gL_law_660 : zget (zMt mL_law) 660 = some (.iconst 0, 1) := by decide +kernel
theorem gL_law_661 : zget (zMt mL_law) 661 = some (.ireturn, 1) := by decide +kernel
theorem gL_law_662 : zget (zMt mL_law) 662 = some (.goto 1468, 3) := by decide +kernel
theorem gL_law_665 : zget (zMt mL_law) 665 = some (.aload_n 1, 1) := by decide +kernel
theorem gL_law_666 : zget (zMt mL_law) 666 = some (.aload_n 0, 1) := by decide +kernel
theorem gL_law_667 : zget (zMt mL_law) 667 = some (.iload 5, 2) := by decide +kernel
theorem gL_law_669 : zget (zMt mL_law) 669 = some (.iconst 1, 1) := by decide +kernel
theorem gL_law_670 : zget (zMt mL_law) 670 = some (.iadd, 1) := by decide +kernel
theorem gL_law_671 : zget (zMt mL_law) 671 = some (.iaload, 1) := by decide +kernel
theorem gL_law_672 : zget (zMt mL_law) 672 = some (.aload_n 3, 1) := by decide +kernel
theorem gL_law_673 : zget (zMt mL_law) 673 = some (.invokestatic 166, 3) := by decide +kernel
theorem gL_law_676 : zget (zMt mL_law) 676 = some (.istore 6, 2) := by decide +kernel
theorem gL_law_678 : zget (zMt mL_law) 678 = some (.aload_n 2, 1) := by decide +kernel
theorem gL_law_679 : zget (zMt mL_law) 679 = some (.aload_n 0, 1) := by decide +kernel
theorem gL_law_680 : zget (zMt mL_law) 680 = some (.iload 5, 2) := by decide +kernel
theorem gL_law_682 : zget (zMt mL_law) 682 = some (.iconst 1, 1) := by decide +kernel
theorem gL_law_683 : zget (zMt mL_law) 683 = some (.iadd, 1) := by decide +kernel
theorem gL_law_684 : zget (zMt mL_law) 684 = some (.iaload, 1) := by decide +kernel
theorem gL_law_685 : zget (zMt mL_law) 685 = some (.invokevirtual 168, 3) := by decide +kernel
theorem gL_law_688 : zget (zMt mL_law) 688 = some (.istore 7, 2) := by decide +kernel
theorem gL_law_690 : zget (zMt mL_law) 690 = some (.aload_n 2, 1) := by decide +kernel
theorem gL_law_691 : zget (zMt mL_law) 691 = some (.invokevirtual 136, 3) := by decide +kernel
theorem gL_law_694 : zget (zMt mL_law) 694 = some (.iload 6, 2) := by decide +kernel
theorem gL_law_696 : zget (zMt mL_law) 696 = some (.if_icmp .eq 5, 3) := by decide +kernel
theorem gL_law_699 : zget (zMt mL_law) 699 = some (.iconst 0, 1) := by decide +kernel
theorem gL_law_700 : zget (zMt mL_law) 700 = some (.ireturn, 1) := by decide +kernel
theorem gL_law_701 : zget (zMt mL_law) 701 = some (.iload 6, 2) := by decide +kernel
theorem gL_law_703 : zget (zMt mL_law) 703 = some (.ifCond .ne 15, 3) := by decide +kernel
theorem gL_law_706 : zget (zMt mL_law) 706 = some (.aload_n 3, 1) := by decide +kernel
theorem gL_law_707 : zget (zMt mL_law) 707 = some (.iconst 0, 1) := by decide +kernel
theorem gL_law_708 : zget (zMt mL_law) 708 = some (.laload, 1) := by decide +kernel
theorem gL_law_709 : zget (zMt mL_law) 709 = some (.iload 7, 2) := by decide +kernel
theorem gL_law_711 : zget (zMt mL_law) 711 = some (.i2l, 1) := by decide +kernel
theorem gL_law_712 : zget (zMt mL_law) 712 = some (.lcmp, 1) := by decide +kernel
theorem gL_law_713 : zget (zMt mL_law) 713 = some (.ifCond .eq 5, 3) := by decide +kernel
theorem gL_law_716 : zget (zMt mL_law) 716 = some (.iconst 0, 1) := by decide +kernel
theorem gL_law_717 : zget (zMt mL_law) 717 = some (.ireturn, 1) := by decide +kernel
theorem gL_law_718 : zget (zMt mL_law) 718 = some (.goto 1412, 3) := by decide +kernel
theorem gL_law_721 : zget (zMt mL_law) 721 = some (.aload_n 1, 1) := by decide +kernel
theorem gL_law_722 : zget (zMt mL_law) 722 = some (.aload_n 3, 1) := by decide +kernel
theorem gL_law_723 : zget (zMt mL_law) 723 = some (.invokestatic 169, 3) := by decide +kernel
theorem gL_law_726 : zget (zMt mL_law) 726 = some (.istore 6, 2) := by decide +kernel
theorem gL_law_728 : zget (zMt mL_law) 728 = some (.aload_n 2, 1) := by decide +kernel
theorem gL_law_729 : zget (zMt mL_law) 729 = some (.invokevirtual 171, 3) := by decide +kernel
theorem gL_law_732 : zget (zMt mL_law) 732 = some (.istore 7, 2) := by decide +kernel
theorem gL_law_734 : zget (zMt mL_law) 734 = some (.aload_n 2, 1) := by decide +kernel
theorem gL_law_735 : zget (zMt mL_law) 735 = some (.invokevirtual 136, 3) := by decide +kernel
theorem gL_law_738 : zget (zMt mL_law) 738 = some (.iload 6, 2) := by decide +kernel
theorem gL_law_740 : zget (zMt mL_law) 740 = some (.if_icmp .eq 5, 3) := by decide +kernel
theorem gL_law_743 : zget (zMt mL_law) 743 = some (.iconst 0, 1) := by decide +kernel
theorem gL_law_744 : zget (zMt mL_law) 744 = some (.ireturn, 1) := by decide +kernel
theorem gL_law_745 : zget (zMt mL_law) 745 = some (.iload 6, 2) := by decide +kernel
theorem gL_law_747 : zget (zMt mL_law) 747 = some (.ifCond .ne 15, 3) := by decide +kernel
theorem gL_law_750 : zget (zMt mL_law) 750 = some (.aload_n 3, 1) := by decide +kernel
theorem gL_law_751 : zget (zMt mL_law) 751 = some (.iconst 0, 1) := by decide +kernel
theorem gL_law_752 : zget (zMt mL_law) 752 = some (.laload, 1) := by decide +kernel
theorem gL_law_753 : zget (zMt mL_law) 753 = some (.iload 7, 2) := by decide +kernel
theorem gL_law_755 : zget (zMt mL_law) 755 = some (.i2l, 1) := by decide +kernel
theorem gL_law_756 : zget (zMt mL_law) 756 = some (.lcmp, 1) := by decide +kernel
theorem gL_law_757 : zget (zMt mL_law) 757 = some (.ifCond .eq 5, 3) := by decide +kernel
theorem gL_law_760 : zget (zMt mL_law) 760 = some (.iconst 0, 1) := by decide +kernel
theorem gL_law_761 : zget (zMt mL_law) 761 = some (.ireturn, 1) := by decide +kernel
theorem gL_law_762 : zget (zMt mL_law) 762 = some (.goto 1368, 3) := by decide +kernel
theorem gL_law_765 : zget (zMt mL_law) 765 = some (.aload_n 1, 1) := by decide +kernel
theorem gL_law_766 : zget (zMt mL_law) 766 = some (.aload_n 0, 1) := by decide +kernel
theorem gL_law_767 : zget (zMt mL_law) 767 = some (.iload 5, 2) := by decide +kernel
theorem gL_law_769 : zget (zMt mL_law) 769 = some (.iconst 1, 1) := by decide +kernel
theorem gL_law_770 : zget (zMt mL_law) 770 = some (.iadd, 1) := by decide +kernel
theorem gL_law_771 : zget (zMt mL_law) 771 = some (.iaload, 1) := by decide +kernel
theorem gL_law_772 : zget (zMt mL_law) 772 = some (.aload_n 0, 1) := by decide +kernel
theorem gL_law_773 : zget (zMt mL_law) 773 = some (.iload 5, 2) := by decide +kernel
theorem gL_law_775 : zget (zMt mL_law) 775 = some (.iconst 2, 1) := by decide +kernel
theorem gL_law_776 : zget (zMt mL_law) 776 = some (.iadd, 1) := by decide +kernel
theorem gL_law_777 : zget (zMt mL_law) 777 = some (.iaload, 1) := by decide +kernel
theorem gL_law_778 : zget (zMt mL_law) 778 = some (.aload_n 0, 1) := by decide +kernel
theorem gL_law_779 : zget (zMt mL_law) 779 = some (.iload 5, 2) := by decide +kernel
theorem gL_law_781 : zget (zMt mL_law) 781 = some (.iconst 3, 1) := by decide +kernel
theorem gL_law_782 : zget (zMt mL_law) 782 = some (.iadd, 1) := by decide +kernel
theorem gL_law_783 : zget (zMt mL_law) 783 = some (.iaload, 1) := by decide +kernel
theorem gL_law_784 : zget (zMt mL_law) 784 = some (.ifCond .eq 7, 3) := by decide +kernel
theorem gL_law_787 : zget (zMt mL_law) 787 = some (.iconst 1, 1) := by decide +kernel
theorem gL_law_788 : zget (zMt mL_law) 788 = some (.goto 4, 3) := by decide +kernel
theorem gL_law_791 : zget (zMt mL_law) 791 = some (.iconst 0, 1) := by decide +kernel
theorem gL_law_792 : zget (zMt mL_law) 792 = some (.aload_n 3, 1) := by decide +kernel
theorem gL_law_793 : zget (zMt mL_law) 793 = some (.invokestatic 172, 3) := by decide +kernel
theorem gL_law_796 : zget (zMt mL_law) 796 = some (.istore 6, 2) := by decide +kernel
theorem gL_law_798 : zget (zMt mL_law) 798 = some (.aload_n 2, 1) := by decide +kernel
theorem gL_law_799 : zget (zMt mL_law) 799 = some (.aload_n 0, 1) := by decide +kernel
theorem gL_law_800 : zget (zMt mL_law) 800 = some (.iload 5, 2) := by decide +kernel
theorem gL_law_802 : zget (zMt mL_law) 802 = some (.iconst 1, 1) := by decide +kernel
theorem gL_law_803 : zget (zMt mL_law) 803 = some (.iadd, 1) := by decide +kernel
theorem gL_law_804 : zget (zMt mL_law) 804 = some (.iaload, 1) := by decide +kernel
theorem gL_law_805 : zget (zMt mL_law) 805 = some (.aload_n 0, 1) := by decide +kernel
theorem gL_law_806 : zget (zMt mL_law) 806 = some (.iload 5, 2) := by decide +kernel
theorem gL_law_808 : zget (zMt mL_law) 808 = some (.iconst 2, 1) := by decide +kernel
theorem gL_law_809 : zget (zMt mL_law) 809 = some (.iadd, 1) := by decide +kernel
theorem gL_law_810 : zget (zMt mL_law) 810 = some (.iaload, 1) := by decide +kernel
theorem gL_law_811 : zget (zMt mL_law) 811 = some (.aload_n 0, 1) := by decide +kernel
theorem gL_law_812 : zget (zMt mL_law) 812 = some (.iload 5, 2) := by decide +kernel
theorem gL_law_814 : zget (zMt mL_law) 814 = some (.iconst 3, 1) := by decide +kernel
theorem gL_law_815 : zget (zMt mL_law) 815 = some (.iadd, 1) := by decide +kernel
theorem gL_law_816 : zget (zMt mL_law) 816 = some (.iaload, 1) := by decide +kernel
theorem gL_law_817 : zget (zMt mL_law) 817 = some (.ifCond .eq 7, 3) := by decide +kernel
theorem gL_law_820 : zget (zMt mL_law) 820 = some (.iconst 1, 1) := by decide +kernel
theorem gL_law_821 : zget (zMt mL_law) 821 = some (.goto 4, 3) := by decide +kernel
theorem gL_law_824 : zget (zMt mL_law) 824 = some (.iconst 0, 1) := by decide +kernel
theorem gL_law_825 : zget (zMt mL_law) 825 = some (.invokevirtual 175, 3) := by decide +kernel
theorem gL_law_828 : zget (zMt mL_law) 828 = some (.istore 7, 2) := by decide +kernel
theorem gL_law_830 : zget (zMt mL_law) 830 = some (.aload_n 2, 1) := by decide +kernel
theorem gL_law_831 : zget (zMt mL_law) 831 = some (.invokevirtual 136, 3) := by decide +kernel
theorem gL_law_834 : zget (zMt mL_law) 834 = some (.iload 6, 2) := by decide +kernel
theorem gL_law_836 : zget (zMt mL_law) 836 = some (.if_icmp .eq 5, 3) := by decide +kernel
theorem gL_law_839 : zget (zMt mL_law) 839 = some (.iconst 0, 1) := by decide +kernel
theorem gL_law_840 : zget (zMt mL_law) 840 = some (.ireturn, 1) := by decide +kernel
theorem gL_law_841 : zget (zMt mL_law) 841 = some (.iload 6, 2) := by decide +kernel
theorem gL_law_843 : zget (zMt mL_law) 843 = some (.ifCond .ne 15, 3) := by decide +kernel
theorem gL_law_846 : zget (zMt mL_law) 846 = some (.aload_n 3, 1) := by decide +kernel
theorem gL_law_847 : zget (zMt mL_law) 847 = some (.iconst 0, 1) := by decide +kernel
theorem gL_law_848 : zget (zMt mL_law) 848 = some (.laload, 1) := by decide +kernel
theorem gL_law_849 : zget (zMt mL_law) 849 = some (.iload 7, 2) := by decide +kernel
theorem gL_law_851 : zget (zMt mL_law) 851 = some (.i2l, 1) := by decide +kernel
theorem gL_law_852 : zget (zMt mL_law) 852 = some (.lcmp, 1) := by decide +kernel
theorem gL_law_853 : zget (zMt mL_law) 853 = some (.ifCond .eq 5, 3) := by decide +kernel
theorem gL_law_856 : zget (zMt mL_law) 856 = some (.iconst 0, 1) := by decide +kernel
theorem gL_law_857 : zget (zMt mL_law) 857 = some (.ireturn, 1) := by decide +kernel
theorem gL_law_858 : zget (zMt mL_law) 858 = some (.goto 1272, 3) := by decide +kernel
theorem gL_law_861 : zget (zMt mL_law) 861 = some (.aload_n 1, 1) := by decide +kernel
theorem gL_law_862 : zget (zMt mL_law) 862 = some (.aload_n 0, 1) := by decide +kernel
theorem gL_law_863 : zget (zMt mL_law) 863 = some (.iload 5, 2) := by decide +kernel
theorem gL_law_865 : zget (zMt mL_law) 865 = some (.iconst 1, 1) := by decide +kernel
theorem gL_law_866 : zget (zMt mL_law) 866 = some (.iadd, 1) := by decide +kernel
theorem gL_law_867 : zget (zMt mL_law) 867 = some (.iaload, 1) := by decide +kernel
theorem gL_law_868 : zget (zMt mL_law) 868 = some (.aload_n 3, 1) := by decide +kernel
theorem gL_law_869 : zget (zMt mL_law) 869 = some (.invokestatic 176, 3) := by decide +kernel
theorem gL_law_872 : zget (zMt mL_law) 872 = some (.istore 6, 2) := by decide +kernel
theorem gL_law_874 : zget (zMt mL_law) 874 = some (.aload_n 2, 1) := by decide +kernel
theorem gL_law_875 : zget (zMt mL_law) 875 = some (.aload_n 0, 1) := by decide +kernel
theorem gL_law_876 : zget (zMt mL_law) 876 = some (.iload 5, 2) := by decide +kernel
theorem gL_law_878 : zget (zMt mL_law) 878 = some (.iconst 1, 1) := by decide +kernel
theorem gL_law_879 : zget (zMt mL_law) 879 = some (.iadd, 1) := by decide +kernel
theorem gL_law_880 : zget (zMt mL_law) 880 = some (.iaload, 1) := by decide +kernel
theorem gL_law_881 : zget (zMt mL_law) 881 = some (.invokevirtual 178, 3) := by decide +kernel
theorem gL_law_884 : zget (zMt mL_law) 884 = some (.istore 7, 2) := by decide +kernel
theorem gL_law_886 : zget (zMt mL_law) 886 = some (.aload_n 2, 1) := by decide +kernel
theorem gL_law_887 : zget (zMt mL_law) 887 = some (.invokevirtual 136, 3) := by decide +kernel
theorem gL_law_890 : zget (zMt mL_law) 890 = some (.iload 6, 2) := by decide +kernel
theorem gL_law_892 : zget (zMt mL_law) 892 = some (.if_icmp .eq 5, 3) := by decide +kernel
theorem gL_law_895 : zget (zMt mL_law) 895 = some (.iconst 0, 1) := by decide +kernel
theorem gL_law_896 : zget (zMt mL_law) 896 = some (.ireturn, 1) := by decide +kernel
theorem gL_law_897 : zget (zMt mL_law) 897 = some (.iload 6, 2) := by decide +kernel
theorem gL_law_899 : zget (zMt mL_law) 899 = some (.ifCond .ne 22, 3) := by decide +kernel
theorem gL_law_902 : zget (zMt mL_law) 902 = some (.aload_n 3, 1) := by decide +kernel
theorem gL_law_903 : zget (zMt mL_law) 903 = some (.iconst 0, 1) := by decide +kernel
theorem gL_law_904 : zget (zMt mL_law) 904 = some (.laload, 1) := by decide +kernel
theorem gL_law_905 : zget (zMt mL_law) 905 = some (.iload 7, 2) := by decide +kernel
theorem gL_law_907 : zget (zMt mL_law) 907 = some (.ifCond .eq 7, 3) := by decide +kernel
theorem gL_law_910 : zget (zMt mL_law) 910 = some (.lconst 1, 1) := by decide +kernel
theorem gL_law_911 : zget (zMt mL_law) 911 = some (.goto 4, 3) := by decide +kernel
theorem gL_law_914 : zget (zMt mL_law) 914 = some (.lconst 0, 1) := by decide +kernel
theorem gL_law_915 : zget (zMt mL_law) 915 = some (.lcmp, 1) := by decide +kernel
theorem gL_law_916 : zget (zMt mL_law) 916 = some (.ifCond .eq 5, 3) := by decide +kernel
theorem gL_law_919 : zget (zMt mL_law) 919 = some (.iconst 0, 1) := by decide +kernel
theorem gL_law_920 : zget (zMt mL_law) 920 = some (.ireturn, 1) := by decide +kernel
theorem gL_law_921 : zget (zMt mL_law) 921 = some (.goto 1209, 3) := by decide +kernel
theorem gL_law_924 : zget (zMt mL_law) 924 = some (.aload_n 1, 1) := by decide +kernel
theorem gL_law_925 : zget (zMt mL_law) 925 = some (.invokevirtual 179, 3) := by decide +kernel
theorem gL_law_928 : zget (zMt mL_law) 928 = some (.aload_n 2, 1) := by decide +kernel
theorem gL_law_929 : zget (zMt mL_law) 929 = some (.invokevirtual 182, 3) := by decide +kernel
theorem gL_law_932 : zget (zMt mL_law) 932 = some (.if_icmp .eq 1198, 3) := by decide +kernel
theorem gL_law_935 : zget (zMt mL_law) 935 = some (.iconst 0, 1) := by decide +kernel
theorem gL_law_936 : zget (zMt mL_law) 936 = some (.ireturn, 1) := by decide +kernel
theorem gL_law_937 : zget (zMt mL_law) 937 = some (.aload_n 1, 1) := by decide +kernel
theorem gL_law_938 : zget (zMt mL_law) 938 = some (.aload_n 0, 1) := by decide +kernel
theorem gL_law_939 : zget (zMt mL_law) 939 = some (.iload 5, 2) := by decide +kernel
theorem gL_law_941 : zget (zMt mL_law) 941 = some (.iconst 1, 1) := by decide +kernel
theorem gL_law_942 : zget (zMt mL_law) 942 = some (.iadd, 1) := by decide +kernel
theorem gL_law_943 : zget (zMt mL_law) 943 = some (.iaload, 1) := by decide +kernel
theorem gL_law_944 : zget (zMt mL_law) 944 = some (.aload_n 3, 1) := by decide +kernel
theorem gL_law_945 : zget (zMt mL_law) 945 = some (.invokestatic 183, 3) := by decide +kernel
theorem gL_law_948 : zget (zMt mL_law) 948 = some (.istore 6, 2) := by decide +kernel
theorem gL_law_950 : zget (zMt mL_law) 950 = some (.aload_n 2, 1) := by decide +kernel
theorem gL_law_951 : zget (zMt mL_law) 951 = some (.aload_n 0, 1) := by decide +kernel
theorem gL_law_952 : zget (zMt mL_law) 952 = some (.iload 5, 2) := by decide +kernel
theorem gL_law_954 : zget (zMt mL_law) 954 = some (.iconst 1, 1) := by decide +kernel
theorem gL_law_955 : zget (zMt mL_law) 955 = some (.iadd, 1) := by decide +kernel
theorem gL_law_956 : zget (zMt mL_law) 956 = some (.iaload, 1) := by decide +kernel
theorem gL_law_957 : zget (zMt mL_law) 957 = some (.invokevirtual 185, 3) := by decide +kernel
theorem gL_law_960 : zget (zMt mL_law) 960 = some (.istore 7, 2) := by decide +kernel
theorem gL_law_962 : zget (zMt mL_law) 962 = some (.aload_n 2, 1) := by decide +kernel
theorem gL_law_963 : zget (zMt mL_law) 963 = some (.invokevirtual 136, 3) := by decide +kernel
theorem gL_law_966 : zget (zMt mL_law) 966 = some (.iload 6, 2) := by decide +kernel
theorem gL_law_968 : zget (zMt mL_law) 968 = some (.if_icmp .eq 5, 3) := by decide +kernel
theorem gL_law_971 : zget (zMt mL_law) 971 = some (.iconst 0, 1) := by decide +kernel
theorem gL_law_972 : zget (zMt mL_law) 972 = some (.ireturn, 1) := by decide +kernel
theorem gL_law_973 : zget (zMt mL_law) 973 = some (.iload 6, 2) := by decide +kernel
theorem gL_law_975 : zget (zMt mL_law) 975 = some (.ifCond .ne 15, 3) := by decide +kernel
theorem gL_law_978 : zget (zMt mL_law) 978 = some (.aload_n 3, 1) := by decide +kernel
theorem gL_law_979 : zget (zMt mL_law) 979 = some (.iconst 0, 1) := by decide +kernel
theorem gL_law_980 : zget (zMt mL_law) 980 = some (.laload, 1) := by decide +kernel
theorem gL_law_981 : zget (zMt mL_law) 981 = some (.iload 7, 2) := by decide +kernel
theorem gL_law_983 : zget (zMt mL_law) 983 = some (.i2l, 1) := by decide +kernel
theorem gL_law_984 : zget (zMt mL_law) 984 = some (.lcmp, 1) := by decide +kernel
theorem gL_law_985 : zget (zMt mL_law) 985 = some (.ifCond .eq 5, 3) := by decide +kernel
theorem gL_law_988 : zget (zMt mL_law) 988 = some (.iconst 0, 1) := by decide +kernel
theorem gL_law_989 : zget (zMt mL_law) 989 = some (.ireturn, 1) := by decide +kernel
theorem gL_law_990 : zget (zMt mL_law) 990 = some (.goto 1140, 3) := by decide +kernel
theorem gL_law_993 : zget (zMt mL_law) 993 = some (.aload_n 1, 1) := by decide +kernel
theorem gL_law_994 : zget (zMt mL_law) 994 = some (.aload_n 0, 1) := by decide +kernel
theorem gL_law_995 : zget (zMt mL_law) 995 = some (.iload 5, 2) := by decide +kernel
theorem gL_law_997 : zget (zMt mL_law) 997 = some (.iconst 1, 1) := by decide +kernel
theorem gL_law_998 : zget (zMt mL_law) 998 = some (.iadd, 1) := by decide +kernel
theorem gL_law_999 : zget (zMt mL_law) 999 = some (.iaload, 1) := by decide +kernel
theorem gL_law_1000 : zget (zMt mL_law) 1000 = some (.aload_n 3, 1) := by decide +kernel
theorem gL_law_1001 : zget (zMt mL_law) 1001 = some (.invokestatic 186, 3) := by decide +kernel
theorem gL_law_1004 : zget (zMt mL_law) 1004 = some (.istore 6, 2) := by decide +kernel
theorem gL_law_1006 : zget (zMt mL_law) 1006 = some (.aload_n 2, 1) := by decide +kernel
theorem gL_law_1007 : zget (zMt mL_law) 1007 = some (.aload_n 0, 1) := by decide +kernel
theorem gL_law_1008 : zget (zMt mL_law) 1008 = some (.iload 5, 2) := by decide +kernel
theorem gL_law_1010 : zget (zMt mL_law) 1010 = some (.iconst 1, 1) := by decide +kernel
theorem gL_law_1011 : zget (zMt mL_law) 1011 = some (.iadd, 1) := by decide +kernel
theorem gL_law_1012 : zget (zMt mL_law) 1012 = some (.iaload, 1) := by decide +kernel
theorem gL_law_1013 : zget (zMt mL_law) 1013 = some (.invokevirtual 188, 3) := by decide +kernel
theorem gL_law_1016 : zget (zMt mL_law) 1016 = some (.istore 7, 2) := by decide +kernel
theorem gL_law_1018 : zget (zMt mL_law) 1018 = some (.aload_n 2, 1) := by decide +kernel
theorem gL_law_1019 : zget (zMt mL_law) 1019 = some (.invokevirtual 136, 3) := by decide +kernel
theorem gL_law_1022 : zget (zMt mL_law) 1022 = some (.iload 6, 2) := by decide +kernel
theorem gL_law_1024 : zget (zMt mL_law) 1024 = some (.if_icmp .eq 5, 3) := by decide +kernel
theorem gL_law_1027 : zget (zMt mL_law) 1027 = some (.iconst 0, 1) := by decide +kernel
theorem gL_law_1028 : zget (zMt mL_law) 1028 = some (.ireturn, 1) := by decide +kernel
theorem gL_law_1029 : zget (zMt mL_law) 1029 = some (.iload 6, 2) := by decide +kernel
theorem gL_law_1031 : zget (zMt mL_law) 1031 = some (.ifCond .ne 15, 3) := by decide +kernel
theorem gL_law_1034 : zget (zMt mL_law) 1034 = some (.aload_n 3, 1) := by decide +kernel
theorem gL_law_1035 : zget (zMt mL_law) 1035 = some (.iconst 0, 1) := by decide +kernel
theorem gL_law_1036 : zget (zMt mL_law) 1036 = some (.laload, 1) := by decide +kernel
theorem gL_law_1037 : zget (zMt mL_law) 1037 = some (.iload 7, 2) := by decide +kernel
theorem gL_law_1039 : zget (zMt mL_law) 1039 = some (.i2l, 1) := by decide +kernel
theorem gL_law_1040 : zget (zMt mL_law) 1040 = some (.lcmp, 1) := by decide +kernel
theorem gL_law_1041 : zget (zMt mL_law) 1041 = some (.ifCond .eq 5, 3) := by decide +kernel
theorem gL_law_1044 : zget (zMt mL_law) 1044 = some (.iconst 0, 1) := by decide +kernel
theorem gL_law_1045 : zget (zMt mL_law) 1045 = some (.ireturn, 1) := by decide +kernel
theorem gL_law_1046 : zget (zMt mL_law) 1046 = some (.goto 1084, 3) := by decide +kernel
theorem gL_law_1049 : zget (zMt mL_law) 1049 = some (.aload_n 1, 1) := by decide +kernel
theorem gL_law_1050 : zget (zMt mL_law) 1050 = some (.aload_n 0, 1) := by decide +kernel
theorem gL_law_1051 : zget (zMt mL_law) 1051 = some (.iload 5, 2) := by decide +kernel
theorem gL_law_1053 : zget (zMt mL_law) 1053 = some (.iconst 1, 1) := by decide +kernel
theorem gL_law_1054 : zget (zMt mL_law) 1054 = some (.iadd, 1) := by decide +kernel
theorem gL_law_1055 : zget (zMt mL_law) 1055 = some (.iaload, 1) := by decide +kernel
theorem gL_law_1056 : zget (zMt mL_law) 1056 = some (.aload_n 3, 1) := by decide +kernel
theorem gL_law_1057 : zget (zMt mL_law) 1057 = some (.invokestatic 189, 3) := by decide +kernel
theorem gL_law_1060 : zget (zMt mL_law) 1060 = some (.istore 6, 2) := by decide +kernel
theorem gL_law_1062 : zget (zMt mL_law) 1062 = some (.aload_n 2, 1) := by decide +kernel
theorem gL_law_1063 : zget (zMt mL_law) 1063 = some (.aload_n 0, 1) := by decide +kernel
theorem gL_law_1064 : zget (zMt mL_law) 1064 = some (.iload 5, 2) := by decide +kernel
theorem gL_law_1066 : zget (zMt mL_law) 1066 = some (.iconst 1, 1) := by decide +kernel
theorem gL_law_1067 : zget (zMt mL_law) 1067 = some (.iadd, 1) := by decide +kernel
theorem gL_law_1068 : zget (zMt mL_law) 1068 = some (.iaload, 1) := by decide +kernel
theorem gL_law_1069 : zget (zMt mL_law) 1069 = some (.invokevirtual 191, 3) := by decide +kernel
theorem gL_law_1072 : zget (zMt mL_law) 1072 = some (.istore 7, 2) := by decide +kernel
theorem gL_law_1074 : zget (zMt mL_law) 1074 = some (.aload_n 2, 1) := by decide +kernel
theorem gL_law_1075 : zget (zMt mL_law) 1075 = some (.invokevirtual 136, 3) := by decide +kernel
theorem gL_law_1078 : zget (zMt mL_law) 1078 = some (.iload 6, 2) := by decide +kernel
theorem gL_law_1080 : zget (zMt mL_law) 1080 = some (.if_icmp .eq 5, 3) := by decide +kernel
theorem gL_law_1083 : zget (zMt mL_law) 1083 = some (.iconst 0, 1) := by decide +kernel
theorem gL_law_1084 : zget (zMt mL_law) 1084 = some (.ireturn, 1) := by decide +kernel
theorem gL_law_1085 : zget (zMt mL_law) 1085 = some (.iload 6, 2) := by decide +kernel
theorem gL_law_1087 : zget (zMt mL_law) 1087 = some (.ifCond .ne 15, 3) := by decide +kernel
theorem gL_law_1090 : zget (zMt mL_law) 1090 = some (.aload_n 3, 1) := by decide +kernel
theorem gL_law_1091 : zget (zMt mL_law) 1091 = some (.iconst 0, 1) := by decide +kernel
theorem gL_law_1092 : zget (zMt mL_law) 1092 = some (.laload, 1) := by decide +kernel
theorem gL_law_1093 : zget (zMt mL_law) 1093 = some (.iload 7, 2) := by decide +kernel
theorem gL_law_1095 : zget (zMt mL_law) 1095 = some (.i2l, 1) := by decide +kernel
theorem gL_law_1096 : zget (zMt mL_law) 1096 = some (.lcmp, 1) := by decide +kernel
theorem gL_law_1097 : zget (zMt mL_law) 1097 = some (.ifCond .eq 5, 3) := by decide +kernel
theorem gL_law_1100 : zget (zMt mL_law) 1100 = some (.iconst 0, 1) := by decide +kernel
theorem gL_law_1101 : zget (zMt mL_law) 1101 = some (.ireturn, 1) := by decide +kernel
theorem gL_law_1102 : zget (zMt mL_law) 1102 = some (.goto 1028, 3) := by decide +kernel
theorem gL_law_1105 : zget (zMt mL_law) 1105 = some (.aload_n 1, 1) := by decide +kernel
theorem gL_law_1106 : zget (zMt mL_law) 1106 = some (.aload_n 0, 1) := by decide +kernel
theorem gL_law_1107 : zget (zMt mL_law) 1107 = some (.iload 5, 2) := by decide +kernel
theorem gL_law_1109 : zget (zMt mL_law) 1109 = some (.iconst 1, 1) := by decide +kernel
theorem gL_law_1110 : zget (zMt mL_law) 1110 = some (.iadd, 1) := by decide +kernel
theorem gL_law_1111 : zget (zMt mL_law) 1111 = some (.iaload, 1) := by decide +kernel
theorem gL_law_1112 : zget (zMt mL_law) 1112 = some (.aload_n 3, 1) := by decide +kernel
theorem gL_law_1113 : zget (zMt mL_law) 1113 = some (.invokestatic 192, 3) := by decide +kernel
theorem gL_law_1116 : zget (zMt mL_law) 1116 = some (.istore 6, 2) := by decide +kernel
theorem gL_law_1118 : zget (zMt mL_law) 1118 = some (.aload_n 2, 1) := by decide +kernel
theorem gL_law_1119 : zget (zMt mL_law) 1119 = some (.aload_n 0, 1) := by decide +kernel
theorem gL_law_1120 : zget (zMt mL_law) 1120 = some (.iload 5, 2) := by decide +kernel
theorem gL_law_1122 : zget (zMt mL_law) 1122 = some (.iconst 1, 1) := by decide +kernel
theorem gL_law_1123 : zget (zMt mL_law) 1123 = some (.iadd, 1) := by decide +kernel
theorem gL_law_1124 : zget (zMt mL_law) 1124 = some (.iaload, 1) := by decide +kernel
theorem gL_law_1125 : zget (zMt mL_law) 1125 = some (.invokevirtual 194, 3) := by decide +kernel
theorem gL_law_1128 : zget (zMt mL_law) 1128 = some (.istore 7, 2) := by decide +kernel
theorem gL_law_1130 : zget (zMt mL_law) 1130 = some (.aload_n 2, 1) := by decide +kernel
theorem gL_law_1131 : zget (zMt mL_law) 1131 = some (.invokevirtual 136, 3) := by decide +kernel
theorem gL_law_1134 : zget (zMt mL_law) 1134 = some (.iload 6, 2) := by decide +kernel
theorem gL_law_1136 : zget (zMt mL_law) 1136 = some (.if_icmp .eq 5, 3) := by decide +kernel
theorem gL_law_1139 : zget (zMt mL_law) 1139 = some (.iconst 0, 1) := by decide +kernel
theorem gL_law_1140 : zget (zMt mL_law) 1140 = some (.ireturn, 1) := by decide +kernel
theorem gL_law_1141 : zget (zMt mL_law) 1141 = some (.iload 6, 2) := by decide +kernel
theorem gL_law_1143 : zget (zMt mL_law) 1143 = some (.ifCond .ne 22, 3) := by decide +kernel
theorem gL_law_1146 : zget (zMt mL_law) 1146 = some (.aload_n 3, 1) := by decide +kernel
theorem gL_law_1147 : zget (zMt mL_law) 1147 = some (.iconst 0, 1) := by decide +kernel
theorem gL_law_1148 : zget (zMt mL_law) 1148 = some (.laload, 1) := by decide +kernel
theorem gL_law_1149 : zget (zMt mL_law) 1149 = some (.iload 7, 2) := by decide +kernel
theorem gL_law_1151 : zget (zMt mL_law) 1151 = some (.ifCond .eq 7, 3) := by decide +kernel
theorem gL_law_1154 : zget (zMt mL_law) 1154 = some (.lconst 1, 1) := by decide +kernel
theorem gL_law_1155 : zget (zMt mL_law) 1155 = some (.goto 4, 3) := by decide +kernel
theorem gL_law_1158 : zget (zMt mL_law) 1158 = some (.lconst 0, 1) := by decide +kernel
theorem gL_law_1159 : zget (zMt mL_law) 1159 = some (.lcmp, 1) := by decide +kernel
theorem gL_law_1160 : zget (zMt mL_law) 1160 = some (.ifCond .eq 5, 3) := by decide +kernel
theorem gL_law_1163 : zget (zMt mL_law) 1163 = some (.iconst 0, 1) := by decide +kernel
theorem gL_law_1164 : zget (zMt mL_law) 1164 = some (.ireturn, 1) := by decide +kernel
theorem gL_law_1165 : zget (zMt mL_law) 1165 = some (.goto 965, 3) := by decide +kernel
theorem gL_law_1168 : zget (zMt mL_law) 1168 = some (.aload_n 1, 1) := by decide +kernel
theorem gL_law_1169 : zget (zMt mL_law) 1169 = some (.invokevirtual 195, 3) := by decide +kernel
theorem gL_law_1172 : zget (zMt mL_law) 1172 = some (.aload_n 2, 1) := by decide +kernel
theorem gL_law_1173 : zget (zMt mL_law) 1173 = some (.invokevirtual 198, 3) := by decide +kernel
theorem gL_law_1176 : zget (zMt mL_law) 1176 = some (.if_icmp .eq 954, 3) := by decide +kernel
theorem gL_law_1179 : zget (zMt mL_law) 1179 = some (.iconst 0, 1) := by decide +kernel
theorem gL_law_1180 : zget (zMt mL_law) 1180 = some (.ireturn, 1) := by decide +kernel
theorem gL_law_1181 : zget (zMt mL_law) 1181 = some (.aload_n 1, 1) := by decide +kernel
theorem gL_law_1182 : zget (zMt mL_law) 1182 = some (.aload_n 3, 1) := by decide +kernel
theorem gL_law_1183 : zget (zMt mL_law) 1183 = some (.invokestatic 199, 3) := by decide +kernel
theorem gL_law_1186 : zget (zMt mL_law) 1186 = some (.istore 6, 2) := by decide +kernel
theorem gL_law_1188 : zget (zMt mL_law) 1188 = some (.aload_n 2, 1) := by decide +kernel
theorem gL_law_1189 : zget (zMt mL_law) 1189 = some (.invokevirtual 201, 3) := by decide +kernel
theorem gL_law_1192 : zget (zMt mL_law) 1192 = some (.istore 7, 2) := by decide +kernel
theorem gL_law_1194 : zget (zMt mL_law) 1194 = some (.aload_n 2, 1) := by decide +kernel
theorem gL_law_1195 : zget (zMt mL_law) 1195 = some (.invokevirtual 136, 3) := by decide +kernel
theorem gL_law_1198 : zget (zMt mL_law) 1198 = some (.iload 6, 2) := by decide +kernel
theorem gL_law_1200 : zget (zMt mL_law) 1200 = some (.if_icmp .eq 5, 3) := by decide +kernel
theorem gL_law_1203 : zget (zMt mL_law) 1203 = some (.iconst 0, 1) := by decide +kernel
theorem gL_law_1204 : zget (zMt mL_law) 1204 = some (.ireturn, 1) := by decide +kernel
theorem gL_law_1205 : zget (zMt mL_law) 1205 = some (.iload 6, 2) := by decide +kernel
theorem gL_law_1207 : zget (zMt mL_law) 1207 = some (.ifCond .ne 15, 3) := by decide +kernel
theorem gL_law_1210 : zget (zMt mL_law) 1210 = some (.aload_n 3, 1) := by decide +kernel
theorem gL_law_1211 : zget (zMt mL_law) 1211 = some (.iconst 0, 1) := by decide +kernel
theorem gL_law_1212 : zget (zMt mL_law) 1212 = some (.laload, 1) := by decide +kernel
theorem gL_law_1213 : zget (zMt mL_law) 1213 = some (.iload 7, 2) := by decide +kernel
theorem gL_law_1215 : zget (zMt mL_law) 1215 = some (.i2l, 1) := by decide +kernel
theorem gL_law_1216 : zget (zMt mL_law) 1216 = some (.lcmp, 1) := by decide +kernel
theorem gL_law_1217 : zget (zMt mL_law) 1217 = some (.ifCond .eq 5, 3) := by decide +kernel
theorem gL_law_1220 : zget (zMt mL_law) 1220 = some (.iconst 0, 1) := by decide +kernel
theorem gL_law_1221 : zget (zMt mL_law) 1221 = some (.ireturn, 1) := by decide +kernel
theorem gL_law_1222 : zget (zMt mL_law) 1222 = some (.goto 908, 3) := by decide +kernel
theorem gL_law_1225 : zget (zMt mL_law) 1225 = some (.aload_n 1, 1) := by decide +kernel
theorem gL_law_1226 : zget (zMt mL_law) 1226 = some (.aload_n 0, 1) := by decide +kernel
theorem gL_law_1227 : zget (zMt mL_law) 1227 = some (.iload 5, 2) := by decide +kernel
theorem gL_law_1229 : zget (zMt mL_law) 1229 = some (.iconst 1, 1) := by decide +kernel
theorem gL_law_1230 : zget (zMt mL_law) 1230 = some (.iadd, 1) := by decide +kernel
theorem gL_law_1231 : zget (zMt mL_law) 1231 = some (.iaload, 1) := by decide +kernel
theorem gL_law_1232 : zget (zMt mL_law) 1232 = some (.aload_n 3, 1) := by decide +kernel
theorem gL_law_1233 : zget (zMt mL_law) 1233 = some (.invokestatic 202, 3) := by decide +kernel
theorem gL_law_1236 : zget (zMt mL_law) 1236 = some (.istore 6, 2) := by decide +kernel
theorem gL_law_1238 : zget (zMt mL_law) 1238 = some (.aload_n 2, 1) := by decide +kernel
theorem gL_law_1239 : zget (zMt mL_law) 1239 = some (.aload_n 0, 1) := by decide +kernel
theorem gL_law_1240 : zget (zMt mL_law) 1240 = some (.iload 5, 2) := by decide +kernel
theorem gL_law_1242 : zget (zMt mL_law) 1242 = some (.iconst 1, 1) := by decide +kernel
theorem gL_law_1243 : zget (zMt mL_law) 1243 = some (.iadd, 1) := by decide +kernel
theorem gL_law_1244 : zget (zMt mL_law) 1244 = some (.iaload, 1) := by decide +kernel
theorem gL_law_1245 : zget (zMt mL_law) 1245 = some (.invokevirtual 204, 3) := by decide +kernel
theorem gL_law_1248 : zget (zMt mL_law) 1248 = some (.istore 7, 2) := by decide +kernel
theorem gL_law_1250 : zget (zMt mL_law) 1250 = some (.aload_n 2, 1) := by decide +kernel
theorem gL_law_1251 : zget (zMt mL_law) 1251 = some (.invokevirtual 136, 3) := by decide +kernel
theorem gL_law_1254 : zget (zMt mL_law) 1254 = some (.iload 6, 2) := by decide +kernel
theorem gL_law_1256 : zget (zMt mL_law) 1256 = some (.if_icmp .eq 5, 3) := by decide +kernel
theorem gL_law_1259 : zget (zMt mL_law) 1259 = some (.iconst 0, 1) := by decide +kernel
theorem gL_law_1260 : zget (zMt mL_law) 1260 = some (.ireturn, 1) := by decide +kernel
theorem gL_law_1261 : zget (zMt mL_law) 1261 = some (.iload 6, 2) := by decide +kernel
theorem gL_law_1263 : zget (zMt mL_law) 1263 = some (.ifCond .ne 22, 3) := by decide +kernel
theorem gL_law_1266 : zget (zMt mL_law) 1266 = some (.aload_n 3, 1) := by decide +kernel
theorem gL_law_1267 : zget (zMt mL_law) 1267 = some (.iconst 0, 1) := by decide +kernel
theorem gL_law_1268 : zget (zMt mL_law) 1268 = some (.laload, 1) := by decide +kernel
theorem gL_law_1269 : zget (zMt mL_law) 1269 = some (.iload 7, 2) := by decide +kernel
theorem gL_law_1271 : zget (zMt mL_law) 1271 = some (.ifCond .eq 7, 3) := by decide +kernel
theorem gL_law_1274 : zget (zMt mL_law) 1274 = some (.lconst 1, 1) := by decide +kernel
theorem gL_law_1275 : zget (zMt mL_law) 1275 = some (.goto 4, 3) := by decide +kernel
theorem gL_law_1278 : zget (zMt mL_law) 1278 = some (.lconst 0, 1) := by decide +kernel
theorem gL_law_1279 : zget (zMt mL_law) 1279 = some (.lcmp, 1) := by decide +kernel
theorem gL_law_1280 : zget (zMt mL_law) 1280 = some (.ifCond .eq 5, 3) := by decide +kernel
theorem gL_law_1283 : zget (zMt mL_law) 1283 = some (.iconst 0, 1) := by decide +kernel
theorem gL_law_1284 : zget (zMt mL_law) 1284 = some (.ireturn, 1) := by decide +kernel
theorem gL_law_1285 : zget (zMt mL_law) 1285 = some (.goto 845, 3) := by decide +kernel
theorem gL_law_1288 : zget (zMt mL_law) 1288 = some (.aload_n 1, 1) := by decide +kernel
theorem gL_law_1289 : zget (zMt mL_law) 1289 = some (.aload_n 0, 1) := by decide +kernel
theorem gL_law_1290 : zget (zMt mL_law) 1290 = some (.iload 5, 2) := by decide +kernel
theorem gL_law_1292 : zget (zMt mL_law) 1292 = some (.iconst 1, 1) := by decide +kernel
theorem gL_law_1293 : zget (zMt mL_law) 1293 = some (.iadd, 1) := by decide +kernel
theorem gL_law_1294 : zget (zMt mL_law) 1294 = some (.iaload, 1) := by decide +kernel
theorem gL_law_1295 : zget (zMt mL_law) 1295 = some (.aload_n 3, 1) := by decide +kernel
theorem gL_law_1296 : zget (zMt mL_law) 1296 = some (.invokestatic 205, 3) := by decide +kernel
theorem gL_law_1299 : zget (zMt mL_law) 1299 = some (.istore 6, 2) := by decide +kernel
theorem gL_law_1301 : zget (zMt mL_law) 1301 = some (.aload_n 2, 1) := by decide +kernel
theorem gL_law_1302 : zget (zMt mL_law) 1302 = some (.aload_n 0, 1) := by decide +kernel
theorem gL_law_1303 : zget (zMt mL_law) 1303 = some (.iload 5, 2) := by decide +kernel
theorem gL_law_1305 : zget (zMt mL_law) 1305 = some (.iconst 1, 1) := by decide +kernel
theorem gL_law_1306 : zget (zMt mL_law) 1306 = some (.iadd, 1) := by decide +kernel
theorem gL_law_1307 : zget (zMt mL_law) 1307 = some (.iaload, 1) := by decide +kernel
theorem gL_law_1308 : zget (zMt mL_law) 1308 = some (.invokevirtual 207, 3) := by decide +kernel
theorem gL_law_1311 : zget (zMt mL_law) 1311 = some (.istore 7, 2) := by decide +kernel
theorem gL_law_1313 : zget (zMt mL_law) 1313 = some (.aload_n 2, 1) := by decide +kernel
theorem gL_law_1314 : zget (zMt mL_law) 1314 = some (.invokevirtual 136, 3) := by decide +kernel
theorem gL_law_1317 : zget (zMt mL_law) 1317 = some (.iload 6, 2) := by decide +kernel
theorem gL_law_1319 : zget (zMt mL_law) 1319 = some (.if_icmp .eq 5, 3) := by decide +kernel
theorem gL_law_1322 : zget (zMt mL_law) 1322 = some (.iconst 0, 1) := by decide +kernel
theorem gL_law_1323 : zget (zMt mL_law) 1323 = some (.ireturn, 1) := by decide +kernel
theorem gL_law_1324 : zget (zMt mL_law) 1324 = some (.iload 6, 2) := by decide +kernel
theorem gL_law_1326 : zget (zMt mL_law) 1326 = some (.ifCond .ne 15, 3) := by decide +kernel
theorem gL_law_1329 : zget (zMt mL_law) 1329 = some (.aload_n 3, 1) := by decide +kernel
theorem gL_law_1330 : zget (zMt mL_law) 1330 = some (.iconst 0, 1) := by decide +kernel
theorem gL_law_1331 : zget (zMt mL_law) 1331 = some (.laload, 1) := by decide +kernel
theorem gL_law_1332 : zget (zMt mL_law) 1332 = some (.iload 7, 2) := by decide +kernel
theorem gL_law_1334 : zget (zMt mL_law) 1334 = some (.i2l, 1) := by decide +kernel
theorem gL_law_1335 : zget (zMt mL_law) 1335 = some (.lcmp, 1) := by decide +kernel
theorem gL_law_1336 : zget (zMt mL_law) 1336 = some (.ifCond .eq 5, 3) := by decide +kernel
theorem gL_law_1339 : zget (zMt mL_law) 1339 = some (.iconst 0, 1) := by decide +kernel
theorem gL_law_1340 : zget (zMt mL_law) 1340 = some (.ireturn, 1) := by decide +kernel
theorem gL_law_1341 : zget (zMt mL_law) 1341 = some (.goto 789, 3) := by decide +kernel
theorem gL_law_1344 : zget (zMt mL_law) 1344 = some (.aload_n 1, 1) := by decide +kernel
theorem gL_law_1345 : zget (zMt mL_law) 1345 = some (.aload_n 3, 1) := by decide +kernel
theorem gL_law_1346 : zget (zMt mL_law) 1346 = some (.invokestatic 208, 3) := by decide +kernel
theorem gL_law_1349 : zget (zMt mL_law) 1349 = some (.istore 6, 2) := by decide +kernel
theorem gL_law_1351 : zget (zMt mL_law) 1351 = some (.aload_n 2, 1) := by decide +kernel
theorem gL_law_1352 : zget (zMt mL_law) 1352 = some (.invokevirtual 210, 3) := by decide +kernel
theorem gL_law_1355 : zget (zMt mL_law) 1355 = some (.istore 7, 2) := by decide +kernel
theorem gL_law_1357 : zget (zMt mL_law) 1357 = some (.aload_n 2, 1) := by decide +kernel
theorem gL_law_1358 : zget (zMt mL_law) 1358 = some (.invokevirtual 136, 3) := by decide +kernel
theorem gL_law_1361 : zget (zMt mL_law) 1361 = some (.iload 6, 2) := by decide +kernel
theorem gL_law_1363 : zget (zMt mL_law) 1363 = some (.if_icmp .eq 5, 3) := by decide +kernel
theorem gL_law_1366 : zget (zMt mL_law) 1366 = some (.iconst 0, 1) := by decide +kernel
theorem gL_law_1367 : zget (zMt mL_law) 1367 = some (.ireturn, 1) := by decide +kernel
theorem gL_law_1368 : zget (zMt mL_law) 1368 = some (.iload 6, 2) := by decide +kernel
theorem gL_law_1370 : zget (zMt mL_law) 1370 = some (.ifCond .ne 15, 3) := by decide +kernel
theorem gL_law_1373 : zget (zMt mL_law) 1373 = some (.aload_n 3, 1) := by decide +kernel
theorem gL_law_1374 : zget (zMt mL_law) 1374 = some (.iconst 0, 1) := by decide +kernel
theorem gL_law_1375 : zget (zMt mL_law) 1375 = some (.laload, 1) := by decide +kernel
theorem gL_law_1376 : zget (zMt mL_law) 1376 = some (.iload 7, 2) := by decide +kernel
theorem gL_law_1378 : zget (zMt mL_law) 1378 = some (.i2l, 1) := by decide +kernel
theorem gL_law_1379 : zget (zMt mL_law) 1379 = some (.lcmp, 1) := by decide +kernel
theorem gL_law_1380 : zget (zMt mL_law) 1380 = some (.ifCond .eq 5, 3) := by decide +kernel
theorem gL_law_1383 : zget (zMt mL_law) 1383 = some (.iconst 0, 1) := by decide +kernel
theorem gL_law_1384 : zget (zMt mL_law) 1384 = some (.ireturn, 1) := by decide +kernel
theorem gL_law_1385 : zget (zMt mL_law) 1385 = some (.goto 745, 3) := by decide +kernel
theorem gL_law_1388 : zget (zMt mL_law) 1388 = some (.aload_n 1, 1) := by decide +kernel
theorem gL_law_1389 : zget (zMt mL_law) 1389 = some (.aload_n 0, 1) := by decide +kernel
theorem gL_law_1390 : zget (zMt mL_law) 1390 = some (.iload 5, 2) := by decide +kernel
theorem gL_law_1392 : zget (zMt mL_law) 1392 = some (.iconst 1, 1) := by decide +kernel
theorem gL_law_1393 : zget (zMt mL_law) 1393 = some (.iadd, 1) := by decide +kernel
theorem gL_law_1394 : zget (zMt mL_law) 1394 = some (.iaload, 1) := by decide +kernel
theorem gL_law_1395 : zget (zMt mL_law) 1395 = some (.aload_n 0, 1) := by decide +kernel
theorem gL_law_1396 : zget (zMt mL_law) 1396 = some (.iload 5, 2) := by decide +kernel
theorem gL_law_1398 : zget (zMt mL_law) 1398 = some (.iconst 2, 1) := by decide +kernel
theorem gL_law_1399 : zget (zMt mL_law) 1399 = some (.iadd, 1) := by decide +kernel
theorem gL_law_1400 : zget (zMt mL_law) 1400 = some (.iaload, 1) := by decide +kernel
theorem gL_law_1401 : zget (zMt mL_law) 1401 = some (.aload_n 3, 1) := by decide +kernel
theorem gL_law_1402 : zget (zMt mL_law) 1402 = some (.invokestatic 211, 3) := by decide +kernel
theorem gL_law_1405 : zget (zMt mL_law) 1405 = some (.istore 6, 2) := by decide +kernel
theorem gL_law_1407 : zget (zMt mL_law) 1407 = some (.aload_n 2, 1) := by decide +kernel
theorem gL_law_1408 : zget (zMt mL_law) 1408 = some (.aload_n 0, 1) := by decide +kernel
theorem gL_law_1409 : zget (zMt mL_law) 1409 = some (.iload 5, 2) := by decide +kernel
theorem gL_law_1411 : zget (zMt mL_law) 1411 = some (.iconst 1, 1) := by decide +kernel
theorem gL_law_1412 : zget (zMt mL_law) 1412 = some (.iadd, 1) := by decide +kernel
theorem gL_law_1413 : zget (zMt mL_law) 1413 = some (.iaload, 1) := by decide +kernel
theorem gL_law_1414 : zget (zMt mL_law) 1414 = some (.aload_n 0, 1) := by decide +kernel
theorem gL_law_1415 : zget (zMt mL_law) 1415 = some (.iload 5, 2) := by decide +kernel
theorem gL_law_1417 : zget (zMt mL_law) 1417 = some (.iconst 2, 1) := by decide +kernel
theorem gL_law_1418 : zget (zMt mL_law) 1418 = some (.iadd, 1) := by decide +kernel
theorem gL_law_1419 : zget (zMt mL_law) 1419 = some (.iaload, 1) := by decide +kernel
theorem gL_law_1420 : zget (zMt mL_law) 1420 = some (.invokevirtual 213, 3) := by decide +kernel
theorem gL_law_1423 : zget (zMt mL_law) 1423 = some (.istore 7, 2) := by decide +kernel
theorem gL_law_1425 : zget (zMt mL_law) 1425 = some (.aload_n 2, 1) := by decide +kernel
theorem gL_law_1426 : zget (zMt mL_law) 1426 = some (.invokevirtual 136, 3) := by decide +kernel
theorem gL_law_1429 : zget (zMt mL_law) 1429 = some (.iload 6, 2) := by decide +kernel
theorem gL_law_1431 : zget (zMt mL_law) 1431 = some (.if_icmp .eq 5, 3) := by decide +kernel
theorem gL_law_1434 : zget (zMt mL_law) 1434 = some (.iconst 0, 1) := by decide +kernel
theorem gL_law_1435 : zget (zMt mL_law) 1435 = some (.ireturn, 1) := by decide +kernel
theorem gL_law_1436 : zget (zMt mL_law) 1436 = some (.iload 6, 2) := by decide +kernel
theorem gL_law_1438 : zget (zMt mL_law) 1438 = some (.ifCond .ne 15, 3) := by decide +kernel
theorem gL_law_1441 : zget (zMt mL_law) 1441 = some (.aload_n 3, 1) := by decide +kernel
theorem gL_law_1442 : zget (zMt mL_law) 1442 = some (.iconst 0, 1) := by decide +kernel
theorem gL_law_1443 : zget (zMt mL_law) 1443 = some (.laload, 1) := by decide +kernel
theorem gL_law_1444 : zget (zMt mL_law) 1444 = some (.iload 7, 2) := by decide +kernel
theorem gL_law_1446 : zget (zMt mL_law) 1446 = some (.i2l, 1) := by decide +kernel
theorem gL_law_1447 : zget (zMt mL_law) 1447 = some (.lcmp, 1) := by decide +kernel
theorem gL_law_1448 : zget (zMt mL_law) 1448 = some (.ifCond .eq 5, 3) := by decide +kernel
theorem gL_law_1451 : zget (zMt mL_law) 1451 = some (.iconst 0, 1) := by decide +kernel
theorem gL_law_1452 : zget (zMt mL_law) 1452 = some (.ireturn, 1) := by decide +kernel
theorem gL_law_1453 : zget (zMt mL_law) 1453 = some (.goto 677, 3) := by decide +kernel
theorem gL_law_1456 : zget (zMt mL_law) 1456 = some (.aload_n 1, 1) := by decide +kernel
theorem gL_law_1457 : zget (zMt mL_law) 1457 = some (.aload_n 0, 1) := by decide +kernel
theorem gL_law_1458 : zget (zMt mL_law) 1458 = some (.iload 5, 2) := by decide +kernel
theorem gL_law_1460 : zget (zMt mL_law) 1460 = some (.iconst 1, 1) := by decide +kernel
theorem gL_law_1461 : zget (zMt mL_law) 1461 = some (.iadd, 1) := by decide +kernel
theorem gL_law_1462 : zget (zMt mL_law) 1462 = some (.iaload, 1) := by decide +kernel
theorem gL_law_1463 : zget (zMt mL_law) 1463 = some (.aload_n 0, 1) := by decide +kernel
theorem gL_law_1464 : zget (zMt mL_law) 1464 = some (.iload 5, 2) := by decide +kernel
theorem gL_law_1466 : zget (zMt mL_law) 1466 = some (.iconst 2, 1) := by decide +kernel
theorem gL_law_1467 : zget (zMt mL_law) 1467 = some (.iadd, 1) := by decide +kernel
theorem gL_law_1468 : zget (zMt mL_law) 1468 = some (.iaload, 1) := by decide +kernel
theorem gL_law_1469 : zget (zMt mL_law) 1469 = some (.aload_n 3, 1) := by decide +kernel
theorem gL_law_1470 : zget (zMt mL_law) 1470 = some (.invokestatic 214, 3) := by decide +kernel
theorem gL_law_1473 : zget (zMt mL_law) 1473 = some (.istore 6, 2) := by decide +kernel
theorem gL_law_1475 : zget (zMt mL_law) 1475 = some (.aload_n 2, 1) := by decide +kernel
theorem gL_law_1476 : zget (zMt mL_law) 1476 = some (.aload_n 0, 1) := by decide +kernel
theorem gL_law_1477 : zget (zMt mL_law) 1477 = some (.iload 5, 2) := by decide +kernel
theorem gL_law_1479 : zget (zMt mL_law) 1479 = some (.iconst 1, 1) := by decide +kernel
theorem gL_law_1480 : zget (zMt mL_law) 1480 = some (.iadd, 1) := by decide +kernel
theorem gL_law_1481 : zget (zMt mL_law) 1481 = some (.iaload, 1) := by decide +kernel
theorem gL_law_1482 : zget (zMt mL_law) 1482 = some (.aload_n 0, 1) := by decide +kernel
theorem gL_law_1483 : zget (zMt mL_law) 1483 = some (.iload 5, 2) := by decide +kernel
theorem gL_law_1485 : zget (zMt mL_law) 1485 = some (.iconst 2, 1) := by decide +kernel
theorem gL_law_1486 : zget (zMt mL_law) 1486 = some (.iadd, 1) := by decide +kernel
theorem gL_law_1487 : zget (zMt mL_law) 1487 = some (.iaload, 1) := by decide +kernel
theorem gL_law_1488 : zget (zMt mL_law) 1488 = some (.invokevirtual 216, 3) := by decide +kernel
theorem gL_law_1491 : zget (zMt mL_law) 1491 = some (.istore 7, 2) := by decide +kernel
theorem gL_law_1493 : zget (zMt mL_law) 1493 = some (.aload_n 2, 1) := by decide +kernel
theorem gL_law_1494 : zget (zMt mL_law) 1494 = some (.invokevirtual 136, 3) := by decide +kernel
theorem gL_law_1497 : zget (zMt mL_law) 1497 = some (.iload 6, 2) := by decide +kernel
theorem gL_law_1499 : zget (zMt mL_law) 1499 = some (.if_icmp .eq 5, 3) := by decide +kernel
theorem gL_law_1502 : zget (zMt mL_law) 1502 = some (.iconst 0, 1) := by decide +kernel
theorem gL_law_1503 : zget (zMt mL_law) 1503 = some (.ireturn, 1) := by decide +kernel
theorem gL_law_1504 : zget (zMt mL_law) 1504 = some (.iload 6, 2) := by decide +kernel
theorem gL_law_1506 : zget (zMt mL_law) 1506 = some (.ifCond .ne 15, 3) := by decide +kernel
theorem gL_law_1509 : zget (zMt mL_law) 1509 = some (.aload_n 3, 1) := by decide +kernel
theorem gL_law_1510 : zget (zMt mL_law) 1510 = some (.iconst 0, 1) := by decide +kernel
theorem gL_law_1511 : zget (zMt mL_law) 1511 = some (.laload, 1) := by decide +kernel
theorem gL_law_1512 : zget (zMt mL_law) 1512 = some (.iload 7, 2) := by decide +kernel
theorem gL_law_1514 : zget (zMt mL_law) 1514 = some (.i2l, 1) := by decide +kernel
theorem gL_law_1515 : zget (zMt mL_law) 1515 = some (.lcmp, 1) := by decide +kernel
theorem gL_law_1516 : zget (zMt mL_law) 1516 = some (.ifCond .eq 5, 3) := by decide +kernel
theorem gL_law_1519 : zget (zMt mL_law) 1519 = some (.iconst 0, 1) := by decide +kernel
theorem gL_law_1520 : zget (zMt mL_law) 1520 = some (.ireturn, 1) := by decide +kernel
theorem gL_law_1521 : zget (zMt mL_law) 1521 = some (.goto 609, 3) := by decide +kernel
theorem gL_law_1524 : zget (zMt mL_law) 1524 = some (.aload_n 1, 1) := by decide +kernel
theorem gL_law_1525 : zget (zMt mL_law) 1525 = some (.aload_n 3, 1) := by decide +kernel
theorem gL_law_1526 : zget (zMt mL_law) 1526 = some (.invokestatic 217, 3) := by decide +kernel
theorem gL_law_1529 : zget (zMt mL_law) 1529 = some (.istore 6, 2) := by decide +kernel
theorem gL_law_1531 : zget (zMt mL_law) 1531 = some (.aload_n 2, 1) := by decide +kernel
theorem gL_law_1532 : zget (zMt mL_law) 1532 = some (.invokevirtual 219, 3) := by decide +kernel
theorem gL_law_1535 : zget (zMt mL_law) 1535 = some (.istore 7, 2) := by decide +kernel
theorem gL_law_1537 : zget (zMt mL_law) 1537 = some (.aload_n 2, 1) := by decide +kernel
theorem gL_law_1538 : zget (zMt mL_law) 1538 = some (.invokevirtual 136, 3) := by decide +kernel
theorem gL_law_1541 : zget (zMt mL_law) 1541 = some (.iload 6, 2) := by decide +kernel
theorem gL_law_1543 : zget (zMt mL_law) 1543 = some (.if_icmp .eq 5, 3) := by decide +kernel
theorem gL_law_1546 : zget (zMt mL_law) 1546 = some (.iconst 0, 1) := by decide +kernel
theorem gL_law_1547 : zget (zMt mL_law) 1547 = some (.ireturn, 1) := by decide +kernel
theorem gL_law_1548 : zget (zMt mL_law) 1548 = some (.iload 6, 2) := by decide +kernel
theorem gL_law_1550 : zget (zMt mL_law) 1550 = some (.ifCond .ne 15, 3) := by decide +kernel
theorem gL_law_1553 : zget (zMt mL_law) 1553 = some (.aload_n 3, 1) := by decide +kernel
theorem gL_law_1554 : zget (zMt mL_law) 1554 = some (.iconst 0, 1) := by decide +kernel
theorem gL_law_1555 : zget (zMt mL_law) 1555 = some (.laload, 1) := by decide +kernel
theorem gL_law_1556 : zget (zMt mL_law) 1556 = some (.iload 7, 2) := by decide +kernel
theorem gL_law_1558 : zget (zMt mL_law) 1558 = some (.i2l, 1) := by decide +kernel
theorem gL_law_1559 : zget (zMt mL_law) 1559 = some (.lcmp, 1) := by decide +kernel
theorem gL_law_1560 : zget (zMt mL_law) 1560 = some (.ifCond .eq 5, 3) := by decide +kernel
theorem gL_law_1563 : zget (zMt mL_law) 1563 = some (.iconst 0, 1) := by decide +kernel
theorem gL_law_1564 : zget (zMt mL_law) 1564 = some (.ireturn, 1) := by decide +kernel
theorem gL_law_1565 : zget (zMt mL_law) 1565 = some (.goto 565, 3) := by decide +kernel
theorem gL_law_1568 : zget (zMt mL_law) 1568 = some (.aload_n 1, 1) := by decide +kernel
theorem gL_law_1569 : zget (zMt mL_law) 1569 = some (.aload_n 0, 1) := by decide +kernel
theorem gL_law_1570 : zget (zMt mL_law) 1570 = some (.iload 5, 2) := by decide +kernel
theorem gL_law_1572 : zget (zMt mL_law) 1572 = some (.iconst 1, 1) := by decide +kernel
theorem gL_law_1573 : zget (zMt mL_law) 1573 = some (.iadd, 1) := by decide +kernel
theorem gL_law_1574 : zget (zMt mL_law) 1574 = some (.iaload, 1) := by decide +kernel
theorem gL_law_1575 : zget (zMt mL_law) 1575 = some (.aload_n 3, 1) := by decide +kernel
theorem gL_law_1576 : zget (zMt mL_law) 1576 = some (.invokestatic 220, 3) := by decide +kernel
theorem gL_law_1579 : zget (zMt mL_law) 1579 = some (.istore 6, 2) := by decide +kernel
theorem gL_law_1581 : zget (zMt mL_law) 1581 = some (.aload_n 2, 1) := by decide +kernel
theorem gL_law_1582 : zget (zMt mL_law) 1582 = some (.aload_n 0, 1) := by decide +kernel
theorem gL_law_1583 : zget (zMt mL_law) 1583 = some (.iload 5, 2) := by decide +kernel
theorem gL_law_1585 : zget (zMt mL_law) 1585 = some (.iconst 1, 1) := by decide +kernel
theorem gL_law_1586 : zget (zMt mL_law) 1586 = some (.iadd, 1) := by decide +kernel
theorem gL_law_1587 : zget (zMt mL_law) 1587 = some (.iaload, 1) := by decide +kernel
theorem gL_law_1588 : zget (zMt mL_law) 1588 = some (.invokevirtual 222, 3) := by decide +kernel
theorem gL_law_1591 : zget (zMt mL_law) 1591 = some (.istore 7, 2) := by decide +kernel
theorem gL_law_1593 : zget (zMt mL_law) 1593 = some (.aload_n 2, 1) := by decide +kernel
theorem gL_law_1594 : zget (zMt mL_law) 1594 = some (.invokevirtual 136, 3) := by decide +kernel
theorem gL_law_1597 : zget (zMt mL_law) 1597 = some (.iload 6, 2) := by decide +kernel
theorem gL_law_1599 : zget (zMt mL_law) 1599 = some (.if_icmp .eq 5, 3) := by decide +kernel
theorem gL_law_1602 : zget (zMt mL_law) 1602 = some (.iconst 0, 1) := by decide +kernel
theorem gL_law_1603 : zget (zMt mL_law) 1603 = some (.ireturn, 1) := by decide +kernel
theorem gL_law_1604 : zget (zMt mL_law) 1604 = some (.iload 6, 2) := by decide +kernel
theorem gL_law_1606 : zget (zMt mL_law) 1606 = some (.ifCond .ne 15, 3) := by decide +kernel
theorem gL_law_1609 : zget (zMt mL_law) 1609 = some (.aload_n 3, 1) := by decide +kernel
theorem gL_law_1610 : zget (zMt mL_law) 1610 = some (.iconst 0, 1) := by decide +kernel
theorem gL_law_1611 : zget (zMt mL_law) 1611 = some (.laload, 1) := by decide +kernel
theorem gL_law_1612 : zget (zMt mL_law) 1612 = some (.iload 7, 2) := by decide +kernel
theorem gL_law_1614 : zget (zMt mL_law) 1614 = some (.i2l, 1) := by decide +kernel
theorem gL_law_1615 : zget (zMt mL_law) 1615 = some (.lcmp, 1) := by decide +kernel
theorem gL_law_1616 : zget (zMt mL_law) 1616 = some (.ifCond .eq 5, 3) := by decide +kernel
theorem gL_law_1619 : zget (zMt mL_law) 1619 = some (.iconst 0, 1) := by decide +kernel
theorem gL_law_1620 : zget (zMt mL_law) 1620 = some (.ireturn, 1) := by decide +kernel
theorem gL_law_1621 : zget (zMt mL_law) 1621 = some (.goto 509, 3) := by decide +kernel
theorem gL_law_1624 : zget (zMt mL_law) 1624 = some (.aload_n 1, 1) := by decide +kernel
theorem gL_law_1625 : zget (zMt mL_law) 1625 = some (.aload_n 0, 1) := by decide +kernel
theorem gL_law_1626 : zget (zMt mL_law) 1626 = some (.iload 5, 2) := by decide +kernel
theorem gL_law_1628 : zget (zMt mL_law) 1628 = some (.iconst 1, 1) := by decide +kernel
theorem gL_law_1629 : zget (zMt mL_law) 1629 = some (.iadd, 1) := by decide +kernel
theorem gL_law_1630 : zget (zMt mL_law) 1630 = some (.iaload, 1) := by decide +kernel
theorem gL_law_1631 : zget (zMt mL_law) 1631 = some (.aload_n 3, 1) := by decide +kernel
theorem gL_law_1632 : zget (zMt mL_law) 1632 = some (.invokestatic 223, 3) := by decide +kernel
theorem gL_law_1635 : zget (zMt mL_law) 1635 = some (.istore 6, 2) := by decide +kernel
theorem gL_law_1637 : zget (zMt mL_law) 1637 = some (.aload_n 2, 1) := by decide +kernel
theorem gL_law_1638 : zget (zMt mL_law) 1638 = some (.aload_n 0, 1) := by decide +kernel
theorem gL_law_1639 : zget (zMt mL_law) 1639 = some (.iload 5, 2) := by decide +kernel
theorem gL_law_1641 : zget (zMt mL_law) 1641 = some (.iconst 1, 1) := by decide +kernel
theorem gL_law_1642 : zget (zMt mL_law) 1642 = some (.iadd, 1) := by decide +kernel
theorem gL_law_1643 : zget (zMt mL_law) 1643 = some (.iaload, 1) := by decide +kernel
theorem gL_law_1644 : zget (zMt mL_law) 1644 = some (.invokevirtual 225, 3) := by decide +kernel
theorem gL_law_1647 : zget (zMt mL_law) 1647 = some (.istore 7, 2) := by decide +kernel
theorem gL_law_1649 : zget (zMt mL_law) 1649 = some (.aload_n 2, 1) := by decide +kernel
theorem gL_law_1650 : zget (zMt mL_law) 1650 = some (.invokevirtual 136, 3) := by decide +kernel
theorem gL_law_1653 : zget (zMt mL_law) 1653 = some (.iload 6, 2) := by decide +kernel
theorem gL_law_1655 : zget (zMt mL_law) 1655 = some (.if_icmp .eq 5, 3) := by decide +kernel
theorem gL_law_1658 : zget (zMt mL_law) 1658 = some (.iconst 0, 1) := by decide +kernel
theorem gL_law_1659 : zget (zMt mL_law) 1659 = some (.ireturn, 1) := by decide +kernel
theorem gL_law_1660 : zget (zMt mL_law) 1660 = some (.iload 6, 2) := by decide +kernel
theorem gL_law_1662 : zget (zMt mL_law) 1662 = some (.ifCond .ne 15, 3) := by decide +kernel
theorem gL_law_1665 : zget (zMt mL_law) 1665 = some (.aload_n 3, 1) := by decide +kernel
theorem gL_law_1666 : zget (zMt mL_law) 1666 = some (.iconst 0, 1) := by decide +kernel
theorem gL_law_1667 : zget (zMt mL_law) 1667 = some (.laload, 1) := by decide +kernel
theorem gL_law_1668 : zget (zMt mL_law) 1668 = some (.iload 7, 2) := by decide +kernel
theorem gL_law_1670 : zget (zMt mL_law) 1670 = some (.i2l, 1) := by decide +kernel
theorem gL_law_1671 : zget (zMt mL_law) 1671 = some (.lcmp, 1) := by decide +kernel
theorem gL_law_1672 : zget (zMt mL_law) 1672 = some (.ifCond .eq 5, 3) := by decide +kernel
theorem gL_law_1675 : zget (zMt mL_law) 1675 = some (.iconst 0, 1) := by decide +kernel
theorem gL_law_1676 : zget (zMt mL_law) 1676 = some (.ireturn, 1) := by decide +kernel
theorem gL_law_1677 : zget (zMt mL_law) 1677 = some (.goto 453, 3) := by decide +kernel
theorem gL_law_1680 : zget (zMt mL_law) 1680 = some (.aload_n 1, 1) := by decide +kernel
theorem gL_law_1681 : zget (zMt mL_law) 1681 = some (.aload_n 0, 1) := by decide +kernel
theorem gL_law_1682 : zget (zMt mL_law) 1682 = some (.iload 5, 2) := by decide +kernel
theorem gL_law_1684 : zget (zMt mL_law) 1684 = some (.iconst 1, 1) := by decide +kernel
theorem gL_law_1685 : zget (zMt mL_law) 1685 = some (.iadd, 1) := by decide +kernel
theorem gL_law_1686 : zget (zMt mL_law) 1686 = some (.iaload, 1) := by decide +kernel
theorem gL_law_1687 : zget (zMt mL_law) 1687 = some (.aload_n 3, 1) := by decide +kernel
theorem gL_law_1688 : zget (zMt mL_law) 1688 = some (.invokestatic 226, 3) := by decide +kernel
theorem gL_law_1691 : zget (zMt mL_law) 1691 = some (.istore 6, 2) := by decide +kernel
theorem gL_law_1693 : zget (zMt mL_law) 1693 = some (.aload_n 2, 1) := by decide +kernel
theorem gL_law_1694 : zget (zMt mL_law) 1694 = some (.aload_n 0, 1) := by decide +kernel
theorem gL_law_1695 : zget (zMt mL_law) 1695 = some (.iload 5, 2) := by decide +kernel
theorem gL_law_1697 : zget (zMt mL_law) 1697 = some (.iconst 1, 1) := by decide +kernel
theorem gL_law_1698 : zget (zMt mL_law) 1698 = some (.iadd, 1) := by decide +kernel
theorem gL_law_1699 : zget (zMt mL_law) 1699 = some (.iaload, 1) := by decide +kernel
theorem gL_law_1700 : zget (zMt mL_law) 1700 = some (.invokevirtual 228, 3) := by decide +kernel
theorem gL_law_1703 : zget (zMt mL_law) 1703 = some (.lstore 7, 2) := by decide +kernel
theorem gL_law_1705 : zget (zMt mL_law) 1705 = some (.aload_n 2, 1) := by decide +kernel
theorem gL_law_1706 : zget (zMt mL_law) 1706 = some (.invokevirtual 136, 3) := by decide +kernel
theorem gL_law_1709 : zget (zMt mL_law) 1709 = some (.iload 6, 2) := by decide +kernel
theorem gL_law_1711 : zget (zMt mL_law) 1711 = some (.if_icmp .eq 5, 3) := by decide +kernel
theorem gL_law_1714 : zget (zMt mL_law) 1714 = some (.iconst 0, 1) := by decide +kernel
theorem gL_law_1715 : zget (zMt mL_law) 1715 = some (.ireturn, 1) := by decide +kernel
theorem gL_law_1716 : zget (zMt mL_law) 1716 = some (.iload 6, 2) := by decide +kernel
theorem gL_law_1718 : zget (zMt mL_law) 1718 = some (.ifCond .ne 14, 3) := by decide +kernel
theorem gL_law_1721 : zget (zMt mL_law) 1721 = some (.aload_n 3, 1) := by decide +kernel
theorem gL_law_1722 : zget (zMt mL_law) 1722 = some (.iconst 0, 1) := by decide +kernel
theorem gL_law_1723 : zget (zMt mL_law) 1723 = some (.laload, 1) := by decide +kernel
theorem gL_law_1724 : zget (zMt mL_law) 1724 = some (.lload 7, 2) := by decide +kernel
theorem gL_law_1726 : zget (zMt mL_law) 1726 = some (.lcmp, 1) := by decide +kernel
theorem gL_law_1727 : zget (zMt mL_law) 1727 = some (.ifCond .eq 5, 3) := by decide +kernel
theorem gL_law_1730 : zget (zMt mL_law) 1730 = some (.iconst 0, 1) := by decide +kernel
theorem gL_law_1731 : zget (zMt mL_law) 1731 = some (.ireturn, 1) := by decide +kernel
theorem gL_law_1732 : zget (zMt mL_law) 1732 = some (.goto 398, 3) := by decide +kernel
theorem gL_law_1735 : zget (zMt mL_law) 1735 = some (.aload_n 1, 1) := by decide +kernel
theorem gL_law_1736 : zget (zMt mL_law) 1736 = some (.aload 4, 2) := by decide +kernel
theorem gL_law_1738 : zget (zMt mL_law) 1738 = some (.invokestatic 229, 3) := by decide +kernel
theorem gL_law_1741 : zget (zMt mL_law) 1741 = some (.istore 6, 2) := by decide +kernel
theorem gL_law_1743 : zget (zMt mL_law) 1743 = some (.aload_n 2, 1) := by decide +kernel
theorem gL_law_1744 : zget (zMt mL_law) 1744 = some (.invokevirtual 232, 3) := by decide +kernel
theorem gL_law_1747 : zget (zMt mL_law) 1747 = some (.fstore 7, 2) := by decide +kernel
theorem gL_law_1749 : zget (zMt mL_law) 1749 = some (.aload_n 2, 1) := by decide +kernel
theorem gL_law_1750 : zget (zMt mL_law) 1750 = some (.invokevirtual 136, 3) := by decide +kernel
theorem gL_law_1753 : zget (zMt mL_law) 1753 = some (.iload 6, 2) := by decide +kernel
theorem gL_law_1755 : zget (zMt mL_law) 1755 = some (.if_icmp .eq 5, 3) := by decide +kernel
theorem gL_law_1758 : zget (zMt mL_law) 1758 = some (.iconst 0, 1) := by decide +kernel
theorem gL_law_1759 : zget (zMt mL_law) 1759 = some (.ireturn, 1) := by decide +kernel
theorem gL_law_1760 : zget (zMt mL_law) 1760 = some (.iload 6, 2) := by decide +kernel
theorem gL_law_1762 : zget (zMt mL_law) 1762 = some (.ifCond .ne 36, 3) := by decide +kernel
theorem gL_law_1765 : zget (zMt mL_law) 1765 = some (.aload 4, 2) := by decide +kernel
theorem gL_law_1767 : zget (zMt mL_law) 1767 = some (.iconst 0, 1) := by decide +kernel
theorem gL_law_1768 : zget (zMt mL_law) 1768 = some (.daload, 1) := by decide +kernel
theorem gL_law_1769 : zget (zMt mL_law) 1769 = some (.fload 7, 2) := by decide +kernel
theorem gL_law_1771 : zget (zMt mL_law) 1771 = some (.f2d, 1) := by decide +kernel
theorem gL_law_1772 : zget (zMt mL_law) 1772 = some (.dcmp .l, 1) := by decide +kernel
theorem gL_law_1773 : zget (zMt mL_law) 1773 = some (.ifCond .eq 25, 3) := by decide +kernel
theorem gL_law_1776 : zget (zMt mL_law) 1776 = some (.aload 4, 2) := by decide +kernel
theorem gL_law_1778 : zget (zMt mL_law) 1778 = some (.iconst 0, 1) := by decide +kernel
theorem gL_law_1779 : zget (zMt mL_law) 1779 = some (.daload, 1) := by decide +kernel
theorem gL_law_1780 : zget (zMt mL_law) 1780 = some (.aload 4, 2) := by decide +kernel
theorem gL_law_1782 : zget (zMt mL_law) 1782 = some (.iconst 0, 1) := by decide +kernel
theorem gL_law_1783 : zget (zMt mL_law) 1783 = some (.daload, 1) := by decide +kernel
theorem gL_law_1784 : zget (zMt mL_law) 1784 = some (.dcmp .l, 1) := by decide +kernel
theorem gL_law_1785 : zget (zMt mL_law) 1785 = some (.ifCond .eq 11, 3) := by decide +kernel
theorem gL_law_1788 : zget (zMt mL_law) 1788 = some (.fload 7, 2) := by decide +kernel
theorem gL_law_1790 : zget (zMt mL_law) 1790 = some (.fload 7, 2) := by decide +kernel
theorem gL_law_1792 : zget (zMt mL_law) 1792 = some (.fcmp .l, 1) := by decide +kernel
theorem gL_law_1793 : zget (zMt mL_law) 1793 = some (.ifCond .ne 5, 3) := by decide +kernel
theorem gL_law_1796 : zget (zMt mL_law) 1796 = some (.iconst 0, 1) := by decide +kernel
theorem gL_law_1797 : zget (zMt mL_law) 1797 = some (.ireturn, 1) := by decide +kernel
theorem gL_law_1798 : zget (zMt mL_law) 1798 = some (.goto 332, 3) := by decide +kernel
theorem gL_law_1801 : zget (zMt mL_law) 1801 = some (.aload_n 1, 1) := by decide +kernel
theorem gL_law_1802 : zget (zMt mL_law) 1802 = some (.aload_n 0, 1) := by decide +kernel
theorem gL_law_1803 : zget (zMt mL_law) 1803 = some (.iload 5, 2) := by decide +kernel
theorem gL_law_1805 : zget (zMt mL_law) 1805 = some (.iconst 1, 1) := by decide +kernel
theorem gL_law_1806 : zget (zMt mL_law) 1806 = some (.iadd, 1) := by decide +kernel
theorem gL_law_1807 : zget (zMt mL_law) 1807 = some (.iaload, 1) := by decide +kernel
theorem gL_law_1808 : zget (zMt mL_law) 1808 = some (.aload_n 3, 1) := by decide +kernel
theorem gL_law_1809 : zget (zMt mL_law) 1809 = some (.invokestatic 233, 3) := by decide +kernel
theorem gL_law_1812 : zget (zMt mL_law) 1812 = some (.istore 6, 2) := by decide +kernel
theorem gL_law_1814 : zget (zMt mL_law) 1814 = some (.aload_n 2, 1) := by decide +kernel
theorem gL_law_1815 : zget (zMt mL_law) 1815 = some (.aload_n 0, 1) := by decide +kernel
theorem gL_law_1816 : zget (zMt mL_law) 1816 = some (.iload 5, 2) := by decide +kernel
theorem gL_law_1818 : zget (zMt mL_law) 1818 = some (.iconst 1, 1) := by decide +kernel
theorem gL_law_1819 : zget (zMt mL_law) 1819 = some (.iadd, 1) := by decide +kernel
theorem gL_law_1820 : zget (zMt mL_law) 1820 = some (.iaload, 1) := by decide +kernel
theorem gL_law_1821 : zget (zMt mL_law) 1821 = some (.invokevirtual 235, 3) := by decide +kernel
theorem gL_law_1824 : zget (zMt mL_law) 1824 = some (.istore 7, 2) := by decide +kernel
theorem gL_law_1826 : zget (zMt mL_law) 1826 = some (.aload_n 2, 1) := by decide +kernel
theorem gL_law_1827 : zget (zMt mL_law) 1827 = some (.invokevirtual 136, 3) := by decide +kernel
theorem gL_law_1830 : zget (zMt mL_law) 1830 = some (.iload 6, 2) := by decide +kernel
theorem gL_law_1832 : zget (zMt mL_law) 1832 = some (.if_icmp .eq 5, 3) := by decide +kernel
theorem gL_law_1835 : zget (zMt mL_law) 1835 = some (.iconst 0, 1) := by decide +kernel
theorem gL_law_1836 : zget (zMt mL_law) 1836 = some (.ireturn, 1) := by decide +kernel
theorem gL_law_1837 : zget (zMt mL_law) 1837 = some (.iload 6, 2) := by decide +kernel
theorem gL_law_1839 : zget (zMt mL_law) 1839 = some (.ifCond .ne 15, 3) := by decide +kernel
theorem gL_law_1842 : zget (zMt mL_law) 1842 = some (.aload_n 3, 1) := by decide +kernel
theorem gL_law_1843 : zget (zMt mL_law) 1843 = some (.iconst 0, 1) := by decide +kernel
theorem gL_law_1844 : zget (zMt mL_law) 1844 = some (.laload, 1) := by decide +kernel
theorem gL_law_1845 : zget (zMt mL_law) 1845 = some (.iload 7, 2) := by decide +kernel
theorem gL_law_1847 : zget (zMt mL_law) 1847 = some (.i2l, 1) := by decide +kernel
theorem gL_law_1848 : zget (zMt mL_law) 1848 = some (.lcmp, 1) := by decide +kernel
theorem gL_law_1849 : zget (zMt mL_law) 1849 = some (.ifCond .eq 5, 3) := by decide +kernel
theorem gL_law_1852 : zget (zMt mL_law) 1852 = some (.iconst 0, 1) := by decide +kernel
theorem gL_law_1853 : zget (zMt mL_law) 1853 = some (.ireturn, 1) := by decide +kernel
theorem gL_law_1854 : zget (zMt mL_law) 1854 = some (.goto 276, 3) := by decide +kernel
theorem gL_law_1857 : zget (zMt mL_law) 1857 = some (.aload_n 1, 1) := by decide +kernel
theorem gL_law_1858 : zget (zMt mL_law) 1858 = some (.invokevirtual 236, 3) := by decide +kernel
theorem gL_law_1861 : zget (zMt mL_law) 1861 = some (.aload_n 2, 1) := by decide +kernel
theorem gL_law_1862 : zget (zMt mL_law) 1862 = some (.invokevirtual 239, 3) := by decide +kernel
theorem gL_law_1865 : zget (zMt mL_law) 1865 = some (.if_icmp .eq 265, 3) := by decide +kernel
theorem gL_law_1868 : zget (zMt mL_law) 1868 = some (.iconst 0, 1) := by decide +kernel
theorem gL_law_1869 : zget (zMt mL_law) 1869 = some (.ireturn, 1) := by decide +kernel
theorem gL_law_1870 : zget (zMt mL_law) 1870 = some (.aload_n 1, 1) := by decide +kernel
theorem gL_law_1871 : zget (zMt mL_law) 1871 = some (.invokevirtual 240, 3) := by decide +kernel
theorem gL_law_1874 : zget (zMt mL_law) 1874 = some (.aload_n 2, 1) := by decide +kernel
theorem gL_law_1875 : zget (zMt mL_law) 1875 = some (.invokevirtual 244, 3) := by decide +kernel
theorem gL_law_1878 : zget (zMt mL_law) 1878 = some (.if_icmp .eq 252, 3) := by decide +kernel
theorem gL_law_1881 : zget (zMt mL_law) 1881 = some (.iconst 0, 1) := by decide +kernel
theorem gL_law_1882 : zget (zMt mL_law) 1882 = some (.ireturn, 1) := by decide +kernel
theorem gL_law_1883 : zget (zMt mL_law) 1883 = some (.aload_n 1, 1) := by decide +kernel
theorem gL_law_1884 : zget (zMt mL_law) 1884 = some (.invokevirtual 245, 3) := by decide +kernel
theorem gL_law_1887 : zget (zMt mL_law) 1887 = some (.aload_n 2, 1) := by decide +kernel
theorem gL_law_1888 : zget (zMt mL_law) 1888 = some (.invokevirtual 248, 3) := by decide +kernel
theorem gL_law_1891 : zget (zMt mL_law) 1891 = some (.if_icmp .eq 239, 3) := by decide +kernel
theorem gL_law_1894 : zget (zMt mL_law) 1894 = some (.iconst 0, 1) := by decide +kernel
theorem gL_law_1895 : zget (zMt mL_law) 1895 = some (.ireturn, 1) := by decide +kernel
theorem gL_law_1896 : zget (zMt mL_law) 1896 = some (.aload_n 1, 1) := by decide +kernel
theorem gL_law_1897 : zget (zMt mL_law) 1897 = some (.aload_n 3, 1) := by decide +kernel
theorem gL_law_1898 : zget (zMt mL_law) 1898 = some (.invokestatic 249, 3) := by decide +kernel
theorem gL_law_1901 : zget (zMt mL_law) 1901 = some (.istore 6, 2) := by decide +kernel
theorem gL_law_1903 : zget (zMt mL_law) 1903 = some (.aload_n 2, 1) := by decide +kernel
theorem gL_law_1904 : zget (zMt mL_law) 1904 = some (.invokevirtual 251, 3) := by decide +kernel
theorem gL_law_1907 : zget (zMt mL_law) 1907 = some (.istore 7, 2) := by decide +kernel
theorem gL_law_1909 : zget (zMt mL_law) 1909 = some (.aload_n 2, 1) := by decide +kernel
theorem gL_law_1910 : zget (zMt mL_law) 1910 = some (.invokevirtual 136, 3) := by decide +kernel
theorem gL_law_1913 : zget (zMt mL_law) 1913 = some (.iload 6, 2) := by decide +kernel
theorem gL_law_1915 : zget (zMt mL_law) 1915 = some (.if_icmp .eq 5, 3) := by decide +kernel
theorem gL_law_1918 : zget (zMt mL_law) 1918 = some (.iconst 0, 1) := by decide +kernel
theorem gL_law_1919 : zget (zMt mL_law) 1919 = some (.ireturn, 1) := by decide +kernel
theorem gL_law_1920 : zget (zMt mL_law) 1920 = some (.iload 6, 2) := by decide +kernel
theorem gL_law_1922 : zget (zMt mL_law) 1922 = some (.ifCond .ne 15, 3) := by decide +kernel
theorem gL_law_1925 : zget (zMt mL_law) 1925 = some (.aload_n 3, 1) := by decide +kernel
theorem gL_law_1926 : zget (zMt mL_law) 1926 = some (.iconst 0, 1) := by decide +kernel
theorem gL_law_1927 : zget (zMt mL_law) 1927 = some (.laload, 1) := by decide +kernel
theorem gL_law_1928 : zget (zMt mL_law) 1928 = some (.iload 7, 2) := by decide +kernel
theorem gL_law_1930 : zget (zMt mL_law) 1930 = some (.i2l, 1) := by decide +kernel
theorem gL_law_1931 : zget (zMt mL_law) 1931 = some (.lcmp, 1) := by decide +kernel
theorem gL_law_1932 : zget (zMt mL_law) 1932 = some (.ifCond .eq 5, 3) := by decide +kernel
theorem gL_law_1935 : zget (zMt mL_law) 1935 = some (.iconst 0, 1) := by decide +kernel
theorem gL_law_1936 : zget (zMt mL_law) 1936 = some (.ireturn, 1) := by decide +kernel
theorem gL_law_1937 : zget (zMt mL_law) 1937 = some (.goto 193, 3) := by decide +kernel
theorem gL_law_1940 : zget (zMt mL_law) 1940 = some (.aload_n 1, 1) := by decide +kernel
theorem gL_law_1941 : zget (zMt mL_law) 1941 = some (.aload_n 0, 1) := by decide +kernel
theorem gL_law_1942 : zget (zMt mL_law) 1942 = some (.iload 5, 2) := by decide +kernel
theorem gL_law_1944 : zget (zMt mL_law) 1944 = some (.iconst 1, 1) := by decide +kernel
theorem gL_law_1945 : zget (zMt mL_law) 1945 = some (.iadd, 1) := by decide +kernel
theorem gL_law_1946 : zget (zMt mL_law) 1946 = some (.iaload, 1) := by decide +kernel
theorem gL_law_1947 : zget (zMt mL_law) 1947 = some (.aload_n 3, 1) := by decide +kernel
theorem gL_law_1948 : zget (zMt mL_law) 1948 = some (.invokestatic 252, 3) := by decide +kernel
theorem gL_law_1951 : zget (zMt mL_law) 1951 = some (.istore 6, 2) := by decide +kernel
theorem gL_law_1953 : zget (zMt mL_law) 1953 = some (.aload_n 2, 1) := by decide +kernel
theorem gL_law_1954 : zget (zMt mL_law) 1954 = some (.aload_n 0, 1) := by decide +kernel
theorem gL_law_1955 : zget (zMt mL_law) 1955 = some (.iload 5, 2) := by decide +kernel
theorem gL_law_1957 : zget (zMt mL_law) 1957 = some (.iconst 1, 1) := by decide +kernel
theorem gL_law_1958 : zget (zMt mL_law) 1958 = some (.iadd, 1) := by decide +kernel
theorem gL_law_1959 : zget (zMt mL_law) 1959 = some (.iaload, 1) := by decide +kernel
theorem gL_law_1960 : zget (zMt mL_law) 1960 = some (.invokevirtual 254, 3) := by decide +kernel
theorem gL_law_1963 : zget (zMt mL_law) 1963 = some (.istore 7, 2) := by decide +kernel
theorem gL_law_1965 : zget (zMt mL_law) 1965 = some (.aload_n 2, 1) := by decide +kernel
theorem gL_law_1966 : zget (zMt mL_law) 1966 = some (.invokevirtual 136, 3) := by decide +kernel
theorem gL_law_1969 : zget (zMt mL_law) 1969 = some (.iload 6, 2) := by decide +kernel
theorem gL_law_1971 : zget (zMt mL_law) 1971 = some (.if_icmp .eq 5, 3) := by decide +kernel
theorem gL_law_1974 : zget (zMt mL_law) 1974 = some (.iconst 0, 1) := by decide +kernel
theorem gL_law_1975 : zget (zMt mL_law) 1975 = some (.ireturn, 1) := by decide +kernel
theorem gL_law_1976 : zget (zMt mL_law) 1976 = some (.iload 6, 2) := by decide +kernel
theorem gL_law_1978 : zget (zMt mL_law) 1978 = some (.ifCond .ne 15, 3) := by decide +kernel
theorem gL_law_1981 : zget (zMt mL_law) 1981 = some (.aload_n 3, 1) := by decide +kernel
theorem gL_law_1982 : zget (zMt mL_law) 1982 = some (.iconst 0, 1) := by decide +kernel
theorem gL_law_1983 : zget (zMt mL_law) 1983 = some (.laload, 1) := by decide +kernel
theorem gL_law_1984 : zget (zMt mL_law) 1984 = some (.iload 7, 2) := by decide +kernel
theorem gL_law_1986 : zget (zMt mL_law) 1986 = some (.i2l, 1) := by decide +kernel
theorem gL_law_1987 : zget (zMt mL_law) 1987 = some (.lcmp, 1) := by decide +kernel
theorem gL_law_1988 : zget (zMt mL_law) 1988 = some (.ifCond .eq 5, 3) := by decide +kernel
theorem gL_law_1991 : zget (zMt mL_law) 1991 = some (.iconst 0, 1) := by decide +kernel
theorem gL_law_1992 : zget (zMt mL_law) 1992 = some (.ireturn, 1) := by decide +kernel
theorem gL_law_1993 : zget (zMt mL_law) 1993 = some (.goto 137, 3) := by decide +kernel
theorem gL_law_1996 : zget (zMt mL_law) 1996 = some (.aload_n 1, 1) := by decide +kernel
theorem gL_law_1997 : zget (zMt mL_law) 1997 = some (.aload_n 0, 1) := by decide +kernel
theorem gL_law_1998 : zget (zMt mL_law) 1998 = some (.iload 5, 2) := by decide +kernel
theorem gL_law_2000 : zget (zMt mL_law) 2000 = some (.iconst 1, 1) := by decide +kernel
theorem gL_law_2001 : zget (zMt mL_law) 2001 = some (.iadd, 1) := by decide +kernel
theorem gL_law_2002 : zget (zMt mL_law) 2002 = some (.iaload, 1) := by decide +kernel
theorem gL_law_2003 : zget (zMt mL_law) 2003 = some (.aload_n 3, 1) := by decide +kernel
theorem gL_law_2004 : zget (zMt mL_law) 2004 = some (.invokestatic 255, 3) := by decide +kernel
theorem gL_law_2007 : zget (zMt mL_law) 2007 = some (.istore 6, 2) := by decide +kernel
theorem gL_law_2009 : zget (zMt mL_law) 2009 = some (.aload_n 2, 1) := by decide +kernel
theorem gL_law_2010 : zget (zMt mL_law) 2010 = some (.aload_n 0, 1) := by decide +kernel
theorem gL_law_2011 : zget (zMt mL_law) 2011 = some (.iload 5, 2) := by decide +kernel
theorem gL_law_2013 : zget (zMt mL_law) 2013 = some (.iconst 1, 1) := by decide +kernel
theorem gL_law_2014 : zget (zMt mL_law) 2014 = some (.iadd, 1) := by decide +kernel
theorem gL_law_2015 : zget (zMt mL_law) 2015 = some (.iaload, 1) := by decide +kernel
theorem gL_law_2016 : zget (zMt mL_law) 2016 = some (.invokevirtual 257, 3) := by decide +kernel
theorem gL_law_2019 : zget (zMt mL_law) 2019 = some (.istore 7, 2) := by decide +kernel
theorem gL_law_2021 : zget (zMt mL_law) 2021 = some (.aload_n 2, 1) := by decide +kernel
theorem gL_law_2022 : zget (zMt mL_law) 2022 = some (.invokevirtual 136, 3) := by decide +kernel
theorem gL_law_2025 : zget (zMt mL_law) 2025 = some (.iload 6, 2) := by decide +kernel
theorem gL_law_2027 : zget (zMt mL_law) 2027 = some (.if_icmp .eq 5, 3) := by decide +kernel
theorem gL_law_2030 : zget (zMt mL_law) 2030 = some (.iconst 0, 1) := by decide +kernel
theorem gL_law_2031 : zget (zMt mL_law) 2031 = some (.ireturn, 1) := by decide +kernel
theorem gL_law_2032 : zget (zMt mL_law) 2032 = some (.iload 6, 2) := by decide +kernel
theorem gL_law_2034 : zget (zMt mL_law) 2034 = some (.ifCond .ne 15, 3) := by decide +kernel
theorem gL_law_2037 : zget (zMt mL_law) 2037 = some (.aload_n 3, 1) := by decide +kernel
theorem gL_law_2038 : zget (zMt mL_law) 2038 = some (.iconst 0, 1) := by decide +kernel
theorem gL_law_2039 : zget (zMt mL_law) 2039 = some (.laload, 1) := by decide +kernel
theorem gL_law_2040 : zget (zMt mL_law) 2040 = some (.iload 7, 2) := by decide +kernel
theorem gL_law_2042 : zget (zMt mL_law) 2042 = some (.i2l, 1) := by decide +kernel
theorem gL_law_2043 : zget (zMt mL_law) 2043 = some (.lcmp, 1) := by decide +kernel
theorem gL_law_2044 : zget (zMt mL_law) 2044 = some (.ifCond .eq 5, 3) := by decide +kernel
theorem gL_law_2047 : zget (zMt mL_law) 2047 = some (.iconst 0, 1) := by decide +kernel
theorem gL_law_2048 : zget (zMt mL_law) 2048 = some (.ireturn, 1) := by decide +kernel
theorem gL_law_2049 : zget (zMt mL_law) 2049 = some (.goto 81, 3) := by decide +kernel
theorem gL_law_2052 : zget (zMt mL_law) 2052 = some (.aload_n 1, 1) := by decide +kernel
theorem gL_law_2053 : zget (zMt mL_law) 2053 = some (.aload 4, 2) := by decide +kernel
theorem gL_law_2055 : zget (zMt mL_law) 2055 = some (.invokestatic 258, 3) := by decide +kernel
theorem gL_law_2058 : zget (zMt mL_law) 2058 = some (.istore 6, 2) := by decide +kernel
theorem gL_law_2060 : zget (zMt mL_law) 2060 = some (.aload_n 2, 1) := by decide +kernel
theorem gL_law_2061 : zget (zMt mL_law) 2061 = some (.invokevirtual 260, 3) := by decide +kernel
theorem gL_law_2064 : zget (zMt mL_law) 2064 = some (.dstore 7, 2) := by decide +kernel
theorem gL_law_2066 : zget (zMt mL_law) 2066 = some (.aload_n 2, 1) := by decide +kernel
theorem gL_law_2067 : zget (zMt mL_law) 2067 = some (.invokevirtual 136, 3) := by decide +kernel
theorem gL_law_2070 : zget (zMt mL_law) 2070 = some (.iload 6, 2) := by decide +kernel
theorem gL_law_2072 : zget (zMt mL_law) 2072 = some (.if_icmp .eq 5, 3) := by decide +kernel
theorem gL_law_2075 : zget (zMt mL_law) 2075 = some (.iconst 0, 1) := by decide +kernel
theorem gL_law_2076 : zget (zMt mL_law) 2076 = some (.ireturn, 1) := by decide +kernel
theorem gL_law_2077 : zget (zMt mL_law) 2077 = some (.iload 6, 2) := by decide +kernel
theorem gL_law_2079 : zget (zMt mL_law) 2079 = some (.ifCond .ne 35, 3) := by decide +kernel
theorem gL_law_2082 : zget (zMt mL_law) 2082 = some (.aload 4, 2) := by decide +kernel
theorem gL_law_2084 : zget (zMt mL_law) 2084 = some (.iconst 0, 1) := by decide +kernel
theorem gL_law_2085 : zget (zMt mL_law) 2085 = some (.daload, 1) := by decide +kernel
theorem gL_law_2086 : zget (zMt mL_law) 2086 = some (.dload 7, 2) := by decide +kernel
theorem gL_law_2088 : zget (zMt mL_law) 2088 = some (.dcmp .l, 1) := by decide +kernel
theorem gL_law_2089 : zget (zMt mL_law) 2089 = some (.ifCond .eq 25, 3) := by decide +kernel
theorem gL_law_2092 : zget (zMt mL_law) 2092 = some (.aload 4, 2) := by decide +kernel
theorem gL_law_2094 : zget (zMt mL_law) 2094 = some (.iconst 0, 1) := by decide +kernel
theorem gL_law_2095 : zget (zMt mL_law) 2095 = some (.daload, 1) := by decide +kernel
theorem gL_law_2096 : zget (zMt mL_law) 2096 = some (.aload 4, 2) := by decide +kernel
theorem gL_law_2098 : zget (zMt mL_law) 2098 = some (.iconst 0, 1) := by decide +kernel
theorem gL_law_2099 : zget (zMt mL_law) 2099 = some (.daload, 1) := by decide +kernel
theorem gL_law_2100 : zget (zMt mL_law) 2100 = some (.dcmp .l, 1) := by decide +kernel
theorem gL_law_2101 : zget (zMt mL_law) 2101 = some (.ifCond .eq 11, 3) := by decide +kernel
theorem gL_law_2104 : zget (zMt mL_law) 2104 = some (.dload 7, 2) := by decide +kernel
theorem gL_law_2106 : zget (zMt mL_law) 2106 = some (.dload 7, 2) := by decide +kernel
theorem gL_law_2108 : zget (zMt mL_law) 2108 = some (.dcmp .l, 1) := by decide +kernel
theorem gL_law_2109 : zget (zMt mL_law) 2109 = some (.ifCond .ne 5, 3) := by decide +kernel
theorem gL_law_2112 : zget (zMt mL_law) 2112 = some (.iconst 0, 1) := by decide +kernel
theorem gL_law_2113 : zget (zMt mL_law) 2113 = some (.ireturn, 1) := by decide +kernel
theorem gL_law_2114 : zget (zMt mL_law) 2114 = some (.goto 16, 3) := by decide +kernel
theorem gL_law_2117 : zget (zMt mL_law) 2117 = some (.aload_n 1, 1) := by decide +kernel
theorem gL_law_2118 : zget (zMt mL_law) 2118 = some (.invokevirtual 261, 3) := by decide +kernel
theorem gL_law_2121 : zget (zMt mL_law) 2121 = some (.aload_n 2, 1) := by decide +kernel
theorem gL_law_2122 : zget (zMt mL_law) 2122 = some (.invokevirtual 264, 3) := by decide +kernel
theorem gL_law_2125 : zget (zMt mL_law) 2125 = some (.if_icmp .eq 5, 3) := by decide +kernel
theorem gL_law_2128 : zget (zMt mL_law) 2128 = some (.iconst 0, 1) := by decide +kernel
theorem gL_law_2129 : zget (zMt mL_law) 2129 = some (.ireturn, 1) := by decide +kernel
theorem gL_law_2130 : zget (zMt mL_law) 2130 = some (.iinc 5 4, 3) := by decide +kernel
theorem gL_law_2133 : zget (zMt mL_law) 2133 = some (.goto (-2105), 3) := by decide +kernel
theorem gL_law_2136 : zget (zMt mL_law) 2136 = some (.iconst 1, 1) := by decide +kernel
theorem gL_law_2137 : zget (zMt mL_law) 2137 = some (.ireturn, 1) := by decide +kernel
