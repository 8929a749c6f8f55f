theorem dL_law_0 : decode code 0 = .ok (.new 7, 3) := by decide +kernel
theorem dL_law_3 : decode code 3 = .ok (.dup, 1) := by decide +kernel
theorem dL_law_4 : decode code 4 = .ok (.invokespecial 9, 3) := by decide +kernel
theorem dL_law_7 : decode code 7 = .ok (.astore_n 1, 1) := by decide +kernel
theorem dL_law_8 : decode code 8 = .ok (.new 10, 3) := by decide +kernel
theorem dL_law_11 : decode code 11 = .ok (.dup, 1) := by decide +kernel
theorem dL_law_12 : decode code 12 = .ok (.invokespecial 12, 3) := by decide +kernel
theorem dL_law_15 : decode code 15 = .ok (.astore_n 2, 1) := by decide +kernel
theorem dL_law_16 : decode code 16 = .ok (.iconst 0, 1) := by decide +kernel
theorem dL_law_17 : decode code 17 = .ok (.istore_n 3, 1) := by decide +kernel
theorem dL_law_18 : decode code 18 = .ok (.iload_n 3, 1) := by decide +kernel
theorem dL_law_19 : decode code 19 = .ok (.aload_n 0, 1) := by decide +kernel
theorem dL_law_20 : decode code 20 = .ok (.arraylength, 1) := by decide +kernel
theorem dL_law_21 : decode code 21 = .ok (.bipush 6, 2) := by decide +kernel
theorem dL_law_23 : decode code 23 = .ok (.isub, 1) := by decide +kernel
theorem dL_law_24 : decode code 24 = .ok (.if_icmp .gt 1391, 3) := by decide +kernel
theorem dL_law_27 : decode code 27 = .ok (.aload_n 0, 1) := by decide +kernel
theorem dL_law_28 : decode code 28 = .ok (.iload_n 3, 1) := by decide +kernel
theorem dL_law_29 : decode code 29 = .ok (.iaload, 1) := by decide +kernel
theorem dL_law_30 : decode code 30 = .ok (.bipush 63, 2) := by decide +kernel
theorem dL_law_32 : decode code 32 = .ok (.iand, 1) := by decide +kernel
theorem dL_law_33 : decode code 33 = .ok (.tableswitch 1376 0 38 #[171, 194, 237, 296, 339, 362, 395, 438, 461, 484, 547, 570, 593, 616, 649, 682, 715, 748, 781, 814, 847, 870, 903, 926, 959, 992, 1015, 1038, 1071, 1094, 1143, 1166, 1189, 1212, 1255, 1278, 1301, 1314, 1353], 171) := by decide +kernel
theorem dL_law_204 : decode code 204 = .ok (.aload_n 1, 1) := by decide +kernel
theorem dL_law_205 : decode code 205 = .ok (.aload_n 0, 1) := by decide +kernel
theorem dL_law_206 : decode code 206 = .ok (.iload_n 3, 1) := by decide +kernel
theorem dL_law_207 : decode code 207 = .ok (.iconst 1, 1) := by decide +kernel
theorem dL_law_208 : decode code 208 = .ok (.iadd, 1) := by decide +kernel
theorem dL_law_209 : decode code 209 = .ok (.iaload, 1) := by decide +kernel
theorem dL_law_210 : decode code 210 = .ok (.invokevirtual 13, 3) := by decide +kernel
theorem dL_law_213 : decode code 213 = .ok (.aload_n 2, 1) := by decide +kernel
theorem dL_law_214 : decode code 214 = .ok (.aload_n 0, 1) := by decide +kernel
theorem dL_law_215 : decode code 215 = .ok (.iload_n 3, 1) := by decide +kernel
theorem dL_law_216 : decode code 216 = .ok (.iconst 1, 1) := by decide +kernel
theorem dL_law_217 : decode code 217 = .ok (.iadd, 1) := by decide +kernel
theorem dL_law_218 : decode code 218 = .ok (.iaload, 1) := by decide +kernel
theorem dL_law_219 : decode code 219 = .ok (.invokevirtual 17, 3) := by decide +kernel
theorem dL_law_222 : decode code 222 = .ok (.if_icmp .eq 1187, 3) := by decide +kernel
theorem dL_law_225 : decode code 225 = .ok (.iconst 0, 1) := by decide +kernel
theorem dL_law_226 : decode code 226 = .ok (.ireturn, 1) := by decide +kernel
theorem dL_law_227 : decode code 227 = .ok (.aload_n 1, 1) := by decide +kernel
theorem dL_law_228 : decode code 228 = .ok (.aload_n 0, 1) := by decide +kernel
theorem dL_law_229 : decode code 229 = .ok (.iload_n 3, 1) := by decide +kernel
theorem dL_law_230 : decode code 230 = .ok (.iconst 1, 1) := by decide +kernel
theorem dL_law_231 : decode code 231 = .ok (.iadd, 1) := by decide +kernel
theorem dL_law_232 : decode code 232 = .ok (.iaload, 1) := by decide +kernel
theorem dL_law_233 : decode code 233 = .ok (.aload_n 0, 1) := by decide +kernel
theorem dL_law_234 : decode code 234 = .ok (.iload_n 3, 1) := by decide +kernel
theorem dL_law_235 : decode code 235 = .ok (.iconst 2, 1) := by decide +kernel
theorem dL_law_236 : decode code 236 = .ok (.iadd, 1) := by decide +kernel
theorem dL_law_237 : decode code 237 = .ok (.iaload, 1) := by decide +kernel
theorem dL_law_238 : decode code 238 = .ok (.aload_n 0, 1) := by decide +kernel
theorem dL_law_239 : decode code 239 = .ok (.iload_n 3, 1) := by decide +kernel
theorem dL_law_240 : decode code 240 = .ok (.iconst 3, 1) := by decide +kernel
theorem dL_law_241 : decode code 241 = .ok (.iadd, 1) := by decide +kernel
theorem dL_law_242 : decode code 242 = .ok (.iaload, 1) := by decide +kernel
theorem dL_law_243 : decode code 243 = .ok (.invokevirtual 18, 3) := by decide +kernel
theorem dL_law_246 : decode code 246 = .ok (.aload_n 2, 1) := by decide +kernel
theorem dL_law_247 : decode code 247 = .ok (.aload_n 0, 1) := by decide +kernel
theorem dL_law_248 : decode code 248 = .ok (.iload_n 3, 1) := by decide +kernel
theorem dL_law_249 : decode code 249 = .ok (.iconst 1, 1) := by decide +kernel
theorem dL_law_250 : decode code 250 = .ok (.iadd, 1) := by decide +kernel
theorem dL_law_251 : decode code 251 = .ok (.iaload, 1) := by decide +kernel
theorem dL_law_252 : decode code 252 = .ok (.aload_n 0, 1) := by decide +kernel
theorem dL_law_253 : decode code 253 = .ok (.iload_n 3, 1) := by decide +kernel
theorem dL_law_254 : decode code 254 = .ok (.iconst 2, 1) := by decide +kernel
theorem dL_law_255 : decode code 255 = .ok (.iadd, 1) := by decide +kernel
theorem dL_law_256 : decode code 256 = .ok (.iaload, 1) := by decide +kernel
theorem dL_law_257 : decode code 257 = .ok (.aload_n 0, 1) := by decide +kernel
theorem dL_law_258 : decode code 258 = .ok (.iload_n 3, 1) := by decide +kernel
theorem dL_law_259 : decode code 259 = .ok (.iconst 3, 1) := by decide +kernel
theorem dL_law_260 : decode code 260 = .ok (.iadd, 1) := by decide +kernel
theorem dL_law_261 : decode code 261 = .ok (.iaload, 1) := by decide +kernel
theorem dL_law_262 : decode code 262 = .ok (.invokevirtual 22, 3) := by decide +kernel
theorem dL_law_265 : decode code 265 = .ok (.if_icmp .eq 1144, 3) := by decide +kernel
theorem dL_law_268 : decode code 268 = .ok (.iconst 0, 1) := by decide +kernel
theorem dL_law_269 : decode code 269 = .ok (.ireturn, 1) := by decide +kernel
theorem dL_law_270 : decode code 270 = .ok (.aload_n 1, 1) := by decide +kernel
theorem dL_law_271 : decode code 271 = .ok (.aload_n 0, 1) := by decide +kernel
theorem dL_law_272 : decode code 272 = .ok (.iload_n 3, 1) := by decide +kernel
theorem dL_law_273 : decode code 273 = .ok (.iconst 1, 1) := by decide +kernel
theorem dL_law_274 : decode code 274 = .ok (.iadd, 1) := by decide +kernel
theorem dL_law_275 : decode code 275 = .ok (.iaload, 1) := by decide +kernel
theorem dL_law_276 : decode code 276 = .ok (.aload_n 0, 1) := by decide +kernel
theorem dL_law_277 : decode code 277 = .ok (.iload_n 3, 1) := by decide +kernel
theorem dL_law_278 : decode code 278 = .ok (.iconst 2, 1) := by decide +kernel
theorem dL_law_279 : decode code 279 = .ok (.iadd, 1) := by decide +kernel
theorem dL_law_280 : decode code 280 = .ok (.iaload, 1) := by decide +kernel
theorem dL_law_281 : decode code 281 = .ok (.aload_n 0, 1) := by decide +kernel
theorem dL_law_282 : decode code 282 = .ok (.iload_n 3, 1) := by decide +kernel
theorem dL_law_283 : decode code 283 = .ok (.iconst 3, 1) := by decide +kernel
theorem dL_law_284 : decode code 284 = .ok (.iadd, 1) := by decide +kernel
theorem dL_law_285 : decode code 285 = .ok (.iaload, 1) := by decide +kernel
theorem dL_law_286 : decode code 286 = .ok (.ifCond .eq 7, 3) := by decide +kernel
theorem dL_law_289 : decode code 289 = .ok (.iconst 1, 1) := by decide +kernel
theorem dL_law_290 : decode code 290 = .ok (.goto 4, 3) := by decide +kernel
theorem dL_law_293 : decode code 293 = .ok (.iconst 0, 1) := by decide +kernel
theorem dL_law_294 : decode code 294 = .ok (.invokevirtual 23, 3) := by decide +kernel
theorem dL_law_297 : decode code 297 = .ok (.aload_n 2, 1) := by decide +kernel
theorem dL_law_298 : decode code 298 = .ok (.aload_n 0, 1) := by decide +kernel
theorem dL_law_299 : decode code 299 = .ok (.iload_n 3, 1) := by decide +kernel
theorem dL_law_300 : decode code 300 = .ok (.iconst 1, 1) := by decide +kernel
theorem dL_law_301 : decode code 301 = .ok (.iadd, 1) := by decide +kernel
theorem dL_law_302 : decode code 302 = .ok (.iaload, 1) := by decide +kernel
theorem dL_law_303 : decode code 303 = .ok (.aload_n 0, 1) := by decide +kernel
theorem dL_law_304 : decode code 304 = .ok (.iload_n 3, 1) := by decide +kernel
theorem dL_law_305 : decode code 305 = .ok (.iconst 2, 1) := by decide +kernel
theorem dL_law_306 : decode code 306 = .ok (.iadd, 1) := by decide +kernel
theorem dL_law_307 : decode code 307 = .ok (.iaload, 1) := by decide +kernel
theorem dL_law_308 : decode code 308 = .ok (.aload_n 0, 1) := by decide +kernel
theorem dL_law_309 : decode code 309 = .ok (.iload_n 3, 1) := by decide +kernel
theorem dL_law_310 : decode code 310 = .ok (.iconst 3, 1) := by decide +kernel
theorem dL_law_311 : decode code 311 = .ok (.iadd, 1) := by decide +kernel
theorem dL_law_312 : decode code 312 = .ok (.iaload, 1) := by decide +kernel
theorem dL_law_313 : decode code 313 = .ok (.ifCond .eq 7, 3) := by decide +kernel
theorem dL_law_316 : decode code 316 = .ok (.iconst 1, 1) := by decide +kernel
theorem dL_law_317 : decode code 317 = .ok (.goto 4, 3) := by decide +kernel
theorem dL_law_320 : decode code 320 = .ok (.iconst 0, 1) := by decide +kernel
theorem dL_law_321 : decode code 321 = .ok (.invokevirtual 27, 3) := by decide +kernel
theorem dL_law_324 : decode code 324 = .ok (.if_icmp .eq 1085, 3) := by decide +kernel
theorem dL_law_327 : decode code 327 = .ok (.iconst 0, 1) := by decide +kernel
theorem dL_law_328 : decode code 328 = .ok (.ireturn, 1) := by decide +kernel
theorem dL_law_329 : decode code 329 = .ok (.aload_n 1, 1) := by decide +kernel
theorem dL_law_330 : decode code 330 = .ok (.aload_n 0, 1) := by decide +kernel
theorem dL_law_331 : decode code 331 = .ok (.iload_n 3, 1) := by decide +kernel
theorem dL_law_332 : decode code 332 = .ok (.iconst 1, 1) := by decide +kernel
theorem dL_law_333 : decode code 333 = .ok (.iadd, 1) := by decide +kernel
theorem dL_law_334 : decode code 334 = .ok (.iaload, 1) := by decide +kernel
theorem dL_law_335 : decode code 335 = .ok (.aload_n 0, 1) := by decide +kernel
theorem dL_law_336 : decode code 336 = .ok (.iload_n 3, 1) := by decide +kernel
theorem dL_law_337 : decode code 337 = .ok (.iconst 2, 1) := by decide +kernel
theorem dL_law_338 : decode code 338 = .ok (.iadd, 1) := by decide +kernel
theorem dL_law_339 : decode code 339 = .ok (.iaload, 1) := by decide +kernel
theorem dL_law_340 : decode code 340 = .ok (.aload_n 0, 1) := by decide +kernel
theorem dL_law_341 : decode code 341 = .ok (.iload_n 3, 1) := by decide +kernel
theorem dL_law_342 : decode code 342 = .ok (.iconst 3, 1) := by decide +kernel
theorem dL_law_343 : decode code 343 = .ok (.iadd, 1) := by decide +kernel
theorem dL_law_344 : decode code 344 = .ok (.iaload, 1) := by decide +kernel
theorem dL_law_345 : decode code 345 = .ok (.invokevirtual 28, 3) := by decide +kernel
theorem dL_law_348 : decode code 348 = .ok (.aload_n 2, 1) := by decide +kernel
theorem dL_law_349 : decode code 349 = .ok (.aload_n 0, 1) := by decide +kernel
theorem dL_law_350 : decode code 350 = .ok (.iload_n 3, 1) := by decide +kernel
theorem dL_law_351 : decode code 351 = .ok (.iconst 1, 1) := by decide +kernel
theorem dL_law_352 : decode code 352 = .ok (.iadd, 1) := by decide +kernel
theorem dL_law_353 : decode code 353 = .ok (.iaload, 1) := by decide +kernel
theorem dL_law_354 : decode code 354 = .ok (.aload_n 0, 1) := by decide +kernel
theorem dL_law_355 : decode code 355 = .ok (.iload_n 3, 1) := by decide +kernel
theorem dL_law_356 : decode code 356 = .ok (.iconst 2, 1) := by decide +kernel
theorem dL_law_357 : decode code 357 = .ok (.iadd, 1) := by decide +kernel
theorem dL_law_358 : decode code 358 = .ok (.iaload, 1) := by decide +kernel
theorem dL_law_359 : decode code 359 = .ok (.aload_n 0, 1) := by decide +kernel
theorem dL_law_360 : decode code 360 = .ok (.iload_n 3, 1) := by decide +kernel
theorem dL_law_361 : decode code 361 = .ok (.iconst 3, 1) := by decide +kernel
theorem dL_law_362 : decode code 362 = .ok (.iadd, 1) := by decide +kernel
theorem dL_law_363 : decode code 363 = .ok (.iaload, 1) := by decide +kernel
theorem dL_law_364 : decode code 364 = .ok (.invokevirtual 32, 3) := by decide +kernel
theorem dL_law_367 : decode code 367 = .ok (.if_icmp .eq 1042, 3) := by decide +kernel
theorem dL_law_370 : decode code 370 = .ok (.iconst 0, 1) := by decide +kernel
theorem dL_law_371 : decode code 371 = .ok (.ireturn, 1) := by decide +kernel
theorem dL_law_372 : decode code 372 = .ok (.aload_n 1, 1) := by decide +kernel
theorem dL_law_373 : decode code 373 = .ok (.aload_n 0, 1) := by decide +kernel
theorem dL_law_374 : decode code 374 = .ok (.iload_n 3, 1) := by decide +kernel
theorem dL_law_375 : decode code 375 = .ok (.iconst 1, 1) := by decide +kernel
theorem dL_law_376 : decode code 376 = .ok (.iadd, 1) := by decide +kernel
theorem dL_law_377 : decode code 377 = .ok (.iaload, 1) := by decide +kernel
theorem dL_law_378 : decode code 378 = .ok (.invokevirtual 33, 3) := by decide +kernel
theorem dL_law_381 : decode code 381 = .ok (.aload_n 2, 1) := by decide +kernel
theorem dL_law_382 : decode code 382 = .ok (.aload_n 0, 1) := by decide +kernel
theorem dL_law_383 : decode code 383 = .ok (.iload_n 3, 1) := by decide +kernel
theorem dL_law_384 : decode code 384 = .ok (.iconst 1, 1) := by decide +kernel
theorem dL_law_385 : decode code 385 = .ok (.iadd, 1) := by decide +kernel
theorem dL_law_386 : decode code 386 = .ok (.iaload, 1) := by decide +kernel
theorem dL_law_387 : decode code 387 = .ok (.invokevirtual 36, 3) := by decide +kernel
theorem dL_law_390 : decode code 390 = .ok (.if_icmp .eq 1019, 3) := by decide +kernel
theorem dL_law_393 : decode code 393 = .ok (.iconst 0, 1) := by decide +kernel
theorem dL_law_394 : decode code 394 = .ok (.ireturn, 1) := by decide +kernel
theorem dL_law_395 : decode code 395 = .ok (.aload_n 1, 1) := by decide +kernel
theorem dL_law_396 : decode code 396 = .ok (.aload_n 0, 1) := by decide +kernel
theorem dL_law_397 : decode code 397 = .ok (.iload_n 3, 1) := by decide +kernel
theorem dL_law_398 : decode code 398 = .ok (.iconst 1, 1) := by decide +kernel
theorem dL_law_399 : decode code 399 = .ok (.iadd, 1) := by decide +kernel
theorem dL_law_400 : decode code 400 = .ok (.iaload, 1) := by decide +kernel
theorem dL_law_401 : decode code 401 = .ok (.aload_n 0, 1) := by decide +kernel
theorem dL_law_402 : decode code 402 = .ok (.iload_n 3, 1) := by decide +kernel
theorem dL_law_403 : decode code 403 = .ok (.iconst 2, 1) := by decide +kernel
theorem dL_law_404 : decode code 404 = .ok (.iadd, 1) := by decide +kernel
theorem dL_law_405 : decode code 405 = .ok (.iaload, 1) := by decide +kernel
theorem dL_law_406 : decode code 406 = .ok (.invokevirtual 37, 3) := by decide +kernel
theorem dL_law_409 : decode code 409 = .ok (.aload_n 2, 1) := by decide +kernel
theorem dL_law_410 : decode code 410 = .ok (.aload_n 0, 1) := by decide +kernel
theorem dL_law_411 : decode code 411 = .ok (.iload_n 3, 1) := by decide +kernel
theorem dL_law_412 : decode code 412 = .ok (.iconst 1, 1) := by decide +kernel
theorem dL_law_413 : decode code 413 = .ok (.iadd, 1) := by decide +kernel
theorem dL_law_414 : decode code 414 = .ok (.iaload, 1) := by decide +kernel
theorem dL_law_415 : decode code 415 = .ok (.aload_n 0, 1) := by decide +kernel
theorem dL_law_416 : decode code 416 = .ok (.iload_n 3, 1) := by decide +kernel
theorem dL_law_417 : decode code 417 = .ok (.iconst 2, 1) := by decide +kernel
theorem dL_law_418 : decode code 418 = .ok (.iadd, 1) := by decide +kernel
theorem dL_law_419 : decode code 419 = .ok (.iaload, 1) := by decide +kernel
theorem dL_law_420 : decode code 420 = .ok (.invokevirtual 41, 3) := by decide +kernel
theorem dL_law_423 : decode code 423 = .ok (.if_icmp .eq 986, 3) := by decide +kernel
theorem dL_law_426 : decode code 426 = .ok (.iconst 0, 1) := by decide +kernel
theorem dL_law_427 : decode code 427 = .ok (.ireturn, 1) := by decide +kernel
theorem dL_law_428 : decode code 428 = .ok (.aload_n 1, 1) := by decide +kernel
theorem dL_law_429 : decode code 429 = .ok (.aload_n 0, 1) := by decide +kernel
theorem dL_law_430 : decode code 430 = .ok (.iload_n 3, 1) := by decide +kernel
theorem dL_law_431 : decode code 431 = .ok (.iconst 1, 1) := by decide +kernel
theorem dL_law_432 : decode code 432 = .ok (.iadd, 1) := by decide +kernel
theorem dL_law_433 : decode code 433 = .ok (.iaload, 1) := by decide +kernel
theorem dL_law_434 : decode code 434 = .ok (.aload_n 0, 1) := by decide +kernel
theorem dL_law_435 : decode code 435 = .ok (.iload_n 3, 1) := by decide +kernel
theorem dL_law_436 : decode code 436 = .ok (.iconst 2, 1) := by decide +kernel
theorem dL_law_437 : decode code 437 = .ok (.iadd, 1) := by decide +kernel
theorem dL_law_438 : decode code 438 = .ok (.iaload, 1) := by decide +kernel
theorem dL_law_439 : decode code 439 = .ok (.aload_n 0, 1) := by decide +kernel
theorem dL_law_440 : decode code 440 = .ok (.iload_n 3, 1) := by decide +kernel
theorem dL_law_441 : decode code 441 = .ok (.iconst 3, 1) := by decide +kernel
theorem dL_law_442 : decode code 442 = .ok (.iadd, 1) := by decide +kernel
theorem dL_law_443 : decode code 443 = .ok (.iaload, 1) := by decide +kernel
theorem dL_law_444 : decode code 444 = .ok (.invokevirtual 42, 3) := by decide +kernel
theorem dL_law_447 : decode code 447 = .ok (.aload_n 2, 1) := by decide +kernel
theorem dL_law_448 : decode code 448 = .ok (.aload_n 0, 1) := by decide +kernel
theorem dL_law_449 : decode code 449 = .ok (.iload_n 3, 1) := by decide +kernel
theorem dL_law_450 : decode code 450 = .ok (.iconst 1, 1) := by decide +kernel
theorem dL_law_451 : decode code 451 = .ok (.iadd, 1) := by decide +kernel
theorem dL_law_452 : decode code 452 = .ok (.iaload, 1) := by decide +kernel
theorem dL_law_453 : decode code 453 = .ok (.aload_n 0, 1) := by decide +kernel
theorem dL_law_454 : decode code 454 = .ok (.iload_n 3, 1) := by decide +kernel
theorem dL_law_455 : decode code 455 = .ok (.iconst 2, 1) := by decide +kernel
theorem dL_law_456 : decode code 456 = .ok (.iadd, 1) := by decide +kernel
theorem dL_law_457 : decode code 457 = .ok (.iaload, 1) := by decide +kernel
theorem dL_law_458 : decode code 458 = .ok (.aload_n 0, 1) := by decide +kernel
theorem dL_law_459 : decode code 459 = .ok (.iload_n 3, 1) := by decide +kernel
theorem dL_law_460 : decode code 460 = .ok (.iconst 3, 1) := by decide +kernel
theorem dL_law_461 : decode code 461 = .ok (.iadd, 1) := by decide +kernel
theorem dL_law_462 : decode code 462 = .ok (.iaload, 1) := by decide +kernel
theorem dL_law_463 : decode code 463 = .ok (.invokevirtual 45, 3) := by decide +kernel
theorem dL_law_466 : decode code 466 = .ok (.if_icmp .eq 943, 3) := by decide +kernel
theorem dL_law_469 : decode code 469 = .ok (.iconst 0, 1) := by decide +kernel
theorem dL_law_470 : decode code 470 = .ok (.ireturn, 1) := by decide +kernel
theorem dL_law_471 : decode code 471 = .ok (.aload_n 1, 1) := by decide +kernel
theorem dL_law_472 : decode code 472 = .ok (.aload_n 0, 1) := by decide +kernel
theorem dL_law_473 : decode code 473 = .ok (.iload_n 3, 1) := by decide +kernel
theorem dL_law_474 : decode code 474 = .ok (.iconst 1, 1) := by decide +kernel
theorem dL_law_475 : decode code 475 = .ok (.iadd, 1) := by decide +kernel
theorem dL_law_476 : decode code 476 = .ok (.iaload, 1) := by decide +kernel
theorem dL_law_477 : decode code 477 = .ok (.invokevirtual 46, 3) := by decide +kernel
theorem dL_law_480 : decode code 480 = .ok (.aload_n 2, 1) := by decide +kernel
theorem dL_law_481 : decode code 481 = .ok (.aload_n 0, 1) := by decide +kernel
theorem dL_law_482 : decode code 482 = .ok (.iload_n 3, 1) := by decide +kernel
theorem dL_law_483 : decode code 483 = .ok (.iconst 1, 1) := by decide +kernel
