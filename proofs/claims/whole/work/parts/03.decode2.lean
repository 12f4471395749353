theorem dX8_init_200 : decode cX8_init 200 = .ok (.bipush 100, 2) := by decide +kernel
theorem dX8_init_202 : decode cX8_init 202 = .ok (.castore, 1) := by decide +kernel
theorem dX8_init_203 : decode cX8_init 203 = .ok (.dup, 1) := by decide +kernel
theorem dX8_init_204 : decode cX8_init 204 = .ok (.bipush 16, 2) := by decide +kernel
theorem dX8_init_206 : decode cX8_init 206 = .ok (.iconst 0, 1) := by decide +kernel
theorem dX8_init_207 : decode cX8_init 207 = .ok (.castore, 1) := by decide +kernel
theorem dX8_init_208 : decode cX8_init 208 = .ok (.dup, 1) := by decide +kernel
theorem dX8_init_209 : decode cX8_init 209 = .ok (.bipush 17, 2) := by decide +kernel
theorem dX8_init_211 : decode cX8_init 211 = .ok (.iconst 0, 1) := by decide +kernel
theorem dX8_init_212 : decode cX8_init 212 = .ok (.castore, 1) := by decide +kernel
theorem dX8_init_213 : decode cX8_init 213 = .ok (.dup, 1) := by decide +kernel
theorem dX8_init_214 : decode cX8_init 214 = .ok (.bipush 18, 2) := by decide +kernel
theorem dX8_init_216 : decode cX8_init 216 = .ok (.bipush 97, 2) := by decide +kernel
theorem dX8_init_218 : decode cX8_init 218 = .ok (.castore, 1) := by decide +kernel
theorem dX8_init_219 : decode cX8_init 219 = .ok (.dup, 1) := by decide +kernel
theorem dX8_init_220 : decode cX8_init 220 = .ok (.bipush 19, 2) := by decide +kernel
theorem dX8_init_222 : decode cX8_init 222 = .ok (.bipush 103, 2) := by decide +kernel
theorem dX8_init_224 : decode cX8_init 224 = .ok (.castore, 1) := by decide +kernel
theorem dX8_init_225 : decode cX8_init 225 = .ok (.dup, 1) := by decide +kernel
theorem dX8_init_226 : decode cX8_init 226 = .ok (.bipush 20, 2) := by decide +kernel
theorem dX8_init_228 : decode cX8_init 228 = .ok (.bipush 101, 2) := by decide +kernel
theorem dX8_init_230 : decode cX8_init 230 = .ok (.castore, 1) := by decide +kernel
theorem dX8_init_231 : decode cX8_init 231 = .ok (.dup, 1) := by decide +kernel
theorem dX8_init_232 : decode cX8_init 232 = .ok (.bipush 21, 2) := by decide +kernel
theorem dX8_init_234 : decode cX8_init 234 = .ok (.iconst 0, 1) := by decide +kernel
theorem dX8_init_235 : decode cX8_init 235 = .ok (.castore, 1) := by decide +kernel
theorem dX8_init_236 : decode cX8_init 236 = .ok (.dup, 1) := by decide +kernel
theorem dX8_init_237 : decode cX8_init 237 = .ok (.bipush 22, 2) := by decide +kernel
theorem dX8_init_239 : decode cX8_init 239 = .ok (.iconst 0, 1) := by decide +kernel
theorem dX8_init_240 : decode cX8_init 240 = .ok (.castore, 1) := by decide +kernel
theorem dX8_init_241 : decode cX8_init 241 = .ok (.dup, 1) := by decide +kernel
theorem dX8_init_242 : decode cX8_init 242 = .ok (.bipush 23, 2) := by decide +kernel
theorem dX8_init_244 : decode cX8_init 244 = .ok (.iconst 0, 1) := by decide +kernel
theorem dX8_init_245 : decode cX8_init 245 = .ok (.castore, 1) := by decide +kernel
theorem dX8_init_246 : decode cX8_init 246 = .ok (.putfield 40, 3) := by decide +kernel
theorem dX8_init_249 : decode cX8_init 249 = .ok (.aload_n 0, 1) := by decide +kernel
theorem dX8_init_250 : decode cX8_init 250 = .ok (.iconst 3, 1) := by decide +kernel
theorem dX8_init_251 : decode cX8_init 251 = .ok (.newarray .int, 2) := by decide +kernel
theorem dX8_init_253 : decode cX8_init 253 = .ok (.putfield 43, 3) := by decide +kernel
theorem dX8_init_256 : decode cX8_init 256 = .ok (.aload_n 0, 1) := by decide +kernel
theorem dX8_init_257 : decode cX8_init 257 = .ok (.iconst 3, 1) := by decide +kernel
theorem dX8_init_258 : decode cX8_init 258 = .ok (.newarray .int, 2) := by decide +kernel
theorem dX8_init_260 : decode cX8_init 260 = .ok (.putfield 46, 3) := by decide +kernel
theorem dX8_init_263 : decode cX8_init 263 = .ok (.aload_n 0, 1) := by decide +kernel
theorem dX8_init_264 : decode cX8_init 264 = .ok (.bipush 6, 2) := by decide +kernel
theorem dX8_init_266 : decode cX8_init 266 = .ok (.newarray .int, 2) := by decide +kernel
theorem dX8_init_268 : decode cX8_init 268 = .ok (.putfield 49, 3) := by decide +kernel
theorem dX8_init_271 : decode cX8_init 271 = .ok (.aload_n 0, 1) := by decide +kernel
theorem dX8_init_272 : decode cX8_init 272 = .ok (.bipush 7, 2) := by decide +kernel
theorem dX8_init_274 : decode cX8_init 274 = .ok (.newarray .int, 2) := by decide +kernel
theorem dX8_init_276 : decode cX8_init 276 = .ok (.dup, 1) := by decide +kernel
theorem dX8_init_277 : decode cX8_init 277 = .ok (.iconst 0, 1) := by decide +kernel
theorem dX8_init_278 : decode cX8_init 278 = .ok (.iconst (-1), 1) := by decide +kernel
theorem dX8_init_279 : decode cX8_init 279 = .ok (.iastore, 1) := by decide +kernel
theorem dX8_init_280 : decode cX8_init 280 = .ok (.dup, 1) := by decide +kernel
theorem dX8_init_281 : decode cX8_init 281 = .ok (.iconst 1, 1) := by decide +kernel
theorem dX8_init_282 : decode cX8_init 282 = .ok (.iconst 0, 1) := by decide +kernel
theorem dX8_init_283 : decode cX8_init 283 = .ok (.iastore, 1) := by decide +kernel
theorem dX8_init_284 : decode cX8_init 284 = .ok (.dup, 1) := by decide +kernel
theorem dX8_init_285 : decode cX8_init 285 = .ok (.iconst 2, 1) := by decide +kernel
theorem dX8_init_286 : decode cX8_init 286 = .ok (.iconst 0, 1) := by decide +kernel
theorem dX8_init_287 : decode cX8_init 287 = .ok (.iastore, 1) := by decide +kernel
theorem dX8_init_288 : decode cX8_init 288 = .ok (.dup, 1) := by decide +kernel
theorem dX8_init_289 : decode cX8_init 289 = .ok (.iconst 3, 1) := by decide +kernel
theorem dX8_init_290 : decode cX8_init 290 = .ok (.iconst 0, 1) := by decide +kernel
theorem dX8_init_291 : decode cX8_init 291 = .ok (.iastore, 1) := by decide +kernel
theorem dX8_init_292 : decode cX8_init 292 = .ok (.dup, 1) := by decide +kernel
theorem dX8_init_293 : decode cX8_init 293 = .ok (.iconst 4, 1) := by decide +kernel
theorem dX8_init_294 : decode cX8_init 294 = .ok (.iconst 1, 1) := by decide +kernel
theorem dX8_init_295 : decode cX8_init 295 = .ok (.iastore, 1) := by decide +kernel
theorem dX8_init_296 : decode cX8_init 296 = .ok (.dup, 1) := by decide +kernel
theorem dX8_init_297 : decode cX8_init 297 = .ok (.iconst 5, 1) := by decide +kernel
theorem dX8_init_298 : decode cX8_init 298 = .ok (.iconst 2, 1) := by decide +kernel
theorem dX8_init_299 : decode cX8_init 299 = .ok (.iastore, 1) := by decide +kernel
theorem dX8_init_300 : decode cX8_init 300 = .ok (.dup, 1) := by decide +kernel
theorem dX8_init_301 : decode cX8_init 301 = .ok (.bipush 6, 2) := by decide +kernel
theorem dX8_init_303 : decode cX8_init 303 = .ok (.iconst 3, 1) := by decide +kernel
theorem dX8_init_304 : decode cX8_init 304 = .ok (.iastore, 1) := by decide +kernel
theorem dX8_init_305 : decode cX8_init 305 = .ok (.putfield 52, 3) := by decide +kernel
theorem dX8_init_308 : decode cX8_init 308 = .ok (.aload_n 0, 1) := by decide +kernel
theorem dX8_init_309 : decode cX8_init 309 = .ok (.bipush 21, 2) := by decide +kernel
theorem dX8_init_311 : decode cX8_init 311 = .ok (.newarray .int, 2) := by decide +kernel
theorem dX8_init_313 : decode cX8_init 313 = .ok (.dup, 1) := by decide +kernel
theorem dX8_init_314 : decode cX8_init 314 = .ok (.iconst 0, 1) := by decide +kernel
theorem dX8_init_315 : decode cX8_init 315 = .ok (.bipush 10, 2) := by decide +kernel
theorem dX8_init_317 : decode cX8_init 317 = .ok (.iastore, 1) := by decide +kernel
theorem dX8_init_318 : decode cX8_init 318 = .ok (.dup, 1) := by decide +kernel
theorem dX8_init_319 : decode cX8_init 319 = .ok (.iconst 1, 1) := by decide +kernel
theorem dX8_init_320 : decode cX8_init 320 = .ok (.bipush 11, 2) := by decide +kernel
theorem dX8_init_322 : decode cX8_init 322 = .ok (.iastore, 1) := by decide +kernel
theorem dX8_init_323 : decode cX8_init 323 = .ok (.dup, 1) := by decide +kernel
theorem dX8_init_324 : decode cX8_init 324 = .ok (.iconst 2, 1) := by decide +kernel
theorem dX8_init_325 : decode cX8_init 325 = .ok (.bipush 12, 2) := by decide +kernel
theorem dX8_init_327 : decode cX8_init 327 = .ok (.iastore, 1) := by decide +kernel
theorem dX8_init_328 : decode cX8_init 328 = .ok (.dup, 1) := by decide +kernel
theorem dX8_init_329 : decode cX8_init 329 = .ok (.iconst 3, 1) := by decide +kernel
theorem dX8_init_330 : decode cX8_init 330 = .ok (.iconst 0, 1) := by decide +kernel
theorem dX8_init_331 : decode cX8_init 331 = .ok (.iastore, 1) := by decide +kernel
theorem dX8_init_332 : decode cX8_init 332 = .ok (.dup, 1) := by decide +kernel
theorem dX8_init_333 : decode cX8_init 333 = .ok (.iconst 4, 1) := by decide +kernel
theorem dX8_init_334 : decode cX8_init 334 = .ok (.bipush 20, 2) := by decide +kernel
theorem dX8_init_336 : decode cX8_init 336 = .ok (.iastore, 1) := by decide +kernel
theorem dX8_init_337 : decode cX8_init 337 = .ok (.dup, 1) := by decide +kernel
theorem dX8_init_338 : decode cX8_init 338 = .ok (.iconst 5, 1) := by decide +kernel
theorem dX8_init_339 : decode cX8_init 339 = .ok (.iconst 0, 1) := by decide +kernel
theorem dX8_init_340 : decode cX8_init 340 = .ok (.iastore, 1) := by decide +kernel
theorem dX8_init_341 : decode cX8_init 341 = .ok (.dup, 1) := by decide +kernel
theorem dX8_init_342 : decode cX8_init 342 = .ok (.bipush 6, 2) := by decide +kernel
theorem dX8_init_344 : decode cX8_init 344 = .ok (.bipush 30, 2) := by decide +kernel
theorem dX8_init_346 : decode cX8_init 346 = .ok (.iastore, 1) := by decide +kernel
theorem dX8_init_347 : decode cX8_init 347 = .ok (.dup, 1) := by decide +kernel
theorem dX8_init_348 : decode cX8_init 348 = .ok (.bipush 7, 2) := by decide +kernel
theorem dX8_init_350 : decode cX8_init 350 = .ok (.iconst 0, 1) := by decide +kernel
theorem dX8_init_351 : decode cX8_init 351 = .ok (.iastore, 1) := by decide +kernel
theorem dX8_init_352 : decode cX8_init 352 = .ok (.dup, 1) := by decide +kernel
theorem dX8_init_353 : decode cX8_init 353 = .ok (.bipush 8, 2) := by decide +kernel
theorem dX8_init_355 : decode cX8_init 355 = .ok (.iconst 0, 1) := by decide +kernel
theorem dX8_init_356 : decode cX8_init 356 = .ok (.iastore, 1) := by decide +kernel
theorem dX8_init_357 : decode cX8_init 357 = .ok (.dup, 1) := by decide +kernel
theorem dX8_init_358 : decode cX8_init 358 = .ok (.bipush 9, 2) := by decide +kernel
theorem dX8_init_360 : decode cX8_init 360 = .ok (.iconst 0, 1) := by decide +kernel
theorem dX8_init_361 : decode cX8_init 361 = .ok (.iastore, 1) := by decide +kernel
theorem dX8_init_362 : decode cX8_init 362 = .ok (.dup, 1) := by decide +kernel
theorem dX8_init_363 : decode cX8_init 363 = .ok (.bipush 10, 2) := by decide +kernel
theorem dX8_init_365 : decode cX8_init 365 = .ok (.iconst 0, 1) := by decide +kernel
theorem dX8_init_366 : decode cX8_init 366 = .ok (.iastore, 1) := by decide +kernel
theorem dX8_init_367 : decode cX8_init 367 = .ok (.dup, 1) := by decide +kernel
theorem dX8_init_368 : decode cX8_init 368 = .ok (.bipush 11, 2) := by decide +kernel
theorem dX8_init_370 : decode cX8_init 370 = .ok (.bipush 40, 2) := by decide +kernel
theorem dX8_init_372 : decode cX8_init 372 = .ok (.iastore, 1) := by decide +kernel
theorem dX8_init_373 : decode cX8_init 373 = .ok (.dup, 1) := by decide +kernel
theorem dX8_init_374 : decode cX8_init 374 = .ok (.bipush 12, 2) := by decide +kernel
theorem dX8_init_376 : decode cX8_init 376 = .ok (.bipush 50, 2) := by decide +kernel
theorem dX8_init_378 : decode cX8_init 378 = .ok (.iastore, 1) := by decide +kernel
theorem dX8_init_379 : decode cX8_init 379 = .ok (.dup, 1) := by decide +kernel
theorem dX8_init_380 : decode cX8_init 380 = .ok (.bipush 13, 2) := by decide +kernel
theorem dX8_init_382 : decode cX8_init 382 = .ok (.bipush 51, 2) := by decide +kernel
theorem dX8_init_384 : decode cX8_init 384 = .ok (.iastore, 1) := by decide +kernel
theorem dX8_init_385 : decode cX8_init 385 = .ok (.dup, 1) := by decide +kernel
theorem dX8_init_386 : decode cX8_init 386 = .ok (.bipush 14, 2) := by decide +kernel
theorem dX8_init_388 : decode cX8_init 388 = .ok (.iconst 0, 1) := by decide +kernel
theorem dX8_init_389 : decode cX8_init 389 = .ok (.iastore, 1) := by decide +kernel
theorem dX8_init_390 : decode cX8_init 390 = .ok (.dup, 1) := by decide +kernel
theorem dX8_init_391 : decode cX8_init 391 = .ok (.bipush 15, 2) := by decide +kernel
theorem dX8_init_393 : decode cX8_init 393 = .ok (.iconst 0, 1) := by decide +kernel
theorem dX8_init_394 : decode cX8_init 394 = .ok (.iastore, 1) := by decide +kernel
theorem dX8_init_395 : decode cX8_init 395 = .ok (.dup, 1) := by decide +kernel
theorem dX8_init_396 : decode cX8_init 396 = .ok (.bipush 16, 2) := by decide +kernel
theorem dX8_init_398 : decode cX8_init 398 = .ok (.iconst 0, 1) := by decide +kernel
theorem dX8_init_399 : decode cX8_init 399 = .ok (.iastore, 1) := by decide +kernel
theorem dX8_init_400 : decode cX8_init 400 = .ok (.dup, 1) := by decide +kernel
theorem dX8_init_401 : decode cX8_init 401 = .ok (.bipush 17, 2) := by decide +kernel
theorem dX8_init_403 : decode cX8_init 403 = .ok (.bipush 60, 2) := by decide +kernel
theorem dX8_init_405 : decode cX8_init 405 = .ok (.iastore, 1) := by decide +kernel
theorem dX8_init_406 : decode cX8_init 406 = .ok (.dup, 1) := by decide +kernel
theorem dX8_init_407 : decode cX8_init 407 = .ok (.bipush 18, 2) := by decide +kernel
theorem dX8_init_409 : decode cX8_init 409 = .ok (.bipush 71, 2) := by decide +kernel
theorem dX8_init_411 : decode cX8_init 411 = .ok (.iastore, 1) := by decide +kernel
theorem dX8_init_412 : decode cX8_init 412 = .ok (.dup, 1) := by decide +kernel
theorem dX8_init_413 : decode cX8_init 413 = .ok (.bipush 19, 2) := by decide +kernel
theorem dX8_init_415 : decode cX8_init 415 = .ok (.bipush 70, 2) := by decide +kernel
theorem dX8_init_417 : decode cX8_init 417 = .ok (.iastore, 1) := by decide +kernel
theorem dX8_init_418 : decode cX8_init 418 = .ok (.dup, 1) := by decide +kernel
theorem dX8_init_419 : decode cX8_init 419 = .ok (.bipush 20, 2) := by decide +kernel
theorem dX8_init_421 : decode cX8_init 421 = .ok (.iconst 0, 1) := by decide +kernel
theorem dX8_init_422 : decode cX8_init 422 = .ok (.iastore, 1) := by decide +kernel
theorem dX8_init_423 : decode cX8_init 423 = .ok (.putfield 55, 3) := by decide +kernel
theorem dX8_init_426 : decode cX8_init 426 = .ok (.aload_n 0, 1) := by decide +kernel
theorem dX8_init_427 : decode cX8_init 427 = .ok (.bipush 20, 2) := by decide +kernel
theorem dX8_init_429 : decode cX8_init 429 = .ok (.newarray .int, 2) := by decide +kernel
theorem dX8_init_431 : decode cX8_init 431 = .ok (.putfield 58, 3) := by decide +kernel
theorem dX8_init_434 : decode cX8_init 434 = .ok (.aload_n 0, 1) := by decide +kernel
theorem dX8_init_435 : decode cX8_init 435 = .ok (.bipush 6, 2) := by decide +kernel
theorem dX8_init_437 : decode cX8_init 437 = .ok (.newarray .int, 2) := by decide +kernel
theorem dX8_init_439 : decode cX8_init 439 = .ok (.dup, 1) := by decide +kernel
theorem dX8_init_440 : decode cX8_init 440 = .ok (.iconst 0, 1) := by decide +kernel
theorem dX8_init_441 : decode cX8_init 441 = .ok (.iconst (-1), 1) := by decide +kernel
theorem dX8_init_442 : decode cX8_init 442 = .ok (.iastore, 1) := by decide +kernel
theorem dX8_init_443 : decode cX8_init 443 = .ok (.dup, 1) := by decide +kernel
theorem dX8_init_444 : decode cX8_init 444 = .ok (.iconst 1, 1) := by decide +kernel
theorem dX8_init_445 : decode cX8_init 445 = .ok (.iconst (-1), 1) := by decide +kernel
theorem dX8_init_446 : decode cX8_init 446 = .ok (.iastore, 1) := by decide +kernel
theorem dX8_init_447 : decode cX8_init 447 = .ok (.dup, 1) := by decide +kernel
theorem dX8_init_448 : decode cX8_init 448 = .ok (.iconst 2, 1) := by decide +kernel
theorem dX8_init_449 : decode cX8_init 449 = .ok (.iconst (-1), 1) := by decide +kernel
theorem dX8_init_450 : decode cX8_init 450 = .ok (.iastore, 1) := by decide +kernel
theorem dX8_init_451 : decode cX8_init 451 = .ok (.dup, 1) := by decide +kernel
theorem dX8_init_452 : decode cX8_init 452 = .ok (.iconst 3, 1) := by decide +kernel
theorem dX8_init_453 : decode cX8_init 453 = .ok (.iconst (-1), 1) := by decide +kernel
theorem dX8_init_454 : decode cX8_init 454 = .ok (.iastore, 1) := by decide +kernel
theorem dX8_init_455 : decode cX8_init 455 = .ok (.dup, 1) := by decide +kernel
theorem dX8_init_456 : decode cX8_init 456 = .ok (.iconst 4, 1) := by decide +kernel
theorem dX8_init_457 : decode cX8_init 457 = .ok (.iconst (-1), 1) := by decide +kernel
theorem dX8_init_458 : decode cX8_init 458 = .ok (.iastore, 1) := by decide +kernel
theorem dX8_init_459 : decode cX8_init 459 = .ok (.dup, 1) := by decide +kernel
theorem dX8_init_460 : decode cX8_init 460 = .ok (.iconst 5, 1) := by decide +kernel
theorem dX8_init_461 : decode cX8_init 461 = .ok (.iconst (-1), 1) := by decide +kernel
theorem dX8_init_462 : decode cX8_init 462 = .ok (.iastore, 1) := by decide +kernel
theorem dX8_init_463 : decode cX8_init 463 = .ok (.putfield 61, 3) := by decide +kernel
theorem dX8_init_466 : decode cX8_init 466 = .ok (.aload_n 0, 1) := by decide +kernel
theorem dX8_init_467 : decode cX8_init 467 = .ok (.bipush 6, 2) := by decide +kernel
theorem dX8_init_469 : decode cX8_init 469 = .ok (.newarray .int, 2) := by decide +kernel
theorem dX8_init_471 : decode cX8_init 471 = .ok (.putfield 64, 3) := by decide +kernel
theorem dX8_init_474 : decode cX8_init 474 = .ok (.aload_n 0, 1) := by decide +kernel
theorem dX8_init_475 : decode cX8_init 475 = .ok (.sipush 360, 3) := by decide +kernel
theorem dX8_init_478 : decode cX8_init 478 = .ok (.newarray .long, 2) := by decide +kernel
theorem dX8_init_480 : decode cX8_init 480 = .ok (.putfield 67, 3) := by decide +kernel
theorem dX8_init_483 : decode cX8_init 483 = .ok (.aload_n 0, 1) := by decide +kernel
theorem dX8_init_484 : decode cX8_init 484 = .ok (.bipush 60, 2) := by decide +kernel
theorem dX8_init_486 : decode cX8_init 486 = .ok (.newarray .long, 2) := by decide +kernel
theorem dX8_init_488 : decode cX8_init 488 = .ok (.putfield 71, 3) := by decide +kernel
theorem dX8_init_491 : decode cX8_init 491 = .ok (.return_, 1) := by decide +kernel
theorem dX8_isIn_0 : decode cX8_isIn 0 = .ok (.iload_n 0, 1) := by decide +kernel
theorem dX8_isIn_1 : decode cX8_isIn 1 = .ok (.iload_n 1, 1) := by decide +kernel
theorem dX8_isIn_2 : decode cX8_isIn 2 = .ok (.if_icmp .lt 12, 3) := by decide +kernel
theorem dX8_isIn_5 : decode cX8_isIn 5 = .ok (.iload_n 0, 1) := by decide +kernel
theorem dX8_isIn_6 : decode cX8_isIn 6 = .ok (.iload_n 2, 1) := by decide +kernel
theorem dX8_isIn_7 : decode cX8_isIn 7 = .ok (.if_icmp .gt 7, 3) := by decide +kernel
theorem dX8_isIn_10 : decode cX8_isIn 10 = .ok (.iconst 1, 1) := by decide +kernel
theorem dX8_isIn_11 : decode cX8_isIn 11 = .ok (.goto 4, 3) := by decide +kernel
theorem dX8_isIn_14 : decode cX8_isIn 14 = .ok (.iconst 0, 1) := by decide +kernel
theorem dX8_isIn_15 : decode cX8_isIn 15 = .ok (.ireturn, 1) := by decide +kernel
theorem dX8_keep_0 : decode cX8_keep 0 = .ok (.iconst 0, 1) := by decide +kernel
theorem dX8_keep_1 : decode cX8_keep 1 = .ok (.istore_n 2, 1) := by decide +kernel
theorem dX8_keep_2 : decode cX8_keep 2 = .ok (.iload_n 2, 1) := by decide +kernel
theorem dX8_keep_3 : decode cX8_keep 3 = .ok (.sipush 133, 3) := by decide +kernel
theorem dX8_keep_6 : decode cX8_keep 6 = .ok (.if_icmp .ge 27, 3) := by decide +kernel
theorem dX8_keep_9 : decode cX8_keep 9 = .ok (.aload_n 0, 1) := by decide +kernel
theorem dX8_keep_10 : decode cX8_keep 10 = .ok (.getfield 15, 3) := by decide +kernel
theorem dX8_keep_13 : decode cX8_keep 13 = .ok (.sipush 133, 3) := by decide +kernel
theorem dX8_keep_16 : decode cX8_keep 16 = .ok (.iload_n 1, 1) := by decide +kernel
theorem dX8_keep_17 : decode cX8_keep 17 = .ok (.imul, 1) := by decide +kernel
theorem dX8_keep_18 : decode cX8_keep 18 = .ok (.iload_n 2, 1) := by decide +kernel
theorem dX8_keep_19 : decode cX8_keep 19 = .ok (.iadd, 1) := by decide +kernel
theorem dX8_keep_20 : decode cX8_keep 20 = .ok (.aload_n 0, 1) := by decide +kernel
theorem dX8_keep_21 : decode cX8_keep 21 = .ok (.getfield 9, 3) := by decide +kernel
theorem dX8_keep_24 : decode cX8_keep 24 = .ok (.iload_n 2, 1) := by decide +kernel
theorem dX8_keep_25 : decode cX8_keep 25 = .ok (.iaload, 1) := by decide +kernel
theorem dX8_keep_26 : decode cX8_keep 26 = .ok (.iastore, 1) := by decide +kernel
theorem dX8_keep_27 : decode cX8_keep 27 = .ok (.iinc 2 1, 3) := by decide +kernel
theorem dX8_keep_30 : decode cX8_keep 30 = .ok (.goto (-28), 3) := by decide +kernel
theorem dX8_keep_33 : decode cX8_keep 33 = .ok (.return_, 1) := by decide +kernel
theorem dX8_lay_0 : decode cX8_lay 0 = .ok (.iconst 0, 1) := by decide +kernel
theorem dX8_lay_1 : decode cX8_lay 1 = .ok (.istore_n 2, 1) := by decide +kernel
theorem dX8_lay_2 : decode cX8_lay 2 = .ok (.iload_n 2, 1) := by decide +kernel
theorem dX8_lay_3 : decode cX8_lay 3 = .ok (.sipush 133, 3) := by decide +kernel
theorem dX8_lay_6 : decode cX8_lay 6 = .ok (.if_icmp .ge 27, 3) := by decide +kernel
theorem dX8_lay_9 : decode cX8_lay 9 = .ok (.aload_n 0, 1) := by decide +kernel
theorem dX8_lay_10 : decode cX8_lay 10 = .ok (.getfield 9, 3) := by decide +kernel
theorem dX8_lay_13 : decode cX8_lay 13 = .ok (.iload_n 2, 1) := by decide +kernel
theorem dX8_lay_14 : decode cX8_lay 14 = .ok (.aload_n 0, 1) := by decide +kernel
theorem dX8_lay_15 : decode cX8_lay 15 = .ok (.getfield 15, 3) := by decide +kernel
theorem dX8_lay_18 : decode cX8_lay 18 = .ok (.sipush 133, 3) := by decide +kernel
theorem dX8_lay_21 : decode cX8_lay 21 = .ok (.iload_n 1, 1) := by decide +kernel
theorem dX8_lay_22 : decode cX8_lay 22 = .ok (.imul, 1) := by decide +kernel
theorem dX8_lay_23 : decode cX8_lay 23 = .ok (.iload_n 2, 1) := by decide +kernel
theorem dX8_lay_24 : decode cX8_lay 24 = .ok (.iadd, 1) := by decide +kernel
theorem dX8_lay_25 : decode cX8_lay 25 = .ok (.iaload, 1) := by decide +kernel
theorem dX8_lay_26 : decode cX8_lay 26 = .ok (.iastore, 1) := by decide +kernel
theorem dX8_lay_27 : decode cX8_lay 27 = .ok (.iinc 2 1, 3) := by decide +kernel
theorem dX8_lay_30 : decode cX8_lay 30 = .ok (.goto (-28), 3) := by decide +kernel
theorem dX8_lay_33 : decode cX8_lay 33 = .ok (.return_, 1) := by decide +kernel
theorem dX8_image_0 : decode cX8_image 0 = .ok (.aload_n 0, 1) := by decide +kernel
theorem dX8_image_1 : decode cX8_image 1 = .ok (.iconst 1, 1) := by decide +kernel
theorem dX8_image_2 : decode cX8_image 2 = .ok (.putfield 74, 3) := by decide +kernel
theorem dX8_image_5 : decode cX8_image 5 = .ok (.iconst 0, 1) := by decide +kernel
theorem dX8_image_6 : decode cX8_image 6 = .ok (.istore_n 1, 1) := by decide +kernel
theorem dX8_image_7 : decode cX8_image 7 = .ok (.iload_n 1, 1) := by decide +kernel
theorem dX8_image_8 : decode cX8_image 8 = .ok (.sipush 133, 3) := by decide +kernel
theorem dX8_image_11 : decode cX8_image 11 = .ok (.if_icmp .ge 21, 3) := by decide +kernel
theorem dX8_image_14 : decode cX8_image 14 = .ok (.aload_n 0, 1) := by decide +kernel
theorem dX8_image_15 : decode cX8_image 15 = .ok (.getfield 18, 3) := by decide +kernel
theorem dX8_image_18 : decode cX8_image 18 = .ok (.iload_n 1, 1) := by decide +kernel
theorem dX8_image_19 : decode cX8_image 19 = .ok (.aload_n 0, 1) := by decide +kernel
theorem dX8_image_20 : decode cX8_image 20 = .ok (.getfield 9, 3) := by decide +kernel
theorem dX8_image_23 : decode cX8_image 23 = .ok (.iload_n 1, 1) := by decide +kernel
theorem dX8_image_24 : decode cX8_image 24 = .ok (.iaload, 1) := by decide +kernel
theorem dX8_image_25 : decode cX8_image 25 = .ok (.iastore, 1) := by decide +kernel
theorem dX8_image_26 : decode cX8_image 26 = .ok (.iinc 1 1, 3) := by decide +kernel
theorem dX8_image_29 : decode cX8_image 29 = .ok (.goto (-22), 3) := by decide +kernel
theorem dX8_image_32 : decode cX8_image 32 = .ok (.aload_n 0, 1) := by decide +kernel
theorem dX8_image_33 : decode cX8_image 33 = .ok (.getfield 9, 3) := by decide +kernel
theorem dX8_image_36 : decode cX8_image 36 = .ok (.bipush 76, 2) := by decide +kernel
theorem dX8_image_38 : decode cX8_image 38 = .ok (.iaload, 1) := by decide +kernel
theorem dX8_image_39 : decode cX8_image 39 = .ok (.ireturn, 1) := by decide +kernel
theorem dX8_undo_0 : decode cX8_undo 0 = .ok (.aload_n 0, 1) := by decide +kernel
theorem dX8_undo_1 : decode cX8_undo 1 = .ok (.getfield 74, 3) := by decide +kernel
theorem dX8_undo_4 : decode cX8_undo 4 = .ok (.ifCond .ne 6, 3) := by decide +kernel
theorem dX8_undo_7 : decode cX8_undo 7 = .ok (.bipush (-3), 2) := by decide +kernel
theorem dX8_undo_9 : decode cX8_undo 9 = .ok (.ireturn, 1) := by decide +kernel
theorem dX8_undo_10 : decode cX8_undo 10 = .ok (.iconst 0, 1) := by decide +kernel
theorem dX8_undo_11 : decode cX8_undo 11 = .ok (.istore_n 1, 1) := by decide +kernel
theorem dX8_undo_12 : decode cX8_undo 12 = .ok (.iload_n 1, 1) := by decide +kernel
theorem dX8_undo_13 : decode cX8_undo 13 = .ok (.sipush 133, 3) := by decide +kernel
theorem dX8_undo_16 : decode cX8_undo 16 = .ok (.if_icmp .ge 21, 3) := by decide +kernel
theorem dX8_undo_19 : decode cX8_undo 19 = .ok (.aload_n 0, 1) := by decide +kernel
theorem dX8_undo_20 : decode cX8_undo 20 = .ok (.getfield 9, 3) := by decide +kernel
theorem dX8_undo_23 : decode cX8_undo 23 = .ok (.iload_n 1, 1) := by decide +kernel
theorem dX8_undo_24 : decode cX8_undo 24 = .ok (.aload_n 0, 1) := by decide +kernel
theorem dX8_undo_25 : decode cX8_undo 25 = .ok (.getfield 18, 3) := by decide +kernel
theorem dX8_undo_28 : decode cX8_undo 28 = .ok (.iload_n 1, 1) := by decide +kernel
theorem dX8_undo_29 : decode cX8_undo 29 = .ok (.iaload, 1) := by decide +kernel
theorem dX8_undo_30 : decode cX8_undo 30 = .ok (.iastore, 1) := by decide +kernel
theorem dX8_undo_31 : decode cX8_undo 31 = .ok (.iinc 1 1, 3) := by decide +kernel
theorem dX8_undo_34 : decode cX8_undo 34 = .ok (.goto (-22), 3) := by decide +kernel
theorem dX8_undo_37 : decode cX8_undo 37 = .ok (.aload_n 0, 1) := by decide +kernel
theorem dX8_undo_38 : decode cX8_undo 38 = .ok (.getfield 9, 3) := by decide +kernel
theorem dX8_undo_41 : decode cX8_undo 41 = .ok (.bipush 76, 2) := by decide +kernel
theorem dX8_undo_43 : decode cX8_undo 43 = .ok (.iaload, 1) := by decide +kernel
theorem dX8_undo_44 : decode cX8_undo 44 = .ok (.ireturn, 1) := by decide +kernel
theorem dX8_isComer_0 : decode cX8_isComer 0 = .ok (.iload_n 1, 1) := by decide +kernel
theorem dX8_isComer_1 : decode cX8_isComer 1 = .ok (.iconst 0, 1) := by decide +kernel
theorem dX8_isComer_2 : decode cX8_isComer 2 = .ok (.aload_n 0, 1) := by decide +kernel
theorem dX8_isComer_3 : decode cX8_isComer 3 = .ok (.getfield 9, 3) := by decide +kernel
theorem dX8_isComer_6 : decode cX8_isComer 6 = .ok (.bipush 76, 2) := by decide +kernel
theorem dX8_isComer_8 : decode cX8_isComer 8 = .ok (.iaload, 1) := by decide +kernel
theorem dX8_isComer_9 : decode cX8_isComer 9 = .ok (.iconst 1, 1) := by decide +kernel
theorem dX8_isComer_10 : decode cX8_isComer 10 = .ok (.isub, 1) := by decide +kernel
theorem dX8_isComer_11 : decode cX8_isComer 11 = .ok (.invokestatic 78, 3) := by decide +kernel
theorem dX8_isComer_14 : decode cX8_isComer 14 = .ok (.ireturn, 1) := by decide +kernel
theorem dX8_isGate_0 : decode cX8_isGate 0 = .ok (.iload_n 0, 1) := by decide +kernel
theorem dX8_isGate_1 : decode cX8_isGate 1 = .ok (.iconst 0, 1) := by decide +kernel
theorem dX8_isGate_2 : decode cX8_isGate 2 = .ok (.iconst 3, 1) := by decide +kernel
theorem dX8_isGate_3 : decode cX8_isGate 3 = .ok (.invokestatic 78, 3) := by decide +kernel
theorem dX8_isGate_6 : decode cX8_isGate 6 = .ok (.ireturn, 1) := by decide +kernel
theorem dX8_one_0 : decode cX8_one 0 = .ok (.aload_n 0, 1) := by decide +kernel
theorem dX8_one_1 : decode cX8_one 1 = .ok (.getfield 9, 3) := by decide +kernel
theorem dX8_one_4 : decode cX8_one 4 = .ok (.bipush 16, 2) := by decide +kernel
theorem dX8_one_6 : decode cX8_one 6 = .ok (.bipush 10, 2) := by decide +kernel
theorem dX8_one_8 : decode cX8_one 8 = .ok (.iload_n 1, 1) := by decide +kernel
theorem dX8_one_9 : decode cX8_one 9 = .ok (.imul, 1) := by decide +kernel
theorem dX8_one_10 : decode cX8_one 10 = .ok (.iadd, 1) := by decide +kernel
theorem dX8_one_11 : decode cX8_one 11 = .ok (.iload_n 2, 1) := by decide +kernel
theorem dX8_one_12 : decode cX8_one 12 = .ok (.iadd, 1) := by decide +kernel
theorem dX8_one_13 : decode cX8_one 13 = .ok (.iaload, 1) := by decide +kernel
theorem dX8_one_14 : decode cX8_one 14 = .ok (.ireturn, 1) := by decide +kernel
theorem dX8_change_0 : decode cX8_change 0 = .ok (.aload_n 0, 1) := by decide +kernel
theorem dX8_change_1 : decode cX8_change 1 = .ok (.iload_n 1, 1) := by decide +kernel
theorem dX8_change_2 : decode cX8_change 2 = .ok (.iload_n 2, 1) := by decide +kernel
theorem dX8_change_3 : decode cX8_change 3 = .ok (.invokevirtual 82, 3) := by decide +kernel
theorem dX8_change_6 : decode cX8_change 6 = .ok (.istore 4, 2) := by decide +kernel
theorem dX8_change_8 : decode cX8_change 8 = .ok (.aload_n 0, 1) := by decide +kernel
theorem dX8_change_9 : decode cX8_change 9 = .ok (.getfield 9, 3) := by decide +kernel
theorem dX8_change_12 : decode cX8_change 12 = .ok (.bipush 16, 2) := by decide +kernel
theorem dX8_change_14 : decode cX8_change 14 = .ok (.bipush 10, 2) := by decide +kernel
theorem dX8_change_16 : decode cX8_change 16 = .ok (.iload_n 1, 1) := by decide +kernel
theorem dX8_change_17 : decode cX8_change 17 = .ok (.imul, 1) := by decide +kernel
theorem dX8_change_18 : decode cX8_change 18 = .ok (.iadd, 1) := by decide +kernel
theorem dX8_change_19 : decode cX8_change 19 = .ok (.iload_n 2, 1) := by decide +kernel
theorem dX8_change_20 : decode cX8_change 20 = .ok (.iadd, 1) := by decide +kernel
theorem dX8_change_21 : decode cX8_change 21 = .ok (.iload_n 3, 1) := by decide +kernel
theorem dX8_change_22 : decode cX8_change 22 = .ok (.iastore, 1) := by decide +kernel
theorem dX8_change_23 : decode cX8_change 23 = .ok (.iload 4, 2) := by decide +kernel
theorem dX8_change_25 : decode cX8_change 25 = .ok (.ireturn, 1) := by decide +kernel
theorem dX8_known_0 : decode cX8_known 0 = .ok (.aload_n 0, 1) := by decide +kernel
theorem dX8_known_1 : decode cX8_known 1 = .ok (.getfield 9, 3) := by decide +kernel
theorem dX8_known_4 : decode cX8_known 4 = .ok (.iconst 4, 1) := by decide +kernel
theorem dX8_known_5 : decode cX8_known 5 = .ok (.iload_n 1, 1) := by decide +kernel
theorem dX8_known_6 : decode cX8_known 6 = .ok (.imul, 1) := by decide +kernel
theorem dX8_known_7 : decode cX8_known 7 = .ok (.iaload, 1) := by decide +kernel
theorem dX8_known_8 : decode cX8_known 8 = .ok (.ireturn, 1) := by decide +kernel
theorem dX8_walkAt_0 : decode cX8_walkAt 0 = .ok (.aload_n 0, 1) := by decide +kernel
theorem dX8_walkAt_1 : decode cX8_walkAt 1 = .ok (.getfield 9, 3) := by decide +kernel
theorem dX8_walkAt_4 : decode cX8_walkAt 4 = .ok (.iconst 4, 1) := by decide +kernel
theorem dX8_walkAt_5 : decode cX8_walkAt 5 = .ok (.iload_n 1, 1) := by decide +kernel
theorem dX8_walkAt_6 : decode cX8_walkAt 6 = .ok (.imul, 1) := by decide +kernel
theorem dX8_walkAt_7 : decode cX8_walkAt 7 = .ok (.iconst 1, 1) := by decide +kernel
theorem dX8_walkAt_8 : decode cX8_walkAt 8 = .ok (.iadd, 1) := by decide +kernel
theorem dX8_walkAt_9 : decode cX8_walkAt 9 = .ok (.iload_n 2, 1) := by decide +kernel
theorem dX8_walkAt_10 : decode cX8_walkAt 10 = .ok (.iadd, 1) := by decide +kernel
theorem dX8_walkAt_11 : decode cX8_walkAt 11 = .ok (.iaload, 1) := by decide +kernel
theorem dX8_walkAt_12 : decode cX8_walkAt 12 = .ok (.ireturn, 1) := by decide +kernel
theorem dX8_many_0 : decode cX8_many 0 = .ok (.iconst 0, 1) := by decide +kernel
theorem dX8_many_1 : decode cX8_many 1 = .ok (.istore_n 1, 1) := by decide +kernel
theorem dX8_many_2 : decode cX8_many 2 = .ok (.iconst 0, 1) := by decide +kernel
theorem dX8_many_3 : decode cX8_many 3 = .ok (.istore_n 2, 1) := by decide +kernel
theorem dX8_many_4 : decode cX8_many 4 = .ok (.iload_n 2, 1) := by decide +kernel
theorem dX8_many_5 : decode cX8_many 5 = .ok (.bipush 12, 2) := by decide +kernel
theorem dX8_many_7 : decode cX8_many 7 = .ok (.if_icmp .ge 17, 3) := by decide +kernel
theorem dX8_many_10 : decode cX8_many 10 = .ok (.iload_n 1, 1) := by decide +kernel
theorem dX8_many_11 : decode cX8_many 11 = .ok (.iload_n 0, 1) := by decide +kernel
theorem dX8_many_12 : decode cX8_many 12 = .ok (.iload_n 2, 1) := by decide +kernel
theorem dX8_many_13 : decode cX8_many 13 = .ok (.ishr, 1) := by decide +kernel
theorem dX8_many_14 : decode cX8_many 14 = .ok (.iconst 1, 1) := by decide +kernel
theorem dX8_many_15 : decode cX8_many 15 = .ok (.iand, 1) := by decide +kernel
theorem dX8_many_16 : decode cX8_many 16 = .ok (.iadd, 1) := by decide +kernel
theorem dX8_many_17 : decode cX8_many 17 = .ok (.istore_n 1, 1) := by decide +kernel
theorem dX8_many_18 : decode cX8_many 18 = .ok (.iinc 2 1, 3) := by decide +kernel
theorem dX8_many_21 : decode cX8_many 21 = .ok (.goto (-17), 3) := by decide +kernel
theorem dX8_many_24 : decode cX8_many 24 = .ok (.iload_n 1, 1) := by decide +kernel
theorem dX8_many_25 : decode cX8_many 25 = .ok (.ireturn, 1) := by decide +kernel
theorem dX8_comer_0 : decode cX8_comer 0 = .ok (.iload_n 1, 1) := by decide +kernel
theorem dX8_comer_1 : decode cX8_comer 1 = .ok (.iconst 0, 1) := by decide +kernel
theorem dX8_comer_2 : decode cX8_comer 2 = .ok (.bipush 6, 2) := by decide +kernel
theorem dX8_comer_4 : decode cX8_comer 4 = .ok (.invokestatic 78, 3) := by decide +kernel
theorem dX8_comer_7 : decode cX8_comer 7 = .ok (.ifCond .eq 11, 3) := by decide +kernel
theorem dX8_comer_10 : decode cX8_comer 10 = .ok (.iload 4, 2) := by decide +kernel
theorem dX8_comer_12 : decode cX8_comer 12 = .ok (.invokestatic 86, 3) := by decide +kernel
theorem dX8_comer_15 : decode cX8_comer 15 = .ok (.ifCond .ne 5, 3) := by decide +kernel
theorem dX8_comer_18 : decode cX8_comer 18 = .ok (.iconst (-1), 1) := by decide +kernel
theorem dX8_comer_19 : decode cX8_comer 19 = .ok (.ireturn, 1) := by decide +kernel
theorem dX8_comer_20 : decode cX8_comer 20 = .ok (.iload_n 2, 1) := by decide +kernel
theorem dX8_comer_21 : decode cX8_comer 21 = .ok (.iconst 0, 1) := by decide +kernel
theorem dX8_comer_22 : decode cX8_comer 22 = .ok (.bipush 9, 2) := by decide +kernel
theorem dX8_comer_24 : decode cX8_comer 24 = .ok (.invokestatic 78, 3) := by decide +kernel
theorem dX8_comer_27 : decode cX8_comer 27 = .ok (.ifCond .eq 14, 3) := by decide +kernel
theorem dX8_comer_30 : decode cX8_comer 30 = .ok (.iload_n 3, 1) := by decide +kernel
theorem dX8_comer_31 : decode cX8_comer 31 = .ok (.iconst 0, 1) := by decide +kernel
theorem dX8_comer_32 : decode cX8_comer 32 = .ok (.sipush 4095, 3) := by decide +kernel
theorem dX8_comer_35 : decode cX8_comer 35 = .ok (.invokestatic 78, 3) := by decide +kernel
theorem dX8_comer_38 : decode cX8_comer 38 = .ok (.ifCond .ne 6, 3) := by decide +kernel
theorem dX8_comer_41 : decode cX8_comer 41 = .ok (.bipush (-2), 2) := by decide +kernel
theorem dX8_comer_43 : decode cX8_comer 43 = .ok (.ireturn, 1) := by decide +kernel
theorem dX8_comer_44 : decode cX8_comer 44 = .ok (.aload_n 0, 1) := by decide +kernel
theorem dX8_comer_45 : decode cX8_comer 45 = .ok (.getfield 9, 3) := by decide +kernel
theorem dX8_comer_48 : decode cX8_comer 48 = .ok (.bipush 76, 2) := by decide +kernel
theorem dX8_comer_50 : decode cX8_comer 50 = .ok (.iaload, 1) := by decide +kernel
theorem dX8_comer_51 : decode cX8_comer 51 = .ok (.istore 5, 2) := by decide +kernel
theorem dX8_comer_53 : decode cX8_comer 53 = .ok (.iload 5, 2) := by decide +kernel
theorem dX8_comer_55 : decode cX8_comer 55 = .ok (.bipush 6, 2) := by decide +kernel
theorem dX8_comer_57 : decode cX8_comer 57 = .ok (.if_icmp .ne 6, 3) := by decide +kernel
theorem dX8_comer_60 : decode cX8_comer 60 = .ok (.bipush (-4), 2) := by decide +kernel
theorem dX8_comer_62 : decode cX8_comer 62 = .ok (.ireturn, 1) := by decide +kernel
theorem dX8_comer_63 : decode cX8_comer 63 = .ok (.iconst 0, 1) := by decide +kernel
theorem dX8_comer_64 : decode cX8_comer 64 = .ok (.istore 6, 2) := by decide +kernel
theorem dX8_comer_66 : decode cX8_comer 66 = .ok (.iload 6, 2) := by decide +kernel
theorem dX8_comer_68 : decode cX8_comer 68 = .ok (.bipush 10, 2) := by decide +kernel
theorem dX8_comer_70 : decode cX8_comer 70 = .ok (.if_icmp .ge 19, 3) := by decide +kernel
theorem dX8_comer_73 : decode cX8_comer 73 = .ok (.aload_n 0, 1) := by decide +kernel
theorem dX8_comer_74 : decode cX8_comer 74 = .ok (.iload 5, 2) := by decide +kernel
theorem dX8_comer_76 : decode cX8_comer 76 = .ok (.iload 6, 2) := by decide +kernel
theorem dX8_comer_78 : decode cX8_comer 78 = .ok (.iconst 0, 1) := by decide +kernel
theorem dX8_comer_79 : decode cX8_comer 79 = .ok (.invokevirtual 90, 3) := by decide +kernel
theorem dX8_comer_82 : decode cX8_comer 82 = .ok (.pop, 1) := by decide +kernel
theorem dX8_comer_83 : decode cX8_comer 83 = .ok (.iinc 6 1, 3) := by decide +kernel
theorem dX8_comer_86 : decode cX8_comer 86 = .ok (.goto (-20), 3) := by decide +kernel
theorem dX8_comer_89 : decode cX8_comer 89 = .ok (.aload_n 0, 1) := by decide +kernel
theorem dX8_comer_90 : decode cX8_comer 90 = .ok (.iload 5, 2) := by decide +kernel
theorem dX8_comer_92 : decode cX8_comer 92 = .ok (.iconst 0, 1) := by decide +kernel
theorem dX8_comer_93 : decode cX8_comer 93 = .ok (.iload_n 1, 1) := by decide +kernel
theorem dX8_comer_94 : decode cX8_comer 94 = .ok (.invokevirtual 90, 3) := by decide +kernel
theorem dX8_comer_97 : decode cX8_comer 97 = .ok (.pop, 1) := by decide +kernel
theorem dX8_comer_98 : decode cX8_comer 98 = .ok (.aload_n 0, 1) := by decide +kernel
theorem dX8_comer_99 : decode cX8_comer 99 = .ok (.iload 5, 2) := by decide +kernel
theorem dX8_comer_101 : decode cX8_comer 101 = .ok (.iconst 1, 1) := by decide +kernel
theorem dX8_comer_102 : decode cX8_comer 102 = .ok (.iload_n 2, 1) := by decide +kernel
theorem dX8_comer_103 : decode cX8_comer 103 = .ok (.invokevirtual 90, 3) := by decide +kernel
theorem dX8_comer_106 : decode cX8_comer 106 = .ok (.pop, 1) := by decide +kernel
theorem dX8_comer_107 : decode cX8_comer 107 = .ok (.aload_n 0, 1) := by decide +kernel
theorem dX8_comer_108 : decode cX8_comer 108 = .ok (.iload 5, 2) := by decide +kernel
theorem dX8_comer_110 : decode cX8_comer 110 = .ok (.iconst 2, 1) := by decide +kernel
theorem dX8_comer_111 : decode cX8_comer 111 = .ok (.iload_n 3, 1) := by decide +kernel
theorem dX8_comer_112 : decode cX8_comer 112 = .ok (.invokevirtual 90, 3) := by decide +kernel
theorem dX8_comer_115 : decode cX8_comer 115 = .ok (.pop, 1) := by decide +kernel
theorem dX8_comer_116 : decode cX8_comer 116 = .ok (.aload_n 0, 1) := by decide +kernel
theorem dX8_comer_117 : decode cX8_comer 117 = .ok (.iload 5, 2) := by decide +kernel
theorem dX8_comer_119 : decode cX8_comer 119 = .ok (.iconst 3, 1) := by decide +kernel
theorem dX8_comer_120 : decode cX8_comer 120 = .ok (.iload 4, 2) := by decide +kernel
theorem dX8_comer_122 : decode cX8_comer 122 = .ok (.invokevirtual 90, 3) := by decide +kernel
theorem dX8_comer_125 : decode cX8_comer 125 = .ok (.pop, 1) := by decide +kernel
theorem dX8_comer_126 : decode cX8_comer 126 = .ok (.aload_n 0, 1) := by decide +kernel
theorem dX8_comer_127 : decode cX8_comer 127 = .ok (.getfield 9, 3) := by decide +kernel
theorem dX8_comer_130 : decode cX8_comer 130 = .ok (.bipush 76, 2) := by decide +kernel
theorem dX8_comer_132 : decode cX8_comer 132 = .ok (.dup2, 1) := by decide +kernel
theorem dX8_comer_133 : decode cX8_comer 133 = .ok (.iaload, 1) := by decide +kernel
theorem dX8_comer_134 : decode cX8_comer 134 = .ok (.iconst 1, 1) := by decide +kernel
theorem dX8_comer_135 : decode cX8_comer 135 = .ok (.iadd, 1) := by decide +kernel
theorem dX8_comer_136 : decode cX8_comer 136 = .ok (.iastore, 1) := by decide +kernel
theorem dX8_comer_137 : decode cX8_comer 137 = .ok (.iload 5, 2) := by decide +kernel
theorem dX8_comer_139 : decode cX8_comer 139 = .ok (.ireturn, 1) := by decide +kernel
theorem dX8_of_0 : decode cX8_of 0 = .ok (.aload_n 0, 1) := by decide +kernel
theorem dX8_of_1 : decode cX8_of 1 = .ok (.iload_n 1, 1) := by decide +kernel
theorem dX8_of_2 : decode cX8_of 2 = .ok (.invokevirtual 94, 3) := by decide +kernel
theorem dX8_of_5 : decode cX8_of 5 = .ok (.ifCond .ne 5, 3) := by decide +kernel
theorem dX8_of_8 : decode cX8_of 8 = .ok (.iconst (-1), 1) := by decide +kernel
theorem dX8_of_9 : decode cX8_of 9 = .ok (.ireturn, 1) := by decide +kernel
theorem dX8_of_10 : decode cX8_of 10 = .ok (.iload_n 2, 1) := by decide +kernel
theorem dX8_of_11 : decode cX8_of 11 = .ok (.iconst 0, 1) := by decide +kernel
theorem dX8_of_12 : decode cX8_of 12 = .ok (.iconst 5, 1) := by decide +kernel
theorem dX8_of_13 : decode cX8_of 13 = .ok (.invokestatic 78, 3) := by decide +kernel
theorem dX8_of_16 : decode cX8_of 16 = .ok (.ifCond .eq 10, 3) := by decide +kernel
theorem dX8_of_19 : decode cX8_of 19 = .ok (.aload_n 0, 1) := by decide +kernel
theorem dX8_of_20 : decode cX8_of 20 = .ok (.iload_n 1, 1) := by decide +kernel
theorem dX8_of_21 : decode cX8_of 21 = .ok (.iload_n 2, 1) := by decide +kernel
theorem dX8_of_22 : decode cX8_of 22 = .ok (.invokevirtual 82, 3) := by decide +kernel
theorem dX8_of_25 : decode cX8_of 25 = .ok (.ireturn, 1) := by decide +kernel
theorem dX8_of_26 : decode cX8_of 26 = .ok (.iload_n 2, 1) := by decide +kernel
theorem dX8_of_27 : decode cX8_of 27 = .ok (.bipush 6, 2) := by decide +kernel
theorem dX8_of_29 : decode cX8_of 29 = .ok (.if_icmp .ne 9, 3) := by decide +kernel
theorem dX8_of_32 : decode cX8_of 32 = .ok (.aload_n 0, 1) := by decide +kernel
theorem dX8_of_33 : decode cX8_of 33 = .ok (.iload_n 1, 1) := by decide +kernel
theorem dX8_of_34 : decode cX8_of 34 = .ok (.invokevirtual 97, 3) := by decide +kernel
theorem dX8_of_37 : decode cX8_of 37 = .ok (.ireturn, 1) := by decide +kernel
theorem dX8_of_38 : decode cX8_of 38 = .ok (.iload_n 2, 1) := by decide +kernel
theorem dX8_of_39 : decode cX8_of 39 = .ok (.bipush 10, 2) := by decide +kernel
theorem dX8_of_41 : decode cX8_of 41 = .ok (.isub, 1) := by decide +kernel
theorem dX8_of_42 : decode cX8_of 42 = .ok (.invokestatic 86, 3) := by decide +kernel
theorem dX8_of_45 : decode cX8_of 45 = .ok (.ifCond .eq 23, 3) := by decide +kernel
theorem dX8_of_48 : decode cX8_of 48 = .ok (.aload_n 0, 1) := by decide +kernel
theorem dX8_of_49 : decode cX8_of 49 = .ok (.iload_n 1, 1) := by decide +kernel
theorem dX8_of_50 : decode cX8_of 50 = .ok (.iload_n 2, 1) := by decide +kernel
theorem dX8_of_51 : decode cX8_of 51 = .ok (.bipush 10, 2) := by decide +kernel
theorem dX8_of_53 : decode cX8_of 53 = .ok (.isub, 1) := by decide +kernel
theorem dX8_of_54 : decode cX8_of 54 = .ok (.invokevirtual 101, 3) := by decide +kernel
theorem dX8_of_57 : decode cX8_of 57 = .ok (.ifCond .eq 7, 3) := by decide +kernel
theorem dX8_of_60 : decode cX8_of 60 = .ok (.iconst 1, 1) := by decide +kernel
theorem dX8_of_61 : decode cX8_of 61 = .ok (.goto 30, 3) := by decide +kernel
theorem dX8_of_64 : decode cX8_of 64 = .ok (.iconst 0, 1) := by decide +kernel
theorem dX8_of_65 : decode cX8_of 65 = .ok (.goto 26, 3) := by decide +kernel
theorem dX8_of_68 : decode cX8_of 68 = .ok (.iload_n 2, 1) := by decide +kernel
theorem dX8_of_69 : decode cX8_of 69 = .ok (.bipush 20, 2) := by decide +kernel
theorem dX8_of_71 : decode cX8_of 71 = .ok (.isub, 1) := by decide +kernel
theorem dX8_of_72 : decode cX8_of 72 = .ok (.invokestatic 86, 3) := by decide +kernel
theorem dX8_of_75 : decode cX8_of 75 = .ok (.ifCond .eq 15, 3) := by decide +kernel
theorem dX8_of_78 : decode cX8_of 78 = .ok (.aload_n 0, 1) := by decide +kernel
theorem dX8_of_79 : decode cX8_of 79 = .ok (.iload_n 1, 1) := by decide +kernel
theorem dX8_of_80 : decode cX8_of 80 = .ok (.iload_n 2, 1) := by decide +kernel
theorem dX8_of_81 : decode cX8_of 81 = .ok (.bipush 20, 2) := by decide +kernel
theorem dX8_of_83 : decode cX8_of 83 = .ok (.isub, 1) := by decide +kernel
theorem dX8_of_84 : decode cX8_of 84 = .ok (.invokevirtual 105, 3) := by decide +kernel
theorem dX8_of_87 : decode cX8_of 87 = .ok (.goto 4, 3) := by decide +kernel
theorem dX8_of_90 : decode cX8_of 90 = .ok (.iconst (-1), 1) := by decide +kernel
theorem dX8_of_91 : decode cX8_of 91 = .ok (.ireturn, 1) := by decide +kernel
theorem dX8_set_0 : decode cX8_set 0 = .ok (.aload_n 0, 1) := by decide +kernel
theorem dX8_set_1 : decode cX8_set 1 = .ok (.iload_n 1, 1) := by decide +kernel
theorem dX8_set_2 : decode cX8_set 2 = .ok (.invokevirtual 94, 3) := by decide +kernel
theorem dX8_set_5 : decode cX8_set 5 = .ok (.ifCond .eq 12, 3) := by decide +kernel
theorem dX8_set_8 : decode cX8_set 8 = .ok (.iload_n 2, 1) := by decide +kernel
theorem dX8_set_9 : decode cX8_set 9 = .ok (.iconst 0, 1) := by decide +kernel
theorem dX8_set_10 : decode cX8_set 10 = .ok (.iconst 2, 1) := by decide +kernel
theorem dX8_set_11 : decode cX8_set 11 = .ok (.invokestatic 78, 3) := by decide +kernel
theorem dX8_set_14 : decode cX8_set 14 = .ok (.ifCond .ne 5, 3) := by decide +kernel
theorem dX8_set_17 : decode cX8_set 17 = .ok (.iconst (-1), 1) := by decide +kernel
theorem dX8_set_18 : decode cX8_set 18 = .ok (.ireturn, 1) := by decide +kernel
theorem dX8_set_19 : decode cX8_set 19 = .ok (.iload_n 3, 1) := by decide +kernel
theorem dX8_set_20 : decode cX8_set 20 = .ok (.iconst 0, 1) := by decide +kernel
theorem dX8_set_21 : decode cX8_set 21 = .ok (.iload_n 2, 1) := by decide +kernel
theorem dX8_set_22 : decode cX8_set 22 = .ok (.ifCond .ne 9, 3) := by decide +kernel
theorem dX8_set_25 : decode cX8_set 25 = .ok (.sipush 4095, 3) := by decide +kernel
theorem dX8_set_28 : decode cX8_set 28 = .ok (.goto 14, 3) := by decide +kernel
theorem dX8_set_31 : decode cX8_set 31 = .ok (.iload_n 2, 1) := by decide +kernel
theorem dX8_set_32 : decode cX8_set 32 = .ok (.iconst 1, 1) := by decide +kernel
theorem dX8_set_33 : decode cX8_set 33 = .ok (.if_icmp .ne 7, 3) := by decide +kernel
theorem dX8_set_36 : decode cX8_set 36 = .ok (.iconst 3, 1) := by decide +kernel
theorem dX8_set_37 : decode cX8_set 37 = .ok (.goto 5, 3) := by decide +kernel
theorem dX8_set_40 : decode cX8_set 40 = .ok (.bipush 9, 2) := by decide +kernel
theorem dX8_set_42 : decode cX8_set 42 = .ok (.invokestatic 78, 3) := by decide +kernel
theorem dX8_set_45 : decode cX8_set 45 = .ok (.ifCond .eq 15, 3) := by decide +kernel
theorem dX8_set_48 : decode cX8_set 48 = .ok (.aload_n 0, 1) := by decide +kernel
theorem dX8_set_49 : decode cX8_set 49 = .ok (.iload_n 1, 1) := by decide +kernel
theorem dX8_set_50 : decode cX8_set 50 = .ok (.iconst 2, 1) := by decide +kernel
theorem dX8_set_51 : decode cX8_set 51 = .ok (.iload_n 2, 1) := by decide +kernel
theorem dX8_set_52 : decode cX8_set 52 = .ok (.iadd, 1) := by decide +kernel
theorem dX8_set_53 : decode cX8_set 53 = .ok (.iload_n 3, 1) := by decide +kernel
theorem dX8_set_54 : decode cX8_set 54 = .ok (.invokevirtual 90, 3) := by decide +kernel
theorem dX8_set_57 : decode cX8_set 57 = .ok (.goto 5, 3) := by decide +kernel
theorem dX8_set_60 : decode cX8_set 60 = .ok (.bipush (-2), 2) := by decide +kernel
theorem dX8_set_62 : decode cX8_set 62 = .ok (.ireturn, 1) := by decide +kernel
theorem dX8_like_0 : decode cX8_like 0 = .ok (.aload_n 0, 1) := by decide +kernel
theorem dX8_like_1 : decode cX8_like 1 = .ok (.iload_n 1, 1) := by decide +kernel
theorem dX8_like_2 : decode cX8_like 2 = .ok (.invokevirtual 94, 3) := by decide +kernel
theorem dX8_like_5 : decode cX8_like 5 = .ok (.ifCond .eq 25, 3) := by decide +kernel
theorem dX8_like_8 : decode cX8_like 8 = .ok (.iload_n 2, 1) := by decide +kernel
theorem dX8_like_9 : decode cX8_like 9 = .ok (.invokestatic 86, 3) := by decide +kernel
theorem dX8_like_12 : decode cX8_like 12 = .ok (.ifCond .eq 18, 3) := by decide +kernel
theorem dX8_like_15 : decode cX8_like 15 = .ok (.iload_n 3, 1) := by decide +kernel
theorem dX8_like_16 : decode cX8_like 16 = .ok (.iconst 0, 1) := by decide +kernel
theorem dX8_like_17 : decode cX8_like 17 = .ok (.aload_n 0, 1) := by decide +kernel
theorem dX8_like_18 : decode cX8_like 18 = .ok (.iload_n 2, 1) := by decide +kernel
theorem dX8_like_19 : decode cX8_like 19 = .ok (.invokevirtual 108, 3) := by decide +kernel
theorem dX8_like_22 : decode cX8_like 22 = .ok (.iconst 1, 1) := by decide +kernel
theorem dX8_like_23 : decode cX8_like 23 = .ok (.isub, 1) := by decide +kernel
theorem dX8_like_24 : decode cX8_like 24 = .ok (.invokestatic 78, 3) := by decide +kernel
theorem dX8_like_27 : decode cX8_like 27 = .ok (.ifCond .ne 7, 3) := by decide +kernel
theorem dX8_like_30 : decode cX8_like 30 = .ok (.sipush (-10001), 3) := by decide +kernel
theorem dX8_like_33 : decode cX8_like 33 = .ok (.ireturn, 1) := by decide +kernel
theorem dX8_like_34 : decode cX8_like 34 = .ok (.aload_n 0, 1) := by decide +kernel
theorem dX8_like_35 : decode cX8_like 35 = .ok (.iload_n 1, 1) := by decide +kernel
theorem dX8_like_36 : decode cX8_like 36 = .ok (.iload_n 2, 1) := by decide +kernel
theorem dX8_like_37 : decode cX8_like 37 = .ok (.aload_n 0, 1) := by decide +kernel
theorem dX8_like_38 : decode cX8_like 38 = .ok (.iload_n 2, 1) := by decide +kernel
theorem dX8_like_39 : decode cX8_like 39 = .ok (.iload_n 3, 1) := by decide +kernel
theorem dX8_like_40 : decode cX8_like 40 = .ok (.invokevirtual 111, 3) := by decide +kernel
theorem dX8_like_43 : decode cX8_like 43 = .ok (.aload_n 0, 1) := by decide +kernel
theorem dX8_like_44 : decode cX8_like 44 = .ok (.iload_n 1, 1) := by decide +kernel
theorem dX8_like_45 : decode cX8_like 45 = .ok (.iload_n 2, 1) := by decide +kernel
theorem dX8_like_46 : decode cX8_like 46 = .ok (.invokevirtual 114, 3) := by decide +kernel
theorem dX8_like_49 : decode cX8_like 49 = .ok (.invokevirtual 117, 3) := by decide +kernel
theorem dX8_like_52 : decode cX8_like 52 = .ok (.ireturn, 1) := by decide +kernel
theorem dX8_forget_0 : decode cX8_forget 0 = .ok (.iload_n 1, 1) := by decide +kernel
theorem dX8_forget_1 : decode cX8_forget 1 = .ok (.invokestatic 86, 3) := by decide +kernel
theorem dX8_forget_4 : decode cX8_forget 4 = .ok (.ifCond .ne 5, 3) := by decide +kernel
theorem dX8_forget_7 : decode cX8_forget 7 = .ok (.iconst (-1), 1) := by decide +kernel
theorem dX8_forget_8 : decode cX8_forget 8 = .ok (.ireturn, 1) := by decide +kernel
theorem dX8_forget_9 : decode cX8_forget 9 = .ok (.aload_n 0, 1) := by decide +kernel
theorem dX8_forget_10 : decode cX8_forget 10 = .ok (.iload_n 1, 1) := by decide +kernel
theorem dX8_forget_11 : decode cX8_forget 11 = .ok (.invokevirtual 108, 3) := by decide +kernel
theorem dX8_forget_14 : decode cX8_forget 14 = .ok (.istore_n 2, 1) := by decide +kernel
theorem dX8_forget_15 : decode cX8_forget 15 = .ok (.aload_n 0, 1) := by decide +kernel
theorem dX8_forget_16 : decode cX8_forget 16 = .ok (.getfield 9, 3) := by decide +kernel
theorem dX8_forget_19 : decode cX8_forget 19 = .ok (.iconst 4, 1) := by decide +kernel
theorem dX8_forget_20 : decode cX8_forget 20 = .ok (.iload_n 1, 1) := by decide +kernel
theorem dX8_forget_21 : decode cX8_forget 21 = .ok (.imul, 1) := by decide +kernel
theorem dX8_forget_22 : decode cX8_forget 22 = .ok (.iconst 0, 1) := by decide +kernel
theorem dX8_forget_23 : decode cX8_forget 23 = .ok (.iastore, 1) := by decide +kernel
theorem dX8_forget_24 : decode cX8_forget 24 = .ok (.iload_n 2, 1) := by decide +kernel
theorem dX8_forget_25 : decode cX8_forget 25 = .ok (.ireturn, 1) := by decide +kernel
theorem dX8_row_0 : decode cX8_row 0 = .ok (.aload_n 0, 1) := by decide +kernel
theorem dX8_row_1 : decode cX8_row 1 = .ok (.iload_n 1, 1) := by decide +kernel
theorem dX8_row_2 : decode cX8_row 2 = .ok (.invokevirtual 94, 3) := by decide +kernel
theorem dX8_row_5 : decode cX8_row 5 = .ok (.ifCond .eq 12, 3) := by decide +kernel
theorem dX8_row_8 : decode cX8_row 8 = .ok (.iload_n 2, 1) := by decide +kernel
theorem dX8_row_9 : decode cX8_row 9 = .ok (.iconst 0, 1) := by decide +kernel
theorem dX8_row_10 : decode cX8_row 10 = .ok (.iconst 3, 1) := by decide +kernel
theorem dX8_row_11 : decode cX8_row 11 = .ok (.invokestatic 78, 3) := by decide +kernel
theorem dX8_row_14 : decode cX8_row 14 = .ok (.ifCond .ne 5, 3) := by decide +kernel
theorem dX8_row_17 : decode cX8_row 17 = .ok (.iconst (-1), 1) := by decide +kernel
theorem dX8_row_18 : decode cX8_row 18 = .ok (.ireturn, 1) := by decide +kernel
theorem dX8_row_19 : decode cX8_row 19 = .ok (.iload_n 3, 1) := by decide +kernel
theorem dX8_row_20 : decode cX8_row 20 = .ok (.iconst 0, 1) := by decide +kernel
theorem dX8_row_21 : decode cX8_row 21 = .ok (.bipush 9, 2) := by decide +kernel
theorem dX8_row_23 : decode cX8_row 23 = .ok (.invokestatic 78, 3) := by decide +kernel
theorem dX8_row_26 : decode cX8_row 26 = .ok (.ifCond .ne 6, 3) := by decide +kernel
theorem dX8_row_29 : decode cX8_row 29 = .ok (.bipush (-2), 2) := by decide +kernel
theorem dX8_row_31 : decode cX8_row 31 = .ok (.ireturn, 1) := by decide +kernel
theorem dX8_row_32 : decode cX8_row 32 = .ok (.aload_n 0, 1) := by decide +kernel
theorem dX8_row_33 : decode cX8_row 33 = .ok (.iload_n 1, 1) := by decide +kernel
theorem dX8_row_34 : decode cX8_row 34 = .ok (.iconst 0, 1) := by decide +kernel
theorem dX8_row_35 : decode cX8_row 35 = .ok (.invokevirtual 82, 3) := by decide +kernel
theorem dX8_row_38 : decode cX8_row 38 = .ok (.bipush 6, 2) := by decide +kernel
theorem dX8_row_40 : decode cX8_row 40 = .ok (.if_icmp .ne 16, 3) := by decide +kernel
theorem dX8_row_43 : decode cX8_row 43 = .ok (.aload_n 0, 1) := by decide +kernel
theorem dX8_row_44 : decode cX8_row 44 = .ok (.iload_n 1, 1) := by decide +kernel
theorem dX8_row_45 : decode cX8_row 45 = .ok (.bipush 6, 2) := by decide +kernel
theorem dX8_row_47 : decode cX8_row 47 = .ok (.iload_n 2, 1) := by decide +kernel
theorem dX8_row_48 : decode cX8_row 48 = .ok (.iadd, 1) := by decide +kernel
theorem dX8_row_49 : decode cX8_row 49 = .ok (.iload_n 3, 1) := by decide +kernel
theorem dX8_row_50 : decode cX8_row 50 = .ok (.invokevirtual 90, 3) := by decide +kernel
theorem dX8_row_53 : decode cX8_row 53 = .ok (.goto 5, 3) := by decide +kernel
theorem dX8_row_56 : decode cX8_row 56 = .ok (.bipush (-3), 2) := by decide +kernel
theorem dX8_row_58 : decode cX8_row 58 = .ok (.ireturn, 1) := by decide +kernel
theorem dX8_feed_0 : decode cX8_feed 0 = .ok (.iload_n 1, 1) := by decide +kernel
theorem dX8_feed_1 : decode cX8_feed 1 = .ok (.iconst 0, 1) := by decide +kernel
theorem dX8_feed_2 : decode cX8_feed 2 = .ok (.bipush 127, 2) := by decide +kernel
theorem dX8_feed_4 : decode cX8_feed 4 = .ok (.invokestatic 78, 3) := by decide +kernel
theorem dX8_feed_7 : decode cX8_feed 7 = .ok (.ifCond .ne 6, 3) := by decide +kernel
theorem dX8_feed_10 : decode cX8_feed 10 = .ok (.bipush (-2), 2) := by decide +kernel
theorem dX8_feed_12 : decode cX8_feed 12 = .ok (.ireturn, 1) := by decide +kernel
theorem dX8_feed_13 : decode cX8_feed 13 = .ok (.aload_n 0, 1) := by decide +kernel
theorem dX8_feed_14 : decode cX8_feed 14 = .ok (.getfield 121, 3) := by decide +kernel
theorem dX8_feed_17 : decode cX8_feed 17 = .ok (.bipush 100, 2) := by decide +kernel
theorem dX8_feed_19 : decode cX8_feed 19 = .ok (.if_icmp .ne 6, 3) := by decide +kernel
theorem dX8_feed_22 : decode cX8_feed 22 = .ok (.bipush (-4), 2) := by decide +kernel
theorem dX8_feed_24 : decode cX8_feed 24 = .ok (.ireturn, 1) := by decide +kernel
theorem dX8_feed_25 : decode cX8_feed 25 = .ok (.aload_n 0, 1) := by decide +kernel
theorem dX8_feed_26 : decode cX8_feed 26 = .ok (.getfield 21, 3) := by decide +kernel
theorem dX8_feed_29 : decode cX8_feed 29 = .ok (.aload_n 0, 1) := by decide +kernel
theorem dX8_feed_30 : decode cX8_feed 30 = .ok (.getfield 121, 3) := by decide +kernel
theorem dX8_feed_33 : decode cX8_feed 33 = .ok (.iload_n 1, 1) := by decide +kernel
theorem dX8_feed_34 : decode cX8_feed 34 = .ok (.iastore, 1) := by decide +kernel
theorem dX8_feed_35 : decode cX8_feed 35 = .ok (.aload_n 0, 1) := by decide +kernel
theorem dX8_feed_36 : decode cX8_feed 36 = .ok (.dup, 1) := by decide +kernel
theorem dX8_feed_37 : decode cX8_feed 37 = .ok (.getfield 121, 3) := by decide +kernel
theorem dX8_feed_40 : decode cX8_feed 40 = .ok (.iconst 1, 1) := by decide +kernel
theorem dX8_feed_41 : decode cX8_feed 41 = .ok (.iadd, 1) := by decide +kernel
theorem dX8_feed_42 : decode cX8_feed 42 = .ok (.putfield 121, 3) := by decide +kernel
theorem dX8_feed_45 : decode cX8_feed 45 = .ok (.aload_n 0, 1) := by decide +kernel
theorem dX8_feed_46 : decode cX8_feed 46 = .ok (.getfield 121, 3) := by decide +kernel
theorem dX8_feed_49 : decode cX8_feed 49 = .ok (.ireturn, 1) := by decide +kernel
theorem dX8_isAt_0 : decode cX8_isAt 0 = .ok (.aload_n 0, 1) := by decide +kernel
theorem dX8_isAt_1 : decode cX8_isAt 1 = .ok (.getfield 125, 3) := by decide +kernel
theorem dX8_isAt_4 : decode cX8_isAt 4 = .ok (.ifCond .eq 31, 3) := by decide +kernel
theorem dX8_isAt_7 : decode cX8_isAt 7 = .ok (.aload_n 0, 1) := by decide +kernel
theorem dX8_isAt_8 : decode cX8_isAt 8 = .ok (.getfield 128, 3) := by decide +kernel
theorem dX8_isAt_11 : decode cX8_isAt 11 = .ok (.aload_n 0, 1) := by decide +kernel
theorem dX8_isAt_12 : decode cX8_isAt 12 = .ok (.getfield 131, 3) := by decide +kernel
theorem dX8_isAt_15 : decode cX8_isAt 15 = .ok (.if_icmp .ge 20, 3) := by decide +kernel
theorem dX8_isAt_18 : decode cX8_isAt 18 = .ok (.aload_n 0, 1) := by decide +kernel
theorem dX8_isAt_19 : decode cX8_isAt 19 = .ok (.getfield 30, 3) := by decide +kernel
theorem dX8_isAt_22 : decode cX8_isAt 22 = .ok (.aload_n 0, 1) := by decide +kernel
theorem dX8_isAt_23 : decode cX8_isAt 23 = .ok (.getfield 128, 3) := by decide +kernel
theorem dX8_isAt_26 : decode cX8_isAt 26 = .ok (.iaload, 1) := by decide +kernel
theorem dX8_isAt_27 : decode cX8_isAt 27 = .ok (.iload_n 1, 1) := by decide +kernel
theorem dX8_isAt_28 : decode cX8_isAt 28 = .ok (.if_icmp .ne 7, 3) := by decide +kernel
theorem dX8_isAt_31 : decode cX8_isAt 31 = .ok (.iconst 1, 1) := by decide +kernel
theorem dX8_isAt_32 : decode cX8_isAt 32 = .ok (.goto 4, 3) := by decide +kernel
theorem dX8_isAt_35 : decode cX8_isAt 35 = .ok (.iconst 0, 1) := by decide +kernel
theorem dX8_isAt_36 : decode cX8_isAt 36 = .ok (.ireturn, 1) := by decide +kernel
theorem dX8_takes_0 : decode cX8_takes 0 = .ok (.aload_n 0, 1) := by decide +kernel
theorem dX8_takes_1 : decode cX8_takes 1 = .ok (.iload_n 1, 1) := by decide +kernel
theorem dX8_takes_2 : decode cX8_takes 2 = .ok (.invokevirtual 134, 3) := by decide +kernel
theorem dX8_takes_5 : decode cX8_takes 5 = .ok (.ifCond .eq 16, 3) := by decide +kernel
theorem dX8_takes_8 : decode cX8_takes 8 = .ok (.aload_n 0, 1) := by decide +kernel
theorem dX8_takes_9 : decode cX8_takes 9 = .ok (.dup, 1) := by decide +kernel
theorem dX8_takes_10 : decode cX8_takes 10 = .ok (.getfield 128, 3) := by decide +kernel
theorem dX8_takes_13 : decode cX8_takes 13 = .ok (.iconst 1, 1) := by decide +kernel
theorem dX8_takes_14 : decode cX8_takes 14 = .ok (.iadd, 1) := by decide +kernel
theorem dX8_takes_15 : decode cX8_takes 15 = .ok (.putfield 128, 3) := by decide +kernel
theorem dX8_takes_18 : decode cX8_takes 18 = .ok (.goto 8, 3) := by decide +kernel
theorem dX8_takes_21 : decode cX8_takes 21 = .ok (.aload_n 0, 1) := by decide +kernel
theorem dX8_takes_22 : decode cX8_takes 22 = .ok (.iconst 0, 1) := by decide +kernel
theorem dX8_takes_23 : decode cX8_takes 23 = .ok (.putfield 125, 3) := by decide +kernel
theorem dX8_takes_26 : decode cX8_takes 26 = .ok (.return_, 1) := by decide +kernel
theorem dX8_isDigit_0 : decode cX8_isDigit 0 = .ok (.aload_n 0, 1) := by decide +kernel
theorem dX8_isDigit_1 : decode cX8_isDigit 1 = .ok (.getfield 125, 3) := by decide +kernel
theorem dX8_isDigit_4 : decode cX8_isDigit 4 = .ok (.ifCond .eq 46, 3) := by decide +kernel
theorem dX8_isDigit_7 : decode cX8_isDigit 7 = .ok (.aload_n 0, 1) := by decide +kernel
theorem dX8_isDigit_8 : decode cX8_isDigit 8 = .ok (.getfield 128, 3) := by decide +kernel
theorem dX8_isDigit_11 : decode cX8_isDigit 11 = .ok (.aload_n 0, 1) := by decide +kernel
theorem dX8_isDigit_12 : decode cX8_isDigit 12 = .ok (.getfield 131, 3) := by decide +kernel
theorem dX8_isDigit_15 : decode cX8_isDigit 15 = .ok (.if_icmp .ge 35, 3) := by decide +kernel
theorem dX8_isDigit_18 : decode cX8_isDigit 18 = .ok (.aload_n 0, 1) := by decide +kernel
theorem dX8_isDigit_19 : decode cX8_isDigit 19 = .ok (.getfield 30, 3) := by decide +kernel
theorem dX8_isDigit_22 : decode cX8_isDigit 22 = .ok (.aload_n 0, 1) := by decide +kernel
theorem dX8_isDigit_23 : decode cX8_isDigit 23 = .ok (.getfield 128, 3) := by decide +kernel
theorem dX8_isDigit_26 : decode cX8_isDigit 26 = .ok (.iaload, 1) := by decide +kernel
theorem dX8_isDigit_27 : decode cX8_isDigit 27 = .ok (.bipush 48, 2) := by decide +kernel
theorem dX8_isDigit_29 : decode cX8_isDigit 29 = .ok (.if_icmp .lt 21, 3) := by decide +kernel
theorem dX8_isDigit_32 : decode cX8_isDigit 32 = .ok (.aload_n 0, 1) := by decide +kernel
theorem dX8_isDigit_33 : decode cX8_isDigit 33 = .ok (.getfield 30, 3) := by decide +kernel
theorem dX8_isDigit_36 : decode cX8_isDigit 36 = .ok (.aload_n 0, 1) := by decide +kernel
theorem dX8_isDigit_37 : decode cX8_isDigit 37 = .ok (.getfield 128, 3) := by decide +kernel
theorem dX8_isDigit_40 : decode cX8_isDigit 40 = .ok (.iaload, 1) := by decide +kernel
theorem dX8_isDigit_41 : decode cX8_isDigit 41 = .ok (.bipush 57, 2) := by decide +kernel
theorem dX8_isDigit_43 : decode cX8_isDigit 43 = .ok (.if_icmp .gt 7, 3) := by decide +kernel
theorem dX8_isDigit_46 : decode cX8_isDigit 46 = .ok (.iconst 1, 1) := by decide +kernel
theorem dX8_isDigit_47 : decode cX8_isDigit 47 = .ok (.goto 4, 3) := by decide +kernel
theorem dX8_isDigit_50 : decode cX8_isDigit 50 = .ok (.iconst 0, 1) := by decide +kernel
theorem dX8_isDigit_51 : decode cX8_isDigit 51 = .ok (.ireturn, 1) := by decide +kernel
theorem dX8_number_0 : decode cX8_number 0 = .ok (.aload_n 0, 1) := by decide +kernel
theorem dX8_number_1 : decode cX8_number 1 = .ok (.invokevirtual 137, 3) := by decide +kernel
theorem dX8_number_4 : decode cX8_number 4 = .ok (.ifCond .ne 10, 3) := by decide +kernel
theorem dX8_number_7 : decode cX8_number 7 = .ok (.aload_n 0, 1) := by decide +kernel
theorem dX8_number_8 : decode cX8_number 8 = .ok (.iconst 0, 1) := by decide +kernel
theorem dX8_number_9 : decode cX8_number 9 = .ok (.putfield 125, 3) := by decide +kernel
theorem dX8_number_12 : decode cX8_number 12 = .ok (.iconst 0, 1) := by decide +kernel
theorem dX8_number_13 : decode cX8_number 13 = .ok (.ireturn, 1) := by decide +kernel
theorem dX8_number_14 : decode cX8_number 14 = .ok (.aload_n 0, 1) := by decide +kernel
theorem dX8_number_15 : decode cX8_number 15 = .ok (.getfield 30, 3) := by decide +kernel
theorem dX8_number_18 : decode cX8_number 18 = .ok (.aload_n 0, 1) := by decide +kernel
theorem dX8_number_19 : decode cX8_number 19 = .ok (.getfield 128, 3) := by decide +kernel
theorem dX8_number_22 : decode cX8_number 22 = .ok (.iaload, 1) := by decide +kernel
theorem dX8_number_23 : decode cX8_number 23 = .ok (.bipush 48, 2) := by decide +kernel
theorem dX8_number_25 : decode cX8_number 25 = .ok (.isub, 1) := by decide +kernel
theorem dX8_number_26 : decode cX8_number 26 = .ok (.istore_n 1, 1) := by decide +kernel
theorem dX8_number_27 : decode cX8_number 27 = .ok (.aload_n 0, 1) := by decide +kernel
theorem dX8_number_28 : decode cX8_number 28 = .ok (.dup, 1) := by decide +kernel
theorem dX8_number_29 : decode cX8_number 29 = .ok (.getfield 128, 3) := by decide +kernel
theorem dX8_number_32 : decode cX8_number 32 = .ok (.iconst 1, 1) := by decide +kernel
theorem dX8_number_33 : decode cX8_number 33 = .ok (.iadd, 1) := by decide +kernel
theorem dX8_number_34 : decode cX8_number 34 = .ok (.putfield 128, 3) := by decide +kernel
theorem dX8_number_37 : decode cX8_number 37 = .ok (.aload_n 0, 1) := by decide +kernel
theorem dX8_number_38 : decode cX8_number 38 = .ok (.invokevirtual 137, 3) := by decide +kernel
theorem dX8_number_41 : decode cX8_number 41 = .ok (.ifCond .eq 31, 3) := by decide +kernel
theorem dX8_number_44 : decode cX8_number 44 = .ok (.bipush 10, 2) := by decide +kernel
theorem dX8_number_46 : decode cX8_number 46 = .ok (.iload_n 1, 1) := by decide +kernel
theorem dX8_number_47 : decode cX8_number 47 = .ok (.imul, 1) := by decide +kernel
theorem dX8_number_48 : decode cX8_number 48 = .ok (.aload_n 0, 1) := by decide +kernel
theorem dX8_number_49 : decode cX8_number 49 = .ok (.getfield 30, 3) := by decide +kernel
theorem dX8_number_52 : decode cX8_number 52 = .ok (.aload_n 0, 1) := by decide +kernel
theorem dX8_number_53 : decode cX8_number 53 = .ok (.getfield 128, 3) := by decide +kernel
theorem dX8_number_56 : decode cX8_number 56 = .ok (.iaload, 1) := by decide +kernel
theorem dX8_number_57 : decode cX8_number 57 = .ok (.iadd, 1) := by decide +kernel
theorem dX8_number_58 : decode cX8_number 58 = .ok (.bipush 48, 2) := by decide +kernel
theorem dX8_number_60 : decode cX8_number 60 = .ok (.isub, 1) := by decide +kernel
theorem dX8_number_61 : decode cX8_number 61 = .ok (.istore_n 1, 1) := by decide +kernel
theorem dX8_number_62 : decode cX8_number 62 = .ok (.aload_n 0, 1) := by decide +kernel
theorem dX8_number_63 : decode cX8_number 63 = .ok (.dup, 1) := by decide +kernel
theorem dX8_number_64 : decode cX8_number 64 = .ok (.getfield 128, 3) := by decide +kernel
theorem dX8_number_67 : decode cX8_number 67 = .ok (.iconst 1, 1) := by decide +kernel
theorem dX8_number_68 : decode cX8_number 68 = .ok (.iadd, 1) := by decide +kernel
theorem dX8_number_69 : decode cX8_number 69 = .ok (.putfield 128, 3) := by decide +kernel
theorem dX8_number_72 : decode cX8_number 72 = .ok (.iload_n 1, 1) := by decide +kernel
theorem dX8_number_73 : decode cX8_number 73 = .ok (.ireturn, 1) := by decide +kernel
theorem dX8_test_0 : decode cX8_test 0 = .ok (.iconst (-1), 1) := by decide +kernel
theorem dX8_test_1 : decode cX8_test 1 = .ok (.istore_n 1, 1) := by decide +kernel
theorem dX8_test_2 : decode cX8_test 2 = .ok (.iconst 0, 1) := by decide +kernel
theorem dX8_test_3 : decode cX8_test 3 = .ok (.istore_n 2, 1) := by decide +kernel
theorem dX8_test_4 : decode cX8_test 4 = .ok (.iload_n 2, 1) := by decide +kernel
theorem dX8_test_5 : decode cX8_test 5 = .ok (.bipush 6, 2) := by decide +kernel
theorem dX8_test_7 : decode cX8_test 7 = .ok (.if_icmp .ge 28, 3) := by decide +kernel
theorem dX8_test_10 : decode cX8_test 10 = .ok (.aload_n 0, 1) := by decide +kernel
theorem dX8_test_11 : decode cX8_test 11 = .ok (.aload_n 0, 1) := by decide +kernel
theorem dX8_test_12 : decode cX8_test 12 = .ok (.getfield 36, 3) := by decide +kernel
theorem dX8_test_15 : decode cX8_test 15 = .ok (.iload_n 2, 1) := by decide +kernel
theorem dX8_test_16 : decode cX8_test 16 = .ok (.caload, 1) := by decide +kernel
theorem dX8_test_17 : decode cX8_test 17 = .ok (.invokevirtual 134, 3) := by decide +kernel
theorem dX8_test_20 : decode cX8_test 20 = .ok (.ifCond .eq 7, 3) := by decide +kernel
theorem dX8_test_23 : decode cX8_test 23 = .ok (.iload_n 2, 1) := by decide +kernel
theorem dX8_test_24 : decode cX8_test 24 = .ok (.goto 4, 3) := by decide +kernel
theorem dX8_test_27 : decode cX8_test 27 = .ok (.iload_n 1, 1) := by decide +kernel
theorem dX8_test_28 : decode cX8_test 28 = .ok (.istore_n 1, 1) := by decide +kernel
theorem dX8_test_29 : decode cX8_test 29 = .ok (.iinc 2 1, 3) := by decide +kernel
theorem dX8_test_32 : decode cX8_test 32 = .ok (.goto (-28), 3) := by decide +kernel
theorem dX8_test_35 : decode cX8_test 35 = .ok (.iload_n 1, 1) := by decide +kernel
theorem dX8_test_36 : decode cX8_test 36 = .ok (.iconst (-1), 1) := by decide +kernel
theorem dX8_test_37 : decode cX8_test 37 = .ok (.if_icmp .ne 10, 3) := by decide +kernel
theorem dX8_test_40 : decode cX8_test 40 = .ok (.aload_n 0, 1) := by decide +kernel
theorem dX8_test_41 : decode cX8_test 41 = .ok (.iconst 0, 1) := by decide +kernel
theorem dX8_test_42 : decode cX8_test 42 = .ok (.putfield 125, 3) := by decide +kernel
theorem dX8_test_45 : decode cX8_test 45 = .ok (.iconst 0, 1) := by decide +kernel
theorem dX8_test_46 : decode cX8_test 46 = .ok (.ireturn, 1) := by decide +kernel
theorem dX8_test_47 : decode cX8_test 47 = .ok (.aload_n 0, 1) := by decide +kernel
theorem dX8_test_48 : decode cX8_test 48 = .ok (.dup, 1) := by decide +kernel
theorem dX8_test_49 : decode cX8_test 49 = .ok (.getfield 128, 3) := by decide +kernel
theorem dX8_test_52 : decode cX8_test 52 = .ok (.iconst 1, 1) := by decide +kernel
theorem dX8_test_53 : decode cX8_test 53 = .ok (.iadd, 1) := by decide +kernel
theorem dX8_test_54 : decode cX8_test 54 = .ok (.putfield 128, 3) := by decide +kernel
theorem dX8_test_57 : decode cX8_test 57 = .ok (.aload_n 0, 1) := by decide +kernel
theorem dX8_test_58 : decode cX8_test 58 = .ok (.bipush 60, 2) := by decide +kernel
theorem dX8_test_60 : decode cX8_test 60 = .ok (.invokevirtual 134, 3) := by decide +kernel
theorem dX8_test_63 : decode cX8_test 63 = .ok (.ifCond .eq 7, 3) := by decide +kernel
theorem dX8_test_66 : decode cX8_test 66 = .ok (.iconst (-1), 1) := by decide +kernel
theorem dX8_test_67 : decode cX8_test 67 = .ok (.goto 17, 3) := by decide +kernel
theorem dX8_test_70 : decode cX8_test 70 = .ok (.aload_n 0, 1) := by decide +kernel
theorem dX8_test_71 : decode cX8_test 71 = .ok (.bipush 62, 2) := by decide +kernel
theorem dX8_test_73 : decode cX8_test 73 = .ok (.invokevirtual 134, 3) := by decide +kernel
theorem dX8_test_76 : decode cX8_test 76 = .ok (.ifCond .eq 7, 3) := by decide +kernel
theorem dX8_test_79 : decode cX8_test 79 = .ok (.iconst 1, 1) := by decide +kernel
theorem dX8_test_80 : decode cX8_test 80 = .ok (.goto 4, 3) := by decide +kernel
theorem dX8_test_83 : decode cX8_test 83 = .ok (.iconst 0, 1) := by decide +kernel
theorem dX8_test_84 : decode cX8_test 84 = .ok (.istore_n 2, 1) := by decide +kernel
theorem dX8_test_85 : decode cX8_test 85 = .ok (.aload_n 0, 1) := by decide +kernel
theorem dX8_test_86 : decode cX8_test 86 = .ok (.iload_n 2, 1) := by decide +kernel
theorem dX8_test_87 : decode cX8_test 87 = .ok (.ifCond .ge 8, 3) := by decide +kernel
theorem dX8_test_90 : decode cX8_test 90 = .ok (.bipush 60, 2) := by decide +kernel
theorem dX8_test_92 : decode cX8_test 92 = .ok (.goto 14, 3) := by decide +kernel
theorem dX8_test_95 : decode cX8_test 95 = .ok (.iload_n 2, 1) := by decide +kernel
theorem dX8_test_96 : decode cX8_test 96 = .ok (.ifCond .le 8, 3) := by decide +kernel
theorem dX8_test_99 : decode cX8_test 99 = .ok (.bipush 62, 2) := by decide +kernel
theorem dX8_test_101 : decode cX8_test 101 = .ok (.goto 5, 3) := by decide +kernel
theorem dX8_test_104 : decode cX8_test 104 = .ok (.bipush 61, 2) := by decide +kernel
theorem dX8_test_106 : decode cX8_test 106 = .ok (.invokevirtual 141, 3) := by decide +kernel
theorem dX8_test_109 : decode cX8_test 109 = .ok (.aload_n 0, 1) := by decide +kernel
theorem dX8_test_110 : decode cX8_test 110 = .ok (.invokevirtual 145, 3) := by decide +kernel
theorem dX8_test_113 : decode cX8_test 113 = .ok (.istore_n 3, 1) := by decide +kernel
theorem dX8_test_114 : decode cX8_test 114 = .ok (.iload_n 2, 1) := by decide +kernel
theorem dX8_test_115 : decode cX8_test 115 = .ok (.ifCond .ge 21, 3) := by decide +kernel
theorem dX8_test_118 : decode cX8_test 118 = .ok (.aload_n 0, 1) := by decide +kernel
theorem dX8_test_119 : decode cX8_test 119 = .ok (.getfield 33, 3) := by decide +kernel
theorem dX8_test_122 : decode cX8_test 122 = .ok (.iload_n 1, 1) := by decide +kernel
theorem dX8_test_123 : decode cX8_test 123 = .ok (.iaload, 1) := by decide +kernel
theorem dX8_test_124 : decode cX8_test 124 = .ok (.iload_n 3, 1) := by decide +kernel
theorem dX8_test_125 : decode cX8_test 125 = .ok (.if_icmp .ge 7, 3) := by decide +kernel
theorem dX8_test_128 : decode cX8_test 128 = .ok (.iconst 1, 1) := by decide +kernel
theorem dX8_test_129 : decode cX8_test 129 = .ok (.goto 44, 3) := by decide +kernel
theorem dX8_test_132 : decode cX8_test 132 = .ok (.iconst 0, 1) := by decide +kernel
theorem dX8_test_133 : decode cX8_test 133 = .ok (.goto 40, 3) := by decide +kernel
theorem dX8_test_136 : decode cX8_test 136 = .ok (.iload_n 2, 1) := by decide +kernel
theorem dX8_test_137 : decode cX8_test 137 = .ok (.ifCond .le 21, 3) := by decide +kernel
theorem dX8_test_140 : decode cX8_test 140 = .ok (.aload_n 0, 1) := by decide +kernel
theorem dX8_test_141 : decode cX8_test 141 = .ok (.getfield 33, 3) := by decide +kernel
theorem dX8_test_144 : decode cX8_test 144 = .ok (.iload_n 1, 1) := by decide +kernel
theorem dX8_test_145 : decode cX8_test 145 = .ok (.iaload, 1) := by decide +kernel
theorem dX8_test_146 : decode cX8_test 146 = .ok (.iload_n 3, 1) := by decide +kernel
theorem dX8_test_147 : decode cX8_test 147 = .ok (.if_icmp .le 7, 3) := by decide +kernel
theorem dX8_test_150 : decode cX8_test 150 = .ok (.iconst 1, 1) := by decide +kernel
theorem dX8_test_151 : decode cX8_test 151 = .ok (.goto 22, 3) := by decide +kernel
theorem dX8_test_154 : decode cX8_test 154 = .ok (.iconst 0, 1) := by decide +kernel
theorem dX8_test_155 : decode cX8_test 155 = .ok (.goto 18, 3) := by decide +kernel
theorem dX8_test_158 : decode cX8_test 158 = .ok (.aload_n 0, 1) := by decide +kernel
theorem dX8_test_159 : decode cX8_test 159 = .ok (.getfield 33, 3) := by decide +kernel
theorem dX8_test_162 : decode cX8_test 162 = .ok (.iload_n 1, 1) := by decide +kernel
theorem dX8_test_163 : decode cX8_test 163 = .ok (.iaload, 1) := by decide +kernel
theorem dX8_test_164 : decode cX8_test 164 = .ok (.iload_n 3, 1) := by decide +kernel
theorem dX8_test_165 : decode cX8_test 165 = .ok (.if_icmp .ne 7, 3) := by decide +kernel
theorem dX8_test_168 : decode cX8_test 168 = .ok (.iconst 1, 1) := by decide +kernel
theorem dX8_test_169 : decode cX8_test 169 = .ok (.goto 4, 3) := by decide +kernel
theorem dX8_test_172 : decode cX8_test 172 = .ok (.iconst 0, 1) := by decide +kernel
theorem dX8_test_173 : decode cX8_test 173 = .ok (.ireturn, 1) := by decide +kernel
theorem dX8_factor_0 : decode cX8_factor 0 = .ok (.aload_n 0, 1) := by decide +kernel
theorem dX8_factor_1 : decode cX8_factor 1 = .ok (.getfield 149, 3) := by decide +kernel
theorem dX8_factor_4 : decode cX8_factor 4 = .ok (.iconst 4, 1) := by decide +kernel
theorem dX8_factor_5 : decode cX8_factor 5 = .ok (.if_icmp .ge 58, 3) := by decide +kernel
theorem dX8_factor_8 : decode cX8_factor 8 = .ok (.aload_n 0, 1) := by decide +kernel
theorem dX8_factor_9 : decode cX8_factor 9 = .ok (.bipush 33, 2) := by decide +kernel
theorem dX8_factor_11 : decode cX8_factor 11 = .ok (.invokevirtual 134, 3) := by decide +kernel
theorem dX8_factor_14 : decode cX8_factor 14 = .ok (.ifCond .eq 49, 3) := by decide +kernel
theorem dX8_factor_17 : decode cX8_factor 17 = .ok (.aload_n 0, 1) := by decide +kernel
theorem dX8_factor_18 : decode cX8_factor 18 = .ok (.dup, 1) := by decide +kernel
theorem dX8_factor_19 : decode cX8_factor 19 = .ok (.getfield 128, 3) := by decide +kernel
theorem dX8_factor_22 : decode cX8_factor 22 = .ok (.iconst 1, 1) := by decide +kernel
theorem dX8_factor_23 : decode cX8_factor 23 = .ok (.iadd, 1) := by decide +kernel
theorem dX8_factor_24 : decode cX8_factor 24 = .ok (.putfield 128, 3) := by decide +kernel
theorem dX8_factor_27 : decode cX8_factor 27 = .ok (.aload_n 0, 1) := by decide +kernel
theorem dX8_factor_28 : decode cX8_factor 28 = .ok (.dup, 1) := by decide +kernel
theorem dX8_factor_29 : decode cX8_factor 29 = .ok (.getfield 149, 3) := by decide +kernel
theorem dX8_factor_32 : decode cX8_factor 32 = .ok (.iconst 1, 1) := by decide +kernel
theorem dX8_factor_33 : decode cX8_factor 33 = .ok (.iadd, 1) := by decide +kernel
theorem dX8_factor_34 : decode cX8_factor 34 = .ok (.putfield 149, 3) := by decide +kernel
theorem dX8_factor_37 : decode cX8_factor 37 = .ok (.aload_n 0, 1) := by decide +kernel
theorem dX8_factor_38 : decode cX8_factor 38 = .ok (.invokevirtual 152, 3) := by decide +kernel
theorem dX8_factor_41 : decode cX8_factor 41 = .ok (.ifCond .ne 7, 3) := by decide +kernel
theorem dX8_factor_44 : decode cX8_factor 44 = .ok (.iconst 1, 1) := by decide +kernel
theorem dX8_factor_45 : decode cX8_factor 45 = .ok (.goto 4, 3) := by decide +kernel
theorem dX8_factor_48 : decode cX8_factor 48 = .ok (.iconst 0, 1) := by decide +kernel
theorem dX8_factor_49 : decode cX8_factor 49 = .ok (.istore_n 1, 1) := by decide +kernel
theorem dX8_factor_50 : decode cX8_factor 50 = .ok (.aload_n 0, 1) := by decide +kernel
theorem dX8_factor_51 : decode cX8_factor 51 = .ok (.dup, 1) := by decide +kernel
theorem dX8_factor_52 : decode cX8_factor 52 = .ok (.getfield 149, 3) := by decide +kernel
theorem dX8_factor_55 : decode cX8_factor 55 = .ok (.iconst 1, 1) := by decide +kernel
theorem dX8_factor_56 : decode cX8_factor 56 = .ok (.isub, 1) := by decide +kernel
theorem dX8_factor_57 : decode cX8_factor 57 = .ok (.putfield 149, 3) := by decide +kernel
theorem dX8_factor_60 : decode cX8_factor 60 = .ok (.goto 69, 3) := by decide +kernel
theorem dX8_factor_63 : decode cX8_factor 63 = .ok (.aload_n 0, 1) := by decide +kernel
theorem dX8_factor_64 : decode cX8_factor 64 = .ok (.getfield 149, 3) := by decide +kernel
theorem dX8_factor_67 : decode cX8_factor 67 = .ok (.iconst 4, 1) := by decide +kernel
theorem dX8_factor_68 : decode cX8_factor 68 = .ok (.if_icmp .ge 56, 3) := by decide +kernel
theorem dX8_factor_71 : decode cX8_factor 71 = .ok (.aload_n 0, 1) := by decide +kernel
theorem dX8_factor_72 : decode cX8_factor 72 = .ok (.bipush 40, 2) := by decide +kernel
theorem dX8_factor_74 : decode cX8_factor 74 = .ok (.invokevirtual 134, 3) := by decide +kernel
theorem dX8_factor_77 : decode cX8_factor 77 = .ok (.ifCond .eq 47, 3) := by decide +kernel
theorem dX8_factor_80 : decode cX8_factor 80 = .ok (.aload_n 0, 1) := by decide +kernel
theorem dX8_factor_81 : decode cX8_factor 81 = .ok (.dup, 1) := by decide +kernel
theorem dX8_factor_82 : decode cX8_factor 82 = .ok (.getfield 128, 3) := by decide +kernel
theorem dX8_factor_85 : decode cX8_factor 85 = .ok (.iconst 1, 1) := by decide +kernel
theorem dX8_factor_86 : decode cX8_factor 86 = .ok (.iadd, 1) := by decide +kernel
theorem dX8_factor_87 : decode cX8_factor 87 = .ok (.putfield 128, 3) := by decide +kernel
theorem dX8_factor_90 : decode cX8_factor 90 = .ok (.aload_n 0, 1) := by decide +kernel
theorem dX8_factor_91 : decode cX8_factor 91 = .ok (.dup, 1) := by decide +kernel
theorem dX8_factor_92 : decode cX8_factor 92 = .ok (.getfield 149, 3) := by decide +kernel
theorem dX8_factor_95 : decode cX8_factor 95 = .ok (.iconst 1, 1) := by decide +kernel
theorem dX8_factor_96 : decode cX8_factor 96 = .ok (.iadd, 1) := by decide +kernel
theorem dX8_factor_97 : decode cX8_factor 97 = .ok (.putfield 149, 3) := by decide +kernel
theorem dX8_factor_100 : decode cX8_factor 100 = .ok (.aload_n 0, 1) := by decide +kernel
theorem dX8_factor_101 : decode cX8_factor 101 = .ok (.invokevirtual 155, 3) := by decide +kernel
theorem dX8_factor_104 : decode cX8_factor 104 = .ok (.istore_n 1, 1) := by decide +kernel
theorem dX8_factor_105 : decode cX8_factor 105 = .ok (.aload_n 0, 1) := by decide +kernel
theorem dX8_factor_106 : decode cX8_factor 106 = .ok (.dup, 1) := by decide +kernel
theorem dX8_factor_107 : decode cX8_factor 107 = .ok (.getfield 149, 3) := by decide +kernel
theorem dX8_factor_110 : decode cX8_factor 110 = .ok (.iconst 1, 1) := by decide +kernel
theorem dX8_factor_111 : decode cX8_factor 111 = .ok (.isub, 1) := by decide +kernel
theorem dX8_factor_112 : decode cX8_factor 112 = .ok (.putfield 149, 3) := by decide +kernel
theorem dX8_factor_115 : decode cX8_factor 115 = .ok (.aload_n 0, 1) := by decide +kernel
theorem dX8_factor_116 : decode cX8_factor 116 = .ok (.bipush 41, 2) := by decide +kernel
theorem dX8_factor_118 : decode cX8_factor 118 = .ok (.invokevirtual 141, 3) := by decide +kernel
theorem dX8_factor_121 : decode cX8_factor 121 = .ok (.goto 8, 3) := by decide +kernel
theorem dX8_factor_124 : decode cX8_factor 124 = .ok (.aload_n 0, 1) := by decide +kernel
theorem dX8_factor_125 : decode cX8_factor 125 = .ok (.invokevirtual 158, 3) := by decide +kernel
theorem dX8_factor_128 : decode cX8_factor 128 = .ok (.istore_n 1, 1) := by decide +kernel
theorem dX8_factor_129 : decode cX8_factor 129 = .ok (.iload_n 1, 1) := by decide +kernel
theorem dX8_factor_130 : decode cX8_factor 130 = .ok (.ireturn, 1) := by decide +kernel
theorem dX8_both_0 : decode cX8_both 0 = .ok (.aload_n 0, 1) := by decide +kernel
theorem dX8_both_1 : decode cX8_both 1 = .ok (.invokevirtual 152, 3) := by decide +kernel
theorem dX8_both_4 : decode cX8_both 4 = .ok (.istore_n 1, 1) := by decide +kernel
theorem dX8_both_5 : decode cX8_both 5 = .ok (.aload_n 0, 1) := by decide +kernel
theorem dX8_both_6 : decode cX8_both 6 = .ok (.bipush 38, 2) := by decide +kernel
theorem dX8_both_8 : decode cX8_both 8 = .ok (.invokevirtual 134, 3) := by decide +kernel
theorem dX8_both_11 : decode cX8_both 11 = .ok (.ifCond .eq 35, 3) := by decide +kernel
theorem dX8_both_14 : decode cX8_both 14 = .ok (.aload_n 0, 1) := by decide +kernel
theorem dX8_both_15 : decode cX8_both 15 = .ok (.dup, 1) := by decide +kernel
theorem dX8_both_16 : decode cX8_both 16 = .ok (.getfield 128, 3) := by decide +kernel
theorem dX8_both_19 : decode cX8_both 19 = .ok (.iconst 1, 1) := by decide +kernel
theorem dX8_both_20 : decode cX8_both 20 = .ok (.iadd, 1) := by decide +kernel
theorem dX8_both_21 : decode cX8_both 21 = .ok (.putfield 128, 3) := by decide +kernel
theorem dX8_both_24 : decode cX8_both 24 = .ok (.aload_n 0, 1) := by decide +kernel
theorem dX8_both_25 : decode cX8_both 25 = .ok (.invokevirtual 152, 3) := by decide +kernel
theorem dX8_both_28 : decode cX8_both 28 = .ok (.istore_n 2, 1) := by decide +kernel
theorem dX8_both_29 : decode cX8_both 29 = .ok (.iload_n 1, 1) := by decide +kernel
theorem dX8_both_30 : decode cX8_both 30 = .ok (.ifCond .eq 11, 3) := by decide +kernel
theorem dX8_both_33 : decode cX8_both 33 = .ok (.iload_n 2, 1) := by decide +kernel
theorem dX8_both_34 : decode cX8_both 34 = .ok (.ifCond .eq 7, 3) := by decide +kernel
theorem dX8_both_37 : decode cX8_both 37 = .ok (.iconst 1, 1) := by decide +kernel
theorem dX8_both_38 : decode cX8_both 38 = .ok (.goto 4, 3) := by decide +kernel
theorem dX8_both_41 : decode cX8_both 41 = .ok (.iconst 0, 1) := by decide +kernel
theorem dX8_both_42 : decode cX8_both 42 = .ok (.istore_n 1, 1) := by decide +kernel
theorem dX8_both_43 : decode cX8_both 43 = .ok (.goto (-38), 3) := by decide +kernel
theorem dX8_both_46 : decode cX8_both 46 = .ok (.iload_n 1, 1) := by decide +kernel
theorem dX8_both_47 : decode cX8_both 47 = .ok (.ireturn, 1) := by decide +kernel
theorem dX8_any_0 : decode cX8_any 0 = .ok (.aload_n 0, 1) := by decide +kernel
theorem dX8_any_1 : decode cX8_any 1 = .ok (.invokevirtual 161, 3) := by decide +kernel
theorem dX8_any_4 : decode cX8_any 4 = .ok (.istore_n 1, 1) := by decide +kernel
theorem dX8_any_5 : decode cX8_any 5 = .ok (.aload_n 0, 1) := by decide +kernel
theorem dX8_any_6 : decode cX8_any 6 = .ok (.bipush 124, 2) := by decide +kernel
theorem dX8_any_8 : decode cX8_any 8 = .ok (.invokevirtual 134, 3) := by decide +kernel
theorem dX8_any_11 : decode cX8_any 11 = .ok (.ifCond .eq 35, 3) := by decide +kernel
theorem dX8_any_14 : decode cX8_any 14 = .ok (.aload_n 0, 1) := by decide +kernel
theorem dX8_any_15 : decode cX8_any 15 = .ok (.dup, 1) := by decide +kernel
theorem dX8_any_16 : decode cX8_any 16 = .ok (.getfield 128, 3) := by decide +kernel
theorem dX8_any_19 : decode cX8_any 19 = .ok (.iconst 1, 1) := by decide +kernel
theorem dX8_any_20 : decode cX8_any 20 = .ok (.iadd, 1) := by decide +kernel
theorem dX8_any_21 : decode cX8_any 21 = .ok (.putfield 128, 3) := by decide +kernel
theorem dX8_any_24 : decode cX8_any 24 = .ok (.aload_n 0, 1) := by decide +kernel
theorem dX8_any_25 : decode cX8_any 25 = .ok (.invokevirtual 161, 3) := by decide +kernel
theorem dX8_any_28 : decode cX8_any 28 = .ok (.istore_n 2, 1) := by decide +kernel
theorem dX8_any_29 : decode cX8_any 29 = .ok (.iload_n 1, 1) := by decide +kernel
theorem dX8_any_30 : decode cX8_any 30 = .ok (.ifCond .ne 7, 3) := by decide +kernel
theorem dX8_any_33 : decode cX8_any 33 = .ok (.iload_n 2, 1) := by decide +kernel
theorem dX8_any_34 : decode cX8_any 34 = .ok (.ifCond .eq 7, 3) := by decide +kernel
theorem dX8_any_37 : decode cX8_any 37 = .ok (.iconst 1, 1) := by decide +kernel
theorem dX8_any_38 : decode cX8_any 38 = .ok (.goto 4, 3) := by decide +kernel
theorem dX8_any_41 : decode cX8_any 41 = .ok (.iconst 0, 1) := by decide +kernel
theorem dX8_any_42 : decode cX8_any 42 = .ok (.istore_n 1, 1) := by decide +kernel
theorem dX8_any_43 : decode cX8_any 43 = .ok (.goto (-38), 3) := by decide +kernel
theorem dX8_any_46 : decode cX8_any 46 = .ok (.iload_n 1, 1) := by decide +kernel
theorem dX8_any_47 : decode cX8_any 47 = .ok (.ireturn, 1) := by decide +kernel
theorem dX8_clause_0 : decode cX8_clause 0 = .ok (.aload_n 0, 1) := by decide +kernel
theorem dX8_clause_1 : decode cX8_clause 1 = .ok (.bipush 110, 2) := by decide +kernel
theorem dX8_clause_3 : decode cX8_clause 3 = .ok (.invokevirtual 134, 3) := by decide +kernel
theorem dX8_clause_6 : decode cX8_clause 6 = .ok (.ifCond .eq 7, 3) := by decide +kernel
theorem dX8_clause_9 : decode cX8_clause 9 = .ok (.iconst 2, 1) := by decide +kernel
theorem dX8_clause_10 : decode cX8_clause 10 = .ok (.goto 50, 3) := by decide +kernel
theorem dX8_clause_13 : decode cX8_clause 13 = .ok (.aload_n 0, 1) := by decide +kernel
theorem dX8_clause_14 : decode cX8_clause 14 = .ok (.bipush 97, 2) := by decide +kernel
theorem dX8_clause_16 : decode cX8_clause 16 = .ok (.invokevirtual 134, 3) := by decide +kernel
theorem dX8_clause_19 : decode cX8_clause 19 = .ok (.ifCond .eq 7, 3) := by decide +kernel
theorem dX8_clause_22 : decode cX8_clause 22 = .ok (.iconst 3, 1) := by decide +kernel
theorem dX8_clause_23 : decode cX8_clause 23 = .ok (.goto 37, 3) := by decide +kernel
theorem dX8_clause_26 : decode cX8_clause 26 = .ok (.aload_n 0, 1) := by decide +kernel
theorem dX8_clause_27 : decode cX8_clause 27 = .ok (.getfield 128, 3) := by decide +kernel
theorem dX8_clause_30 : decode cX8_clause 30 = .ok (.iconst 1, 1) := by decide +kernel
theorem dX8_clause_31 : decode cX8_clause 31 = .ok (.iadd, 1) := by decide +kernel
theorem dX8_clause_32 : decode cX8_clause 32 = .ok (.aload_n 0, 1) := by decide +kernel
theorem dX8_clause_33 : decode cX8_clause 33 = .ok (.getfield 131, 3) := by decide +kernel
theorem dX8_clause_36 : decode cX8_clause 36 = .ok (.if_icmp .ge 23, 3) := by decide +kernel
theorem dX8_clause_39 : decode cX8_clause 39 = .ok (.aload_n 0, 1) := by decide +kernel
theorem dX8_clause_40 : decode cX8_clause 40 = .ok (.getfield 30, 3) := by decide +kernel
theorem dX8_clause_43 : decode cX8_clause 43 = .ok (.aload_n 0, 1) := by decide +kernel
theorem dX8_clause_44 : decode cX8_clause 44 = .ok (.getfield 128, 3) := by decide +kernel
theorem dX8_clause_47 : decode cX8_clause 47 = .ok (.iconst 1, 1) := by decide +kernel
theorem dX8_clause_48 : decode cX8_clause 48 = .ok (.iadd, 1) := by decide +kernel
theorem dX8_clause_49 : decode cX8_clause 49 = .ok (.iaload, 1) := by decide +kernel
theorem dX8_clause_50 : decode cX8_clause 50 = .ok (.bipush 105, 2) := by decide +kernel
theorem dX8_clause_52 : decode cX8_clause 52 = .ok (.if_icmp .ne 7, 3) := by decide +kernel
theorem dX8_clause_55 : decode cX8_clause 55 = .ok (.iconst 1, 1) := by decide +kernel
theorem dX8_clause_56 : decode cX8_clause 56 = .ok (.goto 4, 3) := by decide +kernel
theorem dX8_clause_59 : decode cX8_clause 59 = .ok (.iconst 0, 1) := by decide +kernel
theorem dX8_clause_60 : decode cX8_clause 60 = .ok (.istore_n 1, 1) := by decide +kernel
theorem dX8_clause_61 : decode cX8_clause 61 = .ok (.iconst 0, 1) := by decide +kernel
theorem dX8_clause_62 : decode cX8_clause 62 = .ok (.istore_n 2, 1) := by decide +kernel
theorem dX8_clause_63 : decode cX8_clause 63 = .ok (.iload_n 2, 1) := by decide +kernel
theorem dX8_clause_64 : decode cX8_clause 64 = .ok (.bipush 6, 2) := by decide +kernel
theorem dX8_clause_66 : decode cX8_clause 66 = .ok (.if_icmp .ge 38, 3) := by decide +kernel
theorem dX8_clause_69 : decode cX8_clause 69 = .ok (.aload_n 0, 1) := by decide +kernel
theorem dX8_clause_70 : decode cX8_clause 70 = .ok (.getfield 40, 3) := by decide +kernel
theorem dX8_clause_73 : decode cX8_clause 73 = .ok (.bipush 6, 2) := by decide +kernel
theorem dX8_clause_75 : decode cX8_clause 75 = .ok (.iload_n 1, 1) := by decide +kernel
theorem dX8_clause_76 : decode cX8_clause 76 = .ok (.imul, 1) := by decide +kernel
theorem dX8_clause_77 : decode cX8_clause 77 = .ok (.iload_n 2, 1) := by decide +kernel
theorem dX8_clause_78 : decode cX8_clause 78 = .ok (.iadd, 1) := by decide +kernel
theorem dX8_clause_79 : decode cX8_clause 79 = .ok (.caload, 1) := by decide +kernel
theorem dX8_clause_80 : decode cX8_clause 80 = .ok (.ifCond .eq 24, 3) := by decide +kernel
theorem dX8_clause_83 : decode cX8_clause 83 = .ok (.aload_n 0, 1) := by decide +kernel
theorem dX8_clause_84 : decode cX8_clause 84 = .ok (.aload_n 0, 1) := by decide +kernel
theorem dX8_clause_85 : decode cX8_clause 85 = .ok (.getfield 40, 3) := by decide +kernel
theorem dX8_clause_88 : decode cX8_clause 88 = .ok (.bipush 6, 2) := by decide +kernel
theorem dX8_clause_90 : decode cX8_clause 90 = .ok (.iload_n 1, 1) := by decide +kernel
theorem dX8_clause_91 : decode cX8_clause 91 = .ok (.imul, 1) := by decide +kernel
theorem dX8_clause_92 : decode cX8_clause 92 = .ok (.iload_n 2, 1) := by decide +kernel
theorem dX8_clause_93 : decode cX8_clause 93 = .ok (.iadd, 1) := by decide +kernel
theorem dX8_clause_94 : decode cX8_clause 94 = .ok (.caload, 1) := by decide +kernel
theorem dX8_clause_95 : decode cX8_clause 95 = .ok (.invokevirtual 141, 3) := by decide +kernel
theorem dX8_clause_98 : decode cX8_clause 98 = .ok (.iinc 2 1, 3) := by decide +kernel
theorem dX8_clause_101 : decode cX8_clause 101 = .ok (.goto (-38), 3) := by decide +kernel
theorem dX8_clause_104 : decode cX8_clause 104 = .ok (.aload_n 0, 1) := by decide +kernel
theorem dX8_clause_105 : decode cX8_clause 105 = .ok (.bipush 32, 2) := by decide +kernel
theorem dX8_clause_107 : decode cX8_clause 107 = .ok (.invokevirtual 141, 3) := by decide +kernel
theorem dX8_clause_110 : decode cX8_clause 110 = .ok (.aload_n 0, 1) := by decide +kernel
theorem dX8_clause_111 : decode cX8_clause 111 = .ok (.invokevirtual 145, 3) := by decide +kernel
theorem dX8_clause_114 : decode cX8_clause 114 = .ok (.istore_n 2, 1) := by decide +kernel
theorem dX8_clause_115 : decode cX8_clause 115 = .ok (.iload_n 1, 1) := by decide +kernel
theorem dX8_clause_116 : decode cX8_clause 116 = .ok (.iconst 1, 1) := by decide +kernel
theorem dX8_clause_117 : decode cX8_clause 117 = .ok (.if_icmp .le 38, 3) := by decide +kernel
theorem dX8_clause_120 : decode cX8_clause 120 = .ok (.aload_n 0, 1) := by decide +kernel
theorem dX8_clause_121 : decode cX8_clause 121 = .ok (.iload_n 1, 1) := by decide +kernel
theorem dX8_clause_122 : decode cX8_clause 122 = .ok (.iconst 2, 1) := by decide +kernel
theorem dX8_clause_123 : decode cX8_clause 123 = .ok (.if_icmp .ne 7, 3) := by decide +kernel
theorem dX8_clause_126 : decode cX8_clause 126 = .ok (.iload_n 2, 1) := by decide +kernel
theorem dX8_clause_127 : decode cX8_clause 127 = .ok (.goto 7, 3) := by decide +kernel
theorem dX8_clause_130 : decode cX8_clause 130 = .ok (.aload_n 0, 1) := by decide +kernel
theorem dX8_clause_131 : decode cX8_clause 131 = .ok (.getfield 164, 3) := by decide +kernel
theorem dX8_clause_134 : decode cX8_clause 134 = .ok (.putfield 164, 3) := by decide +kernel
theorem dX8_clause_137 : decode cX8_clause 137 = .ok (.aload_n 0, 1) := by decide +kernel
theorem dX8_clause_138 : decode cX8_clause 138 = .ok (.iload_n 1, 1) := by decide +kernel
theorem dX8_clause_139 : decode cX8_clause 139 = .ok (.iconst 3, 1) := by decide +kernel
theorem dX8_clause_140 : decode cX8_clause 140 = .ok (.if_icmp .ne 7, 3) := by decide +kernel
theorem dX8_clause_143 : decode cX8_clause 143 = .ok (.iload_n 2, 1) := by decide +kernel
theorem dX8_clause_144 : decode cX8_clause 144 = .ok (.goto 7, 3) := by decide +kernel
theorem dX8_clause_147 : decode cX8_clause 147 = .ok (.aload_n 0, 1) := by decide +kernel
theorem dX8_clause_148 : decode cX8_clause 148 = .ok (.getfield 167, 3) := by decide +kernel
theorem dX8_clause_151 : decode cX8_clause 151 = .ok (.putfield 167, 3) := by decide +kernel
theorem dX8_clause_154 : decode cX8_clause 154 = .ok (.return_, 1) := by decide +kernel
theorem dX8_clause_155 : decode cX8_clause 155 = .ok (.aload_n 0, 1) := by decide +kernel
theorem dX8_clause_156 : decode cX8_clause 156 = .ok (.bipush 32, 2) := by decide +kernel
theorem dX8_clause_158 : decode cX8_clause 158 = .ok (.invokevirtual 141, 3) := by decide +kernel
theorem dX8_clause_161 : decode cX8_clause 161 = .ok (.aload_n 0, 1) := by decide +kernel
theorem dX8_clause_162 : decode cX8_clause 162 = .ok (.iconst 0, 1) := by decide +kernel
theorem dX8_clause_163 : decode cX8_clause 163 = .ok (.putfield 149, 3) := by decide +kernel
theorem dX8_clause_166 : decode cX8_clause 166 = .ok (.aload_n 0, 1) := by decide +kernel
theorem dX8_clause_167 : decode cX8_clause 167 = .ok (.invokevirtual 155, 3) := by decide +kernel
theorem dX8_clause_170 : decode cX8_clause 170 = .ok (.istore_n 3, 1) := by decide +kernel
theorem dX8_clause_171 : decode cX8_clause 171 = .ok (.aload_n 0, 1) := by decide +kernel
theorem dX8_clause_172 : decode cX8_clause 172 = .ok (.dup, 1) := by decide +kernel
theorem dX8_clause_173 : decode cX8_clause 173 = .ok (.getfield 170, 3) := by decide +kernel
theorem dX8_clause_176 : decode cX8_clause 176 = .ok (.iload_n 3, 1) := by decide +kernel
theorem dX8_clause_177 : decode cX8_clause 177 = .ok (.ifCond .ne 7, 3) := by decide +kernel
theorem dX8_clause_180 : decode cX8_clause 180 = .ok (.iconst 0, 1) := by decide +kernel
theorem dX8_clause_181 : decode cX8_clause 181 = .ok (.goto 13, 3) := by decide +kernel
theorem dX8_clause_184 : decode cX8_clause 184 = .ok (.iload_n 1, 1) := by decide +kernel
theorem dX8_clause_185 : decode cX8_clause 185 = .ok (.ifCond .ne 7, 3) := by decide +kernel
theorem dX8_clause_188 : decode cX8_clause 188 = .ok (.iload_n 2, 1) := by decide +kernel
theorem dX8_clause_189 : decode cX8_clause 189 = .ok (.goto 5, 3) := by decide +kernel
theorem dX8_clause_192 : decode cX8_clause 192 = .ok (.iload_n 2, 1) := by decide +kernel
theorem dX8_clause_193 : decode cX8_clause 193 = .ok (.ineg, 1) := by decide +kernel
theorem dX8_clause_194 : decode cX8_clause 194 = .ok (.iadd, 1) := by decide +kernel
theorem dX8_clause_195 : decode cX8_clause 195 = .ok (.putfield 170, 3) := by decide +kernel
theorem dX8_clause_198 : decode cX8_clause 198 = .ok (.return_, 1) := by decide +kernel
theorem dX8_readAll_0 : decode cX8_readAll 0 = .ok (.aload_n 0, 1) := by decide +kernel
theorem dX8_readAll_1 : decode cX8_readAll 1 = .ok (.iconst 0, 1) := by decide +kernel
theorem dX8_readAll_2 : decode cX8_readAll 2 = .ok (.putfield 128, 3) := by decide +kernel
theorem dX8_readAll_5 : decode cX8_readAll 5 = .ok (.aload_n 0, 1) := by decide +kernel
theorem dX8_readAll_6 : decode cX8_readAll 6 = .ok (.iconst 1, 1) := by decide +kernel
theorem dX8_readAll_7 : decode cX8_readAll 7 = .ok (.putfield 125, 3) := by decide +kernel
theorem dX8_readAll_10 : decode cX8_readAll 10 = .ok (.aload_n 0, 1) := by decide +kernel
theorem dX8_readAll_11 : decode cX8_readAll 11 = .ok (.iconst 0, 1) := by decide +kernel
theorem dX8_readAll_12 : decode cX8_readAll 12 = .ok (.putfield 170, 3) := by decide +kernel
theorem dX8_readAll_15 : decode cX8_readAll 15 = .ok (.aload_n 0, 1) := by decide +kernel
theorem dX8_readAll_16 : decode cX8_readAll 16 = .ok (.bipush 10, 2) := by decide +kernel
theorem dX8_readAll_18 : decode cX8_readAll 18 = .ok (.putfield 164, 3) := by decide +kernel
theorem dX8_readAll_21 : decode cX8_readAll 21 = .ok (.aload_n 0, 1) := by decide +kernel
theorem dX8_readAll_22 : decode cX8_readAll 22 = .ok (.iconst 0, 1) := by decide +kernel
theorem dX8_readAll_23 : decode cX8_readAll 23 = .ok (.putfield 167, 3) := by decide +kernel
theorem dX8_readAll_26 : decode cX8_readAll 26 = .ok (.iconst 1, 1) := by decide +kernel
theorem dX8_readAll_27 : decode cX8_readAll 27 = .ok (.istore_n 1, 1) := by decide +kernel
theorem dX8_readAll_28 : decode cX8_readAll 28 = .ok (.aload_n 0, 1) := by decide +kernel
theorem dX8_readAll_29 : decode cX8_readAll 29 = .ok (.invokevirtual 173, 3) := by decide +kernel
theorem dX8_readAll_32 : decode cX8_readAll 32 = .ok (.iload_n 1, 1) := by decide +kernel
theorem dX8_readAll_33 : decode cX8_readAll 33 = .ok (.bipush 10, 2) := by decide +kernel
theorem dX8_readAll_35 : decode cX8_readAll 35 = .ok (.if_icmp .ge 32, 3) := by decide +kernel
theorem dX8_readAll_38 : decode cX8_readAll 38 = .ok (.aload_n 0, 1) := by decide +kernel
theorem dX8_readAll_39 : decode cX8_readAll 39 = .ok (.bipush 59, 2) := by decide +kernel
theorem dX8_readAll_41 : decode cX8_readAll 41 = .ok (.invokevirtual 134, 3) := by decide +kernel
theorem dX8_readAll_44 : decode cX8_readAll 44 = .ok (.ifCond .eq 23, 3) := by decide +kernel
theorem dX8_readAll_47 : decode cX8_readAll 47 = .ok (.aload_n 0, 1) := by decide +kernel
theorem dX8_readAll_48 : decode cX8_readAll 48 = .ok (.dup, 1) := by decide +kernel
theorem dX8_readAll_49 : decode cX8_readAll 49 = .ok (.getfield 128, 3) := by decide +kernel
theorem dX8_readAll_52 : decode cX8_readAll 52 = .ok (.iconst 1, 1) := by decide +kernel
theorem dX8_readAll_53 : decode cX8_readAll 53 = .ok (.iadd, 1) := by decide +kernel
theorem dX8_readAll_54 : decode cX8_readAll 54 = .ok (.putfield 128, 3) := by decide +kernel
theorem dX8_readAll_57 : decode cX8_readAll 57 = .ok (.aload_n 0, 1) := by decide +kernel
theorem dX8_readAll_58 : decode cX8_readAll 58 = .ok (.invokevirtual 173, 3) := by decide +kernel
theorem dX8_readAll_61 : decode cX8_readAll 61 = .ok (.iinc 1 1, 3) := by decide +kernel
theorem dX8_readAll_64 : decode cX8_readAll 64 = .ok (.goto (-32), 3) := by decide +kernel
theorem dX8_readAll_67 : decode cX8_readAll 67 = .ok (.aload_n 0, 1) := by decide +kernel
theorem dX8_readAll_68 : decode cX8_readAll 68 = .ok (.getfield 125, 3) := by decide +kernel
theorem dX8_readAll_71 : decode cX8_readAll 71 = .ok (.ifCond .eq 18, 3) := by decide +kernel
theorem dX8_readAll_74 : decode cX8_readAll 74 = .ok (.aload_n 0, 1) := by decide +kernel
theorem dX8_readAll_75 : decode cX8_readAll 75 = .ok (.getfield 128, 3) := by decide +kernel
theorem dX8_readAll_78 : decode cX8_readAll 78 = .ok (.aload_n 0, 1) := by decide +kernel
theorem dX8_readAll_79 : decode cX8_readAll 79 = .ok (.getfield 131, 3) := by decide +kernel
theorem dX8_readAll_82 : decode cX8_readAll 82 = .ok (.if_icmp .ne 7, 3) := by decide +kernel
theorem dX8_readAll_85 : decode cX8_readAll 85 = .ok (.iconst 1, 1) := by decide +kernel
theorem dX8_readAll_86 : decode cX8_readAll 86 = .ok (.goto 4, 3) := by decide +kernel
theorem dX8_readAll_89 : decode cX8_readAll 89 = .ok (.iconst 0, 1) := by decide +kernel
theorem dX8_readAll_90 : decode cX8_readAll 90 = .ok (.ireturn, 1) := by decide +kernel
theorem dX8_readFor_0 : decode cX8_readFor 0 = .ok (.aload_n 0, 1) := by decide +kernel
theorem dX8_readFor_1 : decode cX8_readFor 1 = .ok (.getfield 33, 3) := by decide +kernel
theorem dX8_readFor_4 : decode cX8_readFor 4 = .ok (.iconst 0, 1) := by decide +kernel
theorem dX8_readFor_5 : decode cX8_readFor 5 = .ok (.iload_n 1, 1) := by decide +kernel
theorem dX8_readFor_6 : decode cX8_readFor 6 = .ok (.iastore, 1) := by decide +kernel
theorem dX8_readFor_7 : decode cX8_readFor 7 = .ok (.aload_n 0, 1) := by decide +kernel
theorem dX8_readFor_8 : decode cX8_readFor 8 = .ok (.getfield 33, 3) := by decide +kernel
theorem dX8_readFor_11 : decode cX8_readFor 11 = .ok (.iconst 1, 1) := by decide +kernel
theorem dX8_readFor_12 : decode cX8_readFor 12 = .ok (.aload_n 0, 1) := by decide +kernel
theorem dX8_readFor_13 : decode cX8_readFor 13 = .ok (.iload_n 1, 1) := by decide +kernel
theorem dX8_readFor_14 : decode cX8_readFor 14 = .ok (.iconst 0, 1) := by decide +kernel
theorem dX8_readFor_15 : decode cX8_readFor 15 = .ok (.invokevirtual 82, 3) := by decide +kernel
theorem dX8_readFor_18 : decode cX8_readFor 18 = .ok (.iastore, 1) := by decide +kernel
theorem dX8_readFor_19 : decode cX8_readFor 19 = .ok (.aload_n 0, 1) := by decide +kernel
theorem dX8_readFor_20 : decode cX8_readFor 20 = .ok (.getfield 33, 3) := by decide +kernel
theorem dX8_readFor_23 : decode cX8_readFor 23 = .ok (.iconst 2, 1) := by decide +kernel
theorem dX8_readFor_24 : decode cX8_readFor 24 = .ok (.aload_n 0, 1) := by decide +kernel
theorem dX8_readFor_25 : decode cX8_readFor 25 = .ok (.iload_n 1, 1) := by decide +kernel
theorem dX8_readFor_26 : decode cX8_readFor 26 = .ok (.iconst 1, 1) := by decide +kernel
theorem dX8_readFor_27 : decode cX8_readFor 27 = .ok (.invokevirtual 82, 3) := by decide +kernel
theorem dX8_readFor_30 : decode cX8_readFor 30 = .ok (.iastore, 1) := by decide +kernel
theorem dX8_readFor_31 : decode cX8_readFor 31 = .ok (.aload_n 0, 1) := by decide +kernel
theorem dX8_readFor_32 : decode cX8_readFor 32 = .ok (.getfield 33, 3) := by decide +kernel
theorem dX8_readFor_35 : decode cX8_readFor 35 = .ok (.iconst 3, 1) := by decide +kernel
theorem dX8_readFor_36 : decode cX8_readFor 36 = .ok (.iload_n 2, 1) := by decide +kernel
theorem dX8_readFor_37 : decode cX8_readFor 37 = .ok (.iastore, 1) := by decide +kernel
theorem dX8_readFor_38 : decode cX8_readFor 38 = .ok (.aload_n 0, 1) := by decide +kernel
theorem dX8_readFor_39 : decode cX8_readFor 39 = .ok (.getfield 33, 3) := by decide +kernel
theorem dX8_readFor_42 : decode cX8_readFor 42 = .ok (.iconst 4, 1) := by decide +kernel
theorem dX8_readFor_43 : decode cX8_readFor 43 = .ok (.aload_n 0, 1) := by decide +kernel
theorem dX8_readFor_44 : decode cX8_readFor 44 = .ok (.iload_n 1, 1) := by decide +kernel
theorem dX8_readFor_45 : decode cX8_readFor 45 = .ok (.iconst 4, 1) := by decide +kernel
theorem dX8_readFor_46 : decode cX8_readFor 46 = .ok (.invokevirtual 82, 3) := by decide +kernel
theorem dX8_readFor_49 : decode cX8_readFor 49 = .ok (.iastore, 1) := by decide +kernel
theorem dX8_readFor_50 : decode cX8_readFor 50 = .ok (.aload_n 0, 1) := by decide +kernel
theorem dX8_readFor_51 : decode cX8_readFor 51 = .ok (.getfield 33, 3) := by decide +kernel
theorem dX8_readFor_54 : decode cX8_readFor 54 = .ok (.iconst 5, 1) := by decide +kernel
theorem dX8_readFor_55 : decode cX8_readFor 55 = .ok (.aload_n 0, 1) := by decide +kernel
theorem dX8_readFor_56 : decode cX8_readFor 56 = .ok (.getfield 9, 3) := by decide +kernel
theorem dX8_readFor_59 : decode cX8_readFor 59 = .ok (.bipush 77, 2) := by decide +kernel
theorem dX8_readFor_61 : decode cX8_readFor 61 = .ok (.iaload, 1) := by decide +kernel
theorem dX8_readFor_62 : decode cX8_readFor 62 = .ok (.bipush 10, 2) := by decide +kernel
theorem dX8_readFor_64 : decode cX8_readFor 64 = .ok (.irem, 1) := by decide +kernel
theorem dX8_readFor_65 : decode cX8_readFor 65 = .ok (.iastore, 1) := by decide +kernel
theorem dX8_readFor_66 : decode cX8_readFor 66 = .ok (.aload_n 0, 1) := by decide +kernel
theorem dX8_readFor_67 : decode cX8_readFor 67 = .ok (.getfield 9, 3) := by decide +kernel
theorem dX8_readFor_70 : decode cX8_readFor 70 = .ok (.bipush 78, 2) := by decide +kernel
theorem dX8_readFor_72 : decode cX8_readFor 72 = .ok (.iaload, 1) := by decide +kernel
theorem dX8_readFor_73 : decode cX8_readFor 73 = .ok (.ifCond .ne 20, 3) := by decide +kernel
theorem dX8_readFor_76 : decode cX8_readFor 76 = .ok (.aload_n 0, 1) := by decide +kernel
theorem dX8_readFor_77 : decode cX8_readFor 77 = .ok (.iconst 0, 1) := by decide +kernel
theorem dX8_readFor_78 : decode cX8_readFor 78 = .ok (.putfield 170, 3) := by decide +kernel
theorem dX8_readFor_81 : decode cX8_readFor 81 = .ok (.aload_n 0, 1) := by decide +kernel
theorem dX8_readFor_82 : decode cX8_readFor 82 = .ok (.bipush 10, 2) := by decide +kernel
theorem dX8_readFor_84 : decode cX8_readFor 84 = .ok (.putfield 164, 3) := by decide +kernel
theorem dX8_readFor_87 : decode cX8_readFor 87 = .ok (.aload_n 0, 1) := by decide +kernel
theorem dX8_readFor_88 : decode cX8_readFor 88 = .ok (.iconst 0, 1) := by decide +kernel
theorem dX8_readFor_89 : decode cX8_readFor 89 = .ok (.putfield 167, 3) := by decide +kernel
theorem dX8_readFor_92 : decode cX8_readFor 92 = .ok (.return_, 1) := by decide +kernel
theorem dX8_readFor_93 : decode cX8_readFor 93 = .ok (.aload_n 0, 1) := by decide +kernel
theorem dX8_readFor_94 : decode cX8_readFor 94 = .ok (.getfield 9, 3) := by decide +kernel
theorem dX8_readFor_97 : decode cX8_readFor 97 = .ok (.bipush 78, 2) := by decide +kernel
theorem dX8_readFor_99 : decode cX8_readFor 99 = .ok (.iaload, 1) := by decide +kernel
theorem dX8_readFor_100 : decode cX8_readFor 100 = .ok (.iconst 1, 1) := by decide +kernel
theorem dX8_readFor_101 : decode cX8_readFor 101 = .ok (.isub, 1) := by decide +kernel
theorem dX8_readFor_102 : decode cX8_readFor 102 = .ok (.istore_n 3, 1) := by decide +kernel
theorem dX8_readFor_103 : decode cX8_readFor 103 = .ok (.aload_n 0, 1) := by decide +kernel
theorem dX8_readFor_104 : decode cX8_readFor 104 = .ok (.aload_n 0, 1) := by decide +kernel
theorem dX8_readFor_105 : decode cX8_readFor 105 = .ok (.getfield 27, 3) := by decide +kernel
theorem dX8_readFor_108 : decode cX8_readFor 108 = .ok (.iload_n 3, 1) := by decide +kernel
theorem dX8_readFor_109 : decode cX8_readFor 109 = .ok (.iaload, 1) := by decide +kernel
theorem dX8_readFor_110 : decode cX8_readFor 110 = .ok (.putfield 131, 3) := by decide +kernel
theorem dX8_readFor_113 : decode cX8_readFor 113 = .ok (.iconst 0, 1) := by decide +kernel
theorem dX8_readFor_114 : decode cX8_readFor 114 = .ok (.istore 4, 2) := by decide +kernel
theorem dX8_readFor_116 : decode cX8_readFor 116 = .ok (.iload 4, 2) := by decide +kernel
theorem dX8_readFor_118 : decode cX8_readFor 118 = .ok (.aload_n 0, 1) := by decide +kernel
theorem dX8_readFor_119 : decode cX8_readFor 119 = .ok (.getfield 131, 3) := by decide +kernel
theorem dX8_readFor_122 : decode cX8_readFor 122 = .ok (.if_icmp .ge 28, 3) := by decide +kernel
theorem dX8_readFor_125 : decode cX8_readFor 125 = .ok (.aload_n 0, 1) := by decide +kernel
theorem dX8_readFor_126 : decode cX8_readFor 126 = .ok (.getfield 30, 3) := by decide +kernel
theorem dX8_readFor_129 : decode cX8_readFor 129 = .ok (.iload 4, 2) := by decide +kernel
theorem dX8_readFor_131 : decode cX8_readFor 131 = .ok (.aload_n 0, 1) := by decide +kernel
theorem dX8_readFor_132 : decode cX8_readFor 132 = .ok (.getfield 24, 3) := by decide +kernel
theorem dX8_readFor_135 : decode cX8_readFor 135 = .ok (.bipush 100, 2) := by decide +kernel
theorem dX8_readFor_137 : decode cX8_readFor 137 = .ok (.iload_n 3, 1) := by decide +kernel
theorem dX8_readFor_138 : decode cX8_readFor 138 = .ok (.imul, 1) := by decide +kernel
theorem dX8_readFor_139 : decode cX8_readFor 139 = .ok (.iload 4, 2) := by decide +kernel
theorem dX8_readFor_141 : decode cX8_readFor 141 = .ok (.iadd, 1) := by decide +kernel
theorem dX8_readFor_142 : decode cX8_readFor 142 = .ok (.iaload, 1) := by decide +kernel
theorem dX8_readFor_143 : decode cX8_readFor 143 = .ok (.iastore, 1) := by decide +kernel
theorem dX8_readFor_144 : decode cX8_readFor 144 = .ok (.iinc 4 1, 3) := by decide +kernel
theorem dX8_readFor_147 : decode cX8_readFor 147 = .ok (.goto (-31), 3) := by decide +kernel
theorem dX8_readFor_150 : decode cX8_readFor 150 = .ok (.aload_n 0, 1) := by decide +kernel
theorem dX8_readFor_151 : decode cX8_readFor 151 = .ok (.invokevirtual 176, 3) := by decide +kernel
theorem dX8_readFor_154 : decode cX8_readFor 154 = .ok (.pop, 1) := by decide +kernel
theorem dX8_readFor_155 : decode cX8_readFor 155 = .ok (.return_, 1) := by decide +kernel
theorem dX8_house_0 : decode cX8_house 0 = .ok (.aload_n 0, 1) := by decide +kernel
theorem dX8_house_1 : decode cX8_house 1 = .ok (.getfield 179, 3) := by decide +kernel
theorem dX8_house_4 : decode cX8_house 4 = .ok (.bipush 6, 2) := by decide +kernel
theorem dX8_house_6 : decode cX8_house 6 = .ok (.if_icmp .ne 6, 3) := by decide +kernel
theorem dX8_house_9 : decode cX8_house 9 = .ok (.bipush (-4), 2) := by decide +kernel
theorem dX8_house_11 : decode cX8_house 11 = .ok (.ireturn, 1) := by decide +kernel
theorem dX8_house_12 : decode cX8_house 12 = .ok (.aload_n 0, 1) := by decide +kernel
theorem dX8_house_13 : decode cX8_house 13 = .ok (.aload_n 0, 1) := by decide +kernel
theorem dX8_house_14 : decode cX8_house 14 = .ok (.getfield 121, 3) := by decide +kernel
theorem dX8_house_17 : decode cX8_house 17 = .ok (.putfield 131, 3) := by decide +kernel
theorem dX8_house_20 : decode cX8_house 20 = .ok (.iconst 0, 1) := by decide +kernel
theorem dX8_house_21 : decode cX8_house 21 = .ok (.istore_n 1, 1) := by decide +kernel
theorem dX8_house_22 : decode cX8_house 22 = .ok (.iload_n 1, 1) := by decide +kernel
theorem dX8_house_23 : decode cX8_house 23 = .ok (.aload_n 0, 1) := by decide +kernel
theorem dX8_house_24 : decode cX8_house 24 = .ok (.getfield 131, 3) := by decide +kernel
theorem dX8_house_27 : decode cX8_house 27 = .ok (.if_icmp .ge 21, 3) := by decide +kernel
theorem dX8_house_30 : decode cX8_house 30 = .ok (.aload_n 0, 1) := by decide +kernel
theorem dX8_house_31 : decode cX8_house 31 = .ok (.getfield 30, 3) := by decide +kernel
theorem dX8_house_34 : decode cX8_house 34 = .ok (.iload_n 1, 1) := by decide +kernel
theorem dX8_house_35 : decode cX8_house 35 = .ok (.aload_n 0, 1) := by decide +kernel
theorem dX8_house_36 : decode cX8_house 36 = .ok (.getfield 21, 3) := by decide +kernel
theorem dX8_house_39 : decode cX8_house 39 = .ok (.iload_n 1, 1) := by decide +kernel
theorem dX8_house_40 : decode cX8_house 40 = .ok (.iaload, 1) := by decide +kernel
theorem dX8_house_41 : decode cX8_house 41 = .ok (.iastore, 1) := by decide +kernel
theorem dX8_house_42 : decode cX8_house 42 = .ok (.iinc 1 1, 3) := by decide +kernel
theorem dX8_house_45 : decode cX8_house 45 = .ok (.goto (-23), 3) := by decide +kernel
theorem dX8_house_48 : decode cX8_house 48 = .ok (.aload_n 0, 1) := by decide +kernel
theorem dX8_house_49 : decode cX8_house 49 = .ok (.iconst 0, 1) := by decide +kernel
theorem dX8_house_50 : decode cX8_house 50 = .ok (.putfield 121, 3) := by decide +kernel
theorem dX8_house_53 : decode cX8_house 53 = .ok (.aload_n 0, 1) := by decide +kernel
theorem dX8_house_54 : decode cX8_house 54 = .ok (.invokevirtual 176, 3) := by decide +kernel
theorem dX8_house_57 : decode cX8_house 57 = .ok (.ifCond .ne 11, 3) := by decide +kernel
theorem dX8_house_60 : decode cX8_house 60 = .ok (.bipush (-10), 2) := by decide +kernel
theorem dX8_house_62 : decode cX8_house 62 = .ok (.aload_n 0, 1) := by decide +kernel
theorem dX8_house_63 : decode cX8_house 63 = .ok (.getfield 128, 3) := by decide +kernel
theorem dX8_house_66 : decode cX8_house 66 = .ok (.isub, 1) := by decide +kernel
theorem dX8_house_67 : decode cX8_house 67 = .ok (.ireturn, 1) := by decide +kernel
theorem dX8_house_68 : decode cX8_house 68 = .ok (.iconst 0, 1) := by decide +kernel
theorem dX8_house_69 : decode cX8_house 69 = .ok (.istore_n 1, 1) := by decide +kernel
theorem dX8_house_70 : decode cX8_house 70 = .ok (.iload_n 1, 1) := by decide +kernel
theorem dX8_house_71 : decode cX8_house 71 = .ok (.aload_n 0, 1) := by decide +kernel
theorem dX8_house_72 : decode cX8_house 72 = .ok (.getfield 131, 3) := by decide +kernel
theorem dX8_house_75 : decode cX8_house 75 = .ok (.if_icmp .ge 29, 3) := by decide +kernel
theorem dX8_house_78 : decode cX8_house 78 = .ok (.aload_n 0, 1) := by decide +kernel
theorem dX8_house_79 : decode cX8_house 79 = .ok (.getfield 24, 3) := by decide +kernel
theorem dX8_house_82 : decode cX8_house 82 = .ok (.bipush 100, 2) := by decide +kernel
theorem dX8_house_84 : decode cX8_house 84 = .ok (.aload_n 0, 1) := by decide +kernel
theorem dX8_house_85 : decode cX8_house 85 = .ok (.getfield 179, 3) := by decide +kernel
theorem dX8_house_88 : decode cX8_house 88 = .ok (.imul, 1) := by decide +kernel
theorem dX8_house_89 : decode cX8_house 89 = .ok (.iload_n 1, 1) := by decide +kernel
theorem dX8_house_90 : decode cX8_house 90 = .ok (.iadd, 1) := by decide +kernel
theorem dX8_house_91 : decode cX8_house 91 = .ok (.aload_n 0, 1) := by decide +kernel
theorem dX8_house_92 : decode cX8_house 92 = .ok (.getfield 30, 3) := by decide +kernel
theorem dX8_house_95 : decode cX8_house 95 = .ok (.iload_n 1, 1) := by decide +kernel
theorem dX8_house_96 : decode cX8_house 96 = .ok (.iaload, 1) := by decide +kernel
theorem dX8_house_97 : decode cX8_house 97 = .ok (.iastore, 1) := by decide +kernel
theorem dX8_house_98 : decode cX8_house 98 = .ok (.iinc 1 1, 3) := by decide +kernel
theorem dX8_house_101 : decode cX8_house 101 = .ok (.goto (-31), 3) := by decide +kernel
theorem dX8_house_104 : decode cX8_house 104 = .ok (.aload_n 0, 1) := by decide +kernel
theorem dX8_house_105 : decode cX8_house 105 = .ok (.getfield 27, 3) := by decide +kernel
theorem dX8_house_108 : decode cX8_house 108 = .ok (.aload_n 0, 1) := by decide +kernel
theorem dX8_house_109 : decode cX8_house 109 = .ok (.getfield 179, 3) := by decide +kernel
theorem dX8_house_112 : decode cX8_house 112 = .ok (.aload_n 0, 1) := by decide +kernel
theorem dX8_house_113 : decode cX8_house 113 = .ok (.getfield 131, 3) := by decide +kernel
theorem dX8_house_116 : decode cX8_house 116 = .ok (.iastore, 1) := by decide +kernel
theorem dX8_house_117 : decode cX8_house 117 = .ok (.aload_n 0, 1) := by decide +kernel
theorem dX8_house_118 : decode cX8_house 118 = .ok (.dup, 1) := by decide +kernel
theorem dX8_house_119 : decode cX8_house 119 = .ok (.getfield 179, 3) := by decide +kernel
theorem dX8_house_122 : decode cX8_house 122 = .ok (.iconst 1, 1) := by decide +kernel
theorem dX8_house_123 : decode cX8_house 123 = .ok (.iadd, 1) := by decide +kernel
theorem dX8_house_124 : decode cX8_house 124 = .ok (.putfield 179, 3) := by decide +kernel
theorem dX8_house_127 : decode cX8_house 127 = .ok (.aload_n 0, 1) := by decide +kernel
theorem dX8_house_128 : decode cX8_house 128 = .ok (.getfield 9, 3) := by decide +kernel
theorem dX8_house_131 : decode cX8_house 131 = .ok (.bipush 78, 2) := by decide +kernel
theorem dX8_house_133 : decode cX8_house 133 = .ok (.aload_n 0, 1) := by decide +kernel
theorem dX8_house_134 : decode cX8_house 134 = .ok (.getfield 179, 3) := by decide +kernel
theorem dX8_house_137 : decode cX8_house 137 = .ok (.iastore, 1) := by decide +kernel
theorem dX8_house_138 : decode cX8_house 138 = .ok (.aload_n 0, 1) := by decide +kernel
theorem dX8_house_139 : decode cX8_house 139 = .ok (.getfield 179, 3) := by decide +kernel
theorem dX8_house_142 : decode cX8_house 142 = .ok (.iconst 1, 1) := by decide +kernel
theorem dX8_house_143 : decode cX8_house 143 = .ok (.isub, 1) := by decide +kernel
theorem dX8_house_144 : decode cX8_house 144 = .ok (.ireturn, 1) := by decide +kernel
theorem dX8_helps_0 : decode cX8_helps 0 = .ok (.aload_n 0, 1) := by decide +kernel
theorem dX8_helps_1 : decode cX8_helps 1 = .ok (.iload_n 1, 1) := by decide +kernel
theorem dX8_helps_2 : decode cX8_helps 2 = .ok (.iload_n 2, 1) := by decide +kernel
theorem dX8_helps_3 : decode cX8_helps 3 = .ok (.invokevirtual 182, 3) := by decide +kernel
theorem dX8_helps_6 : decode cX8_helps 6 = .ok (.aload_n 0, 1) := by decide +kernel
theorem dX8_helps_7 : decode cX8_helps 7 = .ok (.getfield 170, 3) := by decide +kernel
theorem dX8_helps_10 : decode cX8_helps 10 = .ok (.ireturn, 1) := by decide +kernel
theorem dX8_needNow_0 : decode cX8_needNow 0 = .ok (.aload_n 0, 1) := by decide +kernel
theorem dX8_needNow_1 : decode cX8_needNow 1 = .ok (.iconst 0, 1) := by decide +kernel
theorem dX8_needNow_2 : decode cX8_needNow 2 = .ok (.iconst 0, 1) := by decide +kernel
theorem dX8_needNow_3 : decode cX8_needNow 3 = .ok (.invokevirtual 182, 3) := by decide +kernel
theorem dX8_needNow_6 : decode cX8_needNow 6 = .ok (.aload_n 0, 1) := by decide +kernel
theorem dX8_needNow_7 : decode cX8_needNow 7 = .ok (.getfield 164, 3) := by decide +kernel
theorem dX8_needNow_10 : decode cX8_needNow 10 = .ok (.ireturn, 1) := by decide +kernel
theorem dX8_ageNow_0 : decode cX8_ageNow 0 = .ok (.aload_n 0, 1) := by decide +kernel
theorem dX8_ageNow_1 : decode cX8_ageNow 1 = .ok (.iconst 0, 1) := by decide +kernel
theorem dX8_ageNow_2 : decode cX8_ageNow 2 = .ok (.iconst 0, 1) := by decide +kernel
theorem dX8_ageNow_3 : decode cX8_ageNow 3 = .ok (.invokevirtual 182, 3) := by decide +kernel
theorem dX8_ageNow_6 : decode cX8_ageNow 6 = .ok (.aload_n 0, 1) := by decide +kernel
theorem dX8_ageNow_7 : decode cX8_ageNow 7 = .ok (.getfield 167, 3) := by decide +kernel
theorem dX8_ageNow_10 : decode cX8_ageNow 10 = .ok (.ireturn, 1) := by decide +kernel
theorem dX8_likeTo_0 : decode cX8_likeTo 0 = .ok (.iload 4, 2) := by decide +kernel
theorem dX8_likeTo_2 : decode cX8_likeTo 2 = .ok (.bipush 12, 2) := by decide +kernel
theorem dX8_likeTo_4 : decode cX8_likeTo 4 = .ok (.iadd, 1) := by decide +kernel
theorem dX8_likeTo_5 : decode cX8_likeTo 5 = .ok (.aload_n 0, 1) := by decide +kernel
theorem dX8_likeTo_6 : decode cX8_likeTo 6 = .ok (.iload_n 1, 1) := by decide +kernel
theorem dX8_likeTo_7 : decode cX8_likeTo 7 = .ok (.iconst 2, 1) := by decide +kernel
theorem dX8_likeTo_8 : decode cX8_likeTo 8 = .ok (.invokevirtual 82, 3) := by decide +kernel
theorem dX8_likeTo_11 : decode cX8_likeTo 11 = .ok (.iload_n 3, 1) := by decide +kernel
theorem dX8_likeTo_12 : decode cX8_likeTo 12 = .ok (.ixor, 1) := by decide +kernel
theorem dX8_likeTo_13 : decode cX8_likeTo 13 = .ok (.invokestatic 186, 3) := by decide +kernel
theorem dX8_likeTo_16 : decode cX8_likeTo 16 = .ok (.isub, 1) := by decide +kernel
theorem dX8_likeTo_17 : decode cX8_likeTo 17 = .ok (.istore 5, 2) := by decide +kernel
theorem dX8_likeTo_19 : decode cX8_likeTo 19 = .ok (.aload_n 0, 1) := by decide +kernel
theorem dX8_likeTo_20 : decode cX8_likeTo 20 = .ok (.iload_n 1, 1) := by decide +kernel
theorem dX8_likeTo_21 : decode cX8_likeTo 21 = .ok (.iconst 3, 1) := by decide +kernel
theorem dX8_likeTo_22 : decode cX8_likeTo 22 = .ok (.invokevirtual 82, 3) := by decide +kernel
theorem dX8_likeTo_25 : decode cX8_likeTo 25 = .ok (.iload_n 2, 1) := by decide +kernel
theorem dX8_likeTo_26 : decode cX8_likeTo 26 = .ok (.if_icmp .ne 8, 3) := by decide +kernel
theorem dX8_likeTo_29 : decode cX8_likeTo 29 = .ok (.iload 5, 2) := by decide +kernel
theorem dX8_likeTo_31 : decode cX8_likeTo 31 = .ok (.goto 4, 3) := by decide +kernel
theorem dX8_likeTo_34 : decode cX8_likeTo 34 = .ok (.iconst 0, 1) := by decide +kernel
theorem dX8_likeTo_35 : decode cX8_likeTo 35 = .ok (.istore 6, 2) := by decide +kernel
theorem dX8_likeTo_37 : decode cX8_likeTo 37 = .ok (.aload_n 0, 1) := by decide +kernel
theorem dX8_likeTo_38 : decode cX8_likeTo 38 = .ok (.iload_n 1, 1) := by decide +kernel
theorem dX8_likeTo_39 : decode cX8_likeTo 39 = .ok (.iconst 0, 1) := by decide +kernel
theorem dX8_likeTo_40 : decode cX8_likeTo 40 = .ok (.invokevirtual 82, 3) := by decide +kernel
theorem dX8_likeTo_43 : decode cX8_likeTo 43 = .ok (.tableswitch 112 1 6 #[37, 47, 54, 57, 83, 97], 37) := by decide +kernel
theorem dX8_likeTo_80 : decode cX8_likeTo 80 = .ok (.iload 5, 2) := by decide +kernel
theorem dX8_likeTo_82 : decode cX8_likeTo 82 = .ok (.aload_n 0, 1) := by decide +kernel
theorem dX8_likeTo_83 : decode cX8_likeTo 83 = .ok (.iload_n 1, 1) := by decide +kernel
theorem dX8_likeTo_84 : decode cX8_likeTo 84 = .ok (.iconst 1, 1) := by decide +kernel
theorem dX8_likeTo_85 : decode cX8_likeTo 85 = .ok (.invokevirtual 82, 3) := by decide +kernel
theorem dX8_likeTo_88 : decode cX8_likeTo 88 = .ok (.iadd, 1) := by decide +kernel
theorem dX8_likeTo_89 : decode cX8_likeTo 89 = .ok (.ireturn, 1) := by decide +kernel
theorem dX8_likeTo_90 : decode cX8_likeTo 90 = .ok (.iload 5, 2) := by decide +kernel
theorem dX8_likeTo_92 : decode cX8_likeTo 92 = .ok (.iconst 2, 1) := by decide +kernel
theorem dX8_likeTo_93 : decode cX8_likeTo 93 = .ok (.idiv, 1) := by decide +kernel
theorem dX8_likeTo_94 : decode cX8_likeTo 94 = .ok (.iconst 4, 1) := by decide +kernel
theorem dX8_likeTo_95 : decode cX8_likeTo 95 = .ok (.iadd, 1) := by decide +kernel
theorem dX8_likeTo_96 : decode cX8_likeTo 96 = .ok (.ireturn, 1) := by decide +kernel
theorem dX8_likeTo_97 : decode cX8_likeTo 97 = .ok (.iload 6, 2) := by decide +kernel
theorem dX8_likeTo_99 : decode cX8_likeTo 99 = .ok (.ireturn, 1) := by decide +kernel
theorem dX8_likeTo_100 : decode cX8_likeTo 100 = .ok (.iload 5, 2) := by decide +kernel
theorem dX8_likeTo_102 : decode cX8_likeTo 102 = .ok (.aload_n 0, 1) := by decide +kernel
theorem dX8_likeTo_103 : decode cX8_likeTo 103 = .ok (.iload_n 1, 1) := by decide +kernel
theorem dX8_likeTo_104 : decode cX8_likeTo 104 = .ok (.iconst 1, 1) := by decide +kernel
theorem dX8_likeTo_105 : decode cX8_likeTo 105 = .ok (.invokevirtual 82, 3) := by decide +kernel
theorem dX8_likeTo_108 : decode cX8_likeTo 108 = .ok (.iadd, 1) := by decide +kernel
theorem dX8_likeTo_109 : decode cX8_likeTo 109 = .ok (.bipush 9, 2) := by decide +kernel
theorem dX8_likeTo_111 : decode cX8_likeTo 111 = .ok (.aload_n 0, 1) := by decide +kernel
theorem dX8_likeTo_112 : decode cX8_likeTo 112 = .ok (.getfield 9, 3) := by decide +kernel
theorem dX8_likeTo_115 : decode cX8_likeTo 115 = .ok (.bipush 77, 2) := by decide +kernel
theorem dX8_likeTo_117 : decode cX8_likeTo 117 = .ok (.iaload, 1) := by decide +kernel
theorem dX8_likeTo_118 : decode cX8_likeTo 118 = .ok (.bipush 10, 2) := by decide +kernel
theorem dX8_likeTo_120 : decode cX8_likeTo 120 = .ok (.idiv, 1) := by decide +kernel
theorem dX8_likeTo_121 : decode cX8_likeTo 121 = .ok (.invokestatic 189, 3) := by decide +kernel
theorem dX8_likeTo_124 : decode cX8_likeTo 124 = .ok (.isub, 1) := by decide +kernel
theorem dX8_likeTo_125 : decode cX8_likeTo 125 = .ok (.ireturn, 1) := by decide +kernel
theorem dX8_likeTo_126 : decode cX8_likeTo 126 = .ok (.iload 5, 2) := by decide +kernel
theorem dX8_likeTo_128 : decode cX8_likeTo 128 = .ok (.iconst 2, 1) := by decide +kernel
theorem dX8_likeTo_129 : decode cX8_likeTo 129 = .ok (.idiv, 1) := by decide +kernel
theorem dX8_likeTo_130 : decode cX8_likeTo 130 = .ok (.iconst 4, 1) := by decide +kernel
theorem dX8_likeTo_131 : decode cX8_likeTo 131 = .ok (.iadd, 1) := by decide +kernel
theorem dX8_likeTo_132 : decode cX8_likeTo 132 = .ok (.aload_n 0, 1) := by decide +kernel
theorem dX8_likeTo_133 : decode cX8_likeTo 133 = .ok (.iload_n 1, 1) := by decide +kernel
theorem dX8_likeTo_134 : decode cX8_likeTo 134 = .ok (.iconst 4, 1) := by decide +kernel
theorem dX8_likeTo_135 : decode cX8_likeTo 135 = .ok (.invokevirtual 82, 3) := by decide +kernel
theorem dX8_likeTo_138 : decode cX8_likeTo 138 = .ok (.iadd, 1) := by decide +kernel
theorem dX8_likeTo_139 : decode cX8_likeTo 139 = .ok (.ireturn, 1) := by decide +kernel
theorem dX8_likeTo_140 : decode cX8_likeTo 140 = .ok (.iload 6, 2) := by decide +kernel
theorem dX8_likeTo_142 : decode cX8_likeTo 142 = .ok (.aload_n 0, 1) := by decide +kernel
theorem dX8_likeTo_143 : decode cX8_likeTo 143 = .ok (.iload_n 1, 1) := by decide +kernel
theorem dX8_likeTo_144 : decode cX8_likeTo 144 = .ok (.bipush 6, 2) := by decide +kernel
theorem dX8_likeTo_146 : decode cX8_likeTo 146 = .ok (.iload_n 2, 1) := by decide +kernel
theorem dX8_likeTo_147 : decode cX8_likeTo 147 = .ok (.iconst 4, 1) := by decide +kernel
theorem dX8_likeTo_148 : decode cX8_likeTo 148 = .ok (.irem, 1) := by decide +kernel
theorem dX8_likeTo_149 : decode cX8_likeTo 149 = .ok (.iadd, 1) := by decide +kernel
theorem dX8_likeTo_150 : decode cX8_likeTo 150 = .ok (.invokevirtual 82, 3) := by decide +kernel
theorem dX8_likeTo_153 : decode cX8_likeTo 153 = .ok (.iadd, 1) := by decide +kernel
theorem dX8_likeTo_154 : decode cX8_likeTo 154 = .ok (.ireturn, 1) := by decide +kernel
theorem dX8_likeTo_155 : decode cX8_likeTo 155 = .ok (.iload 5, 2) := by decide +kernel
theorem dX8_likeTo_157 : decode cX8_likeTo 157 = .ok (.ireturn, 1) := by decide +kernel
theorem dX8_lets_0 : decode cX8_lets 0 = .ok (.aload_n 0, 1) := by decide +kernel
theorem dX8_lets_1 : decode cX8_lets 1 = .ok (.iload_n 1, 1) := by decide +kernel
theorem dX8_lets_2 : decode cX8_lets 2 = .ok (.iload_n 2, 1) := by decide +kernel
theorem dX8_lets_3 : decode cX8_lets 3 = .ok (.invokevirtual 114, 3) := by decide +kernel
theorem dX8_lets_6 : decode cX8_lets 6 = .ok (.istore_n 3, 1) := by decide +kernel
theorem dX8_lets_7 : decode cX8_lets 7 = .ok (.iconst 0, 1) := by decide +kernel
theorem dX8_lets_8 : decode cX8_lets 8 = .ok (.istore 4, 2) := by decide +kernel
theorem dX8_lets_10 : decode cX8_lets 10 = .ok (.iconst 0, 1) := by decide +kernel
theorem dX8_lets_11 : decode cX8_lets 11 = .ok (.istore 5, 2) := by decide +kernel
theorem dX8_lets_13 : decode cX8_lets 13 = .ok (.iload 5, 2) := by decide +kernel
theorem dX8_lets_15 : decode cX8_lets 15 = .ok (.aload_n 0, 1) := by decide +kernel
theorem dX8_lets_16 : decode cX8_lets 16 = .ok (.iload_n 2, 1) := by decide +kernel
theorem dX8_lets_17 : decode cX8_lets 17 = .ok (.invokevirtual 108, 3) := by decide +kernel
theorem dX8_lets_20 : decode cX8_lets 20 = .ok (.if_icmp .ge 42, 3) := by decide +kernel
theorem dX8_lets_23 : decode cX8_lets 23 = .ok (.iload 4, 2) := by decide +kernel
theorem dX8_lets_25 : decode cX8_lets 25 = .ok (.ifCond .ne 24, 3) := by decide +kernel
theorem dX8_lets_28 : decode cX8_lets 28 = .ok (.aload_n 0, 1) := by decide +kernel
theorem dX8_lets_29 : decode cX8_lets 29 = .ok (.iload_n 1, 1) := by decide +kernel
theorem dX8_lets_30 : decode cX8_lets 30 = .ok (.iload_n 2, 1) := by decide +kernel
theorem dX8_lets_31 : decode cX8_lets 31 = .ok (.aload_n 0, 1) := by decide +kernel
theorem dX8_lets_32 : decode cX8_lets 32 = .ok (.iload_n 2, 1) := by decide +kernel
theorem dX8_lets_33 : decode cX8_lets 33 = .ok (.iload 5, 2) := by decide +kernel
theorem dX8_lets_35 : decode cX8_lets 35 = .ok (.invokevirtual 111, 3) := by decide +kernel
theorem dX8_lets_38 : decode cX8_lets 38 = .ok (.iload_n 3, 1) := by decide +kernel
theorem dX8_lets_39 : decode cX8_lets 39 = .ok (.invokevirtual 117, 3) := by decide +kernel
theorem dX8_lets_42 : decode cX8_lets 42 = .ok (.aload_n 0, 1) := by decide +kernel
theorem dX8_lets_43 : decode cX8_lets 43 = .ok (.getfield 164, 3) := by decide +kernel
theorem dX8_lets_46 : decode cX8_lets 46 = .ok (.if_icmp .lt 7, 3) := by decide +kernel
theorem dX8_lets_49 : decode cX8_lets 49 = .ok (.iconst 1, 1) := by decide +kernel
theorem dX8_lets_50 : decode cX8_lets 50 = .ok (.goto 4, 3) := by decide +kernel
theorem dX8_lets_53 : decode cX8_lets 53 = .ok (.iconst 0, 1) := by decide +kernel
theorem dX8_lets_54 : decode cX8_lets 54 = .ok (.istore 4, 2) := by decide +kernel
theorem dX8_lets_56 : decode cX8_lets 56 = .ok (.iinc 5 1, 3) := by decide +kernel
theorem dX8_lets_59 : decode cX8_lets 59 = .ok (.goto (-46), 3) := by decide +kernel
theorem dX8_lets_62 : decode cX8_lets 62 = .ok (.iload 4, 2) := by decide +kernel
theorem dX8_lets_64 : decode cX8_lets 64 = .ok (.ireturn, 1) := by decide +kernel
theorem dX8_isBy_0 : decode cX8_isBy 0 = .ok (.aload_n 0, 1) := by decide +kernel
theorem dX8_isBy_1 : decode cX8_isBy 1 = .ok (.iload_n 1, 1) := by decide +kernel
theorem dX8_isBy_2 : decode cX8_isBy 2 = .ok (.aload_n 0, 1) := by decide +kernel
theorem dX8_isBy_3 : decode cX8_isBy 3 = .ok (.iload_n 1, 1) := by decide +kernel
theorem dX8_isBy_4 : decode cX8_isBy 4 = .ok (.iconst 3, 1) := by decide +kernel
theorem dX8_isBy_5 : decode cX8_isBy 5 = .ok (.invokevirtual 82, 3) := by decide +kernel
theorem dX8_isBy_8 : decode cX8_isBy 8 = .ok (.invokevirtual 101, 3) := by decide +kernel
theorem dX8_isBy_11 : decode cX8_isBy 11 = .ok (.ireturn, 1) := by decide +kernel
theorem dX8_nearest_0 : decode cX8_nearest 0 = .ok (.aload_n 0, 1) := by decide +kernel
theorem dX8_nearest_1 : decode cX8_nearest 1 = .ok (.iload_n 1, 1) := by decide +kernel
theorem dX8_nearest_2 : decode cX8_nearest 2 = .ok (.iload_n 2, 1) := by decide +kernel
theorem dX8_nearest_3 : decode cX8_nearest 3 = .ok (.invokevirtual 114, 3) := by decide +kernel
theorem dX8_nearest_6 : decode cX8_nearest 6 = .ok (.istore_n 3, 1) := by decide +kernel
theorem dX8_nearest_7 : decode cX8_nearest 7 = .ok (.bipush (-5), 2) := by decide +kernel
theorem dX8_nearest_9 : decode cX8_nearest 9 = .ok (.istore 4, 2) := by decide +kernel
theorem dX8_nearest_11 : decode cX8_nearest 11 = .ok (.iconst 0, 1) := by decide +kernel
theorem dX8_nearest_12 : decode cX8_nearest 12 = .ok (.istore 5, 2) := by decide +kernel
theorem dX8_nearest_14 : decode cX8_nearest 14 = .ok (.iconst 0, 1) := by decide +kernel
theorem dX8_nearest_15 : decode cX8_nearest 15 = .ok (.istore 6, 2) := by decide +kernel
theorem dX8_nearest_17 : decode cX8_nearest 17 = .ok (.iload 6, 2) := by decide +kernel
theorem dX8_nearest_19 : decode cX8_nearest 19 = .ok (.aload_n 0, 1) := by decide +kernel
theorem dX8_nearest_20 : decode cX8_nearest 20 = .ok (.iload_n 2, 1) := by decide +kernel
theorem dX8_nearest_21 : decode cX8_nearest 21 = .ok (.invokevirtual 108, 3) := by decide +kernel
theorem dX8_nearest_24 : decode cX8_nearest 24 = .ok (.if_icmp .ge 47, 3) := by decide +kernel
theorem dX8_nearest_27 : decode cX8_nearest 27 = .ok (.aload_n 0, 1) := by decide +kernel
theorem dX8_nearest_28 : decode cX8_nearest 28 = .ok (.iload_n 1, 1) := by decide +kernel
theorem dX8_nearest_29 : decode cX8_nearest 29 = .ok (.iload_n 2, 1) := by decide +kernel
theorem dX8_nearest_30 : decode cX8_nearest 30 = .ok (.aload_n 0, 1) := by decide +kernel
theorem dX8_nearest_31 : decode cX8_nearest 31 = .ok (.iload_n 2, 1) := by decide +kernel
theorem dX8_nearest_32 : decode cX8_nearest 32 = .ok (.iload 6, 2) := by decide +kernel
theorem dX8_nearest_34 : decode cX8_nearest 34 = .ok (.invokevirtual 111, 3) := by decide +kernel
theorem dX8_nearest_37 : decode cX8_nearest 37 = .ok (.iload_n 3, 1) := by decide +kernel
theorem dX8_nearest_38 : decode cX8_nearest 38 = .ok (.invokevirtual 117, 3) := by decide +kernel
theorem dX8_nearest_41 : decode cX8_nearest 41 = .ok (.istore 7, 2) := by decide +kernel
theorem dX8_nearest_43 : decode cX8_nearest 43 = .ok (.iload 4, 2) := by decide +kernel
theorem dX8_nearest_45 : decode cX8_nearest 45 = .ok (.bipush (-5), 2) := by decide +kernel
theorem dX8_nearest_47 : decode cX8_nearest 47 = .ok (.if_icmp .eq 10, 3) := by decide +kernel
theorem dX8_nearest_50 : decode cX8_nearest 50 = .ok (.iload 7, 2) := by decide +kernel
theorem dX8_nearest_52 : decode cX8_nearest 52 = .ok (.iload 5, 2) := by decide +kernel
theorem dX8_nearest_54 : decode cX8_nearest 54 = .ok (.if_icmp .le 11, 3) := by decide +kernel
theorem dX8_nearest_57 : decode cX8_nearest 57 = .ok (.iload 6, 2) := by decide +kernel
theorem dX8_nearest_59 : decode cX8_nearest 59 = .ok (.istore 4, 2) := by decide +kernel
theorem dX8_nearest_61 : decode cX8_nearest 61 = .ok (.iload 7, 2) := by decide +kernel
theorem dX8_nearest_63 : decode cX8_nearest 63 = .ok (.istore 5, 2) := by decide +kernel
theorem dX8_nearest_65 : decode cX8_nearest 65 = .ok (.iinc 6 1, 3) := by decide +kernel
theorem dX8_nearest_68 : decode cX8_nearest 68 = .ok (.goto (-51), 3) := by decide +kernel
theorem dX8_nearest_71 : decode cX8_nearest 71 = .ok (.iload 4, 2) := by decide +kernel
theorem dX8_nearest_73 : decode cX8_nearest 73 = .ok (.ireturn, 1) := by decide +kernel
theorem dX8_bys_0 : decode cX8_bys 0 = .ok (.iconst 0, 1) := by decide +kernel
theorem dX8_bys_1 : decode cX8_bys 1 = .ok (.istore_n 1, 1) := by decide +kernel
theorem dX8_bys_2 : decode cX8_bys 2 = .ok (.iconst 0, 1) := by decide +kernel
theorem dX8_bys_3 : decode cX8_bys 3 = .ok (.istore_n 2, 1) := by decide +kernel
theorem dX8_bys_4 : decode cX8_bys 4 = .ok (.iload_n 2, 1) := by decide +kernel
theorem dX8_bys_5 : decode cX8_bys 5 = .ok (.aload_n 0, 1) := by decide +kernel
theorem dX8_bys_6 : decode cX8_bys 6 = .ok (.getfield 9, 3) := by decide +kernel
theorem dX8_bys_9 : decode cX8_bys 9 = .ok (.bipush 76, 2) := by decide +kernel
theorem dX8_bys_11 : decode cX8_bys 11 = .ok (.iaload, 1) := by decide +kernel
theorem dX8_bys_12 : decode cX8_bys 12 = .ok (.if_icmp .ge 27, 3) := by decide +kernel
theorem dX8_bys_15 : decode cX8_bys 15 = .ok (.iload_n 1, 1) := by decide +kernel
theorem dX8_bys_16 : decode cX8_bys 16 = .ok (.aload_n 0, 1) := by decide +kernel
theorem dX8_bys_17 : decode cX8_bys 17 = .ok (.iload_n 2, 1) := by decide +kernel
theorem dX8_bys_18 : decode cX8_bys 18 = .ok (.invokevirtual 194, 3) := by decide +kernel
theorem dX8_bys_21 : decode cX8_bys 21 = .ok (.ifCond .eq 9, 3) := by decide +kernel
theorem dX8_bys_24 : decode cX8_bys 24 = .ok (.iconst 1, 1) := by decide +kernel
theorem dX8_bys_25 : decode cX8_bys 25 = .ok (.iload_n 2, 1) := by decide +kernel
theorem dX8_bys_26 : decode cX8_bys 26 = .ok (.ishl, 1) := by decide +kernel
theorem dX8_bys_27 : decode cX8_bys 27 = .ok (.goto 4, 3) := by decide +kernel
theorem dX8_bys_30 : decode cX8_bys 30 = .ok (.iconst 0, 1) := by decide +kernel
theorem dX8_bys_31 : decode cX8_bys 31 = .ok (.ior, 1) := by decide +kernel
theorem dX8_bys_32 : decode cX8_bys 32 = .ok (.istore_n 1, 1) := by decide +kernel
theorem dX8_bys_33 : decode cX8_bys 33 = .ok (.iinc 2 1, 3) := by decide +kernel
theorem dX8_bys_36 : decode cX8_bys 36 = .ok (.goto (-32), 3) := by decide +kernel
theorem dX8_bys_39 : decode cX8_bys 39 = .ok (.iload_n 1, 1) := by decide +kernel
theorem dX8_bys_40 : decode cX8_bys 40 = .ok (.ireturn, 1) := by decide +kernel
theorem dX8_passes_0 : decode cX8_passes 0 = .ok (.iconst 0, 1) := by decide +kernel
theorem dX8_passes_1 : decode cX8_passes 1 = .ok (.istore_n 1, 1) := by decide +kernel
theorem dX8_passes_2 : decode cX8_passes 2 = .ok (.iconst 0, 1) := by decide +kernel
theorem dX8_passes_3 : decode cX8_passes 3 = .ok (.istore_n 2, 1) := by decide +kernel
theorem dX8_passes_4 : decode cX8_passes 4 = .ok (.iload_n 2, 1) := by decide +kernel
theorem dX8_passes_5 : decode cX8_passes 5 = .ok (.aload_n 0, 1) := by decide +kernel
theorem dX8_passes_6 : decode cX8_passes 6 = .ok (.getfield 9, 3) := by decide +kernel
theorem dX8_passes_9 : decode cX8_passes 9 = .ok (.bipush 76, 2) := by decide +kernel
theorem dX8_passes_11 : decode cX8_passes 11 = .ok (.iaload, 1) := by decide +kernel
theorem dX8_passes_12 : decode cX8_passes 12 = .ok (.if_icmp .ge 18, 3) := by decide +kernel
theorem dX8_passes_15 : decode cX8_passes 15 = .ok (.iload_n 1, 1) := by decide +kernel
theorem dX8_passes_16 : decode cX8_passes 16 = .ok (.aload_n 0, 1) := by decide +kernel
theorem dX8_passes_17 : decode cX8_passes 17 = .ok (.iload_n 2, 1) := by decide +kernel
theorem dX8_passes_18 : decode cX8_passes 18 = .ok (.iconst 5, 1) := by decide +kernel
theorem dX8_passes_19 : decode cX8_passes 19 = .ok (.invokevirtual 82, 3) := by decide +kernel
theorem dX8_passes_22 : decode cX8_passes 22 = .ok (.iadd, 1) := by decide +kernel
theorem dX8_passes_23 : decode cX8_passes 23 = .ok (.istore_n 1, 1) := by decide +kernel
theorem dX8_passes_24 : decode cX8_passes 24 = .ok (.iinc 2 1, 3) := by decide +kernel
theorem dX8_passes_27 : decode cX8_passes 27 = .ok (.goto (-23), 3) := by decide +kernel
theorem dX8_passes_30 : decode cX8_passes 30 = .ok (.iload_n 1, 1) := by decide +kernel
theorem dX8_passes_31 : decode cX8_passes 31 = .ok (.ireturn, 1) := by decide +kernel
theorem dX8_taught_0 : decode cX8_taught 0 = .ok (.bipush (-5), 2) := by decide +kernel
theorem dX8_taught_2 : decode cX8_taught 2 = .ok (.istore_n 3, 1) := by decide +kernel
theorem dX8_taught_3 : decode cX8_taught 3 = .ok (.aload_n 0, 1) := by decide +kernel
theorem dX8_taught_4 : decode cX8_taught 4 = .ok (.iload_n 1, 1) := by decide +kernel
theorem dX8_taught_5 : decode cX8_taught 5 = .ok (.invokevirtual 108, 3) := by decide +kernel
theorem dX8_taught_8 : decode cX8_taught 8 = .ok (.iconst 3, 1) := by decide +kernel
theorem dX8_taught_9 : decode cX8_taught 9 = .ok (.if_icmp .ne 119, 3) := by decide +kernel
theorem dX8_taught_12 : decode cX8_taught 12 = .ok (.iconst 0, 1) := by decide +kernel
theorem dX8_taught_13 : decode cX8_taught 13 = .ok (.istore 4, 2) := by decide +kernel
theorem dX8_taught_15 : decode cX8_taught 15 = .ok (.iconst 1, 1) := by decide +kernel
theorem dX8_taught_16 : decode cX8_taught 16 = .ok (.istore 5, 2) := by decide +kernel
theorem dX8_taught_18 : decode cX8_taught 18 = .ok (.iload 5, 2) := by decide +kernel
theorem dX8_taught_20 : decode cX8_taught 20 = .ok (.iconst 3, 1) := by decide +kernel
theorem dX8_taught_21 : decode cX8_taught 21 = .ok (.if_icmp .ge 45, 3) := by decide +kernel
theorem dX8_taught_24 : decode cX8_taught 24 = .ok (.aload_n 0, 1) := by decide +kernel
theorem dX8_taught_25 : decode cX8_taught 25 = .ok (.iload_n 1, 1) := by decide +kernel
theorem dX8_taught_26 : decode cX8_taught 26 = .ok (.iload 5, 2) := by decide +kernel
theorem dX8_taught_28 : decode cX8_taught 28 = .ok (.invokevirtual 111, 3) := by decide +kernel
theorem dX8_taught_31 : decode cX8_taught 31 = .ok (.iload_n 2, 1) := by decide +kernel
theorem dX8_taught_32 : decode cX8_taught 32 = .ok (.ixor, 1) := by decide +kernel
theorem dX8_taught_33 : decode cX8_taught 33 = .ok (.invokestatic 186, 3) := by decide +kernel
theorem dX8_taught_36 : decode cX8_taught 36 = .ok (.aload_n 0, 1) := by decide +kernel
theorem dX8_taught_37 : decode cX8_taught 37 = .ok (.iload_n 1, 1) := by decide +kernel
theorem dX8_taught_38 : decode cX8_taught 38 = .ok (.iload 4, 2) := by decide +kernel
theorem dX8_taught_40 : decode cX8_taught 40 = .ok (.invokevirtual 111, 3) := by decide +kernel
theorem dX8_taught_43 : decode cX8_taught 43 = .ok (.iload_n 2, 1) := by decide +kernel
theorem dX8_taught_44 : decode cX8_taught 44 = .ok (.ixor, 1) := by decide +kernel
theorem dX8_taught_45 : decode cX8_taught 45 = .ok (.invokestatic 186, 3) := by decide +kernel
theorem dX8_taught_48 : decode cX8_taught 48 = .ok (.if_icmp .le 8, 3) := by decide +kernel
theorem dX8_taught_51 : decode cX8_taught 51 = .ok (.iload 5, 2) := by decide +kernel
theorem dX8_taught_53 : decode cX8_taught 53 = .ok (.goto 5, 3) := by decide +kernel
theorem dX8_taught_56 : decode cX8_taught 56 = .ok (.iload 4, 2) := by decide +kernel
theorem dX8_taught_58 : decode cX8_taught 58 = .ok (.istore 4, 2) := by decide +kernel
theorem dX8_taught_60 : decode cX8_taught 60 = .ok (.iinc 5 1, 3) := by decide +kernel
theorem dX8_taught_63 : decode cX8_taught 63 = .ok (.goto (-45), 3) := by decide +kernel
theorem dX8_taught_66 : decode cX8_taught 66 = .ok (.aload_n 0, 1) := by decide +kernel
theorem dX8_taught_67 : decode cX8_taught 67 = .ok (.iload_n 1, 1) := by decide +kernel
theorem dX8_taught_68 : decode cX8_taught 68 = .ok (.iload 4, 2) := by decide +kernel
theorem dX8_taught_70 : decode cX8_taught 70 = .ok (.invokevirtual 111, 3) := by decide +kernel
theorem dX8_taught_73 : decode cX8_taught 73 = .ok (.istore_n 3, 1) := by decide +kernel
theorem dX8_taught_74 : decode cX8_taught 74 = .ok (.iload 4, 2) := by decide +kernel
theorem dX8_taught_76 : decode cX8_taught 76 = .ok (.istore 5, 2) := by decide +kernel
theorem dX8_taught_78 : decode cX8_taught 78 = .ok (.iload 5, 2) := by decide +kernel
theorem dX8_taught_80 : decode cX8_taught 80 = .ok (.iconst 2, 1) := by decide +kernel
theorem dX8_taught_81 : decode cX8_taught 81 = .ok (.if_icmp .ge 35, 3) := by decide +kernel
theorem dX8_taught_84 : decode cX8_taught 84 = .ok (.aload_n 0, 1) := by decide +kernel
theorem dX8_taught_85 : decode cX8_taught 85 = .ok (.getfield 9, 3) := by decide +kernel
theorem dX8_taught_88 : decode cX8_taught 88 = .ok (.iconst 4, 1) := by decide +kernel
theorem dX8_taught_89 : decode cX8_taught 89 = .ok (.iload_n 1, 1) := by decide +kernel
theorem dX8_taught_90 : decode cX8_taught 90 = .ok (.imul, 1) := by decide +kernel
theorem dX8_taught_91 : decode cX8_taught 91 = .ok (.iconst 1, 1) := by decide +kernel
theorem dX8_taught_92 : decode cX8_taught 92 = .ok (.iadd, 1) := by decide +kernel
theorem dX8_taught_93 : decode cX8_taught 93 = .ok (.iload 5, 2) := by decide +kernel
theorem dX8_taught_95 : decode cX8_taught 95 = .ok (.iadd, 1) := by decide +kernel
theorem dX8_taught_96 : decode cX8_taught 96 = .ok (.aload_n 0, 1) := by decide +kernel
theorem dX8_taught_97 : decode cX8_taught 97 = .ok (.getfield 9, 3) := by decide +kernel
theorem dX8_taught_100 : decode cX8_taught 100 = .ok (.iconst 4, 1) := by decide +kernel
theorem dX8_taught_101 : decode cX8_taught 101 = .ok (.iload_n 1, 1) := by decide +kernel
theorem dX8_taught_102 : decode cX8_taught 102 = .ok (.imul, 1) := by decide +kernel
theorem dX8_taught_103 : decode cX8_taught 103 = .ok (.iconst 2, 1) := by decide +kernel
theorem dX8_taught_104 : decode cX8_taught 104 = .ok (.iadd, 1) := by decide +kernel
theorem dX8_taught_105 : decode cX8_taught 105 = .ok (.iload 5, 2) := by decide +kernel
theorem dX8_taught_107 : decode cX8_taught 107 = .ok (.iadd, 1) := by decide +kernel
theorem dX8_taught_108 : decode cX8_taught 108 = .ok (.iaload, 1) := by decide +kernel
theorem dX8_taught_109 : decode cX8_taught 109 = .ok (.iastore, 1) := by decide +kernel
theorem dX8_taught_110 : decode cX8_taught 110 = .ok (.iinc 5 1, 3) := by decide +kernel
theorem dX8_taught_113 : decode cX8_taught 113 = .ok (.goto (-35), 3) := by decide +kernel
theorem dX8_taught_116 : decode cX8_taught 116 = .ok (.aload_n 0, 1) := by decide +kernel
theorem dX8_taught_117 : decode cX8_taught 117 = .ok (.getfield 9, 3) := by decide +kernel
theorem dX8_taught_120 : decode cX8_taught 120 = .ok (.iconst 4, 1) := by decide +kernel
theorem dX8_taught_121 : decode cX8_taught 121 = .ok (.iload_n 1, 1) := by decide +kernel
theorem dX8_taught_122 : decode cX8_taught 122 = .ok (.imul, 1) := by decide +kernel
theorem dX8_taught_123 : decode cX8_taught 123 = .ok (.dup2, 1) := by decide +kernel
theorem dX8_taught_124 : decode cX8_taught 124 = .ok (.iaload, 1) := by decide +kernel
theorem dX8_taught_125 : decode cX8_taught 125 = .ok (.iconst 1, 1) := by decide +kernel
theorem dX8_taught_126 : decode cX8_taught 126 = .ok (.isub, 1) := by decide +kernel
theorem dX8_taught_127 : decode cX8_taught 127 = .ok (.iastore, 1) := by decide +kernel
theorem dX8_taught_128 : decode cX8_taught 128 = .ok (.aload_n 0, 1) := by decide +kernel
theorem dX8_taught_129 : decode cX8_taught 129 = .ok (.getfield 9, 3) := by decide +kernel
theorem dX8_taught_132 : decode cX8_taught 132 = .ok (.iconst 4, 1) := by decide +kernel
theorem dX8_taught_133 : decode cX8_taught 133 = .ok (.iload_n 1, 1) := by decide +kernel
theorem dX8_taught_134 : decode cX8_taught 134 = .ok (.imul, 1) := by decide +kernel
theorem dX8_taught_135 : decode cX8_taught 135 = .ok (.iconst 1, 1) := by decide +kernel
theorem dX8_taught_136 : decode cX8_taught 136 = .ok (.iadd, 1) := by decide +kernel
theorem dX8_taught_137 : decode cX8_taught 137 = .ok (.aload_n 0, 1) := by decide +kernel
theorem dX8_taught_138 : decode cX8_taught 138 = .ok (.iload_n 1, 1) := by decide +kernel
theorem dX8_taught_139 : decode cX8_taught 139 = .ok (.invokevirtual 108, 3) := by decide +kernel
theorem dX8_taught_142 : decode cX8_taught 142 = .ok (.iadd, 1) := by decide +kernel
theorem dX8_taught_143 : decode cX8_taught 143 = .ok (.iload_n 2, 1) := by decide +kernel
theorem dX8_taught_144 : decode cX8_taught 144 = .ok (.iastore, 1) := by decide +kernel
theorem dX8_taught_145 : decode cX8_taught 145 = .ok (.aload_n 0, 1) := by decide +kernel
theorem dX8_taught_146 : decode cX8_taught 146 = .ok (.getfield 9, 3) := by decide +kernel
theorem dX8_taught_149 : decode cX8_taught 149 = .ok (.iconst 4, 1) := by decide +kernel
theorem dX8_taught_150 : decode cX8_taught 150 = .ok (.iload_n 1, 1) := by decide +kernel
theorem dX8_taught_151 : decode cX8_taught 151 = .ok (.imul, 1) := by decide +kernel
theorem dX8_taught_152 : decode cX8_taught 152 = .ok (.dup2, 1) := by decide +kernel
theorem dX8_taught_153 : decode cX8_taught 153 = .ok (.iaload, 1) := by decide +kernel
theorem dX8_taught_154 : decode cX8_taught 154 = .ok (.iconst 1, 1) := by decide +kernel
theorem dX8_taught_155 : decode cX8_taught 155 = .ok (.iadd, 1) := by decide +kernel
theorem dX8_taught_156 : decode cX8_taught 156 = .ok (.iastore, 1) := by decide +kernel
theorem dX8_taught_157 : decode cX8_taught 157 = .ok (.iload_n 3, 1) := by decide +kernel
theorem dX8_taught_158 : decode cX8_taught 158 = .ok (.ireturn, 1) := by decide +kernel
theorem dX8_teach_0 : decode cX8_teach 0 = .ok (.iload_n 1, 1) := by decide +kernel
theorem dX8_teach_1 : decode cX8_teach 1 = .ok (.invokestatic 86, 3) := by decide +kernel
theorem dX8_teach_4 : decode cX8_teach 4 = .ok (.ifCond .eq 25, 3) := by decide +kernel
theorem dX8_teach_7 : decode cX8_teach 7 = .ok (.aload_n 0, 1) := by decide +kernel
theorem dX8_teach_8 : decode cX8_teach 8 = .ok (.iload_n 2, 1) := by decide +kernel
theorem dX8_teach_9 : decode cX8_teach 9 = .ok (.invokevirtual 94, 3) := by decide +kernel
theorem dX8_teach_12 : decode cX8_teach 12 = .ok (.ifCond .eq 17, 3) := by decide +kernel
theorem dX8_teach_15 : decode cX8_teach 15 = .ok (.aload_n 0, 1) := by decide +kernel
theorem dX8_teach_16 : decode cX8_teach 16 = .ok (.iload_n 1, 1) := by decide +kernel
theorem dX8_teach_17 : decode cX8_teach 17 = .ok (.aload_n 0, 1) := by decide +kernel
theorem dX8_teach_18 : decode cX8_teach 18 = .ok (.iload_n 2, 1) := by decide +kernel
theorem dX8_teach_19 : decode cX8_teach 19 = .ok (.iconst 2, 1) := by decide +kernel
theorem dX8_teach_20 : decode cX8_teach 20 = .ok (.invokevirtual 82, 3) := by decide +kernel
theorem dX8_teach_23 : decode cX8_teach 23 = .ok (.invokevirtual 197, 3) := by decide +kernel
theorem dX8_teach_26 : decode cX8_teach 26 = .ok (.goto 4, 3) := by decide +kernel
theorem dX8_teach_29 : decode cX8_teach 29 = .ok (.iconst (-1), 1) := by decide +kernel
theorem dX8_teach_30 : decode cX8_teach 30 = .ok (.ireturn, 1) := by decide +kernel
theorem dX8_day_0 : decode cX8_day 0 = .ok (.iconst 0, 1) := by decide +kernel
theorem dX8_day_1 : decode cX8_day 1 = .ok (.istore_n 1, 1) := by decide +kernel
theorem dX8_day_2 : decode cX8_day 2 = .ok (.iload_n 1, 1) := by decide +kernel
theorem dX8_day_3 : decode cX8_day 3 = .ok (.aload_n 0, 1) := by decide +kernel
theorem dX8_day_4 : decode cX8_day 4 = .ok (.getfield 9, 3) := by decide +kernel
theorem dX8_day_7 : decode cX8_day 7 = .ok (.bipush 76, 2) := by decide +kernel
theorem dX8_day_9 : decode cX8_day 9 = .ok (.iaload, 1) := by decide +kernel
theorem dX8_day_10 : decode cX8_day 10 = .ok (.if_icmp .ge 55, 3) := by decide +kernel
theorem dX8_day_13 : decode cX8_day 13 = .ok (.aload_n 0, 1) := by decide +kernel
theorem dX8_day_14 : decode cX8_day 14 = .ok (.iload_n 1, 1) := by decide +kernel
theorem dX8_day_15 : decode cX8_day 15 = .ok (.invokevirtual 194, 3) := by decide +kernel
theorem dX8_day_18 : decode cX8_day 18 = .ok (.ifCond .eq 21, 3) := by decide +kernel
theorem dX8_day_21 : decode cX8_day 21 = .ok (.aload_n 0, 1) := by decide +kernel
theorem dX8_day_22 : decode cX8_day 22 = .ok (.iload_n 1, 1) := by decide +kernel
theorem dX8_day_23 : decode cX8_day 23 = .ok (.iconst 5, 1) := by decide +kernel
theorem dX8_day_24 : decode cX8_day 24 = .ok (.aload_n 0, 1) := by decide +kernel
theorem dX8_day_25 : decode cX8_day 25 = .ok (.iload_n 1, 1) := by decide +kernel
theorem dX8_day_26 : decode cX8_day 26 = .ok (.iconst 5, 1) := by decide +kernel
theorem dX8_day_27 : decode cX8_day 27 = .ok (.invokevirtual 82, 3) := by decide +kernel
theorem dX8_day_30 : decode cX8_day 30 = .ok (.iconst 1, 1) := by decide +kernel
theorem dX8_day_31 : decode cX8_day 31 = .ok (.iadd, 1) := by decide +kernel
theorem dX8_day_32 : decode cX8_day 32 = .ok (.invokevirtual 90, 3) := by decide +kernel
theorem dX8_day_35 : decode cX8_day 35 = .ok (.pop, 1) := by decide +kernel
theorem dX8_day_36 : decode cX8_day 36 = .ok (.goto 23, 3) := by decide +kernel
theorem dX8_day_39 : decode cX8_day 39 = .ok (.aload_n 0, 1) := by decide +kernel
theorem dX8_day_40 : decode cX8_day 40 = .ok (.iload_n 1, 1) := by decide +kernel
theorem dX8_day_41 : decode cX8_day 41 = .ok (.iconst 4, 1) := by decide +kernel
theorem dX8_day_42 : decode cX8_day 42 = .ok (.bipush 9, 2) := by decide +kernel
theorem dX8_day_44 : decode cX8_day 44 = .ok (.aload_n 0, 1) := by decide +kernel
theorem dX8_day_45 : decode cX8_day 45 = .ok (.iload_n 1, 1) := by decide +kernel
theorem dX8_day_46 : decode cX8_day 46 = .ok (.iconst 4, 1) := by decide +kernel
theorem dX8_day_47 : decode cX8_day 47 = .ok (.invokevirtual 82, 3) := by decide +kernel
theorem dX8_day_50 : decode cX8_day 50 = .ok (.iconst 1, 1) := by decide +kernel
theorem dX8_day_51 : decode cX8_day 51 = .ok (.iadd, 1) := by decide +kernel
theorem dX8_day_52 : decode cX8_day 52 = .ok (.invokestatic 189, 3) := by decide +kernel
theorem dX8_day_55 : decode cX8_day 55 = .ok (.invokevirtual 90, 3) := by decide +kernel
theorem dX8_day_58 : decode cX8_day 58 = .ok (.pop, 1) := by decide +kernel
theorem dX8_day_59 : decode cX8_day 59 = .ok (.iinc 1 1, 3) := by decide +kernel
theorem dX8_day_62 : decode cX8_day 62 = .ok (.goto (-60), 3) := by decide +kernel
theorem dX8_day_65 : decode cX8_day 65 = .ok (.aload_n 0, 1) := by decide +kernel
theorem dX8_day_66 : decode cX8_day 66 = .ok (.invokevirtual 200, 3) := by decide +kernel
theorem dX8_day_69 : decode cX8_day 69 = .ok (.istore_n 1, 1) := by decide +kernel
theorem dX8_day_70 : decode cX8_day 70 = .ok (.iload_n 1, 1) := by decide +kernel
theorem dX8_day_71 : decode cX8_day 71 = .ok (.ifCond .le 62, 3) := by decide +kernel
theorem dX8_day_74 : decode cX8_day 74 = .ok (.aload_n 0, 1) := by decide +kernel
theorem dX8_day_75 : decode cX8_day 75 = .ok (.getfield 9, 3) := by decide +kernel
theorem dX8_day_78 : decode cX8_day 78 = .ok (.bipush 77, 2) := by decide +kernel
theorem dX8_day_80 : decode cX8_day 80 = .ok (.iaload, 1) := by decide +kernel
theorem dX8_day_81 : decode cX8_day 81 = .ok (.iload_n 1, 1) := by decide +kernel
theorem dX8_day_82 : decode cX8_day 82 = .ok (.irem, 1) := by decide +kernel
theorem dX8_day_83 : decode cX8_day 83 = .ok (.ifCond .ne 50, 3) := by decide +kernel
theorem dX8_day_86 : decode cX8_day 86 = .ok (.iconst 0, 1) := by decide +kernel
theorem dX8_day_87 : decode cX8_day 87 = .ok (.istore_n 2, 1) := by decide +kernel
theorem dX8_day_88 : decode cX8_day 88 = .ok (.iload_n 2, 1) := by decide +kernel
theorem dX8_day_89 : decode cX8_day 89 = .ok (.aload_n 0, 1) := by decide +kernel
theorem dX8_day_90 : decode cX8_day 90 = .ok (.getfield 9, 3) := by decide +kernel
theorem dX8_day_93 : decode cX8_day 93 = .ok (.bipush 76, 2) := by decide +kernel
theorem dX8_day_95 : decode cX8_day 95 = .ok (.iaload, 1) := by decide +kernel
theorem dX8_day_96 : decode cX8_day 96 = .ok (.if_icmp .ge 37, 3) := by decide +kernel
theorem dX8_day_99 : decode cX8_day 99 = .ok (.aload_n 0, 1) := by decide +kernel
theorem dX8_day_100 : decode cX8_day 100 = .ok (.iload_n 2, 1) := by decide +kernel
theorem dX8_day_101 : decode cX8_day 101 = .ok (.iconst 2, 1) := by decide +kernel
theorem dX8_day_102 : decode cX8_day 102 = .ok (.aload_n 0, 1) := by decide +kernel
theorem dX8_day_103 : decode cX8_day 103 = .ok (.iload_n 2, 1) := by decide +kernel
theorem dX8_day_104 : decode cX8_day 104 = .ok (.iconst 2, 1) := by decide +kernel
theorem dX8_day_105 : decode cX8_day 105 = .ok (.invokevirtual 82, 3) := by decide +kernel
theorem dX8_day_108 : decode cX8_day 108 = .ok (.iconst 1, 1) := by decide +kernel
theorem dX8_day_109 : decode cX8_day 109 = .ok (.iload_n 2, 1) := by decide +kernel
theorem dX8_day_110 : decode cX8_day 110 = .ok (.aload_n 0, 1) := by decide +kernel
theorem dX8_day_111 : decode cX8_day 111 = .ok (.getfield 9, 3) := by decide +kernel
theorem dX8_day_114 : decode cX8_day 114 = .ok (.bipush 77, 2) := by decide +kernel
theorem dX8_day_116 : decode cX8_day 116 = .ok (.iaload, 1) := by decide +kernel
theorem dX8_day_117 : decode cX8_day 117 = .ok (.iadd, 1) := by decide +kernel
theorem dX8_day_118 : decode cX8_day 118 = .ok (.bipush 12, 2) := by decide +kernel
theorem dX8_day_120 : decode cX8_day 120 = .ok (.irem, 1) := by decide +kernel
theorem dX8_day_121 : decode cX8_day 121 = .ok (.ishl, 1) := by decide +kernel
theorem dX8_day_122 : decode cX8_day 122 = .ok (.ixor, 1) := by decide +kernel
theorem dX8_day_123 : decode cX8_day 123 = .ok (.invokevirtual 90, 3) := by decide +kernel
theorem dX8_day_126 : decode cX8_day 126 = .ok (.pop, 1) := by decide +kernel
theorem dX8_day_127 : decode cX8_day 127 = .ok (.iinc 2 1, 3) := by decide +kernel
theorem dX8_day_130 : decode cX8_day 130 = .ok (.goto (-42), 3) := by decide +kernel
theorem dX8_day_133 : decode cX8_day 133 = .ok (.aload_n 0, 1) := by decide +kernel
theorem dX8_day_134 : decode cX8_day 134 = .ok (.getfield 9, 3) := by decide +kernel
theorem dX8_day_137 : decode cX8_day 137 = .ok (.bipush 77, 2) := by decide +kernel
theorem dX8_day_139 : decode cX8_day 139 = .ok (.dup2, 1) := by decide +kernel
theorem dX8_day_140 : decode cX8_day 140 = .ok (.iaload, 1) := by decide +kernel
theorem dX8_day_141 : decode cX8_day 141 = .ok (.iconst 1, 1) := by decide +kernel
theorem dX8_day_142 : decode cX8_day 142 = .ok (.iadd, 1) := by decide +kernel
theorem dX8_day_143 : decode cX8_day 143 = .ok (.iastore, 1) := by decide +kernel
theorem dX8_day_144 : decode cX8_day 144 = .ok (.return_, 1) := by decide +kernel
theorem dX8_days_0 : decode cX8_days 0 = .ok (.iconst 0, 1) := by decide +kernel
theorem dX8_days_1 : decode cX8_days 1 = .ok (.istore_n 2, 1) := by decide +kernel
theorem dX8_days_2 : decode cX8_days 2 = .ok (.iload_n 2, 1) := by decide +kernel
theorem dX8_days_3 : decode cX8_days 3 = .ok (.iload_n 1, 1) := by decide +kernel
theorem dX8_days_4 : decode cX8_days 4 = .ok (.if_icmp .ge 13, 3) := by decide +kernel
theorem dX8_days_7 : decode cX8_days 7 = .ok (.aload_n 0, 1) := by decide +kernel
theorem dX8_days_8 : decode cX8_days 8 = .ok (.invokevirtual 203, 3) := by decide +kernel
theorem dX8_days_11 : decode cX8_days 11 = .ok (.iinc 2 1, 3) := by decide +kernel
theorem dX8_days_14 : decode cX8_days 14 = .ok (.goto (-12), 3) := by decide +kernel
theorem dX8_days_17 : decode cX8_days 17 = .ok (.return_, 1) := by decide +kernel
theorem dX8_out_0 : decode cX8_out 0 = .ok (.aload_n 0, 1) := by decide +kernel
theorem dX8_out_1 : decode cX8_out 1 = .ok (.iconst 0, 1) := by decide +kernel
theorem dX8_out_2 : decode cX8_out 2 = .ok (.invokevirtual 206, 3) := by decide +kernel
theorem dX8_out_5 : decode cX8_out 5 = .ok (.bipush (-5), 2) := by decide +kernel
theorem dX8_out_7 : decode cX8_out 7 = .ok (.istore_n 2, 1) := by decide +kernel
theorem dX8_out_8 : decode cX8_out 8 = .ok (.iconst 0, 1) := by decide +kernel
theorem dX8_out_9 : decode cX8_out 9 = .ok (.istore_n 3, 1) := by decide +kernel
theorem dX8_out_10 : decode cX8_out 10 = .ok (.iload_n 3, 1) := by decide +kernel
theorem dX8_out_11 : decode cX8_out 11 = .ok (.bipush 60, 2) := by decide +kernel
theorem dX8_out_13 : decode cX8_out 13 = .ok (.if_icmp .gt 34, 3) := by decide +kernel
theorem dX8_out_16 : decode cX8_out 16 = .ok (.iload_n 2, 1) := by decide +kernel
theorem dX8_out_17 : decode cX8_out 17 = .ok (.bipush (-5), 2) := by decide +kernel
theorem dX8_out_19 : decode cX8_out 19 = .ok (.if_icmp .ne 28, 3) := by decide +kernel
theorem dX8_out_22 : decode cX8_out 22 = .ok (.aload_n 0, 1) := by decide +kernel
theorem dX8_out_23 : decode cX8_out 23 = .ok (.iload_n 1, 1) := by decide +kernel
theorem dX8_out_24 : decode cX8_out 24 = .ok (.invokevirtual 194, 3) := by decide +kernel
theorem dX8_out_27 : decode cX8_out 27 = .ok (.ifCond .eq 8, 3) := by decide +kernel
theorem dX8_out_30 : decode cX8_out 30 = .ok (.bipush (-5), 2) := by decide +kernel
theorem dX8_out_32 : decode cX8_out 32 = .ok (.goto 4, 3) := by decide +kernel
theorem dX8_out_35 : decode cX8_out 35 = .ok (.iload_n 3, 1) := by decide +kernel
theorem dX8_out_36 : decode cX8_out 36 = .ok (.istore_n 2, 1) := by decide +kernel
theorem dX8_out_37 : decode cX8_out 37 = .ok (.aload_n 0, 1) := by decide +kernel
theorem dX8_out_38 : decode cX8_out 38 = .ok (.invokevirtual 203, 3) := by decide +kernel
theorem dX8_out_41 : decode cX8_out 41 = .ok (.iinc 3 1, 3) := by decide +kernel
theorem dX8_out_44 : decode cX8_out 44 = .ok (.goto (-34), 3) := by decide +kernel
theorem dX8_out_47 : decode cX8_out 47 = .ok (.aload_n 0, 1) := by decide +kernel
theorem dX8_out_48 : decode cX8_out 48 = .ok (.iconst 0, 1) := by decide +kernel
theorem dX8_out_49 : decode cX8_out 49 = .ok (.invokevirtual 209, 3) := by decide +kernel
theorem dX8_out_52 : decode cX8_out 52 = .ok (.iload_n 2, 1) := by decide +kernel
theorem dX8_out_53 : decode cX8_out 53 = .ok (.ireturn, 1) := by decide +kernel
theorem dX8_told_0 : decode cX8_told 0 = .ok (.iload_n 1, 1) := by decide +kernel
theorem dX8_told_1 : decode cX8_told 1 = .ok (.tableswitch 63 0 4 #[35, 43, 48, 53, 58], 35) := by decide +kernel
theorem dX8_told_36 : decode cX8_told 36 = .ok (.aload_n 0, 1) := by decide +kernel
theorem dX8_told_37 : decode cX8_told 37 = .ok (.getfield 9, 3) := by decide +kernel
theorem dX8_told_40 : decode cX8_told 40 = .ok (.bipush 77, 2) := by decide +kernel
theorem dX8_told_42 : decode cX8_told 42 = .ok (.iaload, 1) := by decide +kernel
theorem dX8_told_43 : decode cX8_told 43 = .ok (.ireturn, 1) := by decide +kernel
theorem dX8_told_44 : decode cX8_told 44 = .ok (.aload_n 0, 1) := by decide +kernel
theorem dX8_told_45 : decode cX8_told 45 = .ok (.invokevirtual 212, 3) := by decide +kernel
theorem dX8_told_48 : decode cX8_told 48 = .ok (.ireturn, 1) := by decide +kernel
theorem dX8_told_49 : decode cX8_told 49 = .ok (.aload_n 0, 1) := by decide +kernel
theorem dX8_told_50 : decode cX8_told 50 = .ok (.invokevirtual 200, 3) := by decide +kernel
theorem dX8_told_53 : decode cX8_told 53 = .ok (.ireturn, 1) := by decide +kernel
theorem dX8_told_54 : decode cX8_told 54 = .ok (.aload_n 0, 1) := by decide +kernel
theorem dX8_told_55 : decode cX8_told 55 = .ok (.invokevirtual 215, 3) := by decide +kernel
theorem dX8_told_58 : decode cX8_told 58 = .ok (.ireturn, 1) := by decide +kernel
theorem dX8_told_59 : decode cX8_told 59 = .ok (.aload_n 0, 1) := by decide +kernel
theorem dX8_told_60 : decode cX8_told 60 = .ok (.invokevirtual 218, 3) := by decide +kernel
theorem dX8_told_63 : decode cX8_told 63 = .ok (.ireturn, 1) := by decide +kernel
theorem dX8_told_64 : decode cX8_told 64 = .ok (.iload_n 1, 1) := by decide +kernel
theorem dX8_told_65 : decode cX8_told 65 = .ok (.bipush 10, 2) := by decide +kernel
theorem dX8_told_67 : decode cX8_told 67 = .ok (.bipush 21, 2) := by decide +kernel
theorem dX8_told_69 : decode cX8_told 69 = .ok (.invokestatic 78, 3) := by decide +kernel
theorem dX8_told_72 : decode cX8_told 72 = .ok (.ifCond .eq 38, 3) := by decide +kernel
theorem dX8_told_75 : decode cX8_told 75 = .ok (.iload_n 1, 1) := by decide +kernel
theorem dX8_told_76 : decode cX8_told 76 = .ok (.bipush 10, 2) := by decide +kernel
theorem dX8_told_78 : decode cX8_told 78 = .ok (.isub, 1) := by decide +kernel
theorem dX8_told_79 : decode cX8_told 79 = .ok (.iconst 3, 1) := by decide +kernel
theorem dX8_told_80 : decode cX8_told 80 = .ok (.idiv, 1) := by decide +kernel
theorem dX8_told_81 : decode cX8_told 81 = .ok (.istore_n 2, 1) := by decide +kernel
theorem dX8_told_82 : decode cX8_told 82 = .ok (.iload_n 1, 1) := by decide +kernel
theorem dX8_told_83 : decode cX8_told 83 = .ok (.bipush 10, 2) := by decide +kernel
theorem dX8_told_85 : decode cX8_told 85 = .ok (.isub, 1) := by decide +kernel
theorem dX8_told_86 : decode cX8_told 86 = .ok (.iconst 3, 1) := by decide +kernel
theorem dX8_told_87 : decode cX8_told 87 = .ok (.irem, 1) := by decide +kernel
theorem dX8_told_88 : decode cX8_told 88 = .ok (.istore_n 3, 1) := by decide +kernel
theorem dX8_told_89 : decode cX8_told 89 = .ok (.iload_n 3, 1) := by decide +kernel
theorem dX8_told_90 : decode cX8_told 90 = .ok (.aload_n 0, 1) := by decide +kernel
theorem dX8_told_91 : decode cX8_told 91 = .ok (.iload_n 2, 1) := by decide +kernel
theorem dX8_told_92 : decode cX8_told 92 = .ok (.invokevirtual 108, 3) := by decide +kernel
theorem dX8_told_95 : decode cX8_told 95 = .ok (.if_icmp .ge 12, 3) := by decide +kernel
theorem dX8_told_98 : decode cX8_told 98 = .ok (.aload_n 0, 1) := by decide +kernel
theorem dX8_told_99 : decode cX8_told 99 = .ok (.iload_n 2, 1) := by decide +kernel
theorem dX8_told_100 : decode cX8_told 100 = .ok (.iload_n 3, 1) := by decide +kernel
theorem dX8_told_101 : decode cX8_told 101 = .ok (.invokevirtual 111, 3) := by decide +kernel
theorem dX8_told_104 : decode cX8_told 104 = .ok (.goto 5, 3) := by decide +kernel
theorem dX8_told_107 : decode cX8_told 107 = .ok (.bipush (-5), 2) := by decide +kernel
theorem dX8_told_109 : decode cX8_told 109 = .ok (.ireturn, 1) := by decide +kernel
theorem dX8_told_110 : decode cX8_told 110 = .ok (.iload_n 1, 1) := by decide +kernel
theorem dX8_told_111 : decode cX8_told 111 = .ok (.bipush 30, 2) := by decide +kernel
theorem dX8_told_113 : decode cX8_told 113 = .ok (.isub, 1) := by decide +kernel
theorem dX8_told_114 : decode cX8_told 114 = .ok (.invokestatic 86, 3) := by decide +kernel
theorem dX8_told_117 : decode cX8_told 117 = .ok (.ifCond .eq 15, 3) := by decide +kernel
theorem dX8_told_120 : decode cX8_told 120 = .ok (.aload_n 0, 1) := by decide +kernel
theorem dX8_told_121 : decode cX8_told 121 = .ok (.iload_n 1, 1) := by decide +kernel
theorem dX8_told_122 : decode cX8_told 122 = .ok (.bipush 30, 2) := by decide +kernel
theorem dX8_told_124 : decode cX8_told 124 = .ok (.isub, 1) := by decide +kernel
theorem dX8_told_125 : decode cX8_told 125 = .ok (.iconst 0, 1) := by decide +kernel
theorem dX8_told_126 : decode cX8_told 126 = .ok (.invokevirtual 221, 3) := by decide +kernel
theorem dX8_told_129 : decode cX8_told 129 = .ok (.goto 26, 3) := by decide +kernel
theorem dX8_told_132 : decode cX8_told 132 = .ok (.iload_n 1, 1) := by decide +kernel
theorem dX8_told_133 : decode cX8_told 133 = .ok (.bipush 40, 2) := by decide +kernel
theorem dX8_told_135 : decode cX8_told 135 = .ok (.isub, 1) := by decide +kernel
theorem dX8_told_136 : decode cX8_told 136 = .ok (.invokestatic 86, 3) := by decide +kernel
theorem dX8_told_139 : decode cX8_told 139 = .ok (.ifCond .eq 15, 3) := by decide +kernel
theorem dX8_told_142 : decode cX8_told 142 = .ok (.aload_n 0, 1) := by decide +kernel
theorem dX8_told_143 : decode cX8_told 143 = .ok (.iload_n 1, 1) := by decide +kernel
theorem dX8_told_144 : decode cX8_told 144 = .ok (.bipush 40, 2) := by decide +kernel
theorem dX8_told_146 : decode cX8_told 146 = .ok (.isub, 1) := by decide +kernel
theorem dX8_told_147 : decode cX8_told 147 = .ok (.iconst 1, 1) := by decide +kernel
theorem dX8_told_148 : decode cX8_told 148 = .ok (.invokevirtual 221, 3) := by decide +kernel
theorem dX8_told_151 : decode cX8_told 151 = .ok (.goto 4, 3) := by decide +kernel
theorem dX8_told_154 : decode cX8_told 154 = .ok (.iconst (-1), 1) := by decide +kernel
theorem dX8_told_155 : decode cX8_told 155 = .ok (.ireturn, 1) := by decide +kernel
theorem dX8_pass_0 : decode cX8_pass 0 = .ok (.iload_n 1, 1) := by decide +kernel
theorem dX8_pass_1 : decode cX8_pass 1 = .ok (.iconst 0, 1) := by decide +kernel
theorem dX8_pass_2 : decode cX8_pass 2 = .ok (.bipush 60, 2) := by decide +kernel
theorem dX8_pass_4 : decode cX8_pass 4 = .ok (.invokestatic 78, 3) := by decide +kernel
theorem dX8_pass_7 : decode cX8_pass 7 = .ok (.ifCond .ne 6, 3) := by decide +kernel
theorem dX8_pass_10 : decode cX8_pass 10 = .ok (.bipush (-2), 2) := by decide +kernel
theorem dX8_pass_12 : decode cX8_pass 12 = .ok (.ireturn, 1) := by decide +kernel
theorem dX8_pass_13 : decode cX8_pass 13 = .ok (.aload_n 0, 1) := by decide +kernel
theorem dX8_pass_14 : decode cX8_pass 14 = .ok (.getfield 9, 3) := by decide +kernel
theorem dX8_pass_17 : decode cX8_pass 17 = .ok (.bipush 77, 2) := by decide +kernel
theorem dX8_pass_19 : decode cX8_pass 19 = .ok (.iaload, 1) := by decide +kernel
theorem dX8_pass_20 : decode cX8_pass 20 = .ok (.iload_n 1, 1) := by decide +kernel
theorem dX8_pass_21 : decode cX8_pass 21 = .ok (.iadd, 1) := by decide +kernel
theorem dX8_pass_22 : decode cX8_pass 22 = .ok (.sipush 9999, 3) := by decide +kernel
theorem dX8_pass_25 : decode cX8_pass 25 = .ok (.if_icmp .le 6, 3) := by decide +kernel
theorem dX8_pass_28 : decode cX8_pass 28 = .ok (.bipush (-3), 2) := by decide +kernel
theorem dX8_pass_30 : decode cX8_pass 30 = .ok (.ireturn, 1) := by decide +kernel
theorem dX8_pass_31 : decode cX8_pass 31 = .ok (.aload_n 0, 1) := by decide +kernel
theorem dX8_pass_32 : decode cX8_pass 32 = .ok (.iload_n 1, 1) := by decide +kernel
theorem dX8_pass_33 : decode cX8_pass 33 = .ok (.invokevirtual 225, 3) := by decide +kernel
theorem dX8_pass_36 : decode cX8_pass 36 = .ok (.aload_n 0, 1) := by decide +kernel
theorem dX8_pass_37 : decode cX8_pass 37 = .ok (.getfield 9, 3) := by decide +kernel
theorem dX8_pass_40 : decode cX8_pass 40 = .ok (.bipush 77, 2) := by decide +kernel
theorem dX8_pass_42 : decode cX8_pass 42 = .ok (.iaload, 1) := by decide +kernel
theorem dX8_pass_43 : decode cX8_pass 43 = .ok (.ireturn, 1) := by decide +kernel
theorem dX8_on_0 : decode cX8_on 0 = .ok (.iload_n 2, 1) := by decide +kernel
theorem dX8_on_1 : decode cX8_on 1 = .ok (.ifCond .eq 27, 3) := by decide +kernel
theorem dX8_on_4 : decode cX8_on 4 = .ok (.aload_n 0, 1) := by decide +kernel
theorem dX8_on_5 : decode cX8_on 5 = .ok (.iload_n 2, 1) := by decide +kernel
theorem dX8_on_6 : decode cX8_on 6 = .ok (.bipush 10, 2) := by decide +kernel
theorem dX8_on_8 : decode cX8_on 8 = .ok (.isub, 1) := by decide +kernel
theorem dX8_on_9 : decode cX8_on 9 = .ok (.invokevirtual 94, 3) := by decide +kernel
theorem dX8_on_12 : decode cX8_on 12 = .ok (.ifCond .ne 16, 3) := by decide +kernel
theorem dX8_on_15 : decode cX8_on 15 = .ok (.aload_n 0, 1) := by decide +kernel
theorem dX8_on_16 : decode cX8_on 16 = .ok (.iload_n 2, 1) := by decide +kernel
theorem dX8_on_17 : decode cX8_on 17 = .ok (.bipush 20, 2) := by decide +kernel
theorem dX8_on_19 : decode cX8_on 19 = .ok (.isub, 1) := by decide +kernel
theorem dX8_on_20 : decode cX8_on 20 = .ok (.invokevirtual 94, 3) := by decide +kernel
theorem dX8_on_23 : decode cX8_on 23 = .ok (.ifCond .ne 5, 3) := by decide +kernel
theorem dX8_on_26 : decode cX8_on 26 = .ok (.iconst (-1), 1) := by decide +kernel
theorem dX8_on_27 : decode cX8_on 27 = .ok (.ireturn, 1) := by decide +kernel
theorem dX8_on_28 : decode cX8_on 28 = .ok (.iload_n 1, 1) := by decide +kernel
theorem dX8_on_29 : decode cX8_on 29 = .ok (.iconst 0, 1) := by decide +kernel
theorem dX8_on_30 : decode cX8_on 30 = .ok (.bipush 60, 2) := by decide +kernel
theorem dX8_on_32 : decode cX8_on 32 = .ok (.invokestatic 78, 3) := by decide +kernel
theorem dX8_on_35 : decode cX8_on 35 = .ok (.ifCond .ne 6, 3) := by decide +kernel
theorem dX8_on_38 : decode cX8_on 38 = .ok (.bipush (-2), 2) := by decide +kernel
theorem dX8_on_40 : decode cX8_on 40 = .ok (.ireturn, 1) := by decide +kernel
theorem dX8_on_41 : decode cX8_on 41 = .ok (.aload_n 0, 1) := by decide +kernel
theorem dX8_on_42 : decode cX8_on 42 = .ok (.iconst 0, 1) := by decide +kernel
theorem dX8_on_43 : decode cX8_on 43 = .ok (.invokevirtual 206, 3) := by decide +kernel
theorem dX8_on_46 : decode cX8_on 46 = .ok (.aload_n 0, 1) := by decide +kernel
theorem dX8_on_47 : decode cX8_on 47 = .ok (.iload_n 1, 1) := by decide +kernel
theorem dX8_on_48 : decode cX8_on 48 = .ok (.invokevirtual 225, 3) := by decide +kernel
theorem dX8_on_51 : decode cX8_on 51 = .ok (.iload_n 2, 1) := by decide +kernel
theorem dX8_on_52 : decode cX8_on 52 = .ok (.ifCond .ne 10, 3) := by decide +kernel
theorem dX8_on_55 : decode cX8_on 55 = .ok (.aload_n 0, 1) := by decide +kernel
theorem dX8_on_56 : decode cX8_on 56 = .ok (.invokevirtual 215, 3) := by decide +kernel
theorem dX8_on_59 : decode cX8_on 59 = .ok (.goto 30, 3) := by decide +kernel
theorem dX8_on_62 : decode cX8_on 62 = .ok (.iload_n 2, 1) := by decide +kernel
theorem dX8_on_63 : decode cX8_on 63 = .ok (.bipush 20, 2) := by decide +kernel
theorem dX8_on_65 : decode cX8_on 65 = .ok (.if_icmp .ge 15, 3) := by decide +kernel
theorem dX8_on_68 : decode cX8_on 68 = .ok (.aload_n 0, 1) := by decide +kernel
theorem dX8_on_69 : decode cX8_on 69 = .ok (.iload_n 2, 1) := by decide +kernel
theorem dX8_on_70 : decode cX8_on 70 = .ok (.bipush 10, 2) := by decide +kernel
theorem dX8_on_72 : decode cX8_on 72 = .ok (.isub, 1) := by decide +kernel
theorem dX8_on_73 : decode cX8_on 73 = .ok (.iconst 5, 1) := by decide +kernel
theorem dX8_on_74 : decode cX8_on 74 = .ok (.invokevirtual 82, 3) := by decide +kernel
theorem dX8_on_77 : decode cX8_on 77 = .ok (.goto 12, 3) := by decide +kernel
theorem dX8_on_80 : decode cX8_on 80 = .ok (.aload_n 0, 1) := by decide +kernel
theorem dX8_on_81 : decode cX8_on 81 = .ok (.iload_n 2, 1) := by decide +kernel
theorem dX8_on_82 : decode cX8_on 82 = .ok (.bipush 20, 2) := by decide +kernel
theorem dX8_on_84 : decode cX8_on 84 = .ok (.isub, 1) := by decide +kernel
theorem dX8_on_85 : decode cX8_on 85 = .ok (.iconst 2, 1) := by decide +kernel
theorem dX8_on_86 : decode cX8_on 86 = .ok (.invokevirtual 82, 3) := by decide +kernel
theorem dX8_on_89 : decode cX8_on 89 = .ok (.istore_n 3, 1) := by decide +kernel
theorem dX8_on_90 : decode cX8_on 90 = .ok (.aload_n 0, 1) := by decide +kernel
theorem dX8_on_91 : decode cX8_on 91 = .ok (.iconst 0, 1) := by decide +kernel
theorem dX8_on_92 : decode cX8_on 92 = .ok (.invokevirtual 209, 3) := by decide +kernel
theorem dX8_on_95 : decode cX8_on 95 = .ok (.iload_n 3, 1) := by decide +kernel
theorem dX8_on_96 : decode cX8_on 96 = .ok (.ireturn, 1) := by decide +kernel
theorem dX8_letsAll_0 : decode cX8_letsAll 0 = .ok (.iconst 0, 1) := by decide +kernel
theorem dX8_letsAll_1 : decode cX8_letsAll 1 = .ok (.istore_n 2, 1) := by decide +kernel
theorem dX8_letsAll_2 : decode cX8_letsAll 2 = .ok (.iconst 0, 1) := by decide +kernel
theorem dX8_letsAll_3 : decode cX8_letsAll 3 = .ok (.istore_n 3, 1) := by decide +kernel
theorem dX8_letsAll_4 : decode cX8_letsAll 4 = .ok (.iload_n 3, 1) := by decide +kernel
theorem dX8_letsAll_5 : decode cX8_letsAll 5 = .ok (.aload_n 0, 1) := by decide +kernel
theorem dX8_letsAll_6 : decode cX8_letsAll 6 = .ok (.getfield 9, 3) := by decide +kernel
theorem dX8_letsAll_9 : decode cX8_letsAll 9 = .ok (.bipush 76, 2) := by decide +kernel
theorem dX8_letsAll_11 : decode cX8_letsAll 11 = .ok (.iaload, 1) := by decide +kernel
theorem dX8_letsAll_12 : decode cX8_letsAll 12 = .ok (.if_icmp .ge 26, 3) := by decide +kernel
theorem dX8_letsAll_15 : decode cX8_letsAll 15 = .ok (.iload_n 2, 1) := by decide +kernel
theorem dX8_letsAll_16 : decode cX8_letsAll 16 = .ok (.aload_n 0, 1) := by decide +kernel
theorem dX8_letsAll_17 : decode cX8_letsAll 17 = .ok (.iload_n 3, 1) := by decide +kernel
theorem dX8_letsAll_18 : decode cX8_letsAll 18 = .ok (.iload_n 1, 1) := by decide +kernel
theorem dX8_letsAll_19 : decode cX8_letsAll 19 = .ok (.invokevirtual 101, 3) := by decide +kernel
theorem dX8_letsAll_22 : decode cX8_letsAll 22 = .ok (.ifCond .eq 7, 3) := by decide +kernel
theorem dX8_letsAll_25 : decode cX8_letsAll 25 = .ok (.iconst 1, 1) := by decide +kernel
theorem dX8_letsAll_26 : decode cX8_letsAll 26 = .ok (.goto 4, 3) := by decide +kernel
theorem dX8_letsAll_29 : decode cX8_letsAll 29 = .ok (.iconst 0, 1) := by decide +kernel
theorem dX8_letsAll_30 : decode cX8_letsAll 30 = .ok (.iadd, 1) := by decide +kernel
theorem dX8_letsAll_31 : decode cX8_letsAll 31 = .ok (.istore_n 2, 1) := by decide +kernel
theorem dX8_letsAll_32 : decode cX8_letsAll 32 = .ok (.iinc 3 1, 3) := by decide +kernel
theorem dX8_letsAll_35 : decode cX8_letsAll 35 = .ok (.goto (-31), 3) := by decide +kernel
theorem dX8_letsAll_38 : decode cX8_letsAll 38 = .ok (.iload_n 2, 1) := by decide +kernel
theorem dX8_letsAll_39 : decode cX8_letsAll 39 = .ok (.ireturn, 1) := by decide +kernel
theorem dX8_learn_0 : decode cX8_learn 0 = .ok (.iload_n 2, 1) := by decide +kernel
theorem dX8_learn_1 : decode cX8_learn 1 = .ok (.iload_n 3, 1) := by decide +kernel
theorem dX8_learn_2 : decode cX8_learn 2 = .ok (.if_icmp .ne 55, 3) := by decide +kernel
theorem dX8_learn_5 : decode cX8_learn 5 = .ok (.aload_n 0, 1) := by decide +kernel
theorem dX8_learn_6 : decode cX8_learn 6 = .ok (.iload_n 1, 1) := by decide +kernel
theorem dX8_learn_7 : decode cX8_learn 7 = .ok (.invokevirtual 228, 3) := by decide +kernel
theorem dX8_learn_10 : decode cX8_learn 10 = .ok (.istore 4, 2) := by decide +kernel
theorem dX8_learn_12 : decode cX8_learn 12 = .ok (.iload 4, 2) := by decide +kernel
theorem dX8_learn_14 : decode cX8_learn 14 = .ok (.aload_n 0, 1) := by decide +kernel
theorem dX8_learn_15 : decode cX8_learn 15 = .ok (.getfield 231, 3) := by decide +kernel
theorem dX8_learn_18 : decode cX8_learn 18 = .ok (.if_icmp .le 38, 3) := by decide +kernel
theorem dX8_learn_21 : decode cX8_learn 21 = .ok (.aload_n 0, 1) := by decide +kernel
theorem dX8_learn_22 : decode cX8_learn 22 = .ok (.iload 4, 2) := by decide +kernel
theorem dX8_learn_24 : decode cX8_learn 24 = .ok (.putfield 231, 3) := by decide +kernel
theorem dX8_learn_27 : decode cX8_learn 27 = .ok (.iconst 0, 1) := by decide +kernel
theorem dX8_learn_28 : decode cX8_learn 28 = .ok (.istore 5, 2) := by decide +kernel
theorem dX8_learn_30 : decode cX8_learn 30 = .ok (.iload 5, 2) := by decide +kernel
theorem dX8_learn_32 : decode cX8_learn 32 = .ok (.iload_n 3, 1) := by decide +kernel
theorem dX8_learn_33 : decode cX8_learn 33 = .ok (.if_icmp .ge 23, 3) := by decide +kernel
theorem dX8_learn_36 : decode cX8_learn 36 = .ok (.aload_n 0, 1) := by decide +kernel
theorem dX8_learn_37 : decode cX8_learn 37 = .ok (.getfield 46, 3) := by decide +kernel
theorem dX8_learn_40 : decode cX8_learn 40 = .ok (.iload 5, 2) := by decide +kernel
theorem dX8_learn_42 : decode cX8_learn 42 = .ok (.aload_n 0, 1) := by decide +kernel
theorem dX8_learn_43 : decode cX8_learn 43 = .ok (.getfield 43, 3) := by decide +kernel
theorem dX8_learn_46 : decode cX8_learn 46 = .ok (.iload 5, 2) := by decide +kernel
theorem dX8_learn_48 : decode cX8_learn 48 = .ok (.iaload, 1) := by decide +kernel
theorem dX8_learn_49 : decode cX8_learn 49 = .ok (.iastore, 1) := by decide +kernel
theorem dX8_learn_50 : decode cX8_learn 50 = .ok (.iinc 5 1, 3) := by decide +kernel
theorem dX8_learn_53 : decode cX8_learn 53 = .ok (.goto (-23), 3) := by decide +kernel
theorem dX8_learn_56 : decode cX8_learn 56 = .ok (.return_, 1) := by decide +kernel
theorem dX8_learn_57 : decode cX8_learn 57 = .ok (.aload_n 0, 1) := by decide +kernel
theorem dX8_learn_58 : decode cX8_learn 58 = .ok (.iload_n 2, 1) := by decide +kernel
theorem dX8_learn_59 : decode cX8_learn 59 = .ok (.invokevirtual 206, 3) := by decide +kernel
theorem dX8_learn_62 : decode cX8_learn 62 = .ok (.iconst 0, 1) := by decide +kernel
theorem dX8_learn_63 : decode cX8_learn 63 = .ok (.istore 4, 2) := by decide +kernel
theorem dX8_learn_65 : decode cX8_learn 65 = .ok (.iload 4, 2) := by decide +kernel
theorem dX8_learn_67 : decode cX8_learn 67 = .ok (.aload_n 0, 1) := by decide +kernel
theorem dX8_learn_68 : decode cX8_learn 68 = .ok (.getfield 9, 3) := by decide +kernel
theorem dX8_learn_71 : decode cX8_learn 71 = .ok (.bipush 76, 2) := by decide +kernel
theorem dX8_learn_73 : decode cX8_learn 73 = .ok (.iaload, 1) := by decide +kernel
theorem dX8_learn_74 : decode cX8_learn 74 = .ok (.if_icmp .ge 44, 3) := by decide +kernel
theorem dX8_learn_77 : decode cX8_learn 77 = .ok (.aload_n 0, 1) := by decide +kernel
theorem dX8_learn_78 : decode cX8_learn 78 = .ok (.getfield 43, 3) := by decide +kernel
theorem dX8_learn_81 : decode cX8_learn 81 = .ok (.iload_n 2, 1) := by decide +kernel
theorem dX8_learn_82 : decode cX8_learn 82 = .ok (.iload 4, 2) := by decide +kernel
theorem dX8_learn_84 : decode cX8_learn 84 = .ok (.iastore, 1) := by decide +kernel
theorem dX8_learn_85 : decode cX8_learn 85 = .ok (.aload_n 0, 1) := by decide +kernel
theorem dX8_learn_86 : decode cX8_learn 86 = .ok (.iload_n 1, 1) := by decide +kernel
theorem dX8_learn_87 : decode cX8_learn 87 = .ok (.aload_n 0, 1) := by decide +kernel
theorem dX8_learn_88 : decode cX8_learn 88 = .ok (.iload 4, 2) := by decide +kernel
theorem dX8_learn_90 : decode cX8_learn 90 = .ok (.iconst 2, 1) := by decide +kernel
theorem dX8_learn_91 : decode cX8_learn 91 = .ok (.invokevirtual 82, 3) := by decide +kernel
theorem dX8_learn_94 : decode cX8_learn 94 = .ok (.invokevirtual 197, 3) := by decide +kernel
theorem dX8_learn_97 : decode cX8_learn 97 = .ok (.pop, 1) := by decide +kernel
theorem dX8_learn_98 : decode cX8_learn 98 = .ok (.aload_n 0, 1) := by decide +kernel
theorem dX8_learn_99 : decode cX8_learn 99 = .ok (.iload_n 1, 1) := by decide +kernel
theorem dX8_learn_100 : decode cX8_learn 100 = .ok (.iload_n 2, 1) := by decide +kernel
theorem dX8_learn_101 : decode cX8_learn 101 = .ok (.iconst 1, 1) := by decide +kernel
theorem dX8_learn_102 : decode cX8_learn 102 = .ok (.iadd, 1) := by decide +kernel
theorem dX8_learn_103 : decode cX8_learn 103 = .ok (.iload_n 3, 1) := by decide +kernel
theorem dX8_learn_104 : decode cX8_learn 104 = .ok (.invokevirtual 234, 3) := by decide +kernel
theorem dX8_learn_107 : decode cX8_learn 107 = .ok (.aload_n 0, 1) := by decide +kernel
theorem dX8_learn_108 : decode cX8_learn 108 = .ok (.iload_n 2, 1) := by decide +kernel
theorem dX8_learn_109 : decode cX8_learn 109 = .ok (.invokevirtual 209, 3) := by decide +kernel
theorem dX8_learn_112 : decode cX8_learn 112 = .ok (.iinc 4 1, 3) := by decide +kernel
theorem dX8_learn_115 : decode cX8_learn 115 = .ok (.goto (-50), 3) := by decide +kernel
theorem dX8_learn_118 : decode cX8_learn 118 = .ok (.return_, 1) := by decide +kernel
theorem dX8_lessons_0 : decode cX8_lessons 0 = .ok (.iload_n 1, 1) := by decide +kernel
theorem dX8_lessons_1 : decode cX8_lessons 1 = .ok (.invokestatic 86, 3) := by decide +kernel
theorem dX8_lessons_4 : decode cX8_lessons 4 = .ok (.ifCond .eq 12, 3) := by decide +kernel
theorem dX8_lessons_7 : decode cX8_lessons 7 = .ok (.iload_n 3, 1) := by decide +kernel
theorem dX8_lessons_8 : decode cX8_lessons 8 = .ok (.iconst (-1), 1) := by decide +kernel
theorem dX8_lessons_9 : decode cX8_lessons 9 = .ok (.iconst 2, 1) := by decide +kernel
theorem dX8_lessons_10 : decode cX8_lessons 10 = .ok (.invokestatic 78, 3) := by decide +kernel
theorem dX8_lessons_13 : decode cX8_lessons 13 = .ok (.ifCond .ne 5, 3) := by decide +kernel
theorem dX8_lessons_16 : decode cX8_lessons 16 = .ok (.iconst (-1), 1) := by decide +kernel
theorem dX8_lessons_17 : decode cX8_lessons 17 = .ok (.ireturn, 1) := by decide +kernel
theorem dX8_lessons_18 : decode cX8_lessons 18 = .ok (.iload_n 2, 1) := by decide +kernel
theorem dX8_lessons_19 : decode cX8_lessons 19 = .ok (.iconst 1, 1) := by decide +kernel
theorem dX8_lessons_20 : decode cX8_lessons 20 = .ok (.iconst 3, 1) := by decide +kernel
theorem dX8_lessons_21 : decode cX8_lessons 21 = .ok (.invokestatic 78, 3) := by decide +kernel
theorem dX8_lessons_24 : decode cX8_lessons 24 = .ok (.ifCond .ne 6, 3) := by decide +kernel
theorem dX8_lessons_27 : decode cX8_lessons 27 = .ok (.bipush (-2), 2) := by decide +kernel
theorem dX8_lessons_29 : decode cX8_lessons 29 = .ok (.ireturn, 1) := by decide +kernel
theorem dX8_lessons_30 : decode cX8_lessons 30 = .ok (.aload_n 0, 1) := by decide +kernel
theorem dX8_lessons_31 : decode cX8_lessons 31 = .ok (.iconst (-1), 1) := by decide +kernel
theorem dX8_lessons_32 : decode cX8_lessons 32 = .ok (.putfield 231, 3) := by decide +kernel
theorem dX8_lessons_35 : decode cX8_lessons 35 = .ok (.aload_n 0, 1) := by decide +kernel
theorem dX8_lessons_36 : decode cX8_lessons 36 = .ok (.iload_n 1, 1) := by decide +kernel
theorem dX8_lessons_37 : decode cX8_lessons 37 = .ok (.iconst 0, 1) := by decide +kernel
theorem dX8_lessons_38 : decode cX8_lessons 38 = .ok (.iload_n 2, 1) := by decide +kernel
theorem dX8_lessons_39 : decode cX8_lessons 39 = .ok (.invokevirtual 234, 3) := by decide +kernel
theorem dX8_lessons_42 : decode cX8_lessons 42 = .ok (.iload_n 3, 1) := by decide +kernel
theorem dX8_lessons_43 : decode cX8_lessons 43 = .ok (.iconst (-1), 1) := by decide +kernel
theorem dX8_lessons_44 : decode cX8_lessons 44 = .ok (.if_icmp .ne 12, 3) := by decide +kernel
theorem dX8_lessons_47 : decode cX8_lessons 47 = .ok (.iconst 0, 1) := by decide +kernel
theorem dX8_lessons_48 : decode cX8_lessons 48 = .ok (.aload_n 0, 1) := by decide +kernel
theorem dX8_lessons_49 : decode cX8_lessons 49 = .ok (.getfield 231, 3) := by decide +kernel
theorem dX8_lessons_52 : decode cX8_lessons 52 = .ok (.invokestatic 238, 3) := by decide +kernel
theorem dX8_lessons_55 : decode cX8_lessons 55 = .ok (.ireturn, 1) := by decide +kernel
theorem dX8_lessons_56 : decode cX8_lessons 56 = .ok (.iload_n 3, 1) := by decide +kernel
theorem dX8_lessons_57 : decode cX8_lessons 57 = .ok (.iload_n 2, 1) := by decide +kernel
theorem dX8_lessons_58 : decode cX8_lessons 58 = .ok (.if_icmp .ge 22, 3) := by decide +kernel
theorem dX8_lessons_61 : decode cX8_lessons 61 = .ok (.aload_n 0, 1) := by decide +kernel
theorem dX8_lessons_62 : decode cX8_lessons 62 = .ok (.getfield 9, 3) := by decide +kernel
theorem dX8_lessons_65 : decode cX8_lessons 65 = .ok (.bipush 76, 2) := by decide +kernel
theorem dX8_lessons_67 : decode cX8_lessons 67 = .ok (.iaload, 1) := by decide +kernel
theorem dX8_lessons_68 : decode cX8_lessons 68 = .ok (.ifCond .le 12, 3) := by decide +kernel
theorem dX8_lessons_71 : decode cX8_lessons 71 = .ok (.aload_n 0, 1) := by decide +kernel
theorem dX8_lessons_72 : decode cX8_lessons 72 = .ok (.getfield 46, 3) := by decide +kernel
theorem dX8_lessons_75 : decode cX8_lessons 75 = .ok (.iload_n 3, 1) := by decide +kernel
theorem dX8_lessons_76 : decode cX8_lessons 76 = .ok (.iaload, 1) := by decide +kernel
theorem dX8_lessons_77 : decode cX8_lessons 77 = .ok (.goto 5, 3) := by decide +kernel
theorem dX8_lessons_80 : decode cX8_lessons 80 = .ok (.bipush (-5), 2) := by decide +kernel
theorem dX8_lessons_82 : decode cX8_lessons 82 = .ok (.ireturn, 1) := by decide +kernel
theorem dX8_master_0 : decode cX8_master 0 = .ok (.iconst 0, 1) := by decide +kernel
theorem dX8_master_1 : decode cX8_master 1 = .ok (.istore_n 3, 1) := by decide +kernel
theorem dX8_master_2 : decode cX8_master 2 = .ok (.iload_n 3, 1) := by decide +kernel
theorem dX8_master_3 : decode cX8_master 3 = .ok (.aload_n 0, 1) := by decide +kernel
theorem dX8_master_4 : decode cX8_master 4 = .ok (.getfield 9, 3) := by decide +kernel
theorem dX8_master_7 : decode cX8_master 7 = .ok (.bipush 76, 2) := by decide +kernel
theorem dX8_master_9 : decode cX8_master 9 = .ok (.iaload, 1) := by decide +kernel
theorem dX8_master_10 : decode cX8_master 10 = .ok (.if_icmp .ge 21, 3) := by decide +kernel
theorem dX8_master_13 : decode cX8_master 13 = .ok (.aload_n 0, 1) := by decide +kernel
theorem dX8_master_14 : decode cX8_master 14 = .ok (.getfield 49, 3) := by decide +kernel
theorem dX8_master_17 : decode cX8_master 17 = .ok (.iload_n 3, 1) := by decide +kernel
theorem dX8_master_18 : decode cX8_master 18 = .ok (.aload_n 0, 1) := by decide +kernel
theorem dX8_master_19 : decode cX8_master 19 = .ok (.iload_n 3, 1) := by decide +kernel
theorem dX8_master_20 : decode cX8_master 20 = .ok (.iload_n 1, 1) := by decide +kernel
theorem dX8_master_21 : decode cX8_master 21 = .ok (.invokevirtual 114, 3) := by decide +kernel
theorem dX8_master_24 : decode cX8_master 24 = .ok (.iastore, 1) := by decide +kernel
theorem dX8_master_25 : decode cX8_master 25 = .ok (.iinc 3 1, 3) := by decide +kernel
theorem dX8_master_28 : decode cX8_master 28 = .ok (.goto (-26), 3) := by decide +kernel
theorem dX8_master_31 : decode cX8_master 31 = .ok (.aload_n 0, 1) := by decide +kernel
theorem dX8_master_32 : decode cX8_master 32 = .ok (.invokevirtual 212, 3) := by decide +kernel
theorem dX8_master_35 : decode cX8_master 35 = .ok (.istore_n 3, 1) := by decide +kernel
theorem dX8_master_36 : decode cX8_master 36 = .ok (.iconst 0, 1) := by decide +kernel
theorem dX8_master_37 : decode cX8_master 37 = .ok (.istore 4, 2) := by decide +kernel
theorem dX8_master_39 : decode cX8_master 39 = .ok (.iconst (-1), 1) := by decide +kernel
theorem dX8_master_40 : decode cX8_master 40 = .ok (.istore 5, 2) := by decide +kernel
theorem dX8_master_42 : decode cX8_master 42 = .ok (.iconst 0, 1) := by decide +kernel
theorem dX8_master_43 : decode cX8_master 43 = .ok (.istore 6, 2) := by decide +kernel
theorem dX8_master_45 : decode cX8_master 45 = .ok (.iload 6, 2) := by decide +kernel
theorem dX8_master_47 : decode cX8_master 47 = .ok (.sipush 4096, 3) := by decide +kernel
theorem dX8_master_50 : decode cX8_master 50 = .ok (.if_icmp .ge 88, 3) := by decide +kernel
theorem dX8_master_53 : decode cX8_master 53 = .ok (.iconst 0, 1) := by decide +kernel
theorem dX8_master_54 : decode cX8_master 54 = .ok (.istore 7, 2) := by decide +kernel
theorem dX8_master_56 : decode cX8_master 56 = .ok (.iconst 0, 1) := by decide +kernel
theorem dX8_master_57 : decode cX8_master 57 = .ok (.istore 8, 2) := by decide +kernel
theorem dX8_master_59 : decode cX8_master 59 = .ok (.iload 8, 2) := by decide +kernel
theorem dX8_master_61 : decode cX8_master 61 = .ok (.aload_n 0, 1) := by decide +kernel
theorem dX8_master_62 : decode cX8_master 62 = .ok (.getfield 9, 3) := by decide +kernel
theorem dX8_master_65 : decode cX8_master 65 = .ok (.bipush 76, 2) := by decide +kernel
theorem dX8_master_67 : decode cX8_master 67 = .ok (.iaload, 1) := by decide +kernel
theorem dX8_master_68 : decode cX8_master 68 = .ok (.if_icmp .ge 39, 3) := by decide +kernel
theorem dX8_master_71 : decode cX8_master 71 = .ok (.iload 7, 2) := by decide +kernel
theorem dX8_master_73 : decode cX8_master 73 = .ok (.aload_n 0, 1) := by decide +kernel
theorem dX8_master_74 : decode cX8_master 74 = .ok (.iload 8, 2) := by decide +kernel
theorem dX8_master_76 : decode cX8_master 76 = .ok (.iload_n 1, 1) := by decide +kernel
theorem dX8_master_77 : decode cX8_master 77 = .ok (.iload 6, 2) := by decide +kernel
theorem dX8_master_79 : decode cX8_master 79 = .ok (.aload_n 0, 1) := by decide +kernel
theorem dX8_master_80 : decode cX8_master 80 = .ok (.getfield 49, 3) := by decide +kernel
theorem dX8_master_83 : decode cX8_master 83 = .ok (.iload 8, 2) := by decide +kernel
theorem dX8_master_85 : decode cX8_master 85 = .ok (.iaload, 1) := by decide +kernel
theorem dX8_master_86 : decode cX8_master 86 = .ok (.invokevirtual 117, 3) := by decide +kernel
theorem dX8_master_89 : decode cX8_master 89 = .ok (.iload_n 3, 1) := by decide +kernel
theorem dX8_master_90 : decode cX8_master 90 = .ok (.if_icmp .lt 7, 3) := by decide +kernel
theorem dX8_master_93 : decode cX8_master 93 = .ok (.iconst 1, 1) := by decide +kernel
theorem dX8_master_94 : decode cX8_master 94 = .ok (.goto 4, 3) := by decide +kernel
theorem dX8_master_97 : decode cX8_master 97 = .ok (.iconst 0, 1) := by decide +kernel
theorem dX8_master_98 : decode cX8_master 98 = .ok (.iadd, 1) := by decide +kernel
theorem dX8_master_99 : decode cX8_master 99 = .ok (.istore 7, 2) := by decide +kernel
theorem dX8_master_101 : decode cX8_master 101 = .ok (.iinc 8 1, 3) := by decide +kernel
theorem dX8_master_104 : decode cX8_master 104 = .ok (.goto (-45), 3) := by decide +kernel
theorem dX8_master_107 : decode cX8_master 107 = .ok (.iload 7, 2) := by decide +kernel
theorem dX8_master_109 : decode cX8_master 109 = .ok (.iload 5, 2) := by decide +kernel
theorem dX8_master_111 : decode cX8_master 111 = .ok (.if_icmp .le 8, 3) := by decide +kernel
theorem dX8_master_114 : decode cX8_master 114 = .ok (.iload 6, 2) := by decide +kernel
theorem dX8_master_116 : decode cX8_master 116 = .ok (.goto 5, 3) := by decide +kernel
theorem dX8_master_119 : decode cX8_master 119 = .ok (.iload 4, 2) := by decide +kernel
theorem dX8_master_121 : decode cX8_master 121 = .ok (.istore 4, 2) := by decide +kernel
theorem dX8_master_123 : decode cX8_master 123 = .ok (.iload 7, 2) := by decide +kernel
theorem dX8_master_125 : decode cX8_master 125 = .ok (.iload 5, 2) := by decide +kernel
theorem dX8_master_127 : decode cX8_master 127 = .ok (.invokestatic 238, 3) := by decide +kernel
theorem dX8_master_130 : decode cX8_master 130 = .ok (.istore 5, 2) := by decide +kernel
theorem dX8_master_132 : decode cX8_master 132 = .ok (.iinc 6 1, 3) := by decide +kernel
theorem dX8_master_135 : decode cX8_master 135 = .ok (.goto (-90), 3) := by decide +kernel
theorem dX8_master_138 : decode cX8_master 138 = .ok (.iload_n 2, 1) := by decide +kernel
theorem dX8_master_139 : decode cX8_master 139 = .ok (.ifCond .eq 8, 3) := by decide +kernel
theorem dX8_master_142 : decode cX8_master 142 = .ok (.iload 5, 2) := by decide +kernel
theorem dX8_master_144 : decode cX8_master 144 = .ok (.goto 5, 3) := by decide +kernel
theorem dX8_master_147 : decode cX8_master 147 = .ok (.iload 4, 2) := by decide +kernel
theorem dX8_master_149 : decode cX8_master 149 = .ok (.ireturn, 1) := by decide +kernel
theorem dX8_feign_0 : decode cX8_feign 0 = .ok (.aload_n 0, 1) := by decide +kernel
theorem dX8_feign_1 : decode cX8_feign 1 = .ok (.iload_n 1, 1) := by decide +kernel
theorem dX8_feign_2 : decode cX8_feign 2 = .ok (.invokevirtual 94, 3) := by decide +kernel
theorem dX8_feign_5 : decode cX8_feign 5 = .ok (.ifCond .eq 19, 3) := by decide +kernel
theorem dX8_feign_8 : decode cX8_feign 8 = .ok (.iload_n 2, 1) := by decide +kernel
theorem dX8_feign_9 : decode cX8_feign 9 = .ok (.invokestatic 86, 3) := by decide +kernel
theorem dX8_feign_12 : decode cX8_feign 12 = .ok (.ifCond .eq 12, 3) := by decide +kernel
theorem dX8_feign_15 : decode cX8_feign 15 = .ok (.iload_n 3, 1) := by decide +kernel
theorem dX8_feign_16 : decode cX8_feign 16 = .ok (.iconst 0, 1) := by decide +kernel
theorem dX8_feign_17 : decode cX8_feign 17 = .ok (.iconst 1, 1) := by decide +kernel
theorem dX8_feign_18 : decode cX8_feign 18 = .ok (.invokestatic 78, 3) := by decide +kernel
theorem dX8_feign_21 : decode cX8_feign 21 = .ok (.ifCond .ne 5, 3) := by decide +kernel
theorem dX8_feign_24 : decode cX8_feign 24 = .ok (.iconst (-1), 1) := by decide +kernel
theorem dX8_feign_25 : decode cX8_feign 25 = .ok (.ireturn, 1) := by decide +kernel
theorem dX8_feign_26 : decode cX8_feign 26 = .ok (.aload_n 0, 1) := by decide +kernel
theorem dX8_feign_27 : decode cX8_feign 27 = .ok (.iload_n 1, 1) := by decide +kernel
theorem dX8_feign_28 : decode cX8_feign 28 = .ok (.iload_n 2, 1) := by decide +kernel
theorem dX8_feign_29 : decode cX8_feign 29 = .ok (.invokevirtual 114, 3) := by decide +kernel
theorem dX8_feign_32 : decode cX8_feign 32 = .ok (.istore 4, 2) := by decide +kernel
theorem dX8_feign_34 : decode cX8_feign 34 = .ok (.aload_n 0, 1) := by decide +kernel
theorem dX8_feign_35 : decode cX8_feign 35 = .ok (.iload_n 1, 1) := by decide +kernel
theorem dX8_feign_36 : decode cX8_feign 36 = .ok (.iconst 2, 1) := by decide +kernel
theorem dX8_feign_37 : decode cX8_feign 37 = .ok (.invokevirtual 82, 3) := by decide +kernel
theorem dX8_feign_40 : decode cX8_feign 40 = .ok (.istore 5, 2) := by decide +kernel
theorem dX8_feign_42 : decode cX8_feign 42 = .ok (.bipush (-5), 2) := by decide +kernel
theorem dX8_feign_44 : decode cX8_feign 44 = .ok (.istore 6, 2) := by decide +kernel
theorem dX8_feign_46 : decode cX8_feign 46 = .ok (.bipush (-5), 2) := by decide +kernel
theorem dX8_feign_48 : decode cX8_feign 48 = .ok (.istore 7, 2) := by decide +kernel
theorem dX8_feign_50 : decode cX8_feign 50 = .ok (.iconst 0, 1) := by decide +kernel
theorem dX8_feign_51 : decode cX8_feign 51 = .ok (.istore 8, 2) := by decide +kernel
theorem dX8_feign_53 : decode cX8_feign 53 = .ok (.iload 8, 2) := by decide +kernel
theorem dX8_feign_55 : decode cX8_feign 55 = .ok (.sipush 4096, 3) := by decide +kernel
theorem dX8_feign_58 : decode cX8_feign 58 = .ok (.if_icmp .ge 126, 3) := by decide +kernel
theorem dX8_feign_61 : decode cX8_feign 61 = .ok (.iload 8, 2) := by decide +kernel
theorem dX8_feign_63 : decode cX8_feign 63 = .ok (.iload 5, 2) := by decide +kernel
theorem dX8_feign_65 : decode cX8_feign 65 = .ok (.ixor, 1) := by decide +kernel
theorem dX8_feign_66 : decode cX8_feign 66 = .ok (.invokestatic 186, 3) := by decide +kernel
theorem dX8_feign_69 : decode cX8_feign 69 = .ok (.istore 9, 2) := by decide +kernel
theorem dX8_feign_71 : decode cX8_feign 71 = .ok (.iload 6, 2) := by decide +kernel
theorem dX8_feign_73 : decode cX8_feign 73 = .ok (.bipush (-5), 2) := by decide +kernel
theorem dX8_feign_75 : decode cX8_feign 75 = .ok (.if_icmp .eq 10, 3) := by decide +kernel
theorem dX8_feign_78 : decode cX8_feign 78 = .ok (.iload 9, 2) := by decide +kernel
theorem dX8_feign_80 : decode cX8_feign 80 = .ok (.iload 6, 2) := by decide +kernel
theorem dX8_feign_82 : decode cX8_feign 82 = .ok (.if_icmp .ge 96, 3) := by decide +kernel
theorem dX8_feign_85 : decode cX8_feign 85 = .ok (.aload_n 0, 1) := by decide +kernel
theorem dX8_feign_86 : decode cX8_feign 86 = .ok (.iload_n 1, 1) := by decide +kernel
theorem dX8_feign_87 : decode cX8_feign 87 = .ok (.iconst 2, 1) := by decide +kernel
theorem dX8_feign_88 : decode cX8_feign 88 = .ok (.iload 8, 2) := by decide +kernel
theorem dX8_feign_90 : decode cX8_feign 90 = .ok (.invokevirtual 90, 3) := by decide +kernel
theorem dX8_feign_93 : decode cX8_feign 93 = .ok (.pop, 1) := by decide +kernel
theorem dX8_feign_94 : decode cX8_feign 94 = .ok (.iconst 0, 1) := by decide +kernel
theorem dX8_feign_95 : decode cX8_feign 95 = .ok (.istore 10, 2) := by decide +kernel
theorem dX8_feign_97 : decode cX8_feign 97 = .ok (.iconst 0, 1) := by decide +kernel
theorem dX8_feign_98 : decode cX8_feign 98 = .ok (.istore 11, 2) := by decide +kernel
theorem dX8_feign_100 : decode cX8_feign 100 = .ok (.iload 11, 2) := by decide +kernel
theorem dX8_feign_102 : decode cX8_feign 102 = .ok (.aload_n 0, 1) := by decide +kernel
theorem dX8_feign_103 : decode cX8_feign 103 = .ok (.iload_n 2, 1) := by decide +kernel
theorem dX8_feign_104 : decode cX8_feign 104 = .ok (.invokevirtual 108, 3) := by decide +kernel
theorem dX8_feign_107 : decode cX8_feign 107 = .ok (.if_icmp .ge 43, 3) := by decide +kernel
theorem dX8_feign_110 : decode cX8_feign 110 = .ok (.iload 10, 2) := by decide +kernel
theorem dX8_feign_112 : decode cX8_feign 112 = .ok (.ifCond .ne 25, 3) := by decide +kernel
theorem dX8_feign_115 : decode cX8_feign 115 = .ok (.aload_n 0, 1) := by decide +kernel
theorem dX8_feign_116 : decode cX8_feign 116 = .ok (.iload_n 1, 1) := by decide +kernel
theorem dX8_feign_117 : decode cX8_feign 117 = .ok (.iload_n 2, 1) := by decide +kernel
theorem dX8_feign_118 : decode cX8_feign 118 = .ok (.aload_n 0, 1) := by decide +kernel
theorem dX8_feign_119 : decode cX8_feign 119 = .ok (.iload_n 2, 1) := by decide +kernel
theorem dX8_feign_120 : decode cX8_feign 120 = .ok (.iload 11, 2) := by decide +kernel
theorem dX8_feign_122 : decode cX8_feign 122 = .ok (.invokevirtual 111, 3) := by decide +kernel
theorem dX8_feign_125 : decode cX8_feign 125 = .ok (.iload 4, 2) := by decide +kernel
theorem dX8_feign_127 : decode cX8_feign 127 = .ok (.invokevirtual 117, 3) := by decide +kernel
theorem dX8_feign_130 : decode cX8_feign 130 = .ok (.aload_n 0, 1) := by decide +kernel
theorem dX8_feign_131 : decode cX8_feign 131 = .ok (.getfield 164, 3) := by decide +kernel
theorem dX8_feign_134 : decode cX8_feign 134 = .ok (.if_icmp .lt 7, 3) := by decide +kernel
theorem dX8_feign_137 : decode cX8_feign 137 = .ok (.iconst 1, 1) := by decide +kernel
theorem dX8_feign_138 : decode cX8_feign 138 = .ok (.goto 4, 3) := by decide +kernel
theorem dX8_feign_141 : decode cX8_feign 141 = .ok (.iconst 0, 1) := by decide +kernel
theorem dX8_feign_142 : decode cX8_feign 142 = .ok (.istore 10, 2) := by decide +kernel
theorem dX8_feign_144 : decode cX8_feign 144 = .ok (.iinc 11 1, 3) := by decide +kernel
theorem dX8_feign_147 : decode cX8_feign 147 = .ok (.goto (-47), 3) := by decide +kernel
theorem dX8_feign_150 : decode cX8_feign 150 = .ok (.iload 10, 2) := by decide +kernel
theorem dX8_feign_152 : decode cX8_feign 152 = .ok (.ifCond .eq 8, 3) := by decide +kernel
theorem dX8_feign_155 : decode cX8_feign 155 = .ok (.iload 8, 2) := by decide +kernel
theorem dX8_feign_157 : decode cX8_feign 157 = .ok (.goto 5, 3) := by decide +kernel
theorem dX8_feign_160 : decode cX8_feign 160 = .ok (.iload 7, 2) := by decide +kernel
theorem dX8_feign_162 : decode cX8_feign 162 = .ok (.istore 7, 2) := by decide +kernel
theorem dX8_feign_164 : decode cX8_feign 164 = .ok (.iload 10, 2) := by decide +kernel
theorem dX8_feign_166 : decode cX8_feign 166 = .ok (.ifCond .eq 8, 3) := by decide +kernel
theorem dX8_feign_169 : decode cX8_feign 169 = .ok (.iload 9, 2) := by decide +kernel
theorem dX8_feign_171 : decode cX8_feign 171 = .ok (.goto 5, 3) := by decide +kernel
theorem dX8_feign_174 : decode cX8_feign 174 = .ok (.iload 6, 2) := by decide +kernel
theorem dX8_feign_176 : decode cX8_feign 176 = .ok (.istore 6, 2) := by decide +kernel
theorem dX8_feign_178 : decode cX8_feign 178 = .ok (.iinc 8 1, 3) := by decide +kernel
theorem dX8_feign_181 : decode cX8_feign 181 = .ok (.goto (-128), 3) := by decide +kernel
theorem dX8_feign_184 : decode cX8_feign 184 = .ok (.aload_n 0, 1) := by decide +kernel
theorem dX8_feign_185 : decode cX8_feign 185 = .ok (.iload_n 1, 1) := by decide +kernel
theorem dX8_feign_186 : decode cX8_feign 186 = .ok (.iconst 2, 1) := by decide +kernel
theorem dX8_feign_187 : decode cX8_feign 187 = .ok (.iload 5, 2) := by decide +kernel
theorem dX8_feign_189 : decode cX8_feign 189 = .ok (.invokevirtual 90, 3) := by decide +kernel
theorem dX8_feign_192 : decode cX8_feign 192 = .ok (.pop, 1) := by decide +kernel
theorem dX8_feign_193 : decode cX8_feign 193 = .ok (.iload_n 3, 1) := by decide +kernel
theorem dX8_feign_194 : decode cX8_feign 194 = .ok (.ifCond .ne 8, 3) := by decide +kernel
theorem dX8_feign_197 : decode cX8_feign 197 = .ok (.iload 6, 2) := by decide +kernel
theorem dX8_feign_199 : decode cX8_feign 199 = .ok (.goto 5, 3) := by decide +kernel
theorem dX8_feign_202 : decode cX8_feign 202 = .ok (.iload 7, 2) := by decide +kernel
theorem dX8_feign_204 : decode cX8_feign 204 = .ok (.ireturn, 1) := by decide +kernel
theorem dX8_see_0 : decode cX8_see 0 = .ok (.iload_n 1, 1) := by decide +kernel
theorem dX8_see_1 : decode cX8_see 1 = .ok (.iconst (-1), 1) := by decide +kernel
theorem dX8_see_2 : decode cX8_see 2 = .ok (.if_icmp .ne 13, 3) := by decide +kernel
theorem dX8_see_5 : decode cX8_see 5 = .ok (.aload_n 0, 1) := by decide +kernel
theorem dX8_see_6 : decode cX8_see 6 = .ok (.getfield 9, 3) := by decide +kernel
theorem dX8_see_9 : decode cX8_see 9 = .ok (.bipush 79, 2) := by decide +kernel
theorem dX8_see_11 : decode cX8_see 11 = .ok (.iconst 0, 1) := by decide +kernel
theorem dX8_see_12 : decode cX8_see 12 = .ok (.iastore, 1) := by decide +kernel
theorem dX8_see_13 : decode cX8_see 13 = .ok (.iconst 0, 1) := by decide +kernel
theorem dX8_see_14 : decode cX8_see 14 = .ok (.ireturn, 1) := by decide +kernel
theorem dX8_see_15 : decode cX8_see 15 = .ok (.aload_n 0, 1) := by decide +kernel
theorem dX8_see_16 : decode cX8_see 16 = .ok (.iload_n 1, 1) := by decide +kernel
theorem dX8_see_17 : decode cX8_see 17 = .ok (.invokevirtual 94, 3) := by decide +kernel
theorem dX8_see_20 : decode cX8_see 20 = .ok (.ifCond .eq 10, 3) := by decide +kernel
theorem dX8_see_23 : decode cX8_see 23 = .ok (.iload_n 2, 1) := by decide +kernel
theorem dX8_see_24 : decode cX8_see 24 = .ok (.invokestatic 86, 3) := by decide +kernel
theorem dX8_see_27 : decode cX8_see 27 = .ok (.ifCond .ne 5, 3) := by decide +kernel
theorem dX8_see_30 : decode cX8_see 30 = .ok (.iconst (-1), 1) := by decide +kernel
theorem dX8_see_31 : decode cX8_see 31 = .ok (.ireturn, 1) := by decide +kernel
theorem dX8_see_32 : decode cX8_see 32 = .ok (.aload_n 0, 1) := by decide +kernel
theorem dX8_see_33 : decode cX8_see 33 = .ok (.getfield 9, 3) := by decide +kernel
theorem dX8_see_36 : decode cX8_see 36 = .ok (.bipush 79, 2) := by decide +kernel
theorem dX8_see_38 : decode cX8_see 38 = .ok (.iaload, 1) := by decide +kernel
theorem dX8_see_39 : decode cX8_see 39 = .ok (.iconst 5, 1) := by decide +kernel
theorem dX8_see_40 : decode cX8_see 40 = .ok (.if_icmp .ne 6, 3) := by decide +kernel
theorem dX8_see_43 : decode cX8_see 43 = .ok (.bipush (-4), 2) := by decide +kernel
theorem dX8_see_45 : decode cX8_see 45 = .ok (.ireturn, 1) := by decide +kernel
theorem dX8_see_46 : decode cX8_see 46 = .ok (.bipush 80, 2) := by decide +kernel
theorem dX8_see_48 : decode cX8_see 48 = .ok (.iconst 3, 1) := by decide +kernel
theorem dX8_see_49 : decode cX8_see 49 = .ok (.aload_n 0, 1) := by decide +kernel
theorem dX8_see_50 : decode cX8_see 50 = .ok (.getfield 9, 3) := by decide +kernel
theorem dX8_see_53 : decode cX8_see 53 = .ok (.bipush 79, 2) := by decide +kernel
theorem dX8_see_55 : decode cX8_see 55 = .ok (.iaload, 1) := by decide +kernel
theorem dX8_see_56 : decode cX8_see 56 = .ok (.imul, 1) := by decide +kernel
theorem dX8_see_57 : decode cX8_see 57 = .ok (.iadd, 1) := by decide +kernel
theorem dX8_see_58 : decode cX8_see 58 = .ok (.istore 4, 2) := by decide +kernel
theorem dX8_see_60 : decode cX8_see 60 = .ok (.aload_n 0, 1) := by decide +kernel
theorem dX8_see_61 : decode cX8_see 61 = .ok (.getfield 9, 3) := by decide +kernel
theorem dX8_see_64 : decode cX8_see 64 = .ok (.iload 4, 2) := by decide +kernel
theorem dX8_see_66 : decode cX8_see 66 = .ok (.iload_n 1, 1) := by decide +kernel
theorem dX8_see_67 : decode cX8_see 67 = .ok (.iastore, 1) := by decide +kernel
theorem dX8_see_68 : decode cX8_see 68 = .ok (.aload_n 0, 1) := by decide +kernel
theorem dX8_see_69 : decode cX8_see 69 = .ok (.getfield 9, 3) := by decide +kernel
theorem dX8_see_72 : decode cX8_see 72 = .ok (.iload 4, 2) := by decide +kernel
theorem dX8_see_74 : decode cX8_see 74 = .ok (.iconst 1, 1) := by decide +kernel
theorem dX8_see_75 : decode cX8_see 75 = .ok (.iadd, 1) := by decide +kernel
theorem dX8_see_76 : decode cX8_see 76 = .ok (.iload_n 2, 1) := by decide +kernel
theorem dX8_see_77 : decode cX8_see 77 = .ok (.iastore, 1) := by decide +kernel
theorem dX8_see_78 : decode cX8_see 78 = .ok (.aload_n 0, 1) := by decide +kernel
theorem dX8_see_79 : decode cX8_see 79 = .ok (.getfield 9, 3) := by decide +kernel
theorem dX8_see_82 : decode cX8_see 82 = .ok (.iload 4, 2) := by decide +kernel
theorem dX8_see_84 : decode cX8_see 84 = .ok (.iconst 2, 1) := by decide +kernel
theorem dX8_see_85 : decode cX8_see 85 = .ok (.iadd, 1) := by decide +kernel
theorem dX8_see_86 : decode cX8_see 86 = .ok (.iload_n 3, 1) := by decide +kernel
theorem dX8_see_87 : decode cX8_see 87 = .ok (.ifCond .eq 7, 3) := by decide +kernel
theorem dX8_see_90 : decode cX8_see 90 = .ok (.iconst 1, 1) := by decide +kernel
theorem dX8_see_91 : decode cX8_see 91 = .ok (.goto 4, 3) := by decide +kernel
theorem dX8_see_94 : decode cX8_see 94 = .ok (.iconst 0, 1) := by decide +kernel
theorem dX8_see_95 : decode cX8_see 95 = .ok (.iastore, 1) := by decide +kernel
theorem dX8_see_96 : decode cX8_see 96 = .ok (.aload_n 0, 1) := by decide +kernel
theorem dX8_see_97 : decode cX8_see 97 = .ok (.getfield 9, 3) := by decide +kernel
theorem dX8_see_100 : decode cX8_see 100 = .ok (.bipush 79, 2) := by decide +kernel
theorem dX8_see_102 : decode cX8_see 102 = .ok (.dup2, 1) := by decide +kernel
theorem dX8_see_103 : decode cX8_see 103 = .ok (.iaload, 1) := by decide +kernel
theorem dX8_see_104 : decode cX8_see 104 = .ok (.iconst 1, 1) := by decide +kernel
theorem dX8_see_105 : decode cX8_see 105 = .ok (.iadd, 1) := by decide +kernel
theorem dX8_see_106 : decode cX8_see 106 = .ok (.iastore, 1) := by decide +kernel
theorem dX8_see_107 : decode cX8_see 107 = .ok (.aload_n 0, 1) := by decide +kernel
theorem dX8_see_108 : decode cX8_see 108 = .ok (.getfield 9, 3) := by decide +kernel
theorem dX8_see_111 : decode cX8_see 111 = .ok (.bipush 79, 2) := by decide +kernel
theorem dX8_see_113 : decode cX8_see 113 = .ok (.iaload, 1) := by decide +kernel
theorem dX8_see_114 : decode cX8_see 114 = .ok (.ireturn, 1) := by decide +kernel
theorem dX8_isSo_0 : decode cX8_isSo 0 = .ok (.bipush 80, 2) := by decide +kernel
theorem dX8_isSo_2 : decode cX8_isSo 2 = .ok (.iconst 3, 1) := by decide +kernel
theorem dX8_isSo_3 : decode cX8_isSo 3 = .ok (.iload_n 1, 1) := by decide +kernel
theorem dX8_isSo_4 : decode cX8_isSo 4 = .ok (.imul, 1) := by decide +kernel
theorem dX8_isSo_5 : decode cX8_isSo 5 = .ok (.iadd, 1) := by decide +kernel
theorem dX8_isSo_6 : decode cX8_isSo 6 = .ok (.istore_n 2, 1) := by decide +kernel
theorem dX8_isSo_7 : decode cX8_isSo 7 = .ok (.aload_n 0, 1) := by decide +kernel
theorem dX8_isSo_8 : decode cX8_isSo 8 = .ok (.aload_n 0, 1) := by decide +kernel
theorem dX8_isSo_9 : decode cX8_isSo 9 = .ok (.getfield 9, 3) := by decide +kernel
theorem dX8_isSo_12 : decode cX8_isSo 12 = .ok (.iload_n 2, 1) := by decide +kernel
theorem dX8_isSo_13 : decode cX8_isSo 13 = .ok (.iaload, 1) := by decide +kernel
theorem dX8_isSo_14 : decode cX8_isSo 14 = .ok (.aload_n 0, 1) := by decide +kernel
theorem dX8_isSo_15 : decode cX8_isSo 15 = .ok (.getfield 9, 3) := by decide +kernel
theorem dX8_isSo_18 : decode cX8_isSo 18 = .ok (.iload_n 2, 1) := by decide +kernel
theorem dX8_isSo_19 : decode cX8_isSo 19 = .ok (.iconst 1, 1) := by decide +kernel
theorem dX8_isSo_20 : decode cX8_isSo 20 = .ok (.iadd, 1) := by decide +kernel
theorem dX8_isSo_21 : decode cX8_isSo 21 = .ok (.iaload, 1) := by decide +kernel
theorem dX8_isSo_22 : decode cX8_isSo 22 = .ok (.invokevirtual 101, 3) := by decide +kernel
theorem dX8_isSo_25 : decode cX8_isSo 25 = .ok (.aload_n 0, 1) := by decide +kernel
theorem dX8_isSo_26 : decode cX8_isSo 26 = .ok (.getfield 9, 3) := by decide +kernel
theorem dX8_isSo_29 : decode cX8_isSo 29 = .ok (.iload_n 2, 1) := by decide +kernel
theorem dX8_isSo_30 : decode cX8_isSo 30 = .ok (.iconst 2, 1) := by decide +kernel
theorem dX8_isSo_31 : decode cX8_isSo 31 = .ok (.iadd, 1) := by decide +kernel
theorem dX8_isSo_32 : decode cX8_isSo 32 = .ok (.iaload, 1) := by decide +kernel
theorem dX8_isSo_33 : decode cX8_isSo 33 = .ok (.iconst 1, 1) := by decide +kernel
theorem dX8_isSo_34 : decode cX8_isSo 34 = .ok (.if_icmp .ne 7, 3) := by decide +kernel
theorem dX8_isSo_37 : decode cX8_isSo 37 = .ok (.iconst 1, 1) := by decide +kernel
theorem dX8_isSo_38 : decode cX8_isSo 38 = .ok (.goto 4, 3) := by decide +kernel
theorem dX8_isSo_41 : decode cX8_isSo 41 = .ok (.iconst 0, 1) := by decide +kernel
theorem dX8_isSo_42 : decode cX8_isSo 42 = .ok (.if_icmp .ne 7, 3) := by decide +kernel
theorem dX8_isSo_45 : decode cX8_isSo 45 = .ok (.iconst 1, 1) := by decide +kernel
theorem dX8_isSo_46 : decode cX8_isSo 46 = .ok (.goto 4, 3) := by decide +kernel
theorem dX8_isSo_49 : decode cX8_isSo 49 = .ok (.iconst 0, 1) := by decide +kernel
theorem dX8_isSo_50 : decode cX8_isSo 50 = .ok (.ireturn, 1) := by decide +kernel
theorem dX8_wrong_0 : decode cX8_wrong 0 = .ok (.iconst 0, 1) := by decide +kernel
theorem dX8_wrong_1 : decode cX8_wrong 1 = .ok (.istore_n 1, 1) := by decide +kernel
theorem dX8_wrong_2 : decode cX8_wrong 2 = .ok (.iload_n 1, 1) := by decide +kernel
theorem dX8_wrong_3 : decode cX8_wrong 3 = .ok (.aload_n 0, 1) := by decide +kernel
theorem dX8_wrong_4 : decode cX8_wrong 4 = .ok (.getfield 9, 3) := by decide +kernel
theorem dX8_wrong_7 : decode cX8_wrong 7 = .ok (.bipush 79, 2) := by decide +kernel
theorem dX8_wrong_9 : decode cX8_wrong 9 = .ok (.iaload, 1) := by decide +kernel
theorem dX8_wrong_10 : decode cX8_wrong 10 = .ok (.if_icmp .ge 19, 3) := by decide +kernel
theorem dX8_wrong_13 : decode cX8_wrong 13 = .ok (.aload_n 0, 1) := by decide +kernel
theorem dX8_wrong_14 : decode cX8_wrong 14 = .ok (.iload_n 1, 1) := by decide +kernel
theorem dX8_wrong_15 : decode cX8_wrong 15 = .ok (.invokevirtual 241, 3) := by decide +kernel
theorem dX8_wrong_18 : decode cX8_wrong 18 = .ok (.ifCond .ne 5, 3) := by decide +kernel
theorem dX8_wrong_21 : decode cX8_wrong 21 = .ok (.iload_n 1, 1) := by decide +kernel
theorem dX8_wrong_22 : decode cX8_wrong 22 = .ok (.ireturn, 1) := by decide +kernel
theorem dX8_wrong_23 : decode cX8_wrong 23 = .ok (.iinc 1 1, 3) := by decide +kernel
theorem dX8_wrong_26 : decode cX8_wrong 26 = .ok (.goto (-24), 3) := by decide +kernel
theorem dX8_wrong_29 : decode cX8_wrong 29 = .ok (.bipush (-5), 2) := by decide +kernel
theorem dX8_wrong_31 : decode cX8_wrong 31 = .ok (.ireturn, 1) := by decide +kernel
theorem dX8_isAllSo_0 : decode cX8_isAllSo 0 = .ok (.iconst 0, 1) := by decide +kernel
theorem dX8_isAllSo_1 : decode cX8_isAllSo 1 = .ok (.istore_n 2, 1) := by decide +kernel
theorem dX8_isAllSo_2 : decode cX8_isAllSo 2 = .ok (.iload_n 2, 1) := by decide +kernel
theorem dX8_isAllSo_3 : decode cX8_isAllSo 3 = .ok (.aload_n 0, 1) := by decide +kernel
theorem dX8_isAllSo_4 : decode cX8_isAllSo 4 = .ok (.getfield 9, 3) := by decide +kernel
theorem dX8_isAllSo_7 : decode cX8_isAllSo 7 = .ok (.bipush 79, 2) := by decide +kernel
theorem dX8_isAllSo_9 : decode cX8_isAllSo 9 = .ok (.iaload, 1) := by decide +kernel
theorem dX8_isAllSo_10 : decode cX8_isAllSo 10 = .ok (.if_icmp .ge 34, 3) := by decide +kernel
theorem dX8_isAllSo_13 : decode cX8_isAllSo 13 = .ok (.aload_n 0, 1) := by decide +kernel
theorem dX8_isAllSo_14 : decode cX8_isAllSo 14 = .ok (.getfield 9, 3) := by decide +kernel
theorem dX8_isAllSo_17 : decode cX8_isAllSo 17 = .ok (.bipush 80, 2) := by decide +kernel
theorem dX8_isAllSo_19 : decode cX8_isAllSo 19 = .ok (.iconst 3, 1) := by decide +kernel
theorem dX8_isAllSo_20 : decode cX8_isAllSo 20 = .ok (.iload_n 2, 1) := by decide +kernel
theorem dX8_isAllSo_21 : decode cX8_isAllSo 21 = .ok (.imul, 1) := by decide +kernel
theorem dX8_isAllSo_22 : decode cX8_isAllSo 22 = .ok (.iadd, 1) := by decide +kernel
theorem dX8_isAllSo_23 : decode cX8_isAllSo 23 = .ok (.iaload, 1) := by decide +kernel
theorem dX8_isAllSo_24 : decode cX8_isAllSo 24 = .ok (.iload_n 1, 1) := by decide +kernel
theorem dX8_isAllSo_25 : decode cX8_isAllSo 25 = .ok (.if_icmp .ne 13, 3) := by decide +kernel
theorem dX8_isAllSo_28 : decode cX8_isAllSo 28 = .ok (.aload_n 0, 1) := by decide +kernel
theorem dX8_isAllSo_29 : decode cX8_isAllSo 29 = .ok (.iload_n 2, 1) := by decide +kernel
theorem dX8_isAllSo_30 : decode cX8_isAllSo 30 = .ok (.invokevirtual 241, 3) := by decide +kernel
theorem dX8_isAllSo_33 : decode cX8_isAllSo 33 = .ok (.ifCond .ne 5, 3) := by decide +kernel
theorem dX8_isAllSo_36 : decode cX8_isAllSo 36 = .ok (.iconst 0, 1) := by decide +kernel
theorem dX8_isAllSo_37 : decode cX8_isAllSo 37 = .ok (.ireturn, 1) := by decide +kernel
theorem dX8_isAllSo_38 : decode cX8_isAllSo 38 = .ok (.iinc 2 1, 3) := by decide +kernel
theorem dX8_isAllSo_41 : decode cX8_isAllSo 41 = .ok (.goto (-39), 3) := by decide +kernel
theorem dX8_isAllSo_44 : decode cX8_isAllSo 44 = .ok (.iconst 1, 1) := by decide +kernel
theorem dX8_isAllSo_45 : decode cX8_isAllSo 45 = .ok (.ireturn, 1) := by decide +kernel
theorem dX8_can_0 : decode cX8_can 0 = .ok (.aload_n 0, 1) := by decide +kernel
theorem dX8_can_1 : decode cX8_can 1 = .ok (.iload_n 1, 1) := by decide +kernel
theorem dX8_can_2 : decode cX8_can 2 = .ok (.invokevirtual 94, 3) := by decide +kernel
theorem dX8_can_5 : decode cX8_can 5 = .ok (.ifCond .eq 21, 3) := by decide +kernel
theorem dX8_can_8 : decode cX8_can 8 = .ok (.iload_n 2, 1) := by decide +kernel
theorem dX8_can_9 : decode cX8_can 9 = .ok (.iconst 0, 1) := by decide +kernel
theorem dX8_can_10 : decode cX8_can 10 = .ok (.iconst 1, 1) := by decide +kernel
theorem dX8_can_11 : decode cX8_can 11 = .ok (.invokestatic 78, 3) := by decide +kernel
theorem dX8_can_14 : decode cX8_can 14 = .ok (.ifCond .eq 12, 3) := by decide +kernel
theorem dX8_can_17 : decode cX8_can 17 = .ok (.iload_n 3, 1) := by decide +kernel
theorem dX8_can_18 : decode cX8_can 18 = .ok (.iconst 0, 1) := by decide +kernel
theorem dX8_can_19 : decode cX8_can 19 = .ok (.iconst 1, 1) := by decide +kernel
theorem dX8_can_20 : decode cX8_can 20 = .ok (.invokestatic 78, 3) := by decide +kernel
theorem dX8_can_23 : decode cX8_can 23 = .ok (.ifCond .ne 5, 3) := by decide +kernel
theorem dX8_can_26 : decode cX8_can 26 = .ok (.iconst (-1), 1) := by decide +kernel
theorem dX8_can_27 : decode cX8_can 27 = .ok (.ireturn, 1) := by decide +kernel
theorem dX8_can_28 : decode cX8_can 28 = .ok (.iload_n 2, 1) := by decide +kernel
theorem dX8_can_29 : decode cX8_can 29 = .ok (.ifCond .ne 7, 3) := by decide +kernel
theorem dX8_can_32 : decode cX8_can 32 = .ok (.iconst 2, 1) := by decide +kernel
theorem dX8_can_33 : decode cX8_can 33 = .ok (.goto 4, 3) := by decide +kernel
theorem dX8_can_36 : decode cX8_can 36 = .ok (.iconst 1, 1) := by decide +kernel
theorem dX8_can_37 : decode cX8_can 37 = .ok (.istore 4, 2) := by decide +kernel
theorem dX8_can_39 : decode cX8_can 39 = .ok (.aload_n 0, 1) := by decide +kernel
theorem dX8_can_40 : decode cX8_can 40 = .ok (.iload_n 1, 1) := by decide +kernel
theorem dX8_can_41 : decode cX8_can 41 = .ok (.iload 4, 2) := by decide +kernel
theorem dX8_can_43 : decode cX8_can 43 = .ok (.invokevirtual 82, 3) := by decide +kernel
theorem dX8_can_46 : decode cX8_can 46 = .ok (.istore 5, 2) := by decide +kernel
theorem dX8_can_48 : decode cX8_can 48 = .ok (.iconst 0, 1) := by decide +kernel
theorem dX8_can_49 : decode cX8_can 49 = .ok (.istore 6, 2) := by decide +kernel
theorem dX8_can_51 : decode cX8_can 51 = .ok (.bipush (-5), 2) := by decide +kernel
theorem dX8_can_53 : decode cX8_can 53 = .ok (.istore 7, 2) := by decide +kernel
theorem dX8_can_55 : decode cX8_can 55 = .ok (.iload_n 2, 1) := by decide +kernel
theorem dX8_can_56 : decode cX8_can 56 = .ok (.ifCond .ne 9, 3) := by decide +kernel
theorem dX8_can_59 : decode cX8_can 59 = .ok (.sipush 4095, 3) := by decide +kernel
theorem dX8_can_62 : decode cX8_can 62 = .ok (.goto 5, 3) := by decide +kernel
theorem dX8_can_65 : decode cX8_can 65 = .ok (.bipush 9, 2) := by decide +kernel
theorem dX8_can_67 : decode cX8_can 67 = .ok (.istore 8, 2) := by decide +kernel
theorem dX8_can_69 : decode cX8_can 69 = .ok (.iload 8, 2) := by decide +kernel
theorem dX8_can_71 : decode cX8_can 71 = .ok (.ifCond .lt 55, 3) := by decide +kernel
theorem dX8_can_74 : decode cX8_can 74 = .ok (.aload_n 0, 1) := by decide +kernel
theorem dX8_can_75 : decode cX8_can 75 = .ok (.iload_n 1, 1) := by decide +kernel
theorem dX8_can_76 : decode cX8_can 76 = .ok (.iload 4, 2) := by decide +kernel
theorem dX8_can_78 : decode cX8_can 78 = .ok (.iload 8, 2) := by decide +kernel
theorem dX8_can_80 : decode cX8_can 80 = .ok (.invokevirtual 90, 3) := by decide +kernel
theorem dX8_can_83 : decode cX8_can 83 = .ok (.pop, 1) := by decide +kernel
theorem dX8_can_84 : decode cX8_can 84 = .ok (.aload_n 0, 1) := by decide +kernel
theorem dX8_can_85 : decode cX8_can 85 = .ok (.iload_n 1, 1) := by decide +kernel
theorem dX8_can_86 : decode cX8_can 86 = .ok (.invokevirtual 244, 3) := by decide +kernel
theorem dX8_can_89 : decode cX8_can 89 = .ok (.istore 9, 2) := by decide +kernel
theorem dX8_can_91 : decode cX8_can 91 = .ok (.iload 6, 2) := by decide +kernel
theorem dX8_can_93 : decode cX8_can 93 = .ok (.iload 9, 2) := by decide +kernel
theorem dX8_can_95 : decode cX8_can 95 = .ok (.ifCond .eq 7, 3) := by decide +kernel
theorem dX8_can_98 : decode cX8_can 98 = .ok (.iconst 1, 1) := by decide +kernel
theorem dX8_can_99 : decode cX8_can 99 = .ok (.goto 4, 3) := by decide +kernel
theorem dX8_can_102 : decode cX8_can 102 = .ok (.iconst 0, 1) := by decide +kernel
theorem dX8_can_103 : decode cX8_can 103 = .ok (.iadd, 1) := by decide +kernel
theorem dX8_can_104 : decode cX8_can 104 = .ok (.istore 6, 2) := by decide +kernel
theorem dX8_can_106 : decode cX8_can 106 = .ok (.iload 9, 2) := by decide +kernel
theorem dX8_can_108 : decode cX8_can 108 = .ok (.ifCond .eq 8, 3) := by decide +kernel
theorem dX8_can_111 : decode cX8_can 111 = .ok (.iload 8, 2) := by decide +kernel
theorem dX8_can_113 : decode cX8_can 113 = .ok (.goto 5, 3) := by decide +kernel
theorem dX8_can_116 : decode cX8_can 116 = .ok (.iload 7, 2) := by decide +kernel
theorem dX8_can_118 : decode cX8_can 118 = .ok (.istore 7, 2) := by decide +kernel
theorem dX8_can_120 : decode cX8_can 120 = .ok (.iinc 8 (-1), 3) := by decide +kernel
theorem dX8_can_123 : decode cX8_can 123 = .ok (.goto (-54), 3) := by decide +kernel
theorem dX8_can_126 : decode cX8_can 126 = .ok (.aload_n 0, 1) := by decide +kernel
theorem dX8_can_127 : decode cX8_can 127 = .ok (.iload_n 1, 1) := by decide +kernel
theorem dX8_can_128 : decode cX8_can 128 = .ok (.iload 4, 2) := by decide +kernel
theorem dX8_can_130 : decode cX8_can 130 = .ok (.iload 5, 2) := by decide +kernel
theorem dX8_can_132 : decode cX8_can 132 = .ok (.invokevirtual 90, 3) := by decide +kernel
theorem dX8_can_135 : decode cX8_can 135 = .ok (.pop, 1) := by decide +kernel
theorem dX8_can_136 : decode cX8_can 136 = .ok (.iload_n 3, 1) := by decide +kernel
theorem dX8_can_137 : decode cX8_can 137 = .ok (.ifCond .ne 8, 3) := by decide +kernel
theorem dX8_can_140 : decode cX8_can 140 = .ok (.iload 6, 2) := by decide +kernel
theorem dX8_can_142 : decode cX8_can 142 = .ok (.goto 5, 3) := by decide +kernel
theorem dX8_can_145 : decode cX8_can 145 = .ok (.iload 7, 2) := by decide +kernel
theorem dX8_can_147 : decode cX8_can 147 = .ok (.ireturn, 1) := by decide +kernel
theorem dX8_fraction_0 : decode cX8_fraction 0 = .ok (.lload_n 0, 1) := by decide +kernel
theorem dX8_fraction_1 : decode cX8_fraction 1 = .ok (.lstore 5, 2) := by decide +kernel
theorem dX8_fraction_3 : decode cX8_fraction 3 = .ok (.lload_n 2, 1) := by decide +kernel
theorem dX8_fraction_4 : decode cX8_fraction 4 = .ok (.lstore 7, 2) := by decide +kernel
theorem dX8_fraction_6 : decode cX8_fraction 6 = .ok (.lload 7, 2) := by decide +kernel
theorem dX8_fraction_8 : decode cX8_fraction 8 = .ok (.lconst 0, 1) := by decide +kernel
theorem dX8_fraction_9 : decode cX8_fraction 9 = .ok (.lcmp, 1) := by decide +kernel
theorem dX8_fraction_10 : decode cX8_fraction 10 = .ok (.ifCond .eq 21, 3) := by decide +kernel
theorem dX8_fraction_13 : decode cX8_fraction 13 = .ok (.lload 5, 2) := by decide +kernel
theorem dX8_fraction_15 : decode cX8_fraction 15 = .ok (.lload 7, 2) := by decide +kernel
theorem dX8_fraction_17 : decode cX8_fraction 17 = .ok (.lrem, 1) := by decide +kernel
theorem dX8_fraction_18 : decode cX8_fraction 18 = .ok (.lstore 9, 2) := by decide +kernel
theorem dX8_fraction_20 : decode cX8_fraction 20 = .ok (.lload 7, 2) := by decide +kernel
theorem dX8_fraction_22 : decode cX8_fraction 22 = .ok (.lstore 5, 2) := by decide +kernel
theorem dX8_fraction_24 : decode cX8_fraction 24 = .ok (.lload 9, 2) := by decide +kernel
theorem dX8_fraction_26 : decode cX8_fraction 26 = .ok (.lstore 7, 2) := by decide +kernel
theorem dX8_fraction_28 : decode cX8_fraction 28 = .ok (.goto (-22), 3) := by decide +kernel
theorem dX8_fraction_31 : decode cX8_fraction 31 = .ok (.iload 4, 2) := by decide +kernel
theorem dX8_fraction_33 : decode cX8_fraction 33 = .ok (.ifCond .ne 10, 3) := by decide +kernel
theorem dX8_fraction_36 : decode cX8_fraction 36 = .ok (.lload_n 0, 1) := by decide +kernel
theorem dX8_fraction_37 : decode cX8_fraction 37 = .ok (.lload 5, 2) := by decide +kernel
theorem dX8_fraction_39 : decode cX8_fraction 39 = .ok (.ldiv, 1) := by decide +kernel
theorem dX8_fraction_40 : decode cX8_fraction 40 = .ok (.goto 7, 3) := by decide +kernel
theorem dX8_fraction_43 : decode cX8_fraction 43 = .ok (.lload_n 2, 1) := by decide +kernel
theorem dX8_fraction_44 : decode cX8_fraction 44 = .ok (.lload 5, 2) := by decide +kernel
theorem dX8_fraction_46 : decode cX8_fraction 46 = .ok (.ldiv, 1) := by decide +kernel
theorem dX8_fraction_47 : decode cX8_fraction 47 = .ok (.lreturn, 1) := by decide +kernel
theorem dX8_odds_0 : decode cX8_odds 0 = .ok (.aload_n 0, 1) := by decide +kernel
theorem dX8_odds_1 : decode cX8_odds 1 = .ok (.iload_n 1, 1) := by decide +kernel
theorem dX8_odds_2 : decode cX8_odds 2 = .ok (.invokevirtual 94, 3) := by decide +kernel
theorem dX8_odds_5 : decode cX8_odds 5 = .ok (.ifCond .eq 19, 3) := by decide +kernel
theorem dX8_odds_8 : decode cX8_odds 8 = .ok (.iload_n 2, 1) := by decide +kernel
theorem dX8_odds_9 : decode cX8_odds 9 = .ok (.invokestatic 86, 3) := by decide +kernel
theorem dX8_odds_12 : decode cX8_odds 12 = .ok (.ifCond .eq 12, 3) := by decide +kernel
theorem dX8_odds_15 : decode cX8_odds 15 = .ok (.iload_n 3, 1) := by decide +kernel
theorem dX8_odds_16 : decode cX8_odds 16 = .ok (.iconst 0, 1) := by decide +kernel
theorem dX8_odds_17 : decode cX8_odds 17 = .ok (.iconst 1, 1) := by decide +kernel
theorem dX8_odds_18 : decode cX8_odds 18 = .ok (.invokestatic 78, 3) := by decide +kernel
theorem dX8_odds_21 : decode cX8_odds 21 = .ok (.ifCond .ne 7, 3) := by decide +kernel
theorem dX8_odds_24 : decode cX8_odds 24 = .ok (.ldc2_w 247, 3) := by decide +kernel
theorem dX8_odds_27 : decode cX8_odds 27 = .ok (.lreturn, 1) := by decide +kernel
theorem dX8_odds_28 : decode cX8_odds 28 = .ok (.aload_n 0, 1) := by decide +kernel
theorem dX8_odds_29 : decode cX8_odds 29 = .ok (.iload_n 1, 1) := by decide +kernel
theorem dX8_odds_30 : decode cX8_odds 30 = .ok (.iconst 2, 1) := by decide +kernel
theorem dX8_odds_31 : decode cX8_odds 31 = .ok (.invokevirtual 82, 3) := by decide +kernel
theorem dX8_odds_34 : decode cX8_odds 34 = .ok (.istore 4, 2) := by decide +kernel
theorem dX8_odds_36 : decode cX8_odds 36 = .ok (.iconst 0, 1) := by decide +kernel
theorem dX8_odds_37 : decode cX8_odds 37 = .ok (.istore 5, 2) := by decide +kernel
theorem dX8_odds_39 : decode cX8_odds 39 = .ok (.iconst 0, 1) := by decide +kernel
theorem dX8_odds_40 : decode cX8_odds 40 = .ok (.istore 6, 2) := by decide +kernel
theorem dX8_odds_42 : decode cX8_odds 42 = .ok (.iload 6, 2) := by decide +kernel
theorem dX8_odds_44 : decode cX8_odds 44 = .ok (.bipush 12, 2) := by decide +kernel
theorem dX8_odds_46 : decode cX8_odds 46 = .ok (.if_icmp .ge 42, 3) := by decide +kernel
theorem dX8_odds_49 : decode cX8_odds 49 = .ok (.aload_n 0, 1) := by decide +kernel
theorem dX8_odds_50 : decode cX8_odds 50 = .ok (.iload_n 1, 1) := by decide +kernel
theorem dX8_odds_51 : decode cX8_odds 51 = .ok (.iconst 2, 1) := by decide +kernel
theorem dX8_odds_52 : decode cX8_odds 52 = .ok (.iload 4, 2) := by decide +kernel
theorem dX8_odds_54 : decode cX8_odds 54 = .ok (.iconst 1, 1) := by decide +kernel
theorem dX8_odds_55 : decode cX8_odds 55 = .ok (.iload 6, 2) := by decide +kernel
theorem dX8_odds_57 : decode cX8_odds 57 = .ok (.ishl, 1) := by decide +kernel
theorem dX8_odds_58 : decode cX8_odds 58 = .ok (.ixor, 1) := by decide +kernel
theorem dX8_odds_59 : decode cX8_odds 59 = .ok (.invokevirtual 90, 3) := by decide +kernel
theorem dX8_odds_62 : decode cX8_odds 62 = .ok (.pop, 1) := by decide +kernel
theorem dX8_odds_63 : decode cX8_odds 63 = .ok (.iload 5, 2) := by decide +kernel
theorem dX8_odds_65 : decode cX8_odds 65 = .ok (.aload_n 0, 1) := by decide +kernel
theorem dX8_odds_66 : decode cX8_odds 66 = .ok (.iload_n 1, 1) := by decide +kernel
theorem dX8_odds_67 : decode cX8_odds 67 = .ok (.iload_n 2, 1) := by decide +kernel
theorem dX8_odds_68 : decode cX8_odds 68 = .ok (.invokevirtual 101, 3) := by decide +kernel
theorem dX8_odds_71 : decode cX8_odds 71 = .ok (.ifCond .eq 7, 3) := by decide +kernel
theorem dX8_odds_74 : decode cX8_odds 74 = .ok (.iconst 1, 1) := by decide +kernel
theorem dX8_odds_75 : decode cX8_odds 75 = .ok (.goto 4, 3) := by decide +kernel
theorem dX8_odds_78 : decode cX8_odds 78 = .ok (.iconst 0, 1) := by decide +kernel
theorem dX8_odds_79 : decode cX8_odds 79 = .ok (.iadd, 1) := by decide +kernel
theorem dX8_odds_80 : decode cX8_odds 80 = .ok (.istore 5, 2) := by decide +kernel
theorem dX8_odds_82 : decode cX8_odds 82 = .ok (.iinc 6 1, 3) := by decide +kernel
theorem dX8_odds_85 : decode cX8_odds 85 = .ok (.goto (-43), 3) := by decide +kernel
theorem dX8_odds_88 : decode cX8_odds 88 = .ok (.aload_n 0, 1) := by decide +kernel
theorem dX8_odds_89 : decode cX8_odds 89 = .ok (.iload_n 1, 1) := by decide +kernel
theorem dX8_odds_90 : decode cX8_odds 90 = .ok (.iconst 2, 1) := by decide +kernel
theorem dX8_odds_91 : decode cX8_odds 91 = .ok (.iload 4, 2) := by decide +kernel
theorem dX8_odds_93 : decode cX8_odds 93 = .ok (.invokevirtual 90, 3) := by decide +kernel
theorem dX8_odds_96 : decode cX8_odds 96 = .ok (.pop, 1) := by decide +kernel
theorem dX8_odds_97 : decode cX8_odds 97 = .ok (.iload 5, 2) := by decide +kernel
theorem dX8_odds_99 : decode cX8_odds 99 = .ok (.i2l, 1) := by decide +kernel
theorem dX8_odds_100 : decode cX8_odds 100 = .ok (.ldc2_w 249, 3) := by decide +kernel
theorem dX8_odds_103 : decode cX8_odds 103 = .ok (.iload_n 3, 1) := by decide +kernel
theorem dX8_odds_104 : decode cX8_odds 104 = .ok (.invokestatic 251, 3) := by decide +kernel
theorem dX8_odds_107 : decode cX8_odds 107 = .ok (.lreturn, 1) := by decide +kernel
theorem dX8_mean_0 : decode cX8_mean 0 = .ok (.iload_n 1, 1) := by decide +kernel
theorem dX8_mean_1 : decode cX8_mean 1 = .ok (.iconst 0, 1) := by decide +kernel
theorem dX8_mean_2 : decode cX8_mean 2 = .ok (.bipush 60, 2) := by decide +kernel
theorem dX8_mean_4 : decode cX8_mean 4 = .ok (.invokestatic 78, 3) := by decide +kernel
theorem dX8_mean_7 : decode cX8_mean 7 = .ok (.ifCond .eq 22, 3) := by decide +kernel
theorem dX8_mean_10 : decode cX8_mean 10 = .ok (.iload_n 2, 1) := by decide +kernel
theorem dX8_mean_11 : decode cX8_mean 11 = .ok (.iconst 0, 1) := by decide +kernel
theorem dX8_mean_12 : decode cX8_mean 12 = .ok (.iconst 1, 1) := by decide +kernel
theorem dX8_mean_13 : decode cX8_mean 13 = .ok (.invokestatic 78, 3) := by decide +kernel
theorem dX8_mean_16 : decode cX8_mean 16 = .ok (.ifCond .eq 13, 3) := by decide +kernel
theorem dX8_mean_19 : decode cX8_mean 19 = .ok (.aload_n 0, 1) := by decide +kernel
theorem dX8_mean_20 : decode cX8_mean 20 = .ok (.getfield 9, 3) := by decide +kernel
theorem dX8_mean_23 : decode cX8_mean 23 = .ok (.bipush 76, 2) := by decide +kernel
theorem dX8_mean_25 : decode cX8_mean 25 = .ok (.iaload, 1) := by decide +kernel
theorem dX8_mean_26 : decode cX8_mean 26 = .ok (.ifCond .ne 7, 3) := by decide +kernel
theorem dX8_mean_29 : decode cX8_mean 29 = .ok (.ldc2_w 247, 3) := by decide +kernel
theorem dX8_mean_32 : decode cX8_mean 32 = .ok (.lreturn, 1) := by decide +kernel
theorem dX8_mean_33 : decode cX8_mean 33 = .ok (.aload_n 0, 1) := by decide +kernel
theorem dX8_mean_34 : decode cX8_mean 34 = .ok (.iconst 0, 1) := by decide +kernel
theorem dX8_mean_35 : decode cX8_mean 35 = .ok (.invokevirtual 206, 3) := by decide +kernel
theorem dX8_mean_38 : decode cX8_mean 38 = .ok (.aload_n 0, 1) := by decide +kernel
theorem dX8_mean_39 : decode cX8_mean 39 = .ok (.iload_n 1, 1) := by decide +kernel
theorem dX8_mean_40 : decode cX8_mean 40 = .ok (.invokevirtual 225, 3) := by decide +kernel
theorem dX8_mean_43 : decode cX8_mean 43 = .ok (.aload_n 0, 1) := by decide +kernel
theorem dX8_mean_44 : decode cX8_mean 44 = .ok (.invokevirtual 218, 3) := by decide +kernel
theorem dX8_mean_47 : decode cX8_mean 47 = .ok (.istore_n 3, 1) := by decide +kernel
theorem dX8_mean_48 : decode cX8_mean 48 = .ok (.aload_n 0, 1) := by decide +kernel
theorem dX8_mean_49 : decode cX8_mean 49 = .ok (.iconst 0, 1) := by decide +kernel
theorem dX8_mean_50 : decode cX8_mean 50 = .ok (.invokevirtual 209, 3) := by decide +kernel
theorem dX8_mean_53 : decode cX8_mean 53 = .ok (.iload_n 3, 1) := by decide +kernel
theorem dX8_mean_54 : decode cX8_mean 54 = .ok (.i2l, 1) := by decide +kernel
theorem dX8_mean_55 : decode cX8_mean 55 = .ok (.aload_n 0, 1) := by decide +kernel
theorem dX8_mean_56 : decode cX8_mean 56 = .ok (.getfield 9, 3) := by decide +kernel
theorem dX8_mean_59 : decode cX8_mean 59 = .ok (.bipush 76, 2) := by decide +kernel
theorem dX8_mean_61 : decode cX8_mean 61 = .ok (.iaload, 1) := by decide +kernel
theorem dX8_mean_62 : decode cX8_mean 62 = .ok (.i2l, 1) := by decide +kernel
theorem dX8_mean_63 : decode cX8_mean 63 = .ok (.iload_n 2, 1) := by decide +kernel
theorem dX8_mean_64 : decode cX8_mean 64 = .ok (.invokestatic 251, 3) := by decide +kernel
theorem dX8_mean_67 : decode cX8_mean 67 = .ok (.lreturn, 1) := by decide +kernel
theorem dX8_plan_0 : decode cX8_plan 0 = .ok (.iload_n 1, 1) := by decide +kernel
theorem dX8_plan_1 : decode cX8_plan 1 = .ok (.iconst (-1), 1) := by decide +kernel
theorem dX8_plan_2 : decode cX8_plan 2 = .ok (.if_icmp .ne 13, 3) := by decide +kernel
theorem dX8_plan_5 : decode cX8_plan 5 = .ok (.aload_n 0, 1) := by decide +kernel
theorem dX8_plan_6 : decode cX8_plan 6 = .ok (.getfield 9, 3) := by decide +kernel
theorem dX8_plan_9 : decode cX8_plan 9 = .ok (.bipush 95, 2) := by decide +kernel
theorem dX8_plan_11 : decode cX8_plan 11 = .ok (.iconst 0, 1) := by decide +kernel
theorem dX8_plan_12 : decode cX8_plan 12 = .ok (.iastore, 1) := by decide +kernel
theorem dX8_plan_13 : decode cX8_plan 13 = .ok (.iconst 0, 1) := by decide +kernel
theorem dX8_plan_14 : decode cX8_plan 14 = .ok (.ireturn, 1) := by decide +kernel
theorem dX8_plan_15 : decode cX8_plan 15 = .ok (.iload_n 1, 1) := by decide +kernel
theorem dX8_plan_16 : decode cX8_plan 16 = .ok (.ifCond .eq 58, 3) := by decide +kernel
theorem dX8_plan_19 : decode cX8_plan 19 = .ok (.iload_n 1, 1) := by decide +kernel
theorem dX8_plan_20 : decode cX8_plan 20 = .ok (.iconst 1, 1) := by decide +kernel
theorem dX8_plan_21 : decode cX8_plan 21 = .ok (.if_icmp .ne 28, 3) := by decide +kernel
theorem dX8_plan_24 : decode cX8_plan 24 = .ok (.iload_n 2, 1) := by decide +kernel
theorem dX8_plan_25 : decode cX8_plan 25 = .ok (.ifCond .lt 24, 3) := by decide +kernel
theorem dX8_plan_28 : decode cX8_plan 28 = .ok (.iload_n 2, 1) := by decide +kernel
theorem dX8_plan_29 : decode cX8_plan 29 = .ok (.bipush 10, 2) := by decide +kernel
theorem dX8_plan_31 : decode cX8_plan 31 = .ok (.idiv, 1) := by decide +kernel
theorem dX8_plan_32 : decode cX8_plan 32 = .ok (.invokestatic 86, 3) := by decide +kernel
theorem dX8_plan_35 : decode cX8_plan 35 = .ok (.ifCond .eq 14, 3) := by decide +kernel
theorem dX8_plan_38 : decode cX8_plan 38 = .ok (.aload_n 0, 1) := by decide +kernel
theorem dX8_plan_39 : decode cX8_plan 39 = .ok (.iload_n 2, 1) := by decide +kernel
theorem dX8_plan_40 : decode cX8_plan 40 = .ok (.bipush 10, 2) := by decide +kernel
theorem dX8_plan_42 : decode cX8_plan 42 = .ok (.irem, 1) := by decide +kernel
theorem dX8_plan_43 : decode cX8_plan 43 = .ok (.invokevirtual 94, 3) := by decide +kernel
theorem dX8_plan_46 : decode cX8_plan 46 = .ok (.ifCond .ne 28, 3) := by decide +kernel
theorem dX8_plan_49 : decode cX8_plan 49 = .ok (.iload_n 1, 1) := by decide +kernel
theorem dX8_plan_50 : decode cX8_plan 50 = .ok (.iconst 2, 1) := by decide +kernel
theorem dX8_plan_51 : decode cX8_plan 51 = .ok (.if_icmp .ne 10, 3) := by decide +kernel
theorem dX8_plan_54 : decode cX8_plan 54 = .ok (.iload_n 2, 1) := by decide +kernel
theorem dX8_plan_55 : decode cX8_plan 55 = .ok (.invokestatic 86, 3) := by decide +kernel
theorem dX8_plan_58 : decode cX8_plan 58 = .ok (.ifCond .ne 16, 3) := by decide +kernel
theorem dX8_plan_61 : decode cX8_plan 61 = .ok (.iload_n 1, 1) := by decide +kernel
theorem dX8_plan_62 : decode cX8_plan 62 = .ok (.iconst 3, 1) := by decide +kernel
theorem dX8_plan_63 : decode cX8_plan 63 = .ok (.if_icmp .ne 15, 3) := by decide +kernel
theorem dX8_plan_66 : decode cX8_plan 66 = .ok (.aload_n 0, 1) := by decide +kernel
theorem dX8_plan_67 : decode cX8_plan 67 = .ok (.iload_n 2, 1) := by decide +kernel
theorem dX8_plan_68 : decode cX8_plan 68 = .ok (.invokevirtual 94, 3) := by decide +kernel
theorem dX8_plan_71 : decode cX8_plan 71 = .ok (.ifCond .eq 7, 3) := by decide +kernel
theorem dX8_plan_74 : decode cX8_plan 74 = .ok (.iconst 1, 1) := by decide +kernel
theorem dX8_plan_75 : decode cX8_plan 75 = .ok (.goto 4, 3) := by decide +kernel
theorem dX8_plan_78 : decode cX8_plan 78 = .ok (.iconst 0, 1) := by decide +kernel
theorem dX8_plan_79 : decode cX8_plan 79 = .ok (.istore_n 3, 1) := by decide +kernel
theorem dX8_plan_80 : decode cX8_plan 80 = .ok (.iload_n 3, 1) := by decide +kernel
theorem dX8_plan_81 : decode cX8_plan 81 = .ok (.ifCond .ne 5, 3) := by decide +kernel
theorem dX8_plan_84 : decode cX8_plan 84 = .ok (.iconst (-1), 1) := by decide +kernel
theorem dX8_plan_85 : decode cX8_plan 85 = .ok (.ireturn, 1) := by decide +kernel
theorem dX8_plan_86 : decode cX8_plan 86 = .ok (.aload_n 0, 1) := by decide +kernel
theorem dX8_plan_87 : decode cX8_plan 87 = .ok (.getfield 9, 3) := by decide +kernel
theorem dX8_plan_90 : decode cX8_plan 90 = .ok (.bipush 95, 2) := by decide +kernel
theorem dX8_plan_92 : decode cX8_plan 92 = .ok (.iaload, 1) := by decide +kernel
theorem dX8_plan_93 : decode cX8_plan 93 = .ok (.bipush 10, 2) := by decide +kernel
theorem dX8_plan_95 : decode cX8_plan 95 = .ok (.if_icmp .ne 6, 3) := by decide +kernel
theorem dX8_plan_98 : decode cX8_plan 98 = .ok (.bipush (-4), 2) := by decide +kernel
theorem dX8_plan_100 : decode cX8_plan 100 = .ok (.ireturn, 1) := by decide +kernel
theorem dX8_plan_101 : decode cX8_plan 101 = .ok (.aload_n 0, 1) := by decide +kernel
theorem dX8_plan_102 : decode cX8_plan 102 = .ok (.getfield 9, 3) := by decide +kernel
theorem dX8_plan_105 : decode cX8_plan 105 = .ok (.bipush 96, 2) := by decide +kernel
theorem dX8_plan_107 : decode cX8_plan 107 = .ok (.iconst 2, 1) := by decide +kernel
theorem dX8_plan_108 : decode cX8_plan 108 = .ok (.aload_n 0, 1) := by decide +kernel
theorem dX8_plan_109 : decode cX8_plan 109 = .ok (.getfield 9, 3) := by decide +kernel
theorem dX8_plan_112 : decode cX8_plan 112 = .ok (.bipush 95, 2) := by decide +kernel
theorem dX8_plan_114 : decode cX8_plan 114 = .ok (.iaload, 1) := by decide +kernel
theorem dX8_plan_115 : decode cX8_plan 115 = .ok (.imul, 1) := by decide +kernel
theorem dX8_plan_116 : decode cX8_plan 116 = .ok (.iadd, 1) := by decide +kernel
theorem dX8_plan_117 : decode cX8_plan 117 = .ok (.iload_n 1, 1) := by decide +kernel
theorem dX8_plan_118 : decode cX8_plan 118 = .ok (.iastore, 1) := by decide +kernel
theorem dX8_plan_119 : decode cX8_plan 119 = .ok (.aload_n 0, 1) := by decide +kernel
theorem dX8_plan_120 : decode cX8_plan 120 = .ok (.getfield 9, 3) := by decide +kernel
theorem dX8_plan_123 : decode cX8_plan 123 = .ok (.bipush 97, 2) := by decide +kernel
theorem dX8_plan_125 : decode cX8_plan 125 = .ok (.iconst 2, 1) := by decide +kernel
theorem dX8_plan_126 : decode cX8_plan 126 = .ok (.aload_n 0, 1) := by decide +kernel
theorem dX8_plan_127 : decode cX8_plan 127 = .ok (.getfield 9, 3) := by decide +kernel
theorem dX8_plan_130 : decode cX8_plan 130 = .ok (.bipush 95, 2) := by decide +kernel
theorem dX8_plan_132 : decode cX8_plan 132 = .ok (.iaload, 1) := by decide +kernel
theorem dX8_plan_133 : decode cX8_plan 133 = .ok (.imul, 1) := by decide +kernel
theorem dX8_plan_134 : decode cX8_plan 134 = .ok (.iadd, 1) := by decide +kernel
theorem dX8_plan_135 : decode cX8_plan 135 = .ok (.iload_n 2, 1) := by decide +kernel
theorem dX8_plan_136 : decode cX8_plan 136 = .ok (.iastore, 1) := by decide +kernel
theorem dX8_plan_137 : decode cX8_plan 137 = .ok (.aload_n 0, 1) := by decide +kernel
theorem dX8_plan_138 : decode cX8_plan 138 = .ok (.getfield 9, 3) := by decide +kernel
theorem dX8_plan_141 : decode cX8_plan 141 = .ok (.bipush 95, 2) := by decide +kernel
theorem dX8_plan_143 : decode cX8_plan 143 = .ok (.dup2, 1) := by decide +kernel
theorem dX8_plan_144 : decode cX8_plan 144 = .ok (.iaload, 1) := by decide +kernel
theorem dX8_plan_145 : decode cX8_plan 145 = .ok (.iconst 1, 1) := by decide +kernel
theorem dX8_plan_146 : decode cX8_plan 146 = .ok (.iadd, 1) := by decide +kernel
theorem dX8_plan_147 : decode cX8_plan 147 = .ok (.iastore, 1) := by decide +kernel
theorem dX8_plan_148 : decode cX8_plan 148 = .ok (.aload_n 0, 1) := by decide +kernel
theorem dX8_plan_149 : decode cX8_plan 149 = .ok (.getfield 9, 3) := by decide +kernel
theorem dX8_plan_152 : decode cX8_plan 152 = .ok (.bipush 95, 2) := by decide +kernel
theorem dX8_plan_154 : decode cX8_plan 154 = .ok (.iaload, 1) := by decide +kernel
theorem dX8_plan_155 : decode cX8_plan 155 = .ok (.ireturn, 1) := by decide +kernel
theorem dX8_ends_0 : decode cX8_ends 0 = .ok (.iload_n 1, 1) := by decide +kernel
theorem dX8_ends_1 : decode cX8_ends 1 = .ok (.iconst 0, 1) := by decide +kernel
theorem dX8_ends_2 : decode cX8_ends 2 = .ok (.iconst 1, 1) := by decide +kernel
theorem dX8_ends_3 : decode cX8_ends 3 = .ok (.invokestatic 78, 3) := by decide +kernel
theorem dX8_ends_6 : decode cX8_ends 6 = .ok (.ifCond .ne 5, 3) := by decide +kernel
theorem dX8_ends_9 : decode cX8_ends 9 = .ok (.iconst (-1), 1) := by decide +kernel
theorem dX8_ends_10 : decode cX8_ends 10 = .ok (.ireturn, 1) := by decide +kernel
theorem dX8_ends_11 : decode cX8_ends 11 = .ok (.aload_n 0, 1) := by decide +kernel
theorem dX8_ends_12 : decode cX8_ends 12 = .ok (.iconst 0, 1) := by decide +kernel
theorem dX8_ends_13 : decode cX8_ends 13 = .ok (.invokevirtual 206, 3) := by decide +kernel
theorem dX8_ends_16 : decode cX8_ends 16 = .ok (.iconst 0, 1) := by decide +kernel
theorem dX8_ends_17 : decode cX8_ends 17 = .ok (.istore_n 2, 1) := by decide +kernel
theorem dX8_ends_18 : decode cX8_ends 18 = .ok (.iload_n 2, 1) := by decide +kernel
theorem dX8_ends_19 : decode cX8_ends 19 = .ok (.aload_n 0, 1) := by decide +kernel
theorem dX8_ends_20 : decode cX8_ends 20 = .ok (.getfield 9, 3) := by decide +kernel
theorem dX8_ends_23 : decode cX8_ends 23 = .ok (.bipush 95, 2) := by decide +kernel
theorem dX8_ends_25 : decode cX8_ends 25 = .ok (.iaload, 1) := by decide +kernel
theorem dX8_ends_26 : decode cX8_ends 26 = .ok (.if_icmp .ge 100, 3) := by decide +kernel
theorem dX8_ends_29 : decode cX8_ends 29 = .ok (.aload_n 0, 1) := by decide +kernel
theorem dX8_ends_30 : decode cX8_ends 30 = .ok (.getfield 9, 3) := by decide +kernel
theorem dX8_ends_33 : decode cX8_ends 33 = .ok (.bipush 96, 2) := by decide +kernel
theorem dX8_ends_35 : decode cX8_ends 35 = .ok (.iconst 2, 1) := by decide +kernel
theorem dX8_ends_36 : decode cX8_ends 36 = .ok (.iload_n 2, 1) := by decide +kernel
theorem dX8_ends_37 : decode cX8_ends 37 = .ok (.imul, 1) := by decide +kernel
theorem dX8_ends_38 : decode cX8_ends 38 = .ok (.iadd, 1) := by decide +kernel
theorem dX8_ends_39 : decode cX8_ends 39 = .ok (.iaload, 1) := by decide +kernel
theorem dX8_ends_40 : decode cX8_ends 40 = .ok (.istore_n 3, 1) := by decide +kernel
theorem dX8_ends_41 : decode cX8_ends 41 = .ok (.aload_n 0, 1) := by decide +kernel
theorem dX8_ends_42 : decode cX8_ends 42 = .ok (.getfield 9, 3) := by decide +kernel
theorem dX8_ends_45 : decode cX8_ends 45 = .ok (.bipush 97, 2) := by decide +kernel
theorem dX8_ends_47 : decode cX8_ends 47 = .ok (.iconst 2, 1) := by decide +kernel
theorem dX8_ends_48 : decode cX8_ends 48 = .ok (.iload_n 2, 1) := by decide +kernel
theorem dX8_ends_49 : decode cX8_ends 49 = .ok (.imul, 1) := by decide +kernel
theorem dX8_ends_50 : decode cX8_ends 50 = .ok (.iadd, 1) := by decide +kernel
theorem dX8_ends_51 : decode cX8_ends 51 = .ok (.iaload, 1) := by decide +kernel
theorem dX8_ends_52 : decode cX8_ends 52 = .ok (.istore 4, 2) := by decide +kernel
theorem dX8_ends_54 : decode cX8_ends 54 = .ok (.iload_n 3, 1) := by decide +kernel
theorem dX8_ends_55 : decode cX8_ends 55 = .ok (.ifCond .ne 10, 3) := by decide +kernel
theorem dX8_ends_58 : decode cX8_ends 58 = .ok (.aload_n 0, 1) := by decide +kernel
theorem dX8_ends_59 : decode cX8_ends 59 = .ok (.invokevirtual 203, 3) := by decide +kernel
theorem dX8_ends_62 : decode cX8_ends 62 = .ok (.goto 58, 3) := by decide +kernel
theorem dX8_ends_65 : decode cX8_ends 65 = .ok (.iload_n 3, 1) := by decide +kernel
theorem dX8_ends_66 : decode cX8_ends 66 = .ok (.iconst 1, 1) := by decide +kernel
theorem dX8_ends_67 : decode cX8_ends 67 = .ok (.if_icmp .ne 26, 3) := by decide +kernel
theorem dX8_ends_70 : decode cX8_ends 70 = .ok (.aload_n 0, 1) := by decide +kernel
theorem dX8_ends_71 : decode cX8_ends 71 = .ok (.iload 4, 2) := by decide +kernel
theorem dX8_ends_73 : decode cX8_ends 73 = .ok (.bipush 10, 2) := by decide +kernel
theorem dX8_ends_75 : decode cX8_ends 75 = .ok (.idiv, 1) := by decide +kernel
theorem dX8_ends_76 : decode cX8_ends 76 = .ok (.aload_n 0, 1) := by decide +kernel
theorem dX8_ends_77 : decode cX8_ends 77 = .ok (.iload 4, 2) := by decide +kernel
theorem dX8_ends_79 : decode cX8_ends 79 = .ok (.bipush 10, 2) := by decide +kernel
theorem dX8_ends_81 : decode cX8_ends 81 = .ok (.irem, 1) := by decide +kernel
theorem dX8_ends_82 : decode cX8_ends 82 = .ok (.iconst 2, 1) := by decide +kernel
theorem dX8_ends_83 : decode cX8_ends 83 = .ok (.invokevirtual 82, 3) := by decide +kernel
theorem dX8_ends_86 : decode cX8_ends 86 = .ok (.invokevirtual 197, 3) := by decide +kernel
theorem dX8_ends_89 : decode cX8_ends 89 = .ok (.pop, 1) := by decide +kernel
theorem dX8_ends_90 : decode cX8_ends 90 = .ok (.goto 30, 3) := by decide +kernel
theorem dX8_ends_93 : decode cX8_ends 93 = .ok (.iload_n 3, 1) := by decide +kernel
theorem dX8_ends_94 : decode cX8_ends 94 = .ok (.iconst 2, 1) := by decide +kernel
theorem dX8_ends_95 : decode cX8_ends 95 = .ok (.if_icmp .ne 16, 3) := by decide +kernel
theorem dX8_ends_98 : decode cX8_ends 98 = .ok (.aload_n 0, 1) := by decide +kernel
theorem dX8_ends_99 : decode cX8_ends 99 = .ok (.getfield 9, 3) := by decide +kernel
theorem dX8_ends_102 : decode cX8_ends 102 = .ok (.iconst 4, 1) := by decide +kernel
theorem dX8_ends_103 : decode cX8_ends 103 = .ok (.iload 4, 2) := by decide +kernel
theorem dX8_ends_105 : decode cX8_ends 105 = .ok (.imul, 1) := by decide +kernel
theorem dX8_ends_106 : decode cX8_ends 106 = .ok (.iconst 0, 1) := by decide +kernel
theorem dX8_ends_107 : decode cX8_ends 107 = .ok (.iastore, 1) := by decide +kernel
theorem dX8_ends_108 : decode cX8_ends 108 = .ok (.goto 12, 3) := by decide +kernel
theorem dX8_ends_111 : decode cX8_ends 111 = .ok (.aload_n 0, 1) := by decide +kernel
theorem dX8_ends_112 : decode cX8_ends 112 = .ok (.iload 4, 2) := by decide +kernel
theorem dX8_ends_114 : decode cX8_ends 114 = .ok (.iconst 4, 1) := by decide +kernel
theorem dX8_ends_115 : decode cX8_ends 115 = .ok (.iconst 0, 1) := by decide +kernel
theorem dX8_ends_116 : decode cX8_ends 116 = .ok (.invokevirtual 90, 3) := by decide +kernel
theorem dX8_ends_119 : decode cX8_ends 119 = .ok (.pop, 1) := by decide +kernel
theorem dX8_ends_120 : decode cX8_ends 120 = .ok (.iinc 2 1, 3) := by decide +kernel
theorem dX8_ends_123 : decode cX8_ends 123 = .ok (.goto (-105), 3) := by decide +kernel
theorem dX8_ends_126 : decode cX8_ends 126 = .ok (.iload_n 1, 1) := by decide +kernel
theorem dX8_ends_127 : decode cX8_ends 127 = .ok (.ifCond .ne 10, 3) := by decide +kernel
theorem dX8_ends_130 : decode cX8_ends 130 = .ok (.aload_n 0, 1) := by decide +kernel
theorem dX8_ends_131 : decode cX8_ends 131 = .ok (.invokevirtual 218, 3) := by decide +kernel
theorem dX8_ends_134 : decode cX8_ends 134 = .ok (.goto 7, 3) := by decide +kernel
theorem dX8_ends_137 : decode cX8_ends 137 = .ok (.aload_n 0, 1) := by decide +kernel
theorem dX8_ends_138 : decode cX8_ends 138 = .ok (.invokevirtual 215, 3) := by decide +kernel
theorem dX8_ends_141 : decode cX8_ends 141 = .ok (.istore_n 2, 1) := by decide +kernel
theorem dX8_ends_142 : decode cX8_ends 142 = .ok (.aload_n 0, 1) := by decide +kernel
theorem dX8_ends_143 : decode cX8_ends 143 = .ok (.iconst 0, 1) := by decide +kernel
theorem dX8_ends_144 : decode cX8_ends 144 = .ok (.invokevirtual 209, 3) := by decide +kernel
theorem dX8_ends_147 : decode cX8_ends 147 = .ok (.iload_n 2, 1) := by decide +kernel
theorem dX8_ends_148 : decode cX8_ends 148 = .ok (.ireturn, 1) := by decide +kernel
theorem dX8_book_0 : decode cX8_book 0 = .ok (.iload_n 1, 1) := by decide +kernel
theorem dX8_book_1 : decode cX8_book 1 = .ok (.iconst (-1), 1) := by decide +kernel
theorem dX8_book_2 : decode cX8_book 2 = .ok (.if_icmp .ne 13, 3) := by decide +kernel
theorem dX8_book_5 : decode cX8_book 5 = .ok (.aload_n 0, 1) := by decide +kernel
theorem dX8_book_6 : decode cX8_book 6 = .ok (.getfield 9, 3) := by decide +kernel
theorem dX8_book_9 : decode cX8_book 9 = .ok (.bipush 116, 2) := by decide +kernel
theorem dX8_book_11 : decode cX8_book 11 = .ok (.iconst 0, 1) := by decide +kernel
theorem dX8_book_12 : decode cX8_book 12 = .ok (.iastore, 1) := by decide +kernel
theorem dX8_book_13 : decode cX8_book 13 = .ok (.iconst 0, 1) := by decide +kernel
theorem dX8_book_14 : decode cX8_book 14 = .ok (.ireturn, 1) := by decide +kernel
theorem dX8_book_15 : decode cX8_book 15 = .ok (.aload_n 0, 1) := by decide +kernel
theorem dX8_book_16 : decode cX8_book 16 = .ok (.iload_n 1, 1) := by decide +kernel
theorem dX8_book_17 : decode cX8_book 17 = .ok (.invokevirtual 94, 3) := by decide +kernel
theorem dX8_book_20 : decode cX8_book 20 = .ok (.ifCond .ne 5, 3) := by decide +kernel
theorem dX8_book_23 : decode cX8_book 23 = .ok (.iconst (-1), 1) := by decide +kernel
theorem dX8_book_24 : decode cX8_book 24 = .ok (.ireturn, 1) := by decide +kernel
theorem dX8_book_25 : decode cX8_book 25 = .ok (.iload_n 2, 1) := by decide +kernel
theorem dX8_book_26 : decode cX8_book 26 = .ok (.iconst 0, 1) := by decide +kernel
theorem dX8_book_27 : decode cX8_book 27 = .ok (.sipush 9999, 3) := by decide +kernel
theorem dX8_book_30 : decode cX8_book 30 = .ok (.invokestatic 78, 3) := by decide +kernel
theorem dX8_book_33 : decode cX8_book 33 = .ok (.ifCond .ne 6, 3) := by decide +kernel
theorem dX8_book_36 : decode cX8_book 36 = .ok (.bipush (-2), 2) := by decide +kernel
theorem dX8_book_38 : decode cX8_book 38 = .ok (.ireturn, 1) := by decide +kernel
theorem dX8_book_39 : decode cX8_book 39 = .ok (.aload_n 0, 1) := by decide +kernel
theorem dX8_book_40 : decode cX8_book 40 = .ok (.getfield 9, 3) := by decide +kernel
theorem dX8_book_43 : decode cX8_book 43 = .ok (.bipush 116, 2) := by decide +kernel
theorem dX8_book_45 : decode cX8_book 45 = .ok (.iaload, 1) := by decide +kernel
theorem dX8_book_46 : decode cX8_book 46 = .ok (.bipush 8, 2) := by decide +kernel
theorem dX8_book_48 : decode cX8_book 48 = .ok (.if_icmp .ne 6, 3) := by decide +kernel
theorem dX8_book_51 : decode cX8_book 51 = .ok (.bipush (-4), 2) := by decide +kernel
theorem dX8_book_53 : decode cX8_book 53 = .ok (.ireturn, 1) := by decide +kernel
theorem dX8_book_54 : decode cX8_book 54 = .ok (.aload_n 0, 1) := by decide +kernel
theorem dX8_book_55 : decode cX8_book 55 = .ok (.getfield 9, 3) := by decide +kernel
theorem dX8_book_58 : decode cX8_book 58 = .ok (.bipush 117, 2) := by decide +kernel
theorem dX8_book_60 : decode cX8_book 60 = .ok (.iconst 2, 1) := by decide +kernel
theorem dX8_book_61 : decode cX8_book 61 = .ok (.aload_n 0, 1) := by decide +kernel
theorem dX8_book_62 : decode cX8_book 62 = .ok (.getfield 9, 3) := by decide +kernel
theorem dX8_book_65 : decode cX8_book 65 = .ok (.bipush 116, 2) := by decide +kernel
theorem dX8_book_67 : decode cX8_book 67 = .ok (.iaload, 1) := by decide +kernel
theorem dX8_book_68 : decode cX8_book 68 = .ok (.imul, 1) := by decide +kernel
theorem dX8_book_69 : decode cX8_book 69 = .ok (.iadd, 1) := by decide +kernel
theorem dX8_book_70 : decode cX8_book 70 = .ok (.iload_n 1, 1) := by decide +kernel
theorem dX8_book_71 : decode cX8_book 71 = .ok (.iastore, 1) := by decide +kernel
theorem dX8_book_72 : decode cX8_book 72 = .ok (.aload_n 0, 1) := by decide +kernel
theorem dX8_book_73 : decode cX8_book 73 = .ok (.getfield 9, 3) := by decide +kernel
theorem dX8_book_76 : decode cX8_book 76 = .ok (.bipush 118, 2) := by decide +kernel
theorem dX8_book_78 : decode cX8_book 78 = .ok (.iconst 2, 1) := by decide +kernel
theorem dX8_book_79 : decode cX8_book 79 = .ok (.aload_n 0, 1) := by decide +kernel
theorem dX8_book_80 : decode cX8_book 80 = .ok (.getfield 9, 3) := by decide +kernel
theorem dX8_book_83 : decode cX8_book 83 = .ok (.bipush 116, 2) := by decide +kernel
theorem dX8_book_85 : decode cX8_book 85 = .ok (.iaload, 1) := by decide +kernel
theorem dX8_book_86 : decode cX8_book 86 = .ok (.imul, 1) := by decide +kernel
theorem dX8_book_87 : decode cX8_book 87 = .ok (.iadd, 1) := by decide +kernel
theorem dX8_book_88 : decode cX8_book 88 = .ok (.iload_n 2, 1) := by decide +kernel
theorem dX8_book_89 : decode cX8_book 89 = .ok (.iastore, 1) := by decide +kernel
theorem dX8_book_90 : decode cX8_book 90 = .ok (.aload_n 0, 1) := by decide +kernel
theorem dX8_book_91 : decode cX8_book 91 = .ok (.getfield 9, 3) := by decide +kernel
theorem dX8_book_94 : decode cX8_book 94 = .ok (.bipush 116, 2) := by decide +kernel
theorem dX8_book_96 : decode cX8_book 96 = .ok (.dup2, 1) := by decide +kernel
theorem dX8_book_97 : decode cX8_book 97 = .ok (.iaload, 1) := by decide +kernel
theorem dX8_book_98 : decode cX8_book 98 = .ok (.iconst 1, 1) := by decide +kernel
theorem dX8_book_99 : decode cX8_book 99 = .ok (.iadd, 1) := by decide +kernel
theorem dX8_book_100 : decode cX8_book 100 = .ok (.iastore, 1) := by decide +kernel
theorem dX8_book_101 : decode cX8_book 101 = .ok (.aload_n 0, 1) := by decide +kernel
theorem dX8_book_102 : decode cX8_book 102 = .ok (.getfield 9, 3) := by decide +kernel
theorem dX8_book_105 : decode cX8_book 105 = .ok (.bipush 116, 2) := by decide +kernel
theorem dX8_book_107 : decode cX8_book 107 = .ok (.iaload, 1) := by decide +kernel
theorem dX8_book_108 : decode cX8_book 108 = .ok (.ireturn, 1) := by decide +kernel
theorem dX8_looked_0 : decode cX8_looked 0 = .ok (.iconst 0, 1) := by decide +kernel
theorem dX8_looked_1 : decode cX8_looked 1 = .ok (.istore_n 1, 1) := by decide +kernel
theorem dX8_looked_2 : decode cX8_looked 2 = .ok (.iload_n 1, 1) := by decide +kernel
theorem dX8_looked_3 : decode cX8_looked 3 = .ok (.aload_n 0, 1) := by decide +kernel
theorem dX8_looked_4 : decode cX8_looked 4 = .ok (.getfield 9, 3) := by decide +kernel
theorem dX8_looked_7 : decode cX8_looked 7 = .ok (.bipush 116, 2) := by decide +kernel
theorem dX8_looked_9 : decode cX8_looked 9 = .ok (.iaload, 1) := by decide +kernel
theorem dX8_looked_10 : decode cX8_looked 10 = .ok (.if_icmp .ge 41, 3) := by decide +kernel
theorem dX8_looked_13 : decode cX8_looked 13 = .ok (.aload_n 0, 1) := by decide +kernel
theorem dX8_looked_14 : decode cX8_looked 14 = .ok (.aload_n 0, 1) := by decide +kernel
theorem dX8_looked_15 : decode cX8_looked 15 = .ok (.getfield 9, 3) := by decide +kernel
theorem dX8_looked_18 : decode cX8_looked 18 = .ok (.bipush 117, 2) := by decide +kernel
theorem dX8_looked_20 : decode cX8_looked 20 = .ok (.iconst 2, 1) := by decide +kernel
theorem dX8_looked_21 : decode cX8_looked 21 = .ok (.iload_n 1, 1) := by decide +kernel
theorem dX8_looked_22 : decode cX8_looked 22 = .ok (.imul, 1) := by decide +kernel
theorem dX8_looked_23 : decode cX8_looked 23 = .ok (.iadd, 1) := by decide +kernel
theorem dX8_looked_24 : decode cX8_looked 24 = .ok (.iaload, 1) := by decide +kernel
theorem dX8_looked_25 : decode cX8_looked 25 = .ok (.iconst 5, 1) := by decide +kernel
theorem dX8_looked_26 : decode cX8_looked 26 = .ok (.invokevirtual 82, 3) := by decide +kernel
theorem dX8_looked_29 : decode cX8_looked 29 = .ok (.aload_n 0, 1) := by decide +kernel
theorem dX8_looked_30 : decode cX8_looked 30 = .ok (.getfield 9, 3) := by decide +kernel
theorem dX8_looked_33 : decode cX8_looked 33 = .ok (.bipush 118, 2) := by decide +kernel
theorem dX8_looked_35 : decode cX8_looked 35 = .ok (.iconst 2, 1) := by decide +kernel
theorem dX8_looked_36 : decode cX8_looked 36 = .ok (.iload_n 1, 1) := by decide +kernel
theorem dX8_looked_37 : decode cX8_looked 37 = .ok (.imul, 1) := by decide +kernel
theorem dX8_looked_38 : decode cX8_looked 38 = .ok (.iadd, 1) := by decide +kernel
theorem dX8_looked_39 : decode cX8_looked 39 = .ok (.iaload, 1) := by decide +kernel
theorem dX8_looked_40 : decode cX8_looked 40 = .ok (.if_icmp .eq 5, 3) := by decide +kernel
theorem dX8_looked_43 : decode cX8_looked 43 = .ok (.iload_n 1, 1) := by decide +kernel
theorem dX8_looked_44 : decode cX8_looked 44 = .ok (.ireturn, 1) := by decide +kernel
theorem dX8_looked_45 : decode cX8_looked 45 = .ok (.iinc 1 1, 3) := by decide +kernel
theorem dX8_looked_48 : decode cX8_looked 48 = .ok (.goto (-46), 3) := by decide +kernel
theorem dX8_looked_51 : decode cX8_looked 51 = .ok (.bipush (-5), 2) := by decide +kernel
theorem dX8_looked_53 : decode cX8_looked 53 = .ok (.ireturn, 1) := by decide +kernel
theorem dX8_body_0 : decode cX8_body 0 = .ok (.aload_n 0, 1) := by decide +kernel
theorem dX8_body_1 : decode cX8_body 1 = .ok (.getfield 255, 3) := by decide +kernel
theorem dX8_body_4 : decode cX8_body 4 = .ok (.bipush 20, 2) := by decide +kernel
theorem dX8_body_6 : decode cX8_body 6 = .ok (.if_icmp .ge 13, 3) := by decide +kernel
theorem dX8_body_9 : decode cX8_body 9 = .ok (.aload_n 0, 1) := by decide +kernel
theorem dX8_body_10 : decode cX8_body 10 = .ok (.getfield 58, 3) := by decide +kernel
theorem dX8_body_13 : decode cX8_body 13 = .ok (.aload_n 0, 1) := by decide +kernel
theorem dX8_body_14 : decode cX8_body 14 = .ok (.getfield 255, 3) := by decide +kernel
theorem dX8_body_17 : decode cX8_body 17 = .ok (.iload_n 1, 1) := by decide +kernel
theorem dX8_body_18 : decode cX8_body 18 = .ok (.iastore, 1) := by decide +kernel
theorem dX8_body_19 : decode cX8_body 19 = .ok (.aload_n 0, 1) := by decide +kernel
theorem dX8_body_20 : decode cX8_body 20 = .ok (.dup, 1) := by decide +kernel
theorem dX8_body_21 : decode cX8_body 21 = .ok (.getfield 255, 3) := by decide +kernel
theorem dX8_body_24 : decode cX8_body 24 = .ok (.iconst 1, 1) := by decide +kernel
theorem dX8_body_25 : decode cX8_body 25 = .ok (.iadd, 1) := by decide +kernel
theorem dX8_body_26 : decode cX8_body 26 = .ok (.putfield 255, 3) := by decide +kernel
theorem dX8_body_29 : decode cX8_body 29 = .ok (.iload_n 1, 1) := by decide +kernel
theorem dX8_body_30 : decode cX8_body 30 = .ok (.ireturn, 1) := by decide +kernel
theorem dX8_all_0 : decode cX8_all 0 = .ok (.aload_n 0, 1) := by decide +kernel
theorem dX8_all_1 : decode cX8_all 1 = .ok (.aload_n 0, 1) := by decide +kernel
theorem dX8_all_2 : decode cX8_all 2 = .ok (.iload_n 1, 1) := by decide +kernel
theorem dX8_all_3 : decode cX8_all 3 = .ok (.iconst 0, 1) := by decide +kernel
theorem dX8_all_4 : decode cX8_all 4 = .ok (.invokevirtual 82, 3) := by decide +kernel
theorem dX8_all_7 : decode cX8_all 7 = .ok (.iload_n 1, 1) := by decide +kernel
theorem dX8_all_8 : decode cX8_all 8 = .ok (.iload_n 2, 1) := by decide +kernel
theorem dX8_all_9 : decode cX8_all 9 = .ok (.iload_n 3, 1) := by decide +kernel
theorem dX8_all_10 : decode cX8_all 10 = .ok (.invokevirtual 258, 3) := by decide +kernel
theorem dX8_all_13 : decode cX8_all 13 = .ok (.ireturn, 1) := by decide +kernel
theorem dX8_byKind_0 : decode cX8_byKind 0 = .ok (.iload_n 1, 1) := by decide +kernel
theorem dX8_byKind_1 : decode cX8_byKind 1 = .ok (.istore 5, 2) := by decide +kernel
theorem dX8_byKind_3 : decode cX8_byKind 3 = .ok (.aload_n 0, 1) := by decide +kernel
theorem dX8_byKind_4 : decode cX8_byKind 4 = .ok (.getfield 55, 3) := by decide +kernel
theorem dX8_byKind_7 : decode cX8_byKind 7 = .ok (.iconst 3, 1) := by decide +kernel
theorem dX8_byKind_8 : decode cX8_byKind 8 = .ok (.iload 5, 2) := by decide +kernel
theorem dX8_byKind_10 : decode cX8_byKind 10 = .ok (.imul, 1) := by decide +kernel
theorem dX8_byKind_11 : decode cX8_byKind 11 = .ok (.iload_n 3, 1) := by decide +kernel
theorem dX8_byKind_12 : decode cX8_byKind 12 = .ok (.iadd, 1) := by decide +kernel
theorem dX8_byKind_13 : decode cX8_byKind 13 = .ok (.iaload, 1) := by decide +kernel
theorem dX8_byKind_14 : decode cX8_byKind 14 = .ok (.ifCond .ne 15, 3) := by decide +kernel
theorem dX8_byKind_17 : decode cX8_byKind 17 = .ok (.aload_n 0, 1) := by decide +kernel
theorem dX8_byKind_18 : decode cX8_byKind 18 = .ok (.getfield 52, 3) := by decide +kernel
theorem dX8_byKind_21 : decode cX8_byKind 21 = .ok (.iload 5, 2) := by decide +kernel
theorem dX8_byKind_23 : decode cX8_byKind 23 = .ok (.iaload, 1) := by decide +kernel
theorem dX8_byKind_24 : decode cX8_byKind 24 = .ok (.istore 5, 2) := by decide +kernel
theorem dX8_byKind_26 : decode cX8_byKind 26 = .ok (.goto (-23), 3) := by decide +kernel
theorem dX8_byKind_29 : decode cX8_byKind 29 = .ok (.aload_n 0, 1) := by decide +kernel
theorem dX8_byKind_30 : decode cX8_byKind 30 = .ok (.getfield 52, 3) := by decide +kernel
theorem dX8_byKind_33 : decode cX8_byKind 33 = .ok (.iload 5, 2) := by decide +kernel
theorem dX8_byKind_35 : decode cX8_byKind 35 = .ok (.iaload, 1) := by decide +kernel
theorem dX8_byKind_36 : decode cX8_byKind 36 = .ok (.istore 6, 2) := by decide +kernel
theorem dX8_byKind_38 : decode cX8_byKind 38 = .ok (.aload_n 0, 1) := by decide +kernel
theorem dX8_byKind_39 : decode cX8_byKind 39 = .ok (.aload_n 0, 1) := by decide +kernel
theorem dX8_byKind_40 : decode cX8_byKind 40 = .ok (.getfield 55, 3) := by decide +kernel
theorem dX8_byKind_43 : decode cX8_byKind 43 = .ok (.iconst 3, 1) := by decide +kernel
theorem dX8_byKind_44 : decode cX8_byKind 44 = .ok (.iload 5, 2) := by decide +kernel
theorem dX8_byKind_46 : decode cX8_byKind 46 = .ok (.imul, 1) := by decide +kernel
theorem dX8_byKind_47 : decode cX8_byKind 47 = .ok (.iload_n 3, 1) := by decide +kernel
theorem dX8_byKind_48 : decode cX8_byKind 48 = .ok (.iadd, 1) := by decide +kernel
theorem dX8_byKind_49 : decode cX8_byKind 49 = .ok (.iaload, 1) := by decide +kernel
theorem dX8_byKind_50 : decode cX8_byKind 50 = .ok (.invokevirtual 261, 3) := by decide +kernel
theorem dX8_byKind_53 : decode cX8_byKind 53 = .ok (.lookupswitch 228 #[(10, 91), (11, 96), (12, 112), (20, 123), (30, 137), (40, 150), (50, 169), (51, 181), (60, 194), (70, 207)], 91) := by decide +kernel
theorem dX8_byKind_144 : decode cX8_byKind 144 = .ok (.iload 4, 2) := by decide +kernel
theorem dX8_byKind_146 : decode cX8_byKind 146 = .ok (.iload_n 2, 1) := by decide +kernel
theorem dX8_byKind_147 : decode cX8_byKind 147 = .ok (.iadd, 1) := by decide +kernel
theorem dX8_byKind_148 : decode cX8_byKind 148 = .ok (.ireturn, 1) := by decide +kernel
theorem dX8_byKind_149 : decode cX8_byKind 149 = .ok (.aload_n 0, 1) := by decide +kernel
theorem dX8_byKind_150 : decode cX8_byKind 150 = .ok (.iload_n 2, 1) := by decide +kernel
theorem dX8_byKind_151 : decode cX8_byKind 151 = .ok (.iconst 0, 1) := by decide +kernel
theorem dX8_byKind_152 : decode cX8_byKind 152 = .ok (.iload 4, 2) := by decide +kernel
theorem dX8_byKind_154 : decode cX8_byKind 154 = .ok (.invokevirtual 264, 3) := by decide +kernel
theorem dX8_byKind_157 : decode cX8_byKind 157 = .ok (.aload_n 0, 1) := by decide +kernel
theorem dX8_byKind_158 : decode cX8_byKind 158 = .ok (.iload_n 2, 1) := by decide +kernel
theorem dX8_byKind_159 : decode cX8_byKind 159 = .ok (.iconst 1, 1) := by decide +kernel
theorem dX8_byKind_160 : decode cX8_byKind 160 = .ok (.invokevirtual 82, 3) := by decide +kernel
theorem dX8_byKind_163 : decode cX8_byKind 163 = .ok (.isub, 1) := by decide +kernel
theorem dX8_byKind_164 : decode cX8_byKind 164 = .ok (.ireturn, 1) := by decide +kernel
theorem dX8_byKind_165 : decode cX8_byKind 165 = .ok (.aload_n 0, 1) := by decide +kernel
theorem dX8_byKind_166 : decode cX8_byKind 166 = .ok (.iload_n 2, 1) := by decide +kernel
theorem dX8_byKind_167 : decode cX8_byKind 167 = .ok (.iconst 1, 1) := by decide +kernel
theorem dX8_byKind_168 : decode cX8_byKind 168 = .ok (.iload 4, 2) := by decide +kernel
theorem dX8_byKind_170 : decode cX8_byKind 170 = .ok (.invokevirtual 264, 3) := by decide +kernel
theorem dX8_byKind_173 : decode cX8_byKind 173 = .ok (.iconst 2, 1) := by decide +kernel
theorem dX8_byKind_174 : decode cX8_byKind 174 = .ok (.imul, 1) := by decide +kernel
theorem dX8_byKind_175 : decode cX8_byKind 175 = .ok (.ireturn, 1) := by decide +kernel
theorem dX8_byKind_176 : decode cX8_byKind 176 = .ok (.aload_n 0, 1) := by decide +kernel
theorem dX8_byKind_177 : decode cX8_byKind 177 = .ok (.iload 6, 2) := by decide +kernel
theorem dX8_byKind_179 : decode cX8_byKind 179 = .ok (.iload_n 2, 1) := by decide +kernel
theorem dX8_byKind_180 : decode cX8_byKind 180 = .ok (.iconst 1, 1) := by decide +kernel
theorem dX8_byKind_181 : decode cX8_byKind 181 = .ok (.iload 4, 2) := by decide +kernel
theorem dX8_byKind_183 : decode cX8_byKind 183 = .ok (.invokevirtual 258, 3) := by decide +kernel
theorem dX8_byKind_186 : decode cX8_byKind 186 = .ok (.bipush 6, 2) := by decide +kernel
theorem dX8_byKind_188 : decode cX8_byKind 188 = .ok (.ixor, 1) := by decide +kernel
theorem dX8_byKind_189 : decode cX8_byKind 189 = .ok (.ireturn, 1) := by decide +kernel
theorem dX8_byKind_190 : decode cX8_byKind 190 = .ok (.aload_n 0, 1) := by decide +kernel
theorem dX8_byKind_191 : decode cX8_byKind 191 = .ok (.iload 6, 2) := by decide +kernel
theorem dX8_byKind_193 : decode cX8_byKind 193 = .ok (.iload_n 2, 1) := by decide +kernel
theorem dX8_byKind_194 : decode cX8_byKind 194 = .ok (.iconst 0, 1) := by decide +kernel
theorem dX8_byKind_195 : decode cX8_byKind 195 = .ok (.iload 4, 2) := by decide +kernel
theorem dX8_byKind_197 : decode cX8_byKind 197 = .ok (.iconst 3, 1) := by decide +kernel
theorem dX8_byKind_198 : decode cX8_byKind 198 = .ok (.imul, 1) := by decide +kernel
theorem dX8_byKind_199 : decode cX8_byKind 199 = .ok (.invokevirtual 258, 3) := by decide +kernel
theorem dX8_byKind_202 : decode cX8_byKind 202 = .ok (.ireturn, 1) := by decide +kernel
theorem dX8_byKind_203 : decode cX8_byKind 203 = .ok (.aload_n 0, 1) := by decide +kernel
theorem dX8_byKind_204 : decode cX8_byKind 204 = .ok (.iload 6, 2) := by decide +kernel
theorem dX8_byKind_206 : decode cX8_byKind 206 = .ok (.iload_n 2, 1) := by decide +kernel
theorem dX8_byKind_207 : decode cX8_byKind 207 = .ok (.iconst 2, 1) := by decide +kernel
theorem dX8_byKind_208 : decode cX8_byKind 208 = .ok (.iload 4, 2) := by decide +kernel
theorem dX8_byKind_210 : decode cX8_byKind 210 = .ok (.invokevirtual 258, 3) := by decide +kernel
theorem dX8_byKind_213 : decode cX8_byKind 213 = .ok (.aload_n 0, 1) := by decide +kernel
theorem dX8_byKind_214 : decode cX8_byKind 214 = .ok (.iload_n 2, 1) := by decide +kernel
theorem dX8_byKind_215 : decode cX8_byKind 215 = .ok (.iconst 1, 1) := by decide +kernel
theorem dX8_byKind_216 : decode cX8_byKind 216 = .ok (.iconst 1, 1) := by decide +kernel
theorem dX8_byKind_217 : decode cX8_byKind 217 = .ok (.invokevirtual 264, 3) := by decide +kernel
theorem dX8_byKind_220 : decode cX8_byKind 220 = .ok (.iadd, 1) := by decide +kernel
theorem dX8_byKind_221 : decode cX8_byKind 221 = .ok (.ireturn, 1) := by decide +kernel
theorem dX8_byKind_222 : decode cX8_byKind 222 = .ok (.aload_n 0, 1) := by decide +kernel
theorem dX8_byKind_223 : decode cX8_byKind 223 = .ok (.iload 6, 2) := by decide +kernel
theorem dX8_byKind_225 : decode cX8_byKind 225 = .ok (.iload_n 2, 1) := by decide +kernel
theorem dX8_byKind_226 : decode cX8_byKind 226 = .ok (.iconst 0, 1) := by decide +kernel
theorem dX8_byKind_227 : decode cX8_byKind 227 = .ok (.iload 4, 2) := by decide +kernel
theorem dX8_byKind_229 : decode cX8_byKind 229 = .ok (.invokevirtual 258, 3) := by decide +kernel
theorem dX8_byKind_232 : decode cX8_byKind 232 = .ok (.ineg, 1) := by decide +kernel
theorem dX8_byKind_233 : decode cX8_byKind 233 = .ok (.ireturn, 1) := by decide +kernel
theorem dX8_byKind_234 : decode cX8_byKind 234 = .ok (.aload_n 0, 1) := by decide +kernel
theorem dX8_byKind_235 : decode cX8_byKind 235 = .ok (.iload 6, 2) := by decide +kernel
theorem dX8_byKind_237 : decode cX8_byKind 237 = .ok (.iload_n 2, 1) := by decide +kernel
theorem dX8_byKind_238 : decode cX8_byKind 238 = .ok (.iconst 1, 1) := by decide +kernel
theorem dX8_byKind_239 : decode cX8_byKind 239 = .ok (.iload 4, 2) := by decide +kernel
theorem dX8_byKind_241 : decode cX8_byKind 241 = .ok (.iconst 1, 1) := by decide +kernel
theorem dX8_byKind_242 : decode cX8_byKind 242 = .ok (.iadd, 1) := by decide +kernel
theorem dX8_byKind_243 : decode cX8_byKind 243 = .ok (.invokevirtual 258, 3) := by decide +kernel
theorem dX8_byKind_246 : decode cX8_byKind 246 = .ok (.ireturn, 1) := by decide +kernel
theorem dX8_byKind_247 : decode cX8_byKind 247 = .ok (.aload_n 0, 1) := by decide +kernel
theorem dX8_byKind_248 : decode cX8_byKind 248 = .ok (.iload 6, 2) := by decide +kernel
theorem dX8_byKind_250 : decode cX8_byKind 250 = .ok (.iload_n 2, 1) := by decide +kernel
theorem dX8_byKind_251 : decode cX8_byKind 251 = .ok (.iconst 2, 1) := by decide +kernel
theorem dX8_byKind_252 : decode cX8_byKind 252 = .ok (.iload 4, 2) := by decide +kernel
theorem dX8_byKind_254 : decode cX8_byKind 254 = .ok (.iload_n 2, 1) := by decide +kernel
theorem dX8_byKind_255 : decode cX8_byKind 255 = .ok (.isub, 1) := by decide +kernel
theorem dX8_byKind_256 : decode cX8_byKind 256 = .ok (.invokevirtual 258, 3) := by decide +kernel
theorem dX8_byKind_259 : decode cX8_byKind 259 = .ok (.ireturn, 1) := by decide +kernel
theorem dX8_byKind_260 : decode cX8_byKind 260 = .ok (.aload_n 0, 1) := by decide +kernel
theorem dX8_byKind_261 : decode cX8_byKind 261 = .ok (.iload 6, 2) := by decide +kernel
theorem dX8_byKind_263 : decode cX8_byKind 263 = .ok (.iload_n 2, 1) := by decide +kernel
theorem dX8_byKind_264 : decode cX8_byKind 264 = .ok (.iconst 1, 1) := by decide +kernel
theorem dX8_byKind_265 : decode cX8_byKind 265 = .ok (.iload 4, 2) := by decide +kernel
theorem dX8_byKind_267 : decode cX8_byKind 267 = .ok (.invokevirtual 258, 3) := by decide +kernel
theorem dX8_byKind_270 : decode cX8_byKind 270 = .ok (.aload_n 0, 1) := by decide +kernel
theorem dX8_byKind_271 : decode cX8_byKind 271 = .ok (.iload 6, 2) := by decide +kernel
theorem dX8_byKind_273 : decode cX8_byKind 273 = .ok (.iload_n 2, 1) := by decide +kernel
theorem dX8_byKind_274 : decode cX8_byKind 274 = .ok (.iconst 0, 1) := by decide +kernel
theorem dX8_byKind_275 : decode cX8_byKind 275 = .ok (.iconst 2, 1) := by decide +kernel
theorem dX8_byKind_276 : decode cX8_byKind 276 = .ok (.invokevirtual 258, 3) := by decide +kernel
theorem dX8_byKind_279 : decode cX8_byKind 279 = .ok (.iadd, 1) := by decide +kernel
theorem dX8_byKind_280 : decode cX8_byKind 280 = .ok (.ireturn, 1) := by decide +kernel
theorem dX8_byKind_281 : decode cX8_byKind 281 = .ok (.aload_n 0, 1) := by decide +kernel
theorem dX8_byKind_282 : decode cX8_byKind 282 = .ok (.iload 6, 2) := by decide +kernel
theorem dX8_byKind_284 : decode cX8_byKind 284 = .ok (.iload_n 2, 1) := by decide +kernel
theorem dX8_byKind_285 : decode cX8_byKind 285 = .ok (.iconst 0, 1) := by decide +kernel
theorem dX8_byKind_286 : decode cX8_byKind 286 = .ok (.iload 4, 2) := by decide +kernel
theorem dX8_byKind_288 : decode cX8_byKind 288 = .ok (.invokevirtual 258, 3) := by decide +kernel
theorem dX8_byKind_291 : decode cX8_byKind 291 = .ok (.aload_n 0, 1) := by decide +kernel
theorem dX8_byKind_292 : decode cX8_byKind 292 = .ok (.iload_n 2, 1) := by decide +kernel
theorem dX8_byKind_293 : decode cX8_byKind 293 = .ok (.iconst 1, 1) := by decide +kernel
theorem dX8_byKind_294 : decode cX8_byKind 294 = .ok (.invokevirtual 82, 3) := by decide +kernel
theorem dX8_byKind_297 : decode cX8_byKind 297 = .ok (.ixor, 1) := by decide +kernel
theorem dX8_byKind_298 : decode cX8_byKind 298 = .ok (.ireturn, 1) := by decide +kernel
theorem dX8_act_0 : decode cX8_act 0 = .ok (.aload_n 0, 1) := by decide +kernel
theorem dX8_act_1 : decode cX8_act 1 = .ok (.iconst 0, 1) := by decide +kernel
theorem dX8_act_2 : decode cX8_act 2 = .ok (.putfield 255, 3) := by decide +kernel
theorem dX8_act_5 : decode cX8_act 5 = .ok (.aload_n 0, 1) := by decide +kernel
theorem dX8_act_6 : decode cX8_act 6 = .ok (.iload_n 1, 1) := by decide +kernel
theorem dX8_act_7 : decode cX8_act 7 = .ok (.invokevirtual 94, 3) := by decide +kernel
theorem dX8_act_10 : decode cX8_act 10 = .ok (.ifCond .eq 22, 3) := by decide +kernel
theorem dX8_act_13 : decode cX8_act 13 = .ok (.iload_n 2, 1) := by decide +kernel
theorem dX8_act_14 : decode cX8_act 14 = .ok (.iconst 0, 1) := by decide +kernel
theorem dX8_act_15 : decode cX8_act 15 = .ok (.iconst 2, 1) := by decide +kernel
theorem dX8_act_16 : decode cX8_act 16 = .ok (.invokestatic 78, 3) := by decide +kernel
theorem dX8_act_19 : decode cX8_act 19 = .ok (.ifCond .eq 13, 3) := by decide +kernel
theorem dX8_act_22 : decode cX8_act 22 = .ok (.aload_n 0, 1) := by decide +kernel
theorem dX8_act_23 : decode cX8_act 23 = .ok (.iload_n 1, 1) := by decide +kernel
theorem dX8_act_24 : decode cX8_act 24 = .ok (.iload_n 2, 1) := by decide +kernel
theorem dX8_act_25 : decode cX8_act 25 = .ok (.iload_n 3, 1) := by decide +kernel
theorem dX8_act_26 : decode cX8_act 26 = .ok (.invokevirtual 264, 3) := by decide +kernel
theorem dX8_act_29 : decode cX8_act 29 = .ok (.goto 4, 3) := by decide +kernel
theorem dX8_act_32 : decode cX8_act 32 = .ok (.iconst 0, 1) := by decide +kernel
theorem dX8_act_33 : decode cX8_act 33 = .ok (.ireturn, 1) := by decide +kernel
theorem dX8_trace_0 : decode cX8_trace 0 = .ok (.iload_n 1, 1) := by decide +kernel
theorem dX8_trace_1 : decode cX8_trace 1 = .ok (.iconst 0, 1) := by decide +kernel
theorem dX8_trace_2 : decode cX8_trace 2 = .ok (.bipush 20, 2) := by decide +kernel
theorem dX8_trace_4 : decode cX8_trace 4 = .ok (.aload_n 0, 1) := by decide +kernel
theorem dX8_trace_5 : decode cX8_trace 5 = .ok (.getfield 255, 3) := by decide +kernel
theorem dX8_trace_8 : decode cX8_trace 8 = .ok (.invokestatic 189, 3) := by decide +kernel
theorem dX8_trace_11 : decode cX8_trace 11 = .ok (.iconst 1, 1) := by decide +kernel
theorem dX8_trace_12 : decode cX8_trace 12 = .ok (.isub, 1) := by decide +kernel
theorem dX8_trace_13 : decode cX8_trace 13 = .ok (.invokestatic 78, 3) := by decide +kernel
theorem dX8_trace_16 : decode cX8_trace 16 = .ok (.ifCond .eq 12, 3) := by decide +kernel
theorem dX8_trace_19 : decode cX8_trace 19 = .ok (.aload_n 0, 1) := by decide +kernel
theorem dX8_trace_20 : decode cX8_trace 20 = .ok (.getfield 58, 3) := by decide +kernel
theorem dX8_trace_23 : decode cX8_trace 23 = .ok (.iload_n 1, 1) := by decide +kernel
theorem dX8_trace_24 : decode cX8_trace 24 = .ok (.iaload, 1) := by decide +kernel
theorem dX8_trace_25 : decode cX8_trace 25 = .ok (.goto 4, 3) := by decide +kernel
theorem dX8_trace_28 : decode cX8_trace 28 = .ok (.iconst (-1), 1) := by decide +kernel
theorem dX8_trace_29 : decode cX8_trace 29 = .ok (.ireturn, 1) := by decide +kernel
theorem dX8_taken_0 : decode cX8_taken 0 = .ok (.iload_n 2, 1) := by decide +kernel
theorem dX8_taken_1 : decode cX8_taken 1 = .ok (.iconst 0, 1) := by decide +kernel
theorem dX8_taken_2 : decode cX8_taken 2 = .ok (.bipush 6, 2) := by decide +kernel
theorem dX8_taken_4 : decode cX8_taken 4 = .ok (.invokestatic 78, 3) := by decide +kernel
theorem dX8_taken_7 : decode cX8_taken 7 = .ok (.ifCond .ne 6, 3) := by decide +kernel
theorem dX8_taken_10 : decode cX8_taken 10 = .ok (.bipush (-2), 2) := by decide +kernel
theorem dX8_taken_12 : decode cX8_taken 12 = .ok (.ireturn, 1) := by decide +kernel
theorem dX8_taken_13 : decode cX8_taken 13 = .ok (.aload_n 0, 1) := by decide +kernel
theorem dX8_taken_14 : decode cX8_taken 14 = .ok (.iload_n 1, 1) := by decide +kernel
theorem dX8_taken_15 : decode cX8_taken 15 = .ok (.invokevirtual 94, 3) := by decide +kernel
theorem dX8_taken_18 : decode cX8_taken 18 = .ok (.ifCond .ne 6, 3) := by decide +kernel
theorem dX8_taken_21 : decode cX8_taken 21 = .ok (.bipush (-11), 2) := by decide +kernel
theorem dX8_taken_23 : decode cX8_taken 23 = .ok (.ireturn, 1) := by decide +kernel
theorem dX8_taken_24 : decode cX8_taken 24 = .ok (.aload_n 0, 1) := by decide +kernel
theorem dX8_taken_25 : decode cX8_taken 25 = .ok (.iload_n 1, 1) := by decide +kernel
theorem dX8_taken_26 : decode cX8_taken 26 = .ok (.iconst 0, 1) := by decide +kernel
theorem dX8_taken_27 : decode cX8_taken 27 = .ok (.invokevirtual 82, 3) := by decide +kernel
theorem dX8_taken_30 : decode cX8_taken 30 = .ok (.istore_n 3, 1) := by decide +kernel
theorem dX8_taken_31 : decode cX8_taken 31 = .ok (.iload_n 3, 1) := by decide +kernel
theorem dX8_taken_32 : decode cX8_taken 32 = .ok (.iconst (-1), 1) := by decide +kernel
theorem dX8_taken_33 : decode cX8_taken 33 = .ok (.if_icmp .eq 18, 3) := by decide +kernel
theorem dX8_taken_36 : decode cX8_taken 36 = .ok (.iload_n 3, 1) := by decide +kernel
theorem dX8_taken_37 : decode cX8_taken 37 = .ok (.iload_n 2, 1) := by decide +kernel
theorem dX8_taken_38 : decode cX8_taken 38 = .ok (.if_icmp .eq 13, 3) := by decide +kernel
theorem dX8_taken_41 : decode cX8_taken 41 = .ok (.aload_n 0, 1) := by decide +kernel
theorem dX8_taken_42 : decode cX8_taken 42 = .ok (.getfield 52, 3) := by decide +kernel
theorem dX8_taken_45 : decode cX8_taken 45 = .ok (.iload_n 3, 1) := by decide +kernel
theorem dX8_taken_46 : decode cX8_taken 46 = .ok (.iaload, 1) := by decide +kernel
theorem dX8_taken_47 : decode cX8_taken 47 = .ok (.istore_n 3, 1) := by decide +kernel
theorem dX8_taken_48 : decode cX8_taken 48 = .ok (.goto (-17), 3) := by decide +kernel
theorem dX8_taken_51 : decode cX8_taken 51 = .ok (.iload_n 3, 1) := by decide +kernel
theorem dX8_taken_52 : decode cX8_taken 52 = .ok (.iload_n 2, 1) := by decide +kernel
theorem dX8_taken_53 : decode cX8_taken 53 = .ok (.if_icmp .ne 12, 3) := by decide +kernel
theorem dX8_taken_56 : decode cX8_taken 56 = .ok (.aload_n 0, 1) := by decide +kernel
theorem dX8_taken_57 : decode cX8_taken 57 = .ok (.iload_n 1, 1) := by decide +kernel
theorem dX8_taken_58 : decode cX8_taken 58 = .ok (.iconst 0, 1) := by decide +kernel
theorem dX8_taken_59 : decode cX8_taken 59 = .ok (.invokevirtual 82, 3) := by decide +kernel
theorem dX8_taken_62 : decode cX8_taken 62 = .ok (.goto 5, 3) := by decide +kernel
theorem dX8_taken_65 : decode cX8_taken 65 = .ok (.bipush (-12), 2) := by decide +kernel
theorem dX8_taken_67 : decode cX8_taken 67 = .ok (.ireturn, 1) := by decide +kernel
theorem dX8_count_0 : decode cX8_count 0 = .ok (.iload_n 1, 1) := by decide +kernel
theorem dX8_count_1 : decode cX8_count 1 = .ok (.tableswitch 90 0 6 #[43, 51, 56, 64, 72, 80, 85], 43) := by decide +kernel
theorem dX8_count_44 : decode cX8_count 44 = .ok (.aload_n 0, 1) := by decide +kernel
theorem dX8_count_45 : decode cX8_count 45 = .ok (.getfield 9, 3) := by decide +kernel
theorem dX8_count_48 : decode cX8_count 48 = .ok (.bipush 76, 2) := by decide +kernel
theorem dX8_count_50 : decode cX8_count 50 = .ok (.iaload, 1) := by decide +kernel
theorem dX8_count_51 : decode cX8_count 51 = .ok (.ireturn, 1) := by decide +kernel
theorem dX8_count_52 : decode cX8_count 52 = .ok (.aload_n 0, 1) := by decide +kernel
theorem dX8_count_53 : decode cX8_count 53 = .ok (.getfield 179, 3) := by decide +kernel
theorem dX8_count_56 : decode cX8_count 56 = .ok (.ireturn, 1) := by decide +kernel
theorem dX8_count_57 : decode cX8_count 57 = .ok (.aload_n 0, 1) := by decide +kernel
theorem dX8_count_58 : decode cX8_count 58 = .ok (.getfield 9, 3) := by decide +kernel
theorem dX8_count_61 : decode cX8_count 61 = .ok (.bipush 79, 2) := by decide +kernel
theorem dX8_count_63 : decode cX8_count 63 = .ok (.iaload, 1) := by decide +kernel
theorem dX8_count_64 : decode cX8_count 64 = .ok (.ireturn, 1) := by decide +kernel
theorem dX8_count_65 : decode cX8_count 65 = .ok (.aload_n 0, 1) := by decide +kernel
theorem dX8_count_66 : decode cX8_count 66 = .ok (.getfield 9, 3) := by decide +kernel
theorem dX8_count_69 : decode cX8_count 69 = .ok (.bipush 95, 2) := by decide +kernel
theorem dX8_count_71 : decode cX8_count 71 = .ok (.iaload, 1) := by decide +kernel
theorem dX8_count_72 : decode cX8_count 72 = .ok (.ireturn, 1) := by decide +kernel
theorem dX8_count_73 : decode cX8_count 73 = .ok (.aload_n 0, 1) := by decide +kernel
theorem dX8_count_74 : decode cX8_count 74 = .ok (.getfield 9, 3) := by decide +kernel
theorem dX8_count_77 : decode cX8_count 77 = .ok (.bipush 116, 2) := by decide +kernel
theorem dX8_count_79 : decode cX8_count 79 = .ok (.iaload, 1) := by decide +kernel
theorem dX8_count_80 : decode cX8_count 80 = .ok (.ireturn, 1) := by decide +kernel
theorem dX8_count_81 : decode cX8_count 81 = .ok (.aload_n 0, 1) := by decide +kernel
theorem dX8_count_82 : decode cX8_count 82 = .ok (.getfield 121, 3) := by decide +kernel
theorem dX8_count_85 : decode cX8_count 85 = .ok (.ireturn, 1) := by decide +kernel
theorem dX8_count_86 : decode cX8_count 86 = .ok (.aload_n 0, 1) := by decide +kernel
theorem dX8_count_87 : decode cX8_count 87 = .ok (.getfield 255, 3) := by decide +kernel
theorem dX8_count_90 : decode cX8_count 90 = .ok (.ireturn, 1) := by decide +kernel
theorem dX8_count_91 : decode cX8_count 91 = .ok (.bipush (-2), 2) := by decide +kernel
theorem dX8_count_93 : decode cX8_count 93 = .ok (.ireturn, 1) := by decide +kernel
theorem dX8_isTape_0 : decode cX8_isTape 0 = .ok (.iload_n 0, 1) := by decide +kernel
theorem dX8_isTape_1 : decode cX8_isTape 1 = .ok (.iconst 0, 1) := by decide +kernel
theorem dX8_isTape_2 : decode cX8_isTape 2 = .ok (.iconst 5, 1) := by decide +kernel
theorem dX8_isTape_3 : decode cX8_isTape 3 = .ok (.invokestatic 78, 3) := by decide +kernel
theorem dX8_isTape_6 : decode cX8_isTape 6 = .ok (.ireturn, 1) := by decide +kernel
theorem dX8_tape_0 : decode cX8_tape 0 = .ok (.iload_n 1, 1) := by decide +kernel
theorem dX8_tape_1 : decode cX8_tape 1 = .ok (.invokestatic 267, 3) := by decide +kernel
theorem dX8_tape_4 : decode cX8_tape 4 = .ok (.ifCond .ne 5, 3) := by decide +kernel
theorem dX8_tape_7 : decode cX8_tape 7 = .ok (.iconst (-1), 1) := by decide +kernel
theorem dX8_tape_8 : decode cX8_tape 8 = .ok (.ireturn, 1) := by decide +kernel
theorem dX8_tape_9 : decode cX8_tape 9 = .ok (.iload_n 2, 1) := by decide +kernel
theorem dX8_tape_10 : decode cX8_tape 10 = .ok (.iconst (-1), 1) := by decide +kernel
theorem dX8_tape_11 : decode cX8_tape 11 = .ok (.iconst 4, 1) := by decide +kernel
theorem dX8_tape_12 : decode cX8_tape 12 = .ok (.invokestatic 78, 3) := by decide +kernel
theorem dX8_tape_15 : decode cX8_tape 15 = .ok (.ifCond .eq 13, 3) := by decide +kernel
theorem dX8_tape_18 : decode cX8_tape 18 = .ok (.iload_n 2, 1) := by decide +kernel
theorem dX8_tape_19 : decode cX8_tape 19 = .ok (.ifCond .lt 12, 3) := by decide +kernel
theorem dX8_tape_22 : decode cX8_tape 22 = .ok (.iload_n 3, 1) := by decide +kernel
theorem dX8_tape_23 : decode cX8_tape 23 = .ok (.bipush 60, 2) := by decide +kernel
theorem dX8_tape_25 : decode cX8_tape 25 = .ok (.if_icmp .le 6, 3) := by decide +kernel
theorem dX8_tape_28 : decode cX8_tape 28 = .ok (.bipush (-2), 2) := by decide +kernel
theorem dX8_tape_30 : decode cX8_tape 30 = .ok (.ireturn, 1) := by decide +kernel
theorem dX8_tape_31 : decode cX8_tape 31 = .ok (.iload_n 2, 1) := by decide +kernel
theorem dX8_tape_32 : decode cX8_tape 32 = .ok (.ifCond .lt 10, 3) := by decide +kernel
theorem dX8_tape_35 : decode cX8_tape 35 = .ok (.iload_n 3, 1) := by decide +kernel
theorem dX8_tape_36 : decode cX8_tape 36 = .ok (.ifCond .ge 6, 3) := by decide +kernel
theorem dX8_tape_39 : decode cX8_tape 39 = .ok (.bipush (-14), 2) := by decide +kernel
theorem dX8_tape_41 : decode cX8_tape 41 = .ok (.ireturn, 1) := by decide +kernel
theorem dX8_tape_42 : decode cX8_tape 42 = .ok (.aload_n 0, 1) := by decide +kernel
theorem dX8_tape_43 : decode cX8_tape 43 = .ok (.getfield 61, 3) := by decide +kernel
theorem dX8_tape_46 : decode cX8_tape 46 = .ok (.iload_n 1, 1) := by decide +kernel
theorem dX8_tape_47 : decode cX8_tape 47 = .ok (.iload_n 2, 1) := by decide +kernel
theorem dX8_tape_48 : decode cX8_tape 48 = .ok (.iastore, 1) := by decide +kernel
theorem dX8_tape_49 : decode cX8_tape 49 = .ok (.aload_n 0, 1) := by decide +kernel
theorem dX8_tape_50 : decode cX8_tape 50 = .ok (.getfield 64, 3) := by decide +kernel
theorem dX8_tape_53 : decode cX8_tape 53 = .ok (.iload_n 1, 1) := by decide +kernel
theorem dX8_tape_54 : decode cX8_tape 54 = .ok (.iload_n 2, 1) := by decide +kernel
theorem dX8_tape_55 : decode cX8_tape 55 = .ok (.ifCond .ge 7, 3) := by decide +kernel
theorem dX8_tape_58 : decode cX8_tape 58 = .ok (.iconst 0, 1) := by decide +kernel
theorem dX8_tape_59 : decode cX8_tape 59 = .ok (.goto 4, 3) := by decide +kernel
theorem dX8_tape_62 : decode cX8_tape 62 = .ok (.iload_n 3, 1) := by decide +kernel
theorem dX8_tape_63 : decode cX8_tape 63 = .ok (.iastore, 1) := by decide +kernel
theorem dX8_tape_64 : decode cX8_tape 64 = .ok (.iconst 0, 1) := by decide +kernel
theorem dX8_tape_65 : decode cX8_tape 65 = .ok (.istore 4, 2) := by decide +kernel
theorem dX8_tape_67 : decode cX8_tape 67 = .ok (.iload 4, 2) := by decide +kernel
theorem dX8_tape_69 : decode cX8_tape 69 = .ok (.bipush 60, 2) := by decide +kernel
theorem dX8_tape_71 : decode cX8_tape 71 = .ok (.if_icmp .ge 22, 3) := by decide +kernel
theorem dX8_tape_74 : decode cX8_tape 74 = .ok (.aload_n 0, 1) := by decide +kernel
theorem dX8_tape_75 : decode cX8_tape 75 = .ok (.getfield 67, 3) := by decide +kernel
theorem dX8_tape_78 : decode cX8_tape 78 = .ok (.bipush 60, 2) := by decide +kernel
theorem dX8_tape_80 : decode cX8_tape 80 = .ok (.iload_n 1, 1) := by decide +kernel
theorem dX8_tape_81 : decode cX8_tape 81 = .ok (.imul, 1) := by decide +kernel
theorem dX8_tape_82 : decode cX8_tape 82 = .ok (.iload 4, 2) := by decide +kernel
theorem dX8_tape_84 : decode cX8_tape 84 = .ok (.iadd, 1) := by decide +kernel
theorem dX8_tape_85 : decode cX8_tape 85 = .ok (.lconst 0, 1) := by decide +kernel
theorem dX8_tape_86 : decode cX8_tape 86 = .ok (.lastore, 1) := by decide +kernel
theorem dX8_tape_87 : decode cX8_tape 87 = .ok (.iinc 4 1, 3) := by decide +kernel
theorem dX8_tape_90 : decode cX8_tape 90 = .ok (.goto (-23), 3) := by decide +kernel
theorem dX8_tape_93 : decode cX8_tape 93 = .ok (.iconst 1, 1) := by decide +kernel
theorem dX8_tape_94 : decode cX8_tape 94 = .ok (.ireturn, 1) := by decide +kernel
theorem dX8_item_0 : decode cX8_item 0 = .ok (.iload_n 1, 1) := by decide +kernel
theorem dX8_item_1 : decode cX8_item 1 = .ok (.invokestatic 267, 3) := by decide +kernel
theorem dX8_item_4 : decode cX8_item 4 = .ok (.ifCond .ne 5, 3) := by decide +kernel
theorem dX8_item_7 : decode cX8_item 7 = .ok (.iconst (-1), 1) := by decide +kernel
theorem dX8_item_8 : decode cX8_item 8 = .ok (.ireturn, 1) := by decide +kernel
theorem dX8_item_9 : decode cX8_item 9 = .ok (.aload_n 0, 1) := by decide +kernel
theorem dX8_item_10 : decode cX8_item 10 = .ok (.getfield 61, 3) := by decide +kernel
theorem dX8_item_13 : decode cX8_item 13 = .ok (.iload_n 1, 1) := by decide +kernel
theorem dX8_item_14 : decode cX8_item 14 = .ok (.iaload, 1) := by decide +kernel
theorem dX8_item_15 : decode cX8_item 15 = .ok (.ifCond .ge 6, 3) := by decide +kernel
theorem dX8_item_18 : decode cX8_item 18 = .ok (.bipush (-11), 2) := by decide +kernel
theorem dX8_item_20 : decode cX8_item 20 = .ok (.ireturn, 1) := by decide +kernel
theorem dX8_item_21 : decode cX8_item 21 = .ok (.iload_n 2, 1) := by decide +kernel
theorem dX8_item_22 : decode cX8_item 22 = .ok (.iconst 0, 1) := by decide +kernel
theorem dX8_item_23 : decode cX8_item 23 = .ok (.aload_n 0, 1) := by decide +kernel
theorem dX8_item_24 : decode cX8_item 24 = .ok (.getfield 64, 3) := by decide +kernel
theorem dX8_item_27 : decode cX8_item 27 = .ok (.iload_n 1, 1) := by decide +kernel
theorem dX8_item_28 : decode cX8_item 28 = .ok (.iaload, 1) := by decide +kernel
theorem dX8_item_29 : decode cX8_item 29 = .ok (.iconst 1, 1) := by decide +kernel
theorem dX8_item_30 : decode cX8_item 30 = .ok (.isub, 1) := by decide +kernel
theorem dX8_item_31 : decode cX8_item 31 = .ok (.invokestatic 78, 3) := by decide +kernel
theorem dX8_item_34 : decode cX8_item 34 = .ok (.ifCond .ne 6, 3) := by decide +kernel
theorem dX8_item_37 : decode cX8_item 37 = .ok (.bipush (-13), 2) := by decide +kernel
theorem dX8_item_39 : decode cX8_item 39 = .ok (.ireturn, 1) := by decide +kernel
theorem dX8_item_40 : decode cX8_item 40 = .ok (.aload_n 0, 1) := by decide +kernel
theorem dX8_item_41 : decode cX8_item 41 = .ok (.getfield 61, 3) := by decide +kernel
theorem dX8_item_44 : decode cX8_item 44 = .ok (.iload_n 1, 1) := by decide +kernel
theorem dX8_item_45 : decode cX8_item 45 = .ok (.iaload, 1) := by decide +kernel
theorem dX8_item_46 : decode cX8_item 46 = .ok (.istore 5, 2) := by decide +kernel
theorem dX8_item_48 : decode cX8_item 48 = .ok (.aload_n 0, 1) := by decide +kernel
theorem dX8_item_49 : decode cX8_item 49 = .ok (.getfield 67, 3) := by decide +kernel
theorem dX8_item_52 : decode cX8_item 52 = .ok (.bipush 60, 2) := by decide +kernel
theorem dX8_item_54 : decode cX8_item 54 = .ok (.iload_n 1, 1) := by decide +kernel
theorem dX8_item_55 : decode cX8_item 55 = .ok (.imul, 1) := by decide +kernel
theorem dX8_item_56 : decode cX8_item 56 = .ok (.iload_n 2, 1) := by decide +kernel
theorem dX8_item_57 : decode cX8_item 57 = .ok (.iadd, 1) := by decide +kernel
theorem dX8_item_58 : decode cX8_item 58 = .ok (.iload 5, 2) := by decide +kernel
theorem dX8_item_60 : decode cX8_item 60 = .ok (.ifCond .ne 10, 3) := by decide +kernel
theorem dX8_item_63 : decode cX8_item 63 = .ok (.lload_n 3, 1) := by decide +kernel
theorem dX8_item_64 : decode cX8_item 64 = .ok (.l2i, 1) := by decide +kernel
theorem dX8_item_65 : decode cX8_item 65 = .ok (.i2b, 1) := by decide +kernel
theorem dX8_item_66 : decode cX8_item 66 = .ok (.i2l, 1) := by decide +kernel
theorem dX8_item_67 : decode cX8_item 67 = .ok (.goto 49, 3) := by decide +kernel
theorem dX8_item_70 : decode cX8_item 70 = .ok (.iload 5, 2) := by decide +kernel
theorem dX8_item_72 : decode cX8_item 72 = .ok (.iconst 1, 1) := by decide +kernel
theorem dX8_item_73 : decode cX8_item 73 = .ok (.if_icmp .ne 10, 3) := by decide +kernel
theorem dX8_item_76 : decode cX8_item 76 = .ok (.lload_n 3, 1) := by decide +kernel
theorem dX8_item_77 : decode cX8_item 77 = .ok (.l2i, 1) := by decide +kernel
theorem dX8_item_78 : decode cX8_item 78 = .ok (.i2s, 1) := by decide +kernel
theorem dX8_item_79 : decode cX8_item 79 = .ok (.i2l, 1) := by decide +kernel
theorem dX8_item_80 : decode cX8_item 80 = .ok (.goto 36, 3) := by decide +kernel
theorem dX8_item_83 : decode cX8_item 83 = .ok (.iload 5, 2) := by decide +kernel
theorem dX8_item_85 : decode cX8_item 85 = .ok (.iconst 2, 1) := by decide +kernel
theorem dX8_item_86 : decode cX8_item 86 = .ok (.if_icmp .ne 9, 3) := by decide +kernel
theorem dX8_item_89 : decode cX8_item 89 = .ok (.lload_n 3, 1) := by decide +kernel
theorem dX8_item_90 : decode cX8_item 90 = .ok (.l2i, 1) := by decide +kernel
theorem dX8_item_91 : decode cX8_item 91 = .ok (.i2l, 1) := by decide +kernel
theorem dX8_item_92 : decode cX8_item 92 = .ok (.goto 24, 3) := by decide +kernel
theorem dX8_item_95 : decode cX8_item 95 = .ok (.iload 5, 2) := by decide +kernel
theorem dX8_item_97 : decode cX8_item 97 = .ok (.iconst 3, 1) := by decide +kernel
theorem dX8_item_98 : decode cX8_item 98 = .ok (.if_icmp .ne 7, 3) := by decide +kernel
theorem dX8_item_101 : decode cX8_item 101 = .ok (.lload_n 3, 1) := by decide +kernel
theorem dX8_item_102 : decode cX8_item 102 = .ok (.goto 14, 3) := by decide +kernel
theorem dX8_item_105 : decode cX8_item 105 = .ok (.lload_n 3, 1) := by decide +kernel
theorem dX8_item_106 : decode cX8_item 106 = .ok (.lconst 0, 1) := by decide +kernel
theorem dX8_item_107 : decode cX8_item 107 = .ok (.lcmp, 1) := by decide +kernel
theorem dX8_item_108 : decode cX8_item 108 = .ok (.ifCond .eq 7, 3) := by decide +kernel
theorem dX8_item_111 : decode cX8_item 111 = .ok (.lconst 1, 1) := by decide +kernel
theorem dX8_item_112 : decode cX8_item 112 = .ok (.goto 4, 3) := by decide +kernel
theorem dX8_item_115 : decode cX8_item 115 = .ok (.lconst 0, 1) := by decide +kernel
theorem dX8_item_116 : decode cX8_item 116 = .ok (.lastore, 1) := by decide +kernel
theorem dX8_item_117 : decode cX8_item 117 = .ok (.iconst 1, 1) := by decide +kernel
theorem dX8_item_118 : decode cX8_item 118 = .ok (.ireturn, 1) := by decide +kernel
theorem dX8_read_0 : decode cX8_read 0 = .ok (.iload_n 1, 1) := by decide +kernel
theorem dX8_read_1 : decode cX8_read 1 = .ok (.invokestatic 267, 3) := by decide +kernel
theorem dX8_read_4 : decode cX8_read 4 = .ok (.ifCond .eq 33, 3) := by decide +kernel
theorem dX8_read_7 : decode cX8_read 7 = .ok (.iload_n 2, 1) := by decide +kernel
theorem dX8_read_8 : decode cX8_read 8 = .ok (.iconst 0, 1) := by decide +kernel
theorem dX8_read_9 : decode cX8_read 9 = .ok (.aload_n 0, 1) := by decide +kernel
theorem dX8_read_10 : decode cX8_read 10 = .ok (.getfield 64, 3) := by decide +kernel
theorem dX8_read_13 : decode cX8_read 13 = .ok (.iload_n 1, 1) := by decide +kernel
theorem dX8_read_14 : decode cX8_read 14 = .ok (.iaload, 1) := by decide +kernel
theorem dX8_read_15 : decode cX8_read 15 = .ok (.iconst 1, 1) := by decide +kernel
theorem dX8_read_16 : decode cX8_read 16 = .ok (.isub, 1) := by decide +kernel
theorem dX8_read_17 : decode cX8_read 17 = .ok (.invokestatic 78, 3) := by decide +kernel
theorem dX8_read_20 : decode cX8_read 20 = .ok (.ifCond .eq 17, 3) := by decide +kernel
theorem dX8_read_23 : decode cX8_read 23 = .ok (.aload_n 0, 1) := by decide +kernel
theorem dX8_read_24 : decode cX8_read 24 = .ok (.getfield 67, 3) := by decide +kernel
theorem dX8_read_27 : decode cX8_read 27 = .ok (.bipush 60, 2) := by decide +kernel
theorem dX8_read_29 : decode cX8_read 29 = .ok (.iload_n 1, 1) := by decide +kernel
theorem dX8_read_30 : decode cX8_read 30 = .ok (.imul, 1) := by decide +kernel
theorem dX8_read_31 : decode cX8_read 31 = .ok (.iload_n 2, 1) := by decide +kernel
theorem dX8_read_32 : decode cX8_read 32 = .ok (.iadd, 1) := by decide +kernel
theorem dX8_read_33 : decode cX8_read 33 = .ok (.laload, 1) := by decide +kernel
theorem dX8_read_34 : decode cX8_read 34 = .ok (.goto 6, 3) := by decide +kernel
theorem dX8_read_37 : decode cX8_read 37 = .ok (.ldc2_w 247, 3) := by decide +kernel
theorem dX8_read_40 : decode cX8_read 40 = .ok (.lreturn, 1) := by decide +kernel
theorem dX8_shift_0 : decode cX8_shift 0 = .ok (.iload_n 1, 1) := by decide +kernel
theorem dX8_shift_1 : decode cX8_shift 1 = .ok (.invokestatic 267, 3) := by decide +kernel
theorem dX8_shift_4 : decode cX8_shift 4 = .ok (.ifCond .eq 10, 3) := by decide +kernel
theorem dX8_shift_7 : decode cX8_shift 7 = .ok (.iload_n 3, 1) := by decide +kernel
theorem dX8_shift_8 : decode cX8_shift 8 = .ok (.invokestatic 267, 3) := by decide +kernel
theorem dX8_shift_11 : decode cX8_shift 11 = .ok (.ifCond .ne 5, 3) := by decide +kernel
theorem dX8_shift_14 : decode cX8_shift 14 = .ok (.iconst (-1), 1) := by decide +kernel
theorem dX8_shift_15 : decode cX8_shift 15 = .ok (.ireturn, 1) := by decide +kernel
theorem dX8_shift_16 : decode cX8_shift 16 = .ok (.aload_n 0, 1) := by decide +kernel
theorem dX8_shift_17 : decode cX8_shift 17 = .ok (.getfield 61, 3) := by decide +kernel
theorem dX8_shift_20 : decode cX8_shift 20 = .ok (.iload_n 1, 1) := by decide +kernel
theorem dX8_shift_21 : decode cX8_shift 21 = .ok (.iaload, 1) := by decide +kernel
theorem dX8_shift_22 : decode cX8_shift 22 = .ok (.ifCond .lt 12, 3) := by decide +kernel
theorem dX8_shift_25 : decode cX8_shift 25 = .ok (.aload_n 0, 1) := by decide +kernel
theorem dX8_shift_26 : decode cX8_shift 26 = .ok (.getfield 61, 3) := by decide +kernel
theorem dX8_shift_29 : decode cX8_shift 29 = .ok (.iload_n 3, 1) := by decide +kernel
theorem dX8_shift_30 : decode cX8_shift 30 = .ok (.iaload, 1) := by decide +kernel
theorem dX8_shift_31 : decode cX8_shift 31 = .ok (.ifCond .ge 6, 3) := by decide +kernel
theorem dX8_shift_34 : decode cX8_shift 34 = .ok (.bipush (-11), 2) := by decide +kernel
theorem dX8_shift_36 : decode cX8_shift 36 = .ok (.ireturn, 1) := by decide +kernel
theorem dX8_shift_37 : decode cX8_shift 37 = .ok (.aload_n 0, 1) := by decide +kernel
theorem dX8_shift_38 : decode cX8_shift 38 = .ok (.getfield 61, 3) := by decide +kernel
theorem dX8_shift_41 : decode cX8_shift 41 = .ok (.iload_n 1, 1) := by decide +kernel
theorem dX8_shift_42 : decode cX8_shift 42 = .ok (.iaload, 1) := by decide +kernel
theorem dX8_shift_43 : decode cX8_shift 43 = .ok (.aload_n 0, 1) := by decide +kernel
theorem dX8_shift_44 : decode cX8_shift 44 = .ok (.getfield 61, 3) := by decide +kernel
theorem dX8_shift_47 : decode cX8_shift 47 = .ok (.iload_n 3, 1) := by decide +kernel
theorem dX8_shift_48 : decode cX8_shift 48 = .ok (.iaload, 1) := by decide +kernel
theorem dX8_shift_49 : decode cX8_shift 49 = .ok (.if_icmp .eq 6, 3) := by decide +kernel
theorem dX8_shift_52 : decode cX8_shift 52 = .ok (.bipush (-12), 2) := by decide +kernel
theorem dX8_shift_54 : decode cX8_shift 54 = .ok (.ireturn, 1) := by decide +kernel
theorem dX8_shift_55 : decode cX8_shift 55 = .ok (.iload 5, 2) := by decide +kernel
theorem dX8_shift_57 : decode cX8_shift 57 = .ok (.ifCond .lt 39, 3) := by decide +kernel
theorem dX8_shift_60 : decode cX8_shift 60 = .ok (.iload_n 2, 1) := by decide +kernel
theorem dX8_shift_61 : decode cX8_shift 61 = .ok (.ifCond .lt 35, 3) := by decide +kernel
theorem dX8_shift_64 : decode cX8_shift 64 = .ok (.iload 4, 2) := by decide +kernel
theorem dX8_shift_66 : decode cX8_shift 66 = .ok (.ifCond .lt 30, 3) := by decide +kernel
theorem dX8_shift_69 : decode cX8_shift 69 = .ok (.iload 5, 2) := by decide +kernel
theorem dX8_shift_71 : decode cX8_shift 71 = .ok (.aload_n 0, 1) := by decide +kernel
theorem dX8_shift_72 : decode cX8_shift 72 = .ok (.getfield 64, 3) := by decide +kernel
theorem dX8_shift_75 : decode cX8_shift 75 = .ok (.iload_n 1, 1) := by decide +kernel
theorem dX8_shift_76 : decode cX8_shift 76 = .ok (.iaload, 1) := by decide +kernel
theorem dX8_shift_77 : decode cX8_shift 77 = .ok (.iload_n 2, 1) := by decide +kernel
theorem dX8_shift_78 : decode cX8_shift 78 = .ok (.isub, 1) := by decide +kernel
theorem dX8_shift_79 : decode cX8_shift 79 = .ok (.if_icmp .gt 17, 3) := by decide +kernel
theorem dX8_shift_82 : decode cX8_shift 82 = .ok (.iload 5, 2) := by decide +kernel
theorem dX8_shift_84 : decode cX8_shift 84 = .ok (.aload_n 0, 1) := by decide +kernel
theorem dX8_shift_85 : decode cX8_shift 85 = .ok (.getfield 64, 3) := by decide +kernel
theorem dX8_shift_88 : decode cX8_shift 88 = .ok (.iload_n 3, 1) := by decide +kernel
theorem dX8_shift_89 : decode cX8_shift 89 = .ok (.iaload, 1) := by decide +kernel
theorem dX8_shift_90 : decode cX8_shift 90 = .ok (.iload 4, 2) := by decide +kernel
theorem dX8_shift_92 : decode cX8_shift 92 = .ok (.isub, 1) := by decide +kernel
theorem dX8_shift_93 : decode cX8_shift 93 = .ok (.if_icmp .le 6, 3) := by decide +kernel
theorem dX8_shift_96 : decode cX8_shift 96 = .ok (.bipush (-13), 2) := by decide +kernel
theorem dX8_shift_98 : decode cX8_shift 98 = .ok (.ireturn, 1) := by decide +kernel
theorem dX8_shift_99 : decode cX8_shift 99 = .ok (.iconst 0, 1) := by decide +kernel
theorem dX8_shift_100 : decode cX8_shift 100 = .ok (.istore 6, 2) := by decide +kernel
theorem dX8_shift_102 : decode cX8_shift 102 = .ok (.iload 6, 2) := by decide +kernel
theorem dX8_shift_104 : decode cX8_shift 104 = .ok (.iload 5, 2) := by decide +kernel
theorem dX8_shift_106 : decode cX8_shift 106 = .ok (.if_icmp .ge 30, 3) := by decide +kernel
theorem dX8_shift_109 : decode cX8_shift 109 = .ok (.aload_n 0, 1) := by decide +kernel
theorem dX8_shift_110 : decode cX8_shift 110 = .ok (.getfield 71, 3) := by decide +kernel
theorem dX8_shift_113 : decode cX8_shift 113 = .ok (.iload 6, 2) := by decide +kernel
theorem dX8_shift_115 : decode cX8_shift 115 = .ok (.aload_n 0, 1) := by decide +kernel
theorem dX8_shift_116 : decode cX8_shift 116 = .ok (.getfield 67, 3) := by decide +kernel
theorem dX8_shift_119 : decode cX8_shift 119 = .ok (.bipush 60, 2) := by decide +kernel
theorem dX8_shift_121 : decode cX8_shift 121 = .ok (.iload_n 1, 1) := by decide +kernel
theorem dX8_shift_122 : decode cX8_shift 122 = .ok (.imul, 1) := by decide +kernel
theorem dX8_shift_123 : decode cX8_shift 123 = .ok (.iload_n 2, 1) := by decide +kernel
theorem dX8_shift_124 : decode cX8_shift 124 = .ok (.iadd, 1) := by decide +kernel
theorem dX8_shift_125 : decode cX8_shift 125 = .ok (.iload 6, 2) := by decide +kernel
theorem dX8_shift_127 : decode cX8_shift 127 = .ok (.iadd, 1) := by decide +kernel
theorem dX8_shift_128 : decode cX8_shift 128 = .ok (.laload, 1) := by decide +kernel
theorem dX8_shift_129 : decode cX8_shift 129 = .ok (.lastore, 1) := by decide +kernel
theorem dX8_shift_130 : decode cX8_shift 130 = .ok (.iinc 6 1, 3) := by decide +kernel
theorem dX8_shift_133 : decode cX8_shift 133 = .ok (.goto (-31), 3) := by decide +kernel
theorem dX8_shift_136 : decode cX8_shift 136 = .ok (.iconst 0, 1) := by decide +kernel
theorem dX8_shift_137 : decode cX8_shift 137 = .ok (.istore 6, 2) := by decide +kernel
theorem dX8_shift_139 : decode cX8_shift 139 = .ok (.iload 6, 2) := by decide +kernel
theorem dX8_shift_141 : decode cX8_shift 141 = .ok (.iload 5, 2) := by decide +kernel
theorem dX8_shift_143 : decode cX8_shift 143 = .ok (.if_icmp .ge 31, 3) := by decide +kernel
theorem dX8_shift_146 : decode cX8_shift 146 = .ok (.aload_n 0, 1) := by decide +kernel
theorem dX8_shift_147 : decode cX8_shift 147 = .ok (.getfield 67, 3) := by decide +kernel
theorem dX8_shift_150 : decode cX8_shift 150 = .ok (.bipush 60, 2) := by decide +kernel
theorem dX8_shift_152 : decode cX8_shift 152 = .ok (.iload_n 3, 1) := by decide +kernel
theorem dX8_shift_153 : decode cX8_shift 153 = .ok (.imul, 1) := by decide +kernel
theorem dX8_shift_154 : decode cX8_shift 154 = .ok (.iload 4, 2) := by decide +kernel
theorem dX8_shift_156 : decode cX8_shift 156 = .ok (.iadd, 1) := by decide +kernel
theorem dX8_shift_157 : decode cX8_shift 157 = .ok (.iload 6, 2) := by decide +kernel
theorem dX8_shift_159 : decode cX8_shift 159 = .ok (.iadd, 1) := by decide +kernel
theorem dX8_shift_160 : decode cX8_shift 160 = .ok (.aload_n 0, 1) := by decide +kernel
theorem dX8_shift_161 : decode cX8_shift 161 = .ok (.getfield 71, 3) := by decide +kernel
theorem dX8_shift_164 : decode cX8_shift 164 = .ok (.iload 6, 2) := by decide +kernel
theorem dX8_shift_166 : decode cX8_shift 166 = .ok (.laload, 1) := by decide +kernel
theorem dX8_shift_167 : decode cX8_shift 167 = .ok (.lastore, 1) := by decide +kernel
theorem dX8_shift_168 : decode cX8_shift 168 = .ok (.iinc 6 1, 3) := by decide +kernel
theorem dX8_shift_171 : decode cX8_shift 171 = .ok (.goto (-32), 3) := by decide +kernel
theorem dX8_shift_174 : decode cX8_shift 174 = .ok (.iload 5, 2) := by decide +kernel
theorem dX8_shift_176 : decode cX8_shift 176 = .ok (.ireturn, 1) := by decide +kernel
theorem dX8_judge_0 : decode cX8_judge 0 = .ok (.iload_n 1, 1) := by decide +kernel
theorem dX8_judge_1 : decode cX8_judge 1 = .ok (.invokestatic 267, 3) := by decide +kernel
theorem dX8_judge_4 : decode cX8_judge 4 = .ok (.ifCond .ne 5, 3) := by decide +kernel
theorem dX8_judge_7 : decode cX8_judge 7 = .ok (.iconst (-1), 1) := by decide +kernel
theorem dX8_judge_8 : decode cX8_judge 8 = .ok (.ireturn, 1) := by decide +kernel
theorem dX8_judge_9 : decode cX8_judge 9 = .ok (.aload_n 0, 1) := by decide +kernel
theorem dX8_judge_10 : decode cX8_judge 10 = .ok (.getfield 61, 3) := by decide +kernel
theorem dX8_judge_13 : decode cX8_judge 13 = .ok (.iload_n 1, 1) := by decide +kernel
theorem dX8_judge_14 : decode cX8_judge 14 = .ok (.iaload, 1) := by decide +kernel
theorem dX8_judge_15 : decode cX8_judge 15 = .ok (.iconst (-1), 1) := by decide +kernel
theorem dX8_judge_16 : decode cX8_judge 16 = .ok (.if_icmp .eq 16, 3) := by decide +kernel
theorem dX8_judge_19 : decode cX8_judge 19 = .ok (.aload_n 0, 1) := by decide +kernel
theorem dX8_judge_20 : decode cX8_judge 20 = .ok (.getfield 61, 3) := by decide +kernel
theorem dX8_judge_23 : decode cX8_judge 23 = .ok (.iload_n 1, 1) := by decide +kernel
theorem dX8_judge_24 : decode cX8_judge 24 = .ok (.iaload, 1) := by decide +kernel
theorem dX8_judge_25 : decode cX8_judge 25 = .ok (.iconst 1, 1) := by decide +kernel
theorem dX8_judge_26 : decode cX8_judge 26 = .ok (.if_icmp .eq 6, 3) := by decide +kernel
theorem dX8_judge_29 : decode cX8_judge 29 = .ok (.bipush (-12), 2) := by decide +kernel
theorem dX8_judge_31 : decode cX8_judge 31 = .ok (.ireturn, 1) := by decide +kernel
theorem dX8_judge_32 : decode cX8_judge 32 = .ok (.iconst 0, 1) := by decide +kernel
theorem dX8_judge_33 : decode cX8_judge 33 = .ok (.istore_n 3, 1) := by decide +kernel
theorem dX8_judge_34 : decode cX8_judge 34 = .ok (.iload_n 3, 1) := by decide +kernel
theorem dX8_judge_35 : decode cX8_judge 35 = .ok (.aload_n 0, 1) := by decide +kernel
theorem dX8_judge_36 : decode cX8_judge 36 = .ok (.getfield 9, 3) := by decide +kernel
theorem dX8_judge_39 : decode cX8_judge 39 = .ok (.bipush 76, 2) := by decide +kernel
theorem dX8_judge_41 : decode cX8_judge 41 = .ok (.iaload, 1) := by decide +kernel
theorem dX8_judge_42 : decode cX8_judge 42 = .ok (.if_icmp .ge 64, 3) := by decide +kernel
theorem dX8_judge_45 : decode cX8_judge 45 = .ok (.iload_n 2, 1) := by decide +kernel
theorem dX8_judge_46 : decode cX8_judge 46 = .ok (.i2l, 1) := by decide +kernel
theorem dX8_judge_47 : decode cX8_judge 47 = .ok (.iload_n 3, 1) := by decide +kernel
theorem dX8_judge_48 : decode cX8_judge 48 = .ok (.i2l, 1) := by decide +kernel
theorem dX8_judge_49 : decode cX8_judge 49 = .ok (.ladd, 1) := by decide +kernel
theorem dX8_judge_50 : decode cX8_judge 50 = .ok (.lstore 4, 2) := by decide +kernel
theorem dX8_judge_52 : decode cX8_judge 52 = .ok (.iload_n 2, 1) := by decide +kernel
theorem dX8_judge_53 : decode cX8_judge 53 = .ok (.ifCond .lt 16, 3) := by decide +kernel
theorem dX8_judge_56 : decode cX8_judge 56 = .ok (.lload 4, 2) := by decide +kernel
theorem dX8_judge_58 : decode cX8_judge 58 = .ok (.aload_n 0, 1) := by decide +kernel
theorem dX8_judge_59 : decode cX8_judge 59 = .ok (.getfield 64, 3) := by decide +kernel
theorem dX8_judge_62 : decode cX8_judge 62 = .ok (.iload_n 1, 1) := by decide +kernel
theorem dX8_judge_63 : decode cX8_judge 63 = .ok (.iaload, 1) := by decide +kernel
theorem dX8_judge_64 : decode cX8_judge 64 = .ok (.i2l, 1) := by decide +kernel
theorem dX8_judge_65 : decode cX8_judge 65 = .ok (.lcmp, 1) := by decide +kernel
theorem dX8_judge_66 : decode cX8_judge 66 = .ok (.ifCond .lt 8, 3) := by decide +kernel
theorem dX8_judge_69 : decode cX8_judge 69 = .ok (.bipush 100, 2) := by decide +kernel
theorem dX8_judge_71 : decode cX8_judge 71 = .ok (.iload_n 3, 1) := by decide +kernel
theorem dX8_judge_72 : decode cX8_judge 72 = .ok (.iadd, 1) := by decide +kernel
theorem dX8_judge_73 : decode cX8_judge 73 = .ok (.ireturn, 1) := by decide +kernel
theorem dX8_judge_74 : decode cX8_judge 74 = .ok (.aload_n 0, 1) := by decide +kernel
theorem dX8_judge_75 : decode cX8_judge 75 = .ok (.getfield 67, 3) := by decide +kernel
theorem dX8_judge_78 : decode cX8_judge 78 = .ok (.bipush 60, 2) := by decide +kernel
theorem dX8_judge_80 : decode cX8_judge 80 = .ok (.iload_n 1, 1) := by decide +kernel
theorem dX8_judge_81 : decode cX8_judge 81 = .ok (.imul, 1) := by decide +kernel
theorem dX8_judge_82 : decode cX8_judge 82 = .ok (.lload 4, 2) := by decide +kernel
theorem dX8_judge_84 : decode cX8_judge 84 = .ok (.l2i, 1) := by decide +kernel
theorem dX8_judge_85 : decode cX8_judge 85 = .ok (.iadd, 1) := by decide +kernel
theorem dX8_judge_86 : decode cX8_judge 86 = .ok (.laload, 1) := by decide +kernel
theorem dX8_judge_87 : decode cX8_judge 87 = .ok (.aload_n 0, 1) := by decide +kernel
theorem dX8_judge_88 : decode cX8_judge 88 = .ok (.iload_n 3, 1) := by decide +kernel
theorem dX8_judge_89 : decode cX8_judge 89 = .ok (.iconst 2, 1) := by decide +kernel
theorem dX8_judge_90 : decode cX8_judge 90 = .ok (.invokevirtual 82, 3) := by decide +kernel
theorem dX8_judge_93 : decode cX8_judge 93 = .ok (.i2l, 1) := by decide +kernel
theorem dX8_judge_94 : decode cX8_judge 94 = .ok (.lcmp, 1) := by decide +kernel
theorem dX8_judge_95 : decode cX8_judge 95 = .ok (.ifCond .eq 5, 3) := by decide +kernel
theorem dX8_judge_98 : decode cX8_judge 98 = .ok (.iload_n 3, 1) := by decide +kernel
theorem dX8_judge_99 : decode cX8_judge 99 = .ok (.ireturn, 1) := by decide +kernel
theorem dX8_judge_100 : decode cX8_judge 100 = .ok (.iinc 3 1, 3) := by decide +kernel
theorem dX8_judge_103 : decode cX8_judge 103 = .ok (.goto (-69), 3) := by decide +kernel
theorem dX8_judge_106 : decode cX8_judge 106 = .ok (.bipush (-5), 2) := by decide +kernel
theorem dX8_judge_108 : decode cX8_judge 108 = .ok (.ireturn, 1) := by decide +kernel
theorem dJ6_bitCount_0f7a4_0 : decode cJ6_bitCount_0f7a4 0 = .ok (.iload_n 0, 1) := by decide +kernel
theorem dJ6_bitCount_0f7a4_1 : decode cJ6_bitCount_0f7a4 1 = .ok (.iload_n 0, 1) := by decide +kernel
theorem dJ6_bitCount_0f7a4_2 : decode cJ6_bitCount_0f7a4 2 = .ok (.iconst 1, 1) := by decide +kernel
theorem dJ6_bitCount_0f7a4_3 : decode cJ6_bitCount_0f7a4 3 = .ok (.iushr, 1) := by decide +kernel
theorem dJ6_bitCount_0f7a4_4 : decode cJ6_bitCount_0f7a4 4 = .ok (.ldc_w 265, 3) := by decide +kernel
theorem dJ6_bitCount_0f7a4_7 : decode cJ6_bitCount_0f7a4 7 = .ok (.iand, 1) := by decide +kernel
theorem dJ6_bitCount_0f7a4_8 : decode cJ6_bitCount_0f7a4 8 = .ok (.isub, 1) := by decide +kernel
theorem dJ6_bitCount_0f7a4_9 : decode cJ6_bitCount_0f7a4 9 = .ok (.istore_n 0, 1) := by decide +kernel
theorem dJ6_bitCount_0f7a4_10 : decode cJ6_bitCount_0f7a4 10 = .ok (.iload_n 0, 1) := by decide +kernel
theorem dJ6_bitCount_0f7a4_11 : decode cJ6_bitCount_0f7a4 11 = .ok (.ldc_w 266, 3) := by decide +kernel
theorem dJ6_bitCount_0f7a4_14 : decode cJ6_bitCount_0f7a4 14 = .ok (.iand, 1) := by decide +kernel
theorem dJ6_bitCount_0f7a4_15 : decode cJ6_bitCount_0f7a4 15 = .ok (.iload_n 0, 1) := by decide +kernel
theorem dJ6_bitCount_0f7a4_16 : decode cJ6_bitCount_0f7a4 16 = .ok (.iconst 2, 1) := by decide +kernel
theorem dJ6_bitCount_0f7a4_17 : decode cJ6_bitCount_0f7a4 17 = .ok (.iushr, 1) := by decide +kernel
theorem dJ6_bitCount_0f7a4_18 : decode cJ6_bitCount_0f7a4 18 = .ok (.ldc_w 266, 3) := by decide +kernel
theorem dJ6_bitCount_0f7a4_21 : decode cJ6_bitCount_0f7a4 21 = .ok (.iand, 1) := by decide +kernel
theorem dJ6_bitCount_0f7a4_22 : decode cJ6_bitCount_0f7a4 22 = .ok (.iadd, 1) := by decide +kernel
theorem dJ6_bitCount_0f7a4_23 : decode cJ6_bitCount_0f7a4 23 = .ok (.istore_n 0, 1) := by decide +kernel
theorem dJ6_bitCount_0f7a4_24 : decode cJ6_bitCount_0f7a4 24 = .ok (.iload_n 0, 1) := by decide +kernel
theorem dJ6_bitCount_0f7a4_25 : decode cJ6_bitCount_0f7a4 25 = .ok (.iload_n 0, 1) := by decide +kernel
theorem dJ6_bitCount_0f7a4_26 : decode cJ6_bitCount_0f7a4 26 = .ok (.iconst 4, 1) := by decide +kernel
theorem dJ6_bitCount_0f7a4_27 : decode cJ6_bitCount_0f7a4 27 = .ok (.iushr, 1) := by decide +kernel
theorem dJ6_bitCount_0f7a4_28 : decode cJ6_bitCount_0f7a4 28 = .ok (.iadd, 1) := by decide +kernel
theorem dJ6_bitCount_0f7a4_29 : decode cJ6_bitCount_0f7a4 29 = .ok (.ldc_w 267, 3) := by decide +kernel
theorem dJ6_bitCount_0f7a4_32 : decode cJ6_bitCount_0f7a4 32 = .ok (.iand, 1) := by decide +kernel
theorem dJ6_bitCount_0f7a4_33 : decode cJ6_bitCount_0f7a4 33 = .ok (.istore_n 0, 1) := by decide +kernel
theorem dJ6_bitCount_0f7a4_34 : decode cJ6_bitCount_0f7a4 34 = .ok (.iload_n 0, 1) := by decide +kernel
theorem dJ6_bitCount_0f7a4_35 : decode cJ6_bitCount_0f7a4 35 = .ok (.iload_n 0, 1) := by decide +kernel
theorem dJ6_bitCount_0f7a4_36 : decode cJ6_bitCount_0f7a4 36 = .ok (.bipush 8, 2) := by decide +kernel
theorem dJ6_bitCount_0f7a4_38 : decode cJ6_bitCount_0f7a4 38 = .ok (.iushr, 1) := by decide +kernel
theorem dJ6_bitCount_0f7a4_39 : decode cJ6_bitCount_0f7a4 39 = .ok (.iadd, 1) := by decide +kernel
theorem dJ6_bitCount_0f7a4_40 : decode cJ6_bitCount_0f7a4 40 = .ok (.istore_n 0, 1) := by decide +kernel
theorem dJ6_bitCount_0f7a4_41 : decode cJ6_bitCount_0f7a4 41 = .ok (.iload_n 0, 1) := by decide +kernel
theorem dJ6_bitCount_0f7a4_42 : decode cJ6_bitCount_0f7a4 42 = .ok (.iload_n 0, 1) := by decide +kernel
theorem dJ6_bitCount_0f7a4_43 : decode cJ6_bitCount_0f7a4 43 = .ok (.bipush 16, 2) := by decide +kernel
theorem dJ6_bitCount_0f7a4_45 : decode cJ6_bitCount_0f7a4 45 = .ok (.iushr, 1) := by decide +kernel
theorem dJ6_bitCount_0f7a4_46 : decode cJ6_bitCount_0f7a4 46 = .ok (.iadd, 1) := by decide +kernel
theorem dJ6_bitCount_0f7a4_47 : decode cJ6_bitCount_0f7a4 47 = .ok (.istore_n 0, 1) := by decide +kernel
theorem dJ6_bitCount_0f7a4_48 : decode cJ6_bitCount_0f7a4 48 = .ok (.iload_n 0, 1) := by decide +kernel
theorem dJ6_bitCount_0f7a4_49 : decode cJ6_bitCount_0f7a4 49 = .ok (.bipush 63, 2) := by decide +kernel
theorem dJ6_bitCount_0f7a4_51 : decode cJ6_bitCount_0f7a4 51 = .ok (.iand, 1) := by decide +kernel
theorem dJ6_bitCount_0f7a4_52 : decode cJ6_bitCount_0f7a4 52 = .ok (.ireturn, 1) := by decide +kernel
theorem dJ9_max_7cf53_0 : decode cJ9_max_7cf53 0 = .ok (.iload_n 0, 1) := by decide +kernel
theorem dJ9_max_7cf53_1 : decode cJ9_max_7cf53 1 = .ok (.iload_n 1, 1) := by decide +kernel
theorem dJ9_max_7cf53_2 : decode cJ9_max_7cf53 2 = .ok (.if_icmp .lt 7, 3) := by decide +kernel
theorem dJ9_max_7cf53_5 : decode cJ9_max_7cf53 5 = .ok (.iload_n 0, 1) := by decide +kernel
theorem dJ9_max_7cf53_6 : decode cJ9_max_7cf53 6 = .ok (.goto 4, 3) := by decide +kernel
theorem dJ9_max_7cf53_9 : decode cJ9_max_7cf53 9 = .ok (.iload_n 1, 1) := by decide +kernel
theorem dJ9_max_7cf53_10 : decode cJ9_max_7cf53 10 = .ok (.ireturn, 1) := by decide +kernel
theorem dJ9_min_7cf53_0 : decode cJ9_min_7cf53 0 = .ok (.iload_n 0, 1) := by decide +kernel
theorem dJ9_min_7cf53_1 : decode cJ9_min_7cf53 1 = .ok (.iload_n 1, 1) := by decide +kernel
theorem dJ9_min_7cf53_2 : decode cJ9_min_7cf53 2 = .ok (.if_icmp .gt 7, 3) := by decide +kernel
theorem dJ9_min_7cf53_5 : decode cJ9_min_7cf53 5 = .ok (.iload_n 0, 1) := by decide +kernel
theorem dJ9_min_7cf53_6 : decode cJ9_min_7cf53 6 = .ok (.goto 4, 3) := by decide +kernel
theorem dJ9_min_7cf53_9 : decode cJ9_min_7cf53 9 = .ok (.iload_n 1, 1) := by decide +kernel
theorem dJ9_min_7cf53_10 : decode cJ9_min_7cf53 10 = .ok (.ireturn, 1) := by decide +kernel
theorem dJ0_length_8abf5_0 : decode cJ0_length_8abf5 0 = .ok (.aload_n 0, 1) := by decide +kernel
theorem dJ0_length_8abf5_1 : decode cJ0_length_8abf5 1 = .ok (.getfield 9, 3) := by decide +kernel
theorem dJ0_length_8abf5_4 : decode cJ0_length_8abf5 4 = .ok (.arraylength, 1) := by decide +kernel
theorem dJ0_length_8abf5_5 : decode cJ0_length_8abf5 5 = .ok (.aload_n 0, 1) := by decide +kernel
theorem dJ0_length_8abf5_6 : decode cJ0_length_8abf5 6 = .ok (.invokevirtual 335, 3) := by decide +kernel
theorem dJ0_length_8abf5_9 : decode cJ0_length_8abf5 9 = .ok (.ishr, 1) := by decide +kernel
theorem dJ0_length_8abf5_10 : decode cJ0_length_8abf5 10 = .ok (.ireturn, 1) := by decide +kernel
theorem dJ0_charAt_5068e_0 : decode cJ0_charAt_5068e 0 = .ok (.aload_n 0, 1) := by decide +kernel
theorem dJ0_charAt_5068e_1 : decode cJ0_charAt_5068e 1 = .ok (.invokevirtual 492, 3) := by decide +kernel
theorem dJ0_charAt_5068e_4 : decode cJ0_charAt_5068e 4 = .ok (.ifCond .eq 12, 3) := by decide +kernel
theorem dJ0_charAt_5068e_7 : decode cJ0_charAt_5068e 7 = .ok (.aload_n 0, 1) := by decide +kernel
theorem dJ0_charAt_5068e_8 : decode cJ0_charAt_5068e 8 = .ok (.getfield 9, 3) := by decide +kernel
theorem dJ0_charAt_5068e_11 : decode cJ0_charAt_5068e 11 = .ok (.iload_n 1, 1) := by decide +kernel
theorem dJ0_charAt_5068e_12 : decode cJ0_charAt_5068e 12 = .ok (.invokestatic 495, 3) := by decide +kernel
theorem dJ0_charAt_5068e_15 : decode cJ0_charAt_5068e 15 = .ok (.ireturn, 1) := by decide +kernel
theorem dJ0_charAt_5068e_16 : decode cJ0_charAt_5068e 16 = .ok (.aload_n 0, 1) := by decide +kernel
theorem dJ0_charAt_5068e_17 : decode cJ0_charAt_5068e 17 = .ok (.getfield 9, 3) := by decide +kernel
theorem dJ0_charAt_5068e_20 : decode cJ0_charAt_5068e 20 = .ok (.iload_n 1, 1) := by decide +kernel
theorem dJ0_charAt_5068e_21 : decode cJ0_charAt_5068e 21 = .ok (.invokestatic 498, 3) := by decide +kernel
theorem dJ0_charAt_5068e_24 : decode cJ0_charAt_5068e 24 = .ok (.ireturn, 1) := by decide +kernel
theorem dJ0_coder_7d493_0 : decode cJ0_coder_7d493 0 = .ok (.getstatic 38, 3) := by decide +kernel
theorem dJ0_coder_7d493_3 : decode cJ0_coder_7d493 3 = .ok (.ifCond .eq 10, 3) := by decide +kernel
theorem dJ0_coder_7d493_6 : decode cJ0_coder_7d493 6 = .ok (.aload_n 0, 1) := by decide +kernel
theorem dJ0_coder_7d493_7 : decode cJ0_coder_7d493 7 = .ok (.getfield 15, 3) := by decide +kernel
theorem dJ0_coder_7d493_10 : decode cJ0_coder_7d493 10 = .ok (.goto 4, 3) := by decide +kernel
theorem dJ0_coder_7d493_13 : decode cJ0_coder_7d493 13 = .ok (.iconst 1, 1) := by decide +kernel
theorem dJ0_coder_7d493_14 : decode cJ0_coder_7d493 14 = .ok (.ireturn, 1) := by decide +kernel
theorem dJ0_isLatin1_aae02_0 : decode cJ0_isLatin1_aae02 0 = .ok (.getstatic 38, 3) := by decide +kernel
theorem dJ0_isLatin1_aae02_3 : decode cJ0_isLatin1_aae02 3 = .ok (.ifCond .eq 14, 3) := by decide +kernel
theorem dJ0_isLatin1_aae02_6 : decode cJ0_isLatin1_aae02 6 = .ok (.aload_n 0, 1) := by decide +kernel
theorem dJ0_isLatin1_aae02_7 : decode cJ0_isLatin1_aae02 7 = .ok (.getfield 15, 3) := by decide +kernel
theorem dJ0_isLatin1_aae02_10 : decode cJ0_isLatin1_aae02 10 = .ok (.ifCond .ne 7, 3) := by decide +kernel
theorem dJ0_isLatin1_aae02_13 : decode cJ0_isLatin1_aae02 13 = .ok (.iconst 1, 1) := by decide +kernel
theorem dJ0_isLatin1_aae02_14 : decode cJ0_isLatin1_aae02 14 = .ok (.goto 4, 3) := by decide +kernel
theorem dJ0_isLatin1_aae02_17 : decode cJ0_isLatin1_aae02 17 = .ok (.iconst 0, 1) := by decide +kernel
theorem dJ0_isLatin1_aae02_18 : decode cJ0_isLatin1_aae02 18 = .ok (.ireturn, 1) := by decide +kernel
theorem dJ0_checkIndex_df160_0 : decode cJ0_checkIndex_df160 0 = .ok (.iload_n 0, 1) := by decide +kernel
theorem dJ0_checkIndex_df160_1 : decode cJ0_checkIndex_df160 1 = .ok (.iload_n 1, 1) := by decide +kernel
theorem dJ0_checkIndex_df160_2 : decode cJ0_checkIndex_df160 2 = .ok (.getstatic 1053, 3) := by decide +kernel
theorem dJ0_checkIndex_df160_5 : decode cJ0_checkIndex_df160 5 = .ok (.invokestatic 1059, 3) := by decide +kernel
theorem dJ0_checkIndex_df160_8 : decode cJ0_checkIndex_df160 8 = .ok (.pop, 1) := by decide +kernel
theorem dJ0_checkIndex_df160_9 : decode cJ0_checkIndex_df160 9 = .ok (.return_, 1) := by decide +kernel
theorem dJ1_charAt_3b067_0 : decode cJ1_charAt_3b067 0 = .ok (.iload_n 1, 1) := by decide +kernel
theorem dJ1_charAt_3b067_1 : decode cJ1_charAt_3b067 1 = .ok (.aload_n 0, 1) := by decide +kernel
theorem dJ1_charAt_3b067_2 : decode cJ1_charAt_3b067 2 = .ok (.arraylength, 1) := by decide +kernel
theorem dJ1_charAt_3b067_3 : decode cJ1_charAt_3b067 3 = .ok (.invokestatic 9, 3) := by decide +kernel
theorem dJ1_charAt_3b067_6 : decode cJ1_charAt_3b067 6 = .ok (.aload_n 0, 1) := by decide +kernel
theorem dJ1_charAt_3b067_7 : decode cJ1_charAt_3b067 7 = .ok (.iload_n 1, 1) := by decide +kernel
theorem dJ1_charAt_3b067_8 : decode cJ1_charAt_3b067 8 = .ok (.baload, 1) := by decide +kernel
theorem dJ1_charAt_3b067_9 : decode cJ1_charAt_3b067 9 = .ok (.sipush 255, 3) := by decide +kernel
theorem dJ1_charAt_3b067_12 : decode cJ1_charAt_3b067 12 = .ok (.iand, 1) := by decide +kernel
theorem dJ1_charAt_3b067_13 : decode cJ1_charAt_3b067 13 = .ok (.i2c, 1) := by decide +kernel
theorem dJ1_charAt_3b067_14 : decode cJ1_charAt_3b067 14 = .ok (.ireturn, 1) := by decide +kernel
theorem dJ2_getChar_3b067_0 : decode cJ2_getChar_3b067 0 = .ok (.getstatic 44, 3) := by decide +kernel
theorem dJ2_getChar_3b067_3 : decode cJ2_getChar_3b067 3 = .ok (.ifCond .ne 25, 3) := by decide +kernel
theorem dJ2_getChar_3b067_6 : decode cJ2_getChar_3b067 6 = .ok (.iload_n 1, 1) := by decide +kernel
theorem dJ2_getChar_3b067_7 : decode cJ2_getChar_3b067 7 = .ok (.ifCond .lt 11, 3) := by decide +kernel
theorem dJ2_getChar_3b067_10 : decode cJ2_getChar_3b067 10 = .ok (.iload_n 1, 1) := by decide +kernel
theorem dJ2_getChar_3b067_11 : decode cJ2_getChar_3b067 11 = .ok (.aload_n 0, 1) := by decide +kernel
theorem dJ2_getChar_3b067_12 : decode cJ2_getChar_3b067 12 = .ok (.invokestatic 48, 3) := by decide +kernel
theorem dJ2_getChar_3b067_15 : decode cJ2_getChar_3b067 15 = .ok (.if_icmp .lt 13, 3) := by decide +kernel
theorem dJ2_getChar_3b067_18 : decode cJ2_getChar_3b067 18 = .ok (.new 52, 3) := by decide +kernel
theorem dJ2_getChar_3b067_21 : decode cJ2_getChar_3b067 21 = .ok (.dup, 1) := by decide +kernel
theorem dJ2_getChar_3b067_22 : decode cJ2_getChar_3b067 22 = .ok (.ldc 54, 2) := by decide +kernel
theorem dJ2_getChar_3b067_24 : decode cJ2_getChar_3b067 24 = .ok (.invokespecial 56, 3) := by decide +kernel
theorem dJ2_getChar_3b067_27 : decode cJ2_getChar_3b067 27 = .ok (.athrow, 1) := by decide +kernel
theorem dJ2_getChar_3b067_28 : decode cJ2_getChar_3b067 28 = .ok (.iload_n 1, 1) := by decide +kernel
theorem dJ2_getChar_3b067_29 : decode cJ2_getChar_3b067 29 = .ok (.iconst 1, 1) := by decide +kernel
theorem dJ2_getChar_3b067_30 : decode cJ2_getChar_3b067 30 = .ok (.ishl, 1) := by decide +kernel
theorem dJ2_getChar_3b067_31 : decode cJ2_getChar_3b067 31 = .ok (.istore_n 1, 1) := by decide +kernel
theorem dJ2_getChar_3b067_32 : decode cJ2_getChar_3b067 32 = .ok (.aload_n 0, 1) := by decide +kernel
theorem dJ2_getChar_3b067_33 : decode cJ2_getChar_3b067 33 = .ok (.iload_n 1, 1) := by decide +kernel
theorem dJ2_getChar_3b067_34 : decode cJ2_getChar_3b067 34 = .ok (.iinc 1 1, 3) := by decide +kernel
theorem dJ2_getChar_3b067_37 : decode cJ2_getChar_3b067 37 = .ok (.baload, 1) := by decide +kernel
theorem dJ2_getChar_3b067_38 : decode cJ2_getChar_3b067 38 = .ok (.sipush 255, 3) := by decide +kernel
theorem dJ2_getChar_3b067_41 : decode cJ2_getChar_3b067 41 = .ok (.iand, 1) := by decide +kernel
theorem dJ2_getChar_3b067_42 : decode cJ2_getChar_3b067 42 = .ok (.getstatic 59, 3) := by decide +kernel
theorem dJ2_getChar_3b067_45 : decode cJ2_getChar_3b067 45 = .ok (.ishl, 1) := by decide +kernel
theorem dJ2_getChar_3b067_46 : decode cJ2_getChar_3b067 46 = .ok (.aload_n 0, 1) := by decide +kernel
theorem dJ2_getChar_3b067_47 : decode cJ2_getChar_3b067 47 = .ok (.iload_n 1, 1) := by decide +kernel
theorem dJ2_getChar_3b067_48 : decode cJ2_getChar_3b067 48 = .ok (.baload, 1) := by decide +kernel
theorem dJ2_getChar_3b067_49 : decode cJ2_getChar_3b067 49 = .ok (.sipush 255, 3) := by decide +kernel
theorem dJ2_getChar_3b067_52 : decode cJ2_getChar_3b067 52 = .ok (.iand, 1) := by decide +kernel
theorem dJ2_getChar_3b067_53 : decode cJ2_getChar_3b067 53 = .ok (.getstatic 63, 3) := by decide +kernel
theorem dJ2_getChar_3b067_56 : decode cJ2_getChar_3b067 56 = .ok (.ishl, 1) := by decide +kernel
theorem dJ2_getChar_3b067_57 : decode cJ2_getChar_3b067 57 = .ok (.ior, 1) := by decide +kernel
theorem dJ2_getChar_3b067_58 : decode cJ2_getChar_3b067 58 = .ok (.i2c, 1) := by decide +kernel
theorem dJ2_getChar_3b067_59 : decode cJ2_getChar_3b067 59 = .ok (.ireturn, 1) := by decide +kernel
theorem dJ2_length_9d52b_0 : decode cJ2_length_9d52b 0 = .ok (.aload_n 0, 1) := by decide +kernel
theorem dJ2_length_9d52b_1 : decode cJ2_length_9d52b 1 = .ok (.arraylength, 1) := by decide +kernel
theorem dJ2_length_9d52b_2 : decode cJ2_length_9d52b 2 = .ok (.iconst 1, 1) := by decide +kernel
theorem dJ2_length_9d52b_3 : decode cJ2_length_9d52b 3 = .ok (.ishr, 1) := by decide +kernel
theorem dJ2_length_9d52b_4 : decode cJ2_length_9d52b 4 = .ok (.ireturn, 1) := by decide +kernel
theorem dJ2_charAt_3b067_0 : decode cJ2_charAt_3b067 0 = .ok (.iload_n 1, 1) := by decide +kernel
theorem dJ2_charAt_3b067_1 : decode cJ2_charAt_3b067 1 = .ok (.aload_n 0, 1) := by decide +kernel
theorem dJ2_charAt_3b067_2 : decode cJ2_charAt_3b067 2 = .ok (.invokestatic 67, 3) := by decide +kernel
theorem dJ2_charAt_3b067_5 : decode cJ2_charAt_3b067 5 = .ok (.aload_n 0, 1) := by decide +kernel
theorem dJ2_charAt_3b067_6 : decode cJ2_charAt_3b067 6 = .ok (.iload_n 1, 1) := by decide +kernel
theorem dJ2_charAt_3b067_7 : decode cJ2_charAt_3b067 7 = .ok (.invokestatic 71, 3) := by decide +kernel
theorem dJ2_charAt_3b067_10 : decode cJ2_charAt_3b067 10 = .ok (.ireturn, 1) := by decide +kernel
theorem dJ2_checkIndex_2214a_0 : decode cJ2_checkIndex_2214a 0 = .ok (.iload_n 0, 1) := by decide +kernel
theorem dJ2_checkIndex_2214a_1 : decode cJ2_checkIndex_2214a 1 = .ok (.aload_n 1, 1) := by decide +kernel
theorem dJ2_checkIndex_2214a_2 : decode cJ2_checkIndex_2214a 2 = .ok (.invokestatic 48, 3) := by decide +kernel
theorem dJ2_checkIndex_2214a_5 : decode cJ2_checkIndex_2214a 5 = .ok (.invokestatic 414, 3) := by decide +kernel
theorem dJ2_checkIndex_2214a_8 : decode cJ2_checkIndex_2214a 8 = .ok (.return_, 1) := by decide +kernel
theorem dJ3_checkIndex_8e157_0 : decode cJ3_checkIndex_8e157 0 = .ok (.iload_n 0, 1) := by decide +kernel
theorem dJ3_checkIndex_8e157_1 : decode cJ3_checkIndex_8e157 1 = .ok (.ifCond .lt 8, 3) := by decide +kernel
theorem dJ3_checkIndex_8e157_4 : decode cJ3_checkIndex_8e157 4 = .ok (.iload_n 0, 1) := by decide +kernel
theorem dJ3_checkIndex_8e157_5 : decode cJ3_checkIndex_8e157 5 = .ok (.iload_n 1, 1) := by decide +kernel
theorem dJ3_checkIndex_8e157_6 : decode cJ3_checkIndex_8e157 6 = .ok (.if_icmp .lt 10, 3) := by decide +kernel
theorem dJ3_checkIndex_8e157_9 : decode cJ3_checkIndex_8e157 9 = .ok (.aload_n 2, 1) := by decide +kernel
theorem dJ3_checkIndex_8e157_10 : decode cJ3_checkIndex_8e157 10 = .ok (.iload_n 0, 1) := by decide +kernel
theorem dJ3_checkIndex_8e157_11 : decode cJ3_checkIndex_8e157 11 = .ok (.iload_n 1, 1) := by decide +kernel
theorem dJ3_checkIndex_8e157_12 : decode cJ3_checkIndex_8e157 12 = .ok (.invokestatic 95, 3) := by decide +kernel
theorem dJ3_checkIndex_8e157_15 : decode cJ3_checkIndex_8e157 15 = .ok (.athrow, 1) := by decide +kernel
theorem dJ3_checkIndex_8e157_16 : decode cJ3_checkIndex_8e157 16 = .ok (.iload_n 0, 1) := by decide +kernel
theorem dJ3_checkIndex_8e157_17 : decode cJ3_checkIndex_8e157 17 = .ok (.ireturn, 1) := by decide +kernel
