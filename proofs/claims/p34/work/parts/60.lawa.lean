/-! PART 60.lawa: printed by wip/gen -/
section GEN
variable {l : Launch} {Y : YT} {D : va_G} {N : Nat} {ad K len : Nat → Nat}
theorem dL_law_18 : decode cL_law 18 = .ok (.iload_n 3, 1) := by decide +kernel
theorem dL_law_19 : decode cL_law 19 = .ok (.aload_n 0, 1) := by decide +kernel
theorem dL_law_20 : decode cL_law 20 = .ok (.arraylength, 1) := by decide +kernel
theorem dL_law_21 : decode cL_law 21 = .ok (.bipush 6, 2) := by decide +kernel
theorem dL_law_23 : decode cL_law 23 = .ok (.isub, 1) := by decide +kernel
theorem dL_law_24 : decode cL_law 24 = .ok (.if_icmp .gt 1239, 3) := by decide +kernel
theorem dL_law_27 : decode cL_law 27 = .ok (.aload_n 0, 1) := by decide +kernel
theorem dL_law_28 : decode cL_law 28 = .ok (.iload_n 3, 1) := by decide +kernel
theorem dL_law_29 : decode cL_law 29 = .ok (.iaload, 1) := by decide +kernel
theorem dL_law_30 : decode cL_law 30 = .ok (.bipush 63, 2) := by decide +kernel
theorem dL_law_32 : decode cL_law 32 = .ok (.iand, 1) := by decide +kernel
theorem dL_law_33 : decode cL_law 33 = .ok (.tableswitch 1224 0 38 #[171, 194, 207, 270, 303, 336, 379, 402, 425, 448, 461, 500, 533, 566, 599, 612, 635, 648, 671, 704, 727, 750, 783, 836, 869, 902, 915, 938, 951, 974, 1007, 1030, 1063, 1076, 1119, 1142, 1175, 1188, 1201], 171) := by decide +kernel
theorem dL_law_204 : decode cL_law 204 = .ok (.aload_n 1, 1) := by decide +kernel
theorem dL_law_205 : decode cL_law 205 = .ok (.aload_n 0, 1) := by decide +kernel
theorem dL_law_206 : decode cL_law 206 = .ok (.iload_n 3, 1) := by decide +kernel
theorem dL_law_207 : decode cL_law 207 = .ok (.iconst 1, 1) := by decide +kernel
theorem dL_law_208 : decode cL_law 208 = .ok (.iadd, 1) := by decide +kernel
theorem dL_law_209 : decode cL_law 209 = .ok (.iaload, 1) := by decide +kernel
theorem dL_law_210 : decode cL_law 210 = .ok (.invokevirtual 13, 3) := by decide +kernel
theorem dL_law_213 : decode cL_law 213 = .ok (.pop, 1) := by decide +kernel
theorem dL_law_214 : decode cL_law 214 = .ok (.aload_n 2, 1) := by decide +kernel
theorem dL_law_215 : decode cL_law 215 = .ok (.aload_n 0, 1) := by decide +kernel
theorem dL_law_216 : decode cL_law 216 = .ok (.iload_n 3, 1) := by decide +kernel
theorem dL_law_217 : decode cL_law 217 = .ok (.iconst 1, 1) := by decide +kernel
theorem dL_law_218 : decode cL_law 218 = .ok (.iadd, 1) := by decide +kernel
theorem dL_law_219 : decode cL_law 219 = .ok (.iaload, 1) := by decide +kernel
theorem dL_law_220 : decode cL_law 220 = .ok (.invokevirtual 17, 3) := by decide +kernel
theorem dL_law_223 : decode cL_law 223 = .ok (.pop, 1) := by decide +kernel
theorem dL_law_224 : decode cL_law 224 = .ok (.goto 1033, 3) := by decide +kernel
theorem dL_law_227 : decode cL_law 227 = .ok (.aload_n 1, 1) := by decide +kernel
theorem dL_law_228 : decode cL_law 228 = .ok (.invokevirtual 18, 3) := by decide +kernel
theorem dL_law_231 : decode cL_law 231 = .ok (.pop, 1) := by decide +kernel
theorem dL_law_232 : decode cL_law 232 = .ok (.aload_n 2, 1) := by decide +kernel
theorem dL_law_233 : decode cL_law 233 = .ok (.invokevirtual 22, 3) := by decide +kernel
theorem dL_law_236 : decode cL_law 236 = .ok (.pop, 1) := by decide +kernel
theorem dL_law_237 : decode cL_law 237 = .ok (.goto 1020, 3) := by decide +kernel
theorem dL_law_240 : decode cL_law 240 = .ok (.aload_n 1, 1) := by decide +kernel
theorem dL_law_241 : decode cL_law 241 = .ok (.aload_n 0, 1) := by decide +kernel
theorem dL_law_242 : decode cL_law 242 = .ok (.iload_n 3, 1) := by decide +kernel
theorem dL_law_243 : decode cL_law 243 = .ok (.iconst 1, 1) := by decide +kernel
theorem dL_law_244 : decode cL_law 244 = .ok (.iadd, 1) := by decide +kernel
theorem dL_law_245 : decode cL_law 245 = .ok (.iaload, 1) := by decide +kernel
theorem dL_law_246 : decode cL_law 246 = .ok (.aload_n 0, 1) := by decide +kernel
theorem dL_law_247 : decode cL_law 247 = .ok (.iload_n 3, 1) := by decide +kernel
theorem dL_law_248 : decode cL_law 248 = .ok (.iconst 2, 1) := by decide +kernel
theorem dL_law_249 : decode cL_law 249 = .ok (.iadd, 1) := by decide +kernel
theorem dL_law_250 : decode cL_law 250 = .ok (.iaload, 1) := by decide +kernel
theorem dL_law_251 : decode cL_law 251 = .ok (.aload_n 0, 1) := by decide +kernel
theorem dL_law_252 : decode cL_law 252 = .ok (.iload_n 3, 1) := by decide +kernel
theorem dL_law_253 : decode cL_law 253 = .ok (.iconst 3, 1) := by decide +kernel
theorem dL_law_254 : decode cL_law 254 = .ok (.iadd, 1) := by decide +kernel
theorem dL_law_255 : decode cL_law 255 = .ok (.iaload, 1) := by decide +kernel
theorem dL_law_256 : decode cL_law 256 = .ok (.aload_n 0, 1) := by decide +kernel
theorem dL_law_257 : decode cL_law 257 = .ok (.iload_n 3, 1) := by decide +kernel
theorem dL_law_258 : decode cL_law 258 = .ok (.iconst 4, 1) := by decide +kernel
theorem dL_law_259 : decode cL_law 259 = .ok (.iadd, 1) := by decide +kernel
theorem dL_law_260 : decode cL_law 260 = .ok (.iaload, 1) := by decide +kernel
theorem dL_law_261 : decode cL_law 261 = .ok (.aload_n 0, 1) := by decide +kernel
theorem dL_law_262 : decode cL_law 262 = .ok (.iload_n 3, 1) := by decide +kernel
theorem dL_law_263 : decode cL_law 263 = .ok (.iconst 5, 1) := by decide +kernel
theorem dL_law_264 : decode cL_law 264 = .ok (.iadd, 1) := by decide +kernel
theorem dL_law_265 : decode cL_law 265 = .ok (.iaload, 1) := by decide +kernel
theorem dL_law_266 : decode cL_law 266 = .ok (.invokevirtual 23, 3) := by decide +kernel
theorem dL_law_269 : decode cL_law 269 = .ok (.pop, 1) := by decide +kernel
theorem dL_law_270 : decode cL_law 270 = .ok (.aload_n 2, 1) := by decide +kernel
theorem dL_law_271 : decode cL_law 271 = .ok (.aload_n 0, 1) := by decide +kernel
theorem dL_law_272 : decode cL_law 272 = .ok (.iload_n 3, 1) := by decide +kernel
theorem dL_law_273 : decode cL_law 273 = .ok (.iconst 1, 1) := by decide +kernel
theorem dL_law_274 : decode cL_law 274 = .ok (.iadd, 1) := by decide +kernel
theorem dL_law_275 : decode cL_law 275 = .ok (.iaload, 1) := by decide +kernel
theorem dL_law_276 : decode cL_law 276 = .ok (.aload_n 0, 1) := by decide +kernel
theorem dL_law_277 : decode cL_law 277 = .ok (.iload_n 3, 1) := by decide +kernel
theorem dL_law_278 : decode cL_law 278 = .ok (.iconst 2, 1) := by decide +kernel
theorem dL_law_279 : decode cL_law 279 = .ok (.iadd, 1) := by decide +kernel
theorem dL_law_280 : decode cL_law 280 = .ok (.iaload, 1) := by decide +kernel
theorem dL_law_281 : decode cL_law 281 = .ok (.aload_n 0, 1) := by decide +kernel
theorem dL_law_282 : decode cL_law 282 = .ok (.iload_n 3, 1) := by decide +kernel
theorem dL_law_283 : decode cL_law 283 = .ok (.iconst 3, 1) := by decide +kernel
theorem dL_law_284 : decode cL_law 284 = .ok (.iadd, 1) := by decide +kernel
theorem dL_law_285 : decode cL_law 285 = .ok (.iaload, 1) := by decide +kernel
theorem dL_law_286 : decode cL_law 286 = .ok (.aload_n 0, 1) := by decide +kernel
theorem dL_law_287 : decode cL_law 287 = .ok (.iload_n 3, 1) := by decide +kernel
theorem dL_law_288 : decode cL_law 288 = .ok (.iconst 4, 1) := by decide +kernel
theorem dL_law_289 : decode cL_law 289 = .ok (.iadd, 1) := by decide +kernel
theorem dL_law_290 : decode cL_law 290 = .ok (.iaload, 1) := by decide +kernel
theorem dL_law_291 : decode cL_law 291 = .ok (.aload_n 0, 1) := by decide +kernel
theorem dL_law_292 : decode cL_law 292 = .ok (.iload_n 3, 1) := by decide +kernel
theorem dL_law_293 : decode cL_law 293 = .ok (.iconst 5, 1) := by decide +kernel
theorem dL_law_294 : decode cL_law 294 = .ok (.iadd, 1) := by decide +kernel
theorem dL_law_295 : decode cL_law 295 = .ok (.iaload, 1) := by decide +kernel
theorem dL_law_296 : decode cL_law 296 = .ok (.invokevirtual 27, 3) := by decide +kernel
theorem dL_law_299 : decode cL_law 299 = .ok (.pop, 1) := by decide +kernel
theorem dL_law_300 : decode cL_law 300 = .ok (.goto 957, 3) := by decide +kernel
theorem dL_law_303 : decode cL_law 303 = .ok (.aload_n 1, 1) := by decide +kernel
theorem dL_law_304 : decode cL_law 304 = .ok (.aload_n 0, 1) := by decide +kernel
theorem dL_law_305 : decode cL_law 305 = .ok (.iload_n 3, 1) := by decide +kernel
theorem dL_law_306 : decode cL_law 306 = .ok (.iconst 1, 1) := by decide +kernel
theorem dL_law_307 : decode cL_law 307 = .ok (.iadd, 1) := by decide +kernel
theorem dL_law_308 : decode cL_law 308 = .ok (.iaload, 1) := by decide +kernel
theorem dL_law_309 : decode cL_law 309 = .ok (.aload_n 0, 1) := by decide +kernel
theorem dL_law_310 : decode cL_law 310 = .ok (.iload_n 3, 1) := by decide +kernel
theorem dL_law_311 : decode cL_law 311 = .ok (.iconst 2, 1) := by decide +kernel
theorem dL_law_312 : decode cL_law 312 = .ok (.iadd, 1) := by decide +kernel
theorem dL_law_313 : decode cL_law 313 = .ok (.iaload, 1) := by decide +kernel
theorem dL_law_314 : decode cL_law 314 = .ok (.invokevirtual 28, 3) := by decide +kernel
theorem dL_law_317 : decode cL_law 317 = .ok (.pop, 1) := by decide +kernel
theorem dL_law_318 : decode cL_law 318 = .ok (.aload_n 2, 1) := by decide +kernel
theorem dL_law_319 : decode cL_law 319 = .ok (.aload_n 0, 1) := by decide +kernel
theorem dL_law_320 : decode cL_law 320 = .ok (.iload_n 3, 1) := by decide +kernel
theorem dL_law_321 : decode cL_law 321 = .ok (.iconst 1, 1) := by decide +kernel
theorem dL_law_322 : decode cL_law 322 = .ok (.iadd, 1) := by decide +kernel
theorem dL_law_323 : decode cL_law 323 = .ok (.iaload, 1) := by decide +kernel
theorem dL_law_324 : decode cL_law 324 = .ok (.aload_n 0, 1) := by decide +kernel
theorem dL_law_325 : decode cL_law 325 = .ok (.iload_n 3, 1) := by decide +kernel
theorem dL_law_326 : decode cL_law 326 = .ok (.iconst 2, 1) := by decide +kernel
theorem dL_law_327 : decode cL_law 327 = .ok (.iadd, 1) := by decide +kernel
theorem dL_law_328 : decode cL_law 328 = .ok (.iaload, 1) := by decide +kernel
theorem dL_law_329 : decode cL_law 329 = .ok (.invokevirtual 32, 3) := by decide +kernel
theorem dL_law_332 : decode cL_law 332 = .ok (.pop, 1) := by decide +kernel
theorem dL_law_333 : decode cL_law 333 = .ok (.goto 924, 3) := by decide +kernel
theorem dL_law_336 : decode cL_law 336 = .ok (.aload_n 1, 1) := by decide +kernel
theorem dL_law_337 : decode cL_law 337 = .ok (.aload_n 0, 1) := by decide +kernel
theorem dL_law_338 : decode cL_law 338 = .ok (.iload_n 3, 1) := by decide +kernel
theorem dL_law_339 : decode cL_law 339 = .ok (.iconst 1, 1) := by decide +kernel
theorem dL_law_340 : decode cL_law 340 = .ok (.iadd, 1) := by decide +kernel
theorem dL_law_341 : decode cL_law 341 = .ok (.iaload, 1) := by decide +kernel
theorem dL_law_342 : decode cL_law 342 = .ok (.aload_n 0, 1) := by decide +kernel
theorem dL_law_343 : decode cL_law 343 = .ok (.iload_n 3, 1) := by decide +kernel
theorem dL_law_344 : decode cL_law 344 = .ok (.iconst 2, 1) := by decide +kernel
theorem dL_law_345 : decode cL_law 345 = .ok (.iadd, 1) := by decide +kernel
theorem dL_law_346 : decode cL_law 346 = .ok (.iaload, 1) := by decide +kernel
theorem dL_law_347 : decode cL_law 347 = .ok (.invokevirtual 33, 3) := by decide +kernel
theorem dL_law_350 : decode cL_law 350 = .ok (.pop, 1) := by decide +kernel
theorem dL_law_351 : decode cL_law 351 = .ok (.aload_n 2, 1) := by decide +kernel
theorem dL_law_352 : decode cL_law 352 = .ok (.aload_n 0, 1) := by decide +kernel
theorem dL_law_353 : decode cL_law 353 = .ok (.iload_n 3, 1) := by decide +kernel
theorem dL_law_354 : decode cL_law 354 = .ok (.iconst 1, 1) := by decide +kernel
theorem dL_law_355 : decode cL_law 355 = .ok (.iadd, 1) := by decide +kernel
theorem dL_law_356 : decode cL_law 356 = .ok (.iaload, 1) := by decide +kernel
theorem dL_law_357 : decode cL_law 357 = .ok (.aload_n 0, 1) := by decide +kernel
theorem dL_law_358 : decode cL_law 358 = .ok (.iload_n 3, 1) := by decide +kernel
theorem dL_law_359 : decode cL_law 359 = .ok (.iconst 2, 1) := by decide +kernel
theorem dL_law_360 : decode cL_law 360 = .ok (.iadd, 1) := by decide +kernel
theorem dL_law_361 : decode cL_law 361 = .ok (.iaload, 1) := by decide +kernel
theorem dL_law_362 : decode cL_law 362 = .ok (.invokevirtual 36, 3) := by decide +kernel
theorem dL_law_365 : decode cL_law 365 = .ok (.pop, 1) := by decide +kernel
theorem dL_law_366 : decode cL_law 366 = .ok (.goto 891, 3) := by decide +kernel
theorem dL_law_369 : decode cL_law 369 = .ok (.aload_n 1, 1) := by decide +kernel
theorem dL_law_370 : decode cL_law 370 = .ok (.aload_n 0, 1) := by decide +kernel
theorem dL_law_371 : decode cL_law 371 = .ok (.iload_n 3, 1) := by decide +kernel
theorem dL_law_372 : decode cL_law 372 = .ok (.iconst 1, 1) := by decide +kernel
theorem dL_law_373 : decode cL_law 373 = .ok (.iadd, 1) := by decide +kernel
theorem dL_law_374 : decode cL_law 374 = .ok (.iaload, 1) := by decide +kernel
theorem dL_law_375 : decode cL_law 375 = .ok (.aload_n 0, 1) := by decide +kernel
theorem dL_law_376 : decode cL_law 376 = .ok (.iload_n 3, 1) := by decide +kernel
theorem dL_law_377 : decode cL_law 377 = .ok (.iconst 2, 1) := by decide +kernel
theorem dL_law_378 : decode cL_law 378 = .ok (.iadd, 1) := by decide +kernel
theorem dL_law_379 : decode cL_law 379 = .ok (.iaload, 1) := by decide +kernel
theorem dL_law_380 : decode cL_law 380 = .ok (.aload_n 0, 1) := by decide +kernel
theorem dL_law_381 : decode cL_law 381 = .ok (.iload_n 3, 1) := by decide +kernel
theorem dL_law_382 : decode cL_law 382 = .ok (.iconst 3, 1) := by decide +kernel
theorem dL_law_383 : decode cL_law 383 = .ok (.iadd, 1) := by decide +kernel
theorem dL_law_384 : decode cL_law 384 = .ok (.iaload, 1) := by decide +kernel
theorem dL_law_385 : decode cL_law 385 = .ok (.invokevirtual 37, 3) := by decide +kernel
theorem dL_law_388 : decode cL_law 388 = .ok (.pop, 1) := by decide +kernel
theorem dL_law_389 : decode cL_law 389 = .ok (.aload_n 2, 1) := by decide +kernel
theorem dL_law_390 : decode cL_law 390 = .ok (.aload_n 0, 1) := by decide +kernel
theorem dL_law_391 : decode cL_law 391 = .ok (.iload_n 3, 1) := by decide +kernel
theorem dL_law_392 : decode cL_law 392 = .ok (.iconst 1, 1) := by decide +kernel
theorem dL_law_393 : decode cL_law 393 = .ok (.iadd, 1) := by decide +kernel
theorem dL_law_394 : decode cL_law 394 = .ok (.iaload, 1) := by decide +kernel
theorem dL_law_395 : decode cL_law 395 = .ok (.aload_n 0, 1) := by decide +kernel
theorem dL_law_396 : decode cL_law 396 = .ok (.iload_n 3, 1) := by decide +kernel
theorem dL_law_397 : decode cL_law 397 = .ok (.iconst 2, 1) := by decide +kernel
theorem dL_law_398 : decode cL_law 398 = .ok (.iadd, 1) := by decide +kernel
theorem dL_law_399 : decode cL_law 399 = .ok (.iaload, 1) := by decide +kernel
theorem dL_law_400 : decode cL_law 400 = .ok (.aload_n 0, 1) := by decide +kernel
theorem dL_law_401 : decode cL_law 401 = .ok (.iload_n 3, 1) := by decide +kernel
theorem dL_law_402 : decode cL_law 402 = .ok (.iconst 3, 1) := by decide +kernel
theorem dL_law_403 : decode cL_law 403 = .ok (.iadd, 1) := by decide +kernel
theorem dL_law_404 : decode cL_law 404 = .ok (.iaload, 1) := by decide +kernel
theorem dL_law_405 : decode cL_law 405 = .ok (.invokevirtual 41, 3) := by decide +kernel
theorem dL_law_408 : decode cL_law 408 = .ok (.pop, 1) := by decide +kernel
theorem dL_law_409 : decode cL_law 409 = .ok (.goto 848, 3) := by decide +kernel
theorem dL_law_412 : decode cL_law 412 = .ok (.aload_n 1, 1) := by decide +kernel
theorem dL_law_413 : decode cL_law 413 = .ok (.aload_n 0, 1) := by decide +kernel
theorem dL_law_414 : decode cL_law 414 = .ok (.iload_n 3, 1) := by decide +kernel
theorem dL_law_415 : decode cL_law 415 = .ok (.iconst 1, 1) := by decide +kernel
theorem dL_law_416 : decode cL_law 416 = .ok (.iadd, 1) := by decide +kernel
theorem dL_law_417 : decode cL_law 417 = .ok (.iaload, 1) := by decide +kernel
theorem dL_law_418 : decode cL_law 418 = .ok (.invokevirtual 42, 3) := by decide +kernel
theorem dL_law_421 : decode cL_law 421 = .ok (.pop, 1) := by decide +kernel
theorem dL_law_422 : decode cL_law 422 = .ok (.aload_n 2, 1) := by decide +kernel
theorem dL_law_423 : decode cL_law 423 = .ok (.aload_n 0, 1) := by decide +kernel
theorem dL_law_424 : decode cL_law 424 = .ok (.iload_n 3, 1) := by decide +kernel
theorem dL_law_425 : decode cL_law 425 = .ok (.iconst 1, 1) := by decide +kernel
theorem dL_law_426 : decode cL_law 426 = .ok (.iadd, 1) := by decide +kernel
theorem dL_law_427 : decode cL_law 427 = .ok (.iaload, 1) := by decide +kernel
theorem dL_law_428 : decode cL_law 428 = .ok (.invokevirtual 45, 3) := by decide +kernel
theorem dL_law_431 : decode cL_law 431 = .ok (.pop, 1) := by decide +kernel
theorem dL_law_432 : decode cL_law 432 = .ok (.goto 825, 3) := by decide +kernel
theorem dL_law_435 : decode cL_law 435 = .ok (.aload_n 1, 1) := by decide +kernel
theorem dL_law_436 : decode cL_law 436 = .ok (.aload_n 0, 1) := by decide +kernel
theorem dL_law_437 : decode cL_law 437 = .ok (.iload_n 3, 1) := by decide +kernel
theorem dL_law_438 : decode cL_law 438 = .ok (.iconst 1, 1) := by decide +kernel
theorem dL_law_439 : decode cL_law 439 = .ok (.iadd, 1) := by decide +kernel
theorem dL_law_440 : decode cL_law 440 = .ok (.iaload, 1) := by decide +kernel
theorem dL_law_441 : decode cL_law 441 = .ok (.invokevirtual 46, 3) := by decide +kernel
theorem dL_law_444 : decode cL_law 444 = .ok (.pop, 1) := by decide +kernel
theorem dL_law_445 : decode cL_law 445 = .ok (.aload_n 2, 1) := by decide +kernel
theorem dL_law_446 : decode cL_law 446 = .ok (.aload_n 0, 1) := by decide +kernel
theorem dL_law_447 : decode cL_law 447 = .ok (.iload_n 3, 1) := by decide +kernel
theorem dL_law_448 : decode cL_law 448 = .ok (.iconst 1, 1) := by decide +kernel
theorem dL_law_449 : decode cL_law 449 = .ok (.iadd, 1) := by decide +kernel
theorem dL_law_450 : decode cL_law 450 = .ok (.iaload, 1) := by decide +kernel
theorem dL_law_451 : decode cL_law 451 = .ok (.invokevirtual 49, 3) := by decide +kernel
theorem dL_law_454 : decode cL_law 454 = .ok (.pop, 1) := by decide +kernel
theorem dL_law_455 : decode cL_law 455 = .ok (.goto 802, 3) := by decide +kernel
theorem dL_law_458 : decode cL_law 458 = .ok (.aload_n 1, 1) := by decide +kernel
theorem dL_law_459 : decode cL_law 459 = .ok (.aload_n 0, 1) := by decide +kernel
theorem dL_law_460 : decode cL_law 460 = .ok (.iload_n 3, 1) := by decide +kernel
theorem dL_law_461 : decode cL_law 461 = .ok (.iconst 1, 1) := by decide +kernel
theorem dL_law_462 : decode cL_law 462 = .ok (.iadd, 1) := by decide +kernel
theorem dL_law_463 : decode cL_law 463 = .ok (.iaload, 1) := by decide +kernel
theorem dL_law_464 : decode cL_law 464 = .ok (.invokevirtual 50, 3) := by decide +kernel
theorem dL_law_467 : decode cL_law 467 = .ok (.pop, 1) := by decide +kernel
theorem dL_law_468 : decode cL_law 468 = .ok (.aload_n 2, 1) := by decide +kernel
theorem dL_law_469 : decode cL_law 469 = .ok (.aload_n 0, 1) := by decide +kernel
theorem dL_law_470 : decode cL_law 470 = .ok (.iload_n 3, 1) := by decide +kernel
theorem dL_law_471 : decode cL_law 471 = .ok (.iconst 1, 1) := by decide +kernel
theorem dL_law_472 : decode cL_law 472 = .ok (.iadd, 1) := by decide +kernel
theorem dL_law_473 : decode cL_law 473 = .ok (.iaload, 1) := by decide +kernel
theorem dL_law_474 : decode cL_law 474 = .ok (.invokevirtual 53, 3) := by decide +kernel
theorem dL_law_477 : decode cL_law 477 = .ok (.pop, 1) := by decide +kernel
theorem dL_law_478 : decode cL_law 478 = .ok (.goto 779, 3) := by decide +kernel
theorem dL_law_481 : decode cL_law 481 = .ok (.aload_n 1, 1) := by decide +kernel
theorem dL_law_482 : decode cL_law 482 = .ok (.invokevirtual 54, 3) := by decide +kernel
theorem dL_law_485 : decode cL_law 485 = .ok (.pop, 1) := by decide +kernel
theorem dL_law_486 : decode cL_law 486 = .ok (.aload_n 2, 1) := by decide +kernel
theorem dL_law_487 : decode cL_law 487 = .ok (.invokevirtual 57, 3) := by decide +kernel
theorem dL_law_490 : decode cL_law 490 = .ok (.pop, 1) := by decide +kernel
theorem dL_law_491 : decode cL_law 491 = .ok (.goto 766, 3) := by decide +kernel
theorem dL_law_494 : decode cL_law 494 = .ok (.aload_n 1, 1) := by decide +kernel
theorem dL_law_495 : decode cL_law 495 = .ok (.aload_n 0, 1) := by decide +kernel
theorem dL_law_496 : decode cL_law 496 = .ok (.iload_n 3, 1) := by decide +kernel
theorem dL_law_497 : decode cL_law 497 = .ok (.iconst 1, 1) := by decide +kernel
theorem dL_law_498 : decode cL_law 498 = .ok (.iadd, 1) := by decide +kernel
theorem dL_law_499 : decode cL_law 499 = .ok (.iaload, 1) := by decide +kernel
theorem dL_law_500 : decode cL_law 500 = .ok (.ifCond .eq 7, 3) := by decide +kernel
theorem dL_law_503 : decode cL_law 503 = .ok (.iconst 1, 1) := by decide +kernel
theorem dL_law_504 : decode cL_law 504 = .ok (.goto 4, 3) := by decide +kernel
theorem dL_law_507 : decode cL_law 507 = .ok (.iconst 0, 1) := by decide +kernel
theorem dL_law_508 : decode cL_law 508 = .ok (.invokevirtual 58, 3) := by decide +kernel
theorem dL_law_511 : decode cL_law 511 = .ok (.pop, 1) := by decide +kernel
theorem dL_law_512 : decode cL_law 512 = .ok (.aload_n 2, 1) := by decide +kernel
theorem dL_law_513 : decode cL_law 513 = .ok (.aload_n 0, 1) := by decide +kernel
theorem dL_law_514 : decode cL_law 514 = .ok (.iload_n 3, 1) := by decide +kernel
theorem dL_law_515 : decode cL_law 515 = .ok (.iconst 1, 1) := by decide +kernel
theorem dL_law_516 : decode cL_law 516 = .ok (.iadd, 1) := by decide +kernel
theorem dL_law_517 : decode cL_law 517 = .ok (.iaload, 1) := by decide +kernel
theorem dL_law_518 : decode cL_law 518 = .ok (.ifCond .eq 7, 3) := by decide +kernel
theorem dL_law_521 : decode cL_law 521 = .ok (.iconst 1, 1) := by decide +kernel
theorem dL_law_522 : decode cL_law 522 = .ok (.goto 4, 3) := by decide +kernel
theorem dL_law_525 : decode cL_law 525 = .ok (.iconst 0, 1) := by decide +kernel
theorem dL_law_526 : decode cL_law 526 = .ok (.invokevirtual 62, 3) := by decide +kernel
theorem dL_law_529 : decode cL_law 529 = .ok (.pop, 1) := by decide +kernel
theorem dL_law_530 : decode cL_law 530 = .ok (.goto 727, 3) := by decide +kernel
theorem dL_law_533 : decode cL_law 533 = .ok (.aload_n 1, 1) := by decide +kernel
theorem dL_law_534 : decode cL_law 534 = .ok (.aload_n 0, 1) := by decide +kernel
theorem dL_law_535 : decode cL_law 535 = .ok (.iload_n 3, 1) := by decide +kernel
theorem dL_law_536 : decode cL_law 536 = .ok (.iconst 1, 1) := by decide +kernel
theorem dL_law_537 : decode cL_law 537 = .ok (.iadd, 1) := by decide +kernel
theorem dL_law_538 : decode cL_law 538 = .ok (.iaload, 1) := by decide +kernel
theorem dL_law_539 : decode cL_law 539 = .ok (.aload_n 0, 1) := by decide +kernel
theorem dL_law_540 : decode cL_law 540 = .ok (.iload_n 3, 1) := by decide +kernel
theorem dL_law_541 : decode cL_law 541 = .ok (.iconst 2, 1) := by decide +kernel
theorem dL_law_542 : decode cL_law 542 = .ok (.iadd, 1) := by decide +kernel
theorem dL_law_543 : decode cL_law 543 = .ok (.iaload, 1) := by decide +kernel
theorem dL_law_544 : decode cL_law 544 = .ok (.invokevirtual 63, 3) := by decide +kernel
theorem dL_law_547 : decode cL_law 547 = .ok (.pop, 1) := by decide +kernel
theorem dL_law_548 : decode cL_law 548 = .ok (.aload_n 2, 1) := by decide +kernel
theorem dL_law_549 : decode cL_law 549 = .ok (.aload_n 0, 1) := by decide +kernel
theorem dL_law_550 : decode cL_law 550 = .ok (.iload_n 3, 1) := by decide +kernel
theorem dL_law_551 : decode cL_law 551 = .ok (.iconst 1, 1) := by decide +kernel
theorem dL_law_552 : decode cL_law 552 = .ok (.iadd, 1) := by decide +kernel
theorem dL_law_553 : decode cL_law 553 = .ok (.iaload, 1) := by decide +kernel
theorem dL_law_554 : decode cL_law 554 = .ok (.aload_n 0, 1) := by decide +kernel
theorem dL_law_555 : decode cL_law 555 = .ok (.iload_n 3, 1) := by decide +kernel
theorem dL_law_556 : decode cL_law 556 = .ok (.iconst 2, 1) := by decide +kernel
theorem dL_law_557 : decode cL_law 557 = .ok (.iadd, 1) := by decide +kernel
theorem dL_law_558 : decode cL_law 558 = .ok (.iaload, 1) := by decide +kernel
theorem dL_law_559 : decode cL_law 559 = .ok (.invokevirtual 66, 3) := by decide +kernel
theorem dL_law_562 : decode cL_law 562 = .ok (.pop, 1) := by decide +kernel
theorem dL_law_563 : decode cL_law 563 = .ok (.goto 694, 3) := by decide +kernel
theorem dL_law_566 : decode cL_law 566 = .ok (.aload_n 1, 1) := by decide +kernel
theorem dL_law_567 : decode cL_law 567 = .ok (.aload_n 0, 1) := by decide +kernel
theorem dL_law_568 : decode cL_law 568 = .ok (.iload_n 3, 1) := by decide +kernel
theorem dL_law_569 : decode cL_law 569 = .ok (.iconst 1, 1) := by decide +kernel
theorem dL_law_570 : decode cL_law 570 = .ok (.iadd, 1) := by decide +kernel
theorem dL_law_571 : decode cL_law 571 = .ok (.iaload, 1) := by decide +kernel
theorem dL_law_572 : decode cL_law 572 = .ok (.aload_n 0, 1) := by decide +kernel
theorem dL_law_573 : decode cL_law 573 = .ok (.iload_n 3, 1) := by decide +kernel
theorem dL_law_574 : decode cL_law 574 = .ok (.iconst 2, 1) := by decide +kernel
theorem dL_law_575 : decode cL_law 575 = .ok (.iadd, 1) := by decide +kernel
theorem dL_law_576 : decode cL_law 576 = .ok (.iaload, 1) := by decide +kernel
theorem dL_law_577 : decode cL_law 577 = .ok (.invokevirtual 67, 3) := by decide +kernel
theorem dL_law_580 : decode cL_law 580 = .ok (.pop, 1) := by decide +kernel
theorem dL_law_581 : decode cL_law 581 = .ok (.aload_n 2, 1) := by decide +kernel
theorem dL_law_582 : decode cL_law 582 = .ok (.aload_n 0, 1) := by decide +kernel
theorem dL_law_583 : decode cL_law 583 = .ok (.iload_n 3, 1) := by decide +kernel
theorem dL_law_584 : decode cL_law 584 = .ok (.iconst 1, 1) := by decide +kernel
theorem dL_law_585 : decode cL_law 585 = .ok (.iadd, 1) := by decide +kernel
theorem dL_law_586 : decode cL_law 586 = .ok (.iaload, 1) := by decide +kernel
theorem dL_law_587 : decode cL_law 587 = .ok (.aload_n 0, 1) := by decide +kernel
theorem dL_law_588 : decode cL_law 588 = .ok (.iload_n 3, 1) := by decide +kernel
theorem dL_law_589 : decode cL_law 589 = .ok (.iconst 2, 1) := by decide +kernel
theorem dL_law_590 : decode cL_law 590 = .ok (.iadd, 1) := by decide +kernel
theorem dL_law_591 : decode cL_law 591 = .ok (.iaload, 1) := by decide +kernel
theorem dL_law_592 : decode cL_law 592 = .ok (.invokevirtual 70, 3) := by decide +kernel
theorem dL_law_595 : decode cL_law 595 = .ok (.pop, 1) := by decide +kernel
theorem dL_law_596 : decode cL_law 596 = .ok (.goto 661, 3) := by decide +kernel
theorem dL_law_599 : decode cL_law 599 = .ok (.aload_n 1, 1) := by decide +kernel
theorem dL_law_600 : decode cL_law 600 = .ok (.aload_n 0, 1) := by decide +kernel
theorem dL_law_601 : decode cL_law 601 = .ok (.iload_n 3, 1) := by decide +kernel
theorem dL_law_602 : decode cL_law 602 = .ok (.iconst 1, 1) := by decide +kernel
theorem dL_law_603 : decode cL_law 603 = .ok (.iadd, 1) := by decide +kernel
theorem dL_law_604 : decode cL_law 604 = .ok (.iaload, 1) := by decide +kernel
theorem dL_law_605 : decode cL_law 605 = .ok (.aload_n 0, 1) := by decide +kernel
theorem dL_law_606 : decode cL_law 606 = .ok (.iload_n 3, 1) := by decide +kernel
theorem dL_law_607 : decode cL_law 607 = .ok (.iconst 2, 1) := by decide +kernel
theorem dL_law_608 : decode cL_law 608 = .ok (.iadd, 1) := by decide +kernel
theorem dL_law_609 : decode cL_law 609 = .ok (.iaload, 1) := by decide +kernel
theorem dL_law_610 : decode cL_law 610 = .ok (.invokevirtual 71, 3) := by decide +kernel
theorem dL_law_613 : decode cL_law 613 = .ok (.pop, 1) := by decide +kernel
theorem dL_law_614 : decode cL_law 614 = .ok (.aload_n 2, 1) := by decide +kernel
theorem dL_law_615 : decode cL_law 615 = .ok (.aload_n 0, 1) := by decide +kernel
theorem dL_law_616 : decode cL_law 616 = .ok (.iload_n 3, 1) := by decide +kernel
theorem dL_law_617 : decode cL_law 617 = .ok (.iconst 1, 1) := by decide +kernel
theorem dL_law_618 : decode cL_law 618 = .ok (.iadd, 1) := by decide +kernel
theorem dL_law_619 : decode cL_law 619 = .ok (.iaload, 1) := by decide +kernel
theorem dL_law_620 : decode cL_law 620 = .ok (.aload_n 0, 1) := by decide +kernel
theorem dL_law_621 : decode cL_law 621 = .ok (.iload_n 3, 1) := by decide +kernel
theorem dL_law_622 : decode cL_law 622 = .ok (.iconst 2, 1) := by decide +kernel
theorem dL_law_623 : decode cL_law 623 = .ok (.iadd, 1) := by decide +kernel
theorem dL_law_624 : decode cL_law 624 = .ok (.iaload, 1) := by decide +kernel
theorem dL_law_625 : decode cL_law 625 = .ok (.invokevirtual 74, 3) := by decide +kernel
theorem dL_law_628 : decode cL_law 628 = .ok (.pop, 1) := by decide +kernel
theorem dL_law_629 : decode cL_law 629 = .ok (.goto 628, 3) := by decide +kernel
theorem dL_law_632 : decode cL_law 632 = .ok (.aload_n 1, 1) := by decide +kernel
theorem dL_law_633 : decode cL_law 633 = .ok (.invokevirtual 75, 3) := by decide +kernel
theorem dL_law_636 : decode cL_law 636 = .ok (.pop, 1) := by decide +kernel
theorem dL_law_637 : decode cL_law 637 = .ok (.aload_n 2, 1) := by decide +kernel
theorem dL_law_638 : decode cL_law 638 = .ok (.invokevirtual 78, 3) := by decide +kernel
theorem dL_law_641 : decode cL_law 641 = .ok (.pop, 1) := by decide +kernel
theorem dL_law_642 : decode cL_law 642 = .ok (.goto 615, 3) := by decide +kernel
theorem dL_law_645 : decode cL_law 645 = .ok (.aload_n 1, 1) := by decide +kernel
theorem dL_law_646 : decode cL_law 646 = .ok (.aload_n 0, 1) := by decide +kernel
theorem dL_law_647 : decode cL_law 647 = .ok (.iload_n 3, 1) := by decide +kernel
theorem dL_law_648 : decode cL_law 648 = .ok (.iconst 1, 1) := by decide +kernel
theorem dL_law_649 : decode cL_law 649 = .ok (.iadd, 1) := by decide +kernel
theorem dL_law_650 : decode cL_law 650 = .ok (.iaload, 1) := by decide +kernel
theorem dL_law_651 : decode cL_law 651 = .ok (.invokevirtual 79, 3) := by decide +kernel
theorem dL_law_654 : decode cL_law 654 = .ok (.pop, 1) := by decide +kernel
theorem dL_law_655 : decode cL_law 655 = .ok (.aload_n 2, 1) := by decide +kernel
theorem dL_law_656 : decode cL_law 656 = .ok (.aload_n 0, 1) := by decide +kernel
theorem dL_law_657 : decode cL_law 657 = .ok (.iload_n 3, 1) := by decide +kernel
theorem dL_law_658 : decode cL_law 658 = .ok (.iconst 1, 1) := by decide +kernel
theorem dL_law_659 : decode cL_law 659 = .ok (.iadd, 1) := by decide +kernel
theorem dL_law_660 : decode cL_law 660 = .ok (.iaload, 1) := by decide +kernel
theorem dL_law_661 : decode cL_law 661 = .ok (.invokevirtual 82, 3) := by decide +kernel
theorem dL_law_664 : decode cL_law 664 = .ok (.pop, 1) := by decide +kernel
theorem dL_law_665 : decode cL_law 665 = .ok (.goto 592, 3) := by decide +kernel
theorem dL_law_668 : decode cL_law 668 = .ok (.aload_n 1, 1) := by decide +kernel
theorem dL_law_669 : decode cL_law 669 = .ok (.invokevirtual 83, 3) := by decide +kernel
theorem dL_law_672 : decode cL_law 672 = .ok (.pop, 1) := by decide +kernel
theorem dL_law_673 : decode cL_law 673 = .ok (.aload_n 2, 1) := by decide +kernel
theorem dL_law_674 : decode cL_law 674 = .ok (.invokevirtual 86, 3) := by decide +kernel
theorem dL_law_677 : decode cL_law 677 = .ok (.pop, 1) := by decide +kernel
theorem dL_law_678 : decode cL_law 678 = .ok (.goto 579, 3) := by decide +kernel
theorem dL_law_681 : decode cL_law 681 = .ok (.aload_n 1, 1) := by decide +kernel
theorem dL_law_682 : decode cL_law 682 = .ok (.aload_n 0, 1) := by decide +kernel
theorem dL_law_683 : decode cL_law 683 = .ok (.iload_n 3, 1) := by decide +kernel
theorem dL_law_684 : decode cL_law 684 = .ok (.iconst 1, 1) := by decide +kernel
theorem dL_law_685 : decode cL_law 685 = .ok (.iadd, 1) := by decide +kernel
theorem dL_law_686 : decode cL_law 686 = .ok (.iaload, 1) := by decide +kernel
theorem dL_law_687 : decode cL_law 687 = .ok (.invokevirtual 87, 3) := by decide +kernel
theorem dL_law_690 : decode cL_law 690 = .ok (.pop, 1) := by decide +kernel
theorem dL_law_691 : decode cL_law 691 = .ok (.aload_n 2, 1) := by decide +kernel
theorem dL_law_692 : decode cL_law 692 = .ok (.aload_n 0, 1) := by decide +kernel
theorem dL_law_693 : decode cL_law 693 = .ok (.iload_n 3, 1) := by decide +kernel
theorem dL_law_694 : decode cL_law 694 = .ok (.iconst 1, 1) := by decide +kernel
theorem dL_law_695 : decode cL_law 695 = .ok (.iadd, 1) := by decide +kernel
theorem dL_law_696 : decode cL_law 696 = .ok (.iaload, 1) := by decide +kernel
theorem dL_law_697 : decode cL_law 697 = .ok (.invokevirtual 90, 3) := by decide +kernel
theorem dL_law_700 : decode cL_law 700 = .ok (.pop, 1) := by decide +kernel
theorem dL_law_701 : decode cL_law 701 = .ok (.goto 556, 3) := by decide +kernel
theorem dL_law_704 : decode cL_law 704 = .ok (.aload_n 1, 1) := by decide +kernel
theorem dL_law_705 : decode cL_law 705 = .ok (.aload_n 0, 1) := by decide +kernel
theorem dL_law_706 : decode cL_law 706 = .ok (.iload_n 3, 1) := by decide +kernel
theorem dL_law_707 : decode cL_law 707 = .ok (.iconst 1, 1) := by decide +kernel
theorem dL_law_708 : decode cL_law 708 = .ok (.iadd, 1) := by decide +kernel
theorem dL_law_709 : decode cL_law 709 = .ok (.iaload, 1) := by decide +kernel
theorem dL_law_710 : decode cL_law 710 = .ok (.aload_n 0, 1) := by decide +kernel
theorem dL_law_711 : decode cL_law 711 = .ok (.iload_n 3, 1) := by decide +kernel
theorem dL_law_712 : decode cL_law 712 = .ok (.iconst 2, 1) := by decide +kernel
theorem dL_law_713 : decode cL_law 713 = .ok (.iadd, 1) := by decide +kernel
theorem dL_law_714 : decode cL_law 714 = .ok (.iaload, 1) := by decide +kernel
theorem dL_law_715 : decode cL_law 715 = .ok (.invokevirtual 91, 3) := by decide +kernel
theorem dL_law_718 : decode cL_law 718 = .ok (.pop, 1) := by decide +kernel
theorem dL_law_719 : decode cL_law 719 = .ok (.aload_n 2, 1) := by decide +kernel
theorem dL_law_720 : decode cL_law 720 = .ok (.aload_n 0, 1) := by decide +kernel
theorem dL_law_721 : decode cL_law 721 = .ok (.iload_n 3, 1) := by decide +kernel
theorem dL_law_722 : decode cL_law 722 = .ok (.iconst 1, 1) := by decide +kernel
theorem dL_law_723 : decode cL_law 723 = .ok (.iadd, 1) := by decide +kernel
theorem dL_law_724 : decode cL_law 724 = .ok (.iaload, 1) := by decide +kernel
theorem dL_law_725 : decode cL_law 725 = .ok (.aload_n 0, 1) := by decide +kernel
theorem dL_law_726 : decode cL_law 726 = .ok (.iload_n 3, 1) := by decide +kernel
theorem dL_law_727 : decode cL_law 727 = .ok (.iconst 2, 1) := by decide +kernel
theorem dL_law_728 : decode cL_law 728 = .ok (.iadd, 1) := by decide +kernel
theorem dL_law_729 : decode cL_law 729 = .ok (.iaload, 1) := by decide +kernel
theorem dL_law_730 : decode cL_law 730 = .ok (.invokevirtual 94, 3) := by decide +kernel
theorem dL_law_733 : decode cL_law 733 = .ok (.pop, 1) := by decide +kernel
theorem dL_law_734 : decode cL_law 734 = .ok (.goto 523, 3) := by decide +kernel
theorem dL_law_737 : decode cL_law 737 = .ok (.aload_n 1, 1) := by decide +kernel
theorem dL_law_738 : decode cL_law 738 = .ok (.aload_n 0, 1) := by decide +kernel
theorem dL_law_739 : decode cL_law 739 = .ok (.iload_n 3, 1) := by decide +kernel
theorem dL_law_740 : decode cL_law 740 = .ok (.iconst 1, 1) := by decide +kernel
theorem dL_law_741 : decode cL_law 741 = .ok (.iadd, 1) := by decide +kernel
theorem dL_law_742 : decode cL_law 742 = .ok (.iaload, 1) := by decide +kernel
theorem dL_law_743 : decode cL_law 743 = .ok (.invokevirtual 95, 3) := by decide +kernel
theorem dL_law_746 : decode cL_law 746 = .ok (.pop, 1) := by decide +kernel
theorem dL_law_747 : decode cL_law 747 = .ok (.aload_n 2, 1) := by decide +kernel
theorem dL_law_748 : decode cL_law 748 = .ok (.aload_n 0, 1) := by decide +kernel
theorem dL_law_749 : decode cL_law 749 = .ok (.iload_n 3, 1) := by decide +kernel
theorem dL_law_750 : decode cL_law 750 = .ok (.iconst 1, 1) := by decide +kernel
theorem dL_law_751 : decode cL_law 751 = .ok (.iadd, 1) := by decide +kernel
theorem dL_law_752 : decode cL_law 752 = .ok (.iaload, 1) := by decide +kernel
theorem dL_law_753 : decode cL_law 753 = .ok (.invokevirtual 98, 3) := by decide +kernel
theorem dL_law_756 : decode cL_law 756 = .ok (.pop, 1) := by decide +kernel
theorem dL_law_757 : decode cL_law 757 = .ok (.goto 500, 3) := by decide +kernel
theorem dL_law_760 : decode cL_law 760 = .ok (.aload_n 1, 1) := by decide +kernel
theorem dL_law_761 : decode cL_law 761 = .ok (.aload_n 0, 1) := by decide +kernel
theorem dL_law_762 : decode cL_law 762 = .ok (.iload_n 3, 1) := by decide +kernel
theorem dL_law_763 : decode cL_law 763 = .ok (.iconst 1, 1) := by decide +kernel
theorem dL_law_764 : decode cL_law 764 = .ok (.iadd, 1) := by decide +kernel
theorem dL_law_765 : decode cL_law 765 = .ok (.iaload, 1) := by decide +kernel
theorem dL_law_766 : decode cL_law 766 = .ok (.invokevirtual 99, 3) := by decide +kernel
theorem dL_law_769 : decode cL_law 769 = .ok (.pop, 1) := by decide +kernel
theorem dL_law_770 : decode cL_law 770 = .ok (.aload_n 2, 1) := by decide +kernel
theorem dL_law_771 : decode cL_law 771 = .ok (.aload_n 0, 1) := by decide +kernel
theorem dL_law_772 : decode cL_law 772 = .ok (.iload_n 3, 1) := by decide +kernel
theorem dL_law_773 : decode cL_law 773 = .ok (.iconst 1, 1) := by decide +kernel
theorem dL_law_774 : decode cL_law 774 = .ok (.iadd, 1) := by decide +kernel
theorem dL_law_775 : decode cL_law 775 = .ok (.iaload, 1) := by decide +kernel
theorem dL_law_776 : decode cL_law 776 = .ok (.invokevirtual 102, 3) := by decide +kernel
theorem dL_law_779 : decode cL_law 779 = .ok (.pop, 1) := by decide +kernel
theorem dL_law_780 : decode cL_law 780 = .ok (.goto 477, 3) := by decide +kernel
theorem dL_law_783 : decode cL_law 783 = .ok (.aload_n 1, 1) := by decide +kernel
theorem dL_law_784 : decode cL_law 784 = .ok (.aload_n 0, 1) := by decide +kernel
theorem dL_law_785 : decode cL_law 785 = .ok (.iload_n 3, 1) := by decide +kernel
theorem dL_law_786 : decode cL_law 786 = .ok (.iconst 1, 1) := by decide +kernel
theorem dL_law_787 : decode cL_law 787 = .ok (.iadd, 1) := by decide +kernel
theorem dL_law_788 : decode cL_law 788 = .ok (.iaload, 1) := by decide +kernel
theorem dL_law_789 : decode cL_law 789 = .ok (.aload_n 0, 1) := by decide +kernel
theorem dL_law_790 : decode cL_law 790 = .ok (.iload_n 3, 1) := by decide +kernel
theorem dL_law_791 : decode cL_law 791 = .ok (.iconst 2, 1) := by decide +kernel
theorem dL_law_792 : decode cL_law 792 = .ok (.iadd, 1) := by decide +kernel
theorem dL_law_793 : decode cL_law 793 = .ok (.iaload, 1) := by decide +kernel
theorem dL_law_794 : decode cL_law 794 = .ok (.invokevirtual 103, 3) := by decide +kernel
theorem dL_law_797 : decode cL_law 797 = .ok (.pop, 1) := by decide +kernel
theorem dL_law_798 : decode cL_law 798 = .ok (.aload_n 2, 1) := by decide +kernel
theorem dL_law_799 : decode cL_law 799 = .ok (.aload_n 0, 1) := by decide +kernel
theorem dL_law_800 : decode cL_law 800 = .ok (.iload_n 3, 1) := by decide +kernel
theorem dL_law_801 : decode cL_law 801 = .ok (.iconst 1, 1) := by decide +kernel
theorem dL_law_802 : decode cL_law 802 = .ok (.iadd, 1) := by decide +kernel
theorem dL_law_803 : decode cL_law 803 = .ok (.iaload, 1) := by decide +kernel
theorem dL_law_804 : decode cL_law 804 = .ok (.aload_n 0, 1) := by decide +kernel
theorem dL_law_805 : decode cL_law 805 = .ok (.iload_n 3, 1) := by decide +kernel
theorem dL_law_806 : decode cL_law 806 = .ok (.iconst 2, 1) := by decide +kernel
theorem dL_law_807 : decode cL_law 807 = .ok (.iadd, 1) := by decide +kernel
theorem dL_law_808 : decode cL_law 808 = .ok (.iaload, 1) := by decide +kernel
theorem dL_law_809 : decode cL_law 809 = .ok (.invokevirtual 106, 3) := by decide +kernel
theorem dL_law_812 : decode cL_law 812 = .ok (.pop, 1) := by decide +kernel
theorem dL_law_813 : decode cL_law 813 = .ok (.goto 444, 3) := by decide +kernel
theorem dL_law_816 : decode cL_law 816 = .ok (.aload_n 1, 1) := by decide +kernel
theorem dL_law_817 : decode cL_law 817 = .ok (.aload_n 0, 1) := by decide +kernel
theorem dL_law_818 : decode cL_law 818 = .ok (.iload_n 3, 1) := by decide +kernel
theorem dL_law_819 : decode cL_law 819 = .ok (.iconst 1, 1) := by decide +kernel
theorem dL_law_820 : decode cL_law 820 = .ok (.iadd, 1) := by decide +kernel
theorem dL_law_821 : decode cL_law 821 = .ok (.iaload, 1) := by decide +kernel
theorem dL_law_822 : decode cL_law 822 = .ok (.aload_n 0, 1) := by decide +kernel
theorem dL_law_823 : decode cL_law 823 = .ok (.iload_n 3, 1) := by decide +kernel
theorem dL_law_824 : decode cL_law 824 = .ok (.iconst 2, 1) := by decide +kernel
theorem dL_law_825 : decode cL_law 825 = .ok (.iadd, 1) := by decide +kernel
theorem dL_law_826 : decode cL_law 826 = .ok (.iaload, 1) := by decide +kernel
theorem dL_law_827 : decode cL_law 827 = .ok (.aload_n 0, 1) := by decide +kernel
theorem dL_law_828 : decode cL_law 828 = .ok (.iload_n 3, 1) := by decide +kernel
theorem dL_law_829 : decode cL_law 829 = .ok (.iconst 3, 1) := by decide +kernel
theorem dL_law_830 : decode cL_law 830 = .ok (.iadd, 1) := by decide +kernel
theorem dL_law_831 : decode cL_law 831 = .ok (.iaload, 1) := by decide +kernel
theorem dL_law_832 : decode cL_law 832 = .ok (.aload_n 0, 1) := by decide +kernel
theorem dL_law_833 : decode cL_law 833 = .ok (.iload_n 3, 1) := by decide +kernel
theorem dL_law_834 : decode cL_law 834 = .ok (.iconst 4, 1) := by decide +kernel
theorem dL_law_835 : decode cL_law 835 = .ok (.iadd, 1) := by decide +kernel
theorem dL_law_836 : decode cL_law 836 = .ok (.iaload, 1) := by decide +kernel
theorem dL_law_837 : decode cL_law 837 = .ok (.invokevirtual 107, 3) := by decide +kernel
theorem dL_law_840 : decode cL_law 840 = .ok (.pop, 1) := by decide +kernel
theorem dL_law_841 : decode cL_law 841 = .ok (.aload_n 2, 1) := by decide +kernel
theorem dL_law_842 : decode cL_law 842 = .ok (.aload_n 0, 1) := by decide +kernel
theorem dL_law_843 : decode cL_law 843 = .ok (.iload_n 3, 1) := by decide +kernel
theorem dL_law_844 : decode cL_law 844 = .ok (.iconst 1, 1) := by decide +kernel
theorem dL_law_845 : decode cL_law 845 = .ok (.iadd, 1) := by decide +kernel
theorem dL_law_846 : decode cL_law 846 = .ok (.iaload, 1) := by decide +kernel
theorem dL_law_847 : decode cL_law 847 = .ok (.aload_n 0, 1) := by decide +kernel
theorem dL_law_848 : decode cL_law 848 = .ok (.iload_n 3, 1) := by decide +kernel
theorem dL_law_849 : decode cL_law 849 = .ok (.iconst 2, 1) := by decide +kernel
theorem dL_law_850 : decode cL_law 850 = .ok (.iadd, 1) := by decide +kernel
theorem dL_law_851 : decode cL_law 851 = .ok (.iaload, 1) := by decide +kernel
theorem dL_law_852 : decode cL_law 852 = .ok (.aload_n 0, 1) := by decide +kernel
theorem dL_law_853 : decode cL_law 853 = .ok (.iload_n 3, 1) := by decide +kernel
theorem dL_law_854 : decode cL_law 854 = .ok (.iconst 3, 1) := by decide +kernel
theorem dL_law_855 : decode cL_law 855 = .ok (.iadd, 1) := by decide +kernel
theorem dL_law_856 : decode cL_law 856 = .ok (.iaload, 1) := by decide +kernel
theorem dL_law_857 : decode cL_law 857 = .ok (.aload_n 0, 1) := by decide +kernel
theorem dL_law_858 : decode cL_law 858 = .ok (.iload_n 3, 1) := by decide +kernel
theorem dL_law_859 : decode cL_law 859 = .ok (.iconst 4, 1) := by decide +kernel
theorem dL_law_860 : decode cL_law 860 = .ok (.iadd, 1) := by decide +kernel
theorem dL_law_861 : decode cL_law 861 = .ok (.iaload, 1) := by decide +kernel
theorem dL_law_862 : decode cL_law 862 = .ok (.invokevirtual 111, 3) := by decide +kernel
theorem dL_law_865 : decode cL_law 865 = .ok (.pop, 1) := by decide +kernel
theorem dL_law_866 : decode cL_law 866 = .ok (.goto 391, 3) := by decide +kernel
theorem dL_law_869 : decode cL_law 869 = .ok (.aload_n 1, 1) := by decide +kernel
theorem dL_law_870 : decode cL_law 870 = .ok (.aload_n 0, 1) := by decide +kernel
theorem dL_law_871 : decode cL_law 871 = .ok (.iload_n 3, 1) := by decide +kernel
theorem dL_law_872 : decode cL_law 872 = .ok (.iconst 1, 1) := by decide +kernel
theorem dL_law_873 : decode cL_law 873 = .ok (.iadd, 1) := by decide +kernel
theorem dL_law_874 : decode cL_law 874 = .ok (.iaload, 1) := by decide +kernel
theorem dL_law_875 : decode cL_law 875 = .ok (.aload_n 0, 1) := by decide +kernel
theorem dL_law_876 : decode cL_law 876 = .ok (.iload_n 3, 1) := by decide +kernel
theorem dL_law_877 : decode cL_law 877 = .ok (.iconst 2, 1) := by decide +kernel
theorem dL_law_878 : decode cL_law 878 = .ok (.iadd, 1) := by decide +kernel
theorem dL_law_879 : decode cL_law 879 = .ok (.iaload, 1) := by decide +kernel
theorem dL_law_880 : decode cL_law 880 = .ok (.invokevirtual 112, 3) := by decide +kernel
theorem dL_law_883 : decode cL_law 883 = .ok (.pop, 1) := by decide +kernel
theorem dL_law_884 : decode cL_law 884 = .ok (.aload_n 2, 1) := by decide +kernel
theorem dL_law_885 : decode cL_law 885 = .ok (.aload_n 0, 1) := by decide +kernel
theorem dL_law_886 : decode cL_law 886 = .ok (.iload_n 3, 1) := by decide +kernel
theorem dL_law_887 : decode cL_law 887 = .ok (.iconst 1, 1) := by decide +kernel
theorem dL_law_888 : decode cL_law 888 = .ok (.iadd, 1) := by decide +kernel
theorem dL_law_889 : decode cL_law 889 = .ok (.iaload, 1) := by decide +kernel
theorem dL_law_890 : decode cL_law 890 = .ok (.aload_n 0, 1) := by decide +kernel
theorem dL_law_891 : decode cL_law 891 = .ok (.iload_n 3, 1) := by decide +kernel
theorem dL_law_892 : decode cL_law 892 = .ok (.iconst 2, 1) := by decide +kernel
theorem dL_law_893 : decode cL_law 893 = .ok (.iadd, 1) := by decide +kernel
theorem dL_law_894 : decode cL_law 894 = .ok (.iaload, 1) := by decide +kernel
theorem dL_law_895 : decode cL_law 895 = .ok (.invokevirtual 115, 3) := by decide +kernel
theorem dL_law_898 : decode cL_law 898 = .ok (.pop, 1) := by decide +kernel
theorem dL_law_899 : decode cL_law 899 = .ok (.goto 358, 3) := by decide +kernel
theorem dL_law_902 : decode cL_law 902 = .ok (.aload_n 1, 1) := by decide +kernel
theorem dL_law_903 : decode cL_law 903 = .ok (.aload_n 0, 1) := by decide +kernel
theorem dL_law_904 : decode cL_law 904 = .ok (.iload_n 3, 1) := by decide +kernel
theorem dL_law_905 : decode cL_law 905 = .ok (.iconst 1, 1) := by decide +kernel
theorem dL_law_906 : decode cL_law 906 = .ok (.iadd, 1) := by decide +kernel
theorem dL_law_907 : decode cL_law 907 = .ok (.iaload, 1) := by decide +kernel
theorem dL_law_908 : decode cL_law 908 = .ok (.aload_n 0, 1) := by decide +kernel
theorem dL_law_909 : decode cL_law 909 = .ok (.iload_n 3, 1) := by decide +kernel
theorem dL_law_910 : decode cL_law 910 = .ok (.iconst 2, 1) := by decide +kernel
theorem dL_law_911 : decode cL_law 911 = .ok (.iadd, 1) := by decide +kernel
theorem dL_law_912 : decode cL_law 912 = .ok (.iaload, 1) := by decide +kernel
theorem dL_law_913 : decode cL_law 913 = .ok (.invokevirtual 116, 3) := by decide +kernel
theorem dL_law_916 : decode cL_law 916 = .ok (.pop, 1) := by decide +kernel
theorem dL_law_917 : decode cL_law 917 = .ok (.aload_n 2, 1) := by decide +kernel
theorem dL_law_918 : decode cL_law 918 = .ok (.aload_n 0, 1) := by decide +kernel
theorem dL_law_919 : decode cL_law 919 = .ok (.iload_n 3, 1) := by decide +kernel
theorem dL_law_920 : decode cL_law 920 = .ok (.iconst 1, 1) := by decide +kernel
theorem dL_law_921 : decode cL_law 921 = .ok (.iadd, 1) := by decide +kernel
theorem dL_law_922 : decode cL_law 922 = .ok (.iaload, 1) := by decide +kernel
theorem dL_law_923 : decode cL_law 923 = .ok (.aload_n 0, 1) := by decide +kernel
theorem dL_law_924 : decode cL_law 924 = .ok (.iload_n 3, 1) := by decide +kernel
theorem dL_law_925 : decode cL_law 925 = .ok (.iconst 2, 1) := by decide +kernel
theorem dL_law_926 : decode cL_law 926 = .ok (.iadd, 1) := by decide +kernel
theorem dL_law_927 : decode cL_law 927 = .ok (.iaload, 1) := by decide +kernel
theorem dL_law_928 : decode cL_law 928 = .ok (.invokevirtual 119, 3) := by decide +kernel
theorem dL_law_931 : decode cL_law 931 = .ok (.pop, 1) := by decide +kernel
theorem dL_law_932 : decode cL_law 932 = .ok (.goto 325, 3) := by decide +kernel
theorem dL_law_935 : decode cL_law 935 = .ok (.aload_n 1, 1) := by decide +kernel
theorem dL_law_936 : decode cL_law 936 = .ok (.invokevirtual 120, 3) := by decide +kernel
theorem dL_law_939 : decode cL_law 939 = .ok (.pop, 1) := by decide +kernel
theorem dL_law_940 : decode cL_law 940 = .ok (.aload_n 2, 1) := by decide +kernel
theorem dL_law_941 : decode cL_law 941 = .ok (.invokevirtual 123, 3) := by decide +kernel
theorem dL_law_944 : decode cL_law 944 = .ok (.pop, 1) := by decide +kernel
theorem dL_law_945 : decode cL_law 945 = .ok (.goto 312, 3) := by decide +kernel
theorem dL_law_948 : decode cL_law 948 = .ok (.aload_n 1, 1) := by decide +kernel
theorem dL_law_949 : decode cL_law 949 = .ok (.aload_n 0, 1) := by decide +kernel
theorem dL_law_950 : decode cL_law 950 = .ok (.iload_n 3, 1) := by decide +kernel
theorem dL_law_951 : decode cL_law 951 = .ok (.iconst 1, 1) := by decide +kernel
theorem dL_law_952 : decode cL_law 952 = .ok (.iadd, 1) := by decide +kernel
theorem dL_law_953 : decode cL_law 953 = .ok (.iaload, 1) := by decide +kernel
theorem dL_law_954 : decode cL_law 954 = .ok (.invokevirtual 124, 3) := by decide +kernel
theorem dL_law_957 : decode cL_law 957 = .ok (.pop, 1) := by decide +kernel
theorem dL_law_958 : decode cL_law 958 = .ok (.aload_n 2, 1) := by decide +kernel
theorem dL_law_959 : decode cL_law 959 = .ok (.aload_n 0, 1) := by decide +kernel
theorem dL_law_960 : decode cL_law 960 = .ok (.iload_n 3, 1) := by decide +kernel
theorem dL_law_961 : decode cL_law 961 = .ok (.iconst 1, 1) := by decide +kernel
theorem dL_law_962 : decode cL_law 962 = .ok (.iadd, 1) := by decide +kernel
theorem dL_law_963 : decode cL_law 963 = .ok (.iaload, 1) := by decide +kernel
theorem dL_law_964 : decode cL_law 964 = .ok (.invokevirtual 127, 3) := by decide +kernel
theorem dL_law_967 : decode cL_law 967 = .ok (.pop, 1) := by decide +kernel
theorem dL_law_968 : decode cL_law 968 = .ok (.goto 289, 3) := by decide +kernel
theorem dL_law_971 : decode cL_law 971 = .ok (.aload_n 1, 1) := by decide +kernel
theorem dL_law_972 : decode cL_law 972 = .ok (.invokevirtual 128, 3) := by decide +kernel
theorem dL_law_975 : decode cL_law 975 = .ok (.pop, 1) := by decide +kernel
theorem dL_law_976 : decode cL_law 976 = .ok (.aload_n 2, 1) := by decide +kernel
theorem dL_law_977 : decode cL_law 977 = .ok (.invokevirtual 131, 3) := by decide +kernel
theorem dL_law_980 : decode cL_law 980 = .ok (.pop, 1) := by decide +kernel
theorem dL_law_981 : decode cL_law 981 = .ok (.goto 276, 3) := by decide +kernel
theorem dL_law_984 : decode cL_law 984 = .ok (.aload_n 1, 1) := by decide +kernel
theorem dL_law_985 : decode cL_law 985 = .ok (.aload_n 0, 1) := by decide +kernel
theorem dL_law_986 : decode cL_law 986 = .ok (.iload_n 3, 1) := by decide +kernel
theorem dL_law_987 : decode cL_law 987 = .ok (.iconst 1, 1) := by decide +kernel
theorem dL_law_988 : decode cL_law 988 = .ok (.iadd, 1) := by decide +kernel
theorem dL_law_989 : decode cL_law 989 = .ok (.iaload, 1) := by decide +kernel
theorem dL_law_990 : decode cL_law 990 = .ok (.invokevirtual 132, 3) := by decide +kernel
theorem dL_law_993 : decode cL_law 993 = .ok (.pop, 1) := by decide +kernel
theorem dL_law_994 : decode cL_law 994 = .ok (.aload_n 2, 1) := by decide +kernel
theorem dL_law_995 : decode cL_law 995 = .ok (.aload_n 0, 1) := by decide +kernel
theorem dL_law_996 : decode cL_law 996 = .ok (.iload_n 3, 1) := by decide +kernel
theorem dL_law_997 : decode cL_law 997 = .ok (.iconst 1, 1) := by decide +kernel
theorem dL_law_998 : decode cL_law 998 = .ok (.iadd, 1) := by decide +kernel
theorem dL_law_999 : decode cL_law 999 = .ok (.iaload, 1) := by decide +kernel
theorem dL_law_1000 : decode cL_law 1000 = .ok (.invokevirtual 135, 3) := by decide +kernel
theorem dL_law_1003 : decode cL_law 1003 = .ok (.pop, 1) := by decide +kernel
theorem dL_law_1004 : decode cL_law 1004 = .ok (.goto 253, 3) := by decide +kernel
theorem dL_law_1007 : decode cL_law 1007 = .ok (.aload_n 1, 1) := by decide +kernel
theorem dL_law_1008 : decode cL_law 1008 = .ok (.aload_n 0, 1) := by decide +kernel
theorem dL_law_1009 : decode cL_law 1009 = .ok (.iload_n 3, 1) := by decide +kernel
theorem dL_law_1010 : decode cL_law 1010 = .ok (.iconst 1, 1) := by decide +kernel
theorem dL_law_1011 : decode cL_law 1011 = .ok (.iadd, 1) := by decide +kernel
theorem dL_law_1012 : decode cL_law 1012 = .ok (.iaload, 1) := by decide +kernel
theorem dL_law_1013 : decode cL_law 1013 = .ok (.aload_n 0, 1) := by decide +kernel
theorem dL_law_1014 : decode cL_law 1014 = .ok (.iload_n 3, 1) := by decide +kernel
theorem dL_law_1015 : decode cL_law 1015 = .ok (.iconst 2, 1) := by decide +kernel
theorem dL_law_1016 : decode cL_law 1016 = .ok (.iadd, 1) := by decide +kernel
theorem dL_law_1017 : decode cL_law 1017 = .ok (.iaload, 1) := by decide +kernel
theorem dL_law_1018 : decode cL_law 1018 = .ok (.invokevirtual 136, 3) := by decide +kernel
theorem dL_law_1021 : decode cL_law 1021 = .ok (.pop2, 1) := by decide +kernel
theorem dL_law_1022 : decode cL_law 1022 = .ok (.aload_n 2, 1) := by decide +kernel
theorem dL_law_1023 : decode cL_law 1023 = .ok (.aload_n 0, 1) := by decide +kernel
theorem dL_law_1024 : decode cL_law 1024 = .ok (.iload_n 3, 1) := by decide +kernel
theorem dL_law_1025 : decode cL_law 1025 = .ok (.iconst 1, 1) := by decide +kernel
theorem dL_law_1026 : decode cL_law 1026 = .ok (.iadd, 1) := by decide +kernel
theorem dL_law_1027 : decode cL_law 1027 = .ok (.iaload, 1) := by decide +kernel
theorem dL_law_1028 : decode cL_law 1028 = .ok (.aload_n 0, 1) := by decide +kernel
theorem dL_law_1029 : decode cL_law 1029 = .ok (.iload_n 3, 1) := by decide +kernel
theorem dL_law_1030 : decode cL_law 1030 = .ok (.iconst 2, 1) := by decide +kernel
theorem dL_law_1031 : decode cL_law 1031 = .ok (.iadd, 1) := by decide +kernel
theorem dL_law_1032 : decode cL_law 1032 = .ok (.iaload, 1) := by decide +kernel
theorem dL_law_1033 : decode cL_law 1033 = .ok (.invokevirtual 140, 3) := by decide +kernel
theorem dL_law_1036 : decode cL_law 1036 = .ok (.pop2, 1) := by decide +kernel
theorem dL_law_1037 : decode cL_law 1037 = .ok (.goto 220, 3) := by decide +kernel
theorem dL_law_1040 : decode cL_law 1040 = .ok (.aload_n 1, 1) := by decide +kernel
theorem dL_law_1041 : decode cL_law 1041 = .ok (.aload_n 0, 1) := by decide +kernel
theorem dL_law_1042 : decode cL_law 1042 = .ok (.iload_n 3, 1) := by decide +kernel
theorem dL_law_1043 : decode cL_law 1043 = .ok (.iconst 1, 1) := by decide +kernel
theorem dL_law_1044 : decode cL_law 1044 = .ok (.iadd, 1) := by decide +kernel
theorem dL_law_1045 : decode cL_law 1045 = .ok (.iaload, 1) := by decide +kernel
theorem dL_law_1046 : decode cL_law 1046 = .ok (.invokevirtual 141, 3) := by decide +kernel
theorem dL_law_1049 : decode cL_law 1049 = .ok (.pop2, 1) := by decide +kernel
theorem dL_law_1050 : decode cL_law 1050 = .ok (.aload_n 2, 1) := by decide +kernel
theorem dL_law_1051 : decode cL_law 1051 = .ok (.aload_n 0, 1) := by decide +kernel
theorem dL_law_1052 : decode cL_law 1052 = .ok (.iload_n 3, 1) := by decide +kernel
theorem dL_law_1053 : decode cL_law 1053 = .ok (.iconst 1, 1) := by decide +kernel
theorem dL_law_1054 : decode cL_law 1054 = .ok (.iadd, 1) := by decide +kernel
theorem dL_law_1055 : decode cL_law 1055 = .ok (.iaload, 1) := by decide +kernel
theorem dL_law_1056 : decode cL_law 1056 = .ok (.invokevirtual 145, 3) := by decide +kernel
theorem dL_law_1059 : decode cL_law 1059 = .ok (.pop2, 1) := by decide +kernel
theorem dL_law_1060 : decode cL_law 1060 = .ok (.goto 197, 3) := by decide +kernel
theorem dL_law_1063 : decode cL_law 1063 = .ok (.aload_n 1, 1) := by decide +kernel
theorem dL_law_1064 : decode cL_law 1064 = .ok (.aload_n 0, 1) := by decide +kernel
theorem dL_law_1065 : decode cL_law 1065 = .ok (.iload_n 3, 1) := by decide +kernel
theorem dL_law_1066 : decode cL_law 1066 = .ok (.iconst 1, 1) := by decide +kernel
theorem dL_law_1067 : decode cL_law 1067 = .ok (.iadd, 1) := by decide +kernel
theorem dL_law_1068 : decode cL_law 1068 = .ok (.iaload, 1) := by decide +kernel
theorem dL_law_1069 : decode cL_law 1069 = .ok (.aload_n 0, 1) := by decide +kernel
theorem dL_law_1070 : decode cL_law 1070 = .ok (.iload_n 3, 1) := by decide +kernel
theorem dL_law_1071 : decode cL_law 1071 = .ok (.iconst 2, 1) := by decide +kernel
theorem dL_law_1072 : decode cL_law 1072 = .ok (.iadd, 1) := by decide +kernel
theorem dL_law_1073 : decode cL_law 1073 = .ok (.iaload, 1) := by decide +kernel
theorem dL_law_1074 : decode cL_law 1074 = .ok (.invokevirtual 146, 3) := by decide +kernel
theorem dL_law_1077 : decode cL_law 1077 = .ok (.pop, 1) := by decide +kernel
theorem dL_law_1078 : decode cL_law 1078 = .ok (.aload_n 2, 1) := by decide +kernel
theorem dL_law_1079 : decode cL_law 1079 = .ok (.aload_n 0, 1) := by decide +kernel
theorem dL_law_1080 : decode cL_law 1080 = .ok (.iload_n 3, 1) := by decide +kernel
theorem dL_law_1081 : decode cL_law 1081 = .ok (.iconst 1, 1) := by decide +kernel
theorem dL_law_1082 : decode cL_law 1082 = .ok (.iadd, 1) := by decide +kernel
theorem dL_law_1083 : decode cL_law 1083 = .ok (.iaload, 1) := by decide +kernel
theorem dL_law_1084 : decode cL_law 1084 = .ok (.aload_n 0, 1) := by decide +kernel
theorem dL_law_1085 : decode cL_law 1085 = .ok (.iload_n 3, 1) := by decide +kernel
theorem dL_law_1086 : decode cL_law 1086 = .ok (.iconst 2, 1) := by decide +kernel
theorem dL_law_1087 : decode cL_law 1087 = .ok (.iadd, 1) := by decide +kernel
theorem dL_law_1088 : decode cL_law 1088 = .ok (.iaload, 1) := by decide +kernel
theorem dL_law_1089 : decode cL_law 1089 = .ok (.invokevirtual 149, 3) := by decide +kernel
theorem dL_law_1092 : decode cL_law 1092 = .ok (.pop, 1) := by decide +kernel
theorem dL_law_1093 : decode cL_law 1093 = .ok (.goto 164, 3) := by decide +kernel
theorem dL_law_1096 : decode cL_law 1096 = .ok (.aload_n 1, 1) := by decide +kernel
theorem dL_law_1097 : decode cL_law 1097 = .ok (.invokevirtual 150, 3) := by decide +kernel
theorem dL_law_1100 : decode cL_law 1100 = .ok (.aload_n 2, 1) := by decide +kernel
theorem dL_law_1101 : decode cL_law 1101 = .ok (.invokevirtual 153, 3) := by decide +kernel
theorem dL_law_1104 : decode cL_law 1104 = .ok (.if_icmp .eq 153, 3) := by decide +kernel
theorem dL_law_1107 : decode cL_law 1107 = .ok (.iconst 0, 1) := by decide +kernel
theorem dL_law_1109 : decode cL_law 1109 = .ok (.aload_n 1, 1) := by decide +kernel
theorem dL_law_1110 : decode cL_law 1110 = .ok (.aload_n 0, 1) := by decide +kernel
theorem dL_law_1111 : decode cL_law 1111 = .ok (.iload_n 3, 1) := by decide +kernel
theorem dL_law_1112 : decode cL_law 1112 = .ok (.iconst 1, 1) := by decide +kernel
theorem dL_law_1113 : decode cL_law 1113 = .ok (.iadd, 1) := by decide +kernel
theorem dL_law_1114 : decode cL_law 1114 = .ok (.iaload, 1) := by decide +kernel
theorem dL_law_1115 : decode cL_law 1115 = .ok (.aload_n 0, 1) := by decide +kernel
theorem dL_law_1116 : decode cL_law 1116 = .ok (.iload_n 3, 1) := by decide +kernel
theorem dL_law_1117 : decode cL_law 1117 = .ok (.iconst 2, 1) := by decide +kernel
theorem dL_law_1118 : decode cL_law 1118 = .ok (.iadd, 1) := by decide +kernel
theorem dL_law_1119 : decode cL_law 1119 = .ok (.iaload, 1) := by decide +kernel
theorem dL_law_1120 : decode cL_law 1120 = .ok (.aload_n 0, 1) := by decide +kernel
theorem dL_law_1121 : decode cL_law 1121 = .ok (.iload_n 3, 1) := by decide +kernel
theorem dL_law_1122 : decode cL_law 1122 = .ok (.iconst 3, 1) := by decide +kernel
theorem dL_law_1123 : decode cL_law 1123 = .ok (.iadd, 1) := by decide +kernel
theorem dL_law_1124 : decode cL_law 1124 = .ok (.iaload, 1) := by decide +kernel
theorem dL_law_1125 : decode cL_law 1125 = .ok (.invokevirtual 154, 3) := by decide +kernel
theorem dL_law_1128 : decode cL_law 1128 = .ok (.pop, 1) := by decide +kernel
theorem dL_law_1129 : decode cL_law 1129 = .ok (.aload_n 2, 1) := by decide +kernel
theorem dL_law_1130 : decode cL_law 1130 = .ok (.aload_n 0, 1) := by decide +kernel
theorem dL_law_1131 : decode cL_law 1131 = .ok (.iload_n 3, 1) := by decide +kernel
theorem dL_law_1132 : decode cL_law 1132 = .ok (.iconst 1, 1) := by decide +kernel
theorem dL_law_1133 : decode cL_law 1133 = .ok (.iadd, 1) := by decide +kernel
theorem dL_law_1134 : decode cL_law 1134 = .ok (.iaload, 1) := by decide +kernel
theorem dL_law_1135 : decode cL_law 1135 = .ok (.aload_n 0, 1) := by decide +kernel
theorem dL_law_1136 : decode cL_law 1136 = .ok (.iload_n 3, 1) := by decide +kernel
theorem dL_law_1137 : decode cL_law 1137 = .ok (.iconst 2, 1) := by decide +kernel
theorem dL_law_1138 : decode cL_law 1138 = .ok (.iadd, 1) := by decide +kernel
theorem dL_law_1139 : decode cL_law 1139 = .ok (.iaload, 1) := by decide +kernel
theorem dL_law_1140 : decode cL_law 1140 = .ok (.aload_n 0, 1) := by decide +kernel
theorem dL_law_1141 : decode cL_law 1141 = .ok (.iload_n 3, 1) := by decide +kernel
theorem dL_law_1142 : decode cL_law 1142 = .ok (.iconst 3, 1) := by decide +kernel
theorem dL_law_1143 : decode cL_law 1143 = .ok (.iadd, 1) := by decide +kernel
theorem dL_law_1144 : decode cL_law 1144 = .ok (.iaload, 1) := by decide +kernel
theorem dL_law_1145 : decode cL_law 1145 = .ok (.invokevirtual 157, 3) := by decide +kernel
theorem dL_law_1148 : decode cL_law 1148 = .ok (.pop, 1) := by decide +kernel
theorem dL_law_1149 : decode cL_law 1149 = .ok (.goto 108, 3) := by decide +kernel
theorem dL_law_1152 : decode cL_law 1152 = .ok (.aload_n 1, 1) := by decide +kernel
theorem dL_law_1153 : decode cL_law 1153 = .ok (.aload_n 0, 1) := by decide +kernel
theorem dL_law_1154 : decode cL_law 1154 = .ok (.iload_n 3, 1) := by decide +kernel
theorem dL_law_1155 : decode cL_law 1155 = .ok (.iconst 1, 1) := by decide +kernel
theorem dL_law_1156 : decode cL_law 1156 = .ok (.iadd, 1) := by decide +kernel
theorem dL_law_1157 : decode cL_law 1157 = .ok (.iaload, 1) := by decide +kernel
theorem dL_law_1158 : decode cL_law 1158 = .ok (.invokevirtual 158, 3) := by decide +kernel
theorem dL_law_1161 : decode cL_law 1161 = .ok (.pop, 1) := by decide +kernel
theorem dL_law_1162 : decode cL_law 1162 = .ok (.aload_n 2, 1) := by decide +kernel
theorem dL_law_1163 : decode cL_law 1163 = .ok (.aload_n 0, 1) := by decide +kernel
theorem dL_law_1164 : decode cL_law 1164 = .ok (.iload_n 3, 1) := by decide +kernel
theorem dL_law_1165 : decode cL_law 1165 = .ok (.iconst 1, 1) := by decide +kernel
theorem dL_law_1166 : decode cL_law 1166 = .ok (.iadd, 1) := by decide +kernel
theorem dL_law_1167 : decode cL_law 1167 = .ok (.iaload, 1) := by decide +kernel
theorem dL_law_1168 : decode cL_law 1168 = .ok (.invokevirtual 161, 3) := by decide +kernel
theorem dL_law_1171 : decode cL_law 1171 = .ok (.pop, 1) := by decide +kernel
theorem dL_law_1172 : decode cL_law 1172 = .ok (.goto 85, 3) := by decide +kernel
theorem dL_law_1175 : decode cL_law 1175 = .ok (.aload_n 1, 1) := by decide +kernel
theorem dL_law_1176 : decode cL_law 1176 = .ok (.aload_n 0, 1) := by decide +kernel
theorem dL_law_1177 : decode cL_law 1177 = .ok (.iload_n 3, 1) := by decide +kernel
theorem dL_law_1178 : decode cL_law 1178 = .ok (.iconst 1, 1) := by decide +kernel
theorem dL_law_1179 : decode cL_law 1179 = .ok (.iadd, 1) := by decide +kernel
theorem dL_law_1180 : decode cL_law 1180 = .ok (.iaload, 1) := by decide +kernel
theorem dL_law_1181 : decode cL_law 1181 = .ok (.aload_n 0, 1) := by decide +kernel
theorem dL_law_1182 : decode cL_law 1182 = .ok (.iload_n 3, 1) := by decide +kernel
theorem dL_law_1183 : decode cL_law 1183 = .ok (.iconst 2, 1) := by decide +kernel
theorem dL_law_1184 : decode cL_law 1184 = .ok (.iadd, 1) := by decide +kernel
theorem dL_law_1185 : decode cL_law 1185 = .ok (.iaload, 1) := by decide +kernel
theorem dL_law_1186 : decode cL_law 1186 = .ok (.invokevirtual 162, 3) := by decide +kernel
theorem dL_law_1189 : decode cL_law 1189 = .ok (.pop, 1) := by decide +kernel
theorem dL_law_1190 : decode cL_law 1190 = .ok (.aload_n 2, 1) := by decide +kernel
theorem dL_law_1191 : decode cL_law 1191 = .ok (.aload_n 0, 1) := by decide +kernel
theorem dL_law_1192 : decode cL_law 1192 = .ok (.iload_n 3, 1) := by decide +kernel
theorem dL_law_1193 : decode cL_law 1193 = .ok (.iconst 1, 1) := by decide +kernel
theorem dL_law_1194 : decode cL_law 1194 = .ok (.iadd, 1) := by decide +kernel
theorem dL_law_1195 : decode cL_law 1195 = .ok (.iaload, 1) := by decide +kernel
theorem dL_law_1196 : decode cL_law 1196 = .ok (.aload_n 0, 1) := by decide +kernel
theorem dL_law_1197 : decode cL_law 1197 = .ok (.iload_n 3, 1) := by decide +kernel
theorem dL_law_1198 : decode cL_law 1198 = .ok (.iconst 2, 1) := by decide +kernel
theorem dL_law_1199 : decode cL_law 1199 = .ok (.iadd, 1) := by decide +kernel
theorem dL_law_1200 : decode cL_law 1200 = .ok (.iaload, 1) := by decide +kernel
theorem dL_law_1201 : decode cL_law 1201 = .ok (.invokevirtual 165, 3) := by decide +kernel
theorem dL_law_1204 : decode cL_law 1204 = .ok (.pop, 1) := by decide +kernel
theorem dL_law_1205 : decode cL_law 1205 = .ok (.goto 52, 3) := by decide +kernel
theorem dL_law_1208 : decode cL_law 1208 = .ok (.aload_n 1, 1) := by decide +kernel
theorem dL_law_1209 : decode cL_law 1209 = .ok (.invokevirtual 166, 3) := by decide +kernel
theorem dL_law_1212 : decode cL_law 1212 = .ok (.pop, 1) := by decide +kernel
theorem dL_law_1213 : decode cL_law 1213 = .ok (.aload_n 2, 1) := by decide +kernel
theorem dL_law_1214 : decode cL_law 1214 = .ok (.invokevirtual 169, 3) := by decide +kernel
theorem dL_law_1217 : decode cL_law 1217 = .ok (.pop, 1) := by decide +kernel
theorem dL_law_1218 : decode cL_law 1218 = .ok (.goto 39, 3) := by decide +kernel
theorem dL_law_1221 : decode cL_law 1221 = .ok (.aload_n 1, 1) := by decide +kernel
theorem dL_law_1222 : decode cL_law 1222 = .ok (.invokevirtual 170, 3) := by decide +kernel
theorem dL_law_1225 : decode cL_law 1225 = .ok (.pop, 1) := by decide +kernel
theorem dL_law_1226 : decode cL_law 1226 = .ok (.aload_n 2, 1) := by decide +kernel
theorem dL_law_1227 : decode cL_law 1227 = .ok (.invokevirtual 173, 3) := by decide +kernel
theorem dL_law_1230 : decode cL_law 1230 = .ok (.pop, 1) := by decide +kernel
theorem dL_law_1231 : decode cL_law 1231 = .ok (.goto 26, 3) := by decide +kernel
theorem dL_law_1234 : decode cL_law 1234 = .ok (.aload_n 1, 1) := by decide +kernel
theorem dL_law_1235 : decode cL_law 1235 = .ok (.aload_n 0, 1) := by decide +kernel
theorem dL_law_1236 : decode cL_law 1236 = .ok (.iload_n 3, 1) := by decide +kernel
theorem dL_law_1237 : decode cL_law 1237 = .ok (.iconst 1, 1) := by decide +kernel
theorem dL_law_1238 : decode cL_law 1238 = .ok (.iadd, 1) := by decide +kernel
theorem dL_law_1239 : decode cL_law 1239 = .ok (.iaload, 1) := by decide +kernel
theorem dL_law_1240 : decode cL_law 1240 = .ok (.invokevirtual 174, 3) := by decide +kernel
theorem dL_law_1243 : decode cL_law 1243 = .ok (.pop, 1) := by decide +kernel
theorem dL_law_1244 : decode cL_law 1244 = .ok (.aload_n 2, 1) := by decide +kernel
theorem dL_law_1245 : decode cL_law 1245 = .ok (.aload_n 0, 1) := by decide +kernel
theorem dL_law_1246 : decode cL_law 1246 = .ok (.iload_n 3, 1) := by decide +kernel
theorem dL_law_1247 : decode cL_law 1247 = .ok (.iconst 1, 1) := by decide +kernel
theorem dL_law_1248 : decode cL_law 1248 = .ok (.iadd, 1) := by decide +kernel
theorem dL_law_1249 : decode cL_law 1249 = .ok (.iaload, 1) := by decide +kernel
theorem dL_law_1250 : decode cL_law 1250 = .ok (.invokevirtual 177, 3) := by decide +kernel
theorem dL_law_1253 : decode cL_law 1253 = .ok (.pop, 1) := by decide +kernel
theorem dL_law_1254 : decode cL_law 1254 = .ok (.goto 3, 3) := by decide +kernel
theorem dL_law_1257 : decode cL_law 1257 = .ok (.iinc 3 6, 3) := by decide +kernel
theorem dL_law_1260 : decode cL_law 1260 = .ok (.goto (-1242), 3) := by decide +kernel
theorem dL_law_1263 : decode cL_law 1263 = .ok (.iconst 1, 1) := by decide +kernel
theorem dL_law_1264 : decode cL_law 1264 = .ok (.ireturn, 1) := by decide +kernel
def F_L_204 (xs : Nat → Int32) (L : Nat) (rec : Nat → (Nat → Nat) → (Nat → Nat) → SG → RG → Int32 → Option Unit) (N : Nat) (K len : Nat → Nat) (σ : SG) (ρ : RG) (v3 : Int32) : Option Unit :=
  nm (v3 + (1 : Int32)) fun x1 =>
  gd (inb x1 L) <|
  bn2 (F_X11_feed (xs (x1).toNatClampNeg) σ ρ) fun r3 σ3 =>
  nm (v3 + (1 : Int32)) fun x4 =>
  gd (inb x4 L) <|
  bn2 (F_X12_feed (xs (x4).toNatClampNeg) σ3 ρ) fun r6 σ6 =>
  nm (v3 + (6 : Int32)) fun x7 =>
  rec N K len σ6 ρ x7
set_option maxHeartbeats 4000000 in
set_option maxRecDepth 100000 in
theorem wl_204 {p : Program} {e : Env} {s : State} {m : MethodId} {below : List Frame} {meth : Method} {c : Code} {b L : Nat} {xs : Nat → Int32} {rec : Nat → (Nat → Nat) → (Nat → Nat) → SG → RG → Int32 → Option Unit} {c1 s1 : Nat} (hX : va_X b L xs s s.heap) (hbl : b < s.heap.size) (hrec : ∀ (N : Nat) (ad K len : Nat → Nat) (σ : SG) (ρ : RG) (v3 : Int32) (H : Heap) (locs : List Loc) (cells slots : Nat) (ls : Array Slot), cells ≤ c1 → slots ≤ s1 → rec N K len σ ρ v3 = some () → Lay N K len ρ → RC N ρ → Cx Y D N ad p s m #[Value.ref b] meth c cL_law 4 ret RL wsL_law → WP Y D N ad K len σ ρ H → va_S (AA N ad s.heap.size) s.heap H locs → AA N ad s.heap.size = (fun q => s.heap.size ≤ q) → lv_has ls 4 [(0, .ref b), (1, .ref (ad 0)), (2, .ref (ad 54)), (3, .int v3)] → W p l e room_1 s m #[Value.ref b] below meth c H locs cells slots (lw_Z below #[Value.ref b] s) (F0 m 18 ls [])) {N : Nat} {ad K len : Nat → Nat} {σ : SG} {ρ : RG} {v3 : Int32} {H : Heap} {locs : List Loc} {cells slots : Nat} {ls : Array Slot} (hc1 : c1 ≤ 600000) (hs1 : s1 ≤ 7302250) (hcc : cells + 14 ≤ c1) (hss : slots + 90 ≤ s1) (hF : F_L_204 xs L rec N K len σ ρ v3 = some ()) (hL : Lay N K len ρ) (hR : RC N ρ) (C : Cx Y D N ad p s m #[Value.ref b] meth c cL_law 4 ret RL wsL_law) (hP : WP Y D N ad K len σ ρ H) (hS : va_S (AA N ad s.heap.size) s.heap H locs) (hAQ : AA N ad s.heap.size = (fun q => s.heap.size ≤ q)) (hl : lv_has ls 4 [(0, .ref b), (1, .ref (ad 0)), (2, .ref (ad 54)), (3, .int v3)]) : W p l e room_1 s m #[Value.ref b] below meth c H locs cells slots (lw_Z below #[Value.ref b] s) (F0 m 204 ls []) := by
  have hx := C.1.1
  have hb := C.1.2.1
  have hbA : ¬ AA N ad s.heap.size b := by rw [hAQ]; exact Nat.not_le.mpr hbl
  unfold F_L_204 at hF
  refine lv_aload_n hx hb dL_law_204 rfl (lv_at hl 1 rfl) ?_
  refine lv_aload_n hx hb dL_law_205 rfl (lv_at hl 0 rfl) ?_
  refine lv_iload_n hx hb dL_law_206 rfl (lv_at hl 3 rfl) ?_
  refine lv_iconst (v := 1) hx hb dL_law_207 (by decide) ?_
  refine lv_iadd hx hb dL_law_208 ?_
  obtain ⟨x1, ex1, hF⟩ := nm_1 hF
  refine x_top ex1 ?_
  obtain ⟨g2, hF⟩ := gd_1 hF
  refine va_sld hx hb hX hbl hbA hS (inb_in g2) dL_law_209 ?_
  obtain ⟨r3, σ3, hq3, hF⟩ := bn2_1 hF
  refine x_callV (ci := 11) rfl rfl C hP hS (c_X11_feed hL hq3) (lr_0 hL) (lk_0 hL) (cwV 1 C.1.2.2.2.2 (gdV mw_91 mw_92 mw_93 mw_2 mw_94) rfl rfl rfl hd_X11_feed ⟨(Nat.le_of_ble_eq_true rfl), (Nat.le_of_ble_eq_true rfl)⟩) rfl rfl hl.1 (Nat.le_of_ble_eq_true rfl) ⟨by show _ ≤ 600000; omega, by show _ ≤ 7302250; omega⟩ dL_law_210 (fun H locs hP hS => ?_)
  refine lv_pop hx hb dL_law_213 rfl ?_
  refine lv_aload_n hx hb dL_law_214 rfl (lv_at hl 2 rfl) ?_
  refine lv_aload_n hx hb dL_law_215 rfl (lv_at hl 0 rfl) ?_
  refine lv_iload_n hx hb dL_law_216 rfl (lv_at hl 3 rfl) ?_
  refine lv_iconst (v := 1) hx hb dL_law_217 (by decide) ?_
  refine lv_iadd hx hb dL_law_218 ?_
  obtain ⟨x4, ex4, hF⟩ := nm_1 hF
  refine x_top ex4 ?_
  obtain ⟨g5, hF⟩ := gd_1 hF
  refine va_sld hx hb hX hbl hbA hS (inb_in g5) dL_law_219 ?_
  obtain ⟨r6, σ6, hq6, hF⟩ := bn2_1 hF
  refine x_callV (ci := 12) rfl rfl C hP hS (c_X12_feed hL hq6) (lr_54 hL) (lk_54 hL) (cwV 1 C.1.2.2.2.2 (gdV mw_100 mw_101 mw_102 mw_5 mw_103) rfl rfl rfl hd_X12_feed ⟨(Nat.le_of_ble_eq_true rfl), (Nat.le_of_ble_eq_true rfl)⟩) rfl rfl hl.1 (Nat.le_of_ble_eq_true rfl) ⟨by show _ ≤ 600000; omega, by show _ ≤ 7302250; omega⟩ dL_law_220 (fun H locs hP hS => ?_)
  refine lv_pop hx hb dL_law_223 rfl ?_
  refine lv_goto (tgt := 1257) hx hb dL_law_224 (by decide) ?_
  obtain ⟨x7, ex7, hF⟩ := nm_1 hF
  refine lv_iinc (v := x7) (lv' := [(3, .int x7), (0, .ref b), (1, .ref (ad 0)), (2, .ref (ad 54))]) hx hb dL_law_1257 hl (k := 3) rfl (by rw [ex7]; first | rfl | decide) (by decide) rfl (fun ls hl => ?_)
  refine lv_goto (tgt := 18) hx hb dL_law_1260 (by decide) ?_
  exact hrec _ _ _ _ _ _ _ _ _ _ _ _ (by omega) (by omega) hF hL hR C hP hS hAQ (lv_sub hl [1, 2, 3, 0] rfl)
def F_L_227 (xs : Nat → Int32) (L : Nat) (rec : Nat → (Nat → Nat) → (Nat → Nat) → SG → RG → Int32 → Option Unit) (N : Nat) (K len : Nat → Nat) (σ : SG) (ρ : RG) (v3 : Int32) : Option Unit :=
  bn3 (F_X11_board σ ρ) fun r1 σ1 ρ1 =>
  bn2 (F_X12_board σ1 ρ1) fun r2 σ2 =>
  nm (v3 + (6 : Int32)) fun x3 =>
  rec N K len σ2 ρ1 x3
set_option maxHeartbeats 4000000 in
set_option maxRecDepth 100000 in
theorem wl_227 {p : Program} {e : Env} {s : State} {m : MethodId} {below : List Frame} {meth : Method} {c : Code} {b L : Nat} {xs : Nat → Int32} {rec : Nat → (Nat → Nat) → (Nat → Nat) → SG → RG → Int32 → Option Unit} {c1 s1 : Nat} (hX : va_X b L xs s s.heap) (hbl : b < s.heap.size) (hrec : ∀ (N : Nat) (ad K len : Nat → Nat) (σ : SG) (ρ : RG) (v3 : Int32) (H : Heap) (locs : List Loc) (cells slots : Nat) (ls : Array Slot), cells ≤ c1 → slots ≤ s1 → rec N K len σ ρ v3 = some () → Lay N K len ρ → RC N ρ → Cx Y D N ad p s m #[Value.ref b] meth c cL_law 4 ret RL wsL_law → WP Y D N ad K len σ ρ H → va_S (AA N ad s.heap.size) s.heap H locs → AA N ad s.heap.size = (fun q => s.heap.size ≤ q) → lv_has ls 4 [(0, .ref b), (1, .ref (ad 0)), (2, .ref (ad 54)), (3, .int v3)] → W p l e room_1 s m #[Value.ref b] below meth c H locs cells slots (lw_Z below #[Value.ref b] s) (F0 m 18 ls [])) {N : Nat} {ad K len : Nat → Nat} {σ : SG} {ρ : RG} {v3 : Int32} {H : Heap} {locs : List Loc} {cells slots : Nat} {ls : Array Slot} (hc1 : c1 ≤ 600000) (hs1 : s1 ≤ 7302250) (hcc : cells + 14 ≤ c1) (hss : slots + 90 ≤ s1) (hF : F_L_227 xs L rec N K len σ ρ v3 = some ()) (hL : Lay N K len ρ) (hR : RC N ρ) (C : Cx Y D N ad p s m #[Value.ref b] meth c cL_law 4 ret RL wsL_law) (hP : WP Y D N ad K len σ ρ H) (hS : va_S (AA N ad s.heap.size) s.heap H locs) (hAQ : AA N ad s.heap.size = (fun q => s.heap.size ≤ q)) (hl : lv_has ls 4 [(0, .ref b), (1, .ref (ad 0)), (2, .ref (ad 54)), (3, .int v3)]) : W p l e room_1 s m #[Value.ref b] below meth c H locs cells slots (lw_Z below #[Value.ref b] s) (F0 m 227 ls []) := by
  have hx := C.1.1
  have hb := C.1.2.1
  have hbA : ¬ AA N ad s.heap.size b := by rw [hAQ]; exact Nat.not_le.mpr hbl
  unfold F_L_227 at hF
  refine lv_aload_n hx hb dL_law_227 rfl (lv_at hl 1 rfl) ?_
  obtain ⟨r1, σ1, ρ1, hq1, hF⟩ := bn3_1 hF
  refine x_callV (ci := 11) rfl rfl C hP hS (c_X11_board hL hq1) (lr_0 hL) (lk_0 hL) (cwV 0 C.1.2.2.2.2 (gdV mw_107 mw_108 mw_109 mw_2 mw_110) rfl rfl rfl hd_X11_board ⟨(Nat.le_of_ble_eq_true rfl), (Nat.le_of_ble_eq_true rfl)⟩) rfl rfl hl.1 (Nat.le_of_ble_eq_true rfl) ⟨by show _ ≤ 600000; omega, by show _ ≤ 7302250; omega⟩ dL_law_228 (fun H locs hP hS => ?_)
  have hR := kr_X11_board hL hR hq1
  have hL := k_X11_board hL hq1
  refine lv_pop hx hb dL_law_231 rfl ?_
  refine lv_aload_n hx hb dL_law_232 rfl (lv_at hl 2 rfl) ?_
  obtain ⟨r2, σ2, hq2, hF⟩ := bn2_1 hF
  refine x_callV (ci := 12) rfl rfl C hP hS (c_X12_board hL hq2) (lr_54 hL) (lk_54 hL) (cwV 0 C.1.2.2.2.2 (gdV mw_289 mw_290 mw_291 mw_5 mw_292) rfl rfl rfl hd_X12_board ⟨(Nat.le_of_ble_eq_true rfl), (Nat.le_of_ble_eq_true rfl)⟩) rfl rfl hl.1 (Nat.le_of_ble_eq_true rfl) ⟨by show _ ≤ 600000; omega, by show _ ≤ 7302250; omega⟩ dL_law_233 (fun H locs hP hS => ?_)
  refine lv_pop hx hb dL_law_236 rfl ?_
  refine lv_goto (tgt := 1257) hx hb dL_law_237 (by decide) ?_
  obtain ⟨x3, ex3, hF⟩ := nm_1 hF
  refine lv_iinc (v := x3) (lv' := [(3, .int x3), (0, .ref b), (1, .ref (ad 0)), (2, .ref (ad 54))]) hx hb dL_law_1257 hl (k := 3) rfl (by rw [ex3]; first | rfl | decide) (by decide) rfl (fun ls hl => ?_)
  refine lv_goto (tgt := 18) hx hb dL_law_1260 (by decide) ?_
  exact hrec _ _ _ _ _ _ _ _ _ _ _ _ (by omega) (by omega) hF hL hR C hP hS hAQ (lv_sub hl [1, 2, 3, 0] rfl)
def F_L_240 (xs : Nat → Int32) (L : Nat) (rec : Nat → (Nat → Nat) → (Nat → Nat) → SG → RG → Int32 → Option Unit) (N : Nat) (K len : Nat → Nat) (σ : SG) (ρ : RG) (v3 : Int32) : Option Unit :=
  nm (v3 + (1 : Int32)) fun x1 =>
  gd (inb x1 L) <|
  nm (v3 + (2 : Int32)) fun x3 =>
  gd (inb x3 L) <|
  nm (v3 + (3 : Int32)) fun x5 =>
  gd (inb x5 L) <|
  nm (v3 + (4 : Int32)) fun x7 =>
  gd (inb x7 L) <|
  nm (v3 + (5 : Int32)) fun x9 =>
  gd (inb x9 L) <|
  bnT (F_X11_cutter (xs (x1).toNatClampNeg) (xs (x3).toNatClampNeg) (xs (x5).toNatClampNeg) (xs (x7).toNatClampNeg) (xs (x9).toNatClampNeg) N K len σ ρ) fun r11 N11 K11 L11 σ11 ρ11 =>
  nm (v3 + (1 : Int32)) fun x12 =>
  gd (inb x12 L) <|
  nm (v3 + (2 : Int32)) fun x14 =>
  gd (inb x14 L) <|
  nm (v3 + (3 : Int32)) fun x16 =>
  gd (inb x16 L) <|
  nm (v3 + (4 : Int32)) fun x18 =>
  gd (inb x18 L) <|
  nm (v3 + (5 : Int32)) fun x20 =>
  gd (inb x20 L) <|
  bn2 (F_X12_cutter (xs (x12).toNatClampNeg) (xs (x14).toNatClampNeg) (xs (x16).toNatClampNeg) (xs (x18).toNatClampNeg) (xs (x20).toNatClampNeg) σ11 ρ11) fun r22 σ22 =>
  nm (v3 + (6 : Int32)) fun x23 =>
  rec N11 K11 L11 σ22 ρ11 x23
set_option maxHeartbeats 4000000 in
set_option maxRecDepth 100000 in
theorem wl_240 {p : Program} {e : Env} {s : State} {m : MethodId} {below : List Frame} {meth : Method} {c : Code} {b L : Nat} {xs : Nat → Int32} {rec : Nat → (Nat → Nat) → (Nat → Nat) → SG → RG → Int32 → Option Unit} {c1 s1 : Nat} (hX : va_X b L xs s s.heap) (hbl : b < s.heap.size) (hrec : ∀ (N : Nat) (ad K len : Nat → Nat) (σ : SG) (ρ : RG) (v3 : Int32) (H : Heap) (locs : List Loc) (cells slots : Nat) (ls : Array Slot), cells ≤ c1 → slots ≤ s1 → rec N K len σ ρ v3 = some () → Lay N K len ρ → RC N ρ → Cx Y D N ad p s m #[Value.ref b] meth c cL_law 4 ret RL wsL_law → WP Y D N ad K len σ ρ H → va_S (AA N ad s.heap.size) s.heap H locs → AA N ad s.heap.size = (fun q => s.heap.size ≤ q) → lv_has ls 4 [(0, .ref b), (1, .ref (ad 0)), (2, .ref (ad 54)), (3, .int v3)] → W p l e room_1 s m #[Value.ref b] below meth c H locs cells slots (lw_Z below #[Value.ref b] s) (F0 m 18 ls [])) {N : Nat} {ad K len : Nat → Nat} {σ : SG} {ρ : RG} {v3 : Int32} {H : Heap} {locs : List Loc} {cells slots : Nat} {ls : Array Slot} (hc1 : c1 ≤ 600000) (hs1 : s1 ≤ 7302250) (hcc : cells + 14 ≤ c1) (hss : slots + 90 ≤ s1) (hF : F_L_240 xs L rec N K len σ ρ v3 = some ()) (hL : Lay N K len ρ) (hR : RC N ρ) (C : Cx Y D N ad p s m #[Value.ref b] meth c cL_law 4 ret RL wsL_law) (hP : WP Y D N ad K len σ ρ H) (hS : va_S (AA N ad s.heap.size) s.heap H locs) (hAQ : AA N ad s.heap.size = (fun q => s.heap.size ≤ q)) (hl : lv_has ls 4 [(0, .ref b), (1, .ref (ad 0)), (2, .ref (ad 54)), (3, .int v3)]) : W p l e room_1 s m #[Value.ref b] below meth c H locs cells slots (lw_Z below #[Value.ref b] s) (F0 m 240 ls []) := by
  have hx := C.1.1
  have hb := C.1.2.1
  have hbA : ¬ AA N ad s.heap.size b := by rw [hAQ]; exact Nat.not_le.mpr hbl
  unfold F_L_240 at hF
  refine lv_aload_n hx hb dL_law_240 rfl (lv_at hl 1 rfl) ?_
  refine lv_aload_n hx hb dL_law_241 rfl (lv_at hl 0 rfl) ?_
  refine lv_iload_n hx hb dL_law_242 rfl (lv_at hl 3 rfl) ?_
  refine lv_iconst (v := 1) hx hb dL_law_243 (by decide) ?_
  refine lv_iadd hx hb dL_law_244 ?_
  obtain ⟨x1, ex1, hF⟩ := nm_1 hF
  refine x_top ex1 ?_
  obtain ⟨g2, hF⟩ := gd_1 hF
  refine va_sld hx hb hX hbl hbA hS (inb_in g2) dL_law_245 ?_
  refine lv_aload_n hx hb dL_law_246 rfl (lv_at hl 0 rfl) ?_
  refine lv_iload_n hx hb dL_law_247 rfl (lv_at hl 3 rfl) ?_
  refine lv_iconst (v := 2) hx hb dL_law_248 (by decide) ?_
  refine lv_iadd hx hb dL_law_249 ?_
  obtain ⟨x3, ex3, hF⟩ := nm_1 hF
  refine x_top ex3 ?_
  obtain ⟨g4, hF⟩ := gd_1 hF
  refine va_sld hx hb hX hbl hbA hS (inb_in g4) dL_law_250 ?_
  refine lv_aload_n hx hb dL_law_251 rfl (lv_at hl 0 rfl) ?_
  refine lv_iload_n hx hb dL_law_252 rfl (lv_at hl 3 rfl) ?_
  refine lv_iconst (v := 3) hx hb dL_law_253 (by decide) ?_
  refine lv_iadd hx hb dL_law_254 ?_
  obtain ⟨x5, ex5, hF⟩ := nm_1 hF
  refine x_top ex5 ?_
  obtain ⟨g6, hF⟩ := gd_1 hF
  refine va_sld hx hb hX hbl hbA hS (inb_in g6) dL_law_255 ?_
  refine lv_aload_n hx hb dL_law_256 rfl (lv_at hl 0 rfl) ?_
  refine lv_iload_n hx hb dL_law_257 rfl (lv_at hl 3 rfl) ?_
  refine lv_iconst (v := 4) hx hb dL_law_258 (by decide) ?_
  refine lv_iadd hx hb dL_law_259 ?_
  obtain ⟨x7, ex7, hF⟩ := nm_1 hF
  refine x_top ex7 ?_
  obtain ⟨g8, hF⟩ := gd_1 hF
  refine va_sld hx hb hX hbl hbA hS (inb_in g8) dL_law_260 ?_
  refine lv_aload_n hx hb dL_law_261 rfl (lv_at hl 0 rfl) ?_
  refine lv_iload_n hx hb dL_law_262 rfl (lv_at hl 3 rfl) ?_
  refine lv_iconst (v := 5) hx hb dL_law_263 (by decide) ?_
  refine lv_iadd hx hb dL_law_264 ?_
  obtain ⟨x9, ex9, hF⟩ := nm_1 hF
  refine x_top ex9 ?_
  obtain ⟨g10, hF⟩ := gd_1 hF
  refine va_sld hx hb hX hbl hbA hS (inb_in g10) dL_law_265 ?_
  obtain ⟨r11, N11, K11, L11, σ11, ρ11, hq11, hF⟩ := bnT_1 hF
  obtain ⟨hN11, hL11, hR11, hO11⟩ := k_X11_cutter hL hR hq11
  refine x_callVC (ws := (Cond.code yX11_cutter cX11_cutter 7 (some .int) :: wsL_law)) (ci := 11) rfl rfl C hP hS (c_X11_cutter hL hR hq11) (lr_0 hL) (lk_0 hL) (cwV 5 C.1.2.2.2.2 (gdV mw_348 mw_349 mw_350 mw_2 mw_351) rfl rfl rfl hd_X11_cutter ⟨(Nat.le_of_ble_eq_true rfl), (Nat.le_of_ble_eq_true rfl)⟩) rfl rfl hl.1 (Nat.le_of_ble_eq_true rfl) ⟨by show _ ≤ 600000; omega, by show _ ≤ 7302250; omega⟩ dL_law_266 (fun ad11 H locs hE hA C hP hS => ?_)
  rw [← hE 0 (lr_0 hL)] at hl
  rw [← hE 54 (lr_54 hL)] at hl
  have hAQ := hA.trans hAQ
  have hbA := fun h => hbA (hA ▸ h)
  have hL := hL11
  have hR := hR11
  refine lv_pop hx hb dL_law_269 rfl ?_
  refine lv_aload_n hx hb dL_law_270 rfl (lv_at hl 2 rfl) ?_
  refine lv_aload_n hx hb dL_law_271 rfl (lv_at hl 0 rfl) ?_
  refine lv_iload_n hx hb dL_law_272 rfl (lv_at hl 3 rfl) ?_
  refine lv_iconst (v := 1) hx hb dL_law_273 (by decide) ?_
  refine lv_iadd hx hb dL_law_274 ?_
  obtain ⟨x12, ex12, hF⟩ := nm_1 hF
  refine x_top ex12 ?_
  obtain ⟨g13, hF⟩ := gd_1 hF
  refine va_sld hx hb hX hbl hbA hS (inb_in g13) dL_law_275 ?_
  refine lv_aload_n hx hb dL_law_276 rfl (lv_at hl 0 rfl) ?_
  refine lv_iload_n hx hb dL_law_277 rfl (lv_at hl 3 rfl) ?_
  refine lv_iconst (v := 2) hx hb dL_law_278 (by decide) ?_
  refine lv_iadd hx hb dL_law_279 ?_
  obtain ⟨x14, ex14, hF⟩ := nm_1 hF
  refine x_top ex14 ?_
  obtain ⟨g15, hF⟩ := gd_1 hF
  refine va_sld hx hb hX hbl hbA hS (inb_in g15) dL_law_280 ?_
  refine lv_aload_n hx hb dL_law_281 rfl (lv_at hl 0 rfl) ?_
  refine lv_iload_n hx hb dL_law_282 rfl (lv_at hl 3 rfl) ?_
  refine lv_iconst (v := 3) hx hb dL_law_283 (by decide) ?_
  refine lv_iadd hx hb dL_law_284 ?_
  obtain ⟨x16, ex16, hF⟩ := nm_1 hF
  refine x_top ex16 ?_
  obtain ⟨g17, hF⟩ := gd_1 hF
  refine va_sld hx hb hX hbl hbA hS (inb_in g17) dL_law_285 ?_
  refine lv_aload_n hx hb dL_law_286 rfl (lv_at hl 0 rfl) ?_
  refine lv_iload_n hx hb dL_law_287 rfl (lv_at hl 3 rfl) ?_
  refine lv_iconst (v := 4) hx hb dL_law_288 (by decide) ?_
  refine lv_iadd hx hb dL_law_289 ?_
  obtain ⟨x18, ex18, hF⟩ := nm_1 hF
  refine x_top ex18 ?_
  obtain ⟨g19, hF⟩ := gd_1 hF
  refine va_sld hx hb hX hbl hbA hS (inb_in g19) dL_law_290 ?_
  refine lv_aload_n hx hb dL_law_291 rfl (lv_at hl 0 rfl) ?_
  refine lv_iload_n hx hb dL_law_292 rfl (lv_at hl 3 rfl) ?_
  refine lv_iconst (v := 5) hx hb dL_law_293 (by decide) ?_
  refine lv_iadd hx hb dL_law_294 ?_
  obtain ⟨x20, ex20, hF⟩ := nm_1 hF
  refine x_top ex20 ?_
  obtain ⟨g21, hF⟩ := gd_1 hF
  refine va_sld hx hb hX hbl hbA hS (inb_in g21) dL_law_295 ?_
  obtain ⟨r22, σ22, hq22, hF⟩ := bn2_1 hF
  refine x_callV (ci := 12) rfl rfl C hP hS (c_X12_cutter hL hq22) (lr_54 hL) (lk_54 hL) (cwV 5 C.1.2.2.2.2 (gdV mw_415 mw_416 mw_417 mw_5 mw_418) rfl rfl rfl hd_X12_cutter ⟨(Nat.le_of_ble_eq_true rfl), (Nat.le_of_ble_eq_true rfl)⟩) rfl rfl hl.1 (Nat.le_of_ble_eq_true rfl) ⟨by show _ ≤ 600000; omega, by show _ ≤ 7302250; omega⟩ dL_law_296 (fun H locs hP hS => ?_)
  refine lv_pop hx hb dL_law_299 rfl ?_
  refine lv_goto (tgt := 1257) hx hb dL_law_300 (by decide) ?_
  obtain ⟨x23, ex23, hF⟩ := nm_1 hF
  refine lv_iinc (v := x23) (lv' := [(3, .int x23), (0, .ref b), (1, .ref (ad11 0)), (2, .ref (ad11 54))]) hx hb dL_law_1257 hl (k := 3) rfl (by rw [ex23]; first | rfl | decide) (by decide) rfl (fun ls hl => ?_)
  refine lv_goto (tgt := 18) hx hb dL_law_1260 (by decide) ?_
  exact hrec _ _ _ _ _ _ _ _ _ _ _ _ (by omega) (by omega) hF hL hR C hP hS hAQ (lv_sub hl [1, 2, 3, 0] rfl)
def F_L_303 (xs : Nat → Int32) (L : Nat) (rec : Nat → (Nat → Nat) → (Nat → Nat) → SG → RG → Int32 → Option Unit) (N : Nat) (K len : Nat → Nat) (σ : SG) (ρ : RG) (v3 : Int32) : Option Unit :=
  nm (v3 + (1 : Int32)) fun x1 =>
  gd (inb x1 L) <|
  nm (v3 + (2 : Int32)) fun x3 =>
  gd (inb x3 L) <|
  bn (F_X11_of N K len (xs (x1).toNatClampNeg) (xs (x3).toNatClampNeg) σ ρ) fun r5 =>
  nm (v3 + (1 : Int32)) fun x6 =>
  gd (inb x6 L) <|
  nm (v3 + (2 : Int32)) fun x8 =>
  gd (inb x8 L) <|
  bn (F_X12_of (xs (x6).toNatClampNeg) (xs (x8).toNatClampNeg) σ ρ) fun r10 =>
  nm (v3 + (6 : Int32)) fun x11 =>
  rec N K len σ ρ x11
set_option maxHeartbeats 4000000 in
set_option maxRecDepth 100000 in
theorem wl_303 {p : Program} {e : Env} {s : State} {m : MethodId} {below : List Frame} {meth : Method} {c : Code} {b L : Nat} {xs : Nat → Int32} {rec : Nat → (Nat → Nat) → (Nat → Nat) → SG → RG → Int32 → Option Unit} {c1 s1 : Nat} (hX : va_X b L xs s s.heap) (hbl : b < s.heap.size) (hrec : ∀ (N : Nat) (ad K len : Nat → Nat) (σ : SG) (ρ : RG) (v3 : Int32) (H : Heap) (locs : List Loc) (cells slots : Nat) (ls : Array Slot), cells ≤ c1 → slots ≤ s1 → rec N K len σ ρ v3 = some () → Lay N K len ρ → RC N ρ → Cx Y D N ad p s m #[Value.ref b] meth c cL_law 4 ret RL wsL_law → WP Y D N ad K len σ ρ H → va_S (AA N ad s.heap.size) s.heap H locs → AA N ad s.heap.size = (fun q => s.heap.size ≤ q) → lv_has ls 4 [(0, .ref b), (1, .ref (ad 0)), (2, .ref (ad 54)), (3, .int v3)] → W p l e room_1 s m #[Value.ref b] below meth c H locs cells slots (lw_Z below #[Value.ref b] s) (F0 m 18 ls [])) {N : Nat} {ad K len : Nat → Nat} {σ : SG} {ρ : RG} {v3 : Int32} {H : Heap} {locs : List Loc} {cells slots : Nat} {ls : Array Slot} (hc1 : c1 ≤ 600000) (hs1 : s1 ≤ 7302250) (hcc : cells + 14 ≤ c1) (hss : slots + 90 ≤ s1) (hF : F_L_303 xs L rec N K len σ ρ v3 = some ()) (hL : Lay N K len ρ) (hR : RC N ρ) (C : Cx Y D N ad p s m #[Value.ref b] meth c cL_law 4 ret RL wsL_law) (hP : WP Y D N ad K len σ ρ H) (hS : va_S (AA N ad s.heap.size) s.heap H locs) (hAQ : AA N ad s.heap.size = (fun q => s.heap.size ≤ q)) (hl : lv_has ls 4 [(0, .ref b), (1, .ref (ad 0)), (2, .ref (ad 54)), (3, .int v3)]) : W p l e room_1 s m #[Value.ref b] below meth c H locs cells slots (lw_Z below #[Value.ref b] s) (F0 m 303 ls []) := by
  have hx := C.1.1
  have hb := C.1.2.1
  have hbA : ¬ AA N ad s.heap.size b := by rw [hAQ]; exact Nat.not_le.mpr hbl
  unfold F_L_303 at hF
  refine lv_aload_n hx hb dL_law_303 rfl (lv_at hl 1 rfl) ?_
  refine lv_aload_n hx hb dL_law_304 rfl (lv_at hl 0 rfl) ?_
  refine lv_iload_n hx hb dL_law_305 rfl (lv_at hl 3 rfl) ?_
  refine lv_iconst (v := 1) hx hb dL_law_306 (by decide) ?_
  refine lv_iadd hx hb dL_law_307 ?_
  obtain ⟨x1, ex1, hF⟩ := nm_1 hF
  refine x_top ex1 ?_
  obtain ⟨g2, hF⟩ := gd_1 hF
  refine va_sld hx hb hX hbl hbA hS (inb_in g2) dL_law_308 ?_
  refine lv_aload_n hx hb dL_law_309 rfl (lv_at hl 0 rfl) ?_
  refine lv_iload_n hx hb dL_law_310 rfl (lv_at hl 3 rfl) ?_
  refine lv_iconst (v := 2) hx hb dL_law_311 (by decide) ?_
  refine lv_iadd hx hb dL_law_312 ?_
  obtain ⟨x3, ex3, hF⟩ := nm_1 hF
  refine x_top ex3 ?_
  obtain ⟨g4, hF⟩ := gd_1 hF
  refine va_sld hx hb hX hbl hbA hS (inb_in g4) dL_law_313 ?_
  obtain ⟨r5, hq5, hF⟩ := bn_1 hF
  refine x_callV (ci := 11) rfl rfl C hP hS (c_X11_of hL hq5) (lr_0 hL) (lk_0 hL) (cwV 2 C.1.2.2.2.2 (gdV mw_419 mw_420 mw_421 mw_2 mw_422) rfl rfl rfl hd_X11_of ⟨(Nat.le_of_ble_eq_true rfl), (Nat.le_of_ble_eq_true rfl)⟩) rfl rfl hl.1 (Nat.le_of_ble_eq_true rfl) ⟨by show _ ≤ 600000; omega, by show _ ≤ 7302250; omega⟩ dL_law_314 (fun H locs hP hS => ?_)
  refine lv_pop hx hb dL_law_317 rfl ?_
  refine lv_aload_n hx hb dL_law_318 rfl (lv_at hl 2 rfl) ?_
  refine lv_aload_n hx hb dL_law_319 rfl (lv_at hl 0 rfl) ?_
  refine lv_iload_n hx hb dL_law_320 rfl (lv_at hl 3 rfl) ?_
  refine lv_iconst (v := 1) hx hb dL_law_321 (by decide) ?_
  refine lv_iadd hx hb dL_law_322 ?_
  obtain ⟨x6, ex6, hF⟩ := nm_1 hF
  refine x_top ex6 ?_
  obtain ⟨g7, hF⟩ := gd_1 hF
  refine va_sld hx hb hX hbl hbA hS (inb_in g7) dL_law_323 ?_
  refine lv_aload_n hx hb dL_law_324 rfl (lv_at hl 0 rfl) ?_
  refine lv_iload_n hx hb dL_law_325 rfl (lv_at hl 3 rfl) ?_
  refine lv_iconst (v := 2) hx hb dL_law_326 (by decide) ?_
  refine lv_iadd hx hb dL_law_327 ?_
  obtain ⟨x8, ex8, hF⟩ := nm_1 hF
  refine x_top ex8 ?_
  obtain ⟨g9, hF⟩ := gd_1 hF
  refine va_sld hx hb hX hbl hbA hS (inb_in g9) dL_law_328 ?_
  obtain ⟨r10, hq10, hF⟩ := bn_1 hF
  refine x_callV (ci := 12) rfl rfl C hP hS (c_X12_of hL hq10) (lr_54 hL) (lk_54 hL) (cwV 2 C.1.2.2.2.2 (gdV mw_458 mw_459 mw_460 mw_5 mw_461) rfl rfl rfl hd_X12_of ⟨(Nat.le_of_ble_eq_true rfl), (Nat.le_of_ble_eq_true rfl)⟩) rfl rfl hl.1 (Nat.le_of_ble_eq_true rfl) ⟨by show _ ≤ 600000; omega, by show _ ≤ 7302250; omega⟩ dL_law_329 (fun H locs hP hS => ?_)
  refine lv_pop hx hb dL_law_332 rfl ?_
  refine lv_goto (tgt := 1257) hx hb dL_law_333 (by decide) ?_
  obtain ⟨x11, ex11, hF⟩ := nm_1 hF
  refine lv_iinc (v := x11) (lv' := [(3, .int x11), (0, .ref b), (1, .ref (ad 0)), (2, .ref (ad 54))]) hx hb dL_law_1257 hl (k := 3) rfl (by rw [ex11]; first | rfl | decide) (by decide) rfl (fun ls hl => ?_)
  refine lv_goto (tgt := 18) hx hb dL_law_1260 (by decide) ?_
  exact hrec _ _ _ _ _ _ _ _ _ _ _ _ (by omega) (by omega) hF hL hR C hP hS hAQ (lv_sub hl [1, 2, 3, 0] rfl)
def F_L_336 (xs : Nat → Int32) (L : Nat) (rec : Nat → (Nat → Nat) → (Nat → Nat) → SG → RG → Int32 → Option Unit) (N : Nat) (K len : Nat → Nat) (σ : SG) (ρ : RG) (v3 : Int32) : Option Unit :=
  nm (v3 + (1 : Int32)) fun x1 =>
  gd (inb x1 L) <|
  nm (v3 + (2 : Int32)) fun x3 =>
  gd (inb x3 L) <|
  bn2 (F_X11_thick N K len (xs (x1).toNatClampNeg) (xs (x3).toNatClampNeg) σ ρ) fun r5 σ5 =>
  nm (v3 + (1 : Int32)) fun x6 =>
  gd (inb x6 L) <|
  nm (v3 + (2 : Int32)) fun x8 =>
  gd (inb x8 L) <|
  bn2 (F_X12_thick (xs (x6).toNatClampNeg) (xs (x8).toNatClampNeg) σ5 ρ) fun r10 σ10 =>
  nm (v3 + (6 : Int32)) fun x11 =>
  rec N K len σ10 ρ x11
set_option maxHeartbeats 4000000 in
set_option maxRecDepth 100000 in
theorem wl_336 {p : Program} {e : Env} {s : State} {m : MethodId} {below : List Frame} {meth : Method} {c : Code} {b L : Nat} {xs : Nat → Int32} {rec : Nat → (Nat → Nat) → (Nat → Nat) → SG → RG → Int32 → Option Unit} {c1 s1 : Nat} (hX : va_X b L xs s s.heap) (hbl : b < s.heap.size) (hrec : ∀ (N : Nat) (ad K len : Nat → Nat) (σ : SG) (ρ : RG) (v3 : Int32) (H : Heap) (locs : List Loc) (cells slots : Nat) (ls : Array Slot), cells ≤ c1 → slots ≤ s1 → rec N K len σ ρ v3 = some () → Lay N K len ρ → RC N ρ → Cx Y D N ad p s m #[Value.ref b] meth c cL_law 4 ret RL wsL_law → WP Y D N ad K len σ ρ H → va_S (AA N ad s.heap.size) s.heap H locs → AA N ad s.heap.size = (fun q => s.heap.size ≤ q) → lv_has ls 4 [(0, .ref b), (1, .ref (ad 0)), (2, .ref (ad 54)), (3, .int v3)] → W p l e room_1 s m #[Value.ref b] below meth c H locs cells slots (lw_Z below #[Value.ref b] s) (F0 m 18 ls [])) {N : Nat} {ad K len : Nat → Nat} {σ : SG} {ρ : RG} {v3 : Int32} {H : Heap} {locs : List Loc} {cells slots : Nat} {ls : Array Slot} (hc1 : c1 ≤ 600000) (hs1 : s1 ≤ 7302250) (hcc : cells + 14 ≤ c1) (hss : slots + 90 ≤ s1) (hF : F_L_336 xs L rec N K len σ ρ v3 = some ()) (hL : Lay N K len ρ) (hR : RC N ρ) (C : Cx Y D N ad p s m #[Value.ref b] meth c cL_law 4 ret RL wsL_law) (hP : WP Y D N ad K len σ ρ H) (hS : va_S (AA N ad s.heap.size) s.heap H locs) (hAQ : AA N ad s.heap.size = (fun q => s.heap.size ≤ q)) (hl : lv_has ls 4 [(0, .ref b), (1, .ref (ad 0)), (2, .ref (ad 54)), (3, .int v3)]) : W p l e room_1 s m #[Value.ref b] below meth c H locs cells slots (lw_Z below #[Value.ref b] s) (F0 m 336 ls []) := by
  have hx := C.1.1
  have hb := C.1.2.1
  have hbA : ¬ AA N ad s.heap.size b := by rw [hAQ]; exact Nat.not_le.mpr hbl
  unfold F_L_336 at hF
  refine lv_aload_n hx hb dL_law_336 rfl (lv_at hl 1 rfl) ?_
  refine lv_aload_n hx hb dL_law_337 rfl (lv_at hl 0 rfl) ?_
  refine lv_iload_n hx hb dL_law_338 rfl (lv_at hl 3 rfl) ?_
  refine lv_iconst (v := 1) hx hb dL_law_339 (by decide) ?_
  refine lv_iadd hx hb dL_law_340 ?_
  obtain ⟨x1, ex1, hF⟩ := nm_1 hF
  refine x_top ex1 ?_
  obtain ⟨g2, hF⟩ := gd_1 hF
  refine va_sld hx hb hX hbl hbA hS (inb_in g2) dL_law_341 ?_
  refine lv_aload_n hx hb dL_law_342 rfl (lv_at hl 0 rfl) ?_
  refine lv_iload_n hx hb dL_law_343 rfl (lv_at hl 3 rfl) ?_
  refine lv_iconst (v := 2) hx hb dL_law_344 (by decide) ?_
  refine lv_iadd hx hb dL_law_345 ?_
  obtain ⟨x3, ex3, hF⟩ := nm_1 hF
  refine x_top ex3 ?_
  obtain ⟨g4, hF⟩ := gd_1 hF
  refine va_sld hx hb hX hbl hbA hS (inb_in g4) dL_law_346 ?_
  obtain ⟨r5, σ5, hq5, hF⟩ := bn2_1 hF
  refine x_callV (ci := 11) rfl rfl C hP hS (c_X11_thick hL hq5) (lr_0 hL) (lk_0 hL) (cwV 2 C.1.2.2.2.2 (gdV mw_466 mw_467 mw_468 mw_2 mw_469) rfl rfl rfl hd_X11_thick ⟨(Nat.le_of_ble_eq_true rfl), (Nat.le_of_ble_eq_true rfl)⟩) rfl rfl hl.1 (Nat.le_of_ble_eq_true rfl) ⟨by show _ ≤ 600000; omega, by show _ ≤ 7302250; omega⟩ dL_law_347 (fun H locs hP hS => ?_)
  refine lv_pop hx hb dL_law_350 rfl ?_
  refine lv_aload_n hx hb dL_law_351 rfl (lv_at hl 2 rfl) ?_
  refine lv_aload_n hx hb dL_law_352 rfl (lv_at hl 0 rfl) ?_
  refine lv_iload_n hx hb dL_law_353 rfl (lv_at hl 3 rfl) ?_
  refine lv_iconst (v := 1) hx hb dL_law_354 (by decide) ?_
  refine lv_iadd hx hb dL_law_355 ?_
  obtain ⟨x6, ex6, hF⟩ := nm_1 hF
  refine x_top ex6 ?_
  obtain ⟨g7, hF⟩ := gd_1 hF
  refine va_sld hx hb hX hbl hbA hS (inb_in g7) dL_law_356 ?_
  refine lv_aload_n hx hb dL_law_357 rfl (lv_at hl 0 rfl) ?_
  refine lv_iload_n hx hb dL_law_358 rfl (lv_at hl 3 rfl) ?_
  refine lv_iconst (v := 2) hx hb dL_law_359 (by decide) ?_
  refine lv_iadd hx hb dL_law_360 ?_
  obtain ⟨x8, ex8, hF⟩ := nm_1 hF
  refine x_top ex8 ?_
  obtain ⟨g9, hF⟩ := gd_1 hF
  refine va_sld hx hb hX hbl hbA hS (inb_in g9) dL_law_361 ?_
  obtain ⟨r10, σ10, hq10, hF⟩ := bn2_1 hF
  refine x_callV (ci := 12) rfl rfl C hP hS (c_X12_thick hL hq10) (lr_54 hL) (lk_54 hL) (cwV 2 C.1.2.2.2.2 (gdV mw_470 mw_471 mw_472 mw_5 mw_473) rfl rfl rfl hd_X12_thick ⟨(Nat.le_of_ble_eq_true rfl), (Nat.le_of_ble_eq_true rfl)⟩) rfl rfl hl.1 (Nat.le_of_ble_eq_true rfl) ⟨by show _ ≤ 600000; omega, by show _ ≤ 7302250; omega⟩ dL_law_362 (fun H locs hP hS => ?_)
  refine lv_pop hx hb dL_law_365 rfl ?_
  refine lv_goto (tgt := 1257) hx hb dL_law_366 (by decide) ?_
  obtain ⟨x11, ex11, hF⟩ := nm_1 hF
  refine lv_iinc (v := x11) (lv' := [(3, .int x11), (0, .ref b), (1, .ref (ad 0)), (2, .ref (ad 54))]) hx hb dL_law_1257 hl (k := 3) rfl (by rw [ex11]; first | rfl | decide) (by decide) rfl (fun ls hl => ?_)
  refine lv_goto (tgt := 18) hx hb dL_law_1260 (by decide) ?_
  exact hrec _ _ _ _ _ _ _ _ _ _ _ _ (by omega) (by omega) hF hL hR C hP hS hAQ (lv_sub hl [1, 2, 3, 0] rfl)
def F_L_369 (xs : Nat → Int32) (L : Nat) (rec : Nat → (Nat → Nat) → (Nat → Nat) → SG → RG → Int32 → Option Unit) (N : Nat) (K len : Nat → Nat) (σ : SG) (ρ : RG) (v3 : Int32) : Option Unit :=
  nm (v3 + (1 : Int32)) fun x1 =>
  gd (inb x1 L) <|
  nm (v3 + (2 : Int32)) fun x3 =>
  gd (inb x3 L) <|
  nm (v3 + (3 : Int32)) fun x5 =>
  gd (inb x5 L) <|
  bn2 (F_X11_row N K len (xs (x1).toNatClampNeg) (xs (x3).toNatClampNeg) (xs (x5).toNatClampNeg) σ ρ) fun r7 σ7 =>
  nm (v3 + (1 : Int32)) fun x8 =>
  gd (inb x8 L) <|
  nm (v3 + (2 : Int32)) fun x10 =>
  gd (inb x10 L) <|
  nm (v3 + (3 : Int32)) fun x12 =>
  gd (inb x12 L) <|
  bn2 (F_X12_row (xs (x8).toNatClampNeg) (xs (x10).toNatClampNeg) (xs (x12).toNatClampNeg) σ7 ρ) fun r14 σ14 =>
  nm (v3 + (6 : Int32)) fun x15 =>
  rec N K len σ14 ρ x15
set_option maxHeartbeats 4000000 in
set_option maxRecDepth 100000 in
theorem wl_369 {p : Program} {e : Env} {s : State} {m : MethodId} {below : List Frame} {meth : Method} {c : Code} {b L : Nat} {xs : Nat → Int32} {rec : Nat → (Nat → Nat) → (Nat → Nat) → SG → RG → Int32 → Option Unit} {c1 s1 : Nat} (hX : va_X b L xs s s.heap) (hbl : b < s.heap.size) (hrec : ∀ (N : Nat) (ad K len : Nat → Nat) (σ : SG) (ρ : RG) (v3 : Int32) (H : Heap) (locs : List Loc) (cells slots : Nat) (ls : Array Slot), cells ≤ c1 → slots ≤ s1 → rec N K len σ ρ v3 = some () → Lay N K len ρ → RC N ρ → Cx Y D N ad p s m #[Value.ref b] meth c cL_law 4 ret RL wsL_law → WP Y D N ad K len σ ρ H → va_S (AA N ad s.heap.size) s.heap H locs → AA N ad s.heap.size = (fun q => s.heap.size ≤ q) → lv_has ls 4 [(0, .ref b), (1, .ref (ad 0)), (2, .ref (ad 54)), (3, .int v3)] → W p l e room_1 s m #[Value.ref b] below meth c H locs cells slots (lw_Z below #[Value.ref b] s) (F0 m 18 ls [])) {N : Nat} {ad K len : Nat → Nat} {σ : SG} {ρ : RG} {v3 : Int32} {H : Heap} {locs : List Loc} {cells slots : Nat} {ls : Array Slot} (hc1 : c1 ≤ 600000) (hs1 : s1 ≤ 7302250) (hcc : cells + 14 ≤ c1) (hss : slots + 90 ≤ s1) (hF : F_L_369 xs L rec N K len σ ρ v3 = some ()) (hL : Lay N K len ρ) (hR : RC N ρ) (C : Cx Y D N ad p s m #[Value.ref b] meth c cL_law 4 ret RL wsL_law) (hP : WP Y D N ad K len σ ρ H) (hS : va_S (AA N ad s.heap.size) s.heap H locs) (hAQ : AA N ad s.heap.size = (fun q => s.heap.size ≤ q)) (hl : lv_has ls 4 [(0, .ref b), (1, .ref (ad 0)), (2, .ref (ad 54)), (3, .int v3)]) : W p l e room_1 s m #[Value.ref b] below meth c H locs cells slots (lw_Z below #[Value.ref b] s) (F0 m 369 ls []) := by
  have hx := C.1.1
  have hb := C.1.2.1
  have hbA : ¬ AA N ad s.heap.size b := by rw [hAQ]; exact Nat.not_le.mpr hbl
  unfold F_L_369 at hF
  refine lv_aload_n hx hb dL_law_369 rfl (lv_at hl 1 rfl) ?_
  refine lv_aload_n hx hb dL_law_370 rfl (lv_at hl 0 rfl) ?_
  refine lv_iload_n hx hb dL_law_371 rfl (lv_at hl 3 rfl) ?_
  refine lv_iconst (v := 1) hx hb dL_law_372 (by decide) ?_
  refine lv_iadd hx hb dL_law_373 ?_
  obtain ⟨x1, ex1, hF⟩ := nm_1 hF
  refine x_top ex1 ?_
  obtain ⟨g2, hF⟩ := gd_1 hF
  refine va_sld hx hb hX hbl hbA hS (inb_in g2) dL_law_374 ?_
  refine lv_aload_n hx hb dL_law_375 rfl (lv_at hl 0 rfl) ?_
  refine lv_iload_n hx hb dL_law_376 rfl (lv_at hl 3 rfl) ?_
  refine lv_iconst (v := 2) hx hb dL_law_377 (by decide) ?_
  refine lv_iadd hx hb dL_law_378 ?_
  obtain ⟨x3, ex3, hF⟩ := nm_1 hF
  refine x_top ex3 ?_
  obtain ⟨g4, hF⟩ := gd_1 hF
  refine va_sld hx hb hX hbl hbA hS (inb_in g4) dL_law_379 ?_
  refine lv_aload_n hx hb dL_law_380 rfl (lv_at hl 0 rfl) ?_
  refine lv_iload_n hx hb dL_law_381 rfl (lv_at hl 3 rfl) ?_
  refine lv_iconst (v := 3) hx hb dL_law_382 (by decide) ?_
  refine lv_iadd hx hb dL_law_383 ?_
  obtain ⟨x5, ex5, hF⟩ := nm_1 hF
  refine x_top ex5 ?_
  obtain ⟨g6, hF⟩ := gd_1 hF
  refine va_sld hx hb hX hbl hbA hS (inb_in g6) dL_law_384 ?_
  obtain ⟨r7, σ7, hq7, hF⟩ := bn2_1 hF
  refine x_callV (ci := 11) rfl rfl C hP hS (c_X11_row hL hq7) (lr_0 hL) (lk_0 hL) (cwV 3 C.1.2.2.2.2 (gdV mw_474 mw_475 mw_476 mw_2 mw_477) rfl rfl rfl hd_X11_row ⟨(Nat.le_of_ble_eq_true rfl), (Nat.le_of_ble_eq_true rfl)⟩) rfl rfl hl.1 (Nat.le_of_ble_eq_true rfl) ⟨by show _ ≤ 600000; omega, by show _ ≤ 7302250; omega⟩ dL_law_385 (fun H locs hP hS => ?_)
  refine lv_pop hx hb dL_law_388 rfl ?_
  refine lv_aload_n hx hb dL_law_389 rfl (lv_at hl 2 rfl) ?_
  refine lv_aload_n hx hb dL_law_390 rfl (lv_at hl 0 rfl) ?_
  refine lv_iload_n hx hb dL_law_391 rfl (lv_at hl 3 rfl) ?_
  refine lv_iconst (v := 1) hx hb dL_law_392 (by decide) ?_
  refine lv_iadd hx hb dL_law_393 ?_
  obtain ⟨x8, ex8, hF⟩ := nm_1 hF
  refine x_top ex8 ?_
  obtain ⟨g9, hF⟩ := gd_1 hF
  refine va_sld hx hb hX hbl hbA hS (inb_in g9) dL_law_394 ?_
  refine lv_aload_n hx hb dL_law_395 rfl (lv_at hl 0 rfl) ?_
  refine lv_iload_n hx hb dL_law_396 rfl (lv_at hl 3 rfl) ?_
  refine lv_iconst (v := 2) hx hb dL_law_397 (by decide) ?_
  refine lv_iadd hx hb dL_law_398 ?_
  obtain ⟨x10, ex10, hF⟩ := nm_1 hF
  refine x_top ex10 ?_
  obtain ⟨g11, hF⟩ := gd_1 hF
  refine va_sld hx hb hX hbl hbA hS (inb_in g11) dL_law_399 ?_
  refine lv_aload_n hx hb dL_law_400 rfl (lv_at hl 0 rfl) ?_
  refine lv_iload_n hx hb dL_law_401 rfl (lv_at hl 3 rfl) ?_
  refine lv_iconst (v := 3) hx hb dL_law_402 (by decide) ?_
  refine lv_iadd hx hb dL_law_403 ?_
  obtain ⟨x12, ex12, hF⟩ := nm_1 hF
  refine x_top ex12 ?_
  obtain ⟨g13, hF⟩ := gd_1 hF
  refine va_sld hx hb hX hbl hbA hS (inb_in g13) dL_law_404 ?_
  obtain ⟨r14, σ14, hq14, hF⟩ := bn2_1 hF
  refine x_callV (ci := 12) rfl rfl C hP hS (c_X12_row hL hq14) (lr_54 hL) (lk_54 hL) (cwV 3 C.1.2.2.2.2 (gdV mw_480 mw_481 mw_482 mw_5 mw_483) rfl rfl rfl hd_X12_row ⟨(Nat.le_of_ble_eq_true rfl), (Nat.le_of_ble_eq_true rfl)⟩) rfl rfl hl.1 (Nat.le_of_ble_eq_true rfl) ⟨by show _ ≤ 600000; omega, by show _ ≤ 7302250; omega⟩ dL_law_405 (fun H locs hP hS => ?_)
  refine lv_pop hx hb dL_law_408 rfl ?_
  refine lv_goto (tgt := 1257) hx hb dL_law_409 (by decide) ?_
  obtain ⟨x15, ex15, hF⟩ := nm_1 hF
  refine lv_iinc (v := x15) (lv' := [(3, .int x15), (0, .ref b), (1, .ref (ad 0)), (2, .ref (ad 54))]) hx hb dL_law_1257 hl (k := 3) rfl (by rw [ex15]; first | rfl | decide) (by decide) rfl (fun ls hl => ?_)
  refine lv_goto (tgt := 18) hx hb dL_law_1260 (by decide) ?_
  exact hrec _ _ _ _ _ _ _ _ _ _ _ _ (by omega) (by omega) hF hL hR C hP hS hAQ (lv_sub hl [1, 2, 3, 0] rfl)
def F_L_412 (xs : Nat → Int32) (L : Nat) (rec : Nat → (Nat → Nat) → (Nat → Nat) → SG → RG → Int32 → Option Unit) (N : Nat) (K len : Nat → Nat) (σ : SG) (ρ : RG) (v3 : Int32) : Option Unit :=
  nm (v3 + (1 : Int32)) fun x1 =>
  gd (inb x1 L) <|
  bn2 (F_X11_loaf (xs (x1).toNatClampNeg) σ ρ) fun r3 σ3 =>
  nm (v3 + (1 : Int32)) fun x4 =>
  gd (inb x4 L) <|
  bn2 (F_X12_loaf (xs (x4).toNatClampNeg) σ3 ρ) fun r6 σ6 =>
  nm (v3 + (6 : Int32)) fun x7 =>
  rec N K len σ6 ρ x7
set_option maxHeartbeats 4000000 in
set_option maxRecDepth 100000 in
theorem wl_412 {p : Program} {e : Env} {s : State} {m : MethodId} {below : List Frame} {meth : Method} {c : Code} {b L : Nat} {xs : Nat → Int32} {rec : Nat → (Nat → Nat) → (Nat → Nat) → SG → RG → Int32 → Option Unit} {c1 s1 : Nat} (hX : va_X b L xs s s.heap) (hbl : b < s.heap.size) (hrec : ∀ (N : Nat) (ad K len : Nat → Nat) (σ : SG) (ρ : RG) (v3 : Int32) (H : Heap) (locs : List Loc) (cells slots : Nat) (ls : Array Slot), cells ≤ c1 → slots ≤ s1 → rec N K len σ ρ v3 = some () → Lay N K len ρ → RC N ρ → Cx Y D N ad p s m #[Value.ref b] meth c cL_law 4 ret RL wsL_law → WP Y D N ad K len σ ρ H → va_S (AA N ad s.heap.size) s.heap H locs → AA N ad s.heap.size = (fun q => s.heap.size ≤ q) → lv_has ls 4 [(0, .ref b), (1, .ref (ad 0)), (2, .ref (ad 54)), (3, .int v3)] → W p l e room_1 s m #[Value.ref b] below meth c H locs cells slots (lw_Z below #[Value.ref b] s) (F0 m 18 ls [])) {N : Nat} {ad K len : Nat → Nat} {σ : SG} {ρ : RG} {v3 : Int32} {H : Heap} {locs : List Loc} {cells slots : Nat} {ls : Array Slot} (hc1 : c1 ≤ 600000) (hs1 : s1 ≤ 7302250) (hcc : cells + 14 ≤ c1) (hss : slots + 90 ≤ s1) (hF : F_L_412 xs L rec N K len σ ρ v3 = some ()) (hL : Lay N K len ρ) (hR : RC N ρ) (C : Cx Y D N ad p s m #[Value.ref b] meth c cL_law 4 ret RL wsL_law) (hP : WP Y D N ad K len σ ρ H) (hS : va_S (AA N ad s.heap.size) s.heap H locs) (hAQ : AA N ad s.heap.size = (fun q => s.heap.size ≤ q)) (hl : lv_has ls 4 [(0, .ref b), (1, .ref (ad 0)), (2, .ref (ad 54)), (3, .int v3)]) : W p l e room_1 s m #[Value.ref b] below meth c H locs cells slots (lw_Z below #[Value.ref b] s) (F0 m 412 ls []) := by
  have hx := C.1.1
  have hb := C.1.2.1
  have hbA : ¬ AA N ad s.heap.size b := by rw [hAQ]; exact Nat.not_le.mpr hbl
  unfold F_L_412 at hF
  refine lv_aload_n hx hb dL_law_412 rfl (lv_at hl 1 rfl) ?_
  refine lv_aload_n hx hb dL_law_413 rfl (lv_at hl 0 rfl) ?_
  refine lv_iload_n hx hb dL_law_414 rfl (lv_at hl 3 rfl) ?_
  refine lv_iconst (v := 1) hx hb dL_law_415 (by decide) ?_
  refine lv_iadd hx hb dL_law_416 ?_
  obtain ⟨x1, ex1, hF⟩ := nm_1 hF
  refine x_top ex1 ?_
  obtain ⟨g2, hF⟩ := gd_1 hF
  refine va_sld hx hb hX hbl hbA hS (inb_in g2) dL_law_417 ?_
  obtain ⟨r3, σ3, hq3, hF⟩ := bn2_1 hF
  refine x_callV (ci := 11) rfl rfl C hP hS (c_X11_loaf hL hq3) (lr_0 hL) (lk_0 hL) (cwV 1 C.1.2.2.2.2 (gdV mw_484 mw_485 mw_486 mw_2 mw_487) rfl rfl rfl hd_X11_loaf ⟨(Nat.le_of_ble_eq_true rfl), (Nat.le_of_ble_eq_true rfl)⟩) rfl rfl hl.1 (Nat.le_of_ble_eq_true rfl) ⟨by show _ ≤ 600000; omega, by show _ ≤ 7302250; omega⟩ dL_law_418 (fun H locs hP hS => ?_)
  refine lv_pop hx hb dL_law_421 rfl ?_
  refine lv_aload_n hx hb dL_law_422 rfl (lv_at hl 2 rfl) ?_
  refine lv_aload_n hx hb dL_law_423 rfl (lv_at hl 0 rfl) ?_
  refine lv_iload_n hx hb dL_law_424 rfl (lv_at hl 3 rfl) ?_
  refine lv_iconst (v := 1) hx hb dL_law_425 (by decide) ?_
  refine lv_iadd hx hb dL_law_426 ?_
  obtain ⟨x4, ex4, hF⟩ := nm_1 hF
  refine x_top ex4 ?_
  obtain ⟨g5, hF⟩ := gd_1 hF
  refine va_sld hx hb hX hbl hbA hS (inb_in g5) dL_law_427 ?_
  obtain ⟨r6, σ6, hq6, hF⟩ := bn2_1 hF
  refine x_callV (ci := 12) rfl rfl C hP hS (c_X12_loaf hL hq6) (lr_54 hL) (lk_54 hL) (cwV 1 C.1.2.2.2.2 (gdV mw_491 mw_492 mw_493 mw_5 mw_494) rfl rfl rfl hd_X12_loaf ⟨(Nat.le_of_ble_eq_true rfl), (Nat.le_of_ble_eq_true rfl)⟩) rfl rfl hl.1 (Nat.le_of_ble_eq_true rfl) ⟨by show _ ≤ 600000; omega, by show _ ≤ 7302250; omega⟩ dL_law_428 (fun H locs hP hS => ?_)
  refine lv_pop hx hb dL_law_431 rfl ?_
  refine lv_goto (tgt := 1257) hx hb dL_law_432 (by decide) ?_
  obtain ⟨x7, ex7, hF⟩ := nm_1 hF
  refine lv_iinc (v := x7) (lv' := [(3, .int x7), (0, .ref b), (1, .ref (ad 0)), (2, .ref (ad 54))]) hx hb dL_law_1257 hl (k := 3) rfl (by rw [ex7]; first | rfl | decide) (by decide) rfl (fun ls hl => ?_)
  refine lv_goto (tgt := 18) hx hb dL_law_1260 (by decide) ?_
  exact hrec _ _ _ _ _ _ _ _ _ _ _ _ (by omega) (by omega) hF hL hR C hP hS hAQ (lv_sub hl [1, 2, 3, 0] rfl)
def F_L_435 (xs : Nat → Int32) (L : Nat) (rec : Nat → (Nat → Nat) → (Nat → Nat) → SG → RG → Int32 → Option Unit) (N : Nat) (K len : Nat → Nat) (σ : SG) (ρ : RG) (v3 : Int32) : Option Unit :=
  nm (v3 + (1 : Int32)) fun x1 =>
  gd (inb x1 L) <|
  bn (F_X11_told (xs (x1).toNatClampNeg) σ ρ) fun r3 =>
  nm (v3 + (1 : Int32)) fun x4 =>
  gd (inb x4 L) <|
  bn (F_X12_told (xs (x4).toNatClampNeg) σ ρ) fun r6 =>
  nm (v3 + (6 : Int32)) fun x7 =>
  rec N K len σ ρ x7
set_option maxHeartbeats 4000000 in
set_option maxRecDepth 100000 in
theorem wl_435 {p : Program} {e : Env} {s : State} {m : MethodId} {below : List Frame} {meth : Method} {c : Code} {b L : Nat} {xs : Nat → Int32} {rec : Nat → (Nat → Nat) → (Nat → Nat) → SG → RG → Int32 → Option Unit} {c1 s1 : Nat} (hX : va_X b L xs s s.heap) (hbl : b < s.heap.size) (hrec : ∀ (N : Nat) (ad K len : Nat → Nat) (σ : SG) (ρ : RG) (v3 : Int32) (H : Heap) (locs : List Loc) (cells slots : Nat) (ls : Array Slot), cells ≤ c1 → slots ≤ s1 → rec N K len σ ρ v3 = some () → Lay N K len ρ → RC N ρ → Cx Y D N ad p s m #[Value.ref b] meth c cL_law 4 ret RL wsL_law → WP Y D N ad K len σ ρ H → va_S (AA N ad s.heap.size) s.heap H locs → AA N ad s.heap.size = (fun q => s.heap.size ≤ q) → lv_has ls 4 [(0, .ref b), (1, .ref (ad 0)), (2, .ref (ad 54)), (3, .int v3)] → W p l e room_1 s m #[Value.ref b] below meth c H locs cells slots (lw_Z below #[Value.ref b] s) (F0 m 18 ls [])) {N : Nat} {ad K len : Nat → Nat} {σ : SG} {ρ : RG} {v3 : Int32} {H : Heap} {locs : List Loc} {cells slots : Nat} {ls : Array Slot} (hc1 : c1 ≤ 600000) (hs1 : s1 ≤ 7302250) (hcc : cells + 14 ≤ c1) (hss : slots + 90 ≤ s1) (hF : F_L_435 xs L rec N K len σ ρ v3 = some ()) (hL : Lay N K len ρ) (hR : RC N ρ) (C : Cx Y D N ad p s m #[Value.ref b] meth c cL_law 4 ret RL wsL_law) (hP : WP Y D N ad K len σ ρ H) (hS : va_S (AA N ad s.heap.size) s.heap H locs) (hAQ : AA N ad s.heap.size = (fun q => s.heap.size ≤ q)) (hl : lv_has ls 4 [(0, .ref b), (1, .ref (ad 0)), (2, .ref (ad 54)), (3, .int v3)]) : W p l e room_1 s m #[Value.ref b] below meth c H locs cells slots (lw_Z below #[Value.ref b] s) (F0 m 435 ls []) := by
  have hx := C.1.1
  have hb := C.1.2.1
  have hbA : ¬ AA N ad s.heap.size b := by rw [hAQ]; exact Nat.not_le.mpr hbl
  unfold F_L_435 at hF
  refine lv_aload_n hx hb dL_law_435 rfl (lv_at hl 1 rfl) ?_
  refine lv_aload_n hx hb dL_law_436 rfl (lv_at hl 0 rfl) ?_
  refine lv_iload_n hx hb dL_law_437 rfl (lv_at hl 3 rfl) ?_
  refine lv_iconst (v := 1) hx hb dL_law_438 (by decide) ?_
  refine lv_iadd hx hb dL_law_439 ?_
  obtain ⟨x1, ex1, hF⟩ := nm_1 hF
  refine x_top ex1 ?_
  obtain ⟨g2, hF⟩ := gd_1 hF
  refine va_sld hx hb hX hbl hbA hS (inb_in g2) dL_law_440 ?_
  obtain ⟨r3, hq3, hF⟩ := bn_1 hF
  refine x_callV (ci := 11) rfl rfl C hP hS (c_X11_told hL hq3) (lr_0 hL) (lk_0 hL) (cwV 1 C.1.2.2.2.2 (gdV mw_495 mw_496 mw_497 mw_2 mw_498) rfl rfl rfl hd_X11_told ⟨(Nat.le_of_ble_eq_true rfl), (Nat.le_of_ble_eq_true rfl)⟩) rfl rfl hl.1 (Nat.le_of_ble_eq_true rfl) ⟨by show _ ≤ 600000; omega, by show _ ≤ 7302250; omega⟩ dL_law_441 (fun H locs hP hS => ?_)
  refine lv_pop hx hb dL_law_444 rfl ?_
  refine lv_aload_n hx hb dL_law_445 rfl (lv_at hl 2 rfl) ?_
  refine lv_aload_n hx hb dL_law_446 rfl (lv_at hl 0 rfl) ?_
  refine lv_iload_n hx hb dL_law_447 rfl (lv_at hl 3 rfl) ?_
  refine lv_iconst (v := 1) hx hb dL_law_448 (by decide) ?_
  refine lv_iadd hx hb dL_law_449 ?_
  obtain ⟨x4, ex4, hF⟩ := nm_1 hF
  refine x_top ex4 ?_
  obtain ⟨g5, hF⟩ := gd_1 hF
  refine va_sld hx hb hX hbl hbA hS (inb_in g5) dL_law_450 ?_
  obtain ⟨r6, hq6, hF⟩ := bn_1 hF
  refine x_callV (ci := 12) rfl rfl C hP hS (c_X12_told hL hq6) (lr_54 hL) (lk_54 hL) (cwV 1 C.1.2.2.2.2 (gdV mw_513 mw_514 mw_515 mw_5 mw_516) rfl rfl rfl hd_X12_told ⟨(Nat.le_of_ble_eq_true rfl), (Nat.le_of_ble_eq_true rfl)⟩) rfl rfl hl.1 (Nat.le_of_ble_eq_true rfl) ⟨by show _ ≤ 600000; omega, by show _ ≤ 7302250; omega⟩ dL_law_451 (fun H locs hP hS => ?_)
  refine lv_pop hx hb dL_law_454 rfl ?_
  refine lv_goto (tgt := 1257) hx hb dL_law_455 (by decide) ?_
  obtain ⟨x7, ex7, hF⟩ := nm_1 hF
  refine lv_iinc (v := x7) (lv' := [(3, .int x7), (0, .ref b), (1, .ref (ad 0)), (2, .ref (ad 54))]) hx hb dL_law_1257 hl (k := 3) rfl (by rw [ex7]; first | rfl | decide) (by decide) rfl (fun ls hl => ?_)
  refine lv_goto (tgt := 18) hx hb dL_law_1260 (by decide) ?_
  exact hrec _ _ _ _ _ _ _ _ _ _ _ _ (by omega) (by omega) hF hL hR C hP hS hAQ (lv_sub hl [1, 2, 3, 0] rfl)
def F_L_458 (xs : Nat → Int32) (L : Nat) (rec : Nat → (Nat → Nat) → (Nat → Nat) → SG → RG → Int32 → Option Unit) (N : Nat) (K len : Nat → Nat) (σ : SG) (ρ : RG) (v3 : Int32) : Option Unit :=
  nm (v3 + (1 : Int32)) fun x1 =>
  gd (inb x1 L) <|
  bn2 (F_X11_cut N K len (xs (x1).toNatClampNeg) σ ρ) fun r3 σ3 =>
  nm (v3 + (1 : Int32)) fun x4 =>
  gd (inb x4 L) <|
  bn2 (F_X12_cut (xs (x4).toNatClampNeg) σ3 ρ) fun r6 σ6 =>
  nm (v3 + (6 : Int32)) fun x7 =>
  rec N K len σ6 ρ x7
set_option maxHeartbeats 4000000 in
set_option maxRecDepth 100000 in
theorem wl_458 {p : Program} {e : Env} {s : State} {m : MethodId} {below : List Frame} {meth : Method} {c : Code} {b L : Nat} {xs : Nat → Int32} {rec : Nat → (Nat → Nat) → (Nat → Nat) → SG → RG → Int32 → Option Unit} {c1 s1 : Nat} (hX : va_X b L xs s s.heap) (hbl : b < s.heap.size) (hrec : ∀ (N : Nat) (ad K len : Nat → Nat) (σ : SG) (ρ : RG) (v3 : Int32) (H : Heap) (locs : List Loc) (cells slots : Nat) (ls : Array Slot), cells ≤ c1 → slots ≤ s1 → rec N K len σ ρ v3 = some () → Lay N K len ρ → RC N ρ → Cx Y D N ad p s m #[Value.ref b] meth c cL_law 4 ret RL wsL_law → WP Y D N ad K len σ ρ H → va_S (AA N ad s.heap.size) s.heap H locs → AA N ad s.heap.size = (fun q => s.heap.size ≤ q) → lv_has ls 4 [(0, .ref b), (1, .ref (ad 0)), (2, .ref (ad 54)), (3, .int v3)] → W p l e room_1 s m #[Value.ref b] below meth c H locs cells slots (lw_Z below #[Value.ref b] s) (F0 m 18 ls [])) {N : Nat} {ad K len : Nat → Nat} {σ : SG} {ρ : RG} {v3 : Int32} {H : Heap} {locs : List Loc} {cells slots : Nat} {ls : Array Slot} (hc1 : c1 ≤ 600000) (hs1 : s1 ≤ 7302250) (hcc : cells + 14 ≤ c1) (hss : slots + 90 ≤ s1) (hF : F_L_458 xs L rec N K len σ ρ v3 = some ()) (hL : Lay N K len ρ) (hR : RC N ρ) (C : Cx Y D N ad p s m #[Value.ref b] meth c cL_law 4 ret RL wsL_law) (hP : WP Y D N ad K len σ ρ H) (hS : va_S (AA N ad s.heap.size) s.heap H locs) (hAQ : AA N ad s.heap.size = (fun q => s.heap.size ≤ q)) (hl : lv_has ls 4 [(0, .ref b), (1, .ref (ad 0)), (2, .ref (ad 54)), (3, .int v3)]) : W p l e room_1 s m #[Value.ref b] below meth c H locs cells slots (lw_Z below #[Value.ref b] s) (F0 m 458 ls []) := by
  have hx := C.1.1
  have hb := C.1.2.1
  have hbA : ¬ AA N ad s.heap.size b := by rw [hAQ]; exact Nat.not_le.mpr hbl
  unfold F_L_458 at hF
  refine lv_aload_n hx hb dL_law_458 rfl (lv_at hl 1 rfl) ?_
  refine lv_aload_n hx hb dL_law_459 rfl (lv_at hl 0 rfl) ?_
  refine lv_iload_n hx hb dL_law_460 rfl (lv_at hl 3 rfl) ?_
  refine lv_iconst (v := 1) hx hb dL_law_461 (by decide) ?_
  refine lv_iadd hx hb dL_law_462 ?_
  obtain ⟨x1, ex1, hF⟩ := nm_1 hF
  refine x_top ex1 ?_
  obtain ⟨g2, hF⟩ := gd_1 hF
  refine va_sld hx hb hX hbl hbA hS (inb_in g2) dL_law_463 ?_
  obtain ⟨r3, σ3, hq3, hF⟩ := bn2_1 hF
  refine x_callV (ci := 11) rfl rfl C hP hS (c_X11_cut hL hq3) (lr_0 hL) (lk_0 hL) (cwV 1 C.1.2.2.2.2 (gdV mw_524 mw_525 mw_526 mw_2 mw_527) rfl rfl rfl hd_X11_cut ⟨(Nat.le_of_ble_eq_true rfl), (Nat.le_of_ble_eq_true rfl)⟩) rfl rfl hl.1 (Nat.le_of_ble_eq_true rfl) ⟨by show _ ≤ 600000; omega, by show _ ≤ 7302250; omega⟩ dL_law_464 (fun H locs hP hS => ?_)
  refine lv_pop hx hb dL_law_467 rfl ?_
  refine lv_aload_n hx hb dL_law_468 rfl (lv_at hl 2 rfl) ?_
  refine lv_aload_n hx hb dL_law_469 rfl (lv_at hl 0 rfl) ?_
  refine lv_iload_n hx hb dL_law_470 rfl (lv_at hl 3 rfl) ?_
  refine lv_iconst (v := 1) hx hb dL_law_471 (by decide) ?_
  refine lv_iadd hx hb dL_law_472 ?_
  obtain ⟨x4, ex4, hF⟩ := nm_1 hF
  refine x_top ex4 ?_
  obtain ⟨g5, hF⟩ := gd_1 hF
  refine va_sld hx hb hX hbl hbA hS (inb_in g5) dL_law_473 ?_
  obtain ⟨r6, σ6, hq6, hF⟩ := bn2_1 hF
  refine x_callV (ci := 12) rfl rfl C hP hS (c_X12_cut hL hq6) (lr_54 hL) (lk_54 hL) (cwV 1 C.1.2.2.2.2 (gdV mw_647 mw_648 mw_649 mw_5 mw_650) rfl rfl rfl hd_X12_cut ⟨(Nat.le_of_ble_eq_true rfl), (Nat.le_of_ble_eq_true rfl)⟩) rfl rfl hl.1 (Nat.le_of_ble_eq_true rfl) ⟨by show _ ≤ 600000; omega, by show _ ≤ 7302250; omega⟩ dL_law_474 (fun H locs hP hS => ?_)
  refine lv_pop hx hb dL_law_477 rfl ?_
  refine lv_goto (tgt := 1257) hx hb dL_law_478 (by decide) ?_
  obtain ⟨x7, ex7, hF⟩ := nm_1 hF
  refine lv_iinc (v := x7) (lv' := [(3, .int x7), (0, .ref b), (1, .ref (ad 0)), (2, .ref (ad 54))]) hx hb dL_law_1257 hl (k := 3) rfl (by rw [ex7]; first | rfl | decide) (by decide) rfl (fun ls hl => ?_)
  refine lv_goto (tgt := 18) hx hb dL_law_1260 (by decide) ?_
  exact hrec _ _ _ _ _ _ _ _ _ _ _ _ (by omega) (by omega) hF hL hR C hP hS hAQ (lv_sub hl [1, 2, 3, 0] rfl)
def F_L_481 (xs : Nat → Int32) (L : Nat) (rec : Nat → (Nat → Nat) → (Nat → Nat) → SG → RG → Int32 → Option Unit) (N : Nat) (K len : Nat → Nat) (σ : SG) (ρ : RG) (v3 : Int32) : Option Unit :=
  bn2 (F_X11_right σ ρ) fun r1 σ1 =>
  bn2 (F_X12_right σ1 ρ) fun r2 σ2 =>
  nm (v3 + (6 : Int32)) fun x3 =>
  rec N K len σ2 ρ x3
set_option maxHeartbeats 4000000 in
set_option maxRecDepth 100000 in
theorem wl_481 {p : Program} {e : Env} {s : State} {m : MethodId} {below : List Frame} {meth : Method} {c : Code} {b L : Nat} {xs : Nat → Int32} {rec : Nat → (Nat → Nat) → (Nat → Nat) → SG → RG → Int32 → Option Unit} {c1 s1 : Nat} (hX : va_X b L xs s s.heap) (hbl : b < s.heap.size) (hrec : ∀ (N : Nat) (ad K len : Nat → Nat) (σ : SG) (ρ : RG) (v3 : Int32) (H : Heap) (locs : List Loc) (cells slots : Nat) (ls : Array Slot), cells ≤ c1 → slots ≤ s1 → rec N K len σ ρ v3 = some () → Lay N K len ρ → RC N ρ → Cx Y D N ad p s m #[Value.ref b] meth c cL_law 4 ret RL wsL_law → WP Y D N ad K len σ ρ H → va_S (AA N ad s.heap.size) s.heap H locs → AA N ad s.heap.size = (fun q => s.heap.size ≤ q) → lv_has ls 4 [(0, .ref b), (1, .ref (ad 0)), (2, .ref (ad 54)), (3, .int v3)] → W p l e room_1 s m #[Value.ref b] below meth c H locs cells slots (lw_Z below #[Value.ref b] s) (F0 m 18 ls [])) {N : Nat} {ad K len : Nat → Nat} {σ : SG} {ρ : RG} {v3 : Int32} {H : Heap} {locs : List Loc} {cells slots : Nat} {ls : Array Slot} (hc1 : c1 ≤ 600000) (hs1 : s1 ≤ 7302250) (hcc : cells + 14 ≤ c1) (hss : slots + 90 ≤ s1) (hF : F_L_481 xs L rec N K len σ ρ v3 = some ()) (hL : Lay N K len ρ) (hR : RC N ρ) (C : Cx Y D N ad p s m #[Value.ref b] meth c cL_law 4 ret RL wsL_law) (hP : WP Y D N ad K len σ ρ H) (hS : va_S (AA N ad s.heap.size) s.heap H locs) (hAQ : AA N ad s.heap.size = (fun q => s.heap.size ≤ q)) (hl : lv_has ls 4 [(0, .ref b), (1, .ref (ad 0)), (2, .ref (ad 54)), (3, .int v3)]) : W p l e room_1 s m #[Value.ref b] below meth c H locs cells slots (lw_Z below #[Value.ref b] s) (F0 m 481 ls []) := by
  have hx := C.1.1
  have hb := C.1.2.1
  have hbA : ¬ AA N ad s.heap.size b := by rw [hAQ]; exact Nat.not_le.mpr hbl
  unfold F_L_481 at hF
  refine lv_aload_n hx hb dL_law_481 rfl (lv_at hl 1 rfl) ?_
  obtain ⟨r1, σ1, hq1, hF⟩ := bn2_1 hF
  refine x_callV (ci := 11) rfl rfl C hP hS (c_X11_right hL hq1) (lr_0 hL) (lk_0 hL) (cwV 0 C.1.2.2.2.2 (gdV mw_689 mw_690 mw_691 mw_2 mw_692) rfl rfl rfl hd_X11_right ⟨(Nat.le_of_ble_eq_true rfl), (Nat.le_of_ble_eq_true rfl)⟩) rfl rfl hl.1 (Nat.le_of_ble_eq_true rfl) ⟨by show _ ≤ 600000; omega, by show _ ≤ 7302250; omega⟩ dL_law_482 (fun H locs hP hS => ?_)
  refine lv_pop hx hb dL_law_485 rfl ?_
  refine lv_aload_n hx hb dL_law_486 rfl (lv_at hl 2 rfl) ?_
  obtain ⟨r2, σ2, hq2, hF⟩ := bn2_1 hF
  refine x_callV (ci := 12) rfl rfl C hP hS (c_X12_right hL hq2) (lr_54 hL) (lk_54 hL) (cwV 0 C.1.2.2.2.2 (gdV mw_695 mw_696 mw_697 mw_5 mw_698) rfl rfl rfl hd_X12_right ⟨(Nat.le_of_ble_eq_true rfl), (Nat.le_of_ble_eq_true rfl)⟩) rfl rfl hl.1 (Nat.le_of_ble_eq_true rfl) ⟨by show _ ≤ 600000; omega, by show _ ≤ 7302250; omega⟩ dL_law_487 (fun H locs hP hS => ?_)
  refine lv_pop hx hb dL_law_490 rfl ?_
  refine lv_goto (tgt := 1257) hx hb dL_law_491 (by decide) ?_
  obtain ⟨x3, ex3, hF⟩ := nm_1 hF
  refine lv_iinc (v := x3) (lv' := [(3, .int x3), (0, .ref b), (1, .ref (ad 0)), (2, .ref (ad 54))]) hx hb dL_law_1257 hl (k := 3) rfl (by rw [ex3]; first | rfl | decide) (by decide) rfl (fun ls hl => ?_)
  refine lv_goto (tgt := 18) hx hb dL_law_1260 (by decide) ?_
  exact hrec _ _ _ _ _ _ _ _ _ _ _ _ (by omega) (by omega) hF hL hR C hP hS hAQ (lv_sub hl [1, 2, 3, 0] rfl)
def F_L_494 (xs : Nat → Int32) (L : Nat) (rec : Nat → (Nat → Nat) → (Nat → Nat) → SG → RG → Int32 → Option Unit) (N : Nat) (K len : Nat → Nat) (σ : SG) (ρ : RG) (v3 : Int32) : Option Unit :=
  nm (v3 + (1 : Int32)) fun x1 =>
  gd (inb x1 L) <|
  if (xs (x1).toNatClampNeg) = 0 then
    bn2 (F_X11_turn (0 : Int32) σ ρ) fun r4 σ4 =>
    nm (v3 + (1 : Int32)) fun x5 =>
    gd (inb x5 L) <|
    if (xs (x5).toNatClampNeg) = 0 then
      bn2 (F_X12_turn (0 : Int32) σ4 ρ) fun r8 σ8 =>
      nm (v3 + (6 : Int32)) fun x9 =>
      rec N K len σ8 ρ x9
    else
      bn2 (F_X12_turn (1 : Int32) σ4 ρ) fun r10 σ10 =>
      nm (v3 + (6 : Int32)) fun x11 =>
      rec N K len σ10 ρ x11
  else
    bn2 (F_X11_turn (1 : Int32) σ ρ) fun r12 σ12 =>
    nm (v3 + (1 : Int32)) fun x13 =>
    gd (inb x13 L) <|
    if (xs (x13).toNatClampNeg) = 0 then
      bn2 (F_X12_turn (0 : Int32) σ12 ρ) fun r16 σ16 =>
      nm (v3 + (6 : Int32)) fun x17 =>
      rec N K len σ16 ρ x17
    else
      bn2 (F_X12_turn (1 : Int32) σ12 ρ) fun r18 σ18 =>
      nm (v3 + (6 : Int32)) fun x19 =>
      rec N K len σ18 ρ x19
set_option maxHeartbeats 4000000 in
set_option maxRecDepth 100000 in
theorem wl_494 {p : Program} {e : Env} {s : State} {m : MethodId} {below : List Frame} {meth : Method} {c : Code} {b L : Nat} {xs : Nat → Int32} {rec : Nat → (Nat → Nat) → (Nat → Nat) → SG → RG → Int32 → Option Unit} {c1 s1 : Nat} (hX : va_X b L xs s s.heap) (hbl : b < s.heap.size) (hrec : ∀ (N : Nat) (ad K len : Nat → Nat) (σ : SG) (ρ : RG) (v3 : Int32) (H : Heap) (locs : List Loc) (cells slots : Nat) (ls : Array Slot), cells ≤ c1 → slots ≤ s1 → rec N K len σ ρ v3 = some () → Lay N K len ρ → RC N ρ → Cx Y D N ad p s m #[Value.ref b] meth c cL_law 4 ret RL wsL_law → WP Y D N ad K len σ ρ H → va_S (AA N ad s.heap.size) s.heap H locs → AA N ad s.heap.size = (fun q => s.heap.size ≤ q) → lv_has ls 4 [(0, .ref b), (1, .ref (ad 0)), (2, .ref (ad 54)), (3, .int v3)] → W p l e room_1 s m #[Value.ref b] below meth c H locs cells slots (lw_Z below #[Value.ref b] s) (F0 m 18 ls [])) {N : Nat} {ad K len : Nat → Nat} {σ : SG} {ρ : RG} {v3 : Int32} {H : Heap} {locs : List Loc} {cells slots : Nat} {ls : Array Slot} (hc1 : c1 ≤ 600000) (hs1 : s1 ≤ 7302250) (hcc : cells + 14 ≤ c1) (hss : slots + 90 ≤ s1) (hF : F_L_494 xs L rec N K len σ ρ v3 = some ()) (hL : Lay N K len ρ) (hR : RC N ρ) (C : Cx Y D N ad p s m #[Value.ref b] meth c cL_law 4 ret RL wsL_law) (hP : WP Y D N ad K len σ ρ H) (hS : va_S (AA N ad s.heap.size) s.heap H locs) (hAQ : AA N ad s.heap.size = (fun q => s.heap.size ≤ q)) (hl : lv_has ls 4 [(0, .ref b), (1, .ref (ad 0)), (2, .ref (ad 54)), (3, .int v3)]) : W p l e room_1 s m #[Value.ref b] below meth c H locs cells slots (lw_Z below #[Value.ref b] s) (F0 m 494 ls []) := by
  have hx := C.1.1
  have hb := C.1.2.1
  have hbA : ¬ AA N ad s.heap.size b := by rw [hAQ]; exact Nat.not_le.mpr hbl
  unfold F_L_494 at hF
  refine lv_aload_n hx hb dL_law_494 rfl (lv_at hl 1 rfl) ?_
  refine lv_aload_n hx hb dL_law_495 rfl (lv_at hl 0 rfl) ?_
  refine lv_iload_n hx hb dL_law_496 rfl (lv_at hl 3 rfl) ?_
  refine lv_iconst (v := 1) hx hb dL_law_497 (by decide) ?_
  refine lv_iadd hx hb dL_law_498 ?_
  obtain ⟨x1, ex1, hF⟩ := nm_1 hF
  refine x_top ex1 ?_
  obtain ⟨g2, hF⟩ := gd_1 hF
  refine va_sld hx hb hX hbl hbA hS (inb_in g2) dL_law_499 ?_
  refine lv_if_eq (tgt := 507) hx hb dL_law_500 (by decide) (fun c_3 => ?_) (fun c_3 => ?_) -- COND 3 by_cases c_3 : (xs (x1).toNatClampNeg) = 0
  · have hF := ite_t hF c_3
    refine lv_iconst (v := 0) hx hb dL_law_507 (by decide) ?_
    obtain ⟨r4, σ4, hq4, hF⟩ := bn2_1 hF
    refine x_callV (ci := 11) rfl rfl C hP hS (c_X11_turn hL hq4) (lr_0 hL) (lk_0 hL) (cwV 1 C.1.2.2.2.2 (gdV mw_699 mw_700 mw_701 mw_2 mw_702) rfl rfl rfl hd_X11_turn ⟨(Nat.le_of_ble_eq_true rfl), (Nat.le_of_ble_eq_true rfl)⟩) rfl rfl hl.1 (Nat.le_of_ble_eq_true rfl) ⟨by show _ ≤ 600000; omega, by show _ ≤ 7302250; omega⟩ dL_law_508 (fun H locs hP hS => ?_)
    refine lv_pop hx hb dL_law_511 rfl ?_
    refine lv_aload_n hx hb dL_law_512 rfl (lv_at hl 2 rfl) ?_
    refine lv_aload_n hx hb dL_law_513 rfl (lv_at hl 0 rfl) ?_
    refine lv_iload_n hx hb dL_law_514 rfl (lv_at hl 3 rfl) ?_
    refine lv_iconst (v := 1) hx hb dL_law_515 (by decide) ?_
    refine lv_iadd hx hb dL_law_516 ?_
    obtain ⟨x5, ex5, hF⟩ := nm_1 hF
    refine x_top ex5 ?_
    obtain ⟨g6, hF⟩ := gd_1 hF
    refine va_sld hx hb hX hbl hbA hS (inb_in g6) dL_law_517 ?_
    refine lv_if_eq (tgt := 525) hx hb dL_law_518 (by decide) (fun c_7 => ?_) (fun c_7 => ?_) -- COND 7 by_cases c_7 : (xs (x5).toNatClampNeg) = 0
    · have hF := ite_t hF c_7
      refine lv_iconst (v := 0) hx hb dL_law_525 (by decide) ?_
      obtain ⟨r8, σ8, hq8, hF⟩ := bn2_1 hF
      refine x_callV (ci := 12) rfl rfl C hP hS (c_X12_turn hL hq8) (lr_54 hL) (lk_54 hL) (cwV 1 C.1.2.2.2.2 (gdV mw_703 mw_704 mw_705 mw_5 mw_706) rfl rfl rfl hd_X12_turn ⟨(Nat.le_of_ble_eq_true rfl), (Nat.le_of_ble_eq_true rfl)⟩) rfl rfl hl.1 (Nat.le_of_ble_eq_true rfl) ⟨by show _ ≤ 600000; omega, by show _ ≤ 7302250; omega⟩ dL_law_526 (fun H locs hP hS => ?_)
      refine lv_pop hx hb dL_law_529 rfl ?_
      refine lv_goto (tgt := 1257) hx hb dL_law_530 (by decide) ?_
      obtain ⟨x9, ex9, hF⟩ := nm_1 hF
      refine lv_iinc (v := x9) (lv' := [(3, .int x9), (0, .ref b), (1, .ref (ad 0)), (2, .ref (ad 54))]) hx hb dL_law_1257 hl (k := 3) rfl (by rw [ex9]; first | rfl | decide) (by decide) rfl (fun ls hl => ?_)
      refine lv_goto (tgt := 18) hx hb dL_law_1260 (by decide) ?_
      exact hrec _ _ _ _ _ _ _ _ _ _ _ _ (by omega) (by omega) hF hL hR C hP hS hAQ (lv_sub hl [1, 2, 3, 0] rfl)
    · have hF := ite_f hF c_7
      refine lv_iconst (v := 1) hx hb dL_law_521 (by decide) ?_
      refine lv_goto (tgt := 526) hx hb dL_law_522 (by decide) ?_
      obtain ⟨r10, σ10, hq10, hF⟩ := bn2_1 hF
      refine x_callV (ci := 12) rfl rfl C hP hS (c_X12_turn hL hq10) (lr_54 hL) (lk_54 hL) (cwV 1 C.1.2.2.2.2 (gdV mw_703 mw_704 mw_705 mw_5 mw_706) rfl rfl rfl hd_X12_turn ⟨(Nat.le_of_ble_eq_true rfl), (Nat.le_of_ble_eq_true rfl)⟩) rfl rfl hl.1 (Nat.le_of_ble_eq_true rfl) ⟨by show _ ≤ 600000; omega, by show _ ≤ 7302250; omega⟩ dL_law_526 (fun H locs hP hS => ?_)
      refine lv_pop hx hb dL_law_529 rfl ?_
      refine lv_goto (tgt := 1257) hx hb dL_law_530 (by decide) ?_
      obtain ⟨x11, ex11, hF⟩ := nm_1 hF
      refine lv_iinc (v := x11) (lv' := [(3, .int x11), (0, .ref b), (1, .ref (ad 0)), (2, .ref (ad 54))]) hx hb dL_law_1257 hl (k := 3) rfl (by rw [ex11]; first | rfl | decide) (by decide) rfl (fun ls hl => ?_)
      refine lv_goto (tgt := 18) hx hb dL_law_1260 (by decide) ?_
      exact hrec _ _ _ _ _ _ _ _ _ _ _ _ (by omega) (by omega) hF hL hR C hP hS hAQ (lv_sub hl [1, 2, 3, 0] rfl)
  · have hF := ite_f hF c_3
    refine lv_iconst (v := 1) hx hb dL_law_503 (by decide) ?_
    refine lv_goto (tgt := 508) hx hb dL_law_504 (by decide) ?_
    obtain ⟨r12, σ12, hq12, hF⟩ := bn2_1 hF
    refine x_callV (ci := 11) rfl rfl C hP hS (c_X11_turn hL hq12) (lr_0 hL) (lk_0 hL) (cwV 1 C.1.2.2.2.2 (gdV mw_699 mw_700 mw_701 mw_2 mw_702) rfl rfl rfl hd_X11_turn ⟨(Nat.le_of_ble_eq_true rfl), (Nat.le_of_ble_eq_true rfl)⟩) rfl rfl hl.1 (Nat.le_of_ble_eq_true rfl) ⟨by show _ ≤ 600000; omega, by show _ ≤ 7302250; omega⟩ dL_law_508 (fun H locs hP hS => ?_)
    refine lv_pop hx hb dL_law_511 rfl ?_
    refine lv_aload_n hx hb dL_law_512 rfl (lv_at hl 2 rfl) ?_
    refine lv_aload_n hx hb dL_law_513 rfl (lv_at hl 0 rfl) ?_
    refine lv_iload_n hx hb dL_law_514 rfl (lv_at hl 3 rfl) ?_
    refine lv_iconst (v := 1) hx hb dL_law_515 (by decide) ?_
    refine lv_iadd hx hb dL_law_516 ?_
    obtain ⟨x13, ex13, hF⟩ := nm_1 hF
    refine x_top ex13 ?_
    obtain ⟨g14, hF⟩ := gd_1 hF
    refine va_sld hx hb hX hbl hbA hS (inb_in g14) dL_law_517 ?_
    refine lv_if_eq (tgt := 525) hx hb dL_law_518 (by decide) (fun c_15 => ?_) (fun c_15 => ?_) -- COND 15 by_cases c_15 : (xs (x13).toNatClampNeg) = 0
    · have hF := ite_t hF c_15
      refine lv_iconst (v := 0) hx hb dL_law_525 (by decide) ?_
      obtain ⟨r16, σ16, hq16, hF⟩ := bn2_1 hF
      refine x_callV (ci := 12) rfl rfl C hP hS (c_X12_turn hL hq16) (lr_54 hL) (lk_54 hL) (cwV 1 C.1.2.2.2.2 (gdV mw_703 mw_704 mw_705 mw_5 mw_706) rfl rfl rfl hd_X12_turn ⟨(Nat.le_of_ble_eq_true rfl), (Nat.le_of_ble_eq_true rfl)⟩) rfl rfl hl.1 (Nat.le_of_ble_eq_true rfl) ⟨by show _ ≤ 600000; omega, by show _ ≤ 7302250; omega⟩ dL_law_526 (fun H locs hP hS => ?_)
      refine lv_pop hx hb dL_law_529 rfl ?_
      refine lv_goto (tgt := 1257) hx hb dL_law_530 (by decide) ?_
      obtain ⟨x17, ex17, hF⟩ := nm_1 hF
      refine lv_iinc (v := x17) (lv' := [(3, .int x17), (0, .ref b), (1, .ref (ad 0)), (2, .ref (ad 54))]) hx hb dL_law_1257 hl (k := 3) rfl (by rw [ex17]; first | rfl | decide) (by decide) rfl (fun ls hl => ?_)
      refine lv_goto (tgt := 18) hx hb dL_law_1260 (by decide) ?_
      exact hrec _ _ _ _ _ _ _ _ _ _ _ _ (by omega) (by omega) hF hL hR C hP hS hAQ (lv_sub hl [1, 2, 3, 0] rfl)
    · have hF := ite_f hF c_15
      refine lv_iconst (v := 1) hx hb dL_law_521 (by decide) ?_
      refine lv_goto (tgt := 526) hx hb dL_law_522 (by decide) ?_
      obtain ⟨r18, σ18, hq18, hF⟩ := bn2_1 hF
      refine x_callV (ci := 12) rfl rfl C hP hS (c_X12_turn hL hq18) (lr_54 hL) (lk_54 hL) (cwV 1 C.1.2.2.2.2 (gdV mw_703 mw_704 mw_705 mw_5 mw_706) rfl rfl rfl hd_X12_turn ⟨(Nat.le_of_ble_eq_true rfl), (Nat.le_of_ble_eq_true rfl)⟩) rfl rfl hl.1 (Nat.le_of_ble_eq_true rfl) ⟨by show _ ≤ 600000; omega, by show _ ≤ 7302250; omega⟩ dL_law_526 (fun H locs hP hS => ?_)
      refine lv_pop hx hb dL_law_529 rfl ?_
      refine lv_goto (tgt := 1257) hx hb dL_law_530 (by decide) ?_
      obtain ⟨x19, ex19, hF⟩ := nm_1 hF
      refine lv_iinc (v := x19) (lv' := [(3, .int x19), (0, .ref b), (1, .ref (ad 0)), (2, .ref (ad 54))]) hx hb dL_law_1257 hl (k := 3) rfl (by rw [ex19]; first | rfl | decide) (by decide) rfl (fun ls hl => ?_)
      refine lv_goto (tgt := 18) hx hb dL_law_1260 (by decide) ?_
      exact hrec _ _ _ _ _ _ _ _ _ _ _ _ (by omega) (by omega) hF hL hR C hP hS hAQ (lv_sub hl [1, 2, 3, 0] rfl)
def F_L_533 (xs : Nat → Int32) (L : Nat) (rec : Nat → (Nat → Nat) → (Nat → Nat) → SG → RG → Int32 → Option Unit) (N : Nat) (K len : Nat → Nat) (σ : SG) (ρ : RG) (v3 : Int32) : Option Unit :=
  nm (v3 + (1 : Int32)) fun x1 =>
  gd (inb x1 L) <|
  nm (v3 + (2 : Int32)) fun x3 =>
  gd (inb x3 L) <|
  bn2 (F_X11_would N K len (xs (x1).toNatClampNeg) (xs (x3).toNatClampNeg) σ ρ) fun r5 σ5 =>
  nm (v3 + (1 : Int32)) fun x6 =>
  gd (inb x6 L) <|
  nm (v3 + (2 : Int32)) fun x8 =>
  gd (inb x8 L) <|
  bn2 (F_X12_would (xs (x6).toNatClampNeg) (xs (x8).toNatClampNeg) σ5 ρ) fun r10 σ10 =>
  nm (v3 + (6 : Int32)) fun x11 =>
  rec N K len σ10 ρ x11
set_option maxHeartbeats 4000000 in
set_option maxRecDepth 100000 in
theorem wl_533 {p : Program} {e : Env} {s : State} {m : MethodId} {below : List Frame} {meth : Method} {c : Code} {b L : Nat} {xs : Nat → Int32} {rec : Nat → (Nat → Nat) → (Nat → Nat) → SG → RG → Int32 → Option Unit} {c1 s1 : Nat} (hX : va_X b L xs s s.heap) (hbl : b < s.heap.size) (hrec : ∀ (N : Nat) (ad K len : Nat → Nat) (σ : SG) (ρ : RG) (v3 : Int32) (H : Heap) (locs : List Loc) (cells slots : Nat) (ls : Array Slot), cells ≤ c1 → slots ≤ s1 → rec N K len σ ρ v3 = some () → Lay N K len ρ → RC N ρ → Cx Y D N ad p s m #[Value.ref b] meth c cL_law 4 ret RL wsL_law → WP Y D N ad K len σ ρ H → va_S (AA N ad s.heap.size) s.heap H locs → AA N ad s.heap.size = (fun q => s.heap.size ≤ q) → lv_has ls 4 [(0, .ref b), (1, .ref (ad 0)), (2, .ref (ad 54)), (3, .int v3)] → W p l e room_1 s m #[Value.ref b] below meth c H locs cells slots (lw_Z below #[Value.ref b] s) (F0 m 18 ls [])) {N : Nat} {ad K len : Nat → Nat} {σ : SG} {ρ : RG} {v3 : Int32} {H : Heap} {locs : List Loc} {cells slots : Nat} {ls : Array Slot} (hc1 : c1 ≤ 600000) (hs1 : s1 ≤ 7302250) (hcc : cells + 14 ≤ c1) (hss : slots + 90 ≤ s1) (hF : F_L_533 xs L rec N K len σ ρ v3 = some ()) (hL : Lay N K len ρ) (hR : RC N ρ) (C : Cx Y D N ad p s m #[Value.ref b] meth c cL_law 4 ret RL wsL_law) (hP : WP Y D N ad K len σ ρ H) (hS : va_S (AA N ad s.heap.size) s.heap H locs) (hAQ : AA N ad s.heap.size = (fun q => s.heap.size ≤ q)) (hl : lv_has ls 4 [(0, .ref b), (1, .ref (ad 0)), (2, .ref (ad 54)), (3, .int v3)]) : W p l e room_1 s m #[Value.ref b] below meth c H locs cells slots (lw_Z below #[Value.ref b] s) (F0 m 533 ls []) := by
  have hx := C.1.1
  have hb := C.1.2.1
  have hbA : ¬ AA N ad s.heap.size b := by rw [hAQ]; exact Nat.not_le.mpr hbl
  unfold F_L_533 at hF
  refine lv_aload_n hx hb dL_law_533 rfl (lv_at hl 1 rfl) ?_
  refine lv_aload_n hx hb dL_law_534 rfl (lv_at hl 0 rfl) ?_
  refine lv_iload_n hx hb dL_law_535 rfl (lv_at hl 3 rfl) ?_
  refine lv_iconst (v := 1) hx hb dL_law_536 (by decide) ?_
  refine lv_iadd hx hb dL_law_537 ?_
  obtain ⟨x1, ex1, hF⟩ := nm_1 hF
  refine x_top ex1 ?_
  obtain ⟨g2, hF⟩ := gd_1 hF
  refine va_sld hx hb hX hbl hbA hS (inb_in g2) dL_law_538 ?_
  refine lv_aload_n hx hb dL_law_539 rfl (lv_at hl 0 rfl) ?_
  refine lv_iload_n hx hb dL_law_540 rfl (lv_at hl 3 rfl) ?_
  refine lv_iconst (v := 2) hx hb dL_law_541 (by decide) ?_
  refine lv_iadd hx hb dL_law_542 ?_
  obtain ⟨x3, ex3, hF⟩ := nm_1 hF
  refine x_top ex3 ?_
  obtain ⟨g4, hF⟩ := gd_1 hF
  refine va_sld hx hb hX hbl hbA hS (inb_in g4) dL_law_543 ?_
  obtain ⟨r5, σ5, hq5, hF⟩ := bn2_1 hF
  refine x_callV (ci := 11) rfl rfl C hP hS (c_X11_would hL hq5) (lr_0 hL) (lk_0 hL) (cwV 2 C.1.2.2.2.2 (gdV mw_707 mw_708 mw_709 mw_2 mw_710) rfl rfl rfl hd_X11_would ⟨(Nat.le_of_ble_eq_true rfl), (Nat.le_of_ble_eq_true rfl)⟩) rfl rfl hl.1 (Nat.le_of_ble_eq_true rfl) ⟨by show _ ≤ 600000; omega, by show _ ≤ 7302250; omega⟩ dL_law_544 (fun H locs hP hS => ?_)
  refine lv_pop hx hb dL_law_547 rfl ?_
  refine lv_aload_n hx hb dL_law_548 rfl (lv_at hl 2 rfl) ?_
  refine lv_aload_n hx hb dL_law_549 rfl (lv_at hl 0 rfl) ?_
  refine lv_iload_n hx hb dL_law_550 rfl (lv_at hl 3 rfl) ?_
  refine lv_iconst (v := 1) hx hb dL_law_551 (by decide) ?_
  refine lv_iadd hx hb dL_law_552 ?_
  obtain ⟨x6, ex6, hF⟩ := nm_1 hF
  refine x_top ex6 ?_
  obtain ⟨g7, hF⟩ := gd_1 hF
  refine va_sld hx hb hX hbl hbA hS (inb_in g7) dL_law_553 ?_
  refine lv_aload_n hx hb dL_law_554 rfl (lv_at hl 0 rfl) ?_
  refine lv_iload_n hx hb dL_law_555 rfl (lv_at hl 3 rfl) ?_
  refine lv_iconst (v := 2) hx hb dL_law_556 (by decide) ?_
  refine lv_iadd hx hb dL_law_557 ?_
  obtain ⟨x8, ex8, hF⟩ := nm_1 hF
  refine x_top ex8 ?_
  obtain ⟨g9, hF⟩ := gd_1 hF
  refine va_sld hx hb hX hbl hbA hS (inb_in g9) dL_law_558 ?_
  obtain ⟨r10, σ10, hq10, hF⟩ := bn2_1 hF
  refine x_callV (ci := 12) rfl rfl C hP hS (c_X12_would hL hq10) (lr_54 hL) (lk_54 hL) (cwV 2 C.1.2.2.2.2 (gdV mw_728 mw_729 mw_730 mw_5 mw_731) rfl rfl rfl hd_X12_would ⟨(Nat.le_of_ble_eq_true rfl), (Nat.le_of_ble_eq_true rfl)⟩) rfl rfl hl.1 (Nat.le_of_ble_eq_true rfl) ⟨by show _ ≤ 600000; omega, by show _ ≤ 7302250; omega⟩ dL_law_559 (fun H locs hP hS => ?_)
  refine lv_pop hx hb dL_law_562 rfl ?_
  refine lv_goto (tgt := 1257) hx hb dL_law_563 (by decide) ?_
  obtain ⟨x11, ex11, hF⟩ := nm_1 hF
  refine lv_iinc (v := x11) (lv' := [(3, .int x11), (0, .ref b), (1, .ref (ad 0)), (2, .ref (ad 54))]) hx hb dL_law_1257 hl (k := 3) rfl (by rw [ex11]; first | rfl | decide) (by decide) rfl (fun ls hl => ?_)
  refine lv_goto (tgt := 18) hx hb dL_law_1260 (by decide) ?_
  exact hrec _ _ _ _ _ _ _ _ _ _ _ _ (by omega) (by omega) hF hL hR C hP hS hAQ (lv_sub hl [1, 2, 3, 0] rfl)
def F_L_566 (xs : Nat → Int32) (L : Nat) (rec : Nat → (Nat → Nat) → (Nat → Nat) → SG → RG → Int32 → Option Unit) (N : Nat) (K len : Nat → Nat) (σ : SG) (ρ : RG) (v3 : Int32) : Option Unit :=
  nm (v3 + (1 : Int32)) fun x1 =>
  gd (inb x1 L) <|
  nm (v3 + (2 : Int32)) fun x3 =>
  gd (inb x3 L) <|
  bn2 (F_X11_on N K len (xs (x1).toNatClampNeg) (xs (x3).toNatClampNeg) σ ρ) fun r5 σ5 =>
  nm (v3 + (1 : Int32)) fun x6 =>
  gd (inb x6 L) <|
  nm (v3 + (2 : Int32)) fun x8 =>
  gd (inb x8 L) <|
  bn2 (F_X12_on (xs (x6).toNatClampNeg) (xs (x8).toNatClampNeg) σ5 ρ) fun r10 σ10 =>
  nm (v3 + (6 : Int32)) fun x11 =>
  rec N K len σ10 ρ x11
set_option maxHeartbeats 4000000 in
set_option maxRecDepth 100000 in
theorem wl_566 {p : Program} {e : Env} {s : State} {m : MethodId} {below : List Frame} {meth : Method} {c : Code} {b L : Nat} {xs : Nat → Int32} {rec : Nat → (Nat → Nat) → (Nat → Nat) → SG → RG → Int32 → Option Unit} {c1 s1 : Nat} (hX : va_X b L xs s s.heap) (hbl : b < s.heap.size) (hrec : ∀ (N : Nat) (ad K len : Nat → Nat) (σ : SG) (ρ : RG) (v3 : Int32) (H : Heap) (locs : List Loc) (cells slots : Nat) (ls : Array Slot), cells ≤ c1 → slots ≤ s1 → rec N K len σ ρ v3 = some () → Lay N K len ρ → RC N ρ → Cx Y D N ad p s m #[Value.ref b] meth c cL_law 4 ret RL wsL_law → WP Y D N ad K len σ ρ H → va_S (AA N ad s.heap.size) s.heap H locs → AA N ad s.heap.size = (fun q => s.heap.size ≤ q) → lv_has ls 4 [(0, .ref b), (1, .ref (ad 0)), (2, .ref (ad 54)), (3, .int v3)] → W p l e room_1 s m #[Value.ref b] below meth c H locs cells slots (lw_Z below #[Value.ref b] s) (F0 m 18 ls [])) {N : Nat} {ad K len : Nat → Nat} {σ : SG} {ρ : RG} {v3 : Int32} {H : Heap} {locs : List Loc} {cells slots : Nat} {ls : Array Slot} (hc1 : c1 ≤ 600000) (hs1 : s1 ≤ 7302250) (hcc : cells + 14 ≤ c1) (hss : slots + 90 ≤ s1) (hF : F_L_566 xs L rec N K len σ ρ v3 = some ()) (hL : Lay N K len ρ) (hR : RC N ρ) (C : Cx Y D N ad p s m #[Value.ref b] meth c cL_law 4 ret RL wsL_law) (hP : WP Y D N ad K len σ ρ H) (hS : va_S (AA N ad s.heap.size) s.heap H locs) (hAQ : AA N ad s.heap.size = (fun q => s.heap.size ≤ q)) (hl : lv_has ls 4 [(0, .ref b), (1, .ref (ad 0)), (2, .ref (ad 54)), (3, .int v3)]) : W p l e room_1 s m #[Value.ref b] below meth c H locs cells slots (lw_Z below #[Value.ref b] s) (F0 m 566 ls []) := by
  have hx := C.1.1
  have hb := C.1.2.1
  have hbA : ¬ AA N ad s.heap.size b := by rw [hAQ]; exact Nat.not_le.mpr hbl
  unfold F_L_566 at hF
  refine lv_aload_n hx hb dL_law_566 rfl (lv_at hl 1 rfl) ?_
  refine lv_aload_n hx hb dL_law_567 rfl (lv_at hl 0 rfl) ?_
  refine lv_iload_n hx hb dL_law_568 rfl (lv_at hl 3 rfl) ?_
  refine lv_iconst (v := 1) hx hb dL_law_569 (by decide) ?_
  refine lv_iadd hx hb dL_law_570 ?_
  obtain ⟨x1, ex1, hF⟩ := nm_1 hF
  refine x_top ex1 ?_
  obtain ⟨g2, hF⟩ := gd_1 hF
  refine va_sld hx hb hX hbl hbA hS (inb_in g2) dL_law_571 ?_
  refine lv_aload_n hx hb dL_law_572 rfl (lv_at hl 0 rfl) ?_
  refine lv_iload_n hx hb dL_law_573 rfl (lv_at hl 3 rfl) ?_
  refine lv_iconst (v := 2) hx hb dL_law_574 (by decide) ?_
  refine lv_iadd hx hb dL_law_575 ?_
  obtain ⟨x3, ex3, hF⟩ := nm_1 hF
  refine x_top ex3 ?_
  obtain ⟨g4, hF⟩ := gd_1 hF
  refine va_sld hx hb hX hbl hbA hS (inb_in g4) dL_law_576 ?_
  obtain ⟨r5, σ5, hq5, hF⟩ := bn2_1 hF
  refine x_callV (ci := 11) rfl rfl C hP hS (c_X11_on hL hq5) (lr_0 hL) (lk_0 hL) (cwV 2 C.1.2.2.2.2 (gdV mw_740 mw_741 mw_742 mw_2 mw_743) rfl rfl rfl hd_X11_on ⟨(Nat.le_of_ble_eq_true rfl), (Nat.le_of_ble_eq_true rfl)⟩) rfl rfl hl.1 (Nat.le_of_ble_eq_true rfl) ⟨by show _ ≤ 600000; omega, by show _ ≤ 7302250; omega⟩ dL_law_577 (fun H locs hP hS => ?_)
  refine lv_pop hx hb dL_law_580 rfl ?_
  refine lv_aload_n hx hb dL_law_581 rfl (lv_at hl 2 rfl) ?_
  refine lv_aload_n hx hb dL_law_582 rfl (lv_at hl 0 rfl) ?_
  refine lv_iload_n hx hb dL_law_583 rfl (lv_at hl 3 rfl) ?_
  refine lv_iconst (v := 1) hx hb dL_law_584 (by decide) ?_
  refine lv_iadd hx hb dL_law_585 ?_
  obtain ⟨x6, ex6, hF⟩ := nm_1 hF
  refine x_top ex6 ?_
  obtain ⟨g7, hF⟩ := gd_1 hF
  refine va_sld hx hb hX hbl hbA hS (inb_in g7) dL_law_586 ?_
  refine lv_aload_n hx hb dL_law_587 rfl (lv_at hl 0 rfl) ?_
  refine lv_iload_n hx hb dL_law_588 rfl (lv_at hl 3 rfl) ?_
  refine lv_iconst (v := 2) hx hb dL_law_589 (by decide) ?_
  refine lv_iadd hx hb dL_law_590 ?_
  obtain ⟨x8, ex8, hF⟩ := nm_1 hF
  refine x_top ex8 ?_
  obtain ⟨g9, hF⟩ := gd_1 hF
  refine va_sld hx hb hX hbl hbA hS (inb_in g9) dL_law_591 ?_
  obtain ⟨r10, σ10, hq10, hF⟩ := bn2_1 hF
  refine x_callV (ci := 12) rfl rfl C hP hS (c_X12_on hL hq10) (lr_54 hL) (lk_54 hL) (cwV 2 C.1.2.2.2.2 (gdV mw_751 mw_752 mw_753 mw_5 mw_754) rfl rfl rfl hd_X12_on ⟨(Nat.le_of_ble_eq_true rfl), (Nat.le_of_ble_eq_true rfl)⟩) rfl rfl hl.1 (Nat.le_of_ble_eq_true rfl) ⟨by show _ ≤ 600000; omega, by show _ ≤ 7302250; omega⟩ dL_law_592 (fun H locs hP hS => ?_)
  refine lv_pop hx hb dL_law_595 rfl ?_
  refine lv_goto (tgt := 1257) hx hb dL_law_596 (by decide) ?_
  obtain ⟨x11, ex11, hF⟩ := nm_1 hF
  refine lv_iinc (v := x11) (lv' := [(3, .int x11), (0, .ref b), (1, .ref (ad 0)), (2, .ref (ad 54))]) hx hb dL_law_1257 hl (k := 3) rfl (by rw [ex11]; first | rfl | decide) (by decide) rfl (fun ls hl => ?_)
  refine lv_goto (tgt := 18) hx hb dL_law_1260 (by decide) ?_
  exact hrec _ _ _ _ _ _ _ _ _ _ _ _ (by omega) (by omega) hF hL hR C hP hS hAQ (lv_sub hl [1, 2, 3, 0] rfl)
def F_L_599 (xs : Nat → Int32) (L : Nat) (rec : Nat → (Nat → Nat) → (Nat → Nat) → SG → RG → Int32 → Option Unit) (N : Nat) (K len : Nat → Nat) (σ : SG) (ρ : RG) (v3 : Int32) : Option Unit :=
  nm (v3 + (1 : Int32)) fun x1 =>
  gd (inb x1 L) <|
  nm (v3 + (2 : Int32)) fun x3 =>
  gd (inb x3 L) <|
  bn2 (F_X11_toasted N K len (xs (x1).toNatClampNeg) (xs (x3).toNatClampNeg) σ ρ) fun r5 σ5 =>
  nm (v3 + (1 : Int32)) fun x6 =>
  gd (inb x6 L) <|
  nm (v3 + (2 : Int32)) fun x8 =>
  gd (inb x8 L) <|
  bn2 (F_X12_toasted (xs (x6).toNatClampNeg) (xs (x8).toNatClampNeg) σ5 ρ) fun r10 σ10 =>
  nm (v3 + (6 : Int32)) fun x11 =>
  rec N K len σ10 ρ x11
set_option maxHeartbeats 4000000 in
set_option maxRecDepth 100000 in
theorem wl_599 {p : Program} {e : Env} {s : State} {m : MethodId} {below : List Frame} {meth : Method} {c : Code} {b L : Nat} {xs : Nat → Int32} {rec : Nat → (Nat → Nat) → (Nat → Nat) → SG → RG → Int32 → Option Unit} {c1 s1 : Nat} (hX : va_X b L xs s s.heap) (hbl : b < s.heap.size) (hrec : ∀ (N : Nat) (ad K len : Nat → Nat) (σ : SG) (ρ : RG) (v3 : Int32) (H : Heap) (locs : List Loc) (cells slots : Nat) (ls : Array Slot), cells ≤ c1 → slots ≤ s1 → rec N K len σ ρ v3 = some () → Lay N K len ρ → RC N ρ → Cx Y D N ad p s m #[Value.ref b] meth c cL_law 4 ret RL wsL_law → WP Y D N ad K len σ ρ H → va_S (AA N ad s.heap.size) s.heap H locs → AA N ad s.heap.size = (fun q => s.heap.size ≤ q) → lv_has ls 4 [(0, .ref b), (1, .ref (ad 0)), (2, .ref (ad 54)), (3, .int v3)] → W p l e room_1 s m #[Value.ref b] below meth c H locs cells slots (lw_Z below #[Value.ref b] s) (F0 m 18 ls [])) {N : Nat} {ad K len : Nat → Nat} {σ : SG} {ρ : RG} {v3 : Int32} {H : Heap} {locs : List Loc} {cells slots : Nat} {ls : Array Slot} (hc1 : c1 ≤ 600000) (hs1 : s1 ≤ 7302250) (hcc : cells + 14 ≤ c1) (hss : slots + 90 ≤ s1) (hF : F_L_599 xs L rec N K len σ ρ v3 = some ()) (hL : Lay N K len ρ) (hR : RC N ρ) (C : Cx Y D N ad p s m #[Value.ref b] meth c cL_law 4 ret RL wsL_law) (hP : WP Y D N ad K len σ ρ H) (hS : va_S (AA N ad s.heap.size) s.heap H locs) (hAQ : AA N ad s.heap.size = (fun q => s.heap.size ≤ q)) (hl : lv_has ls 4 [(0, .ref b), (1, .ref (ad 0)), (2, .ref (ad 54)), (3, .int v3)]) : W p l e room_1 s m #[Value.ref b] below meth c H locs cells slots (lw_Z below #[Value.ref b] s) (F0 m 599 ls []) := by
  have hx := C.1.1
  have hb := C.1.2.1
  have hbA : ¬ AA N ad s.heap.size b := by rw [hAQ]; exact Nat.not_le.mpr hbl
  unfold F_L_599 at hF
  refine lv_aload_n hx hb dL_law_599 rfl (lv_at hl 1 rfl) ?_
  refine lv_aload_n hx hb dL_law_600 rfl (lv_at hl 0 rfl) ?_
  refine lv_iload_n hx hb dL_law_601 rfl (lv_at hl 3 rfl) ?_
  refine lv_iconst (v := 1) hx hb dL_law_602 (by decide) ?_
  refine lv_iadd hx hb dL_law_603 ?_
  obtain ⟨x1, ex1, hF⟩ := nm_1 hF
  refine x_top ex1 ?_
  obtain ⟨g2, hF⟩ := gd_1 hF
  refine va_sld hx hb hX hbl hbA hS (inb_in g2) dL_law_604 ?_
  refine lv_aload_n hx hb dL_law_605 rfl (lv_at hl 0 rfl) ?_
  refine lv_iload_n hx hb dL_law_606 rfl (lv_at hl 3 rfl) ?_
  refine lv_iconst (v := 2) hx hb dL_law_607 (by decide) ?_
  refine lv_iadd hx hb dL_law_608 ?_
  obtain ⟨x3, ex3, hF⟩ := nm_1 hF
  refine x_top ex3 ?_
  obtain ⟨g4, hF⟩ := gd_1 hF
  refine va_sld hx hb hX hbl hbA hS (inb_in g4) dL_law_609 ?_
  obtain ⟨r5, σ5, hq5, hF⟩ := bn2_1 hF
  refine x_callV (ci := 11) rfl rfl C hP hS (c_X11_toasted hL hq5) (lr_0 hL) (lk_0 hL) (cwV 2 C.1.2.2.2.2 (gdV mw_766 mw_767 mw_768 mw_2 mw_769) rfl rfl rfl hd_X11_toasted ⟨(Nat.le_of_ble_eq_true rfl), (Nat.le_of_ble_eq_true rfl)⟩) rfl rfl hl.1 (Nat.le_of_ble_eq_true rfl) ⟨by show _ ≤ 600000; omega, by show _ ≤ 7302250; omega⟩ dL_law_610 (fun H locs hP hS => ?_)
  refine lv_pop hx hb dL_law_613 rfl ?_
  refine lv_aload_n hx hb dL_law_614 rfl (lv_at hl 2 rfl) ?_
  refine lv_aload_n hx hb dL_law_615 rfl (lv_at hl 0 rfl) ?_
  refine lv_iload_n hx hb dL_law_616 rfl (lv_at hl 3 rfl) ?_
  refine lv_iconst (v := 1) hx hb dL_law_617 (by decide) ?_
  refine lv_iadd hx hb dL_law_618 ?_
  obtain ⟨x6, ex6, hF⟩ := nm_1 hF
  refine x_top ex6 ?_
  obtain ⟨g7, hF⟩ := gd_1 hF
  refine va_sld hx hb hX hbl hbA hS (inb_in g7) dL_law_619 ?_
  refine lv_aload_n hx hb dL_law_620 rfl (lv_at hl 0 rfl) ?_
  refine lv_iload_n hx hb dL_law_621 rfl (lv_at hl 3 rfl) ?_
  refine lv_iconst (v := 2) hx hb dL_law_622 (by decide) ?_
  refine lv_iadd hx hb dL_law_623 ?_
  obtain ⟨x8, ex8, hF⟩ := nm_1 hF
  refine x_top ex8 ?_
  obtain ⟨g9, hF⟩ := gd_1 hF
  refine va_sld hx hb hX hbl hbA hS (inb_in g9) dL_law_624 ?_
  obtain ⟨r10, σ10, hq10, hF⟩ := bn2_1 hF
  refine x_callV (ci := 12) rfl rfl C hP hS (c_X12_toasted hL hq10) (lr_54 hL) (lk_54 hL) (cwV 2 C.1.2.2.2.2 (gdV mw_770 mw_771 mw_772 mw_5 mw_773) rfl rfl rfl hd_X12_toasted ⟨(Nat.le_of_ble_eq_true rfl), (Nat.le_of_ble_eq_true rfl)⟩) rfl rfl hl.1 (Nat.le_of_ble_eq_true rfl) ⟨by show _ ≤ 600000; omega, by show _ ≤ 7302250; omega⟩ dL_law_625 (fun H locs hP hS => ?_)
  refine lv_pop hx hb dL_law_628 rfl ?_
  refine lv_goto (tgt := 1257) hx hb dL_law_629 (by decide) ?_
  obtain ⟨x11, ex11, hF⟩ := nm_1 hF
  refine lv_iinc (v := x11) (lv' := [(3, .int x11), (0, .ref b), (1, .ref (ad 0)), (2, .ref (ad 54))]) hx hb dL_law_1257 hl (k := 3) rfl (by rw [ex11]; first | rfl | decide) (by decide) rfl (fun ls hl => ?_)
  refine lv_goto (tgt := 18) hx hb dL_law_1260 (by decide) ?_
  exact hrec _ _ _ _ _ _ _ _ _ _ _ _ (by omega) (by omega) hF hL hR C hP hS hAQ (lv_sub hl [1, 2, 3, 0] rfl)
def F_L_632 (xs : Nat → Int32) (L : Nat) (rec : Nat → (Nat → Nat) → (Nat → Nat) → SG → RG → Int32 → Option Unit) (N : Nat) (K len : Nat → Nat) (σ : SG) (ρ : RG) (v3 : Int32) : Option Unit :=
  bn2 (F_X11_lasts N K len σ ρ) fun r1 σ1 =>
  bn2 (F_X12_lasts σ1 ρ) fun r2 σ2 =>
  nm (v3 + (6 : Int32)) fun x3 =>
  rec N K len σ2 ρ x3
set_option maxHeartbeats 4000000 in
set_option maxRecDepth 100000 in
theorem wl_632 {p : Program} {e : Env} {s : State} {m : MethodId} {below : List Frame} {meth : Method} {c : Code} {b L : Nat} {xs : Nat → Int32} {rec : Nat → (Nat → Nat) → (Nat → Nat) → SG → RG → Int32 → Option Unit} {c1 s1 : Nat} (hX : va_X b L xs s s.heap) (hbl : b < s.heap.size) (hrec : ∀ (N : Nat) (ad K len : Nat → Nat) (σ : SG) (ρ : RG) (v3 : Int32) (H : Heap) (locs : List Loc) (cells slots : Nat) (ls : Array Slot), cells ≤ c1 → slots ≤ s1 → rec N K len σ ρ v3 = some () → Lay N K len ρ → RC N ρ → Cx Y D N ad p s m #[Value.ref b] meth c cL_law 4 ret RL wsL_law → WP Y D N ad K len σ ρ H → va_S (AA N ad s.heap.size) s.heap H locs → AA N ad s.heap.size = (fun q => s.heap.size ≤ q) → lv_has ls 4 [(0, .ref b), (1, .ref (ad 0)), (2, .ref (ad 54)), (3, .int v3)] → W p l e room_1 s m #[Value.ref b] below meth c H locs cells slots (lw_Z below #[Value.ref b] s) (F0 m 18 ls [])) {N : Nat} {ad K len : Nat → Nat} {σ : SG} {ρ : RG} {v3 : Int32} {H : Heap} {locs : List Loc} {cells slots : Nat} {ls : Array Slot} (hc1 : c1 ≤ 600000) (hs1 : s1 ≤ 7302250) (hcc : cells + 14 ≤ c1) (hss : slots + 90 ≤ s1) (hF : F_L_632 xs L rec N K len σ ρ v3 = some ()) (hL : Lay N K len ρ) (hR : RC N ρ) (C : Cx Y D N ad p s m #[Value.ref b] meth c cL_law 4 ret RL wsL_law) (hP : WP Y D N ad K len σ ρ H) (hS : va_S (AA N ad s.heap.size) s.heap H locs) (hAQ : AA N ad s.heap.size = (fun q => s.heap.size ≤ q)) (hl : lv_has ls 4 [(0, .ref b), (1, .ref (ad 0)), (2, .ref (ad 54)), (3, .int v3)]) : W p l e room_1 s m #[Value.ref b] below meth c H locs cells slots (lw_Z below #[Value.ref b] s) (F0 m 632 ls []) := by
  have hx := C.1.1
  have hb := C.1.2.1
  have hbA : ¬ AA N ad s.heap.size b := by rw [hAQ]; exact Nat.not_le.mpr hbl
  unfold F_L_632 at hF
  refine lv_aload_n hx hb dL_law_632 rfl (lv_at hl 1 rfl) ?_
  obtain ⟨r1, σ1, hq1, hF⟩ := bn2_1 hF
  refine x_callV (ci := 11) rfl rfl C hP hS (c_X11_lasts hL hq1) (lr_0 hL) (lk_0 hL) (cwV 0 C.1.2.2.2.2 (gdV mw_774 mw_775 mw_776 mw_2 mw_777) rfl rfl rfl hd_X11_lasts ⟨(Nat.le_of_ble_eq_true rfl), (Nat.le_of_ble_eq_true rfl)⟩) rfl rfl hl.1 (Nat.le_of_ble_eq_true rfl) ⟨by show _ ≤ 600000; omega, by show _ ≤ 7302250; omega⟩ dL_law_633 (fun H locs hP hS => ?_)
  refine lv_pop hx hb dL_law_636 rfl ?_
  refine lv_aload_n hx hb dL_law_637 rfl (lv_at hl 2 rfl) ?_
  obtain ⟨r2, σ2, hq2, hF⟩ := bn2_1 hF
  refine x_callV (ci := 12) rfl rfl C hP hS (c_X12_lasts hL hq2) (lr_54 hL) (lk_54 hL) (cwV 0 C.1.2.2.2.2 (gdV mw_778 mw_779 mw_780 mw_5 mw_781) rfl rfl rfl hd_X12_lasts ⟨(Nat.le_of_ble_eq_true rfl), (Nat.le_of_ble_eq_true rfl)⟩) rfl rfl hl.1 (Nat.le_of_ble_eq_true rfl) ⟨by show _ ≤ 600000; omega, by show _ ≤ 7302250; omega⟩ dL_law_638 (fun H locs hP hS => ?_)
  refine lv_pop hx hb dL_law_641 rfl ?_
  refine lv_goto (tgt := 1257) hx hb dL_law_642 (by decide) ?_
  obtain ⟨x3, ex3, hF⟩ := nm_1 hF
  refine lv_iinc (v := x3) (lv' := [(3, .int x3), (0, .ref b), (1, .ref (ad 0)), (2, .ref (ad 54))]) hx hb dL_law_1257 hl (k := 3) rfl (by rw [ex3]; first | rfl | decide) (by decide) rfl (fun ls hl => ?_)
  refine lv_goto (tgt := 18) hx hb dL_law_1260 (by decide) ?_
  exact hrec _ _ _ _ _ _ _ _ _ _ _ _ (by omega) (by omega) hF hL hR C hP hS hAQ (lv_sub hl [1, 2, 3, 0] rfl)
def F_L_645 (xs : Nat → Int32) (L : Nat) (rec : Nat → (Nat → Nat) → (Nat → Nat) → SG → RG → Int32 → Option Unit) (N : Nat) (K len : Nat → Nat) (σ : SG) (ρ : RG) (v3 : Int32) : Option Unit :=
  nm (v3 + (1 : Int32)) fun x1 =>
  gd (inb x1 L) <|
  bn2 (F_X11_order N K len (xs (x1).toNatClampNeg) σ ρ) fun r3 σ3 =>
  nm (v3 + (1 : Int32)) fun x4 =>
  gd (inb x4 L) <|
  bn2 (F_X12_order (xs (x4).toNatClampNeg) σ3 ρ) fun r6 σ6 =>
  nm (v3 + (6 : Int32)) fun x7 =>
  rec N K len σ6 ρ x7
set_option maxHeartbeats 4000000 in
set_option maxRecDepth 100000 in
theorem wl_645 {p : Program} {e : Env} {s : State} {m : MethodId} {below : List Frame} {meth : Method} {c : Code} {b L : Nat} {xs : Nat → Int32} {rec : Nat → (Nat → Nat) → (Nat → Nat) → SG → RG → Int32 → Option Unit} {c1 s1 : Nat} (hX : va_X b L xs s s.heap) (hbl : b < s.heap.size) (hrec : ∀ (N : Nat) (ad K len : Nat → Nat) (σ : SG) (ρ : RG) (v3 : Int32) (H : Heap) (locs : List Loc) (cells slots : Nat) (ls : Array Slot), cells ≤ c1 → slots ≤ s1 → rec N K len σ ρ v3 = some () → Lay N K len ρ → RC N ρ → Cx Y D N ad p s m #[Value.ref b] meth c cL_law 4 ret RL wsL_law → WP Y D N ad K len σ ρ H → va_S (AA N ad s.heap.size) s.heap H locs → AA N ad s.heap.size = (fun q => s.heap.size ≤ q) → lv_has ls 4 [(0, .ref b), (1, .ref (ad 0)), (2, .ref (ad 54)), (3, .int v3)] → W p l e room_1 s m #[Value.ref b] below meth c H locs cells slots (lw_Z below #[Value.ref b] s) (F0 m 18 ls [])) {N : Nat} {ad K len : Nat → Nat} {σ : SG} {ρ : RG} {v3 : Int32} {H : Heap} {locs : List Loc} {cells slots : Nat} {ls : Array Slot} (hc1 : c1 ≤ 600000) (hs1 : s1 ≤ 7302250) (hcc : cells + 14 ≤ c1) (hss : slots + 90 ≤ s1) (hF : F_L_645 xs L rec N K len σ ρ v3 = some ()) (hL : Lay N K len ρ) (hR : RC N ρ) (C : Cx Y D N ad p s m #[Value.ref b] meth c cL_law 4 ret RL wsL_law) (hP : WP Y D N ad K len σ ρ H) (hS : va_S (AA N ad s.heap.size) s.heap H locs) (hAQ : AA N ad s.heap.size = (fun q => s.heap.size ≤ q)) (hl : lv_has ls 4 [(0, .ref b), (1, .ref (ad 0)), (2, .ref (ad 54)), (3, .int v3)]) : W p l e room_1 s m #[Value.ref b] below meth c H locs cells slots (lw_Z below #[Value.ref b] s) (F0 m 645 ls []) := by
  have hx := C.1.1
  have hb := C.1.2.1
  have hbA : ¬ AA N ad s.heap.size b := by rw [hAQ]; exact Nat.not_le.mpr hbl
  unfold F_L_645 at hF
  refine lv_aload_n hx hb dL_law_645 rfl (lv_at hl 1 rfl) ?_
  refine lv_aload_n hx hb dL_law_646 rfl (lv_at hl 0 rfl) ?_
  refine lv_iload_n hx hb dL_law_647 rfl (lv_at hl 3 rfl) ?_
  refine lv_iconst (v := 1) hx hb dL_law_648 (by decide) ?_
  refine lv_iadd hx hb dL_law_649 ?_
  obtain ⟨x1, ex1, hF⟩ := nm_1 hF
  refine x_top ex1 ?_
  obtain ⟨g2, hF⟩ := gd_1 hF
  refine va_sld hx hb hX hbl hbA hS (inb_in g2) dL_law_650 ?_
  obtain ⟨r3, σ3, hq3, hF⟩ := bn2_1 hF
  refine x_callV (ci := 11) rfl rfl C hP hS (c_X11_order hL hq3) (lr_0 hL) (lk_0 hL) (cwV 1 C.1.2.2.2.2 (gdV mw_782 mw_783 mw_784 mw_2 mw_785) rfl rfl rfl hd_X11_order ⟨(Nat.le_of_ble_eq_true rfl), (Nat.le_of_ble_eq_true rfl)⟩) rfl rfl hl.1 (Nat.le_of_ble_eq_true rfl) ⟨by show _ ≤ 600000; omega, by show _ ≤ 7302250; omega⟩ dL_law_651 (fun H locs hP hS => ?_)
  refine lv_pop hx hb dL_law_654 rfl ?_
  refine lv_aload_n hx hb dL_law_655 rfl (lv_at hl 2 rfl) ?_
  refine lv_aload_n hx hb dL_law_656 rfl (lv_at hl 0 rfl) ?_
  refine lv_iload_n hx hb dL_law_657 rfl (lv_at hl 3 rfl) ?_
  refine lv_iconst (v := 1) hx hb dL_law_658 (by decide) ?_
  refine lv_iadd hx hb dL_law_659 ?_
  obtain ⟨x4, ex4, hF⟩ := nm_1 hF
  refine x_top ex4 ?_
  obtain ⟨g5, hF⟩ := gd_1 hF
  refine va_sld hx hb hX hbl hbA hS (inb_in g5) dL_law_660 ?_
  obtain ⟨r6, σ6, hq6, hF⟩ := bn2_1 hF
  refine x_callV (ci := 12) rfl rfl C hP hS (c_X12_order hL hq6) (lr_54 hL) (lk_54 hL) (cwV 1 C.1.2.2.2.2 (gdV mw_794 mw_795 mw_796 mw_5 mw_797) rfl rfl rfl hd_X12_order ⟨(Nat.le_of_ble_eq_true rfl), (Nat.le_of_ble_eq_true rfl)⟩) rfl rfl hl.1 (Nat.le_of_ble_eq_true rfl) ⟨by show _ ≤ 600000; omega, by show _ ≤ 7302250; omega⟩ dL_law_661 (fun H locs hP hS => ?_)
  refine lv_pop hx hb dL_law_664 rfl ?_
  refine lv_goto (tgt := 1257) hx hb dL_law_665 (by decide) ?_
  obtain ⟨x7, ex7, hF⟩ := nm_1 hF
  refine lv_iinc (v := x7) (lv' := [(3, .int x7), (0, .ref b), (1, .ref (ad 0)), (2, .ref (ad 54))]) hx hb dL_law_1257 hl (k := 3) rfl (by rw [ex7]; first | rfl | decide) (by decide) rfl (fun ls hl => ?_)
  refine lv_goto (tgt := 18) hx hb dL_law_1260 (by decide) ?_
  exact hrec _ _ _ _ _ _ _ _ _ _ _ _ (by omega) (by omega) hF hL hR C hP hS hAQ (lv_sub hl [1, 2, 3, 0] rfl)
def F_L_668 (xs : Nat → Int32) (L : Nat) (rec : Nat → (Nat → Nat) → (Nat → Nat) → SG → RG → Int32 → Option Unit) (N : Nat) (K len : Nat → Nat) (σ : SG) (ρ : RG) (v3 : Int32) : Option Unit :=
  bn2 (F_X11_cancel N K len σ ρ) fun r1 σ1 =>
  bn2 (F_X12_cancel σ1 ρ) fun r2 σ2 =>
  nm (v3 + (6 : Int32)) fun x3 =>
  rec N K len σ2 ρ x3
set_option maxHeartbeats 4000000 in
set_option maxRecDepth 100000 in
theorem wl_668 {p : Program} {e : Env} {s : State} {m : MethodId} {below : List Frame} {meth : Method} {c : Code} {b L : Nat} {xs : Nat → Int32} {rec : Nat → (Nat → Nat) → (Nat → Nat) → SG → RG → Int32 → Option Unit} {c1 s1 : Nat} (hX : va_X b L xs s s.heap) (hbl : b < s.heap.size) (hrec : ∀ (N : Nat) (ad K len : Nat → Nat) (σ : SG) (ρ : RG) (v3 : Int32) (H : Heap) (locs : List Loc) (cells slots : Nat) (ls : Array Slot), cells ≤ c1 → slots ≤ s1 → rec N K len σ ρ v3 = some () → Lay N K len ρ → RC N ρ → Cx Y D N ad p s m #[Value.ref b] meth c cL_law 4 ret RL wsL_law → WP Y D N ad K len σ ρ H → va_S (AA N ad s.heap.size) s.heap H locs → AA N ad s.heap.size = (fun q => s.heap.size ≤ q) → lv_has ls 4 [(0, .ref b), (1, .ref (ad 0)), (2, .ref (ad 54)), (3, .int v3)] → W p l e room_1 s m #[Value.ref b] below meth c H locs cells slots (lw_Z below #[Value.ref b] s) (F0 m 18 ls [])) {N : Nat} {ad K len : Nat → Nat} {σ : SG} {ρ : RG} {v3 : Int32} {H : Heap} {locs : List Loc} {cells slots : Nat} {ls : Array Slot} (hc1 : c1 ≤ 600000) (hs1 : s1 ≤ 7302250) (hcc : cells + 14 ≤ c1) (hss : slots + 90 ≤ s1) (hF : F_L_668 xs L rec N K len σ ρ v3 = some ()) (hL : Lay N K len ρ) (hR : RC N ρ) (C : Cx Y D N ad p s m #[Value.ref b] meth c cL_law 4 ret RL wsL_law) (hP : WP Y D N ad K len σ ρ H) (hS : va_S (AA N ad s.heap.size) s.heap H locs) (hAQ : AA N ad s.heap.size = (fun q => s.heap.size ≤ q)) (hl : lv_has ls 4 [(0, .ref b), (1, .ref (ad 0)), (2, .ref (ad 54)), (3, .int v3)]) : W p l e room_1 s m #[Value.ref b] below meth c H locs cells slots (lw_Z below #[Value.ref b] s) (F0 m 668 ls []) := by
  have hx := C.1.1
  have hb := C.1.2.1
  have hbA : ¬ AA N ad s.heap.size b := by rw [hAQ]; exact Nat.not_le.mpr hbl
  unfold F_L_668 at hF
  refine lv_aload_n hx hb dL_law_668 rfl (lv_at hl 1 rfl) ?_
  obtain ⟨r1, σ1, hq1, hF⟩ := bn2_1 hF
  refine x_callV (ci := 11) rfl rfl C hP hS (c_X11_cancel hL hq1) (lr_0 hL) (lk_0 hL) (cwV 0 C.1.2.2.2.2 (gdV mw_811 mw_812 mw_813 mw_2 mw_814) rfl rfl rfl hd_X11_cancel ⟨(Nat.le_of_ble_eq_true rfl), (Nat.le_of_ble_eq_true rfl)⟩) rfl rfl hl.1 (Nat.le_of_ble_eq_true rfl) ⟨by show _ ≤ 600000; omega, by show _ ≤ 7302250; omega⟩ dL_law_669 (fun H locs hP hS => ?_)
  refine lv_pop hx hb dL_law_672 rfl ?_
  refine lv_aload_n hx hb dL_law_673 rfl (lv_at hl 2 rfl) ?_
  obtain ⟨r2, σ2, hq2, hF⟩ := bn2_1 hF
  refine x_callV (ci := 12) rfl rfl C hP hS (c_X12_cancel hL hq2) (lr_54 hL) (lk_54 hL) (cwV 0 C.1.2.2.2.2 (gdV mw_816 mw_817 mw_818 mw_5 mw_819) rfl rfl rfl hd_X12_cancel ⟨(Nat.le_of_ble_eq_true rfl), (Nat.le_of_ble_eq_true rfl)⟩) rfl rfl hl.1 (Nat.le_of_ble_eq_true rfl) ⟨by show _ ≤ 600000; omega, by show _ ≤ 7302250; omega⟩ dL_law_674 (fun H locs hP hS => ?_)
  refine lv_pop hx hb dL_law_677 rfl ?_
  refine lv_goto (tgt := 1257) hx hb dL_law_678 (by decide) ?_
  obtain ⟨x3, ex3, hF⟩ := nm_1 hF
  refine lv_iinc (v := x3) (lv' := [(3, .int x3), (0, .ref b), (1, .ref (ad 0)), (2, .ref (ad 54))]) hx hb dL_law_1257 hl (k := 3) rfl (by rw [ex3]; first | rfl | decide) (by decide) rfl (fun ls hl => ?_)
  refine lv_goto (tgt := 18) hx hb dL_law_1260 (by decide) ?_
  exact hrec _ _ _ _ _ _ _ _ _ _ _ _ (by omega) (by omega) hF hL hR C hP hS hAQ (lv_sub hl [1, 2, 3, 0] rfl)
def F_L_681 (xs : Nat → Int32) (L : Nat) (rec : Nat → (Nat → Nat) → (Nat → Nat) → SG → RG → Int32 → Option Unit) (N : Nat) (K len : Nat → Nat) (σ : SG) (ρ : RG) (v3 : Int32) : Option Unit :=
  nm (v3 + (1 : Int32)) fun x1 =>
  gd (inb x1 L) <|
  bn2 (F_X11_enough N K len (xs (x1).toNatClampNeg) σ ρ) fun r3 σ3 =>
  nm (v3 + (1 : Int32)) fun x4 =>
  gd (inb x4 L) <|
  bn2 (F_X12_enough (xs (x4).toNatClampNeg) σ3 ρ) fun r6 σ6 =>
  nm (v3 + (6 : Int32)) fun x7 =>
  rec N K len σ6 ρ x7
set_option maxHeartbeats 4000000 in
set_option maxRecDepth 100000 in
theorem wl_681 {p : Program} {e : Env} {s : State} {m : MethodId} {below : List Frame} {meth : Method} {c : Code} {b L : Nat} {xs : Nat → Int32} {rec : Nat → (Nat → Nat) → (Nat → Nat) → SG → RG → Int32 → Option Unit} {c1 s1 : Nat} (hX : va_X b L xs s s.heap) (hbl : b < s.heap.size) (hrec : ∀ (N : Nat) (ad K len : Nat → Nat) (σ : SG) (ρ : RG) (v3 : Int32) (H : Heap) (locs : List Loc) (cells slots : Nat) (ls : Array Slot), cells ≤ c1 → slots ≤ s1 → rec N K len σ ρ v3 = some () → Lay N K len ρ → RC N ρ → Cx Y D N ad p s m #[Value.ref b] meth c cL_law 4 ret RL wsL_law → WP Y D N ad K len σ ρ H → va_S (AA N ad s.heap.size) s.heap H locs → AA N ad s.heap.size = (fun q => s.heap.size ≤ q) → lv_has ls 4 [(0, .ref b), (1, .ref (ad 0)), (2, .ref (ad 54)), (3, .int v3)] → W p l e room_1 s m #[Value.ref b] below meth c H locs cells slots (lw_Z below #[Value.ref b] s) (F0 m 18 ls [])) {N : Nat} {ad K len : Nat → Nat} {σ : SG} {ρ : RG} {v3 : Int32} {H : Heap} {locs : List Loc} {cells slots : Nat} {ls : Array Slot} (hc1 : c1 ≤ 600000) (hs1 : s1 ≤ 7302250) (hcc : cells + 14 ≤ c1) (hss : slots + 90 ≤ s1) (hF : F_L_681 xs L rec N K len σ ρ v3 = some ()) (hL : Lay N K len ρ) (hR : RC N ρ) (C : Cx Y D N ad p s m #[Value.ref b] meth c cL_law 4 ret RL wsL_law) (hP : WP Y D N ad K len σ ρ H) (hS : va_S (AA N ad s.heap.size) s.heap H locs) (hAQ : AA N ad s.heap.size = (fun q => s.heap.size ≤ q)) (hl : lv_has ls 4 [(0, .ref b), (1, .ref (ad 0)), (2, .ref (ad 54)), (3, .int v3)]) : W p l e room_1 s m #[Value.ref b] below meth c H locs cells slots (lw_Z below #[Value.ref b] s) (F0 m 681 ls []) := by
  have hx := C.1.1
  have hb := C.1.2.1
  have hbA : ¬ AA N ad s.heap.size b := by rw [hAQ]; exact Nat.not_le.mpr hbl
  unfold F_L_681 at hF
  refine lv_aload_n hx hb dL_law_681 rfl (lv_at hl 1 rfl) ?_
  refine lv_aload_n hx hb dL_law_682 rfl (lv_at hl 0 rfl) ?_
  refine lv_iload_n hx hb dL_law_683 rfl (lv_at hl 3 rfl) ?_
  refine lv_iconst (v := 1) hx hb dL_law_684 (by decide) ?_
  refine lv_iadd hx hb dL_law_685 ?_
  obtain ⟨x1, ex1, hF⟩ := nm_1 hF
  refine x_top ex1 ?_
  obtain ⟨g2, hF⟩ := gd_1 hF
  refine va_sld hx hb hX hbl hbA hS (inb_in g2) dL_law_686 ?_
  obtain ⟨r3, σ3, hq3, hF⟩ := bn2_1 hF
  refine x_callV (ci := 11) rfl rfl C hP hS (c_X11_enough hL hq3) (lr_0 hL) (lk_0 hL) (cwV 1 C.1.2.2.2.2 (gdV mw_820 mw_821 mw_822 mw_2 mw_823) rfl rfl rfl hd_X11_enough ⟨(Nat.le_of_ble_eq_true rfl), (Nat.le_of_ble_eq_true rfl)⟩) rfl rfl hl.1 (Nat.le_of_ble_eq_true rfl) ⟨by show _ ≤ 600000; omega, by show _ ≤ 7302250; omega⟩ dL_law_687 (fun H locs hP hS => ?_)
  refine lv_pop hx hb dL_law_690 rfl ?_
  refine lv_aload_n hx hb dL_law_691 rfl (lv_at hl 2 rfl) ?_
  refine lv_aload_n hx hb dL_law_692 rfl (lv_at hl 0 rfl) ?_
  refine lv_iload_n hx hb dL_law_693 rfl (lv_at hl 3 rfl) ?_
  refine lv_iconst (v := 1) hx hb dL_law_694 (by decide) ?_
  refine lv_iadd hx hb dL_law_695 ?_
  obtain ⟨x4, ex4, hF⟩ := nm_1 hF
  refine x_top ex4 ?_
  obtain ⟨g5, hF⟩ := gd_1 hF
  refine va_sld hx hb hX hbl hbA hS (inb_in g5) dL_law_696 ?_
  obtain ⟨r6, σ6, hq6, hF⟩ := bn2_1 hF
  refine x_callV (ci := 12) rfl rfl C hP hS (c_X12_enough hL hq6) (lr_54 hL) (lk_54 hL) (cwV 1 C.1.2.2.2.2 (gdV mw_824 mw_825 mw_826 mw_5 mw_827) rfl rfl rfl hd_X12_enough ⟨(Nat.le_of_ble_eq_true rfl), (Nat.le_of_ble_eq_true rfl)⟩) rfl rfl hl.1 (Nat.le_of_ble_eq_true rfl) ⟨by show _ ≤ 600000; omega, by show _ ≤ 7302250; omega⟩ dL_law_697 (fun H locs hP hS => ?_)
  refine lv_pop hx hb dL_law_700 rfl ?_
  refine lv_goto (tgt := 1257) hx hb dL_law_701 (by decide) ?_
  obtain ⟨x7, ex7, hF⟩ := nm_1 hF
  refine lv_iinc (v := x7) (lv' := [(3, .int x7), (0, .ref b), (1, .ref (ad 0)), (2, .ref (ad 54))]) hx hb dL_law_1257 hl (k := 3) rfl (by rw [ex7]; first | rfl | decide) (by decide) rfl (fun ls hl => ?_)
  refine lv_goto (tgt := 18) hx hb dL_law_1260 (by decide) ?_
  exact hrec _ _ _ _ _ _ _ _ _ _ _ _ (by omega) (by omega) hF hL hR C hP hS hAQ (lv_sub hl [1, 2, 3, 0] rfl)
def F_L_704 (xs : Nat → Int32) (L : Nat) (rec : Nat → (Nat → Nat) → (Nat → Nat) → SG → RG → Int32 → Option Unit) (N : Nat) (K len : Nat → Nat) (σ : SG) (ρ : RG) (v3 : Int32) : Option Unit :=
  nm (v3 + (1 : Int32)) fun x1 =>
  gd (inb x1 L) <|
  nm (v3 + (2 : Int32)) fun x3 =>
  gd (inb x3 L) <|
  bn2 (F_X11_when N K len (xs (x1).toNatClampNeg) (xs (x3).toNatClampNeg) σ ρ) fun r5 σ5 =>
  nm (v3 + (1 : Int32)) fun x6 =>
  gd (inb x6 L) <|
  nm (v3 + (2 : Int32)) fun x8 =>
  gd (inb x8 L) <|
  bn2 (F_X12_when (xs (x6).toNatClampNeg) (xs (x8).toNatClampNeg) σ5 ρ) fun r10 σ10 =>
  nm (v3 + (6 : Int32)) fun x11 =>
  rec N K len σ10 ρ x11
set_option maxHeartbeats 4000000 in
set_option maxRecDepth 100000 in
theorem wl_704 {p : Program} {e : Env} {s : State} {m : MethodId} {below : List Frame} {meth : Method} {c : Code} {b L : Nat} {xs : Nat → Int32} {rec : Nat → (Nat → Nat) → (Nat → Nat) → SG → RG → Int32 → Option Unit} {c1 s1 : Nat} (hX : va_X b L xs s s.heap) (hbl : b < s.heap.size) (hrec : ∀ (N : Nat) (ad K len : Nat → Nat) (σ : SG) (ρ : RG) (v3 : Int32) (H : Heap) (locs : List Loc) (cells slots : Nat) (ls : Array Slot), cells ≤ c1 → slots ≤ s1 → rec N K len σ ρ v3 = some () → Lay N K len ρ → RC N ρ → Cx Y D N ad p s m #[Value.ref b] meth c cL_law 4 ret RL wsL_law → WP Y D N ad K len σ ρ H → va_S (AA N ad s.heap.size) s.heap H locs → AA N ad s.heap.size = (fun q => s.heap.size ≤ q) → lv_has ls 4 [(0, .ref b), (1, .ref (ad 0)), (2, .ref (ad 54)), (3, .int v3)] → W p l e room_1 s m #[Value.ref b] below meth c H locs cells slots (lw_Z below #[Value.ref b] s) (F0 m 18 ls [])) {N : Nat} {ad K len : Nat → Nat} {σ : SG} {ρ : RG} {v3 : Int32} {H : Heap} {locs : List Loc} {cells slots : Nat} {ls : Array Slot} (hc1 : c1 ≤ 600000) (hs1 : s1 ≤ 7302250) (hcc : cells + 14 ≤ c1) (hss : slots + 90 ≤ s1) (hF : F_L_704 xs L rec N K len σ ρ v3 = some ()) (hL : Lay N K len ρ) (hR : RC N ρ) (C : Cx Y D N ad p s m #[Value.ref b] meth c cL_law 4 ret RL wsL_law) (hP : WP Y D N ad K len σ ρ H) (hS : va_S (AA N ad s.heap.size) s.heap H locs) (hAQ : AA N ad s.heap.size = (fun q => s.heap.size ≤ q)) (hl : lv_has ls 4 [(0, .ref b), (1, .ref (ad 0)), (2, .ref (ad 54)), (3, .int v3)]) : W p l e room_1 s m #[Value.ref b] below meth c H locs cells slots (lw_Z below #[Value.ref b] s) (F0 m 704 ls []) := by
  have hx := C.1.1
  have hb := C.1.2.1
  have hbA : ¬ AA N ad s.heap.size b := by rw [hAQ]; exact Nat.not_le.mpr hbl
  unfold F_L_704 at hF
  refine lv_aload_n hx hb dL_law_704 rfl (lv_at hl 1 rfl) ?_
  refine lv_aload_n hx hb dL_law_705 rfl (lv_at hl 0 rfl) ?_
  refine lv_iload_n hx hb dL_law_706 rfl (lv_at hl 3 rfl) ?_
  refine lv_iconst (v := 1) hx hb dL_law_707 (by decide) ?_
  refine lv_iadd hx hb dL_law_708 ?_
  obtain ⟨x1, ex1, hF⟩ := nm_1 hF
  refine x_top ex1 ?_
  obtain ⟨g2, hF⟩ := gd_1 hF
  refine va_sld hx hb hX hbl hbA hS (inb_in g2) dL_law_709 ?_
  refine lv_aload_n hx hb dL_law_710 rfl (lv_at hl 0 rfl) ?_
  refine lv_iload_n hx hb dL_law_711 rfl (lv_at hl 3 rfl) ?_
  refine lv_iconst (v := 2) hx hb dL_law_712 (by decide) ?_
  refine lv_iadd hx hb dL_law_713 ?_
  obtain ⟨x3, ex3, hF⟩ := nm_1 hF
  refine x_top ex3 ?_
  obtain ⟨g4, hF⟩ := gd_1 hF
  refine va_sld hx hb hX hbl hbA hS (inb_in g4) dL_law_714 ?_
  obtain ⟨r5, σ5, hq5, hF⟩ := bn2_1 hF
  refine x_callV (ci := 11) rfl rfl C hP hS (c_X11_when hL hq5) (lr_0 hL) (lk_0 hL) (cwV 2 C.1.2.2.2.2 (gdV mw_828 mw_829 mw_830 mw_2 mw_831) rfl rfl rfl hd_X11_when ⟨(Nat.le_of_ble_eq_true rfl), (Nat.le_of_ble_eq_true rfl)⟩) rfl rfl hl.1 (Nat.le_of_ble_eq_true rfl) ⟨by show _ ≤ 600000; omega, by show _ ≤ 7302250; omega⟩ dL_law_715 (fun H locs hP hS => ?_)
  refine lv_pop hx hb dL_law_718 rfl ?_
  refine lv_aload_n hx hb dL_law_719 rfl (lv_at hl 2 rfl) ?_
  refine lv_aload_n hx hb dL_law_720 rfl (lv_at hl 0 rfl) ?_
  refine lv_iload_n hx hb dL_law_721 rfl (lv_at hl 3 rfl) ?_
  refine lv_iconst (v := 1) hx hb dL_law_722 (by decide) ?_
  refine lv_iadd hx hb dL_law_723 ?_
  obtain ⟨x6, ex6, hF⟩ := nm_1 hF
  refine x_top ex6 ?_
  obtain ⟨g7, hF⟩ := gd_1 hF
  refine va_sld hx hb hX hbl hbA hS (inb_in g7) dL_law_724 ?_
  refine lv_aload_n hx hb dL_law_725 rfl (lv_at hl 0 rfl) ?_
  refine lv_iload_n hx hb dL_law_726 rfl (lv_at hl 3 rfl) ?_
  refine lv_iconst (v := 2) hx hb dL_law_727 (by decide) ?_
  refine lv_iadd hx hb dL_law_728 ?_
  obtain ⟨x8, ex8, hF⟩ := nm_1 hF
  refine x_top ex8 ?_
  obtain ⟨g9, hF⟩ := gd_1 hF
  refine va_sld hx hb hX hbl hbA hS (inb_in g9) dL_law_729 ?_
  obtain ⟨r10, σ10, hq10, hF⟩ := bn2_1 hF
  refine x_callV (ci := 12) rfl rfl C hP hS (c_X12_when hL hq10) (lr_54 hL) (lk_54 hL) (cwV 2 C.1.2.2.2.2 (gdV mw_832 mw_833 mw_834 mw_5 mw_835) rfl rfl rfl hd_X12_when ⟨(Nat.le_of_ble_eq_true rfl), (Nat.le_of_ble_eq_true rfl)⟩) rfl rfl hl.1 (Nat.le_of_ble_eq_true rfl) ⟨by show _ ≤ 600000; omega, by show _ ≤ 7302250; omega⟩ dL_law_730 (fun H locs hP hS => ?_)
  refine lv_pop hx hb dL_law_733 rfl ?_
  refine lv_goto (tgt := 1257) hx hb dL_law_734 (by decide) ?_
  obtain ⟨x11, ex11, hF⟩ := nm_1 hF
  refine lv_iinc (v := x11) (lv' := [(3, .int x11), (0, .ref b), (1, .ref (ad 0)), (2, .ref (ad 54))]) hx hb dL_law_1257 hl (k := 3) rfl (by rw [ex11]; first | rfl | decide) (by decide) rfl (fun ls hl => ?_)
  refine lv_goto (tgt := 18) hx hb dL_law_1260 (by decide) ?_
  exact hrec _ _ _ _ _ _ _ _ _ _ _ _ (by omega) (by omega) hF hL hR C hP hS hAQ (lv_sub hl [1, 2, 3, 0] rfl)
def F_L_737 (xs : Nat → Int32) (L : Nat) (rec : Nat → (Nat → Nat) → (Nat → Nat) → SG → RG → Int32 → Option Unit) (N : Nat) (K len : Nat → Nat) (σ : SG) (ρ : RG) (v3 : Int32) : Option Unit :=
  nm (v3 + (1 : Int32)) fun x1 =>
  gd (inb x1 L) <|
  bn2 (F_X11_guide N K len (xs (x1).toNatClampNeg) σ ρ) fun r3 σ3 =>
  nm (v3 + (1 : Int32)) fun x4 =>
  gd (inb x4 L) <|
  bn2 (F_X12_guide (xs (x4).toNatClampNeg) σ3 ρ) fun r6 σ6 =>
  nm (v3 + (6 : Int32)) fun x7 =>
  rec N K len σ6 ρ x7
set_option maxHeartbeats 4000000 in
set_option maxRecDepth 100000 in
theorem wl_737 {p : Program} {e : Env} {s : State} {m : MethodId} {below : List Frame} {meth : Method} {c : Code} {b L : Nat} {xs : Nat → Int32} {rec : Nat → (Nat → Nat) → (Nat → Nat) → SG → RG → Int32 → Option Unit} {c1 s1 : Nat} (hX : va_X b L xs s s.heap) (hbl : b < s.heap.size) (hrec : ∀ (N : Nat) (ad K len : Nat → Nat) (σ : SG) (ρ : RG) (v3 : Int32) (H : Heap) (locs : List Loc) (cells slots : Nat) (ls : Array Slot), cells ≤ c1 → slots ≤ s1 → rec N K len σ ρ v3 = some () → Lay N K len ρ → RC N ρ → Cx Y D N ad p s m #[Value.ref b] meth c cL_law 4 ret RL wsL_law → WP Y D N ad K len σ ρ H → va_S (AA N ad s.heap.size) s.heap H locs → AA N ad s.heap.size = (fun q => s.heap.size ≤ q) → lv_has ls 4 [(0, .ref b), (1, .ref (ad 0)), (2, .ref (ad 54)), (3, .int v3)] → W p l e room_1 s m #[Value.ref b] below meth c H locs cells slots (lw_Z below #[Value.ref b] s) (F0 m 18 ls [])) {N : Nat} {ad K len : Nat → Nat} {σ : SG} {ρ : RG} {v3 : Int32} {H : Heap} {locs : List Loc} {cells slots : Nat} {ls : Array Slot} (hc1 : c1 ≤ 600000) (hs1 : s1 ≤ 7302250) (hcc : cells + 14 ≤ c1) (hss : slots + 90 ≤ s1) (hF : F_L_737 xs L rec N K len σ ρ v3 = some ()) (hL : Lay N K len ρ) (hR : RC N ρ) (C : Cx Y D N ad p s m #[Value.ref b] meth c cL_law 4 ret RL wsL_law) (hP : WP Y D N ad K len σ ρ H) (hS : va_S (AA N ad s.heap.size) s.heap H locs) (hAQ : AA N ad s.heap.size = (fun q => s.heap.size ≤ q)) (hl : lv_has ls 4 [(0, .ref b), (1, .ref (ad 0)), (2, .ref (ad 54)), (3, .int v3)]) : W p l e room_1 s m #[Value.ref b] below meth c H locs cells slots (lw_Z below #[Value.ref b] s) (F0 m 737 ls []) := by
  have hx := C.1.1
  have hb := C.1.2.1
  have hbA : ¬ AA N ad s.heap.size b := by rw [hAQ]; exact Nat.not_le.mpr hbl
  unfold F_L_737 at hF
  refine lv_aload_n hx hb dL_law_737 rfl (lv_at hl 1 rfl) ?_
  refine lv_aload_n hx hb dL_law_738 rfl (lv_at hl 0 rfl) ?_
  refine lv_iload_n hx hb dL_law_739 rfl (lv_at hl 3 rfl) ?_
  refine lv_iconst (v := 1) hx hb dL_law_740 (by decide) ?_
  refine lv_iadd hx hb dL_law_741 ?_
  obtain ⟨x1, ex1, hF⟩ := nm_1 hF
  refine x_top ex1 ?_
  obtain ⟨g2, hF⟩ := gd_1 hF
  refine va_sld hx hb hX hbl hbA hS (inb_in g2) dL_law_742 ?_
  obtain ⟨r3, σ3, hq3, hF⟩ := bn2_1 hF
  refine x_callV (ci := 11) rfl rfl C hP hS (c_X11_guide hL hq3) (lr_0 hL) (lk_0 hL) (cwV 1 C.1.2.2.2.2 (gdV mw_840 mw_841 mw_842 mw_2 mw_843) rfl rfl rfl hd_X11_guide ⟨(Nat.le_of_ble_eq_true rfl), (Nat.le_of_ble_eq_true rfl)⟩) rfl rfl hl.1 (Nat.le_of_ble_eq_true rfl) ⟨by show _ ≤ 600000; omega, by show _ ≤ 7302250; omega⟩ dL_law_743 (fun H locs hP hS => ?_)
  refine lv_pop hx hb dL_law_746 rfl ?_
  refine lv_aload_n hx hb dL_law_747 rfl (lv_at hl 2 rfl) ?_
  refine lv_aload_n hx hb dL_law_748 rfl (lv_at hl 0 rfl) ?_
  refine lv_iload_n hx hb dL_law_749 rfl (lv_at hl 3 rfl) ?_
  refine lv_iconst (v := 1) hx hb dL_law_750 (by decide) ?_
  refine lv_iadd hx hb dL_law_751 ?_
  obtain ⟨x4, ex4, hF⟩ := nm_1 hF
  refine x_top ex4 ?_
  obtain ⟨g5, hF⟩ := gd_1 hF
  refine va_sld hx hb hX hbl hbA hS (inb_in g5) dL_law_752 ?_
  obtain ⟨r6, σ6, hq6, hF⟩ := bn2_1 hF
  refine x_callV (ci := 12) rfl rfl C hP hS (c_X12_guide hL hq6) (lr_54 hL) (lk_54 hL) (cwV 1 C.1.2.2.2.2 (gdV mw_844 mw_845 mw_846 mw_5 mw_847) rfl rfl rfl hd_X12_guide ⟨(Nat.le_of_ble_eq_true rfl), (Nat.le_of_ble_eq_true rfl)⟩) rfl rfl hl.1 (Nat.le_of_ble_eq_true rfl) ⟨by show _ ≤ 600000; omega, by show _ ≤ 7302250; omega⟩ dL_law_753 (fun H locs hP hS => ?_)
  refine lv_pop hx hb dL_law_756 rfl ?_
  refine lv_goto (tgt := 1257) hx hb dL_law_757 (by decide) ?_
  obtain ⟨x7, ex7, hF⟩ := nm_1 hF
  refine lv_iinc (v := x7) (lv' := [(3, .int x7), (0, .ref b), (1, .ref (ad 0)), (2, .ref (ad 54))]) hx hb dL_law_1257 hl (k := 3) rfl (by rw [ex7]; first | rfl | decide) (by decide) rfl (fun ls hl => ?_)
  refine lv_goto (tgt := 18) hx hb dL_law_1260 (by decide) ?_
  exact hrec _ _ _ _ _ _ _ _ _ _ _ _ (by omega) (by omega) hF hL hR C hP hS hAQ (lv_sub hl [1, 2, 3, 0] rfl)
def F_L_760 (xs : Nat → Int32) (L : Nat) (rec : Nat → (Nat → Nat) → (Nat → Nat) → SG → RG → Int32 → Option Unit) (N : Nat) (K len : Nat → Nat) (σ : SG) (ρ : RG) (v3 : Int32) : Option Unit :=
  nm (v3 + (1 : Int32)) fun x1 =>
  gd (inb x1 L) <|
  bn2 (F_X11_again N K len (xs (x1).toNatClampNeg) σ ρ) fun r3 σ3 =>
  nm (v3 + (1 : Int32)) fun x4 =>
  gd (inb x4 L) <|
  bn2 (F_X12_again (xs (x4).toNatClampNeg) σ3 ρ) fun r6 σ6 =>
  nm (v3 + (6 : Int32)) fun x7 =>
  rec N K len σ6 ρ x7
set_option maxHeartbeats 4000000 in
set_option maxRecDepth 100000 in
theorem wl_760 {p : Program} {e : Env} {s : State} {m : MethodId} {below : List Frame} {meth : Method} {c : Code} {b L : Nat} {xs : Nat → Int32} {rec : Nat → (Nat → Nat) → (Nat → Nat) → SG → RG → Int32 → Option Unit} {c1 s1 : Nat} (hX : va_X b L xs s s.heap) (hbl : b < s.heap.size) (hrec : ∀ (N : Nat) (ad K len : Nat → Nat) (σ : SG) (ρ : RG) (v3 : Int32) (H : Heap) (locs : List Loc) (cells slots : Nat) (ls : Array Slot), cells ≤ c1 → slots ≤ s1 → rec N K len σ ρ v3 = some () → Lay N K len ρ → RC N ρ → Cx Y D N ad p s m #[Value.ref b] meth c cL_law 4 ret RL wsL_law → WP Y D N ad K len σ ρ H → va_S (AA N ad s.heap.size) s.heap H locs → AA N ad s.heap.size = (fun q => s.heap.size ≤ q) → lv_has ls 4 [(0, .ref b), (1, .ref (ad 0)), (2, .ref (ad 54)), (3, .int v3)] → W p l e room_1 s m #[Value.ref b] below meth c H locs cells slots (lw_Z below #[Value.ref b] s) (F0 m 18 ls [])) {N : Nat} {ad K len : Nat → Nat} {σ : SG} {ρ : RG} {v3 : Int32} {H : Heap} {locs : List Loc} {cells slots : Nat} {ls : Array Slot} (hc1 : c1 ≤ 600000) (hs1 : s1 ≤ 7302250) (hcc : cells + 14 ≤ c1) (hss : slots + 90 ≤ s1) (hF : F_L_760 xs L rec N K len σ ρ v3 = some ()) (hL : Lay N K len ρ) (hR : RC N ρ) (C : Cx Y D N ad p s m #[Value.ref b] meth c cL_law 4 ret RL wsL_law) (hP : WP Y D N ad K len σ ρ H) (hS : va_S (AA N ad s.heap.size) s.heap H locs) (hAQ : AA N ad s.heap.size = (fun q => s.heap.size ≤ q)) (hl : lv_has ls 4 [(0, .ref b), (1, .ref (ad 0)), (2, .ref (ad 54)), (3, .int v3)]) : W p l e room_1 s m #[Value.ref b] below meth c H locs cells slots (lw_Z below #[Value.ref b] s) (F0 m 760 ls []) := by
  have hx := C.1.1
  have hb := C.1.2.1
  have hbA : ¬ AA N ad s.heap.size b := by rw [hAQ]; exact Nat.not_le.mpr hbl
  unfold F_L_760 at hF
  refine lv_aload_n hx hb dL_law_760 rfl (lv_at hl 1 rfl) ?_
  refine lv_aload_n hx hb dL_law_761 rfl (lv_at hl 0 rfl) ?_
  refine lv_iload_n hx hb dL_law_762 rfl (lv_at hl 3 rfl) ?_
  refine lv_iconst (v := 1) hx hb dL_law_763 (by decide) ?_
  refine lv_iadd hx hb dL_law_764 ?_
  obtain ⟨x1, ex1, hF⟩ := nm_1 hF
  refine x_top ex1 ?_
  obtain ⟨g2, hF⟩ := gd_1 hF
  refine va_sld hx hb hX hbl hbA hS (inb_in g2) dL_law_765 ?_
  obtain ⟨r3, σ3, hq3, hF⟩ := bn2_1 hF
  refine x_callV (ci := 11) rfl rfl C hP hS (c_X11_again hL hq3) (lr_0 hL) (lk_0 hL) (cwV 1 C.1.2.2.2.2 (gdV mw_848 mw_849 mw_850 mw_2 mw_851) rfl rfl rfl hd_X11_again ⟨(Nat.le_of_ble_eq_true rfl), (Nat.le_of_ble_eq_true rfl)⟩) rfl rfl hl.1 (Nat.le_of_ble_eq_true rfl) ⟨by show _ ≤ 600000; omega, by show _ ≤ 7302250; omega⟩ dL_law_766 (fun H locs hP hS => ?_)
  refine lv_pop hx hb dL_law_769 rfl ?_
  refine lv_aload_n hx hb dL_law_770 rfl (lv_at hl 2 rfl) ?_
  refine lv_aload_n hx hb dL_law_771 rfl (lv_at hl 0 rfl) ?_
  refine lv_iload_n hx hb dL_law_772 rfl (lv_at hl 3 rfl) ?_
  refine lv_iconst (v := 1) hx hb dL_law_773 (by decide) ?_
  refine lv_iadd hx hb dL_law_774 ?_
  obtain ⟨x4, ex4, hF⟩ := nm_1 hF
  refine x_top ex4 ?_
  obtain ⟨g5, hF⟩ := gd_1 hF
  refine va_sld hx hb hX hbl hbA hS (inb_in g5) dL_law_775 ?_
  obtain ⟨r6, σ6, hq6, hF⟩ := bn2_1 hF
  refine x_callV (ci := 12) rfl rfl C hP hS (c_X12_again hL hq6) (lr_54 hL) (lk_54 hL) (cwV 1 C.1.2.2.2.2 (gdV mw_852 mw_853 mw_854 mw_5 mw_855) rfl rfl rfl hd_X12_again ⟨(Nat.le_of_ble_eq_true rfl), (Nat.le_of_ble_eq_true rfl)⟩) rfl rfl hl.1 (Nat.le_of_ble_eq_true rfl) ⟨by show _ ≤ 600000; omega, by show _ ≤ 7302250; omega⟩ dL_law_776 (fun H locs hP hS => ?_)
  refine lv_pop hx hb dL_law_779 rfl ?_
  refine lv_goto (tgt := 1257) hx hb dL_law_780 (by decide) ?_
  obtain ⟨x7, ex7, hF⟩ := nm_1 hF
  refine lv_iinc (v := x7) (lv' := [(3, .int x7), (0, .ref b), (1, .ref (ad 0)), (2, .ref (ad 54))]) hx hb dL_law_1257 hl (k := 3) rfl (by rw [ex7]; first | rfl | decide) (by decide) rfl (fun ls hl => ?_)
  refine lv_goto (tgt := 18) hx hb dL_law_1260 (by decide) ?_
  exact hrec _ _ _ _ _ _ _ _ _ _ _ _ (by omega) (by omega) hF hL hR C hP hS hAQ (lv_sub hl [1, 2, 3, 0] rfl)
def F_L_783 (xs : Nat → Int32) (L : Nat) (rec : Nat → (Nat → Nat) → (Nat → Nat) → SG → RG → Int32 → Option Unit) (N : Nat) (K len : Nat → Nat) (σ : SG) (ρ : RG) (v3 : Int32) : Option Unit :=
  nm (v3 + (1 : Int32)) fun x1 =>
  gd (inb x1 L) <|
  nm (v3 + (2 : Int32)) fun x3 =>
  gd (inb x3 L) <|
  bn2 (F_X11_evener N K len (xs (x1).toNatClampNeg) (xs (x3).toNatClampNeg) σ ρ) fun r5 σ5 =>
  nm (v3 + (1 : Int32)) fun x6 =>
  gd (inb x6 L) <|
  nm (v3 + (2 : Int32)) fun x8 =>
  gd (inb x8 L) <|
  bn2 (F_X12_evener (xs (x6).toNatClampNeg) (xs (x8).toNatClampNeg) σ5 ρ) fun r10 σ10 =>
  nm (v3 + (6 : Int32)) fun x11 =>
  rec N K len σ10 ρ x11
set_option maxHeartbeats 4000000 in
set_option maxRecDepth 100000 in
theorem wl_783 {p : Program} {e : Env} {s : State} {m : MethodId} {below : List Frame} {meth : Method} {c : Code} {b L : Nat} {xs : Nat → Int32} {rec : Nat → (Nat → Nat) → (Nat → Nat) → SG → RG → Int32 → Option Unit} {c1 s1 : Nat} (hX : va_X b L xs s s.heap) (hbl : b < s.heap.size) (hrec : ∀ (N : Nat) (ad K len : Nat → Nat) (σ : SG) (ρ : RG) (v3 : Int32) (H : Heap) (locs : List Loc) (cells slots : Nat) (ls : Array Slot), cells ≤ c1 → slots ≤ s1 → rec N K len σ ρ v3 = some () → Lay N K len ρ → RC N ρ → Cx Y D N ad p s m #[Value.ref b] meth c cL_law 4 ret RL wsL_law → WP Y D N ad K len σ ρ H → va_S (AA N ad s.heap.size) s.heap H locs → AA N ad s.heap.size = (fun q => s.heap.size ≤ q) → lv_has ls 4 [(0, .ref b), (1, .ref (ad 0)), (2, .ref (ad 54)), (3, .int v3)] → W p l e room_1 s m #[Value.ref b] below meth c H locs cells slots (lw_Z below #[Value.ref b] s) (F0 m 18 ls [])) {N : Nat} {ad K len : Nat → Nat} {σ : SG} {ρ : RG} {v3 : Int32} {H : Heap} {locs : List Loc} {cells slots : Nat} {ls : Array Slot} (hc1 : c1 ≤ 600000) (hs1 : s1 ≤ 7302250) (hcc : cells + 14 ≤ c1) (hss : slots + 90 ≤ s1) (hF : F_L_783 xs L rec N K len σ ρ v3 = some ()) (hL : Lay N K len ρ) (hR : RC N ρ) (C : Cx Y D N ad p s m #[Value.ref b] meth c cL_law 4 ret RL wsL_law) (hP : WP Y D N ad K len σ ρ H) (hS : va_S (AA N ad s.heap.size) s.heap H locs) (hAQ : AA N ad s.heap.size = (fun q => s.heap.size ≤ q)) (hl : lv_has ls 4 [(0, .ref b), (1, .ref (ad 0)), (2, .ref (ad 54)), (3, .int v3)]) : W p l e room_1 s m #[Value.ref b] below meth c H locs cells slots (lw_Z below #[Value.ref b] s) (F0 m 783 ls []) := by
  have hx := C.1.1
  have hb := C.1.2.1
  have hbA : ¬ AA N ad s.heap.size b := by rw [hAQ]; exact Nat.not_le.mpr hbl
  unfold F_L_783 at hF
  refine lv_aload_n hx hb dL_law_783 rfl (lv_at hl 1 rfl) ?_
  refine lv_aload_n hx hb dL_law_784 rfl (lv_at hl 0 rfl) ?_
  refine lv_iload_n hx hb dL_law_785 rfl (lv_at hl 3 rfl) ?_
  refine lv_iconst (v := 1) hx hb dL_law_786 (by decide) ?_
  refine lv_iadd hx hb dL_law_787 ?_
  obtain ⟨x1, ex1, hF⟩ := nm_1 hF
  refine x_top ex1 ?_
  obtain ⟨g2, hF⟩ := gd_1 hF
  refine va_sld hx hb hX hbl hbA hS (inb_in g2) dL_law_788 ?_
  refine lv_aload_n hx hb dL_law_789 rfl (lv_at hl 0 rfl) ?_
  refine lv_iload_n hx hb dL_law_790 rfl (lv_at hl 3 rfl) ?_
  refine lv_iconst (v := 2) hx hb dL_law_791 (by decide) ?_
  refine lv_iadd hx hb dL_law_792 ?_
  obtain ⟨x3, ex3, hF⟩ := nm_1 hF
  refine x_top ex3 ?_
  obtain ⟨g4, hF⟩ := gd_1 hF
  refine va_sld hx hb hX hbl hbA hS (inb_in g4) dL_law_793 ?_
  obtain ⟨r5, σ5, hq5, hF⟩ := bn2_1 hF
  refine x_callV (ci := 11) rfl rfl C hP hS (c_X11_evener hL hq5) (lr_0 hL) (lk_0 hL) (cwV 2 C.1.2.2.2.2 (gdV mw_856 mw_857 mw_858 mw_2 mw_859) rfl rfl rfl hd_X11_evener ⟨(Nat.le_of_ble_eq_true rfl), (Nat.le_of_ble_eq_true rfl)⟩) rfl rfl hl.1 (Nat.le_of_ble_eq_true rfl) ⟨by show _ ≤ 600000; omega, by show _ ≤ 7302250; omega⟩ dL_law_794 (fun H locs hP hS => ?_)
  refine lv_pop hx hb dL_law_797 rfl ?_
  refine lv_aload_n hx hb dL_law_798 rfl (lv_at hl 2 rfl) ?_
  refine lv_aload_n hx hb dL_law_799 rfl (lv_at hl 0 rfl) ?_
  refine lv_iload_n hx hb dL_law_800 rfl (lv_at hl 3 rfl) ?_
  refine lv_iconst (v := 1) hx hb dL_law_801 (by decide) ?_
  refine lv_iadd hx hb dL_law_802 ?_
  obtain ⟨x6, ex6, hF⟩ := nm_1 hF
  refine x_top ex6 ?_
  obtain ⟨g7, hF⟩ := gd_1 hF
  refine va_sld hx hb hX hbl hbA hS (inb_in g7) dL_law_803 ?_
  refine lv_aload_n hx hb dL_law_804 rfl (lv_at hl 0 rfl) ?_
  refine lv_iload_n hx hb dL_law_805 rfl (lv_at hl 3 rfl) ?_
  refine lv_iconst (v := 2) hx hb dL_law_806 (by decide) ?_
  refine lv_iadd hx hb dL_law_807 ?_
  obtain ⟨x8, ex8, hF⟩ := nm_1 hF
  refine x_top ex8 ?_
  obtain ⟨g9, hF⟩ := gd_1 hF
  refine va_sld hx hb hX hbl hbA hS (inb_in g9) dL_law_808 ?_
  obtain ⟨r10, σ10, hq10, hF⟩ := bn2_1 hF
  refine x_callV (ci := 12) rfl rfl C hP hS (c_X12_evener hL hq10) (lr_54 hL) (lk_54 hL) (cwV 2 C.1.2.2.2.2 (gdV mw_861 mw_862 mw_863 mw_5 mw_864) rfl rfl rfl hd_X12_evener ⟨(Nat.le_of_ble_eq_true rfl), (Nat.le_of_ble_eq_true rfl)⟩) rfl rfl hl.1 (Nat.le_of_ble_eq_true rfl) ⟨by show _ ≤ 600000; omega, by show _ ≤ 7302250; omega⟩ dL_law_809 (fun H locs hP hS => ?_)
  refine lv_pop hx hb dL_law_812 rfl ?_
  refine lv_goto (tgt := 1257) hx hb dL_law_813 (by decide) ?_
  obtain ⟨x11, ex11, hF⟩ := nm_1 hF
  refine lv_iinc (v := x11) (lv' := [(3, .int x11), (0, .ref b), (1, .ref (ad 0)), (2, .ref (ad 54))]) hx hb dL_law_1257 hl (k := 3) rfl (by rw [ex11]; first | rfl | decide) (by decide) rfl (fun ls hl => ?_)
  refine lv_goto (tgt := 18) hx hb dL_law_1260 (by decide) ?_
  exact hrec _ _ _ _ _ _ _ _ _ _ _ _ (by omega) (by omega) hF hL hR C hP hS hAQ (lv_sub hl [1, 2, 3, 0] rfl)
def F_L_816 (xs : Nat → Int32) (L : Nat) (rec : Nat → (Nat → Nat) → (Nat → Nat) → SG → RG → Int32 → Option Unit) (N : Nat) (K len : Nat → Nat) (σ : SG) (ρ : RG) (v3 : Int32) : Option Unit :=
  nm (v3 + (1 : Int32)) fun x1 =>
  gd (inb x1 L) <|
  nm (v3 + (2 : Int32)) fun x3 =>
  gd (inb x3 L) <|
  nm (v3 + (3 : Int32)) fun x5 =>
  gd (inb x5 L) <|
  nm (v3 + (4 : Int32)) fun x7 =>
  gd (inb x7 L) <|
  bn2 (F_X11_game N K len (xs (x1).toNatClampNeg) (xs (x3).toNatClampNeg) (xs (x5).toNatClampNeg) (xs (x7).toNatClampNeg) σ ρ) fun r9 σ9 =>
  nm (v3 + (1 : Int32)) fun x10 =>
  gd (inb x10 L) <|
  nm (v3 + (2 : Int32)) fun x12 =>
  gd (inb x12 L) <|
  nm (v3 + (3 : Int32)) fun x14 =>
  gd (inb x14 L) <|
  nm (v3 + (4 : Int32)) fun x16 =>
  gd (inb x16 L) <|
  bn2 (F_X12_game (xs (x10).toNatClampNeg) (xs (x12).toNatClampNeg) (xs (x14).toNatClampNeg) (xs (x16).toNatClampNeg) σ9 ρ) fun r18 σ18 =>
  nm (v3 + (6 : Int32)) fun x19 =>
  rec N K len σ18 ρ x19
set_option maxHeartbeats 4000000 in
set_option maxRecDepth 100000 in
theorem wl_816 {p : Program} {e : Env} {s : State} {m : MethodId} {below : List Frame} {meth : Method} {c : Code} {b L : Nat} {xs : Nat → Int32} {rec : Nat → (Nat → Nat) → (Nat → Nat) → SG → RG → Int32 → Option Unit} {c1 s1 : Nat} (hX : va_X b L xs s s.heap) (hbl : b < s.heap.size) (hrec : ∀ (N : Nat) (ad K len : Nat → Nat) (σ : SG) (ρ : RG) (v3 : Int32) (H : Heap) (locs : List Loc) (cells slots : Nat) (ls : Array Slot), cells ≤ c1 → slots ≤ s1 → rec N K len σ ρ v3 = some () → Lay N K len ρ → RC N ρ → Cx Y D N ad p s m #[Value.ref b] meth c cL_law 4 ret RL wsL_law → WP Y D N ad K len σ ρ H → va_S (AA N ad s.heap.size) s.heap H locs → AA N ad s.heap.size = (fun q => s.heap.size ≤ q) → lv_has ls 4 [(0, .ref b), (1, .ref (ad 0)), (2, .ref (ad 54)), (3, .int v3)] → W p l e room_1 s m #[Value.ref b] below meth c H locs cells slots (lw_Z below #[Value.ref b] s) (F0 m 18 ls [])) {N : Nat} {ad K len : Nat → Nat} {σ : SG} {ρ : RG} {v3 : Int32} {H : Heap} {locs : List Loc} {cells slots : Nat} {ls : Array Slot} (hc1 : c1 ≤ 600000) (hs1 : s1 ≤ 7302250) (hcc : cells + 14 ≤ c1) (hss : slots + 90 ≤ s1) (hF : F_L_816 xs L rec N K len σ ρ v3 = some ()) (hL : Lay N K len ρ) (hR : RC N ρ) (C : Cx Y D N ad p s m #[Value.ref b] meth c cL_law 4 ret RL wsL_law) (hP : WP Y D N ad K len σ ρ H) (hS : va_S (AA N ad s.heap.size) s.heap H locs) (hAQ : AA N ad s.heap.size = (fun q => s.heap.size ≤ q)) (hl : lv_has ls 4 [(0, .ref b), (1, .ref (ad 0)), (2, .ref (ad 54)), (3, .int v3)]) : W p l e room_1 s m #[Value.ref b] below meth c H locs cells slots (lw_Z below #[Value.ref b] s) (F0 m 816 ls []) := by
  have hx := C.1.1
  have hb := C.1.2.1
  have hbA : ¬ AA N ad s.heap.size b := by rw [hAQ]; exact Nat.not_le.mpr hbl
  unfold F_L_816 at hF
  refine lv_aload_n hx hb dL_law_816 rfl (lv_at hl 1 rfl) ?_
  refine lv_aload_n hx hb dL_law_817 rfl (lv_at hl 0 rfl) ?_
  refine lv_iload_n hx hb dL_law_818 rfl (lv_at hl 3 rfl) ?_
  refine lv_iconst (v := 1) hx hb dL_law_819 (by decide) ?_
  refine lv_iadd hx hb dL_law_820 ?_
  obtain ⟨x1, ex1, hF⟩ := nm_1 hF
  refine x_top ex1 ?_
  obtain ⟨g2, hF⟩ := gd_1 hF
  refine va_sld hx hb hX hbl hbA hS (inb_in g2) dL_law_821 ?_
  refine lv_aload_n hx hb dL_law_822 rfl (lv_at hl 0 rfl) ?_
  refine lv_iload_n hx hb dL_law_823 rfl (lv_at hl 3 rfl) ?_
  refine lv_iconst (v := 2) hx hb dL_law_824 (by decide) ?_
  refine lv_iadd hx hb dL_law_825 ?_
  obtain ⟨x3, ex3, hF⟩ := nm_1 hF
  refine x_top ex3 ?_
  obtain ⟨g4, hF⟩ := gd_1 hF
  refine va_sld hx hb hX hbl hbA hS (inb_in g4) dL_law_826 ?_
  refine lv_aload_n hx hb dL_law_827 rfl (lv_at hl 0 rfl) ?_
  refine lv_iload_n hx hb dL_law_828 rfl (lv_at hl 3 rfl) ?_
  refine lv_iconst (v := 3) hx hb dL_law_829 (by decide) ?_
  refine lv_iadd hx hb dL_law_830 ?_
  obtain ⟨x5, ex5, hF⟩ := nm_1 hF
  refine x_top ex5 ?_
  obtain ⟨g6, hF⟩ := gd_1 hF
  refine va_sld hx hb hX hbl hbA hS (inb_in g6) dL_law_831 ?_
  refine lv_aload_n hx hb dL_law_832 rfl (lv_at hl 0 rfl) ?_
  refine lv_iload_n hx hb dL_law_833 rfl (lv_at hl 3 rfl) ?_
  refine lv_iconst (v := 4) hx hb dL_law_834 (by decide) ?_
  refine lv_iadd hx hb dL_law_835 ?_
  obtain ⟨x7, ex7, hF⟩ := nm_1 hF
  refine x_top ex7 ?_
  obtain ⟨g8, hF⟩ := gd_1 hF
  refine va_sld hx hb hX hbl hbA hS (inb_in g8) dL_law_836 ?_
  obtain ⟨r9, σ9, hq9, hF⟩ := bn2_1 hF
  refine x_callV (ci := 11) rfl rfl C hP hS (c_X11_game hL hq9) (lr_0 hL) (lk_0 hL) (cwV 4 C.1.2.2.2.2 (gdV mw_865 mw_866 mw_867 mw_2 mw_868) rfl rfl rfl hd_X11_game ⟨(Nat.le_of_ble_eq_true rfl), (Nat.le_of_ble_eq_true rfl)⟩) rfl rfl hl.1 (Nat.le_of_ble_eq_true rfl) ⟨by show _ ≤ 600000; omega, by show _ ≤ 7302250; omega⟩ dL_law_837 (fun H locs hP hS => ?_)
  refine lv_pop hx hb dL_law_840 rfl ?_
  refine lv_aload_n hx hb dL_law_841 rfl (lv_at hl 2 rfl) ?_
  refine lv_aload_n hx hb dL_law_842 rfl (lv_at hl 0 rfl) ?_
  refine lv_iload_n hx hb dL_law_843 rfl (lv_at hl 3 rfl) ?_
  refine lv_iconst (v := 1) hx hb dL_law_844 (by decide) ?_
  refine lv_iadd hx hb dL_law_845 ?_
  obtain ⟨x10, ex10, hF⟩ := nm_1 hF
  refine x_top ex10 ?_
  obtain ⟨g11, hF⟩ := gd_1 hF
  refine va_sld hx hb hX hbl hbA hS (inb_in g11) dL_law_846 ?_
  refine lv_aload_n hx hb dL_law_847 rfl (lv_at hl 0 rfl) ?_
  refine lv_iload_n hx hb dL_law_848 rfl (lv_at hl 3 rfl) ?_
  refine lv_iconst (v := 2) hx hb dL_law_849 (by decide) ?_
  refine lv_iadd hx hb dL_law_850 ?_
  obtain ⟨x12, ex12, hF⟩ := nm_1 hF
  refine x_top ex12 ?_
  obtain ⟨g13, hF⟩ := gd_1 hF
  refine va_sld hx hb hX hbl hbA hS (inb_in g13) dL_law_851 ?_
  refine lv_aload_n hx hb dL_law_852 rfl (lv_at hl 0 rfl) ?_
  refine lv_iload_n hx hb dL_law_853 rfl (lv_at hl 3 rfl) ?_
  refine lv_iconst (v := 3) hx hb dL_law_854 (by decide) ?_
  refine lv_iadd hx hb dL_law_855 ?_
  obtain ⟨x14, ex14, hF⟩ := nm_1 hF
  refine x_top ex14 ?_
  obtain ⟨g15, hF⟩ := gd_1 hF
  refine va_sld hx hb hX hbl hbA hS (inb_in g15) dL_law_856 ?_
  refine lv_aload_n hx hb dL_law_857 rfl (lv_at hl 0 rfl) ?_
  refine lv_iload_n hx hb dL_law_858 rfl (lv_at hl 3 rfl) ?_
  refine lv_iconst (v := 4) hx hb dL_law_859 (by decide) ?_
  refine lv_iadd hx hb dL_law_860 ?_
  obtain ⟨x16, ex16, hF⟩ := nm_1 hF
  refine x_top ex16 ?_
  obtain ⟨g17, hF⟩ := gd_1 hF
  refine va_sld hx hb hX hbl hbA hS (inb_in g17) dL_law_861 ?_
  obtain ⟨r18, σ18, hq18, hF⟩ := bn2_1 hF
  refine x_callV (ci := 12) rfl rfl C hP hS (c_X12_game hL hq18) (lr_54 hL) (lk_54 hL) (cwV 4 C.1.2.2.2.2 (gdV mw_877 mw_878 mw_879 mw_5 mw_880) rfl rfl rfl hd_X12_game ⟨(Nat.le_of_ble_eq_true rfl), (Nat.le_of_ble_eq_true rfl)⟩) rfl rfl hl.1 (Nat.le_of_ble_eq_true rfl) ⟨by show _ ≤ 600000; omega, by show _ ≤ 7302250; omega⟩ dL_law_862 (fun H locs hP hS => ?_)
  refine lv_pop hx hb dL_law_865 rfl ?_
  refine lv_goto (tgt := 1257) hx hb dL_law_866 (by decide) ?_
  obtain ⟨x19, ex19, hF⟩ := nm_1 hF
  refine lv_iinc (v := x19) (lv' := [(3, .int x19), (0, .ref b), (1, .ref (ad 0)), (2, .ref (ad 54))]) hx hb dL_law_1257 hl (k := 3) rfl (by rw [ex19]; first | rfl | decide) (by decide) rfl (fun ls hl => ?_)
  refine lv_goto (tgt := 18) hx hb dL_law_1260 (by decide) ?_
  exact hrec _ _ _ _ _ _ _ _ _ _ _ _ (by omega) (by omega) hF hL hR C hP hS hAQ (lv_sub hl [1, 2, 3, 0] rfl)
def F_L_869 (xs : Nat → Int32) (L : Nat) (rec : Nat → (Nat → Nat) → (Nat → Nat) → SG → RG → Int32 → Option Unit) (N : Nat) (K len : Nat → Nat) (σ : SG) (ρ : RG) (v3 : Int32) : Option Unit :=
  nm (v3 + (1 : Int32)) fun x1 =>
  gd (inb x1 L) <|
  nm (v3 + (2 : Int32)) fun x3 =>
  gd (inb x3 L) <|
  bn (F_X11_cheese N K len (xs (x1).toNatClampNeg) (xs (x3).toNatClampNeg) σ ρ) fun r5 =>
  nm (v3 + (1 : Int32)) fun x6 =>
  gd (inb x6 L) <|
  nm (v3 + (2 : Int32)) fun x8 =>
  gd (inb x8 L) <|
  bn2 (F_X12_cheese (xs (x6).toNatClampNeg) (xs (x8).toNatClampNeg) σ ρ) fun r10 σ10 =>
  nm (v3 + (6 : Int32)) fun x11 =>
  rec N K len σ10 ρ x11
set_option maxHeartbeats 4000000 in
set_option maxRecDepth 100000 in
theorem wl_869 {p : Program} {e : Env} {s : State} {m : MethodId} {below : List Frame} {meth : Method} {c : Code} {b L : Nat} {xs : Nat → Int32} {rec : Nat → (Nat → Nat) → (Nat → Nat) → SG → RG → Int32 → Option Unit} {c1 s1 : Nat} (hX : va_X b L xs s s.heap) (hbl : b < s.heap.size) (hrec : ∀ (N : Nat) (ad K len : Nat → Nat) (σ : SG) (ρ : RG) (v3 : Int32) (H : Heap) (locs : List Loc) (cells slots : Nat) (ls : Array Slot), cells ≤ c1 → slots ≤ s1 → rec N K len σ ρ v3 = some () → Lay N K len ρ → RC N ρ → Cx Y D N ad p s m #[Value.ref b] meth c cL_law 4 ret RL wsL_law → WP Y D N ad K len σ ρ H → va_S (AA N ad s.heap.size) s.heap H locs → AA N ad s.heap.size = (fun q => s.heap.size ≤ q) → lv_has ls 4 [(0, .ref b), (1, .ref (ad 0)), (2, .ref (ad 54)), (3, .int v3)] → W p l e room_1 s m #[Value.ref b] below meth c H locs cells slots (lw_Z below #[Value.ref b] s) (F0 m 18 ls [])) {N : Nat} {ad K len : Nat → Nat} {σ : SG} {ρ : RG} {v3 : Int32} {H : Heap} {locs : List Loc} {cells slots : Nat} {ls : Array Slot} (hc1 : c1 ≤ 600000) (hs1 : s1 ≤ 7302250) (hcc : cells + 14 ≤ c1) (hss : slots + 90 ≤ s1) (hF : F_L_869 xs L rec N K len σ ρ v3 = some ()) (hL : Lay N K len ρ) (hR : RC N ρ) (C : Cx Y D N ad p s m #[Value.ref b] meth c cL_law 4 ret RL wsL_law) (hP : WP Y D N ad K len σ ρ H) (hS : va_S (AA N ad s.heap.size) s.heap H locs) (hAQ : AA N ad s.heap.size = (fun q => s.heap.size ≤ q)) (hl : lv_has ls 4 [(0, .ref b), (1, .ref (ad 0)), (2, .ref (ad 54)), (3, .int v3)]) : W p l e room_1 s m #[Value.ref b] below meth c H locs cells slots (lw_Z below #[Value.ref b] s) (F0 m 869 ls []) := by
  have hx := C.1.1
  have hb := C.1.2.1
  have hbA : ¬ AA N ad s.heap.size b := by rw [hAQ]; exact Nat.not_le.mpr hbl
  unfold F_L_869 at hF
  refine lv_aload_n hx hb dL_law_869 rfl (lv_at hl 1 rfl) ?_
  refine lv_aload_n hx hb dL_law_870 rfl (lv_at hl 0 rfl) ?_
  refine lv_iload_n hx hb dL_law_871 rfl (lv_at hl 3 rfl) ?_
  refine lv_iconst (v := 1) hx hb dL_law_872 (by decide) ?_
  refine lv_iadd hx hb dL_law_873 ?_
  obtain ⟨x1, ex1, hF⟩ := nm_1 hF
  refine x_top ex1 ?_
  obtain ⟨g2, hF⟩ := gd_1 hF
  refine va_sld hx hb hX hbl hbA hS (inb_in g2) dL_law_874 ?_
  refine lv_aload_n hx hb dL_law_875 rfl (lv_at hl 0 rfl) ?_
  refine lv_iload_n hx hb dL_law_876 rfl (lv_at hl 3 rfl) ?_
  refine lv_iconst (v := 2) hx hb dL_law_877 (by decide) ?_
  refine lv_iadd hx hb dL_law_878 ?_
  obtain ⟨x3, ex3, hF⟩ := nm_1 hF
  refine x_top ex3 ?_
  obtain ⟨g4, hF⟩ := gd_1 hF
  refine va_sld hx hb hX hbl hbA hS (inb_in g4) dL_law_879 ?_
  obtain ⟨r5, hq5, hF⟩ := bn_1 hF
  refine x_callV (ci := 11) rfl rfl C hP hS (c_X11_cheese hL hq5) (lr_0 hL) (lk_0 hL) (cwV 2 C.1.2.2.2.2 (gdV mw_887 mw_888 mw_889 mw_2 mw_890) rfl rfl rfl hd_X11_cheese ⟨(Nat.le_of_ble_eq_true rfl), (Nat.le_of_ble_eq_true rfl)⟩) rfl rfl hl.1 (Nat.le_of_ble_eq_true rfl) ⟨by show _ ≤ 600000; omega, by show _ ≤ 7302250; omega⟩ dL_law_880 (fun H locs hP hS => ?_)
  refine lv_pop hx hb dL_law_883 rfl ?_
  refine lv_aload_n hx hb dL_law_884 rfl (lv_at hl 2 rfl) ?_
  refine lv_aload_n hx hb dL_law_885 rfl (lv_at hl 0 rfl) ?_
  refine lv_iload_n hx hb dL_law_886 rfl (lv_at hl 3 rfl) ?_
  refine lv_iconst (v := 1) hx hb dL_law_887 (by decide) ?_
  refine lv_iadd hx hb dL_law_888 ?_
  obtain ⟨x6, ex6, hF⟩ := nm_1 hF
  refine x_top ex6 ?_
  obtain ⟨g7, hF⟩ := gd_1 hF
  refine va_sld hx hb hX hbl hbA hS (inb_in g7) dL_law_889 ?_
  refine lv_aload_n hx hb dL_law_890 rfl (lv_at hl 0 rfl) ?_
  refine lv_iload_n hx hb dL_law_891 rfl (lv_at hl 3 rfl) ?_
  refine lv_iconst (v := 2) hx hb dL_law_892 (by decide) ?_
  refine lv_iadd hx hb dL_law_893 ?_
  obtain ⟨x8, ex8, hF⟩ := nm_1 hF
  refine x_top ex8 ?_
  obtain ⟨g9, hF⟩ := gd_1 hF
  refine va_sld hx hb hX hbl hbA hS (inb_in g9) dL_law_894 ?_
  obtain ⟨r10, σ10, hq10, hF⟩ := bn2_1 hF
  refine x_callV (ci := 12) rfl rfl C hP hS (c_X12_cheese hL hq10) (lr_54 hL) (lk_54 hL) (cwV 2 C.1.2.2.2.2 (gdV mw_891 mw_892 mw_893 mw_5 mw_894) rfl rfl rfl hd_X12_cheese ⟨(Nat.le_of_ble_eq_true rfl), (Nat.le_of_ble_eq_true rfl)⟩) rfl rfl hl.1 (Nat.le_of_ble_eq_true rfl) ⟨by show _ ≤ 600000; omega, by show _ ≤ 7302250; omega⟩ dL_law_895 (fun H locs hP hS => ?_)
  refine lv_pop hx hb dL_law_898 rfl ?_
  refine lv_goto (tgt := 1257) hx hb dL_law_899 (by decide) ?_
  obtain ⟨x11, ex11, hF⟩ := nm_1 hF
  refine lv_iinc (v := x11) (lv' := [(3, .int x11), (0, .ref b), (1, .ref (ad 0)), (2, .ref (ad 54))]) hx hb dL_law_1257 hl (k := 3) rfl (by rw [ex11]; first | rfl | decide) (by decide) rfl (fun ls hl => ?_)
  refine lv_goto (tgt := 18) hx hb dL_law_1260 (by decide) ?_
  exact hrec _ _ _ _ _ _ _ _ _ _ _ _ (by omega) (by omega) hF hL hR C hP hS hAQ (lv_sub hl [1, 2, 3, 0] rfl)
def F_L_902 (xs : Nat → Int32) (L : Nat) (rec : Nat → (Nat → Nat) → (Nat → Nat) → SG → RG → Int32 → Option Unit) (N : Nat) (K len : Nat → Nat) (σ : SG) (ρ : RG) (v3 : Int32) : Option Unit :=
  nm (v3 + (1 : Int32)) fun x1 =>
  gd (inb x1 L) <|
  nm (v3 + (2 : Int32)) fun x3 =>
  gd (inb x3 L) <|
  bn2 (F_X11_see (xs (x1).toNatClampNeg) (xs (x3).toNatClampNeg) σ ρ) fun r5 σ5 =>
  nm (v3 + (1 : Int32)) fun x6 =>
  gd (inb x6 L) <|
  nm (v3 + (2 : Int32)) fun x8 =>
  gd (inb x8 L) <|
  bn2 (F_X12_see (xs (x6).toNatClampNeg) (xs (x8).toNatClampNeg) σ5 ρ) fun r10 σ10 =>
  nm (v3 + (6 : Int32)) fun x11 =>
  rec N K len σ10 ρ x11
set_option maxHeartbeats 4000000 in
set_option maxRecDepth 100000 in
theorem wl_902 {p : Program} {e : Env} {s : State} {m : MethodId} {below : List Frame} {meth : Method} {c : Code} {b L : Nat} {xs : Nat → Int32} {rec : Nat → (Nat → Nat) → (Nat → Nat) → SG → RG → Int32 → Option Unit} {c1 s1 : Nat} (hX : va_X b L xs s s.heap) (hbl : b < s.heap.size) (hrec : ∀ (N : Nat) (ad K len : Nat → Nat) (σ : SG) (ρ : RG) (v3 : Int32) (H : Heap) (locs : List Loc) (cells slots : Nat) (ls : Array Slot), cells ≤ c1 → slots ≤ s1 → rec N K len σ ρ v3 = some () → Lay N K len ρ → RC N ρ → Cx Y D N ad p s m #[Value.ref b] meth c cL_law 4 ret RL wsL_law → WP Y D N ad K len σ ρ H → va_S (AA N ad s.heap.size) s.heap H locs → AA N ad s.heap.size = (fun q => s.heap.size ≤ q) → lv_has ls 4 [(0, .ref b), (1, .ref (ad 0)), (2, .ref (ad 54)), (3, .int v3)] → W p l e room_1 s m #[Value.ref b] below meth c H locs cells slots (lw_Z below #[Value.ref b] s) (F0 m 18 ls [])) {N : Nat} {ad K len : Nat → Nat} {σ : SG} {ρ : RG} {v3 : Int32} {H : Heap} {locs : List Loc} {cells slots : Nat} {ls : Array Slot} (hc1 : c1 ≤ 600000) (hs1 : s1 ≤ 7302250) (hcc : cells + 14 ≤ c1) (hss : slots + 90 ≤ s1) (hF : F_L_902 xs L rec N K len σ ρ v3 = some ()) (hL : Lay N K len ρ) (hR : RC N ρ) (C : Cx Y D N ad p s m #[Value.ref b] meth c cL_law 4 ret RL wsL_law) (hP : WP Y D N ad K len σ ρ H) (hS : va_S (AA N ad s.heap.size) s.heap H locs) (hAQ : AA N ad s.heap.size = (fun q => s.heap.size ≤ q)) (hl : lv_has ls 4 [(0, .ref b), (1, .ref (ad 0)), (2, .ref (ad 54)), (3, .int v3)]) : W p l e room_1 s m #[Value.ref b] below meth c H locs cells slots (lw_Z below #[Value.ref b] s) (F0 m 902 ls []) := by
  have hx := C.1.1
  have hb := C.1.2.1
  have hbA : ¬ AA N ad s.heap.size b := by rw [hAQ]; exact Nat.not_le.mpr hbl
  unfold F_L_902 at hF
  refine lv_aload_n hx hb dL_law_902 rfl (lv_at hl 1 rfl) ?_
  refine lv_aload_n hx hb dL_law_903 rfl (lv_at hl 0 rfl) ?_
  refine lv_iload_n hx hb dL_law_904 rfl (lv_at hl 3 rfl) ?_
  refine lv_iconst (v := 1) hx hb dL_law_905 (by decide) ?_
  refine lv_iadd hx hb dL_law_906 ?_
  obtain ⟨x1, ex1, hF⟩ := nm_1 hF
  refine x_top ex1 ?_
  obtain ⟨g2, hF⟩ := gd_1 hF
  refine va_sld hx hb hX hbl hbA hS (inb_in g2) dL_law_907 ?_
  refine lv_aload_n hx hb dL_law_908 rfl (lv_at hl 0 rfl) ?_
  refine lv_iload_n hx hb dL_law_909 rfl (lv_at hl 3 rfl) ?_
  refine lv_iconst (v := 2) hx hb dL_law_910 (by decide) ?_
  refine lv_iadd hx hb dL_law_911 ?_
  obtain ⟨x3, ex3, hF⟩ := nm_1 hF
  refine x_top ex3 ?_
  obtain ⟨g4, hF⟩ := gd_1 hF
  refine va_sld hx hb hX hbl hbA hS (inb_in g4) dL_law_912 ?_
  obtain ⟨r5, σ5, hq5, hF⟩ := bn2_1 hF
  refine x_callV (ci := 11) rfl rfl C hP hS (c_X11_see hL hq5) (lr_0 hL) (lk_0 hL) (cwV 2 C.1.2.2.2.2 (gdV mw_895 mw_896 mw_897 mw_2 mw_898) rfl rfl rfl hd_X11_see ⟨(Nat.le_of_ble_eq_true rfl), (Nat.le_of_ble_eq_true rfl)⟩) rfl rfl hl.1 (Nat.le_of_ble_eq_true rfl) ⟨by show _ ≤ 600000; omega, by show _ ≤ 7302250; omega⟩ dL_law_913 (fun H locs hP hS => ?_)
  refine lv_pop hx hb dL_law_916 rfl ?_
  refine lv_aload_n hx hb dL_law_917 rfl (lv_at hl 2 rfl) ?_
  refine lv_aload_n hx hb dL_law_918 rfl (lv_at hl 0 rfl) ?_
  refine lv_iload_n hx hb dL_law_919 rfl (lv_at hl 3 rfl) ?_
  refine lv_iconst (v := 1) hx hb dL_law_920 (by decide) ?_
  refine lv_iadd hx hb dL_law_921 ?_
  obtain ⟨x6, ex6, hF⟩ := nm_1 hF
  refine x_top ex6 ?_
  obtain ⟨g7, hF⟩ := gd_1 hF
  refine va_sld hx hb hX hbl hbA hS (inb_in g7) dL_law_922 ?_
  refine lv_aload_n hx hb dL_law_923 rfl (lv_at hl 0 rfl) ?_
  refine lv_iload_n hx hb dL_law_924 rfl (lv_at hl 3 rfl) ?_
  refine lv_iconst (v := 2) hx hb dL_law_925 (by decide) ?_
  refine lv_iadd hx hb dL_law_926 ?_
  obtain ⟨x8, ex8, hF⟩ := nm_1 hF
  refine x_top ex8 ?_
  obtain ⟨g9, hF⟩ := gd_1 hF
  refine va_sld hx hb hX hbl hbA hS (inb_in g9) dL_law_927 ?_
  obtain ⟨r10, σ10, hq10, hF⟩ := bn2_1 hF
  refine x_callV (ci := 12) rfl rfl C hP hS (c_X12_see hL hq10) (lr_54 hL) (lk_54 hL) (cwV 2 C.1.2.2.2.2 (gdV mw_904 mw_905 mw_906 mw_5 mw_907) rfl rfl rfl hd_X12_see ⟨(Nat.le_of_ble_eq_true rfl), (Nat.le_of_ble_eq_true rfl)⟩) rfl rfl hl.1 (Nat.le_of_ble_eq_true rfl) ⟨by show _ ≤ 600000; omega, by show _ ≤ 7302250; omega⟩ dL_law_928 (fun H locs hP hS => ?_)
  refine lv_pop hx hb dL_law_931 rfl ?_
  refine lv_goto (tgt := 1257) hx hb dL_law_932 (by decide) ?_
  obtain ⟨x11, ex11, hF⟩ := nm_1 hF
  refine lv_iinc (v := x11) (lv' := [(3, .int x11), (0, .ref b), (1, .ref (ad 0)), (2, .ref (ad 54))]) hx hb dL_law_1257 hl (k := 3) rfl (by rw [ex11]; first | rfl | decide) (by decide) rfl (fun ls hl => ?_)
  refine lv_goto (tgt := 18) hx hb dL_law_1260 (by decide) ?_
  exact hrec _ _ _ _ _ _ _ _ _ _ _ _ (by omega) (by omega) hF hL hR C hP hS hAQ (lv_sub hl [1, 2, 3, 0] rfl)
def F_L_935 (xs : Nat → Int32) (L : Nat) (rec : Nat → (Nat → Nat) → (Nat → Nat) → SG → RG → Int32 → Option Unit) (N : Nat) (K len : Nat → Nat) (σ : SG) (ρ : RG) (v3 : Int32) : Option Unit :=
  bn2 (F_X11_who N K len σ ρ) fun r1 σ1 =>
  bn2 (F_X12_who σ1 ρ) fun r2 σ2 =>
  nm (v3 + (6 : Int32)) fun x3 =>
  rec N K len σ2 ρ x3
set_option maxHeartbeats 4000000 in
set_option maxRecDepth 100000 in
theorem wl_935 {p : Program} {e : Env} {s : State} {m : MethodId} {below : List Frame} {meth : Method} {c : Code} {b L : Nat} {xs : Nat → Int32} {rec : Nat → (Nat → Nat) → (Nat → Nat) → SG → RG → Int32 → Option Unit} {c1 s1 : Nat} (hX : va_X b L xs s s.heap) (hbl : b < s.heap.size) (hrec : ∀ (N : Nat) (ad K len : Nat → Nat) (σ : SG) (ρ : RG) (v3 : Int32) (H : Heap) (locs : List Loc) (cells slots : Nat) (ls : Array Slot), cells ≤ c1 → slots ≤ s1 → rec N K len σ ρ v3 = some () → Lay N K len ρ → RC N ρ → Cx Y D N ad p s m #[Value.ref b] meth c cL_law 4 ret RL wsL_law → WP Y D N ad K len σ ρ H → va_S (AA N ad s.heap.size) s.heap H locs → AA N ad s.heap.size = (fun q => s.heap.size ≤ q) → lv_has ls 4 [(0, .ref b), (1, .ref (ad 0)), (2, .ref (ad 54)), (3, .int v3)] → W p l e room_1 s m #[Value.ref b] below meth c H locs cells slots (lw_Z below #[Value.ref b] s) (F0 m 18 ls [])) {N : Nat} {ad K len : Nat → Nat} {σ : SG} {ρ : RG} {v3 : Int32} {H : Heap} {locs : List Loc} {cells slots : Nat} {ls : Array Slot} (hc1 : c1 ≤ 600000) (hs1 : s1 ≤ 7302250) (hcc : cells + 14 ≤ c1) (hss : slots + 90 ≤ s1) (hF : F_L_935 xs L rec N K len σ ρ v3 = some ()) (hL : Lay N K len ρ) (hR : RC N ρ) (C : Cx Y D N ad p s m #[Value.ref b] meth c cL_law 4 ret RL wsL_law) (hP : WP Y D N ad K len σ ρ H) (hS : va_S (AA N ad s.heap.size) s.heap H locs) (hAQ : AA N ad s.heap.size = (fun q => s.heap.size ≤ q)) (hl : lv_has ls 4 [(0, .ref b), (1, .ref (ad 0)), (2, .ref (ad 54)), (3, .int v3)]) : W p l e room_1 s m #[Value.ref b] below meth c H locs cells slots (lw_Z below #[Value.ref b] s) (F0 m 935 ls []) := by
  have hx := C.1.1
  have hb := C.1.2.1
  have hbA : ¬ AA N ad s.heap.size b := by rw [hAQ]; exact Nat.not_le.mpr hbl
  unfold F_L_935 at hF
  refine lv_aload_n hx hb dL_law_935 rfl (lv_at hl 1 rfl) ?_
  obtain ⟨r1, σ1, hq1, hF⟩ := bn2_1 hF
  refine x_callV (ci := 11) rfl rfl C hP hS (c_X11_who hL hq1) (lr_0 hL) (lk_0 hL) (cwV 0 C.1.2.2.2.2 (gdV mw_908 mw_909 mw_910 mw_2 mw_911) rfl rfl rfl hd_X11_who ⟨(Nat.le_of_ble_eq_true rfl), (Nat.le_of_ble_eq_true rfl)⟩) rfl rfl hl.1 (Nat.le_of_ble_eq_true rfl) ⟨by show _ ≤ 600000; omega, by show _ ≤ 7302250; omega⟩ dL_law_936 (fun H locs hP hS => ?_)
  refine lv_pop hx hb dL_law_939 rfl ?_
  refine lv_aload_n hx hb dL_law_940 rfl (lv_at hl 2 rfl) ?_
  obtain ⟨r2, σ2, hq2, hF⟩ := bn2_1 hF
  refine x_callV (ci := 12) rfl rfl C hP hS (c_X12_who hL hq2) (lr_54 hL) (lk_54 hL) (cwV 0 C.1.2.2.2.2 (gdV mw_912 mw_913 mw_914 mw_5 mw_915) rfl rfl rfl hd_X12_who ⟨(Nat.le_of_ble_eq_true rfl), (Nat.le_of_ble_eq_true rfl)⟩) rfl rfl hl.1 (Nat.le_of_ble_eq_true rfl) ⟨by show _ ≤ 600000; omega, by show _ ≤ 7302250; omega⟩ dL_law_941 (fun H locs hP hS => ?_)
  refine lv_pop hx hb dL_law_944 rfl ?_
  refine lv_goto (tgt := 1257) hx hb dL_law_945 (by decide) ?_
  obtain ⟨x3, ex3, hF⟩ := nm_1 hF
  refine lv_iinc (v := x3) (lv' := [(3, .int x3), (0, .ref b), (1, .ref (ad 0)), (2, .ref (ad 54))]) hx hb dL_law_1257 hl (k := 3) rfl (by rw [ex3]; first | rfl | decide) (by decide) rfl (fun ls hl => ?_)
  refine lv_goto (tgt := 18) hx hb dL_law_1260 (by decide) ?_
  exact hrec _ _ _ _ _ _ _ _ _ _ _ _ (by omega) (by omega) hF hL hR C hP hS hAQ (lv_sub hl [1, 2, 3, 0] rfl)
def F_L_948 (xs : Nat → Int32) (L : Nat) (rec : Nat → (Nat → Nat) → (Nat → Nat) → SG → RG → Int32 → Option Unit) (N : Nat) (K len : Nat → Nat) (σ : SG) (ρ : RG) (v3 : Int32) : Option Unit :=
  nm (v3 + (1 : Int32)) fun x1 =>
  gd (inb x1 L) <|
  bn2 (F_X11_week (xs (x1).toNatClampNeg) σ ρ) fun r3 σ3 =>
  nm (v3 + (1 : Int32)) fun x4 =>
  gd (inb x4 L) <|
  bn2 (F_X12_week (xs (x4).toNatClampNeg) σ3 ρ) fun r6 σ6 =>
  nm (v3 + (6 : Int32)) fun x7 =>
  rec N K len σ6 ρ x7
set_option maxHeartbeats 4000000 in
set_option maxRecDepth 100000 in
theorem wl_948 {p : Program} {e : Env} {s : State} {m : MethodId} {below : List Frame} {meth : Method} {c : Code} {b L : Nat} {xs : Nat → Int32} {rec : Nat → (Nat → Nat) → (Nat → Nat) → SG → RG → Int32 → Option Unit} {c1 s1 : Nat} (hX : va_X b L xs s s.heap) (hbl : b < s.heap.size) (hrec : ∀ (N : Nat) (ad K len : Nat → Nat) (σ : SG) (ρ : RG) (v3 : Int32) (H : Heap) (locs : List Loc) (cells slots : Nat) (ls : Array Slot), cells ≤ c1 → slots ≤ s1 → rec N K len σ ρ v3 = some () → Lay N K len ρ → RC N ρ → Cx Y D N ad p s m #[Value.ref b] meth c cL_law 4 ret RL wsL_law → WP Y D N ad K len σ ρ H → va_S (AA N ad s.heap.size) s.heap H locs → AA N ad s.heap.size = (fun q => s.heap.size ≤ q) → lv_has ls 4 [(0, .ref b), (1, .ref (ad 0)), (2, .ref (ad 54)), (3, .int v3)] → W p l e room_1 s m #[Value.ref b] below meth c H locs cells slots (lw_Z below #[Value.ref b] s) (F0 m 18 ls [])) {N : Nat} {ad K len : Nat → Nat} {σ : SG} {ρ : RG} {v3 : Int32} {H : Heap} {locs : List Loc} {cells slots : Nat} {ls : Array Slot} (hc1 : c1 ≤ 600000) (hs1 : s1 ≤ 7302250) (hcc : cells + 14 ≤ c1) (hss : slots + 90 ≤ s1) (hF : F_L_948 xs L rec N K len σ ρ v3 = some ()) (hL : Lay N K len ρ) (hR : RC N ρ) (C : Cx Y D N ad p s m #[Value.ref b] meth c cL_law 4 ret RL wsL_law) (hP : WP Y D N ad K len σ ρ H) (hS : va_S (AA N ad s.heap.size) s.heap H locs) (hAQ : AA N ad s.heap.size = (fun q => s.heap.size ≤ q)) (hl : lv_has ls 4 [(0, .ref b), (1, .ref (ad 0)), (2, .ref (ad 54)), (3, .int v3)]) : W p l e room_1 s m #[Value.ref b] below meth c H locs cells slots (lw_Z below #[Value.ref b] s) (F0 m 948 ls []) := by
  have hx := C.1.1
  have hb := C.1.2.1
  have hbA : ¬ AA N ad s.heap.size b := by rw [hAQ]; exact Nat.not_le.mpr hbl
  unfold F_L_948 at hF
  refine lv_aload_n hx hb dL_law_948 rfl (lv_at hl 1 rfl) ?_
  refine lv_aload_n hx hb dL_law_949 rfl (lv_at hl 0 rfl) ?_
  refine lv_iload_n hx hb dL_law_950 rfl (lv_at hl 3 rfl) ?_
  refine lv_iconst (v := 1) hx hb dL_law_951 (by decide) ?_
  refine lv_iadd hx hb dL_law_952 ?_
  obtain ⟨x1, ex1, hF⟩ := nm_1 hF
  refine x_top ex1 ?_
  obtain ⟨g2, hF⟩ := gd_1 hF
  refine va_sld hx hb hX hbl hbA hS (inb_in g2) dL_law_953 ?_
  obtain ⟨r3, σ3, hq3, hF⟩ := bn2_1 hF
  refine x_callV (ci := 11) rfl rfl C hP hS (c_X11_week hL hq3) (lr_0 hL) (lk_0 hL) (cwV 1 C.1.2.2.2.2 (gdV mw_916 mw_917 mw_918 mw_2 mw_919) rfl rfl rfl hd_X11_week ⟨(Nat.le_of_ble_eq_true rfl), (Nat.le_of_ble_eq_true rfl)⟩) rfl rfl hl.1 (Nat.le_of_ble_eq_true rfl) ⟨by show _ ≤ 600000; omega, by show _ ≤ 7302250; omega⟩ dL_law_954 (fun H locs hP hS => ?_)
  refine lv_pop hx hb dL_law_957 rfl ?_
  refine lv_aload_n hx hb dL_law_958 rfl (lv_at hl 2 rfl) ?_
  refine lv_aload_n hx hb dL_law_959 rfl (lv_at hl 0 rfl) ?_
  refine lv_iload_n hx hb dL_law_960 rfl (lv_at hl 3 rfl) ?_
  refine lv_iconst (v := 1) hx hb dL_law_961 (by decide) ?_
  refine lv_iadd hx hb dL_law_962 ?_
  obtain ⟨x4, ex4, hF⟩ := nm_1 hF
  refine x_top ex4 ?_
  obtain ⟨g5, hF⟩ := gd_1 hF
  refine va_sld hx hb hX hbl hbA hS (inb_in g5) dL_law_963 ?_
  obtain ⟨r6, σ6, hq6, hF⟩ := bn2_1 hF
  refine x_callV (ci := 12) rfl rfl C hP hS (c_X12_week hL hq6) (lr_54 hL) (lk_54 hL) (cwV 1 C.1.2.2.2.2 (gdV mw_922 mw_923 mw_924 mw_5 mw_925) rfl rfl rfl hd_X12_week ⟨(Nat.le_of_ble_eq_true rfl), (Nat.le_of_ble_eq_true rfl)⟩) rfl rfl hl.1 (Nat.le_of_ble_eq_true rfl) ⟨by show _ ≤ 600000; omega, by show _ ≤ 7302250; omega⟩ dL_law_964 (fun H locs hP hS => ?_)
  refine lv_pop hx hb dL_law_967 rfl ?_
  refine lv_goto (tgt := 1257) hx hb dL_law_968 (by decide) ?_
  obtain ⟨x7, ex7, hF⟩ := nm_1 hF
  refine lv_iinc (v := x7) (lv' := [(3, .int x7), (0, .ref b), (1, .ref (ad 0)), (2, .ref (ad 54))]) hx hb dL_law_1257 hl (k := 3) rfl (by rw [ex7]; first | rfl | decide) (by decide) rfl (fun ls hl => ?_)
  refine lv_goto (tgt := 18) hx hb dL_law_1260 (by decide) ?_
  exact hrec _ _ _ _ _ _ _ _ _ _ _ _ (by omega) (by omega) hF hL hR C hP hS hAQ (lv_sub hl [1, 2, 3, 0] rfl)
def F_L_971 (xs : Nat → Int32) (L : Nat) (rec : Nat → (Nat → Nat) → (Nat → Nat) → SG → RG → Int32 → Option Unit) (N : Nat) (K len : Nat → Nat) (σ : SG) (ρ : RG) (v3 : Int32) : Option Unit :=
  bn2 (F_X11_clear σ ρ) fun r1 σ1 =>
  bn2 (F_X12_clear σ1 ρ) fun r2 σ2 =>
  nm (v3 + (6 : Int32)) fun x3 =>
  rec N K len σ2 ρ x3
set_option maxHeartbeats 4000000 in
set_option maxRecDepth 100000 in
theorem wl_971 {p : Program} {e : Env} {s : State} {m : MethodId} {below : List Frame} {meth : Method} {c : Code} {b L : Nat} {xs : Nat → Int32} {rec : Nat → (Nat → Nat) → (Nat → Nat) → SG → RG → Int32 → Option Unit} {c1 s1 : Nat} (hX : va_X b L xs s s.heap) (hbl : b < s.heap.size) (hrec : ∀ (N : Nat) (ad K len : Nat → Nat) (σ : SG) (ρ : RG) (v3 : Int32) (H : Heap) (locs : List Loc) (cells slots : Nat) (ls : Array Slot), cells ≤ c1 → slots ≤ s1 → rec N K len σ ρ v3 = some () → Lay N K len ρ → RC N ρ → Cx Y D N ad p s m #[Value.ref b] meth c cL_law 4 ret RL wsL_law → WP Y D N ad K len σ ρ H → va_S (AA N ad s.heap.size) s.heap H locs → AA N ad s.heap.size = (fun q => s.heap.size ≤ q) → lv_has ls 4 [(0, .ref b), (1, .ref (ad 0)), (2, .ref (ad 54)), (3, .int v3)] → W p l e room_1 s m #[Value.ref b] below meth c H locs cells slots (lw_Z below #[Value.ref b] s) (F0 m 18 ls [])) {N : Nat} {ad K len : Nat → Nat} {σ : SG} {ρ : RG} {v3 : Int32} {H : Heap} {locs : List Loc} {cells slots : Nat} {ls : Array Slot} (hc1 : c1 ≤ 600000) (hs1 : s1 ≤ 7302250) (hcc : cells + 14 ≤ c1) (hss : slots + 90 ≤ s1) (hF : F_L_971 xs L rec N K len σ ρ v3 = some ()) (hL : Lay N K len ρ) (hR : RC N ρ) (C : Cx Y D N ad p s m #[Value.ref b] meth c cL_law 4 ret RL wsL_law) (hP : WP Y D N ad K len σ ρ H) (hS : va_S (AA N ad s.heap.size) s.heap H locs) (hAQ : AA N ad s.heap.size = (fun q => s.heap.size ≤ q)) (hl : lv_has ls 4 [(0, .ref b), (1, .ref (ad 0)), (2, .ref (ad 54)), (3, .int v3)]) : W p l e room_1 s m #[Value.ref b] below meth c H locs cells slots (lw_Z below #[Value.ref b] s) (F0 m 971 ls []) := by
  have hx := C.1.1
  have hb := C.1.2.1
  have hbA : ¬ AA N ad s.heap.size b := by rw [hAQ]; exact Nat.not_le.mpr hbl
  unfold F_L_971 at hF
  refine lv_aload_n hx hb dL_law_971 rfl (lv_at hl 1 rfl) ?_
  obtain ⟨r1, σ1, hq1, hF⟩ := bn2_1 hF
  refine x_callV (ci := 11) rfl rfl C hP hS (c_X11_clear hL hq1) (lr_0 hL) (lk_0 hL) (cwV 0 C.1.2.2.2.2 (gdV mw_926 mw_927 mw_928 mw_2 mw_929) rfl rfl rfl hd_X11_clear ⟨(Nat.le_of_ble_eq_true rfl), (Nat.le_of_ble_eq_true rfl)⟩) rfl rfl hl.1 (Nat.le_of_ble_eq_true rfl) ⟨by show _ ≤ 600000; omega, by show _ ≤ 7302250; omega⟩ dL_law_972 (fun H locs hP hS => ?_)
  refine lv_pop hx hb dL_law_975 rfl ?_
  refine lv_aload_n hx hb dL_law_976 rfl (lv_at hl 2 rfl) ?_
  obtain ⟨r2, σ2, hq2, hF⟩ := bn2_1 hF
  refine x_callV (ci := 12) rfl rfl C hP hS (c_X12_clear hL hq2) (lr_54 hL) (lk_54 hL) (cwV 0 C.1.2.2.2.2 (gdV mw_930 mw_931 mw_932 mw_5 mw_933) rfl rfl rfl hd_X12_clear ⟨(Nat.le_of_ble_eq_true rfl), (Nat.le_of_ble_eq_true rfl)⟩) rfl rfl hl.1 (Nat.le_of_ble_eq_true rfl) ⟨by show _ ≤ 600000; omega, by show _ ≤ 7302250; omega⟩ dL_law_977 (fun H locs hP hS => ?_)
  refine lv_pop hx hb dL_law_980 rfl ?_
  refine lv_goto (tgt := 1257) hx hb dL_law_981 (by decide) ?_
  obtain ⟨x3, ex3, hF⟩ := nm_1 hF
  refine lv_iinc (v := x3) (lv' := [(3, .int x3), (0, .ref b), (1, .ref (ad 0)), (2, .ref (ad 54))]) hx hb dL_law_1257 hl (k := 3) rfl (by rw [ex3]; first | rfl | decide) (by decide) rfl (fun ls hl => ?_)
  refine lv_goto (tgt := 18) hx hb dL_law_1260 (by decide) ?_
  exact hrec _ _ _ _ _ _ _ _ _ _ _ _ (by omega) (by omega) hF hL hR C hP hS hAQ (lv_sub hl [1, 2, 3, 0] rfl)
def F_L_984 (xs : Nat → Int32) (L : Nat) (rec : Nat → (Nat → Nat) → (Nat → Nat) → SG → RG → Int32 → Option Unit) (N : Nat) (K len : Nat → Nat) (σ : SG) (ρ : RG) (v3 : Int32) : Option Unit :=
  nm (v3 + (1 : Int32)) fun x1 =>
  gd (inb x1 L) <|
  bn2 (F_X11_rows N K len (xs (x1).toNatClampNeg) σ ρ) fun r3 σ3 =>
  nm (v3 + (1 : Int32)) fun x4 =>
  gd (inb x4 L) <|
  bn2 (F_X12_rows (xs (x4).toNatClampNeg) σ3 ρ) fun r6 σ6 =>
  nm (v3 + (6 : Int32)) fun x7 =>
  rec N K len σ6 ρ x7
set_option maxHeartbeats 4000000 in
set_option maxRecDepth 100000 in
theorem wl_984 {p : Program} {e : Env} {s : State} {m : MethodId} {below : List Frame} {meth : Method} {c : Code} {b L : Nat} {xs : Nat → Int32} {rec : Nat → (Nat → Nat) → (Nat → Nat) → SG → RG → Int32 → Option Unit} {c1 s1 : Nat} (hX : va_X b L xs s s.heap) (hbl : b < s.heap.size) (hrec : ∀ (N : Nat) (ad K len : Nat → Nat) (σ : SG) (ρ : RG) (v3 : Int32) (H : Heap) (locs : List Loc) (cells slots : Nat) (ls : Array Slot), cells ≤ c1 → slots ≤ s1 → rec N K len σ ρ v3 = some () → Lay N K len ρ → RC N ρ → Cx Y D N ad p s m #[Value.ref b] meth c cL_law 4 ret RL wsL_law → WP Y D N ad K len σ ρ H → va_S (AA N ad s.heap.size) s.heap H locs → AA N ad s.heap.size = (fun q => s.heap.size ≤ q) → lv_has ls 4 [(0, .ref b), (1, .ref (ad 0)), (2, .ref (ad 54)), (3, .int v3)] → W p l e room_1 s m #[Value.ref b] below meth c H locs cells slots (lw_Z below #[Value.ref b] s) (F0 m 18 ls [])) {N : Nat} {ad K len : Nat → Nat} {σ : SG} {ρ : RG} {v3 : Int32} {H : Heap} {locs : List Loc} {cells slots : Nat} {ls : Array Slot} (hc1 : c1 ≤ 600000) (hs1 : s1 ≤ 7302250) (hcc : cells + 14 ≤ c1) (hss : slots + 90 ≤ s1) (hF : F_L_984 xs L rec N K len σ ρ v3 = some ()) (hL : Lay N K len ρ) (hR : RC N ρ) (C : Cx Y D N ad p s m #[Value.ref b] meth c cL_law 4 ret RL wsL_law) (hP : WP Y D N ad K len σ ρ H) (hS : va_S (AA N ad s.heap.size) s.heap H locs) (hAQ : AA N ad s.heap.size = (fun q => s.heap.size ≤ q)) (hl : lv_has ls 4 [(0, .ref b), (1, .ref (ad 0)), (2, .ref (ad 54)), (3, .int v3)]) : W p l e room_1 s m #[Value.ref b] below meth c H locs cells slots (lw_Z below #[Value.ref b] s) (F0 m 984 ls []) := by
  have hx := C.1.1
  have hb := C.1.2.1
  have hbA : ¬ AA N ad s.heap.size b := by rw [hAQ]; exact Nat.not_le.mpr hbl
  unfold F_L_984 at hF
  refine lv_aload_n hx hb dL_law_984 rfl (lv_at hl 1 rfl) ?_
  refine lv_aload_n hx hb dL_law_985 rfl (lv_at hl 0 rfl) ?_
  refine lv_iload_n hx hb dL_law_986 rfl (lv_at hl 3 rfl) ?_
  refine lv_iconst (v := 1) hx hb dL_law_987 (by decide) ?_
  refine lv_iadd hx hb dL_law_988 ?_
  obtain ⟨x1, ex1, hF⟩ := nm_1 hF
  refine x_top ex1 ?_
  obtain ⟨g2, hF⟩ := gd_1 hF
  refine va_sld hx hb hX hbl hbA hS (inb_in g2) dL_law_989 ?_
  obtain ⟨r3, σ3, hq3, hF⟩ := bn2_1 hF
  refine x_callV (ci := 11) rfl rfl C hP hS (c_X11_rows hL hq3) (lr_0 hL) (lk_0 hL) (cwV 1 C.1.2.2.2.2 (gdV mw_934 mw_935 mw_936 mw_2 mw_937) rfl rfl rfl hd_X11_rows ⟨(Nat.le_of_ble_eq_true rfl), (Nat.le_of_ble_eq_true rfl)⟩) rfl rfl hl.1 (Nat.le_of_ble_eq_true rfl) ⟨by show _ ≤ 600000; omega, by show _ ≤ 7302250; omega⟩ dL_law_990 (fun H locs hP hS => ?_)
  refine lv_pop hx hb dL_law_993 rfl ?_
  refine lv_aload_n hx hb dL_law_994 rfl (lv_at hl 2 rfl) ?_
  refine lv_aload_n hx hb dL_law_995 rfl (lv_at hl 0 rfl) ?_
  refine lv_iload_n hx hb dL_law_996 rfl (lv_at hl 3 rfl) ?_
  refine lv_iconst (v := 1) hx hb dL_law_997 (by decide) ?_
  refine lv_iadd hx hb dL_law_998 ?_
  obtain ⟨x4, ex4, hF⟩ := nm_1 hF
  refine x_top ex4 ?_
  obtain ⟨g5, hF⟩ := gd_1 hF
  refine va_sld hx hb hX hbl hbA hS (inb_in g5) dL_law_999 ?_
  obtain ⟨r6, σ6, hq6, hF⟩ := bn2_1 hF
  refine x_callV (ci := 12) rfl rfl C hP hS (c_X12_rows hL hq6) (lr_54 hL) (lk_54 hL) (cwV 1 C.1.2.2.2.2 (gdV mw_942 mw_943 mw_944 mw_5 mw_945) rfl rfl rfl hd_X12_rows ⟨(Nat.le_of_ble_eq_true rfl), (Nat.le_of_ble_eq_true rfl)⟩) rfl rfl hl.1 (Nat.le_of_ble_eq_true rfl) ⟨by show _ ≤ 600000; omega, by show _ ≤ 7302250; omega⟩ dL_law_1000 (fun H locs hP hS => ?_)
  refine lv_pop hx hb dL_law_1003 rfl ?_
  refine lv_goto (tgt := 1257) hx hb dL_law_1004 (by decide) ?_
  obtain ⟨x7, ex7, hF⟩ := nm_1 hF
  refine lv_iinc (v := x7) (lv' := [(3, .int x7), (0, .ref b), (1, .ref (ad 0)), (2, .ref (ad 54))]) hx hb dL_law_1257 hl (k := 3) rfl (by rw [ex7]; first | rfl | decide) (by decide) rfl (fun ls hl => ?_)
  refine lv_goto (tgt := 18) hx hb dL_law_1260 (by decide) ?_
  exact hrec _ _ _ _ _ _ _ _ _ _ _ _ (by omega) (by omega) hF hL hR C hP hS hAQ (lv_sub hl [1, 2, 3, 0] rfl)
def F_L_1007 (xs : Nat → Int32) (L : Nat) (rec : Nat → (Nat → Nat) → (Nat → Nat) → SG → RG → Int32 → Option Unit) (N : Nat) (K len : Nat → Nat) (σ : SG) (ρ : RG) (v3 : Int32) : Option Unit :=
  nm (v3 + (1 : Int32)) fun x1 =>
  gd (inb x1 L) <|
  nm (v3 + (2 : Int32)) fun x3 =>
  gd (inb x3 L) <|
  bn2 (F_X11_odds N K len (xs (x1).toNatClampNeg) (xs (x3).toNatClampNeg) σ ρ) fun r5 σ5 =>
  nm (v3 + (1 : Int32)) fun x6 =>
  gd (inb x6 L) <|
  nm (v3 + (2 : Int32)) fun x8 =>
  gd (inb x8 L) <|
  bn2 (F_X12_odds (xs (x6).toNatClampNeg) (xs (x8).toNatClampNeg) σ5 ρ) fun r10 σ10 =>
  nm (v3 + (6 : Int32)) fun x11 =>
  rec N K len σ10 ρ x11
set_option maxHeartbeats 4000000 in
set_option maxRecDepth 100000 in
theorem wl_1007 {p : Program} {e : Env} {s : State} {m : MethodId} {below : List Frame} {meth : Method} {c : Code} {b L : Nat} {xs : Nat → Int32} {rec : Nat → (Nat → Nat) → (Nat → Nat) → SG → RG → Int32 → Option Unit} {c1 s1 : Nat} (hX : va_X b L xs s s.heap) (hbl : b < s.heap.size) (hrec : ∀ (N : Nat) (ad K len : Nat → Nat) (σ : SG) (ρ : RG) (v3 : Int32) (H : Heap) (locs : List Loc) (cells slots : Nat) (ls : Array Slot), cells ≤ c1 → slots ≤ s1 → rec N K len σ ρ v3 = some () → Lay N K len ρ → RC N ρ → Cx Y D N ad p s m #[Value.ref b] meth c cL_law 4 ret RL wsL_law → WP Y D N ad K len σ ρ H → va_S (AA N ad s.heap.size) s.heap H locs → AA N ad s.heap.size = (fun q => s.heap.size ≤ q) → lv_has ls 4 [(0, .ref b), (1, .ref (ad 0)), (2, .ref (ad 54)), (3, .int v3)] → W p l e room_1 s m #[Value.ref b] below meth c H locs cells slots (lw_Z below #[Value.ref b] s) (F0 m 18 ls [])) {N : Nat} {ad K len : Nat → Nat} {σ : SG} {ρ : RG} {v3 : Int32} {H : Heap} {locs : List Loc} {cells slots : Nat} {ls : Array Slot} (hc1 : c1 ≤ 600000) (hs1 : s1 ≤ 7302250) (hcc : cells + 14 ≤ c1) (hss : slots + 90 ≤ s1) (hF : F_L_1007 xs L rec N K len σ ρ v3 = some ()) (hL : Lay N K len ρ) (hR : RC N ρ) (C : Cx Y D N ad p s m #[Value.ref b] meth c cL_law 4 ret RL wsL_law) (hP : WP Y D N ad K len σ ρ H) (hS : va_S (AA N ad s.heap.size) s.heap H locs) (hAQ : AA N ad s.heap.size = (fun q => s.heap.size ≤ q)) (hl : lv_has ls 4 [(0, .ref b), (1, .ref (ad 0)), (2, .ref (ad 54)), (3, .int v3)]) : W p l e room_1 s m #[Value.ref b] below meth c H locs cells slots (lw_Z below #[Value.ref b] s) (F0 m 1007 ls []) := by
  have hx := C.1.1
  have hb := C.1.2.1
  have hbA : ¬ AA N ad s.heap.size b := by rw [hAQ]; exact Nat.not_le.mpr hbl
  unfold F_L_1007 at hF
  refine lv_aload_n hx hb dL_law_1007 rfl (lv_at hl 1 rfl) ?_
  refine lv_aload_n hx hb dL_law_1008 rfl (lv_at hl 0 rfl) ?_
  refine lv_iload_n hx hb dL_law_1009 rfl (lv_at hl 3 rfl) ?_
  refine lv_iconst (v := 1) hx hb dL_law_1010 (by decide) ?_
  refine lv_iadd hx hb dL_law_1011 ?_
  obtain ⟨x1, ex1, hF⟩ := nm_1 hF
  refine x_top ex1 ?_
  obtain ⟨g2, hF⟩ := gd_1 hF
  refine va_sld hx hb hX hbl hbA hS (inb_in g2) dL_law_1012 ?_
  refine lv_aload_n hx hb dL_law_1013 rfl (lv_at hl 0 rfl) ?_
  refine lv_iload_n hx hb dL_law_1014 rfl (lv_at hl 3 rfl) ?_
  refine lv_iconst (v := 2) hx hb dL_law_1015 (by decide) ?_
  refine lv_iadd hx hb dL_law_1016 ?_
  obtain ⟨x3, ex3, hF⟩ := nm_1 hF
  refine x_top ex3 ?_
  obtain ⟨g4, hF⟩ := gd_1 hF
  refine va_sld hx hb hX hbl hbA hS (inb_in g4) dL_law_1017 ?_
  obtain ⟨r5, σ5, hq5, hF⟩ := bn2_1 hF
  refine x_callV (ci := 11) rfl rfl C hP hS (c_X11_odds hL hq5) (lr_0 hL) (lk_0 hL) (cwV 2 C.1.2.2.2.2 (gdV mw_951 mw_952 mw_953 mw_2 mw_954) rfl rfl rfl hd_X11_odds ⟨(Nat.le_of_ble_eq_true rfl), (Nat.le_of_ble_eq_true rfl)⟩) rfl rfl hl.1 (Nat.le_of_ble_eq_true rfl) ⟨by show _ ≤ 600000; omega, by show _ ≤ 7302250; omega⟩ dL_law_1018 (fun H locs hP hS => ?_)
  refine lv_pop2_2 hx hb dL_law_1021 rfl ?_
  refine lv_aload_n hx hb dL_law_1022 rfl (lv_at hl 2 rfl) ?_
  refine lv_aload_n hx hb dL_law_1023 rfl (lv_at hl 0 rfl) ?_
  refine lv_iload_n hx hb dL_law_1024 rfl (lv_at hl 3 rfl) ?_
  refine lv_iconst (v := 1) hx hb dL_law_1025 (by decide) ?_
  refine lv_iadd hx hb dL_law_1026 ?_
  obtain ⟨x6, ex6, hF⟩ := nm_1 hF
  refine x_top ex6 ?_
  obtain ⟨g7, hF⟩ := gd_1 hF
  refine va_sld hx hb hX hbl hbA hS (inb_in g7) dL_law_1027 ?_
  refine lv_aload_n hx hb dL_law_1028 rfl (lv_at hl 0 rfl) ?_
  refine lv_iload_n hx hb dL_law_1029 rfl (lv_at hl 3 rfl) ?_
  refine lv_iconst (v := 2) hx hb dL_law_1030 (by decide) ?_
  refine lv_iadd hx hb dL_law_1031 ?_
  obtain ⟨x8, ex8, hF⟩ := nm_1 hF
  refine x_top ex8 ?_
  obtain ⟨g9, hF⟩ := gd_1 hF
  refine va_sld hx hb hX hbl hbA hS (inb_in g9) dL_law_1032 ?_
  obtain ⟨r10, σ10, hq10, hF⟩ := bn2_1 hF
  refine x_callV (ci := 12) rfl rfl C hP hS (c_X12_odds hL hq10) (lr_54 hL) (lk_54 hL) (cwV 2 C.1.2.2.2.2 (gdV mw_963 mw_964 mw_965 mw_5 mw_966) rfl rfl rfl hd_X12_odds ⟨(Nat.le_of_ble_eq_true rfl), (Nat.le_of_ble_eq_true rfl)⟩) rfl rfl hl.1 (Nat.le_of_ble_eq_true rfl) ⟨by show _ ≤ 600000; omega, by show _ ≤ 7302250; omega⟩ dL_law_1033 (fun H locs hP hS => ?_)
  refine lv_pop2_2 hx hb dL_law_1036 rfl ?_
  refine lv_goto (tgt := 1257) hx hb dL_law_1037 (by decide) ?_
  obtain ⟨x11, ex11, hF⟩ := nm_1 hF
  refine lv_iinc (v := x11) (lv' := [(3, .int x11), (0, .ref b), (1, .ref (ad 0)), (2, .ref (ad 54))]) hx hb dL_law_1257 hl (k := 3) rfl (by rw [ex11]; first | rfl | decide) (by decide) rfl (fun ls hl => ?_)
  refine lv_goto (tgt := 18) hx hb dL_law_1260 (by decide) ?_
  exact hrec _ _ _ _ _ _ _ _ _ _ _ _ (by omega) (by omega) hF hL hR C hP hS hAQ (lv_sub hl [1, 2, 3, 0] rfl)
def F_L_1040 (xs : Nat → Int32) (L : Nat) (rec : Nat → (Nat → Nat) → (Nat → Nat) → SG → RG → Int32 → Option Unit) (N : Nat) (K len : Nat → Nat) (σ : SG) (ρ : RG) (v3 : Int32) : Option Unit :=
  nm (v3 + (1 : Int32)) fun x1 =>
  gd (inb x1 L) <|
  bn2 (F_X11_mean N K len (xs (x1).toNatClampNeg) σ ρ) fun r3 σ3 =>
  nm (v3 + (1 : Int32)) fun x4 =>
  gd (inb x4 L) <|
  bn2 (F_X12_mean (xs (x4).toNatClampNeg) σ3 ρ) fun r6 σ6 =>
  nm (v3 + (6 : Int32)) fun x7 =>
  rec N K len σ6 ρ x7
set_option maxHeartbeats 4000000 in
set_option maxRecDepth 100000 in
theorem wl_1040 {p : Program} {e : Env} {s : State} {m : MethodId} {below : List Frame} {meth : Method} {c : Code} {b L : Nat} {xs : Nat → Int32} {rec : Nat → (Nat → Nat) → (Nat → Nat) → SG → RG → Int32 → Option Unit} {c1 s1 : Nat} (hX : va_X b L xs s s.heap) (hbl : b < s.heap.size) (hrec : ∀ (N : Nat) (ad K len : Nat → Nat) (σ : SG) (ρ : RG) (v3 : Int32) (H : Heap) (locs : List Loc) (cells slots : Nat) (ls : Array Slot), cells ≤ c1 → slots ≤ s1 → rec N K len σ ρ v3 = some () → Lay N K len ρ → RC N ρ → Cx Y D N ad p s m #[Value.ref b] meth c cL_law 4 ret RL wsL_law → WP Y D N ad K len σ ρ H → va_S (AA N ad s.heap.size) s.heap H locs → AA N ad s.heap.size = (fun q => s.heap.size ≤ q) → lv_has ls 4 [(0, .ref b), (1, .ref (ad 0)), (2, .ref (ad 54)), (3, .int v3)] → W p l e room_1 s m #[Value.ref b] below meth c H locs cells slots (lw_Z below #[Value.ref b] s) (F0 m 18 ls [])) {N : Nat} {ad K len : Nat → Nat} {σ : SG} {ρ : RG} {v3 : Int32} {H : Heap} {locs : List Loc} {cells slots : Nat} {ls : Array Slot} (hc1 : c1 ≤ 600000) (hs1 : s1 ≤ 7302250) (hcc : cells + 14 ≤ c1) (hss : slots + 90 ≤ s1) (hF : F_L_1040 xs L rec N K len σ ρ v3 = some ()) (hL : Lay N K len ρ) (hR : RC N ρ) (C : Cx Y D N ad p s m #[Value.ref b] meth c cL_law 4 ret RL wsL_law) (hP : WP Y D N ad K len σ ρ H) (hS : va_S (AA N ad s.heap.size) s.heap H locs) (hAQ : AA N ad s.heap.size = (fun q => s.heap.size ≤ q)) (hl : lv_has ls 4 [(0, .ref b), (1, .ref (ad 0)), (2, .ref (ad 54)), (3, .int v3)]) : W p l e room_1 s m #[Value.ref b] below meth c H locs cells slots (lw_Z below #[Value.ref b] s) (F0 m 1040 ls []) := by
  have hx := C.1.1
  have hb := C.1.2.1
  have hbA : ¬ AA N ad s.heap.size b := by rw [hAQ]; exact Nat.not_le.mpr hbl
  unfold F_L_1040 at hF
  refine lv_aload_n hx hb dL_law_1040 rfl (lv_at hl 1 rfl) ?_
  refine lv_aload_n hx hb dL_law_1041 rfl (lv_at hl 0 rfl) ?_
  refine lv_iload_n hx hb dL_law_1042 rfl (lv_at hl 3 rfl) ?_
  refine lv_iconst (v := 1) hx hb dL_law_1043 (by decide) ?_
  refine lv_iadd hx hb dL_law_1044 ?_
  obtain ⟨x1, ex1, hF⟩ := nm_1 hF
  refine x_top ex1 ?_
  obtain ⟨g2, hF⟩ := gd_1 hF
  refine va_sld hx hb hX hbl hbA hS (inb_in g2) dL_law_1045 ?_
  obtain ⟨r3, σ3, hq3, hF⟩ := bn2_1 hF
  refine x_callV (ci := 11) rfl rfl C hP hS (c_X11_mean hL hq3) (lr_0 hL) (lk_0 hL) (cwV 1 C.1.2.2.2.2 (gdV mw_975 mw_976 mw_977 mw_2 mw_978) rfl rfl rfl hd_X11_mean ⟨(Nat.le_of_ble_eq_true rfl), (Nat.le_of_ble_eq_true rfl)⟩) rfl rfl hl.1 (Nat.le_of_ble_eq_true rfl) ⟨by show _ ≤ 600000; omega, by show _ ≤ 7302250; omega⟩ dL_law_1046 (fun H locs hP hS => ?_)
  refine lv_pop2_2 hx hb dL_law_1049 rfl ?_
  refine lv_aload_n hx hb dL_law_1050 rfl (lv_at hl 2 rfl) ?_
  refine lv_aload_n hx hb dL_law_1051 rfl (lv_at hl 0 rfl) ?_
  refine lv_iload_n hx hb dL_law_1052 rfl (lv_at hl 3 rfl) ?_
  refine lv_iconst (v := 1) hx hb dL_law_1053 (by decide) ?_
  refine lv_iadd hx hb dL_law_1054 ?_
  obtain ⟨x4, ex4, hF⟩ := nm_1 hF
  refine x_top ex4 ?_
  obtain ⟨g5, hF⟩ := gd_1 hF
  refine va_sld hx hb hX hbl hbA hS (inb_in g5) dL_law_1055 ?_
  obtain ⟨r6, σ6, hq6, hF⟩ := bn2_1 hF
  refine x_callV (ci := 12) rfl rfl C hP hS (c_X12_mean hL hq6) (lr_54 hL) (lk_54 hL) (cwV 1 C.1.2.2.2.2 (gdV mw_979 mw_980 mw_981 mw_5 mw_982) rfl rfl rfl hd_X12_mean ⟨(Nat.le_of_ble_eq_true rfl), (Nat.le_of_ble_eq_true rfl)⟩) rfl rfl hl.1 (Nat.le_of_ble_eq_true rfl) ⟨by show _ ≤ 600000; omega, by show _ ≤ 7302250; omega⟩ dL_law_1056 (fun H locs hP hS => ?_)
  refine lv_pop2_2 hx hb dL_law_1059 rfl ?_
  refine lv_goto (tgt := 1257) hx hb dL_law_1060 (by decide) ?_
  obtain ⟨x7, ex7, hF⟩ := nm_1 hF
  refine lv_iinc (v := x7) (lv' := [(3, .int x7), (0, .ref b), (1, .ref (ad 0)), (2, .ref (ad 54))]) hx hb dL_law_1257 hl (k := 3) rfl (by rw [ex7]; first | rfl | decide) (by decide) rfl (fun ls hl => ?_)
  refine lv_goto (tgt := 18) hx hb dL_law_1260 (by decide) ?_
  exact hrec _ _ _ _ _ _ _ _ _ _ _ _ (by omega) (by omega) hF hL hR C hP hS hAQ (lv_sub hl [1, 2, 3, 0] rfl)
def F_L_1063 (xs : Nat → Int32) (L : Nat) (rec : Nat → (Nat → Nat) → (Nat → Nat) → SG → RG → Int32 → Option Unit) (N : Nat) (K len : Nat → Nat) (σ : SG) (ρ : RG) (v3 : Int32) : Option Unit :=
  nm (v3 + (1 : Int32)) fun x1 =>
  gd (inb x1 L) <|
  nm (v3 + (2 : Int32)) fun x3 =>
  gd (inb x3 L) <|
  bn2 (F_X11_book N K len (xs (x1).toNatClampNeg) (xs (x3).toNatClampNeg) σ ρ) fun r5 σ5 =>
  nm (v3 + (1 : Int32)) fun x6 =>
  gd (inb x6 L) <|
  nm (v3 + (2 : Int32)) fun x8 =>
  gd (inb x8 L) <|
  bn2 (F_X12_book (xs (x6).toNatClampNeg) (xs (x8).toNatClampNeg) σ5 ρ) fun r10 σ10 =>
  nm (v3 + (6 : Int32)) fun x11 =>
  rec N K len σ10 ρ x11
set_option maxHeartbeats 4000000 in
set_option maxRecDepth 100000 in
theorem wl_1063 {p : Program} {e : Env} {s : State} {m : MethodId} {below : List Frame} {meth : Method} {c : Code} {b L : Nat} {xs : Nat → Int32} {rec : Nat → (Nat → Nat) → (Nat → Nat) → SG → RG → Int32 → Option Unit} {c1 s1 : Nat} (hX : va_X b L xs s s.heap) (hbl : b < s.heap.size) (hrec : ∀ (N : Nat) (ad K len : Nat → Nat) (σ : SG) (ρ : RG) (v3 : Int32) (H : Heap) (locs : List Loc) (cells slots : Nat) (ls : Array Slot), cells ≤ c1 → slots ≤ s1 → rec N K len σ ρ v3 = some () → Lay N K len ρ → RC N ρ → Cx Y D N ad p s m #[Value.ref b] meth c cL_law 4 ret RL wsL_law → WP Y D N ad K len σ ρ H → va_S (AA N ad s.heap.size) s.heap H locs → AA N ad s.heap.size = (fun q => s.heap.size ≤ q) → lv_has ls 4 [(0, .ref b), (1, .ref (ad 0)), (2, .ref (ad 54)), (3, .int v3)] → W p l e room_1 s m #[Value.ref b] below meth c H locs cells slots (lw_Z below #[Value.ref b] s) (F0 m 18 ls [])) {N : Nat} {ad K len : Nat → Nat} {σ : SG} {ρ : RG} {v3 : Int32} {H : Heap} {locs : List Loc} {cells slots : Nat} {ls : Array Slot} (hc1 : c1 ≤ 600000) (hs1 : s1 ≤ 7302250) (hcc : cells + 14 ≤ c1) (hss : slots + 90 ≤ s1) (hF : F_L_1063 xs L rec N K len σ ρ v3 = some ()) (hL : Lay N K len ρ) (hR : RC N ρ) (C : Cx Y D N ad p s m #[Value.ref b] meth c cL_law 4 ret RL wsL_law) (hP : WP Y D N ad K len σ ρ H) (hS : va_S (AA N ad s.heap.size) s.heap H locs) (hAQ : AA N ad s.heap.size = (fun q => s.heap.size ≤ q)) (hl : lv_has ls 4 [(0, .ref b), (1, .ref (ad 0)), (2, .ref (ad 54)), (3, .int v3)]) : W p l e room_1 s m #[Value.ref b] below meth c H locs cells slots (lw_Z below #[Value.ref b] s) (F0 m 1063 ls []) := by
  have hx := C.1.1
  have hb := C.1.2.1
  have hbA : ¬ AA N ad s.heap.size b := by rw [hAQ]; exact Nat.not_le.mpr hbl
  unfold F_L_1063 at hF
  refine lv_aload_n hx hb dL_law_1063 rfl (lv_at hl 1 rfl) ?_
  refine lv_aload_n hx hb dL_law_1064 rfl (lv_at hl 0 rfl) ?_
  refine lv_iload_n hx hb dL_law_1065 rfl (lv_at hl 3 rfl) ?_
  refine lv_iconst (v := 1) hx hb dL_law_1066 (by decide) ?_
  refine lv_iadd hx hb dL_law_1067 ?_
  obtain ⟨x1, ex1, hF⟩ := nm_1 hF
  refine x_top ex1 ?_
  obtain ⟨g2, hF⟩ := gd_1 hF
  refine va_sld hx hb hX hbl hbA hS (inb_in g2) dL_law_1068 ?_
  refine lv_aload_n hx hb dL_law_1069 rfl (lv_at hl 0 rfl) ?_
  refine lv_iload_n hx hb dL_law_1070 rfl (lv_at hl 3 rfl) ?_
  refine lv_iconst (v := 2) hx hb dL_law_1071 (by decide) ?_
  refine lv_iadd hx hb dL_law_1072 ?_
  obtain ⟨x3, ex3, hF⟩ := nm_1 hF
  refine x_top ex3 ?_
  obtain ⟨g4, hF⟩ := gd_1 hF
  refine va_sld hx hb hX hbl hbA hS (inb_in g4) dL_law_1073 ?_
  obtain ⟨r5, σ5, hq5, hF⟩ := bn2_1 hF
  refine x_callV (ci := 11) rfl rfl C hP hS (c_X11_book hL hq5) (lr_0 hL) (lk_0 hL) (cwV 2 C.1.2.2.2.2 (gdV mw_983 mw_984 mw_985 mw_2 mw_986) rfl rfl rfl hd_X11_book ⟨(Nat.le_of_ble_eq_true rfl), (Nat.le_of_ble_eq_true rfl)⟩) rfl rfl hl.1 (Nat.le_of_ble_eq_true rfl) ⟨by show _ ≤ 600000; omega, by show _ ≤ 7302250; omega⟩ dL_law_1074 (fun H locs hP hS => ?_)
  refine lv_pop hx hb dL_law_1077 rfl ?_
  refine lv_aload_n hx hb dL_law_1078 rfl (lv_at hl 2 rfl) ?_
  refine lv_aload_n hx hb dL_law_1079 rfl (lv_at hl 0 rfl) ?_
  refine lv_iload_n hx hb dL_law_1080 rfl (lv_at hl 3 rfl) ?_
  refine lv_iconst (v := 1) hx hb dL_law_1081 (by decide) ?_
  refine lv_iadd hx hb dL_law_1082 ?_
  obtain ⟨x6, ex6, hF⟩ := nm_1 hF
  refine x_top ex6 ?_
  obtain ⟨g7, hF⟩ := gd_1 hF
  refine va_sld hx hb hX hbl hbA hS (inb_in g7) dL_law_1083 ?_
  refine lv_aload_n hx hb dL_law_1084 rfl (lv_at hl 0 rfl) ?_
  refine lv_iload_n hx hb dL_law_1085 rfl (lv_at hl 3 rfl) ?_
  refine lv_iconst (v := 2) hx hb dL_law_1086 (by decide) ?_
  refine lv_iadd hx hb dL_law_1087 ?_
  obtain ⟨x8, ex8, hF⟩ := nm_1 hF
  refine x_top ex8 ?_
  obtain ⟨g9, hF⟩ := gd_1 hF
  refine va_sld hx hb hX hbl hbA hS (inb_in g9) dL_law_1088 ?_
  obtain ⟨r10, σ10, hq10, hF⟩ := bn2_1 hF
  refine x_callV (ci := 12) rfl rfl C hP hS (c_X12_book hL hq10) (lr_54 hL) (lk_54 hL) (cwV 2 C.1.2.2.2.2 (gdV mw_990 mw_991 mw_992 mw_5 mw_993) rfl rfl rfl hd_X12_book ⟨(Nat.le_of_ble_eq_true rfl), (Nat.le_of_ble_eq_true rfl)⟩) rfl rfl hl.1 (Nat.le_of_ble_eq_true rfl) ⟨by show _ ≤ 600000; omega, by show _ ≤ 7302250; omega⟩ dL_law_1089 (fun H locs hP hS => ?_)
  refine lv_pop hx hb dL_law_1092 rfl ?_
  refine lv_goto (tgt := 1257) hx hb dL_law_1093 (by decide) ?_
  obtain ⟨x11, ex11, hF⟩ := nm_1 hF
  refine lv_iinc (v := x11) (lv' := [(3, .int x11), (0, .ref b), (1, .ref (ad 0)), (2, .ref (ad 54))]) hx hb dL_law_1257 hl (k := 3) rfl (by rw [ex11]; first | rfl | decide) (by decide) rfl (fun ls hl => ?_)
  refine lv_goto (tgt := 18) hx hb dL_law_1260 (by decide) ?_
  exact hrec _ _ _ _ _ _ _ _ _ _ _ _ (by omega) (by omega) hF hL hR C hP hS hAQ (lv_sub hl [1, 2, 3, 0] rfl)
def F_L_1096 (xs : Nat → Int32) (L : Nat) (rec : Nat → (Nat → Nat) → (Nat → Nat) → SG → RG → Int32 → Option Unit) (N : Nat) (K len : Nat → Nat) (σ : SG) (ρ : RG) (v3 : Int32) : Option Unit :=
  bn2 (F_X11_looked N K len σ ρ) fun r1 σ1 =>
  bn2 (F_X12_looked σ1 ρ) fun r2 σ2 =>
  if r1 = r2 then
    nm (v3 + (6 : Int32)) fun x4 =>
    rec N K len σ2 ρ x4
  else
    none /- none: 1108: false -/
set_option maxHeartbeats 4000000 in
set_option maxRecDepth 100000 in
theorem wl_1096 {p : Program} {e : Env} {s : State} {m : MethodId} {below : List Frame} {meth : Method} {c : Code} {b L : Nat} {xs : Nat → Int32} {rec : Nat → (Nat → Nat) → (Nat → Nat) → SG → RG → Int32 → Option Unit} {c1 s1 : Nat} (hX : va_X b L xs s s.heap) (hbl : b < s.heap.size) (hrec : ∀ (N : Nat) (ad K len : Nat → Nat) (σ : SG) (ρ : RG) (v3 : Int32) (H : Heap) (locs : List Loc) (cells slots : Nat) (ls : Array Slot), cells ≤ c1 → slots ≤ s1 → rec N K len σ ρ v3 = some () → Lay N K len ρ → RC N ρ → Cx Y D N ad p s m #[Value.ref b] meth c cL_law 4 ret RL wsL_law → WP Y D N ad K len σ ρ H → va_S (AA N ad s.heap.size) s.heap H locs → AA N ad s.heap.size = (fun q => s.heap.size ≤ q) → lv_has ls 4 [(0, .ref b), (1, .ref (ad 0)), (2, .ref (ad 54)), (3, .int v3)] → W p l e room_1 s m #[Value.ref b] below meth c H locs cells slots (lw_Z below #[Value.ref b] s) (F0 m 18 ls [])) {N : Nat} {ad K len : Nat → Nat} {σ : SG} {ρ : RG} {v3 : Int32} {H : Heap} {locs : List Loc} {cells slots : Nat} {ls : Array Slot} (hc1 : c1 ≤ 600000) (hs1 : s1 ≤ 7302250) (hcc : cells + 14 ≤ c1) (hss : slots + 90 ≤ s1) (hF : F_L_1096 xs L rec N K len σ ρ v3 = some ()) (hL : Lay N K len ρ) (hR : RC N ρ) (C : Cx Y D N ad p s m #[Value.ref b] meth c cL_law 4 ret RL wsL_law) (hP : WP Y D N ad K len σ ρ H) (hS : va_S (AA N ad s.heap.size) s.heap H locs) (hAQ : AA N ad s.heap.size = (fun q => s.heap.size ≤ q)) (hl : lv_has ls 4 [(0, .ref b), (1, .ref (ad 0)), (2, .ref (ad 54)), (3, .int v3)]) : W p l e room_1 s m #[Value.ref b] below meth c H locs cells slots (lw_Z below #[Value.ref b] s) (F0 m 1096 ls []) := by
  have hx := C.1.1
  have hb := C.1.2.1
  have hbA : ¬ AA N ad s.heap.size b := by rw [hAQ]; exact Nat.not_le.mpr hbl
  unfold F_L_1096 at hF
  refine lv_aload_n hx hb dL_law_1096 rfl (lv_at hl 1 rfl) ?_
  obtain ⟨r1, σ1, hq1, hF⟩ := bn2_1 hF
  refine x_callV (ci := 11) rfl rfl C hP hS (c_X11_looked hL hq1) (lr_0 hL) (lk_0 hL) (cwV 0 C.1.2.2.2.2 (gdV mw_994 mw_995 mw_996 mw_2 mw_997) rfl rfl rfl hd_X11_looked ⟨(Nat.le_of_ble_eq_true rfl), (Nat.le_of_ble_eq_true rfl)⟩) rfl rfl hl.1 (Nat.le_of_ble_eq_true rfl) ⟨by show _ ≤ 600000; omega, by show _ ≤ 7302250; omega⟩ dL_law_1097 (fun H locs hP hS => ?_)
  refine lv_aload_n hx hb dL_law_1100 rfl (lv_at hl 2 rfl) ?_
  obtain ⟨r2, σ2, hq2, hF⟩ := bn2_1 hF
  refine x_callV (ci := 12) rfl rfl C hP hS (c_X12_looked hL hq2) (lr_54 hL) (lk_54 hL) (cwV 0 C.1.2.2.2.2 (gdV mw_998 mw_999 mw_1000 mw_5 mw_1001) rfl rfl rfl hd_X12_looked ⟨(Nat.le_of_ble_eq_true rfl), (Nat.le_of_ble_eq_true rfl)⟩) rfl rfl hl.1 (Nat.le_of_ble_eq_true rfl) ⟨by show _ ≤ 600000; omega, by show _ ≤ 7302250; omega⟩ dL_law_1101 (fun H locs hP hS => ?_)
  refine lv_icmp_eq (tgt := 1257) hx hb dL_law_1104 (by decide) (fun c_3 => ?_) (fun c_3 => ?_) -- COND 3 by_cases c_3 : r1 = r2
  · have hF := ite_t hF c_3
    obtain ⟨x4, ex4, hF⟩ := nm_1 hF
    refine lv_iinc (v := x4) (lv' := [(3, .int x4), (0, .ref b), (1, .ref (ad 0)), (2, .ref (ad 54))]) hx hb dL_law_1257 hl (k := 3) rfl (by rw [ex4]; first | rfl | decide) (by decide) rfl (fun ls hl => ?_)
    refine lv_goto (tgt := 18) hx hb dL_law_1260 (by decide) ?_
    exact hrec _ _ _ _ _ _ _ _ _ _ _ _ (by omega) (by omega) hF hL hR C hP hS hAQ (lv_sub hl [1, 2, 3, 0] rfl)
  · have hF := ite_f hF c_3
    refine lv_iconst (v := 0) hx hb dL_law_1107 (by decide) ?_
    cases hF
def F_L_1109 (xs : Nat → Int32) (L : Nat) (rec : Nat → (Nat → Nat) → (Nat → Nat) → SG → RG → Int32 → Option Unit) (N : Nat) (K len : Nat → Nat) (σ : SG) (ρ : RG) (v3 : Int32) : Option Unit :=
  nm (v3 + (1 : Int32)) fun x1 =>
  gd (inb x1 L) <|
  nm (v3 + (2 : Int32)) fun x3 =>
  gd (inb x3 L) <|
  nm (v3 + (3 : Int32)) fun x5 =>
  gd (inb x5 L) <|
  bn2 (F_X11_act N K len (xs (x1).toNatClampNeg) (xs (x3).toNatClampNeg) (xs (x5).toNatClampNeg) σ ρ) fun r7 σ7 =>
  nm (v3 + (1 : Int32)) fun x8 =>
  gd (inb x8 L) <|
  nm (v3 + (2 : Int32)) fun x10 =>
  gd (inb x10 L) <|
  nm (v3 + (3 : Int32)) fun x12 =>
  gd (inb x12 L) <|
  bn2 (F_X12_act (xs (x8).toNatClampNeg) (xs (x10).toNatClampNeg) (xs (x12).toNatClampNeg) σ7 ρ) fun r14 σ14 =>
  nm (v3 + (6 : Int32)) fun x15 =>
  rec N K len σ14 ρ x15
set_option maxHeartbeats 4000000 in
set_option maxRecDepth 100000 in
theorem wl_1109 {p : Program} {e : Env} {s : State} {m : MethodId} {below : List Frame} {meth : Method} {c : Code} {b L : Nat} {xs : Nat → Int32} {rec : Nat → (Nat → Nat) → (Nat → Nat) → SG → RG → Int32 → Option Unit} {c1 s1 : Nat} (hX : va_X b L xs s s.heap) (hbl : b < s.heap.size) (hrec : ∀ (N : Nat) (ad K len : Nat → Nat) (σ : SG) (ρ : RG) (v3 : Int32) (H : Heap) (locs : List Loc) (cells slots : Nat) (ls : Array Slot), cells ≤ c1 → slots ≤ s1 → rec N K len σ ρ v3 = some () → Lay N K len ρ → RC N ρ → Cx Y D N ad p s m #[Value.ref b] meth c cL_law 4 ret RL wsL_law → WP Y D N ad K len σ ρ H → va_S (AA N ad s.heap.size) s.heap H locs → AA N ad s.heap.size = (fun q => s.heap.size ≤ q) → lv_has ls 4 [(0, .ref b), (1, .ref (ad 0)), (2, .ref (ad 54)), (3, .int v3)] → W p l e room_1 s m #[Value.ref b] below meth c H locs cells slots (lw_Z below #[Value.ref b] s) (F0 m 18 ls [])) {N : Nat} {ad K len : Nat → Nat} {σ : SG} {ρ : RG} {v3 : Int32} {H : Heap} {locs : List Loc} {cells slots : Nat} {ls : Array Slot} (hc1 : c1 ≤ 600000) (hs1 : s1 ≤ 7302250) (hcc : cells + 14 ≤ c1) (hss : slots + 90 ≤ s1) (hF : F_L_1109 xs L rec N K len σ ρ v3 = some ()) (hL : Lay N K len ρ) (hR : RC N ρ) (C : Cx Y D N ad p s m #[Value.ref b] meth c cL_law 4 ret RL wsL_law) (hP : WP Y D N ad K len σ ρ H) (hS : va_S (AA N ad s.heap.size) s.heap H locs) (hAQ : AA N ad s.heap.size = (fun q => s.heap.size ≤ q)) (hl : lv_has ls 4 [(0, .ref b), (1, .ref (ad 0)), (2, .ref (ad 54)), (3, .int v3)]) : W p l e room_1 s m #[Value.ref b] below meth c H locs cells slots (lw_Z below #[Value.ref b] s) (F0 m 1109 ls []) := by
  have hx := C.1.1
  have hb := C.1.2.1
  have hbA : ¬ AA N ad s.heap.size b := by rw [hAQ]; exact Nat.not_le.mpr hbl
  unfold F_L_1109 at hF
  refine lv_aload_n hx hb dL_law_1109 rfl (lv_at hl 1 rfl) ?_
  refine lv_aload_n hx hb dL_law_1110 rfl (lv_at hl 0 rfl) ?_
  refine lv_iload_n hx hb dL_law_1111 rfl (lv_at hl 3 rfl) ?_
  refine lv_iconst (v := 1) hx hb dL_law_1112 (by decide) ?_
  refine lv_iadd hx hb dL_law_1113 ?_
  obtain ⟨x1, ex1, hF⟩ := nm_1 hF
  refine x_top ex1 ?_
  obtain ⟨g2, hF⟩ := gd_1 hF
  refine va_sld hx hb hX hbl hbA hS (inb_in g2) dL_law_1114 ?_
  refine lv_aload_n hx hb dL_law_1115 rfl (lv_at hl 0 rfl) ?_
  refine lv_iload_n hx hb dL_law_1116 rfl (lv_at hl 3 rfl) ?_
  refine lv_iconst (v := 2) hx hb dL_law_1117 (by decide) ?_
  refine lv_iadd hx hb dL_law_1118 ?_
  obtain ⟨x3, ex3, hF⟩ := nm_1 hF
  refine x_top ex3 ?_
  obtain ⟨g4, hF⟩ := gd_1 hF
  refine va_sld hx hb hX hbl hbA hS (inb_in g4) dL_law_1119 ?_
  refine lv_aload_n hx hb dL_law_1120 rfl (lv_at hl 0 rfl) ?_
  refine lv_iload_n hx hb dL_law_1121 rfl (lv_at hl 3 rfl) ?_
  refine lv_iconst (v := 3) hx hb dL_law_1122 (by decide) ?_
  refine lv_iadd hx hb dL_law_1123 ?_
  obtain ⟨x5, ex5, hF⟩ := nm_1 hF
  refine x_top ex5 ?_
  obtain ⟨g6, hF⟩ := gd_1 hF
  refine va_sld hx hb hX hbl hbA hS (inb_in g6) dL_law_1124 ?_
  obtain ⟨r7, σ7, hq7, hF⟩ := bn2_1 hF
  refine x_callV (ci := 11) rfl rfl C hP hS (c_X11_act hL hq7) (lr_0 hL) (lk_0 hL) (cwV 3 C.1.2.2.2.2 (gdV mw_1002 mw_1003 mw_1004 mw_2 mw_1005) rfl rfl rfl hd_X11_act ⟨(Nat.le_of_ble_eq_true rfl), (Nat.le_of_ble_eq_true rfl)⟩) rfl rfl hl.1 (Nat.le_of_ble_eq_true rfl) ⟨by show _ ≤ 600000; omega, by show _ ≤ 7302250; omega⟩ dL_law_1125 (fun H locs hP hS => ?_)
  refine lv_pop hx hb dL_law_1128 rfl ?_
  refine lv_aload_n hx hb dL_law_1129 rfl (lv_at hl 2 rfl) ?_
  refine lv_aload_n hx hb dL_law_1130 rfl (lv_at hl 0 rfl) ?_
  refine lv_iload_n hx hb dL_law_1131 rfl (lv_at hl 3 rfl) ?_
  refine lv_iconst (v := 1) hx hb dL_law_1132 (by decide) ?_
  refine lv_iadd hx hb dL_law_1133 ?_
  obtain ⟨x8, ex8, hF⟩ := nm_1 hF
  refine x_top ex8 ?_
  obtain ⟨g9, hF⟩ := gd_1 hF
  refine va_sld hx hb hX hbl hbA hS (inb_in g9) dL_law_1134 ?_
  refine lv_aload_n hx hb dL_law_1135 rfl (lv_at hl 0 rfl) ?_
  refine lv_iload_n hx hb dL_law_1136 rfl (lv_at hl 3 rfl) ?_
  refine lv_iconst (v := 2) hx hb dL_law_1137 (by decide) ?_
  refine lv_iadd hx hb dL_law_1138 ?_
  obtain ⟨x10, ex10, hF⟩ := nm_1 hF
  refine x_top ex10 ?_
  obtain ⟨g11, hF⟩ := gd_1 hF
  refine va_sld hx hb hX hbl hbA hS (inb_in g11) dL_law_1139 ?_
  refine lv_aload_n hx hb dL_law_1140 rfl (lv_at hl 0 rfl) ?_
  refine lv_iload_n hx hb dL_law_1141 rfl (lv_at hl 3 rfl) ?_
  refine lv_iconst (v := 3) hx hb dL_law_1142 (by decide) ?_
  refine lv_iadd hx hb dL_law_1143 ?_
  obtain ⟨x12, ex12, hF⟩ := nm_1 hF
  refine x_top ex12 ?_
  obtain ⟨g13, hF⟩ := gd_1 hF
  refine va_sld hx hb hX hbl hbA hS (inb_in g13) dL_law_1144 ?_
  obtain ⟨r14, σ14, hq14, hF⟩ := bn2_1 hF
  refine x_callV (ci := 12) rfl rfl C hP hS (c_X12_act hL hq14) (lr_54 hL) (lk_54 hL) (cwV 3 C.1.2.2.2.2 (gdV mw_1086 mw_1087 mw_1088 mw_5 mw_1089) rfl rfl rfl hd_X12_act ⟨(Nat.le_of_ble_eq_true rfl), (Nat.le_of_ble_eq_true rfl)⟩) rfl rfl hl.1 (Nat.le_of_ble_eq_true rfl) ⟨by show _ ≤ 600000; omega, by show _ ≤ 7302250; omega⟩ dL_law_1145 (fun H locs hP hS => ?_)
  refine lv_pop hx hb dL_law_1148 rfl ?_
  refine lv_goto (tgt := 1257) hx hb dL_law_1149 (by decide) ?_
  obtain ⟨x15, ex15, hF⟩ := nm_1 hF
  refine lv_iinc (v := x15) (lv' := [(3, .int x15), (0, .ref b), (1, .ref (ad 0)), (2, .ref (ad 54))]) hx hb dL_law_1257 hl (k := 3) rfl (by rw [ex15]; first | rfl | decide) (by decide) rfl (fun ls hl => ?_)
  refine lv_goto (tgt := 18) hx hb dL_law_1260 (by decide) ?_
  exact hrec _ _ _ _ _ _ _ _ _ _ _ _ (by omega) (by omega) hF hL hR C hP hS hAQ (lv_sub hl [1, 2, 3, 0] rfl)
def F_L_1152 (xs : Nat → Int32) (L : Nat) (rec : Nat → (Nat → Nat) → (Nat → Nat) → SG → RG → Int32 → Option Unit) (N : Nat) (K len : Nat → Nat) (σ : SG) (ρ : RG) (v3 : Int32) : Option Unit :=
  nm (v3 + (1 : Int32)) fun x1 =>
  gd (inb x1 L) <|
  bn (F_X11_trace (xs (x1).toNatClampNeg) σ ρ) fun r3 =>
  nm (v3 + (1 : Int32)) fun x4 =>
  gd (inb x4 L) <|
  bn (F_X12_trace (xs (x4).toNatClampNeg) σ ρ) fun r6 =>
  nm (v3 + (6 : Int32)) fun x7 =>
  rec N K len σ ρ x7
set_option maxHeartbeats 4000000 in
set_option maxRecDepth 100000 in
theorem wl_1152 {p : Program} {e : Env} {s : State} {m : MethodId} {below : List Frame} {meth : Method} {c : Code} {b L : Nat} {xs : Nat → Int32} {rec : Nat → (Nat → Nat) → (Nat → Nat) → SG → RG → Int32 → Option Unit} {c1 s1 : Nat} (hX : va_X b L xs s s.heap) (hbl : b < s.heap.size) (hrec : ∀ (N : Nat) (ad K len : Nat → Nat) (σ : SG) (ρ : RG) (v3 : Int32) (H : Heap) (locs : List Loc) (cells slots : Nat) (ls : Array Slot), cells ≤ c1 → slots ≤ s1 → rec N K len σ ρ v3 = some () → Lay N K len ρ → RC N ρ → Cx Y D N ad p s m #[Value.ref b] meth c cL_law 4 ret RL wsL_law → WP Y D N ad K len σ ρ H → va_S (AA N ad s.heap.size) s.heap H locs → AA N ad s.heap.size = (fun q => s.heap.size ≤ q) → lv_has ls 4 [(0, .ref b), (1, .ref (ad 0)), (2, .ref (ad 54)), (3, .int v3)] → W p l e room_1 s m #[Value.ref b] below meth c H locs cells slots (lw_Z below #[Value.ref b] s) (F0 m 18 ls [])) {N : Nat} {ad K len : Nat → Nat} {σ : SG} {ρ : RG} {v3 : Int32} {H : Heap} {locs : List Loc} {cells slots : Nat} {ls : Array Slot} (hc1 : c1 ≤ 600000) (hs1 : s1 ≤ 7302250) (hcc : cells + 14 ≤ c1) (hss : slots + 90 ≤ s1) (hF : F_L_1152 xs L rec N K len σ ρ v3 = some ()) (hL : Lay N K len ρ) (hR : RC N ρ) (C : Cx Y D N ad p s m #[Value.ref b] meth c cL_law 4 ret RL wsL_law) (hP : WP Y D N ad K len σ ρ H) (hS : va_S (AA N ad s.heap.size) s.heap H locs) (hAQ : AA N ad s.heap.size = (fun q => s.heap.size ≤ q)) (hl : lv_has ls 4 [(0, .ref b), (1, .ref (ad 0)), (2, .ref (ad 54)), (3, .int v3)]) : W p l e room_1 s m #[Value.ref b] below meth c H locs cells slots (lw_Z below #[Value.ref b] s) (F0 m 1152 ls []) := by
  have hx := C.1.1
  have hb := C.1.2.1
  have hbA : ¬ AA N ad s.heap.size b := by rw [hAQ]; exact Nat.not_le.mpr hbl
  unfold F_L_1152 at hF
  refine lv_aload_n hx hb dL_law_1152 rfl (lv_at hl 1 rfl) ?_
  refine lv_aload_n hx hb dL_law_1153 rfl (lv_at hl 0 rfl) ?_
  refine lv_iload_n hx hb dL_law_1154 rfl (lv_at hl 3 rfl) ?_
  refine lv_iconst (v := 1) hx hb dL_law_1155 (by decide) ?_
  refine lv_iadd hx hb dL_law_1156 ?_
  obtain ⟨x1, ex1, hF⟩ := nm_1 hF
  refine x_top ex1 ?_
  obtain ⟨g2, hF⟩ := gd_1 hF
  refine va_sld hx hb hX hbl hbA hS (inb_in g2) dL_law_1157 ?_
  obtain ⟨r3, hq3, hF⟩ := bn_1 hF
  refine x_callV (ci := 11) rfl rfl C hP hS (c_X11_trace hL hq3) (lr_0 hL) (lk_0 hL) (cwV 1 C.1.2.2.2.2 (gdV mw_1125 mw_1126 mw_1127 mw_2 mw_1128) rfl rfl rfl hd_X11_trace ⟨(Nat.le_of_ble_eq_true rfl), (Nat.le_of_ble_eq_true rfl)⟩) rfl rfl hl.1 (Nat.le_of_ble_eq_true rfl) ⟨by show _ ≤ 600000; omega, by show _ ≤ 7302250; omega⟩ dL_law_1158 (fun H locs hP hS => ?_)
  refine lv_pop hx hb dL_law_1161 rfl ?_
  refine lv_aload_n hx hb dL_law_1162 rfl (lv_at hl 2 rfl) ?_
  refine lv_aload_n hx hb dL_law_1163 rfl (lv_at hl 0 rfl) ?_
  refine lv_iload_n hx hb dL_law_1164 rfl (lv_at hl 3 rfl) ?_
  refine lv_iconst (v := 1) hx hb dL_law_1165 (by decide) ?_
  refine lv_iadd hx hb dL_law_1166 ?_
  obtain ⟨x4, ex4, hF⟩ := nm_1 hF
  refine x_top ex4 ?_
  obtain ⟨g5, hF⟩ := gd_1 hF
  refine va_sld hx hb hX hbl hbA hS (inb_in g5) dL_law_1167 ?_
  obtain ⟨r6, hq6, hF⟩ := bn_1 hF
  refine x_callV (ci := 12) rfl rfl C hP hS (c_X12_trace hL hq6) (lr_54 hL) (lk_54 hL) (cwV 1 C.1.2.2.2.2 (gdV mw_1130 mw_1131 mw_1132 mw_5 mw_1133) rfl rfl rfl hd_X12_trace ⟨(Nat.le_of_ble_eq_true rfl), (Nat.le_of_ble_eq_true rfl)⟩) rfl rfl hl.1 (Nat.le_of_ble_eq_true rfl) ⟨by show _ ≤ 600000; omega, by show _ ≤ 7302250; omega⟩ dL_law_1168 (fun H locs hP hS => ?_)
  refine lv_pop hx hb dL_law_1171 rfl ?_
  refine lv_goto (tgt := 1257) hx hb dL_law_1172 (by decide) ?_
  obtain ⟨x7, ex7, hF⟩ := nm_1 hF
  refine lv_iinc (v := x7) (lv' := [(3, .int x7), (0, .ref b), (1, .ref (ad 0)), (2, .ref (ad 54))]) hx hb dL_law_1257 hl (k := 3) rfl (by rw [ex7]; first | rfl | decide) (by decide) rfl (fun ls hl => ?_)
  refine lv_goto (tgt := 18) hx hb dL_law_1260 (by decide) ?_
  exact hrec _ _ _ _ _ _ _ _ _ _ _ _ (by omega) (by omega) hF hL hR C hP hS hAQ (lv_sub hl [1, 2, 3, 0] rfl)
def F_L_1175 (xs : Nat → Int32) (L : Nat) (rec : Nat → (Nat → Nat) → (Nat → Nat) → SG → RG → Int32 → Option Unit) (N : Nat) (K len : Nat → Nat) (σ : SG) (ρ : RG) (v3 : Int32) : Option Unit :=
  nm (v3 + (1 : Int32)) fun x1 =>
  gd (inb x1 L) <|
  nm (v3 + (2 : Int32)) fun x3 =>
  gd (inb x3 L) <|
  bn (F_X11_as N K len (xs (x1).toNatClampNeg) (xs (x3).toNatClampNeg) σ ρ) fun r5 =>
  nm (v3 + (1 : Int32)) fun x6 =>
  gd (inb x6 L) <|
  nm (v3 + (2 : Int32)) fun x8 =>
  gd (inb x8 L) <|
  bn (F_X12_as (xs (x6).toNatClampNeg) (xs (x8).toNatClampNeg) σ ρ) fun r10 =>
  nm (v3 + (6 : Int32)) fun x11 =>
  rec N K len σ ρ x11
set_option maxHeartbeats 4000000 in
set_option maxRecDepth 100000 in
theorem wl_1175 {p : Program} {e : Env} {s : State} {m : MethodId} {below : List Frame} {meth : Method} {c : Code} {b L : Nat} {xs : Nat → Int32} {rec : Nat → (Nat → Nat) → (Nat → Nat) → SG → RG → Int32 → Option Unit} {c1 s1 : Nat} (hX : va_X b L xs s s.heap) (hbl : b < s.heap.size) (hrec : ∀ (N : Nat) (ad K len : Nat → Nat) (σ : SG) (ρ : RG) (v3 : Int32) (H : Heap) (locs : List Loc) (cells slots : Nat) (ls : Array Slot), cells ≤ c1 → slots ≤ s1 → rec N K len σ ρ v3 = some () → Lay N K len ρ → RC N ρ → Cx Y D N ad p s m #[Value.ref b] meth c cL_law 4 ret RL wsL_law → WP Y D N ad K len σ ρ H → va_S (AA N ad s.heap.size) s.heap H locs → AA N ad s.heap.size = (fun q => s.heap.size ≤ q) → lv_has ls 4 [(0, .ref b), (1, .ref (ad 0)), (2, .ref (ad 54)), (3, .int v3)] → W p l e room_1 s m #[Value.ref b] below meth c H locs cells slots (lw_Z below #[Value.ref b] s) (F0 m 18 ls [])) {N : Nat} {ad K len : Nat → Nat} {σ : SG} {ρ : RG} {v3 : Int32} {H : Heap} {locs : List Loc} {cells slots : Nat} {ls : Array Slot} (hc1 : c1 ≤ 600000) (hs1 : s1 ≤ 7302250) (hcc : cells + 14 ≤ c1) (hss : slots + 90 ≤ s1) (hF : F_L_1175 xs L rec N K len σ ρ v3 = some ()) (hL : Lay N K len ρ) (hR : RC N ρ) (C : Cx Y D N ad p s m #[Value.ref b] meth c cL_law 4 ret RL wsL_law) (hP : WP Y D N ad K len σ ρ H) (hS : va_S (AA N ad s.heap.size) s.heap H locs) (hAQ : AA N ad s.heap.size = (fun q => s.heap.size ≤ q)) (hl : lv_has ls 4 [(0, .ref b), (1, .ref (ad 0)), (2, .ref (ad 54)), (3, .int v3)]) : W p l e room_1 s m #[Value.ref b] below meth c H locs cells slots (lw_Z below #[Value.ref b] s) (F0 m 1175 ls []) := by
  have hx := C.1.1
  have hb := C.1.2.1
  have hbA : ¬ AA N ad s.heap.size b := by rw [hAQ]; exact Nat.not_le.mpr hbl
  unfold F_L_1175 at hF
  refine lv_aload_n hx hb dL_law_1175 rfl (lv_at hl 1 rfl) ?_
  refine lv_aload_n hx hb dL_law_1176 rfl (lv_at hl 0 rfl) ?_
  refine lv_iload_n hx hb dL_law_1177 rfl (lv_at hl 3 rfl) ?_
  refine lv_iconst (v := 1) hx hb dL_law_1178 (by decide) ?_
  refine lv_iadd hx hb dL_law_1179 ?_
  obtain ⟨x1, ex1, hF⟩ := nm_1 hF
  refine x_top ex1 ?_
  obtain ⟨g2, hF⟩ := gd_1 hF
  refine va_sld hx hb hX hbl hbA hS (inb_in g2) dL_law_1180 ?_
  refine lv_aload_n hx hb dL_law_1181 rfl (lv_at hl 0 rfl) ?_
  refine lv_iload_n hx hb dL_law_1182 rfl (lv_at hl 3 rfl) ?_
  refine lv_iconst (v := 2) hx hb dL_law_1183 (by decide) ?_
  refine lv_iadd hx hb dL_law_1184 ?_
  obtain ⟨x3, ex3, hF⟩ := nm_1 hF
  refine x_top ex3 ?_
  obtain ⟨g4, hF⟩ := gd_1 hF
  refine va_sld hx hb hX hbl hbA hS (inb_in g4) dL_law_1185 ?_
  obtain ⟨r5, hq5, hF⟩ := bn_1 hF
  refine x_callV (ci := 11) rfl rfl C hP hS (c_X11_as hL hq5) (lr_0 hL) (lk_0 hL) (cwV 2 C.1.2.2.2.2 (gdV mw_1134 mw_1135 mw_1136 mw_2 mw_1137) rfl rfl rfl hd_X11_as ⟨(Nat.le_of_ble_eq_true rfl), (Nat.le_of_ble_eq_true rfl)⟩) rfl rfl hl.1 (Nat.le_of_ble_eq_true rfl) ⟨by show _ ≤ 600000; omega, by show _ ≤ 7302250; omega⟩ dL_law_1186 (fun H locs hP hS => ?_)
  refine lv_pop hx hb dL_law_1189 rfl ?_
  refine lv_aload_n hx hb dL_law_1190 rfl (lv_at hl 2 rfl) ?_
  refine lv_aload_n hx hb dL_law_1191 rfl (lv_at hl 0 rfl) ?_
  refine lv_iload_n hx hb dL_law_1192 rfl (lv_at hl 3 rfl) ?_
  refine lv_iconst (v := 1) hx hb dL_law_1193 (by decide) ?_
  refine lv_iadd hx hb dL_law_1194 ?_
  obtain ⟨x6, ex6, hF⟩ := nm_1 hF
  refine x_top ex6 ?_
  obtain ⟨g7, hF⟩ := gd_1 hF
  refine va_sld hx hb hX hbl hbA hS (inb_in g7) dL_law_1195 ?_
  refine lv_aload_n hx hb dL_law_1196 rfl (lv_at hl 0 rfl) ?_
  refine lv_iload_n hx hb dL_law_1197 rfl (lv_at hl 3 rfl) ?_
  refine lv_iconst (v := 2) hx hb dL_law_1198 (by decide) ?_
  refine lv_iadd hx hb dL_law_1199 ?_
  obtain ⟨x8, ex8, hF⟩ := nm_1 hF
  refine x_top ex8 ?_
  obtain ⟨g9, hF⟩ := gd_1 hF
  refine va_sld hx hb hX hbl hbA hS (inb_in g9) dL_law_1200 ?_
  obtain ⟨r10, hq10, hF⟩ := bn_1 hF
  refine x_callV (ci := 12) rfl rfl C hP hS (c_X12_as hL hq10) (lr_54 hL) (lk_54 hL) (cwV 2 C.1.2.2.2.2 (gdV mw_1146 mw_1147 mw_1148 mw_5 mw_1149) rfl rfl rfl hd_X12_as ⟨(Nat.le_of_ble_eq_true rfl), (Nat.le_of_ble_eq_true rfl)⟩) rfl rfl hl.1 (Nat.le_of_ble_eq_true rfl) ⟨by show _ ≤ 600000; omega, by show _ ≤ 7302250; omega⟩ dL_law_1201 (fun H locs hP hS => ?_)
  refine lv_pop hx hb dL_law_1204 rfl ?_
  refine lv_goto (tgt := 1257) hx hb dL_law_1205 (by decide) ?_
  obtain ⟨x11, ex11, hF⟩ := nm_1 hF
  refine lv_iinc (v := x11) (lv' := [(3, .int x11), (0, .ref b), (1, .ref (ad 0)), (2, .ref (ad 54))]) hx hb dL_law_1257 hl (k := 3) rfl (by rw [ex11]; first | rfl | decide) (by decide) rfl (fun ls hl => ?_)
  refine lv_goto (tgt := 18) hx hb dL_law_1260 (by decide) ?_
  exact hrec _ _ _ _ _ _ _ _ _ _ _ _ (by omega) (by omega) hF hL hR C hP hS hAQ (lv_sub hl [1, 2, 3, 0] rfl)
def F_L_1208 (xs : Nat → Int32) (L : Nat) (rec : Nat → (Nat → Nat) → (Nat → Nat) → SG → RG → Int32 → Option Unit) (N : Nat) (K len : Nat → Nat) (σ : SG) (ρ : RG) (v3 : Int32) : Option Unit :=
  bnT (F_X11_image N K len σ ρ) fun r1 N1 K1 L1 σ1 ρ1 =>
  bn2 (F_X12_image σ1 ρ1) fun r2 σ2 =>
  nm (v3 + (6 : Int32)) fun x3 =>
  rec N1 K1 L1 σ2 ρ1 x3
set_option maxHeartbeats 4000000 in
set_option maxRecDepth 100000 in
theorem wl_1208 {p : Program} {e : Env} {s : State} {m : MethodId} {below : List Frame} {meth : Method} {c : Code} {b L : Nat} {xs : Nat → Int32} {rec : Nat → (Nat → Nat) → (Nat → Nat) → SG → RG → Int32 → Option Unit} {c1 s1 : Nat} (hX : va_X b L xs s s.heap) (hbl : b < s.heap.size) (hrec : ∀ (N : Nat) (ad K len : Nat → Nat) (σ : SG) (ρ : RG) (v3 : Int32) (H : Heap) (locs : List Loc) (cells slots : Nat) (ls : Array Slot), cells ≤ c1 → slots ≤ s1 → rec N K len σ ρ v3 = some () → Lay N K len ρ → RC N ρ → Cx Y D N ad p s m #[Value.ref b] meth c cL_law 4 ret RL wsL_law → WP Y D N ad K len σ ρ H → va_S (AA N ad s.heap.size) s.heap H locs → AA N ad s.heap.size = (fun q => s.heap.size ≤ q) → lv_has ls 4 [(0, .ref b), (1, .ref (ad 0)), (2, .ref (ad 54)), (3, .int v3)] → W p l e room_1 s m #[Value.ref b] below meth c H locs cells slots (lw_Z below #[Value.ref b] s) (F0 m 18 ls [])) {N : Nat} {ad K len : Nat → Nat} {σ : SG} {ρ : RG} {v3 : Int32} {H : Heap} {locs : List Loc} {cells slots : Nat} {ls : Array Slot} (hc1 : c1 ≤ 600000) (hs1 : s1 ≤ 7302250) (hcc : cells + 14 ≤ c1) (hss : slots + 90 ≤ s1) (hF : F_L_1208 xs L rec N K len σ ρ v3 = some ()) (hL : Lay N K len ρ) (hR : RC N ρ) (C : Cx Y D N ad p s m #[Value.ref b] meth c cL_law 4 ret RL wsL_law) (hP : WP Y D N ad K len σ ρ H) (hS : va_S (AA N ad s.heap.size) s.heap H locs) (hAQ : AA N ad s.heap.size = (fun q => s.heap.size ≤ q)) (hl : lv_has ls 4 [(0, .ref b), (1, .ref (ad 0)), (2, .ref (ad 54)), (3, .int v3)]) : W p l e room_1 s m #[Value.ref b] below meth c H locs cells slots (lw_Z below #[Value.ref b] s) (F0 m 1208 ls []) := by
  have hx := C.1.1
  have hb := C.1.2.1
  have hbA : ¬ AA N ad s.heap.size b := by rw [hAQ]; exact Nat.not_le.mpr hbl
  unfold F_L_1208 at hF
  refine lv_aload_n hx hb dL_law_1208 rfl (lv_at hl 1 rfl) ?_
  obtain ⟨r1, N1, K1, L1, σ1, ρ1, hq1, hF⟩ := bnT_1 hF
  obtain ⟨hN1, hL1, hR1, hO1⟩ := k_X11_image hL hR hq1
  refine x_callVC (ws := (Cond.code yX11_image cX11_image 1 (some .int) :: wsL_law)) (ci := 11) rfl rfl C hP hS (c_X11_image hL hR hq1) (lr_0 hL) (lk_0 hL) (cwV 0 C.1.2.2.2.2 (gdV mw_1150 mw_1151 mw_1152 mw_2 mw_1153) rfl rfl rfl hd_X11_image ⟨(Nat.le_of_ble_eq_true rfl), (Nat.le_of_ble_eq_true rfl)⟩) rfl rfl hl.1 (Nat.le_of_ble_eq_true rfl) ⟨by show _ ≤ 600000; omega, by show _ ≤ 7302250; omega⟩ dL_law_1209 (fun ad1 H locs hE hA C hP hS => ?_)
  rw [← hE 0 (lr_0 hL)] at hl
  rw [← hE 54 (lr_54 hL)] at hl
  have hAQ := hA.trans hAQ
  have hbA := fun h => hbA (hA ▸ h)
  have hL := hL1
  have hR := hR1
  refine lv_pop hx hb dL_law_1212 rfl ?_
  refine lv_aload_n hx hb dL_law_1213 rfl (lv_at hl 2 rfl) ?_
  obtain ⟨r2, σ2, hq2, hF⟩ := bn2_1 hF
  refine x_callV (ci := 12) rfl rfl C hP hS (c_X12_image hL hq2) (lr_54 hL) (lk_54 hL) (cwV 0 C.1.2.2.2.2 (gdV mw_1200 mw_1201 mw_1202 mw_5 mw_1203) rfl rfl rfl hd_X12_image ⟨(Nat.le_of_ble_eq_true rfl), (Nat.le_of_ble_eq_true rfl)⟩) rfl rfl hl.1 (Nat.le_of_ble_eq_true rfl) ⟨by show _ ≤ 600000; omega, by show _ ≤ 7302250; omega⟩ dL_law_1214 (fun H locs hP hS => ?_)
  refine lv_pop hx hb dL_law_1217 rfl ?_
  refine lv_goto (tgt := 1257) hx hb dL_law_1218 (by decide) ?_
  obtain ⟨x3, ex3, hF⟩ := nm_1 hF
  refine lv_iinc (v := x3) (lv' := [(3, .int x3), (0, .ref b), (1, .ref (ad1 0)), (2, .ref (ad1 54))]) hx hb dL_law_1257 hl (k := 3) rfl (by rw [ex3]; first | rfl | decide) (by decide) rfl (fun ls hl => ?_)
  refine lv_goto (tgt := 18) hx hb dL_law_1260 (by decide) ?_
  exact hrec _ _ _ _ _ _ _ _ _ _ _ _ (by omega) (by omega) hF hL hR C hP hS hAQ (lv_sub hl [1, 2, 3, 0] rfl)
def F_L_1221 (xs : Nat → Int32) (L : Nat) (rec : Nat → (Nat → Nat) → (Nat → Nat) → SG → RG → Int32 → Option Unit) (N : Nat) (K len : Nat → Nat) (σ : SG) (ρ : RG) (v3 : Int32) : Option Unit :=
  bnT (F_X11_undo N K len σ ρ) fun r1 N1 K1 L1 σ1 ρ1 =>
  bn2 (F_X12_undo σ1 ρ1) fun r2 σ2 =>
  nm (v3 + (6 : Int32)) fun x3 =>
  rec N1 K1 L1 σ2 ρ1 x3
set_option maxHeartbeats 4000000 in
set_option maxRecDepth 100000 in
theorem wl_1221 {p : Program} {e : Env} {s : State} {m : MethodId} {below : List Frame} {meth : Method} {c : Code} {b L : Nat} {xs : Nat → Int32} {rec : Nat → (Nat → Nat) → (Nat → Nat) → SG → RG → Int32 → Option Unit} {c1 s1 : Nat} (hX : va_X b L xs s s.heap) (hbl : b < s.heap.size) (hrec : ∀ (N : Nat) (ad K len : Nat → Nat) (σ : SG) (ρ : RG) (v3 : Int32) (H : Heap) (locs : List Loc) (cells slots : Nat) (ls : Array Slot), cells ≤ c1 → slots ≤ s1 → rec N K len σ ρ v3 = some () → Lay N K len ρ → RC N ρ → Cx Y D N ad p s m #[Value.ref b] meth c cL_law 4 ret RL wsL_law → WP Y D N ad K len σ ρ H → va_S (AA N ad s.heap.size) s.heap H locs → AA N ad s.heap.size = (fun q => s.heap.size ≤ q) → lv_has ls 4 [(0, .ref b), (1, .ref (ad 0)), (2, .ref (ad 54)), (3, .int v3)] → W p l e room_1 s m #[Value.ref b] below meth c H locs cells slots (lw_Z below #[Value.ref b] s) (F0 m 18 ls [])) {N : Nat} {ad K len : Nat → Nat} {σ : SG} {ρ : RG} {v3 : Int32} {H : Heap} {locs : List Loc} {cells slots : Nat} {ls : Array Slot} (hc1 : c1 ≤ 600000) (hs1 : s1 ≤ 7302250) (hcc : cells + 14 ≤ c1) (hss : slots + 90 ≤ s1) (hF : F_L_1221 xs L rec N K len σ ρ v3 = some ()) (hL : Lay N K len ρ) (hR : RC N ρ) (C : Cx Y D N ad p s m #[Value.ref b] meth c cL_law 4 ret RL wsL_law) (hP : WP Y D N ad K len σ ρ H) (hS : va_S (AA N ad s.heap.size) s.heap H locs) (hAQ : AA N ad s.heap.size = (fun q => s.heap.size ≤ q)) (hl : lv_has ls 4 [(0, .ref b), (1, .ref (ad 0)), (2, .ref (ad 54)), (3, .int v3)]) : W p l e room_1 s m #[Value.ref b] below meth c H locs cells slots (lw_Z below #[Value.ref b] s) (F0 m 1221 ls []) := by
  have hx := C.1.1
  have hb := C.1.2.1
  have hbA : ¬ AA N ad s.heap.size b := by rw [hAQ]; exact Nat.not_le.mpr hbl
  unfold F_L_1221 at hF
  refine lv_aload_n hx hb dL_law_1221 rfl (lv_at hl 1 rfl) ?_
  obtain ⟨r1, N1, K1, L1, σ1, ρ1, hq1, hF⟩ := bnT_1 hF
  obtain ⟨hN1, hL1, hR1, hO1⟩ := k_X11_undo hL hR hq1
  refine x_callVC (ws := (Cond.code yX11_undo cX11_undo 1 (some .int) :: wsL_law)) (ci := 11) rfl rfl C hP hS (c_X11_undo hL hR hq1) (lr_0 hL) (lk_0 hL) (cwV 0 C.1.2.2.2.2 (gdV mw_1205 mw_1206 mw_1207 mw_2 mw_1208) rfl rfl rfl hd_X11_undo ⟨(Nat.le_of_ble_eq_true rfl), (Nat.le_of_ble_eq_true rfl)⟩) rfl rfl hl.1 (Nat.le_of_ble_eq_true rfl) ⟨by show _ ≤ 600000; omega, by show _ ≤ 7302250; omega⟩ dL_law_1222 (fun ad1 H locs hE hA C hP hS => ?_)
  rw [← hE 0 (lr_0 hL)] at hl
  rw [← hE 54 (lr_54 hL)] at hl
  have hAQ := hA.trans hAQ
  have hbA := fun h => hbA (hA ▸ h)
  have hL := hL1
  have hR := hR1
  refine lv_pop hx hb dL_law_1225 rfl ?_
  refine lv_aload_n hx hb dL_law_1226 rfl (lv_at hl 2 rfl) ?_
  obtain ⟨r2, σ2, hq2, hF⟩ := bn2_1 hF
  refine x_callV (ci := 12) rfl rfl C hP hS (c_X12_undo hL hq2) (lr_54 hL) (lk_54 hL) (cwV 0 C.1.2.2.2.2 (gdV mw_1209 mw_1210 mw_1211 mw_5 mw_1212) rfl rfl rfl hd_X12_undo ⟨(Nat.le_of_ble_eq_true rfl), (Nat.le_of_ble_eq_true rfl)⟩) rfl rfl hl.1 (Nat.le_of_ble_eq_true rfl) ⟨by show _ ≤ 600000; omega, by show _ ≤ 7302250; omega⟩ dL_law_1227 (fun H locs hP hS => ?_)
  refine lv_pop hx hb dL_law_1230 rfl ?_
  refine lv_goto (tgt := 1257) hx hb dL_law_1231 (by decide) ?_
  obtain ⟨x3, ex3, hF⟩ := nm_1 hF
  refine lv_iinc (v := x3) (lv' := [(3, .int x3), (0, .ref b), (1, .ref (ad1 0)), (2, .ref (ad1 54))]) hx hb dL_law_1257 hl (k := 3) rfl (by rw [ex3]; first | rfl | decide) (by decide) rfl (fun ls hl => ?_)
  refine lv_goto (tgt := 18) hx hb dL_law_1260 (by decide) ?_
  exact hrec _ _ _ _ _ _ _ _ _ _ _ _ (by omega) (by omega) hF hL hR C hP hS hAQ (lv_sub hl [1, 2, 3, 0] rfl)
def F_L_1234 (xs : Nat → Int32) (L : Nat) (rec : Nat → (Nat → Nat) → (Nat → Nat) → SG → RG → Int32 → Option Unit) (N : Nat) (K len : Nat → Nat) (σ : SG) (ρ : RG) (v3 : Int32) : Option Unit :=
  nm (v3 + (1 : Int32)) fun x1 =>
  gd (inb x1 L) <|
  bn (F_X11_count (xs (x1).toNatClampNeg) σ ρ) fun r3 =>
  nm (v3 + (1 : Int32)) fun x4 =>
  gd (inb x4 L) <|
  bn (F_X12_count (xs (x4).toNatClampNeg) σ ρ) fun r6 =>
  nm (v3 + (6 : Int32)) fun x7 =>
  rec N K len σ ρ x7
set_option maxHeartbeats 4000000 in
set_option maxRecDepth 100000 in
theorem wl_1234 {p : Program} {e : Env} {s : State} {m : MethodId} {below : List Frame} {meth : Method} {c : Code} {b L : Nat} {xs : Nat → Int32} {rec : Nat → (Nat → Nat) → (Nat → Nat) → SG → RG → Int32 → Option Unit} {c1 s1 : Nat} (hX : va_X b L xs s s.heap) (hbl : b < s.heap.size) (hrec : ∀ (N : Nat) (ad K len : Nat → Nat) (σ : SG) (ρ : RG) (v3 : Int32) (H : Heap) (locs : List Loc) (cells slots : Nat) (ls : Array Slot), cells ≤ c1 → slots ≤ s1 → rec N K len σ ρ v3 = some () → Lay N K len ρ → RC N ρ → Cx Y D N ad p s m #[Value.ref b] meth c cL_law 4 ret RL wsL_law → WP Y D N ad K len σ ρ H → va_S (AA N ad s.heap.size) s.heap H locs → AA N ad s.heap.size = (fun q => s.heap.size ≤ q) → lv_has ls 4 [(0, .ref b), (1, .ref (ad 0)), (2, .ref (ad 54)), (3, .int v3)] → W p l e room_1 s m #[Value.ref b] below meth c H locs cells slots (lw_Z below #[Value.ref b] s) (F0 m 18 ls [])) {N : Nat} {ad K len : Nat → Nat} {σ : SG} {ρ : RG} {v3 : Int32} {H : Heap} {locs : List Loc} {cells slots : Nat} {ls : Array Slot} (hc1 : c1 ≤ 600000) (hs1 : s1 ≤ 7302250) (hcc : cells + 14 ≤ c1) (hss : slots + 90 ≤ s1) (hF : F_L_1234 xs L rec N K len σ ρ v3 = some ()) (hL : Lay N K len ρ) (hR : RC N ρ) (C : Cx Y D N ad p s m #[Value.ref b] meth c cL_law 4 ret RL wsL_law) (hP : WP Y D N ad K len σ ρ H) (hS : va_S (AA N ad s.heap.size) s.heap H locs) (hAQ : AA N ad s.heap.size = (fun q => s.heap.size ≤ q)) (hl : lv_has ls 4 [(0, .ref b), (1, .ref (ad 0)), (2, .ref (ad 54)), (3, .int v3)]) : W p l e room_1 s m #[Value.ref b] below meth c H locs cells slots (lw_Z below #[Value.ref b] s) (F0 m 1234 ls []) := by
  have hx := C.1.1
  have hb := C.1.2.1
  have hbA : ¬ AA N ad s.heap.size b := by rw [hAQ]; exact Nat.not_le.mpr hbl
  unfold F_L_1234 at hF
  refine lv_aload_n hx hb dL_law_1234 rfl (lv_at hl 1 rfl) ?_
  refine lv_aload_n hx hb dL_law_1235 rfl (lv_at hl 0 rfl) ?_
  refine lv_iload_n hx hb dL_law_1236 rfl (lv_at hl 3 rfl) ?_
  refine lv_iconst (v := 1) hx hb dL_law_1237 (by decide) ?_
  refine lv_iadd hx hb dL_law_1238 ?_
  obtain ⟨x1, ex1, hF⟩ := nm_1 hF
  refine x_top ex1 ?_
  obtain ⟨g2, hF⟩ := gd_1 hF
  refine va_sld hx hb hX hbl hbA hS (inb_in g2) dL_law_1239 ?_
  obtain ⟨r3, hq3, hF⟩ := bn_1 hF
  refine x_callV (ci := 11) rfl rfl C hP hS (c_X11_count hL hq3) (lr_0 hL) (lk_0 hL) (cwV 1 C.1.2.2.2.2 (gdV mw_1213 mw_1214 mw_1215 mw_2 mw_1216) rfl rfl rfl hd_X11_count ⟨(Nat.le_of_ble_eq_true rfl), (Nat.le_of_ble_eq_true rfl)⟩) rfl rfl hl.1 (Nat.le_of_ble_eq_true rfl) ⟨by show _ ≤ 600000; omega, by show _ ≤ 7302250; omega⟩ dL_law_1240 (fun H locs hP hS => ?_)
  refine lv_pop hx hb dL_law_1243 rfl ?_
  refine lv_aload_n hx hb dL_law_1244 rfl (lv_at hl 2 rfl) ?_
  refine lv_aload_n hx hb dL_law_1245 rfl (lv_at hl 0 rfl) ?_
  refine lv_iload_n hx hb dL_law_1246 rfl (lv_at hl 3 rfl) ?_
  refine lv_iconst (v := 1) hx hb dL_law_1247 (by decide) ?_
  refine lv_iadd hx hb dL_law_1248 ?_
  obtain ⟨x4, ex4, hF⟩ := nm_1 hF
  refine x_top ex4 ?_
  obtain ⟨g5, hF⟩ := gd_1 hF
  refine va_sld hx hb hX hbl hbA hS (inb_in g5) dL_law_1249 ?_
  obtain ⟨r6, hq6, hF⟩ := bn_1 hF
  refine x_callV (ci := 12) rfl rfl C hP hS (c_X12_count hL hq6) (lr_54 hL) (lk_54 hL) (cwV 1 C.1.2.2.2.2 (gdV mw_1217 mw_1218 mw_1219 mw_5 mw_1220) rfl rfl rfl hd_X12_count ⟨(Nat.le_of_ble_eq_true rfl), (Nat.le_of_ble_eq_true rfl)⟩) rfl rfl hl.1 (Nat.le_of_ble_eq_true rfl) ⟨by show _ ≤ 600000; omega, by show _ ≤ 7302250; omega⟩ dL_law_1250 (fun H locs hP hS => ?_)
  refine lv_pop hx hb dL_law_1253 rfl ?_
  refine lv_goto (tgt := 1257) hx hb dL_law_1254 (by decide) ?_
  obtain ⟨x7, ex7, hF⟩ := nm_1 hF
  refine lv_iinc (v := x7) (lv' := [(3, .int x7), (0, .ref b), (1, .ref (ad 0)), (2, .ref (ad 54))]) hx hb dL_law_1257 hl (k := 3) rfl (by rw [ex7]; first | rfl | decide) (by decide) rfl (fun ls hl => ?_)
  refine lv_goto (tgt := 18) hx hb dL_law_1260 (by decide) ?_
  exact hrec _ _ _ _ _ _ _ _ _ _ _ _ (by omega) (by omega) hF hL hR C hP hS hAQ (lv_sub hl [1, 2, 3, 0] rfl)
end GEN
