theorem dL_floor_146 : decode cL_floor 146 = .ok (.iload_n 1, 1) := by decide +kernel
theorem dL_floor_147 : decode cL_floor 147 = .ok (.if_icmp .ne 48, 3) := by decide +kernel
theorem dL_floor_150 : decode cL_floor 150 = .ok (.aload_n 0, 1) := by decide +kernel
theorem dL_floor_151 : decode cL_floor 151 = .ok (.iconst 0, 1) := by decide +kernel
theorem dL_floor_152 : decode cL_floor 152 = .ok (.iconst 3, 1) := by decide +kernel
theorem dL_floor_153 : decode cL_floor 153 = .ok (.invokestatic 97, 3) := by decide +kernel
theorem dL_floor_156 : decode cL_floor 156 = .ok (.iload_n 1, 1) := by decide +kernel
theorem dL_floor_157 : decode cL_floor 157 = .ok (.if_icmp .ne 38, 3) := by decide +kernel
theorem dL_floor_160 : decode cL_floor 160 = .ok (.aload_n 0, 1) := by decide +kernel
theorem dL_floor_161 : decode cL_floor 161 = .ok (.iconst 0, 1) := by decide +kernel
theorem dL_floor_162 : decode cL_floor 162 = .ok (.invokevirtual 65, 3) := by decide +kernel
theorem dL_floor_165 : decode cL_floor 165 = .ok (.iconst 2, 1) := by decide +kernel
theorem dL_floor_166 : decode cL_floor 166 = .ok (.if_icmp .ne 29, 3) := by decide +kernel
theorem dL_floor_169 : decode cL_floor 169 = .ok (.aload_n 0, 1) := by decide +kernel
theorem dL_floor_170 : decode cL_floor 170 = .ok (.iconst 1, 1) := by decide +kernel
theorem dL_floor_171 : decode cL_floor 171 = .ok (.iconst 0, 1) := by decide +kernel
theorem dL_floor_172 : decode cL_floor 172 = .ok (.iconst 0, 1) := by decide +kernel
theorem dL_floor_173 : decode cL_floor 173 = .ok (.iconst 0, 1) := by decide +kernel
theorem dL_floor_174 : decode cL_floor 174 = .ok (.iconst 1, 1) := by decide +kernel
theorem dL_floor_175 : decode cL_floor 175 = .ok (.invokestatic 91, 3) := by decide +kernel
theorem dL_floor_178 : decode cL_floor 178 = .ok (.iload_n 1, 1) := by decide +kernel
theorem dL_floor_179 : decode cL_floor 179 = .ok (.if_icmp .ne 16, 3) := by decide +kernel
theorem dL_floor_182 : decode cL_floor 182 = .ok (.aload_n 0, 1) := by decide +kernel
theorem dL_floor_183 : decode cL_floor 183 = .ok (.iconst 2, 1) := by decide +kernel
theorem dL_floor_184 : decode cL_floor 184 = .ok (.iconst 0, 1) := by decide +kernel
theorem dL_floor_185 : decode cL_floor 185 = .ok (.iconst 3, 1) := by decide +kernel
theorem dL_floor_186 : decode cL_floor 186 = .ok (.iconst 0, 1) := by decide +kernel
theorem dL_floor_187 : decode cL_floor 187 = .ok (.iconst 1, 1) := by decide +kernel
theorem dL_floor_188 : decode cL_floor 188 = .ok (.invokestatic 91, 3) := by decide +kernel
theorem dL_floor_191 : decode cL_floor 191 = .ok (.iload_n 1, 1) := by decide +kernel
theorem dL_floor_192 : decode cL_floor 192 = .ok (.if_icmp .eq 5, 3) := by decide +kernel
theorem dL_floor_195 : decode cL_floor 195 = .ok (.iconst 0, 1) := by decide +kernel
theorem dL_floor_196 : decode cL_floor 196 = .ok (.ireturn, 1) := by decide +kernel
theorem dL_floor_197 : decode cL_floor 197 = .ok (.iconst 0, 1) := by decide +kernel
theorem dL_floor_198 : decode cL_floor 198 = .ok (.istore_n 2, 1) := by decide +kernel
theorem dL_floor_199 : decode cL_floor 199 = .ok (.iload_n 2, 1) := by decide +kernel
theorem dL_floor_200 : decode cL_floor 200 = .ok (.iconst 5, 1) := by decide +kernel
theorem dL_floor_201 : decode cL_floor 201 = .ok (.if_icmp .ge 43, 3) := by decide +kernel
theorem dL_floor_204 : decode cL_floor 204 = .ok (.aload_n 0, 1) := by decide +kernel
theorem dL_floor_205 : decode cL_floor 205 = .ok (.iconst 0, 1) := by decide +kernel
theorem dL_floor_206 : decode cL_floor 206 = .ok (.iconst 2, 1) := by decide +kernel
theorem dL_floor_207 : decode cL_floor 207 = .ok (.iconst 4, 1) := by decide +kernel
theorem dL_floor_208 : decode cL_floor 208 = .ok (.iload_n 2, 1) := by decide +kernel
theorem dL_floor_209 : decode cL_floor 209 = .ok (.imul, 1) := by decide +kernel
theorem dL_floor_210 : decode cL_floor 210 = .ok (.iconst 1, 1) := by decide +kernel
theorem dL_floor_211 : decode cL_floor 211 = .ok (.invokevirtual 26, 3) := by decide +kernel
theorem dL_floor_214 : decode cL_floor 214 = .ok (.iconst (-1), 1) := by decide +kernel
theorem dL_floor_215 : decode cL_floor 215 = .ok (.if_icmp .ne 21, 3) := by decide +kernel
theorem dL_floor_218 : decode cL_floor 218 = .ok (.aload_n 0, 1) := by decide +kernel
theorem dL_floor_219 : decode cL_floor 219 = .ok (.iconst 0, 1) := by decide +kernel
theorem dL_floor_220 : decode cL_floor 220 = .ok (.invokevirtual 45, 3) := by decide +kernel
theorem dL_floor_223 : decode cL_floor 223 = .ok (.iload_n 2, 1) := by decide +kernel
theorem dL_floor_224 : decode cL_floor 224 = .ok (.iconst 4, 1) := by decide +kernel
theorem dL_floor_225 : decode cL_floor 225 = .ok (.if_icmp .ge 7, 3) := by decide +kernel
theorem dL_floor_228 : decode cL_floor 228 = .ok (.iconst 1, 1) := by decide +kernel
theorem dL_floor_229 : decode cL_floor 229 = .ok (.goto 4, 3) := by decide +kernel
theorem dL_floor_232 : decode cL_floor 232 = .ok (.iconst 2, 1) := by decide +kernel
theorem dL_floor_233 : decode cL_floor 233 = .ok (.if_icmp .eq 5, 3) := by decide +kernel
theorem dL_floor_236 : decode cL_floor 236 = .ok (.iconst 0, 1) := by decide +kernel
theorem dL_floor_237 : decode cL_floor 237 = .ok (.ireturn, 1) := by decide +kernel
theorem dL_floor_238 : decode cL_floor 238 = .ok (.iinc 2 1, 3) := by decide +kernel
theorem dL_floor_241 : decode cL_floor 241 = .ok (.goto (-42), 3) := by decide +kernel
theorem dL_floor_244 : decode cL_floor 244 = .ok (.aload_n 0, 1) := by decide +kernel
theorem dL_floor_245 : decode cL_floor 245 = .ok (.iconst 0, 1) := by decide +kernel
theorem dL_floor_246 : decode cL_floor 246 = .ok (.bipush 20, 2) := by decide +kernel
theorem dL_floor_248 : decode cL_floor 248 = .ok (.iconst 0, 1) := by decide +kernel
theorem dL_floor_249 : decode cL_floor 249 = .ok (.iconst 5, 1) := by decide +kernel
theorem dL_floor_250 : decode cL_floor 250 = .ok (.iconst (-1), 1) := by decide +kernel
theorem dL_floor_251 : decode cL_floor 251 = .ok (.iconst (-1), 1) := by decide +kernel
theorem dL_floor_252 : decode cL_floor 252 = .ok (.invokestatic 107, 3) := by decide +kernel
theorem dL_floor_255 : decode cL_floor 255 = .ok (.ifCond .eq 364, 3) := by decide +kernel
theorem dL_floor_258 : decode cL_floor 258 = .ok (.aload_n 0, 1) := by decide +kernel
theorem dL_floor_259 : decode cL_floor 259 = .ok (.iconst 0, 1) := by decide +kernel
theorem dL_floor_260 : decode cL_floor 260 = .ok (.bipush 24, 2) := by decide +kernel
theorem dL_floor_262 : decode cL_floor 262 = .ok (.iconst 1, 1) := by decide +kernel
theorem dL_floor_263 : decode cL_floor 263 = .ok (.bipush 20, 2) := by decide +kernel
theorem dL_floor_265 : decode cL_floor 265 = .ok (.iconst (-1), 1) := by decide +kernel
theorem dL_floor_266 : decode cL_floor 266 = .ok (.iconst (-1), 1) := by decide +kernel
theorem dL_floor_267 : decode cL_floor 267 = .ok (.invokestatic 107, 3) := by decide +kernel
theorem dL_floor_270 : decode cL_floor 270 = .ok (.ifCond .eq 349, 3) := by decide +kernel
theorem dL_floor_273 : decode cL_floor 273 = .ok (.aload_n 0, 1) := by decide +kernel
theorem dL_floor_274 : decode cL_floor 274 = .ok (.iconst 0, 1) := by decide +kernel
theorem dL_floor_275 : decode cL_floor 275 = .ok (.iconst 2, 1) := by decide +kernel
theorem dL_floor_276 : decode cL_floor 276 = .ok (.bipush 15, 2) := by decide +kernel
theorem dL_floor_278 : decode cL_floor 278 = .ok (.iconst 1, 1) := by decide +kernel
theorem dL_floor_279 : decode cL_floor 279 = .ok (.invokevirtual 30, 3) := by decide +kernel
theorem dL_floor_282 : decode cL_floor 282 = .ok (.ifCond .ne 337, 3) := by decide +kernel
theorem dL_floor_285 : decode cL_floor 285 = .ok (.aload_n 0, 1) := by decide +kernel
theorem dL_floor_286 : decode cL_floor 286 = .ok (.iconst 0, 1) := by decide +kernel
theorem dL_floor_287 : decode cL_floor 287 = .ok (.iconst 0, 1) := by decide +kernel
theorem dL_floor_288 : decode cL_floor 288 = .ok (.iconst 0, 1) := by decide +kernel
theorem dL_floor_289 : decode cL_floor 289 = .ok (.iconst 5, 1) := by decide +kernel
theorem dL_floor_290 : decode cL_floor 290 = .ok (.iconst 0, 1) := by decide +kernel
theorem dL_floor_291 : decode cL_floor 291 = .ok (.iconst (-1), 1) := by decide +kernel
theorem dL_floor_292 : decode cL_floor 292 = .ok (.invokestatic 107, 3) := by decide +kernel
theorem dL_floor_295 : decode cL_floor 295 = .ok (.ifCond .eq 324, 3) := by decide +kernel
theorem dL_floor_298 : decode cL_floor 298 = .ok (.aload_n 0, 1) := by decide +kernel
theorem dL_floor_299 : decode cL_floor 299 = .ok (.iconst 0, 1) := by decide +kernel
theorem dL_floor_300 : decode cL_floor 300 = .ok (.bipush 24, 2) := by decide +kernel
theorem dL_floor_302 : decode cL_floor 302 = .ok (.iconst 1, 1) := by decide +kernel
theorem dL_floor_303 : decode cL_floor 303 = .ok (.bipush 20, 2) := by decide +kernel
theorem dL_floor_305 : decode cL_floor 305 = .ok (.iconst (-1), 1) := by decide +kernel
theorem dL_floor_306 : decode cL_floor 306 = .ok (.iconst 0, 1) := by decide +kernel
theorem dL_floor_307 : decode cL_floor 307 = .ok (.invokestatic 107, 3) := by decide +kernel
theorem dL_floor_310 : decode cL_floor 310 = .ok (.ifCond .eq 309, 3) := by decide +kernel
theorem dL_floor_313 : decode cL_floor 313 = .ok (.aload_n 0, 1) := by decide +kernel
theorem dL_floor_314 : decode cL_floor 314 = .ok (.bipush 13, 2) := by decide +kernel
theorem dL_floor_316 : decode cL_floor 316 = .ok (.iconst 0, 1) := by decide +kernel
theorem dL_floor_317 : decode cL_floor 317 = .ok (.iconst 0, 1) := by decide +kernel
theorem dL_floor_318 : decode cL_floor 318 = .ok (.iconst 0, 1) := by decide +kernel
theorem dL_floor_319 : decode cL_floor 319 = .ok (.iconst 0, 1) := by decide +kernel
theorem dL_floor_320 : decode cL_floor 320 = .ok (.invokestatic 91, 3) := by decide +kernel
theorem dL_floor_323 : decode cL_floor 323 = .ok (.iload_n 1, 1) := by decide +kernel
theorem dL_floor_324 : decode cL_floor 324 = .ok (.if_icmp .ne 295, 3) := by decide +kernel
theorem dL_floor_327 : decode cL_floor 327 = .ok (.aload_n 0, 1) := by decide +kernel
theorem dL_floor_328 : decode cL_floor 328 = .ok (.iconst 0, 1) := by decide +kernel
theorem dL_floor_329 : decode cL_floor 329 = .ok (.iconst 2, 1) := by decide +kernel
theorem dL_floor_330 : decode cL_floor 330 = .ok (.bipush 8, 2) := by decide +kernel
theorem dL_floor_332 : decode cL_floor 332 = .ok (.iconst 2, 1) := by decide +kernel
theorem dL_floor_333 : decode cL_floor 333 = .ok (.invokevirtual 26, 3) := by decide +kernel
theorem dL_floor_336 : decode cL_floor 336 = .ok (.iconst 1, 1) := by decide +kernel
theorem dL_floor_337 : decode cL_floor 337 = .ok (.if_icmp .ne 282, 3) := by decide +kernel
theorem dL_floor_340 : decode cL_floor 340 = .ok (.aload_n 0, 1) := by decide +kernel
theorem dL_floor_341 : decode cL_floor 341 = .ok (.iconst 0, 1) := by decide +kernel
theorem dL_floor_342 : decode cL_floor 342 = .ok (.invokevirtual 45, 3) := by decide +kernel
theorem dL_floor_345 : decode cL_floor 345 = .ok (.iconst 2, 1) := by decide +kernel
theorem dL_floor_346 : decode cL_floor 346 = .ok (.if_icmp .ne 273, 3) := by decide +kernel
theorem dL_floor_349 : decode cL_floor 349 = .ok (.aload_n 0, 1) := by decide +kernel
theorem dL_floor_350 : decode cL_floor 350 = .ok (.iconst 0, 1) := by decide +kernel
theorem dL_floor_351 : decode cL_floor 351 = .ok (.bipush 24, 2) := by decide +kernel
theorem dL_floor_353 : decode cL_floor 353 = .ok (.iconst 1, 1) := by decide +kernel
theorem dL_floor_354 : decode cL_floor 354 = .ok (.bipush 20, 2) := by decide +kernel
theorem dL_floor_356 : decode cL_floor 356 = .ok (.iconst 1, 1) := by decide +kernel
theorem dL_floor_357 : decode cL_floor 357 = .ok (.iconst (-1), 1) := by decide +kernel
theorem dL_floor_358 : decode cL_floor 358 = .ok (.invokestatic 107, 3) := by decide +kernel
theorem dL_floor_361 : decode cL_floor 361 = .ok (.ifCond .eq 258, 3) := by decide +kernel
theorem dL_floor_364 : decode cL_floor 364 = .ok (.aload_n 0, 1) := by decide +kernel
theorem dL_floor_365 : decode cL_floor 365 = .ok (.iconst 0, 1) := by decide +kernel
theorem dL_floor_366 : decode cL_floor 366 = .ok (.invokevirtual 75, 3) := by decide +kernel
theorem dL_floor_369 : decode cL_floor 369 = .ok (.ifCond .ne 250, 3) := by decide +kernel
theorem dL_floor_372 : decode cL_floor 372 = .ok (.aload_n 0, 1) := by decide +kernel
theorem dL_floor_373 : decode cL_floor 373 = .ok (.iconst 0, 1) := by decide +kernel
theorem dL_floor_374 : decode cL_floor 374 = .ok (.invokevirtual 78, 3) := by decide +kernel
theorem dL_floor_377 : decode cL_floor 377 = .ok (.iconst (-1), 1) := by decide +kernel
theorem dL_floor_378 : decode cL_floor 378 = .ok (.if_icmp .ne 241, 3) := by decide +kernel
theorem dL_floor_381 : decode cL_floor 381 = .ok (.aload_n 0, 1) := by decide +kernel
theorem dL_floor_382 : decode cL_floor 382 = .ok (.iconst 0, 1) := by decide +kernel
theorem dL_floor_383 : decode cL_floor 383 = .ok (.invokevirtual 81, 3) := by decide +kernel
theorem dL_floor_386 : decode cL_floor 386 = .ok (.ifCond .ne 233, 3) := by decide +kernel
theorem dL_floor_389 : decode cL_floor 389 = .ok (.aload_n 0, 1) := by decide +kernel
theorem dL_floor_390 : decode cL_floor 390 = .ok (.invokevirtual 87, 3) := by decide +kernel
theorem dL_floor_393 : decode cL_floor 393 = .ok (.ifCond .ne 226, 3) := by decide +kernel
theorem dL_floor_396 : decode cL_floor 396 = .ok (.aload_n 0, 1) := by decide +kernel
theorem dL_floor_397 : decode cL_floor 397 = .ok (.iconst 0, 1) := by decide +kernel
theorem dL_floor_398 : decode cL_floor 398 = .ok (.invokevirtual 68, 3) := by decide +kernel
theorem dL_floor_401 : decode cL_floor 401 = .ok (.ifCond .ne 218, 3) := by decide +kernel
theorem dL_floor_404 : decode cL_floor 404 = .ok (.aload_n 0, 1) := by decide +kernel
theorem dL_floor_405 : decode cL_floor 405 = .ok (.iconst 0, 1) := by decide +kernel
theorem dL_floor_406 : decode cL_floor 406 = .ok (.invokevirtual 71, 3) := by decide +kernel
theorem dL_floor_409 : decode cL_floor 409 = .ok (.ifCond .eq 210, 3) := by decide +kernel
theorem dL_floor_412 : decode cL_floor 412 = .ok (.aload_n 0, 1) := by decide +kernel
theorem dL_floor_413 : decode cL_floor 413 = .ok (.iconst 0, 1) := by decide +kernel
theorem dL_floor_414 : decode cL_floor 414 = .ok (.invokevirtual 78, 3) := by decide +kernel
theorem dL_floor_417 : decode cL_floor 417 = .ok (.iconst (-1), 1) := by decide +kernel
theorem dL_floor_418 : decode cL_floor 418 = .ok (.if_icmp .ne 201, 3) := by decide +kernel
theorem dL_floor_421 : decode cL_floor 421 = .ok (.aload_n 0, 1) := by decide +kernel
theorem dL_floor_422 : decode cL_floor 422 = .ok (.iconst 0, 1) := by decide +kernel
theorem dL_floor_423 : decode cL_floor 423 = .ok (.invokevirtual 75, 3) := by decide +kernel
theorem dL_floor_426 : decode cL_floor 426 = .ok (.iconst 1, 1) := by decide +kernel
theorem dL_floor_427 : decode cL_floor 427 = .ok (.if_icmp .ne 192, 3) := by decide +kernel
theorem dL_floor_430 : decode cL_floor 430 = .ok (.aload_n 0, 1) := by decide +kernel
theorem dL_floor_431 : decode cL_floor 431 = .ok (.iconst 1, 1) := by decide +kernel
theorem dL_floor_432 : decode cL_floor 432 = .ok (.invokevirtual 78, 3) := by decide +kernel
theorem dL_floor_435 : decode cL_floor 435 = .ok (.ifCond .ne 184, 3) := by decide +kernel
theorem dL_floor_438 : decode cL_floor 438 = .ok (.aload_n 0, 1) := by decide +kernel
theorem dL_floor_439 : decode cL_floor 439 = .ok (.iconst 1, 1) := by decide +kernel
theorem dL_floor_440 : decode cL_floor 440 = .ok (.invokevirtual 81, 3) := by decide +kernel
theorem dL_floor_443 : decode cL_floor 443 = .ok (.ifCond .eq 176, 3) := by decide +kernel
theorem dL_floor_446 : decode cL_floor 446 = .ok (.aload_n 0, 1) := by decide +kernel
theorem dL_floor_447 : decode cL_floor 447 = .ok (.iconst 0, 1) := by decide +kernel
theorem dL_floor_448 : decode cL_floor 448 = .ok (.invokevirtual 68, 3) := by decide +kernel
theorem dL_floor_451 : decode cL_floor 451 = .ok (.iconst 1, 1) := by decide +kernel
theorem dL_floor_452 : decode cL_floor 452 = .ok (.if_icmp .ne 167, 3) := by decide +kernel
theorem dL_floor_455 : decode cL_floor 455 = .ok (.aload_n 0, 1) := by decide +kernel
theorem dL_floor_456 : decode cL_floor 456 = .ok (.iconst 0, 1) := by decide +kernel
theorem dL_floor_457 : decode cL_floor 457 = .ok (.invokevirtual 75, 3) := by decide +kernel
theorem dL_floor_460 : decode cL_floor 460 = .ok (.iconst 2, 1) := by decide +kernel
theorem dL_floor_461 : decode cL_floor 461 = .ok (.if_icmp .ne 158, 3) := by decide +kernel
theorem dL_floor_464 : decode cL_floor 464 = .ok (.aload_n 0, 1) := by decide +kernel
theorem dL_floor_465 : decode cL_floor 465 = .ok (.iconst 2, 1) := by decide +kernel
theorem dL_floor_466 : decode cL_floor 466 = .ok (.invokevirtual 78, 3) := by decide +kernel
theorem dL_floor_469 : decode cL_floor 469 = .ok (.iconst 1, 1) := by decide +kernel
theorem dL_floor_470 : decode cL_floor 470 = .ok (.if_icmp .ne 149, 3) := by decide +kernel
theorem dL_floor_473 : decode cL_floor 473 = .ok (.aload_n 0, 1) := by decide +kernel
theorem dL_floor_474 : decode cL_floor 474 = .ok (.iconst 2, 1) := by decide +kernel
theorem dL_floor_475 : decode cL_floor 475 = .ok (.iconst 3, 1) := by decide +kernel
theorem dL_floor_476 : decode cL_floor 476 = .ok (.invokestatic 103, 3) := by decide +kernel
theorem dL_floor_479 : decode cL_floor 479 = .ok (.ifCond .eq 140, 3) := by decide +kernel
theorem dL_floor_482 : decode cL_floor 482 = .ok (.aload_n 0, 1) := by decide +kernel
theorem dL_floor_483 : decode cL_floor 483 = .ok (.iconst 0, 1) := by decide +kernel
theorem dL_floor_484 : decode cL_floor 484 = .ok (.iconst 2, 1) := by decide +kernel
theorem dL_floor_485 : decode cL_floor 485 = .ok (.iconst 4, 1) := by decide +kernel
theorem dL_floor_486 : decode cL_floor 486 = .ok (.iconst 0, 1) := by decide +kernel
theorem dL_floor_487 : decode cL_floor 487 = .ok (.invokevirtual 26, 3) := by decide +kernel
theorem dL_floor_490 : decode cL_floor 490 = .ok (.iconst 1, 1) := by decide +kernel
theorem dL_floor_491 : decode cL_floor 491 = .ok (.if_icmp .ne 128, 3) := by decide +kernel
theorem dL_floor_494 : decode cL_floor 494 = .ok (.aload_n 0, 1) := by decide +kernel
theorem dL_floor_495 : decode cL_floor 495 = .ok (.iconst 0, 1) := by decide +kernel
theorem dL_floor_496 : decode cL_floor 496 = .ok (.invokevirtual 45, 3) := by decide +kernel
theorem dL_floor_499 : decode cL_floor 499 = .ok (.iconst 1, 1) := by decide +kernel
theorem dL_floor_500 : decode cL_floor 500 = .ok (.if_icmp .ne 119, 3) := by decide +kernel
theorem dL_floor_503 : decode cL_floor 503 = .ok (.aload_n 0, 1) := by decide +kernel
theorem dL_floor_504 : decode cL_floor 504 = .ok (.iconst 0, 1) := by decide +kernel
theorem dL_floor_505 : decode cL_floor 505 = .ok (.bipush 24, 2) := by decide +kernel
theorem dL_floor_507 : decode cL_floor 507 = .ok (.iconst 0, 1) := by decide +kernel
theorem dL_floor_508 : decode cL_floor 508 = .ok (.bipush 25, 2) := by decide +kernel
theorem dL_floor_510 : decode cL_floor 510 = .ok (.iconst 0, 1) := by decide +kernel
theorem dL_floor_511 : decode cL_floor 511 = .ok (.iconst (-1), 1) := by decide +kernel
theorem dL_floor_512 : decode cL_floor 512 = .ok (.invokestatic 107, 3) := by decide +kernel
theorem dL_floor_515 : decode cL_floor 515 = .ok (.ifCond .eq 104, 3) := by decide +kernel
theorem dL_floor_518 : decode cL_floor 518 = .ok (.aload_n 0, 1) := by decide +kernel
theorem dL_floor_519 : decode cL_floor 519 = .ok (.iconst 0, 1) := by decide +kernel
theorem dL_floor_520 : decode cL_floor 520 = .ok (.invokevirtual 71, 3) := by decide +kernel
theorem dL_floor_523 : decode cL_floor 523 = .ok (.ifCond .ne 96, 3) := by decide +kernel
theorem dL_floor_526 : decode cL_floor 526 = .ok (.aload_n 0, 1) := by decide +kernel
theorem dL_floor_527 : decode cL_floor 527 = .ok (.iconst 1, 1) := by decide +kernel
theorem dL_floor_528 : decode cL_floor 528 = .ok (.invokevirtual 81, 3) := by decide +kernel
theorem dL_floor_531 : decode cL_floor 531 = .ok (.ifCond .ne 88, 3) := by decide +kernel
theorem dL_floor_534 : decode cL_floor 534 = .ok (.aload_n 0, 1) := by decide +kernel
theorem dL_floor_535 : decode cL_floor 535 = .ok (.invokevirtual 87, 3) := by decide +kernel
theorem dL_floor_538 : decode cL_floor 538 = .ok (.iconst 3, 1) := by decide +kernel
theorem dL_floor_539 : decode cL_floor 539 = .ok (.if_icmp .ne 80, 3) := by decide +kernel
theorem dL_floor_542 : decode cL_floor 542 = .ok (.aload_n 0, 1) := by decide +kernel
theorem dL_floor_543 : decode cL_floor 543 = .ok (.iconst 0, 1) := by decide +kernel
theorem dL_floor_544 : decode cL_floor 544 = .ok (.invokevirtual 75, 3) := by decide +kernel
theorem dL_floor_547 : decode cL_floor 547 = .ok (.iconst 3, 1) := by decide +kernel
theorem dL_floor_548 : decode cL_floor 548 = .ok (.if_icmp .ne 71, 3) := by decide +kernel
theorem dL_floor_551 : decode cL_floor 551 = .ok (.aload_n 0, 1) := by decide +kernel
theorem dL_floor_552 : decode cL_floor 552 = .ok (.iconst 3, 1) := by decide +kernel
theorem dL_floor_553 : decode cL_floor 553 = .ok (.invokevirtual 78, 3) := by decide +kernel
theorem dL_floor_556 : decode cL_floor 556 = .ok (.iconst (-1), 1) := by decide +kernel
theorem dL_floor_557 : decode cL_floor 557 = .ok (.if_icmp .ne 62, 3) := by decide +kernel
theorem dL_floor_560 : decode cL_floor 560 = .ok (.aload_n 0, 1) := by decide +kernel
theorem dL_floor_561 : decode cL_floor 561 = .ok (.iconst 0, 1) := by decide +kernel
theorem dL_floor_562 : decode cL_floor 562 = .ok (.iconst 2, 1) := by decide +kernel
theorem dL_floor_563 : decode cL_floor 563 = .ok (.iconst 4, 1) := by decide +kernel
theorem dL_floor_564 : decode cL_floor 564 = .ok (.iconst 1, 1) := by decide +kernel
theorem dL_floor_565 : decode cL_floor 565 = .ok (.invokevirtual 26, 3) := by decide +kernel
theorem dL_floor_568 : decode cL_floor 568 = .ok (.ifCond .ne 51, 3) := by decide +kernel
theorem dL_floor_571 : decode cL_floor 571 = .ok (.aload_n 0, 1) := by decide +kernel
theorem dL_floor_572 : decode cL_floor 572 = .ok (.iconst 0, 1) := by decide +kernel
theorem dL_floor_573 : decode cL_floor 573 = .ok (.invokevirtual 71, 3) := by decide +kernel
theorem dL_floor_576 : decode cL_floor 576 = .ok (.ifCond .eq 43, 3) := by decide +kernel
theorem dL_floor_579 : decode cL_floor 579 = .ok (.aload_n 0, 1) := by decide +kernel
theorem dL_floor_580 : decode cL_floor 580 = .ok (.iconst 1, 1) := by decide +kernel
theorem dL_floor_581 : decode cL_floor 581 = .ok (.invokevirtual 81, 3) := by decide +kernel
theorem dL_floor_584 : decode cL_floor 584 = .ok (.ifCond .eq 35, 3) := by decide +kernel
theorem dL_floor_587 : decode cL_floor 587 = .ok (.aload_n 0, 1) := by decide +kernel
theorem dL_floor_588 : decode cL_floor 588 = .ok (.iconst 2, 1) := by decide +kernel
theorem dL_floor_589 : decode cL_floor 589 = .ok (.invokevirtual 81, 3) := by decide +kernel
theorem dL_floor_592 : decode cL_floor 592 = .ok (.ifCond .eq 27, 3) := by decide +kernel
theorem dL_floor_595 : decode cL_floor 595 = .ok (.aload_n 0, 1) := by decide +kernel
theorem dL_floor_596 : decode cL_floor 596 = .ok (.iconst 0, 1) := by decide +kernel
theorem dL_floor_597 : decode cL_floor 597 = .ok (.invokevirtual 81, 3) := by decide +kernel
theorem dL_floor_600 : decode cL_floor 600 = .ok (.ifCond .ne 19, 3) := by decide +kernel
theorem dL_floor_603 : decode cL_floor 603 = .ok (.aload_n 0, 1) := by decide +kernel
theorem dL_floor_604 : decode cL_floor 604 = .ok (.iconst 3, 1) := by decide +kernel
theorem dL_floor_605 : decode cL_floor 605 = .ok (.invokevirtual 81, 3) := by decide +kernel
theorem dL_floor_608 : decode cL_floor 608 = .ok (.ifCond .ne 11, 3) := by decide +kernel
theorem dL_floor_611 : decode cL_floor 611 = .ok (.aload_n 0, 1) := by decide +kernel
theorem dL_floor_612 : decode cL_floor 612 = .ok (.invokevirtual 87, 3) := by decide +kernel
theorem dL_floor_615 : decode cL_floor 615 = .ok (.iconst 1, 1) := by decide +kernel
theorem dL_floor_616 : decode cL_floor 616 = .ok (.if_icmp .eq 5, 3) := by decide +kernel
theorem dL_floor_619 : decode cL_floor 619 = .ok (.iconst 0, 1) := by decide +kernel
theorem dL_floor_620 : decode cL_floor 620 = .ok (.ireturn, 1) := by decide +kernel
theorem dL_floor_621 : decode cL_floor 621 = .ok (.aload_n 0, 1) := by decide +kernel
theorem dL_floor_622 : decode cL_floor 622 = .ok (.iconst 0, 1) := by decide +kernel
theorem dL_floor_623 : decode cL_floor 623 = .ok (.iconst 2, 1) := by decide +kernel
theorem dL_floor_624 : decode cL_floor 624 = .ok (.bipush 24, 2) := by decide +kernel
theorem dL_floor_626 : decode cL_floor 626 = .ok (.iconst 1, 1) := by decide +kernel
theorem dL_floor_627 : decode cL_floor 627 = .ok (.invokevirtual 30, 3) := by decide +kernel
theorem dL_floor_630 : decode cL_floor 630 = .ok (.ifCond .ne 174, 3) := by decide +kernel
theorem dL_floor_633 : decode cL_floor 633 = .ok (.aload_n 0, 1) := by decide +kernel
theorem dL_floor_634 : decode cL_floor 634 = .ok (.iconst 1, 1) := by decide +kernel
theorem dL_floor_635 : decode cL_floor 635 = .ok (.invokevirtual 71, 3) := by decide +kernel
theorem dL_floor_638 : decode cL_floor 638 = .ok (.ifCond .ne 166, 3) := by decide +kernel
theorem dL_floor_641 : decode cL_floor 641 = .ok (.aload_n 0, 1) := by decide +kernel
theorem dL_floor_642 : decode cL_floor 642 = .ok (.invokevirtual 87, 3) := by decide +kernel
theorem dL_floor_645 : decode cL_floor 645 = .ok (.iconst 4, 1) := by decide +kernel
theorem dL_floor_646 : decode cL_floor 646 = .ok (.if_icmp .ne 158, 3) := by decide +kernel
theorem dL_floor_649 : decode cL_floor 649 = .ok (.aload_n 0, 1) := by decide +kernel
theorem dL_floor_650 : decode cL_floor 650 = .ok (.iconst 0, 1) := by decide +kernel
theorem dL_floor_651 : decode cL_floor 651 = .ok (.iconst 2, 1) := by decide +kernel
theorem dL_floor_652 : decode cL_floor 652 = .ok (.bipush 24, 2) := by decide +kernel
theorem dL_floor_654 : decode cL_floor 654 = .ok (.iconst 0, 1) := by decide +kernel
theorem dL_floor_655 : decode cL_floor 655 = .ok (.invokevirtual 30, 3) := by decide +kernel
theorem dL_floor_658 : decode cL_floor 658 = .ok (.ifCond .eq 146, 3) := by decide +kernel
theorem dL_floor_661 : decode cL_floor 661 = .ok (.aload_n 0, 1) := by decide +kernel
theorem dL_floor_662 : decode cL_floor 662 = .ok (.iconst 1, 1) := by decide +kernel
theorem dL_floor_663 : decode cL_floor 663 = .ok (.invokevirtual 71, 3) := by decide +kernel
theorem dL_floor_666 : decode cL_floor 666 = .ok (.ifCond .eq 138, 3) := by decide +kernel
theorem dL_floor_669 : decode cL_floor 669 = .ok (.aload_n 0, 1) := by decide +kernel
theorem dL_floor_670 : decode cL_floor 670 = .ok (.iconst 0, 1) := by decide +kernel
theorem dL_floor_671 : decode cL_floor 671 = .ok (.iconst 2, 1) := by decide +kernel
theorem dL_floor_672 : decode cL_floor 672 = .ok (.bipush 39, 2) := by decide +kernel
theorem dL_floor_674 : decode cL_floor 674 = .ok (.iconst 0, 1) := by decide +kernel
theorem dL_floor_675 : decode cL_floor 675 = .ok (.invokevirtual 26, 3) := by decide +kernel
theorem dL_floor_678 : decode cL_floor 678 = .ok (.iconst (-1), 1) := by decide +kernel
theorem dL_floor_679 : decode cL_floor 679 = .ok (.if_icmp .ne 125, 3) := by decide +kernel
theorem dL_floor_682 : decode cL_floor 682 = .ok (.aload_n 0, 1) := by decide +kernel
theorem dL_floor_683 : decode cL_floor 683 = .ok (.iconst 1, 1) := by decide +kernel
theorem dL_floor_684 : decode cL_floor 684 = .ok (.invokevirtual 71, 3) := by decide +kernel
theorem dL_floor_687 : decode cL_floor 687 = .ok (.ifCond .ne 117, 3) := by decide +kernel
theorem dL_floor_690 : decode cL_floor 690 = .ok (.aload_n 0, 1) := by decide +kernel
theorem dL_floor_691 : decode cL_floor 691 = .ok (.iconst 0, 1) := by decide +kernel
theorem dL_floor_692 : decode cL_floor 692 = .ok (.iconst 2, 1) := by decide +kernel
theorem dL_floor_693 : decode cL_floor 693 = .ok (.bipush 39, 2) := by decide +kernel
theorem dL_floor_695 : decode cL_floor 695 = .ok (.iconst (-1), 1) := by decide +kernel
theorem dL_floor_696 : decode cL_floor 696 = .ok (.invokevirtual 26, 3) := by decide +kernel
theorem dL_floor_699 : decode cL_floor 699 = .ok (.ifCond .ne 105, 3) := by decide +kernel
theorem dL_floor_702 : decode cL_floor 702 = .ok (.aload_n 0, 1) := by decide +kernel
theorem dL_floor_703 : decode cL_floor 703 = .ok (.iconst 1, 1) := by decide +kernel
theorem dL_floor_704 : decode cL_floor 704 = .ok (.invokevirtual 71, 3) := by decide +kernel
theorem dL_floor_707 : decode cL_floor 707 = .ok (.ifCond .eq 97, 3) := by decide +kernel
theorem dL_floor_710 : decode cL_floor 710 = .ok (.aload_n 0, 1) := by decide +kernel
theorem dL_floor_711 : decode cL_floor 711 = .ok (.iconst 0, 1) := by decide +kernel
theorem dL_floor_712 : decode cL_floor 712 = .ok (.iconst 2, 1) := by decide +kernel
theorem dL_floor_713 : decode cL_floor 713 = .ok (.bipush 39, 2) := by decide +kernel
theorem dL_floor_715 : decode cL_floor 715 = .ok (.iconst 2, 1) := by decide +kernel
theorem dL_floor_716 : decode cL_floor 716 = .ok (.invokevirtual 26, 3) := by decide +kernel
theorem dL_floor_719 : decode cL_floor 719 = .ok (.iconst (-1), 1) := by decide +kernel
theorem dL_floor_720 : decode cL_floor 720 = .ok (.if_icmp .ne 84, 3) := by decide +kernel
theorem dL_floor_723 : decode cL_floor 723 = .ok (.aload_n 0, 1) := by decide +kernel
theorem dL_floor_724 : decode cL_floor 724 = .ok (.iconst 0, 1) := by decide +kernel
theorem dL_floor_725 : decode cL_floor 725 = .ok (.invokevirtual 45, 3) := by decide +kernel
theorem dL_floor_728 : decode cL_floor 728 = .ok (.iconst 2, 1) := by decide +kernel
theorem dL_floor_729 : decode cL_floor 729 = .ok (.if_icmp .ne 75, 3) := by decide +kernel
theorem dL_floor_732 : decode cL_floor 732 = .ok (.aload_n 0, 1) := by decide +kernel
theorem dL_floor_733 : decode cL_floor 733 = .ok (.iconst 0, 1) := by decide +kernel
theorem dL_floor_734 : decode cL_floor 734 = .ok (.bipush 24, 2) := by decide +kernel
theorem dL_floor_736 : decode cL_floor 736 = .ok (.iconst 1, 1) := by decide +kernel
theorem dL_floor_737 : decode cL_floor 737 = .ok (.bipush 20, 2) := by decide +kernel
theorem dL_floor_739 : decode cL_floor 739 = .ok (.iconst 1, 1) := by decide +kernel
theorem dL_floor_740 : decode cL_floor 740 = .ok (.iconst (-1), 1) := by decide +kernel
theorem dL_floor_741 : decode cL_floor 741 = .ok (.invokestatic 107, 3) := by decide +kernel
theorem dL_floor_744 : decode cL_floor 744 = .ok (.ifCond .eq 60, 3) := by decide +kernel
theorem dL_floor_747 : decode cL_floor 747 = .ok (.aload_n 0, 1) := by decide +kernel
theorem dL_floor_748 : decode cL_floor 748 = .ok (.iconst 0, 1) := by decide +kernel
theorem dL_floor_749 : decode cL_floor 749 = .ok (.invokevirtual 71, 3) := by decide +kernel
theorem dL_floor_752 : decode cL_floor 752 = .ok (.ifCond .ne 52, 3) := by decide +kernel
theorem dL_floor_755 : decode cL_floor 755 = .ok (.aload_n 0, 1) := by decide +kernel
theorem dL_floor_756 : decode cL_floor 756 = .ok (.iconst 0, 1) := by decide +kernel
theorem dL_floor_757 : decode cL_floor 757 = .ok (.invokevirtual 68, 3) := by decide +kernel
theorem dL_floor_760 : decode cL_floor 760 = .ok (.iconst 2, 1) := by decide +kernel
theorem dL_floor_761 : decode cL_floor 761 = .ok (.if_icmp .ne 43, 3) := by decide +kernel
theorem dL_floor_764 : decode cL_floor 764 = .ok (.aload_n 0, 1) := by decide +kernel
theorem dL_floor_765 : decode cL_floor 765 = .ok (.iconst 0, 1) := by decide +kernel
theorem dL_floor_766 : decode cL_floor 766 = .ok (.iconst 2, 1) := by decide +kernel
theorem dL_floor_767 : decode cL_floor 767 = .ok (.bipush 39, 2) := by decide +kernel
theorem dL_floor_769 : decode cL_floor 769 = .ok (.iconst (-1), 1) := by decide +kernel
theorem dL_floor_770 : decode cL_floor 770 = .ok (.invokevirtual 26, 3) := by decide +kernel
theorem dL_floor_773 : decode cL_floor 773 = .ok (.iconst 2, 1) := by decide +kernel
theorem dL_floor_774 : decode cL_floor 774 = .ok (.if_icmp .ne 30, 3) := by decide +kernel
theorem dL_floor_777 : decode cL_floor 777 = .ok (.aload_n 0, 1) := by decide +kernel
theorem dL_floor_778 : decode cL_floor 778 = .ok (.iconst 0, 1) := by decide +kernel
theorem dL_floor_779 : decode cL_floor 779 = .ok (.invokevirtual 75, 3) := by decide +kernel
theorem dL_floor_782 : decode cL_floor 782 = .ok (.iconst 4, 1) := by decide +kernel
theorem dL_floor_783 : decode cL_floor 783 = .ok (.if_icmp .ne 21, 3) := by decide +kernel
theorem dL_floor_786 : decode cL_floor 786 = .ok (.aload_n 0, 1) := by decide +kernel
theorem dL_floor_787 : decode cL_floor 787 = .ok (.iconst 4, 1) := by decide +kernel
theorem dL_floor_788 : decode cL_floor 788 = .ok (.invokevirtual 78, 3) := by decide +kernel
theorem dL_floor_791 : decode cL_floor 791 = .ok (.iconst 1, 1) := by decide +kernel
theorem dL_floor_792 : decode cL_floor 792 = .ok (.if_icmp .ne 12, 3) := by decide +kernel
theorem dL_floor_795 : decode cL_floor 795 = .ok (.aload_n 0, 1) := by decide +kernel
theorem dL_floor_796 : decode cL_floor 796 = .ok (.iconst 3, 1) := by decide +kernel
theorem dL_floor_797 : decode cL_floor 797 = .ok (.iconst 5, 1) := by decide +kernel
theorem dL_floor_798 : decode cL_floor 798 = .ok (.invokestatic 103, 3) := by decide +kernel
theorem dL_floor_801 : decode cL_floor 801 = .ok (.ifCond .ne 5, 3) := by decide +kernel
theorem dL_floor_804 : decode cL_floor 804 = .ok (.iconst 0, 1) := by decide +kernel
theorem dL_floor_805 : decode cL_floor 805 = .ok (.ireturn, 1) := by decide +kernel
theorem dL_floor_806 : decode cL_floor 806 = .ok (.aload_n 0, 1) := by decide +kernel
theorem dL_floor_807 : decode cL_floor 807 = .ok (.iconst 0, 1) := by decide +kernel
theorem dL_floor_808 : decode cL_floor 808 = .ok (.iconst 2, 1) := by decide +kernel
theorem dL_floor_809 : decode cL_floor 809 = .ok (.bipush 16, 2) := by decide +kernel
theorem dL_floor_811 : decode cL_floor 811 = .ok (.iconst 2, 1) := by decide +kernel
theorem dL_floor_812 : decode cL_floor 812 = .ok (.invokevirtual 26, 3) := by decide +kernel
theorem dL_floor_815 : decode cL_floor 815 = .ok (.iconst 1, 1) := by decide +kernel
theorem dL_floor_816 : decode cL_floor 816 = .ok (.if_icmp .ne 90, 3) := by decide +kernel
theorem dL_floor_819 : decode cL_floor 819 = .ok (.aload_n 0, 1) := by decide +kernel
theorem dL_floor_820 : decode cL_floor 820 = .ok (.iconst 0, 1) := by decide +kernel
theorem dL_floor_821 : decode cL_floor 821 = .ok (.bipush 24, 2) := by decide +kernel
theorem dL_floor_823 : decode cL_floor 823 = .ok (.iconst 1, 1) := by decide +kernel
theorem dL_floor_824 : decode cL_floor 824 = .ok (.bipush 20, 2) := by decide +kernel
theorem dL_floor_826 : decode cL_floor 826 = .ok (.iconst 1, 1) := by decide +kernel
theorem dL_floor_827 : decode cL_floor 827 = .ok (.iconst (-1), 1) := by decide +kernel
theorem dL_floor_828 : decode cL_floor 828 = .ok (.invokestatic 107, 3) := by decide +kernel
theorem dL_floor_831 : decode cL_floor 831 = .ok (.ifCond .eq 75, 3) := by decide +kernel
theorem dL_floor_834 : decode cL_floor 834 = .ok (.aload_n 0, 1) := by decide +kernel
theorem dL_floor_835 : decode cL_floor 835 = .ok (.iconst 0, 1) := by decide +kernel
theorem dL_floor_836 : decode cL_floor 836 = .ok (.iconst 2, 1) := by decide +kernel
theorem dL_floor_837 : decode cL_floor 837 = .ok (.bipush 8, 2) := by decide +kernel
theorem dL_floor_839 : decode cL_floor 839 = .ok (.iconst 1, 1) := by decide +kernel
theorem dL_floor_840 : decode cL_floor 840 = .ok (.invokevirtual 26, 3) := by decide +kernel
theorem dL_floor_843 : decode cL_floor 843 = .ok (.iconst 2, 1) := by decide +kernel
theorem dL_floor_844 : decode cL_floor 844 = .ok (.if_icmp .ne 62, 3) := by decide +kernel
theorem dL_floor_847 : decode cL_floor 847 = .ok (.aload_n 0, 1) := by decide +kernel
theorem dL_floor_848 : decode cL_floor 848 = .ok (.iconst 0, 1) := by decide +kernel
theorem dL_floor_849 : decode cL_floor 849 = .ok (.iconst 2, 1) := by decide +kernel
theorem dL_floor_850 : decode cL_floor 850 = .ok (.bipush 16, 2) := by decide +kernel
theorem dL_floor_852 : decode cL_floor 852 = .ok (.iconst 1, 1) := by decide +kernel
theorem dL_floor_853 : decode cL_floor 853 = .ok (.invokevirtual 26, 3) := by decide +kernel
theorem dL_floor_856 : decode cL_floor 856 = .ok (.iconst 2, 1) := by decide +kernel
theorem dL_floor_857 : decode cL_floor 857 = .ok (.if_icmp .ne 49, 3) := by decide +kernel
theorem dL_floor_860 : decode cL_floor 860 = .ok (.aload_n 0, 1) := by decide +kernel
theorem dL_floor_861 : decode cL_floor 861 = .ok (.iconst 0, 1) := by decide +kernel
theorem dL_floor_862 : decode cL_floor 862 = .ok (.bipush 9, 2) := by decide +kernel
theorem dL_floor_864 : decode cL_floor 864 = .ok (.iconst 1, 1) := by decide +kernel
theorem dL_floor_865 : decode cL_floor 865 = .ok (.bipush 20, 2) := by decide +kernel
theorem dL_floor_867 : decode cL_floor 867 = .ok (.iconst (-1), 1) := by decide +kernel
theorem dL_floor_868 : decode cL_floor 868 = .ok (.iconst 0, 1) := by decide +kernel
theorem dL_floor_869 : decode cL_floor 869 = .ok (.invokestatic 107, 3) := by decide +kernel
theorem dL_floor_872 : decode cL_floor 872 = .ok (.ifCond .eq 34, 3) := by decide +kernel
theorem dL_floor_875 : decode cL_floor 875 = .ok (.aload_n 0, 1) := by decide +kernel
theorem dL_floor_876 : decode cL_floor 876 = .ok (.iconst 0, 1) := by decide +kernel
theorem dL_floor_877 : decode cL_floor 877 = .ok (.iconst 2, 1) := by decide +kernel
theorem dL_floor_878 : decode cL_floor 878 = .ok (.iconst 0, 1) := by decide +kernel
theorem dL_floor_879 : decode cL_floor 879 = .ok (.iconst (-1), 1) := by decide +kernel
theorem dL_floor_880 : decode cL_floor 880 = .ok (.invokevirtual 26, 3) := by decide +kernel
theorem dL_floor_883 : decode cL_floor 883 = .ok (.iconst 1, 1) := by decide +kernel
theorem dL_floor_884 : decode cL_floor 884 = .ok (.if_icmp .ne 22, 3) := by decide +kernel
theorem dL_floor_887 : decode cL_floor 887 = .ok (.aload_n 0, 1) := by decide +kernel
theorem dL_floor_888 : decode cL_floor 888 = .ok (.iconst 0, 1) := by decide +kernel
theorem dL_floor_889 : decode cL_floor 889 = .ok (.bipush 9, 2) := by decide +kernel
theorem dL_floor_891 : decode cL_floor 891 = .ok (.iconst 0, 1) := by decide +kernel
theorem dL_floor_892 : decode cL_floor 892 = .ok (.bipush 25, 2) := by decide +kernel
theorem dL_floor_894 : decode cL_floor 894 = .ok (.iconst 0, 1) := by decide +kernel
theorem dL_floor_895 : decode cL_floor 895 = .ok (.iconst (-1), 1) := by decide +kernel
theorem dL_floor_896 : decode cL_floor 896 = .ok (.invokestatic 107, 3) := by decide +kernel
theorem dL_floor_899 : decode cL_floor 899 = .ok (.ifCond .eq 7, 3) := by decide +kernel
theorem dL_floor_902 : decode cL_floor 902 = .ok (.iconst 1, 1) := by decide +kernel
theorem dL_floor_903 : decode cL_floor 903 = .ok (.goto 4, 3) := by decide +kernel
theorem dL_floor_906 : decode cL_floor 906 = .ok (.iconst 0, 1) := by decide +kernel
theorem dL_floor_907 : decode cL_floor 907 = .ok (.ireturn, 1) := by decide +kernel
theorem dL_rows_0 : decode cL_rows 0 = .ok (.new 8, 3) := by decide +kernel
theorem dL_rows_3 : decode cL_rows 3 = .ok (.dup, 1) := by decide +kernel
theorem dL_rows_4 : decode cL_rows 4 = .ok (.invokespecial 102, 3) := by decide +kernel
theorem dL_rows_7 : decode cL_rows 7 = .ok (.astore_n 0, 1) := by decide +kernel
theorem dL_rows_8 : decode cL_rows 8 = .ok (.aload_n 0, 1) := by decide +kernel
theorem dL_rows_9 : decode cL_rows 9 = .ok (.invokevirtual 22, 3) := by decide +kernel
theorem dL_rows_12 : decode cL_rows 12 = .ok (.ifCond .ne 12, 3) := by decide +kernel
theorem dL_rows_15 : decode cL_rows 15 = .ok (.aload_n 0, 1) := by decide +kernel
theorem dL_rows_16 : decode cL_rows 16 = .ok (.iconst 0, 1) := by decide +kernel
theorem dL_rows_17 : decode cL_rows 17 = .ok (.iconst 0, 1) := by decide +kernel
theorem dL_rows_18 : decode cL_rows 18 = .ok (.invokestatic 97, 3) := by decide +kernel
theorem dL_rows_21 : decode cL_rows 21 = .ok (.ifCond .eq 5, 3) := by decide +kernel
theorem dL_rows_24 : decode cL_rows 24 = .ok (.iconst 0, 1) := by decide +kernel
theorem dL_rows_25 : decode cL_rows 25 = .ok (.ireturn, 1) := by decide +kernel
theorem dL_rows_26 : decode cL_rows 26 = .ok (.bipush 20, 2) := by decide +kernel
theorem dL_rows_28 : decode cL_rows 28 = .ok (.istore_n 1, 1) := by decide +kernel
theorem dL_rows_29 : decode cL_rows 29 = .ok (.iload_n 1, 1) := by decide +kernel
theorem dL_rows_30 : decode cL_rows 30 = .ok (.bipush 40, 2) := by decide +kernel
theorem dL_rows_32 : decode cL_rows 32 = .ok (.if_icmp .ge 44, 3) := by decide +kernel
theorem dL_rows_35 : decode cL_rows 35 = .ok (.aload_n 0, 1) := by decide +kernel
theorem dL_rows_36 : decode cL_rows 36 = .ok (.iconst 0, 1) := by decide +kernel
theorem dL_rows_37 : decode cL_rows 37 = .ok (.iconst 0, 1) := by decide +kernel
theorem dL_rows_38 : decode cL_rows 38 = .ok (.iload_n 1, 1) := by decide +kernel
theorem dL_rows_39 : decode cL_rows 39 = .ok (.iload_n 1, 1) := by decide +kernel
theorem dL_rows_40 : decode cL_rows 40 = .ok (.bipush 35, 2) := by decide +kernel
theorem dL_rows_42 : decode cL_rows 42 = .ok (.if_icmp .ge 18, 3) := by decide +kernel
theorem dL_rows_45 : decode cL_rows 45 = .ok (.iload_n 1, 1) := by decide +kernel
theorem dL_rows_46 : decode cL_rows 46 = .ok (.iconst 5, 1) := by decide +kernel
theorem dL_rows_47 : decode cL_rows 47 = .ok (.irem, 1) := by decide +kernel
theorem dL_rows_48 : decode cL_rows 48 = .ok (.iload_n 1, 1) := by decide +kernel
theorem dL_rows_49 : decode cL_rows 49 = .ok (.iconst 5, 1) := by decide +kernel
theorem dL_rows_50 : decode cL_rows 50 = .ok (.idiv, 1) := by decide +kernel
theorem dL_rows_51 : decode cL_rows 51 = .ok (.iconst 4, 1) := by decide +kernel
theorem dL_rows_52 : decode cL_rows 52 = .ok (.isub, 1) := by decide +kernel
theorem dL_rows_53 : decode cL_rows 53 = .ok (.if_icmp .ne 7, 3) := by decide +kernel
theorem dL_rows_56 : decode cL_rows 56 = .ok (.iconst 2, 1) := by decide +kernel
theorem dL_rows_57 : decode cL_rows 57 = .ok (.goto 4, 3) := by decide +kernel
theorem dL_rows_60 : decode cL_rows 60 = .ok (.iconst 1, 1) := by decide +kernel
theorem dL_rows_61 : decode cL_rows 61 = .ok (.invokevirtual 26, 3) := by decide +kernel
theorem dL_rows_64 : decode cL_rows 64 = .ok (.iconst (-1), 1) := by decide +kernel
theorem dL_rows_65 : decode cL_rows 65 = .ok (.if_icmp .eq 5, 3) := by decide +kernel
theorem dL_rows_68 : decode cL_rows 68 = .ok (.iconst 0, 1) := by decide +kernel
theorem dL_rows_69 : decode cL_rows 69 = .ok (.ireturn, 1) := by decide +kernel
theorem dL_rows_70 : decode cL_rows 70 = .ok (.iinc 1 1, 3) := by decide +kernel
theorem dL_rows_73 : decode cL_rows 73 = .ok (.goto (-44), 3) := by decide +kernel
theorem dL_rows_76 : decode cL_rows 76 = .ok (.aload_n 0, 1) := by decide +kernel
theorem dL_rows_77 : decode cL_rows 77 = .ok (.iconst 0, 1) := by decide +kernel
theorem dL_rows_78 : decode cL_rows 78 = .ok (.invokevirtual 45, 3) := by decide +kernel
theorem dL_rows_81 : decode cL_rows 81 = .ok (.iconst 5, 1) := by decide +kernel
theorem dL_rows_82 : decode cL_rows 82 = .ok (.if_icmp .ne 254, 3) := by decide +kernel
theorem dL_rows_85 : decode cL_rows 85 = .ok (.aload_n 0, 1) := by decide +kernel
theorem dL_rows_86 : decode cL_rows 86 = .ok (.iconst 0, 1) := by decide +kernel
theorem dL_rows_87 : decode cL_rows 87 = .ok (.bipush 7, 2) := by decide +kernel
theorem dL_rows_89 : decode cL_rows 89 = .ok (.iconst 5, 1) := by decide +kernel
theorem dL_rows_90 : decode cL_rows 90 = .ok (.iconst 5, 1) := by decide +kernel
theorem dL_rows_91 : decode cL_rows 91 = .ok (.iconst (-1), 1) := by decide +kernel
theorem dL_rows_92 : decode cL_rows 92 = .ok (.iconst (-1), 1) := by decide +kernel
theorem dL_rows_93 : decode cL_rows 93 = .ok (.invokestatic 107, 3) := by decide +kernel
theorem dL_rows_96 : decode cL_rows 96 = .ok (.ifCond .eq 240, 3) := by decide +kernel
theorem dL_rows_99 : decode cL_rows 99 = .ok (.aload_n 0, 1) := by decide +kernel
theorem dL_rows_100 : decode cL_rows 100 = .ok (.iconst 0, 1) := by decide +kernel
theorem dL_rows_101 : decode cL_rows 101 = .ok (.iconst 0, 1) := by decide +kernel
theorem dL_rows_102 : decode cL_rows 102 = .ok (.iconst 2, 1) := by decide +kernel
theorem dL_rows_103 : decode cL_rows 103 = .ok (.iconst 1, 1) := by decide +kernel
theorem dL_rows_104 : decode cL_rows 104 = .ok (.invokevirtual 30, 3) := by decide +kernel
theorem dL_rows_107 : decode cL_rows 107 = .ok (.ifCond .ne 229, 3) := by decide +kernel
theorem dL_rows_110 : decode cL_rows 110 = .ok (.aload_n 0, 1) := by decide +kernel
theorem dL_rows_111 : decode cL_rows 111 = .ok (.iconst 0, 1) := by decide +kernel
theorem dL_rows_112 : decode cL_rows 112 = .ok (.iconst 4, 1) := by decide +kernel
theorem dL_rows_113 : decode cL_rows 113 = .ok (.iconst 0, 1) := by decide +kernel
theorem dL_rows_114 : decode cL_rows 114 = .ok (.iconst 5, 1) := by decide +kernel
theorem dL_rows_115 : decode cL_rows 115 = .ok (.iconst 0, 1) := by decide +kernel
theorem dL_rows_116 : decode cL_rows 116 = .ok (.iconst (-1), 1) := by decide +kernel
theorem dL_rows_117 : decode cL_rows 117 = .ok (.invokestatic 107, 3) := by decide +kernel
theorem dL_rows_120 : decode cL_rows 120 = .ok (.ifCond .eq 216, 3) := by decide +kernel
theorem dL_rows_123 : decode cL_rows 123 = .ok (.aload_n 0, 1) := by decide +kernel
theorem dL_rows_124 : decode cL_rows 124 = .ok (.iconst 0, 1) := by decide +kernel
theorem dL_rows_125 : decode cL_rows 125 = .ok (.bipush 9, 2) := by decide +kernel
theorem dL_rows_127 : decode cL_rows 127 = .ok (.iconst 5, 1) := by decide +kernel
theorem dL_rows_128 : decode cL_rows 128 = .ok (.iconst 5, 1) := by decide +kernel
theorem dL_rows_129 : decode cL_rows 129 = .ok (.iconst 1, 1) := by decide +kernel
theorem dL_rows_130 : decode cL_rows 130 = .ok (.iconst (-1), 1) := by decide +kernel
theorem dL_rows_131 : decode cL_rows 131 = .ok (.invokestatic 107, 3) := by decide +kernel
theorem dL_rows_134 : decode cL_rows 134 = .ok (.ifCond .eq 202, 3) := by decide +kernel
theorem dL_rows_137 : decode cL_rows 137 = .ok (.aload_n 0, 1) := by decide +kernel
theorem dL_rows_138 : decode cL_rows 138 = .ok (.iconst 0, 1) := by decide +kernel
theorem dL_rows_139 : decode cL_rows 139 = .ok (.bipush 10, 2) := by decide +kernel
theorem dL_rows_141 : decode cL_rows 141 = .ok (.bipush 10, 2) := by decide +kernel
theorem dL_rows_143 : decode cL_rows 143 = .ok (.iconst 5, 1) := by decide +kernel
theorem dL_rows_144 : decode cL_rows 144 = .ok (.iconst 2, 1) := by decide +kernel
theorem dL_rows_145 : decode cL_rows 145 = .ok (.iconst (-1), 1) := by decide +kernel
theorem dL_rows_146 : decode cL_rows 146 = .ok (.invokestatic 107, 3) := by decide +kernel
theorem dL_rows_149 : decode cL_rows 149 = .ok (.ifCond .eq 187, 3) := by decide +kernel
theorem dL_rows_152 : decode cL_rows 152 = .ok (.aload_n 0, 1) := by decide +kernel
theorem dL_rows_153 : decode cL_rows 153 = .ok (.iconst 0, 1) := by decide +kernel
theorem dL_rows_154 : decode cL_rows 154 = .ok (.bipush 19, 2) := by decide +kernel
theorem dL_rows_156 : decode cL_rows 156 = .ok (.bipush 15, 2) := by decide +kernel
theorem dL_rows_158 : decode cL_rows 158 = .ok (.iconst 5, 1) := by decide +kernel
theorem dL_rows_159 : decode cL_rows 159 = .ok (.iconst 3, 1) := by decide +kernel
theorem dL_rows_160 : decode cL_rows 160 = .ok (.iconst (-1), 1) := by decide +kernel
theorem dL_rows_161 : decode cL_rows 161 = .ok (.invokestatic 107, 3) := by decide +kernel
theorem dL_rows_164 : decode cL_rows 164 = .ok (.ifCond .eq 172, 3) := by decide +kernel
theorem dL_rows_167 : decode cL_rows 167 = .ok (.aload_n 0, 1) := by decide +kernel
theorem dL_rows_168 : decode cL_rows 168 = .ok (.iconst 0, 1) := by decide +kernel
theorem dL_rows_169 : decode cL_rows 169 = .ok (.bipush 20, 2) := by decide +kernel
theorem dL_rows_171 : decode cL_rows 171 = .ok (.bipush 20, 2) := by decide +kernel
theorem dL_rows_173 : decode cL_rows 173 = .ok (.iconst 5, 1) := by decide +kernel
theorem dL_rows_174 : decode cL_rows 174 = .ok (.iconst (-1), 1) := by decide +kernel
theorem dL_rows_175 : decode cL_rows 175 = .ok (.bipush 35, 2) := by decide +kernel
theorem dL_rows_177 : decode cL_rows 177 = .ok (.invokestatic 107, 3) := by decide +kernel
theorem dL_rows_180 : decode cL_rows 180 = .ok (.ifCond .eq 156, 3) := by decide +kernel
theorem dL_rows_183 : decode cL_rows 183 = .ok (.aload_n 0, 1) := by decide +kernel
theorem dL_rows_184 : decode cL_rows 184 = .ok (.iconst 0, 1) := by decide +kernel
theorem dL_rows_185 : decode cL_rows 185 = .ok (.iconst 0, 1) := by decide +kernel
theorem dL_rows_186 : decode cL_rows 186 = .ok (.bipush 18, 2) := by decide +kernel
theorem dL_rows_188 : decode cL_rows 188 = .ok (.iconst 1, 1) := by decide +kernel
theorem dL_rows_189 : decode cL_rows 189 = .ok (.invokevirtual 30, 3) := by decide +kernel
theorem dL_rows_192 : decode cL_rows 192 = .ok (.ifCond .ne 144, 3) := by decide +kernel
theorem dL_rows_195 : decode cL_rows 195 = .ok (.aload_n 0, 1) := by decide +kernel
theorem dL_rows_196 : decode cL_rows 196 = .ok (.iconst 0, 1) := by decide +kernel
theorem dL_rows_197 : decode cL_rows 197 = .ok (.bipush 10, 2) := by decide +kernel
theorem dL_rows_199 : decode cL_rows 199 = .ok (.bipush 10, 2) := by decide +kernel
theorem dL_rows_201 : decode cL_rows 201 = .ok (.iconst 5, 1) := by decide +kernel
theorem dL_rows_202 : decode cL_rows 202 = .ok (.iconst 1, 1) := by decide +kernel
theorem dL_rows_203 : decode cL_rows 203 = .ok (.iconst (-1), 1) := by decide +kernel
theorem dL_rows_204 : decode cL_rows 204 = .ok (.invokestatic 107, 3) := by decide +kernel
theorem dL_rows_207 : decode cL_rows 207 = .ok (.ifCond .eq 129, 3) := by decide +kernel
theorem dL_rows_210 : decode cL_rows 210 = .ok (.aload_n 0, 1) := by decide +kernel
theorem dL_rows_211 : decode cL_rows 211 = .ok (.iconst 0, 1) := by decide +kernel
theorem dL_rows_212 : decode cL_rows 212 = .ok (.bipush 9, 2) := by decide +kernel
theorem dL_rows_214 : decode cL_rows 214 = .ok (.iconst 5, 1) := by decide +kernel
theorem dL_rows_215 : decode cL_rows 215 = .ok (.iconst 5, 1) := by decide +kernel
theorem dL_rows_216 : decode cL_rows 216 = .ok (.iconst 1, 1) := by decide +kernel
theorem dL_rows_217 : decode cL_rows 217 = .ok (.iconst (-1), 1) := by decide +kernel
theorem dL_rows_218 : decode cL_rows 218 = .ok (.invokestatic 107, 3) := by decide +kernel
theorem dL_rows_221 : decode cL_rows 221 = .ok (.ifCond .eq 115, 3) := by decide +kernel
theorem dL_rows_224 : decode cL_rows 224 = .ok (.aload_n 0, 1) := by decide +kernel
theorem dL_rows_225 : decode cL_rows 225 = .ok (.iconst 0, 1) := by decide +kernel
theorem dL_rows_226 : decode cL_rows 226 = .ok (.iconst 0, 1) := by decide +kernel
theorem dL_rows_227 : decode cL_rows 227 = .ok (.bipush 26, 2) := by decide +kernel
theorem dL_rows_229 : decode cL_rows 229 = .ok (.iconst 1, 1) := by decide +kernel
theorem dL_rows_230 : decode cL_rows 230 = .ok (.invokevirtual 26, 3) := by decide +kernel
theorem dL_rows_233 : decode cL_rows 233 = .ok (.iconst 2, 1) := by decide +kernel
theorem dL_rows_234 : decode cL_rows 234 = .ok (.if_icmp .ne 102, 3) := by decide +kernel
theorem dL_rows_237 : decode cL_rows 237 = .ok (.aload_n 0, 1) := by decide +kernel
theorem dL_rows_238 : decode cL_rows 238 = .ok (.iconst 0, 1) := by decide +kernel
theorem dL_rows_239 : decode cL_rows 239 = .ok (.iconst 0, 1) := by decide +kernel
theorem dL_rows_240 : decode cL_rows 240 = .ok (.bipush 20, 2) := by decide +kernel
theorem dL_rows_242 : decode cL_rows 242 = .ok (.iconst 1, 1) := by decide +kernel
theorem dL_rows_243 : decode cL_rows 243 = .ok (.invokevirtual 26, 3) := by decide +kernel
theorem dL_rows_246 : decode cL_rows 246 = .ok (.iconst 2, 1) := by decide +kernel
theorem dL_rows_247 : decode cL_rows 247 = .ok (.if_icmp .ne 89, 3) := by decide +kernel
theorem dL_rows_250 : decode cL_rows 250 = .ok (.aload_n 0, 1) := by decide +kernel
theorem dL_rows_251 : decode cL_rows 251 = .ok (.iconst 0, 1) := by decide +kernel
theorem dL_rows_252 : decode cL_rows 252 = .ok (.bipush 9, 2) := by decide +kernel
theorem dL_rows_254 : decode cL_rows 254 = .ok (.iconst 5, 1) := by decide +kernel
theorem dL_rows_255 : decode cL_rows 255 = .ok (.iconst 5, 1) := by decide +kernel
theorem dL_rows_256 : decode cL_rows 256 = .ok (.iconst (-1), 1) := by decide +kernel
theorem dL_rows_257 : decode cL_rows 257 = .ok (.bipush 20, 2) := by decide +kernel
theorem dL_rows_259 : decode cL_rows 259 = .ok (.invokestatic 107, 3) := by decide +kernel
theorem dL_rows_262 : decode cL_rows 262 = .ok (.ifCond .eq 74, 3) := by decide +kernel
theorem dL_rows_265 : decode cL_rows 265 = .ok (.aload_n 0, 1) := by decide +kernel
theorem dL_rows_266 : decode cL_rows 266 = .ok (.iconst 0, 1) := by decide +kernel
theorem dL_rows_267 : decode cL_rows 267 = .ok (.iconst 0, 1) := by decide +kernel
theorem dL_rows_268 : decode cL_rows 268 = .ok (.bipush 18, 2) := by decide +kernel
theorem dL_rows_270 : decode cL_rows 270 = .ok (.iconst 0, 1) := by decide +kernel
theorem dL_rows_271 : decode cL_rows 271 = .ok (.invokevirtual 30, 3) := by decide +kernel
theorem dL_rows_274 : decode cL_rows 274 = .ok (.ifCond .eq 62, 3) := by decide +kernel
theorem dL_rows_277 : decode cL_rows 277 = .ok (.aload_n 0, 1) := by decide +kernel
theorem dL_rows_278 : decode cL_rows 278 = .ok (.iconst 0, 1) := by decide +kernel
theorem dL_rows_279 : decode cL_rows 279 = .ok (.bipush 14, 2) := by decide +kernel
theorem dL_rows_281 : decode cL_rows 281 = .ok (.bipush 10, 2) := by decide +kernel
theorem dL_rows_283 : decode cL_rows 283 = .ok (.iconst 5, 1) := by decide +kernel
theorem dL_rows_284 : decode cL_rows 284 = .ok (.iconst (-1), 1) := by decide +kernel
theorem dL_rows_285 : decode cL_rows 285 = .ok (.iconst (-1), 1) := by decide +kernel
theorem dL_rows_286 : decode cL_rows 286 = .ok (.invokestatic 107, 3) := by decide +kernel
theorem dL_rows_289 : decode cL_rows 289 = .ok (.ifCond .eq 47, 3) := by decide +kernel
theorem dL_rows_292 : decode cL_rows 292 = .ok (.aload_n 0, 1) := by decide +kernel
theorem dL_rows_293 : decode cL_rows 293 = .ok (.iconst 0, 1) := by decide +kernel
theorem dL_rows_294 : decode cL_rows 294 = .ok (.bipush 15, 2) := by decide +kernel
theorem dL_rows_296 : decode cL_rows 296 = .ok (.bipush 15, 2) := by decide +kernel
theorem dL_rows_298 : decode cL_rows 298 = .ok (.iconst 5, 1) := by decide +kernel
theorem dL_rows_299 : decode cL_rows 299 = .ok (.iconst (-1), 1) := by decide +kernel
theorem dL_rows_300 : decode cL_rows 300 = .ok (.iconst (-1), 1) := by decide +kernel
theorem dL_rows_301 : decode cL_rows 301 = .ok (.invokestatic 107, 3) := by decide +kernel
theorem dL_rows_304 : decode cL_rows 304 = .ok (.ifCond .eq 32, 3) := by decide +kernel
theorem dL_rows_307 : decode cL_rows 307 = .ok (.aload_n 0, 1) := by decide +kernel
theorem dL_rows_308 : decode cL_rows 308 = .ok (.iconst 0, 1) := by decide +kernel
theorem dL_rows_309 : decode cL_rows 309 = .ok (.bipush 24, 2) := by decide +kernel
theorem dL_rows_311 : decode cL_rows 311 = .ok (.bipush 20, 2) := by decide +kernel
theorem dL_rows_313 : decode cL_rows 313 = .ok (.iconst 5, 1) := by decide +kernel
theorem dL_rows_314 : decode cL_rows 314 = .ok (.iconst (-1), 1) := by decide +kernel
theorem dL_rows_315 : decode cL_rows 315 = .ok (.iconst (-1), 1) := by decide +kernel
theorem dL_rows_316 : decode cL_rows 316 = .ok (.invokestatic 107, 3) := by decide +kernel
theorem dL_rows_319 : decode cL_rows 319 = .ok (.ifCond .eq 17, 3) := by decide +kernel
theorem dL_rows_322 : decode cL_rows 322 = .ok (.aload_n 0, 1) := by decide +kernel
theorem dL_rows_323 : decode cL_rows 323 = .ok (.iconst 0, 1) := by decide +kernel
theorem dL_rows_324 : decode cL_rows 324 = .ok (.iconst 5, 1) := by decide +kernel
theorem dL_rows_325 : decode cL_rows 325 = .ok (.iconst 5, 1) := by decide +kernel
theorem dL_rows_326 : decode cL_rows 326 = .ok (.iconst 5, 1) := by decide +kernel
theorem dL_rows_327 : decode cL_rows 327 = .ok (.iconst (-1), 1) := by decide +kernel
theorem dL_rows_328 : decode cL_rows 328 = .ok (.bipush 20, 2) := by decide +kernel
theorem dL_rows_330 : decode cL_rows 330 = .ok (.invokestatic 107, 3) := by decide +kernel
theorem dL_rows_333 : decode cL_rows 333 = .ok (.ifCond .ne 5, 3) := by decide +kernel
theorem dL_rows_336 : decode cL_rows 336 = .ok (.iconst 0, 1) := by decide +kernel
theorem dL_rows_337 : decode cL_rows 337 = .ok (.ireturn, 1) := by decide +kernel
theorem dL_rows_338 : decode cL_rows 338 = .ok (.aload_n 0, 1) := by decide +kernel
theorem dL_rows_339 : decode cL_rows 339 = .ok (.iconst 0, 1) := by decide +kernel
theorem dL_rows_340 : decode cL_rows 340 = .ok (.iconst 0, 1) := by decide +kernel
theorem dL_rows_341 : decode cL_rows 341 = .ok (.bipush 24, 2) := by decide +kernel
theorem dL_rows_343 : decode cL_rows 343 = .ok (.iconst 1, 1) := by decide +kernel
theorem dL_rows_344 : decode cL_rows 344 = .ok (.invokevirtual 30, 3) := by decide +kernel
theorem dL_rows_347 : decode cL_rows 347 = .ok (.ifCond .ne 98, 3) := by decide +kernel
theorem dL_rows_350 : decode cL_rows 350 = .ok (.aload_n 0, 1) := by decide +kernel
theorem dL_rows_351 : decode cL_rows 351 = .ok (.iconst 0, 1) := by decide +kernel
theorem dL_rows_352 : decode cL_rows 352 = .ok (.bipush 14, 2) := by decide +kernel
theorem dL_rows_354 : decode cL_rows 354 = .ok (.bipush 10, 2) := by decide +kernel
theorem dL_rows_356 : decode cL_rows 356 = .ok (.iconst 5, 1) := by decide +kernel
theorem dL_rows_357 : decode cL_rows 357 = .ok (.iconst (-1), 1) := by decide +kernel
theorem dL_rows_358 : decode cL_rows 358 = .ok (.bipush 35, 2) := by decide +kernel
theorem dL_rows_360 : decode cL_rows 360 = .ok (.invokestatic 107, 3) := by decide +kernel
theorem dL_rows_363 : decode cL_rows 363 = .ok (.ifCond .eq 82, 3) := by decide +kernel
theorem dL_rows_366 : decode cL_rows 366 = .ok (.aload_n 0, 1) := by decide +kernel
theorem dL_rows_367 : decode cL_rows 367 = .ok (.iconst 0, 1) := by decide +kernel
theorem dL_rows_368 : decode cL_rows 368 = .ok (.iconst 5, 1) := by decide +kernel
theorem dL_rows_369 : decode cL_rows 369 = .ok (.iconst 5, 1) := by decide +kernel
theorem dL_rows_370 : decode cL_rows 370 = .ok (.iconst 5, 1) := by decide +kernel
theorem dL_rows_371 : decode cL_rows 371 = .ok (.iconst (-1), 1) := by decide +kernel
theorem dL_rows_372 : decode cL_rows 372 = .ok (.bipush 20, 2) := by decide +kernel
theorem dL_rows_374 : decode cL_rows 374 = .ok (.invokestatic 107, 3) := by decide +kernel
theorem dL_rows_377 : decode cL_rows 377 = .ok (.ifCond .eq 68, 3) := by decide +kernel
theorem dL_rows_380 : decode cL_rows 380 = .ok (.aload_n 0, 1) := by decide +kernel
theorem dL_rows_381 : decode cL_rows 381 = .ok (.iconst 0, 1) := by decide +kernel
theorem dL_rows_382 : decode cL_rows 382 = .ok (.iconst 0, 1) := by decide +kernel
theorem dL_rows_383 : decode cL_rows 383 = .ok (.bipush 20, 2) := by decide +kernel
theorem dL_rows_385 : decode cL_rows 385 = .ok (.iconst 0, 1) := by decide +kernel
theorem dL_rows_386 : decode cL_rows 386 = .ok (.invokevirtual 26, 3) := by decide +kernel
theorem dL_rows_389 : decode cL_rows 389 = .ok (.iconst 1, 1) := by decide +kernel
theorem dL_rows_390 : decode cL_rows 390 = .ok (.if_icmp .ne 55, 3) := by decide +kernel
theorem dL_rows_393 : decode cL_rows 393 = .ok (.aload_n 0, 1) := by decide +kernel
theorem dL_rows_394 : decode cL_rows 394 = .ok (.iconst 0, 1) := by decide +kernel
theorem dL_rows_395 : decode cL_rows 395 = .ok (.invokevirtual 45, 3) := by decide +kernel
theorem dL_rows_398 : decode cL_rows 398 = .ok (.iconst 4, 1) := by decide +kernel
theorem dL_rows_399 : decode cL_rows 399 = .ok (.if_icmp .ne 46, 3) := by decide +kernel
theorem dL_rows_402 : decode cL_rows 402 = .ok (.aload_n 0, 1) := by decide +kernel
theorem dL_rows_403 : decode cL_rows 403 = .ok (.iconst 0, 1) := by decide +kernel
theorem dL_rows_404 : decode cL_rows 404 = .ok (.iconst 5, 1) := by decide +kernel
theorem dL_rows_405 : decode cL_rows 405 = .ok (.iconst 0, 1) := by decide +kernel
theorem dL_rows_406 : decode cL_rows 406 = .ok (.bipush 10, 2) := by decide +kernel
theorem dL_rows_408 : decode cL_rows 408 = .ok (.iconst 0, 1) := by decide +kernel
theorem dL_rows_409 : decode cL_rows 409 = .ok (.iconst (-1), 1) := by decide +kernel
theorem dL_rows_410 : decode cL_rows 410 = .ok (.invokestatic 107, 3) := by decide +kernel
theorem dL_rows_413 : decode cL_rows 413 = .ok (.ifCond .eq 32, 3) := by decide +kernel
theorem dL_rows_416 : decode cL_rows 416 = .ok (.aload_n 0, 1) := by decide +kernel
theorem dL_rows_417 : decode cL_rows 417 = .ok (.iconst 0, 1) := by decide +kernel
theorem dL_rows_418 : decode cL_rows 418 = .ok (.bipush 10, 2) := by decide +kernel
theorem dL_rows_420 : decode cL_rows 420 = .ok (.bipush 10, 2) := by decide +kernel
theorem dL_rows_422 : decode cL_rows 422 = .ok (.iconst 5, 1) := by decide +kernel
theorem dL_rows_423 : decode cL_rows 423 = .ok (.iconst (-1), 1) := by decide +kernel
theorem dL_rows_424 : decode cL_rows 424 = .ok (.bipush 25, 2) := by decide +kernel
theorem dL_rows_426 : decode cL_rows 426 = .ok (.invokestatic 107, 3) := by decide +kernel
theorem dL_rows_429 : decode cL_rows 429 = .ok (.ifCond .eq 16, 3) := by decide +kernel
theorem dL_rows_432 : decode cL_rows 432 = .ok (.aload_n 0, 1) := by decide +kernel
theorem dL_rows_433 : decode cL_rows 433 = .ok (.iconst 0, 1) := by decide +kernel
theorem dL_rows_434 : decode cL_rows 434 = .ok (.iconst 0, 1) := by decide +kernel
theorem dL_rows_435 : decode cL_rows 435 = .ok (.invokestatic 103, 3) := by decide +kernel
theorem dL_rows_438 : decode cL_rows 438 = .ok (.ifCond .eq 7, 3) := by decide +kernel
theorem dL_rows_441 : decode cL_rows 441 = .ok (.iconst 1, 1) := by decide +kernel
