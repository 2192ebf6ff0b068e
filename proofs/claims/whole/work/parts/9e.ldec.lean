theorem dlaw_0 : decode code 0 = .ok (.new 7, 3) := by decide +kernel
theorem dlaw_3 : decode code 3 = .ok (.dup, 1) := by decide +kernel
theorem dlaw_4 : decode code 4 = .ok (.invokespecial 9, 3) := by decide +kernel
theorem dlaw_7 : decode code 7 = .ok (.astore_n 1, 1) := by decide +kernel
theorem dlaw_8 : decode code 8 = .ok (.new 10, 3) := by decide +kernel
theorem dlaw_11 : decode code 11 = .ok (.dup, 1) := by decide +kernel
theorem dlaw_12 : decode code 12 = .ok (.invokespecial 12, 3) := by decide +kernel
theorem dlaw_15 : decode code 15 = .ok (.astore_n 2, 1) := by decide +kernel
theorem dlaw_16 : decode code 16 = .ok (.iconst 0, 1) := by decide +kernel
theorem dlaw_17 : decode code 17 = .ok (.istore_n 3, 1) := by decide +kernel
theorem dlaw_18 : decode code 18 = .ok (.iload_n 3, 1) := by decide +kernel
theorem dlaw_19 : decode code 19 = .ok (.aload_n 0, 1) := by decide +kernel
theorem dlaw_20 : decode code 20 = .ok (.arraylength, 1) := by decide +kernel
theorem dlaw_21 : decode code 21 = .ok (.bipush 6, 2) := by decide +kernel
theorem dlaw_23 : decode code 23 = .ok (.isub, 1) := by decide +kernel
theorem dlaw_24 : decode code 24 = .ok (.if_icmp .gt 1079, 3) := by decide +kernel
theorem dlaw_27 : decode code 27 = .ok (.aload_n 0, 1) := by decide +kernel
theorem dlaw_28 : decode code 28 = .ok (.iload_n 3, 1) := by decide +kernel
theorem dlaw_29 : decode code 29 = .ok (.iaload, 1) := by decide +kernel
theorem dlaw_30 : decode code 30 = .ok (.bipush 31, 2) := by decide +kernel
theorem dlaw_32 : decode code 32 = .ok (.iand, 1) := by decide +kernel
theorem dlaw_33 : decode code 33 = .ok (.tableswitch 1064 0 30 #[139, 182, 215, 258, 291, 314, 327, 350, 383, 426, 469, 502, 535, 548, 571, 594, 607, 641, 654, 677, 700, 733, 756, 780, 793, 806, 829, 872, 915, 978, 1031], 139) := by decide +kernel
theorem dlaw_172 : decode code 172 = .ok (.aload_n 1, 1) := by decide +kernel
theorem dlaw_173 : decode code 173 = .ok (.aload_n 0, 1) := by decide +kernel
theorem dlaw_174 : decode code 174 = .ok (.iload_n 3, 1) := by decide +kernel
theorem dlaw_175 : decode code 175 = .ok (.iconst 1, 1) := by decide +kernel
theorem dlaw_176 : decode code 176 = .ok (.iadd, 1) := by decide +kernel
theorem dlaw_177 : decode code 177 = .ok (.iaload, 1) := by decide +kernel
theorem dlaw_178 : decode code 178 = .ok (.aload_n 0, 1) := by decide +kernel
theorem dlaw_179 : decode code 179 = .ok (.iload_n 3, 1) := by decide +kernel
theorem dlaw_180 : decode code 180 = .ok (.iconst 2, 1) := by decide +kernel
theorem dlaw_181 : decode code 181 = .ok (.iadd, 1) := by decide +kernel
theorem dlaw_182 : decode code 182 = .ok (.iaload, 1) := by decide +kernel
theorem dlaw_183 : decode code 183 = .ok (.aload_n 0, 1) := by decide +kernel
theorem dlaw_184 : decode code 184 = .ok (.iload_n 3, 1) := by decide +kernel
theorem dlaw_185 : decode code 185 = .ok (.iconst 3, 1) := by decide +kernel
theorem dlaw_186 : decode code 186 = .ok (.iadd, 1) := by decide +kernel
theorem dlaw_187 : decode code 187 = .ok (.iaload, 1) := by decide +kernel
theorem dlaw_188 : decode code 188 = .ok (.invokevirtual 13, 3) := by decide +kernel
theorem dlaw_191 : decode code 191 = .ok (.aload_n 2, 1) := by decide +kernel
theorem dlaw_192 : decode code 192 = .ok (.aload_n 0, 1) := by decide +kernel
theorem dlaw_193 : decode code 193 = .ok (.iload_n 3, 1) := by decide +kernel
theorem dlaw_194 : decode code 194 = .ok (.iconst 1, 1) := by decide +kernel
theorem dlaw_195 : decode code 195 = .ok (.iadd, 1) := by decide +kernel
theorem dlaw_196 : decode code 196 = .ok (.iaload, 1) := by decide +kernel
theorem dlaw_197 : decode code 197 = .ok (.aload_n 0, 1) := by decide +kernel
theorem dlaw_198 : decode code 198 = .ok (.iload_n 3, 1) := by decide +kernel
theorem dlaw_199 : decode code 199 = .ok (.iconst 2, 1) := by decide +kernel
theorem dlaw_200 : decode code 200 = .ok (.iadd, 1) := by decide +kernel
theorem dlaw_201 : decode code 201 = .ok (.iaload, 1) := by decide +kernel
theorem dlaw_202 : decode code 202 = .ok (.aload_n 0, 1) := by decide +kernel
theorem dlaw_203 : decode code 203 = .ok (.iload_n 3, 1) := by decide +kernel
theorem dlaw_204 : decode code 204 = .ok (.iconst 3, 1) := by decide +kernel
theorem dlaw_205 : decode code 205 = .ok (.iadd, 1) := by decide +kernel
theorem dlaw_206 : decode code 206 = .ok (.iaload, 1) := by decide +kernel
theorem dlaw_207 : decode code 207 = .ok (.invokevirtual 17, 3) := by decide +kernel
theorem dlaw_210 : decode code 210 = .ok (.if_icmp .eq 887, 3) := by decide +kernel
theorem dlaw_213 : decode code 213 = .ok (.iconst 0, 1) := by decide +kernel
theorem dlaw_214 : decode code 214 = .ok (.ireturn, 1) := by decide +kernel
theorem dlaw_215 : decode code 215 = .ok (.aload_n 1, 1) := by decide +kernel
theorem dlaw_216 : decode code 216 = .ok (.aload_n 0, 1) := by decide +kernel
theorem dlaw_217 : decode code 217 = .ok (.iload_n 3, 1) := by decide +kernel
theorem dlaw_218 : decode code 218 = .ok (.iconst 1, 1) := by decide +kernel
theorem dlaw_219 : decode code 219 = .ok (.iadd, 1) := by decide +kernel
theorem dlaw_220 : decode code 220 = .ok (.iaload, 1) := by decide +kernel
theorem dlaw_221 : decode code 221 = .ok (.aload_n 0, 1) := by decide +kernel
theorem dlaw_222 : decode code 222 = .ok (.iload_n 3, 1) := by decide +kernel
theorem dlaw_223 : decode code 223 = .ok (.iconst 2, 1) := by decide +kernel
theorem dlaw_224 : decode code 224 = .ok (.iadd, 1) := by decide +kernel
theorem dlaw_225 : decode code 225 = .ok (.iaload, 1) := by decide +kernel
theorem dlaw_226 : decode code 226 = .ok (.invokevirtual 18, 3) := by decide +kernel
theorem dlaw_229 : decode code 229 = .ok (.aload_n 2, 1) := by decide +kernel
theorem dlaw_230 : decode code 230 = .ok (.aload_n 0, 1) := by decide +kernel
theorem dlaw_231 : decode code 231 = .ok (.iload_n 3, 1) := by decide +kernel
theorem dlaw_232 : decode code 232 = .ok (.iconst 1, 1) := by decide +kernel
theorem dlaw_233 : decode code 233 = .ok (.iadd, 1) := by decide +kernel
theorem dlaw_234 : decode code 234 = .ok (.iaload, 1) := by decide +kernel
theorem dlaw_235 : decode code 235 = .ok (.aload_n 0, 1) := by decide +kernel
theorem dlaw_236 : decode code 236 = .ok (.iload_n 3, 1) := by decide +kernel
theorem dlaw_237 : decode code 237 = .ok (.iconst 2, 1) := by decide +kernel
theorem dlaw_238 : decode code 238 = .ok (.iadd, 1) := by decide +kernel
theorem dlaw_239 : decode code 239 = .ok (.iaload, 1) := by decide +kernel
theorem dlaw_240 : decode code 240 = .ok (.invokevirtual 22, 3) := by decide +kernel
theorem dlaw_243 : decode code 243 = .ok (.if_icmp .eq 854, 3) := by decide +kernel
theorem dlaw_246 : decode code 246 = .ok (.iconst 0, 1) := by decide +kernel
theorem dlaw_247 : decode code 247 = .ok (.ireturn, 1) := by decide +kernel
theorem dlaw_248 : decode code 248 = .ok (.aload_n 1, 1) := by decide +kernel
theorem dlaw_249 : decode code 249 = .ok (.aload_n 0, 1) := by decide +kernel
theorem dlaw_250 : decode code 250 = .ok (.iload_n 3, 1) := by decide +kernel
theorem dlaw_251 : decode code 251 = .ok (.iconst 1, 1) := by decide +kernel
theorem dlaw_252 : decode code 252 = .ok (.iadd, 1) := by decide +kernel
theorem dlaw_253 : decode code 253 = .ok (.iaload, 1) := by decide +kernel
theorem dlaw_254 : decode code 254 = .ok (.aload_n 0, 1) := by decide +kernel
theorem dlaw_255 : decode code 255 = .ok (.iload_n 3, 1) := by decide +kernel
theorem dlaw_256 : decode code 256 = .ok (.iconst 2, 1) := by decide +kernel
theorem dlaw_257 : decode code 257 = .ok (.iadd, 1) := by decide +kernel
theorem dlaw_258 : decode code 258 = .ok (.iaload, 1) := by decide +kernel
theorem dlaw_259 : decode code 259 = .ok (.aload_n 0, 1) := by decide +kernel
theorem dlaw_260 : decode code 260 = .ok (.iload_n 3, 1) := by decide +kernel
theorem dlaw_261 : decode code 261 = .ok (.iconst 3, 1) := by decide +kernel
theorem dlaw_262 : decode code 262 = .ok (.iadd, 1) := by decide +kernel
theorem dlaw_263 : decode code 263 = .ok (.iaload, 1) := by decide +kernel
theorem dlaw_264 : decode code 264 = .ok (.invokevirtual 23, 3) := by decide +kernel
theorem dlaw_267 : decode code 267 = .ok (.aload_n 2, 1) := by decide +kernel
theorem dlaw_268 : decode code 268 = .ok (.aload_n 0, 1) := by decide +kernel
theorem dlaw_269 : decode code 269 = .ok (.iload_n 3, 1) := by decide +kernel
theorem dlaw_270 : decode code 270 = .ok (.iconst 1, 1) := by decide +kernel
theorem dlaw_271 : decode code 271 = .ok (.iadd, 1) := by decide +kernel
theorem dlaw_272 : decode code 272 = .ok (.iaload, 1) := by decide +kernel
theorem dlaw_273 : decode code 273 = .ok (.aload_n 0, 1) := by decide +kernel
theorem dlaw_274 : decode code 274 = .ok (.iload_n 3, 1) := by decide +kernel
theorem dlaw_275 : decode code 275 = .ok (.iconst 2, 1) := by decide +kernel
theorem dlaw_276 : decode code 276 = .ok (.iadd, 1) := by decide +kernel
theorem dlaw_277 : decode code 277 = .ok (.iaload, 1) := by decide +kernel
theorem dlaw_278 : decode code 278 = .ok (.aload_n 0, 1) := by decide +kernel
theorem dlaw_279 : decode code 279 = .ok (.iload_n 3, 1) := by decide +kernel
theorem dlaw_280 : decode code 280 = .ok (.iconst 3, 1) := by decide +kernel
theorem dlaw_281 : decode code 281 = .ok (.iadd, 1) := by decide +kernel
theorem dlaw_282 : decode code 282 = .ok (.iaload, 1) := by decide +kernel
theorem dlaw_283 : decode code 283 = .ok (.invokevirtual 26, 3) := by decide +kernel
theorem dlaw_286 : decode code 286 = .ok (.if_icmp .eq 811, 3) := by decide +kernel
theorem dlaw_289 : decode code 289 = .ok (.iconst 0, 1) := by decide +kernel
theorem dlaw_290 : decode code 290 = .ok (.ireturn, 1) := by decide +kernel
theorem dlaw_291 : decode code 291 = .ok (.aload_n 1, 1) := by decide +kernel
theorem dlaw_292 : decode code 292 = .ok (.aload_n 0, 1) := by decide +kernel
theorem dlaw_293 : decode code 293 = .ok (.iload_n 3, 1) := by decide +kernel
theorem dlaw_294 : decode code 294 = .ok (.iconst 1, 1) := by decide +kernel
theorem dlaw_295 : decode code 295 = .ok (.iadd, 1) := by decide +kernel
theorem dlaw_296 : decode code 296 = .ok (.iaload, 1) := by decide +kernel
theorem dlaw_297 : decode code 297 = .ok (.aload_n 0, 1) := by decide +kernel
theorem dlaw_298 : decode code 298 = .ok (.iload_n 3, 1) := by decide +kernel
theorem dlaw_299 : decode code 299 = .ok (.iconst 2, 1) := by decide +kernel
theorem dlaw_300 : decode code 300 = .ok (.iadd, 1) := by decide +kernel
theorem dlaw_301 : decode code 301 = .ok (.iaload, 1) := by decide +kernel
theorem dlaw_302 : decode code 302 = .ok (.invokevirtual 27, 3) := by decide +kernel
theorem dlaw_305 : decode code 305 = .ok (.aload_n 2, 1) := by decide +kernel
theorem dlaw_306 : decode code 306 = .ok (.aload_n 0, 1) := by decide +kernel
theorem dlaw_307 : decode code 307 = .ok (.iload_n 3, 1) := by decide +kernel
theorem dlaw_308 : decode code 308 = .ok (.iconst 1, 1) := by decide +kernel
theorem dlaw_309 : decode code 309 = .ok (.iadd, 1) := by decide +kernel
theorem dlaw_310 : decode code 310 = .ok (.iaload, 1) := by decide +kernel
theorem dlaw_311 : decode code 311 = .ok (.aload_n 0, 1) := by decide +kernel
theorem dlaw_312 : decode code 312 = .ok (.iload_n 3, 1) := by decide +kernel
theorem dlaw_313 : decode code 313 = .ok (.iconst 2, 1) := by decide +kernel
theorem dlaw_314 : decode code 314 = .ok (.iadd, 1) := by decide +kernel
theorem dlaw_315 : decode code 315 = .ok (.iaload, 1) := by decide +kernel
theorem dlaw_316 : decode code 316 = .ok (.invokevirtual 30, 3) := by decide +kernel
theorem dlaw_319 : decode code 319 = .ok (.if_icmp .eq 778, 3) := by decide +kernel
theorem dlaw_322 : decode code 322 = .ok (.iconst 0, 1) := by decide +kernel
theorem dlaw_323 : decode code 323 = .ok (.ireturn, 1) := by decide +kernel
theorem dlaw_324 : decode code 324 = .ok (.aload_n 1, 1) := by decide +kernel
theorem dlaw_325 : decode code 325 = .ok (.aload_n 0, 1) := by decide +kernel
theorem dlaw_326 : decode code 326 = .ok (.iload_n 3, 1) := by decide +kernel
theorem dlaw_327 : decode code 327 = .ok (.iconst 1, 1) := by decide +kernel
theorem dlaw_328 : decode code 328 = .ok (.iadd, 1) := by decide +kernel
theorem dlaw_329 : decode code 329 = .ok (.iaload, 1) := by decide +kernel
theorem dlaw_330 : decode code 330 = .ok (.invokevirtual 31, 3) := by decide +kernel
theorem dlaw_333 : decode code 333 = .ok (.aload_n 2, 1) := by decide +kernel
theorem dlaw_334 : decode code 334 = .ok (.aload_n 0, 1) := by decide +kernel
theorem dlaw_335 : decode code 335 = .ok (.iload_n 3, 1) := by decide +kernel
theorem dlaw_336 : decode code 336 = .ok (.iconst 1, 1) := by decide +kernel
theorem dlaw_337 : decode code 337 = .ok (.iadd, 1) := by decide +kernel
theorem dlaw_338 : decode code 338 = .ok (.iaload, 1) := by decide +kernel
theorem dlaw_339 : decode code 339 = .ok (.invokevirtual 35, 3) := by decide +kernel
theorem dlaw_342 : decode code 342 = .ok (.if_icmp .eq 755, 3) := by decide +kernel
theorem dlaw_345 : decode code 345 = .ok (.iconst 0, 1) := by decide +kernel
theorem dlaw_346 : decode code 346 = .ok (.ireturn, 1) := by decide +kernel
theorem dlaw_347 : decode code 347 = .ok (.aload_n 1, 1) := by decide +kernel
theorem dlaw_348 : decode code 348 = .ok (.invokevirtual 36, 3) := by decide +kernel
theorem dlaw_351 : decode code 351 = .ok (.aload_n 2, 1) := by decide +kernel
theorem dlaw_352 : decode code 352 = .ok (.invokevirtual 40, 3) := by decide +kernel
theorem dlaw_355 : decode code 355 = .ok (.if_icmp .eq 742, 3) := by decide +kernel
theorem dlaw_358 : decode code 358 = .ok (.iconst 0, 1) := by decide +kernel
theorem dlaw_359 : decode code 359 = .ok (.ireturn, 1) := by decide +kernel
theorem dlaw_360 : decode code 360 = .ok (.aload_n 1, 1) := by decide +kernel
theorem dlaw_361 : decode code 361 = .ok (.aload_n 0, 1) := by decide +kernel
theorem dlaw_362 : decode code 362 = .ok (.iload_n 3, 1) := by decide +kernel
theorem dlaw_363 : decode code 363 = .ok (.iconst 1, 1) := by decide +kernel
theorem dlaw_364 : decode code 364 = .ok (.iadd, 1) := by decide +kernel
theorem dlaw_365 : decode code 365 = .ok (.iaload, 1) := by decide +kernel
theorem dlaw_366 : decode code 366 = .ok (.invokevirtual 41, 3) := by decide +kernel
theorem dlaw_369 : decode code 369 = .ok (.aload_n 2, 1) := by decide +kernel
theorem dlaw_370 : decode code 370 = .ok (.aload_n 0, 1) := by decide +kernel
theorem dlaw_371 : decode code 371 = .ok (.iload_n 3, 1) := by decide +kernel
theorem dlaw_372 : decode code 372 = .ok (.iconst 1, 1) := by decide +kernel
theorem dlaw_373 : decode code 373 = .ok (.iadd, 1) := by decide +kernel
theorem dlaw_374 : decode code 374 = .ok (.iaload, 1) := by decide +kernel
theorem dlaw_375 : decode code 375 = .ok (.invokevirtual 44, 3) := by decide +kernel
theorem dlaw_378 : decode code 378 = .ok (.if_icmp .eq 719, 3) := by decide +kernel
theorem dlaw_381 : decode code 381 = .ok (.iconst 0, 1) := by decide +kernel
theorem dlaw_382 : decode code 382 = .ok (.ireturn, 1) := by decide +kernel
theorem dlaw_383 : decode code 383 = .ok (.aload_n 1, 1) := by decide +kernel
theorem dlaw_384 : decode code 384 = .ok (.aload_n 0, 1) := by decide +kernel
theorem dlaw_385 : decode code 385 = .ok (.iload_n 3, 1) := by decide +kernel
theorem dlaw_386 : decode code 386 = .ok (.iconst 1, 1) := by decide +kernel
theorem dlaw_387 : decode code 387 = .ok (.iadd, 1) := by decide +kernel
theorem dlaw_388 : decode code 388 = .ok (.iaload, 1) := by decide +kernel
theorem dlaw_389 : decode code 389 = .ok (.aload_n 0, 1) := by decide +kernel
theorem dlaw_390 : decode code 390 = .ok (.iload_n 3, 1) := by decide +kernel
theorem dlaw_391 : decode code 391 = .ok (.iconst 2, 1) := by decide +kernel
theorem dlaw_392 : decode code 392 = .ok (.iadd, 1) := by decide +kernel
theorem dlaw_393 : decode code 393 = .ok (.iaload, 1) := by decide +kernel
theorem dlaw_394 : decode code 394 = .ok (.invokevirtual 45, 3) := by decide +kernel
theorem dlaw_397 : decode code 397 = .ok (.aload_n 2, 1) := by decide +kernel
theorem dlaw_398 : decode code 398 = .ok (.aload_n 0, 1) := by decide +kernel
theorem dlaw_399 : decode code 399 = .ok (.iload_n 3, 1) := by decide +kernel
theorem dlaw_400 : decode code 400 = .ok (.iconst 1, 1) := by decide +kernel
theorem dlaw_401 : decode code 401 = .ok (.iadd, 1) := by decide +kernel
theorem dlaw_402 : decode code 402 = .ok (.iaload, 1) := by decide +kernel
theorem dlaw_403 : decode code 403 = .ok (.aload_n 0, 1) := by decide +kernel
theorem dlaw_404 : decode code 404 = .ok (.iload_n 3, 1) := by decide +kernel
theorem dlaw_405 : decode code 405 = .ok (.iconst 2, 1) := by decide +kernel
theorem dlaw_406 : decode code 406 = .ok (.iadd, 1) := by decide +kernel
theorem dlaw_407 : decode code 407 = .ok (.iaload, 1) := by decide +kernel
theorem dlaw_408 : decode code 408 = .ok (.invokevirtual 48, 3) := by decide +kernel
theorem dlaw_411 : decode code 411 = .ok (.if_icmp .eq 686, 3) := by decide +kernel
theorem dlaw_414 : decode code 414 = .ok (.iconst 0, 1) := by decide +kernel
theorem dlaw_415 : decode code 415 = .ok (.ireturn, 1) := by decide +kernel
theorem dlaw_416 : decode code 416 = .ok (.aload_n 1, 1) := by decide +kernel
theorem dlaw_417 : decode code 417 = .ok (.aload_n 0, 1) := by decide +kernel
theorem dlaw_418 : decode code 418 = .ok (.iload_n 3, 1) := by decide +kernel
theorem dlaw_419 : decode code 419 = .ok (.iconst 1, 1) := by decide +kernel
theorem dlaw_420 : decode code 420 = .ok (.iadd, 1) := by decide +kernel
theorem dlaw_421 : decode code 421 = .ok (.iaload, 1) := by decide +kernel
theorem dlaw_422 : decode code 422 = .ok (.aload_n 0, 1) := by decide +kernel
theorem dlaw_423 : decode code 423 = .ok (.iload_n 3, 1) := by decide +kernel
theorem dlaw_424 : decode code 424 = .ok (.iconst 2, 1) := by decide +kernel
theorem dlaw_425 : decode code 425 = .ok (.iadd, 1) := by decide +kernel
theorem dlaw_426 : decode code 426 = .ok (.iaload, 1) := by decide +kernel
theorem dlaw_427 : decode code 427 = .ok (.aload_n 0, 1) := by decide +kernel
theorem dlaw_428 : decode code 428 = .ok (.iload_n 3, 1) := by decide +kernel
theorem dlaw_429 : decode code 429 = .ok (.iconst 3, 1) := by decide +kernel
theorem dlaw_430 : decode code 430 = .ok (.iadd, 1) := by decide +kernel
theorem dlaw_431 : decode code 431 = .ok (.iaload, 1) := by decide +kernel
theorem dlaw_432 : decode code 432 = .ok (.invokevirtual 49, 3) := by decide +kernel
theorem dlaw_435 : decode code 435 = .ok (.aload_n 2, 1) := by decide +kernel
theorem dlaw_436 : decode code 436 = .ok (.aload_n 0, 1) := by decide +kernel
theorem dlaw_437 : decode code 437 = .ok (.iload_n 3, 1) := by decide +kernel
theorem dlaw_438 : decode code 438 = .ok (.iconst 1, 1) := by decide +kernel
theorem dlaw_439 : decode code 439 = .ok (.iadd, 1) := by decide +kernel
theorem dlaw_440 : decode code 440 = .ok (.iaload, 1) := by decide +kernel
theorem dlaw_441 : decode code 441 = .ok (.aload_n 0, 1) := by decide +kernel
theorem dlaw_442 : decode code 442 = .ok (.iload_n 3, 1) := by decide +kernel
theorem dlaw_443 : decode code 443 = .ok (.iconst 2, 1) := by decide +kernel
theorem dlaw_444 : decode code 444 = .ok (.iadd, 1) := by decide +kernel
theorem dlaw_445 : decode code 445 = .ok (.iaload, 1) := by decide +kernel
theorem dlaw_446 : decode code 446 = .ok (.aload_n 0, 1) := by decide +kernel
theorem dlaw_447 : decode code 447 = .ok (.iload_n 3, 1) := by decide +kernel
theorem dlaw_448 : decode code 448 = .ok (.iconst 3, 1) := by decide +kernel
theorem dlaw_449 : decode code 449 = .ok (.iadd, 1) := by decide +kernel
theorem dlaw_450 : decode code 450 = .ok (.iaload, 1) := by decide +kernel
theorem dlaw_451 : decode code 451 = .ok (.invokevirtual 52, 3) := by decide +kernel
theorem dlaw_454 : decode code 454 = .ok (.if_icmp .eq 643, 3) := by decide +kernel
theorem dlaw_457 : decode code 457 = .ok (.iconst 0, 1) := by decide +kernel
theorem dlaw_458 : decode code 458 = .ok (.ireturn, 1) := by decide +kernel
theorem dlaw_459 : decode code 459 = .ok (.aload_n 1, 1) := by decide +kernel
theorem dlaw_460 : decode code 460 = .ok (.aload_n 0, 1) := by decide +kernel
theorem dlaw_461 : decode code 461 = .ok (.iload_n 3, 1) := by decide +kernel
theorem dlaw_462 : decode code 462 = .ok (.iconst 1, 1) := by decide +kernel
theorem dlaw_463 : decode code 463 = .ok (.iadd, 1) := by decide +kernel
theorem dlaw_464 : decode code 464 = .ok (.iaload, 1) := by decide +kernel
theorem dlaw_465 : decode code 465 = .ok (.aload_n 0, 1) := by decide +kernel
theorem dlaw_466 : decode code 466 = .ok (.iload_n 3, 1) := by decide +kernel
theorem dlaw_467 : decode code 467 = .ok (.iconst 2, 1) := by decide +kernel
theorem dlaw_468 : decode code 468 = .ok (.iadd, 1) := by decide +kernel
theorem dlaw_469 : decode code 469 = .ok (.iaload, 1) := by decide +kernel
theorem dlaw_470 : decode code 470 = .ok (.aload_n 0, 1) := by decide +kernel
theorem dlaw_471 : decode code 471 = .ok (.iload_n 3, 1) := by decide +kernel
theorem dlaw_472 : decode code 472 = .ok (.iconst 3, 1) := by decide +kernel
theorem dlaw_473 : decode code 473 = .ok (.iadd, 1) := by decide +kernel
theorem dlaw_474 : decode code 474 = .ok (.iaload, 1) := by decide +kernel
theorem dlaw_475 : decode code 475 = .ok (.invokevirtual 53, 3) := by decide +kernel
theorem dlaw_478 : decode code 478 = .ok (.aload_n 2, 1) := by decide +kernel
theorem dlaw_479 : decode code 479 = .ok (.aload_n 0, 1) := by decide +kernel
theorem dlaw_480 : decode code 480 = .ok (.iload_n 3, 1) := by decide +kernel
theorem dlaw_481 : decode code 481 = .ok (.iconst 1, 1) := by decide +kernel
theorem dlaw_482 : decode code 482 = .ok (.iadd, 1) := by decide +kernel
theorem dlaw_483 : decode code 483 = .ok (.iaload, 1) := by decide +kernel
theorem dlaw_484 : decode code 484 = .ok (.aload_n 0, 1) := by decide +kernel
theorem dlaw_485 : decode code 485 = .ok (.iload_n 3, 1) := by decide +kernel
theorem dlaw_486 : decode code 486 = .ok (.iconst 2, 1) := by decide +kernel
theorem dlaw_487 : decode code 487 = .ok (.iadd, 1) := by decide +kernel
theorem dlaw_488 : decode code 488 = .ok (.iaload, 1) := by decide +kernel
theorem dlaw_489 : decode code 489 = .ok (.aload_n 0, 1) := by decide +kernel
theorem dlaw_490 : decode code 490 = .ok (.iload_n 3, 1) := by decide +kernel
theorem dlaw_491 : decode code 491 = .ok (.iconst 3, 1) := by decide +kernel
theorem dlaw_492 : decode code 492 = .ok (.iadd, 1) := by decide +kernel
theorem dlaw_493 : decode code 493 = .ok (.iaload, 1) := by decide +kernel
theorem dlaw_494 : decode code 494 = .ok (.invokevirtual 56, 3) := by decide +kernel
theorem dlaw_497 : decode code 497 = .ok (.if_icmp .eq 600, 3) := by decide +kernel
theorem dlaw_500 : decode code 500 = .ok (.iconst 0, 1) := by decide +kernel
theorem dlaw_501 : decode code 501 = .ok (.ireturn, 1) := by decide +kernel
theorem dlaw_502 : decode code 502 = .ok (.aload_n 1, 1) := by decide +kernel
theorem dlaw_503 : decode code 503 = .ok (.aload_n 0, 1) := by decide +kernel
theorem dlaw_504 : decode code 504 = .ok (.iload_n 3, 1) := by decide +kernel
theorem dlaw_505 : decode code 505 = .ok (.iconst 1, 1) := by decide +kernel
theorem dlaw_506 : decode code 506 = .ok (.iadd, 1) := by decide +kernel
theorem dlaw_507 : decode code 507 = .ok (.iaload, 1) := by decide +kernel
theorem dlaw_508 : decode code 508 = .ok (.aload_n 0, 1) := by decide +kernel
theorem dlaw_509 : decode code 509 = .ok (.iload_n 3, 1) := by decide +kernel
theorem dlaw_510 : decode code 510 = .ok (.iconst 2, 1) := by decide +kernel
theorem dlaw_511 : decode code 511 = .ok (.iadd, 1) := by decide +kernel
theorem dlaw_512 : decode code 512 = .ok (.iaload, 1) := by decide +kernel
theorem dlaw_513 : decode code 513 = .ok (.invokevirtual 57, 3) := by decide +kernel
theorem dlaw_516 : decode code 516 = .ok (.aload_n 2, 1) := by decide +kernel
theorem dlaw_517 : decode code 517 = .ok (.aload_n 0, 1) := by decide +kernel
theorem dlaw_518 : decode code 518 = .ok (.iload_n 3, 1) := by decide +kernel
theorem dlaw_519 : decode code 519 = .ok (.iconst 1, 1) := by decide +kernel
theorem dlaw_520 : decode code 520 = .ok (.iadd, 1) := by decide +kernel
theorem dlaw_521 : decode code 521 = .ok (.iaload, 1) := by decide +kernel
theorem dlaw_522 : decode code 522 = .ok (.aload_n 0, 1) := by decide +kernel
theorem dlaw_523 : decode code 523 = .ok (.iload_n 3, 1) := by decide +kernel
theorem dlaw_524 : decode code 524 = .ok (.iconst 2, 1) := by decide +kernel
theorem dlaw_525 : decode code 525 = .ok (.iadd, 1) := by decide +kernel
theorem dlaw_526 : decode code 526 = .ok (.iaload, 1) := by decide +kernel
theorem dlaw_527 : decode code 527 = .ok (.invokevirtual 60, 3) := by decide +kernel
theorem dlaw_530 : decode code 530 = .ok (.if_icmp .eq 567, 3) := by decide +kernel
theorem dlaw_533 : decode code 533 = .ok (.iconst 0, 1) := by decide +kernel
theorem dlaw_534 : decode code 534 = .ok (.ireturn, 1) := by decide +kernel
theorem dlaw_535 : decode code 535 = .ok (.aload_n 1, 1) := by decide +kernel
theorem dlaw_536 : decode code 536 = .ok (.aload_n 0, 1) := by decide +kernel
theorem dlaw_537 : decode code 537 = .ok (.iload_n 3, 1) := by decide +kernel
theorem dlaw_538 : decode code 538 = .ok (.iconst 1, 1) := by decide +kernel
theorem dlaw_539 : decode code 539 = .ok (.iadd, 1) := by decide +kernel
theorem dlaw_540 : decode code 540 = .ok (.iaload, 1) := by decide +kernel
theorem dlaw_541 : decode code 541 = .ok (.aload_n 0, 1) := by decide +kernel
theorem dlaw_542 : decode code 542 = .ok (.iload_n 3, 1) := by decide +kernel
theorem dlaw_543 : decode code 543 = .ok (.iconst 2, 1) := by decide +kernel
theorem dlaw_544 : decode code 544 = .ok (.iadd, 1) := by decide +kernel
theorem dlaw_545 : decode code 545 = .ok (.iaload, 1) := by decide +kernel
theorem dlaw_546 : decode code 546 = .ok (.invokevirtual 61, 3) := by decide +kernel
theorem dlaw_549 : decode code 549 = .ok (.aload_n 2, 1) := by decide +kernel
theorem dlaw_550 : decode code 550 = .ok (.aload_n 0, 1) := by decide +kernel
theorem dlaw_551 : decode code 551 = .ok (.iload_n 3, 1) := by decide +kernel
theorem dlaw_552 : decode code 552 = .ok (.iconst 1, 1) := by decide +kernel
theorem dlaw_553 : decode code 553 = .ok (.iadd, 1) := by decide +kernel
theorem dlaw_554 : decode code 554 = .ok (.iaload, 1) := by decide +kernel
theorem dlaw_555 : decode code 555 = .ok (.aload_n 0, 1) := by decide +kernel
theorem dlaw_556 : decode code 556 = .ok (.iload_n 3, 1) := by decide +kernel
theorem dlaw_557 : decode code 557 = .ok (.iconst 2, 1) := by decide +kernel
theorem dlaw_558 : decode code 558 = .ok (.iadd, 1) := by decide +kernel
theorem dlaw_559 : decode code 559 = .ok (.iaload, 1) := by decide +kernel
theorem dlaw_560 : decode code 560 = .ok (.invokevirtual 64, 3) := by decide +kernel
theorem dlaw_563 : decode code 563 = .ok (.if_icmp .eq 534, 3) := by decide +kernel
theorem dlaw_566 : decode code 566 = .ok (.iconst 0, 1) := by decide +kernel
theorem dlaw_567 : decode code 567 = .ok (.ireturn, 1) := by decide +kernel
theorem dlaw_568 : decode code 568 = .ok (.aload_n 1, 1) := by decide +kernel
theorem dlaw_569 : decode code 569 = .ok (.invokevirtual 65, 3) := by decide +kernel
theorem dlaw_572 : decode code 572 = .ok (.aload_n 2, 1) := by decide +kernel
theorem dlaw_573 : decode code 573 = .ok (.invokevirtual 68, 3) := by decide +kernel
theorem dlaw_576 : decode code 576 = .ok (.if_icmp .eq 521, 3) := by decide +kernel
theorem dlaw_579 : decode code 579 = .ok (.iconst 0, 1) := by decide +kernel
theorem dlaw_580 : decode code 580 = .ok (.ireturn, 1) := by decide +kernel
theorem dlaw_581 : decode code 581 = .ok (.aload_n 1, 1) := by decide +kernel
theorem dlaw_582 : decode code 582 = .ok (.aload_n 0, 1) := by decide +kernel
theorem dlaw_583 : decode code 583 = .ok (.iload_n 3, 1) := by decide +kernel
theorem dlaw_584 : decode code 584 = .ok (.iconst 1, 1) := by decide +kernel
theorem dlaw_585 : decode code 585 = .ok (.iadd, 1) := by decide +kernel
theorem dlaw_586 : decode code 586 = .ok (.iaload, 1) := by decide +kernel
theorem dlaw_587 : decode code 587 = .ok (.invokevirtual 69, 3) := by decide +kernel
theorem dlaw_590 : decode code 590 = .ok (.aload_n 2, 1) := by decide +kernel
theorem dlaw_591 : decode code 591 = .ok (.aload_n 0, 1) := by decide +kernel
theorem dlaw_592 : decode code 592 = .ok (.iload_n 3, 1) := by decide +kernel
theorem dlaw_593 : decode code 593 = .ok (.iconst 1, 1) := by decide +kernel
theorem dlaw_594 : decode code 594 = .ok (.iadd, 1) := by decide +kernel
theorem dlaw_595 : decode code 595 = .ok (.iaload, 1) := by decide +kernel
theorem dlaw_596 : decode code 596 = .ok (.invokevirtual 72, 3) := by decide +kernel
theorem dlaw_599 : decode code 599 = .ok (.if_icmp .eq 498, 3) := by decide +kernel
theorem dlaw_602 : decode code 602 = .ok (.iconst 0, 1) := by decide +kernel
theorem dlaw_603 : decode code 603 = .ok (.ireturn, 1) := by decide +kernel
theorem dlaw_604 : decode code 604 = .ok (.aload_n 1, 1) := by decide +kernel
theorem dlaw_605 : decode code 605 = .ok (.aload_n 0, 1) := by decide +kernel
theorem dlaw_606 : decode code 606 = .ok (.iload_n 3, 1) := by decide +kernel
theorem dlaw_607 : decode code 607 = .ok (.iconst 1, 1) := by decide +kernel
theorem dlaw_608 : decode code 608 = .ok (.iadd, 1) := by decide +kernel
theorem dlaw_609 : decode code 609 = .ok (.iaload, 1) := by decide +kernel
theorem dlaw_610 : decode code 610 = .ok (.invokevirtual 73, 3) := by decide +kernel
theorem dlaw_613 : decode code 613 = .ok (.aload_n 2, 1) := by decide +kernel
theorem dlaw_614 : decode code 614 = .ok (.aload_n 0, 1) := by decide +kernel
theorem dlaw_615 : decode code 615 = .ok (.iload_n 3, 1) := by decide +kernel
theorem dlaw_616 : decode code 616 = .ok (.iconst 1, 1) := by decide +kernel
theorem dlaw_617 : decode code 617 = .ok (.iadd, 1) := by decide +kernel
theorem dlaw_618 : decode code 618 = .ok (.iaload, 1) := by decide +kernel
theorem dlaw_619 : decode code 619 = .ok (.invokevirtual 76, 3) := by decide +kernel
theorem dlaw_622 : decode code 622 = .ok (.if_icmp .eq 475, 3) := by decide +kernel
theorem dlaw_625 : decode code 625 = .ok (.iconst 0, 1) := by decide +kernel
theorem dlaw_626 : decode code 626 = .ok (.ireturn, 1) := by decide +kernel
theorem dlaw_627 : decode code 627 = .ok (.aload_n 1, 1) := by decide +kernel
theorem dlaw_628 : decode code 628 = .ok (.invokevirtual 77, 3) := by decide +kernel
theorem dlaw_631 : decode code 631 = .ok (.aload_n 2, 1) := by decide +kernel
theorem dlaw_632 : decode code 632 = .ok (.invokevirtual 80, 3) := by decide +kernel
theorem dlaw_635 : decode code 635 = .ok (.if_icmp .eq 462, 3) := by decide +kernel
theorem dlaw_638 : decode code 638 = .ok (.iconst 0, 1) := by decide +kernel
theorem dlaw_639 : decode code 639 = .ok (.ireturn, 1) := by decide +kernel
theorem dlaw_640 : decode code 640 = .ok (.aload_n 1, 1) := by decide +kernel
theorem dlaw_641 : decode code 641 = .ok (.aload_n 0, 1) := by decide +kernel
theorem dlaw_642 : decode code 642 = .ok (.iload_n 3, 1) := by decide +kernel
theorem dlaw_643 : decode code 643 = .ok (.iconst 1, 1) := by decide +kernel
theorem dlaw_644 : decode code 644 = .ok (.iadd, 1) := by decide +kernel
theorem dlaw_645 : decode code 645 = .ok (.iaload, 1) := by decide +kernel
theorem dlaw_646 : decode code 646 = .ok (.aload_n 0, 1) := by decide +kernel
theorem dlaw_647 : decode code 647 = .ok (.iload_n 3, 1) := by decide +kernel
theorem dlaw_648 : decode code 648 = .ok (.iconst 2, 1) := by decide +kernel
theorem dlaw_649 : decode code 649 = .ok (.iadd, 1) := by decide +kernel
theorem dlaw_650 : decode code 650 = .ok (.iaload, 1) := by decide +kernel
theorem dlaw_651 : decode code 651 = .ok (.invokevirtual 81, 3) := by decide +kernel
theorem dlaw_654 : decode code 654 = .ok (.aload_n 2, 1) := by decide +kernel
theorem dlaw_655 : decode code 655 = .ok (.aload_n 0, 1) := by decide +kernel
theorem dlaw_656 : decode code 656 = .ok (.iload_n 3, 1) := by decide +kernel
theorem dlaw_657 : decode code 657 = .ok (.iconst 1, 1) := by decide +kernel
theorem dlaw_658 : decode code 658 = .ok (.iadd, 1) := by decide +kernel
theorem dlaw_659 : decode code 659 = .ok (.iaload, 1) := by decide +kernel
theorem dlaw_660 : decode code 660 = .ok (.aload_n 0, 1) := by decide +kernel
theorem dlaw_661 : decode code 661 = .ok (.iload_n 3, 1) := by decide +kernel
theorem dlaw_662 : decode code 662 = .ok (.iconst 2, 1) := by decide +kernel
theorem dlaw_663 : decode code 663 = .ok (.iadd, 1) := by decide +kernel
theorem dlaw_664 : decode code 664 = .ok (.iaload, 1) := by decide +kernel
theorem dlaw_665 : decode code 665 = .ok (.invokevirtual 85, 3) := by decide +kernel
theorem dlaw_668 : decode code 668 = .ok (.lcmp, 1) := by decide +kernel
theorem dlaw_669 : decode code 669 = .ok (.ifCond .eq 428, 3) := by decide +kernel
theorem dlaw_672 : decode code 672 = .ok (.iconst 0, 1) := by decide +kernel
theorem dlaw_673 : decode code 673 = .ok (.ireturn, 1) := by decide +kernel
theorem dlaw_674 : decode code 674 = .ok (.aload_n 1, 1) := by decide +kernel
theorem dlaw_675 : decode code 675 = .ok (.invokevirtual 86, 3) := by decide +kernel
theorem dlaw_678 : decode code 678 = .ok (.aload_n 2, 1) := by decide +kernel
theorem dlaw_679 : decode code 679 = .ok (.invokevirtual 89, 3) := by decide +kernel
theorem dlaw_682 : decode code 682 = .ok (.if_icmp .eq 415, 3) := by decide +kernel
theorem dlaw_685 : decode code 685 = .ok (.iconst 0, 1) := by decide +kernel
theorem dlaw_686 : decode code 686 = .ok (.ireturn, 1) := by decide +kernel
theorem dlaw_687 : decode code 687 = .ok (.aload_n 1, 1) := by decide +kernel
theorem dlaw_688 : decode code 688 = .ok (.aload_n 0, 1) := by decide +kernel
theorem dlaw_689 : decode code 689 = .ok (.iload_n 3, 1) := by decide +kernel
theorem dlaw_690 : decode code 690 = .ok (.iconst 1, 1) := by decide +kernel
theorem dlaw_691 : decode code 691 = .ok (.iadd, 1) := by decide +kernel
theorem dlaw_692 : decode code 692 = .ok (.iaload, 1) := by decide +kernel
theorem dlaw_693 : decode code 693 = .ok (.invokevirtual 90, 3) := by decide +kernel
theorem dlaw_696 : decode code 696 = .ok (.aload_n 2, 1) := by decide +kernel
theorem dlaw_697 : decode code 697 = .ok (.aload_n 0, 1) := by decide +kernel
theorem dlaw_698 : decode code 698 = .ok (.iload_n 3, 1) := by decide +kernel
theorem dlaw_699 : decode code 699 = .ok (.iconst 1, 1) := by decide +kernel
theorem dlaw_700 : decode code 700 = .ok (.iadd, 1) := by decide +kernel
theorem dlaw_701 : decode code 701 = .ok (.iaload, 1) := by decide +kernel
theorem dlaw_702 : decode code 702 = .ok (.invokevirtual 93, 3) := by decide +kernel
theorem dlaw_705 : decode code 705 = .ok (.if_icmp .eq 392, 3) := by decide +kernel
theorem dlaw_708 : decode code 708 = .ok (.iconst 0, 1) := by decide +kernel
theorem dlaw_709 : decode code 709 = .ok (.ireturn, 1) := by decide +kernel
theorem dlaw_710 : decode code 710 = .ok (.aload_n 1, 1) := by decide +kernel
theorem dlaw_711 : decode code 711 = .ok (.aload_n 0, 1) := by decide +kernel
theorem dlaw_712 : decode code 712 = .ok (.iload_n 3, 1) := by decide +kernel
theorem dlaw_713 : decode code 713 = .ok (.iconst 1, 1) := by decide +kernel
theorem dlaw_714 : decode code 714 = .ok (.iadd, 1) := by decide +kernel
theorem dlaw_715 : decode code 715 = .ok (.iaload, 1) := by decide +kernel
theorem dlaw_716 : decode code 716 = .ok (.invokevirtual 94, 3) := by decide +kernel
theorem dlaw_719 : decode code 719 = .ok (.aload_n 2, 1) := by decide +kernel
theorem dlaw_720 : decode code 720 = .ok (.aload_n 0, 1) := by decide +kernel
theorem dlaw_721 : decode code 721 = .ok (.iload_n 3, 1) := by decide +kernel
theorem dlaw_722 : decode code 722 = .ok (.iconst 1, 1) := by decide +kernel
theorem dlaw_723 : decode code 723 = .ok (.iadd, 1) := by decide +kernel
theorem dlaw_724 : decode code 724 = .ok (.iaload, 1) := by decide +kernel
theorem dlaw_725 : decode code 725 = .ok (.invokevirtual 97, 3) := by decide +kernel
theorem dlaw_728 : decode code 728 = .ok (.if_icmp .eq 369, 3) := by decide +kernel
theorem dlaw_731 : decode code 731 = .ok (.iconst 0, 1) := by decide +kernel
theorem dlaw_732 : decode code 732 = .ok (.ireturn, 1) := by decide +kernel
theorem dlaw_733 : decode code 733 = .ok (.aload_n 1, 1) := by decide +kernel
theorem dlaw_734 : decode code 734 = .ok (.aload_n 0, 1) := by decide +kernel
theorem dlaw_735 : decode code 735 = .ok (.iload_n 3, 1) := by decide +kernel
theorem dlaw_736 : decode code 736 = .ok (.iconst 1, 1) := by decide +kernel
theorem dlaw_737 : decode code 737 = .ok (.iadd, 1) := by decide +kernel
theorem dlaw_738 : decode code 738 = .ok (.iaload, 1) := by decide +kernel
theorem dlaw_739 : decode code 739 = .ok (.aload_n 0, 1) := by decide +kernel
theorem dlaw_740 : decode code 740 = .ok (.iload_n 3, 1) := by decide +kernel
theorem dlaw_741 : decode code 741 = .ok (.iconst 2, 1) := by decide +kernel
theorem dlaw_742 : decode code 742 = .ok (.iadd, 1) := by decide +kernel
theorem dlaw_743 : decode code 743 = .ok (.iaload, 1) := by decide +kernel
theorem dlaw_744 : decode code 744 = .ok (.invokevirtual 98, 3) := by decide +kernel
theorem dlaw_747 : decode code 747 = .ok (.aload_n 2, 1) := by decide +kernel
theorem dlaw_748 : decode code 748 = .ok (.aload_n 0, 1) := by decide +kernel
theorem dlaw_749 : decode code 749 = .ok (.iload_n 3, 1) := by decide +kernel
theorem dlaw_750 : decode code 750 = .ok (.iconst 1, 1) := by decide +kernel
theorem dlaw_751 : decode code 751 = .ok (.iadd, 1) := by decide +kernel
theorem dlaw_752 : decode code 752 = .ok (.iaload, 1) := by decide +kernel
theorem dlaw_753 : decode code 753 = .ok (.aload_n 0, 1) := by decide +kernel
theorem dlaw_754 : decode code 754 = .ok (.iload_n 3, 1) := by decide +kernel
theorem dlaw_755 : decode code 755 = .ok (.iconst 2, 1) := by decide +kernel
theorem dlaw_756 : decode code 756 = .ok (.iadd, 1) := by decide +kernel
theorem dlaw_757 : decode code 757 = .ok (.iaload, 1) := by decide +kernel
theorem dlaw_758 : decode code 758 = .ok (.invokevirtual 101, 3) := by decide +kernel
theorem dlaw_761 : decode code 761 = .ok (.if_icmp .eq 336, 3) := by decide +kernel
theorem dlaw_764 : decode code 764 = .ok (.iconst 0, 1) := by decide +kernel
theorem dlaw_765 : decode code 765 = .ok (.ireturn, 1) := by decide +kernel
theorem dlaw_766 : decode code 766 = .ok (.aload_n 1, 1) := by decide +kernel
theorem dlaw_767 : decode code 767 = .ok (.aload_n 0, 1) := by decide +kernel
theorem dlaw_768 : decode code 768 = .ok (.iload_n 3, 1) := by decide +kernel
theorem dlaw_769 : decode code 769 = .ok (.iconst 1, 1) := by decide +kernel
theorem dlaw_770 : decode code 770 = .ok (.iadd, 1) := by decide +kernel
theorem dlaw_771 : decode code 771 = .ok (.iaload, 1) := by decide +kernel
theorem dlaw_772 : decode code 772 = .ok (.invokevirtual 102, 3) := by decide +kernel
theorem dlaw_775 : decode code 775 = .ok (.aload_n 2, 1) := by decide +kernel
theorem dlaw_776 : decode code 776 = .ok (.aload_n 0, 1) := by decide +kernel
theorem dlaw_777 : decode code 777 = .ok (.iload_n 3, 1) := by decide +kernel
theorem dlaw_778 : decode code 778 = .ok (.iconst 1, 1) := by decide +kernel
theorem dlaw_779 : decode code 779 = .ok (.iadd, 1) := by decide +kernel
theorem dlaw_780 : decode code 780 = .ok (.iaload, 1) := by decide +kernel
theorem dlaw_781 : decode code 781 = .ok (.invokevirtual 105, 3) := by decide +kernel
theorem dlaw_784 : decode code 784 = .ok (.if_icmp .eq 313, 3) := by decide +kernel
theorem dlaw_787 : decode code 787 = .ok (.iconst 0, 1) := by decide +kernel
theorem dlaw_788 : decode code 788 = .ok (.ireturn, 1) := by decide +kernel
theorem dlaw_789 : decode code 789 = .ok (.aload_n 1, 1) := by decide +kernel
theorem dlaw_790 : decode code 790 = .ok (.aload_n 0, 1) := by decide +kernel
theorem dlaw_791 : decode code 791 = .ok (.iload_n 3, 1) := by decide +kernel
theorem dlaw_792 : decode code 792 = .ok (.iconst 1, 1) := by decide +kernel
theorem dlaw_793 : decode code 793 = .ok (.iadd, 1) := by decide +kernel
theorem dlaw_794 : decode code 794 = .ok (.iaload, 1) := by decide +kernel
theorem dlaw_795 : decode code 795 = .ok (.invokevirtual 106, 3) := by decide +kernel
theorem dlaw_798 : decode code 798 = .ok (.aload_n 2, 1) := by decide +kernel
theorem dlaw_799 : decode code 799 = .ok (.aload_n 0, 1) := by decide +kernel
theorem dlaw_800 : decode code 800 = .ok (.iload_n 3, 1) := by decide +kernel
theorem dlaw_801 : decode code 801 = .ok (.iconst 1, 1) := by decide +kernel
theorem dlaw_802 : decode code 802 = .ok (.iadd, 1) := by decide +kernel
theorem dlaw_803 : decode code 803 = .ok (.iaload, 1) := by decide +kernel
theorem dlaw_804 : decode code 804 = .ok (.invokevirtual 110, 3) := by decide +kernel
theorem dlaw_807 : decode code 807 = .ok (.lcmp, 1) := by decide +kernel
theorem dlaw_808 : decode code 808 = .ok (.ifCond .eq 289, 3) := by decide +kernel
theorem dlaw_811 : decode code 811 = .ok (.iconst 0, 1) := by decide +kernel
theorem dlaw_812 : decode code 812 = .ok (.ireturn, 1) := by decide +kernel
theorem dlaw_813 : decode code 813 = .ok (.aload_n 1, 1) := by decide +kernel
theorem dlaw_814 : decode code 814 = .ok (.invokevirtual 111, 3) := by decide +kernel
theorem dlaw_817 : decode code 817 = .ok (.aload_n 2, 1) := by decide +kernel
theorem dlaw_818 : decode code 818 = .ok (.invokevirtual 114, 3) := by decide +kernel
theorem dlaw_821 : decode code 821 = .ok (.if_icmp .eq 276, 3) := by decide +kernel
theorem dlaw_824 : decode code 824 = .ok (.iconst 0, 1) := by decide +kernel
theorem dlaw_825 : decode code 825 = .ok (.ireturn, 1) := by decide +kernel
theorem dlaw_826 : decode code 826 = .ok (.aload_n 1, 1) := by decide +kernel
theorem dlaw_827 : decode code 827 = .ok (.invokevirtual 115, 3) := by decide +kernel
theorem dlaw_830 : decode code 830 = .ok (.aload_n 2, 1) := by decide +kernel
theorem dlaw_831 : decode code 831 = .ok (.invokevirtual 118, 3) := by decide +kernel
theorem dlaw_834 : decode code 834 = .ok (.if_icmp .eq 263, 3) := by decide +kernel
theorem dlaw_837 : decode code 837 = .ok (.iconst 0, 1) := by decide +kernel
theorem dlaw_838 : decode code 838 = .ok (.ireturn, 1) := by decide +kernel
theorem dlaw_839 : decode code 839 = .ok (.aload_n 1, 1) := by decide +kernel
theorem dlaw_840 : decode code 840 = .ok (.aload_n 0, 1) := by decide +kernel
theorem dlaw_841 : decode code 841 = .ok (.iload_n 3, 1) := by decide +kernel
theorem dlaw_842 : decode code 842 = .ok (.iconst 1, 1) := by decide +kernel
theorem dlaw_843 : decode code 843 = .ok (.iadd, 1) := by decide +kernel
theorem dlaw_844 : decode code 844 = .ok (.iaload, 1) := by decide +kernel
theorem dlaw_845 : decode code 845 = .ok (.invokevirtual 119, 3) := by decide +kernel
theorem dlaw_848 : decode code 848 = .ok (.aload_n 2, 1) := by decide +kernel
theorem dlaw_849 : decode code 849 = .ok (.aload_n 0, 1) := by decide +kernel
theorem dlaw_850 : decode code 850 = .ok (.iload_n 3, 1) := by decide +kernel
theorem dlaw_851 : decode code 851 = .ok (.iconst 1, 1) := by decide +kernel
theorem dlaw_852 : decode code 852 = .ok (.iadd, 1) := by decide +kernel
theorem dlaw_853 : decode code 853 = .ok (.iaload, 1) := by decide +kernel
theorem dlaw_854 : decode code 854 = .ok (.invokevirtual 122, 3) := by decide +kernel
theorem dlaw_857 : decode code 857 = .ok (.if_icmp .eq 240, 3) := by decide +kernel
theorem dlaw_860 : decode code 860 = .ok (.iconst 0, 1) := by decide +kernel
theorem dlaw_861 : decode code 861 = .ok (.ireturn, 1) := by decide +kernel
theorem dlaw_862 : decode code 862 = .ok (.aload_n 1, 1) := by decide +kernel
theorem dlaw_863 : decode code 863 = .ok (.aload_n 0, 1) := by decide +kernel
theorem dlaw_864 : decode code 864 = .ok (.iload_n 3, 1) := by decide +kernel
theorem dlaw_865 : decode code 865 = .ok (.iconst 1, 1) := by decide +kernel
theorem dlaw_866 : decode code 866 = .ok (.iadd, 1) := by decide +kernel
theorem dlaw_867 : decode code 867 = .ok (.iaload, 1) := by decide +kernel
theorem dlaw_868 : decode code 868 = .ok (.aload_n 0, 1) := by decide +kernel
theorem dlaw_869 : decode code 869 = .ok (.iload_n 3, 1) := by decide +kernel
theorem dlaw_870 : decode code 870 = .ok (.iconst 2, 1) := by decide +kernel
theorem dlaw_871 : decode code 871 = .ok (.iadd, 1) := by decide +kernel
theorem dlaw_872 : decode code 872 = .ok (.iaload, 1) := by decide +kernel
theorem dlaw_873 : decode code 873 = .ok (.aload_n 0, 1) := by decide +kernel
theorem dlaw_874 : decode code 874 = .ok (.iload_n 3, 1) := by decide +kernel
theorem dlaw_875 : decode code 875 = .ok (.iconst 3, 1) := by decide +kernel
theorem dlaw_876 : decode code 876 = .ok (.iadd, 1) := by decide +kernel
theorem dlaw_877 : decode code 877 = .ok (.iaload, 1) := by decide +kernel
theorem dlaw_878 : decode code 878 = .ok (.invokevirtual 123, 3) := by decide +kernel
theorem dlaw_881 : decode code 881 = .ok (.aload_n 2, 1) := by decide +kernel
theorem dlaw_882 : decode code 882 = .ok (.aload_n 0, 1) := by decide +kernel
theorem dlaw_883 : decode code 883 = .ok (.iload_n 3, 1) := by decide +kernel
theorem dlaw_884 : decode code 884 = .ok (.iconst 1, 1) := by decide +kernel
theorem dlaw_885 : decode code 885 = .ok (.iadd, 1) := by decide +kernel
theorem dlaw_886 : decode code 886 = .ok (.iaload, 1) := by decide +kernel
theorem dlaw_887 : decode code 887 = .ok (.aload_n 0, 1) := by decide +kernel
theorem dlaw_888 : decode code 888 = .ok (.iload_n 3, 1) := by decide +kernel
theorem dlaw_889 : decode code 889 = .ok (.iconst 2, 1) := by decide +kernel
theorem dlaw_890 : decode code 890 = .ok (.iadd, 1) := by decide +kernel
theorem dlaw_891 : decode code 891 = .ok (.iaload, 1) := by decide +kernel
theorem dlaw_892 : decode code 892 = .ok (.aload_n 0, 1) := by decide +kernel
theorem dlaw_893 : decode code 893 = .ok (.iload_n 3, 1) := by decide +kernel
theorem dlaw_894 : decode code 894 = .ok (.iconst 3, 1) := by decide +kernel
theorem dlaw_895 : decode code 895 = .ok (.iadd, 1) := by decide +kernel
theorem dlaw_896 : decode code 896 = .ok (.iaload, 1) := by decide +kernel
theorem dlaw_897 : decode code 897 = .ok (.invokevirtual 126, 3) := by decide +kernel
theorem dlaw_900 : decode code 900 = .ok (.if_icmp .eq 197, 3) := by decide +kernel
theorem dlaw_903 : decode code 903 = .ok (.iconst 0, 1) := by decide +kernel
theorem dlaw_904 : decode code 904 = .ok (.ireturn, 1) := by decide +kernel
theorem dlaw_905 : decode code 905 = .ok (.aload_n 1, 1) := by decide +kernel
theorem dlaw_906 : decode code 906 = .ok (.aload_n 0, 1) := by decide +kernel
theorem dlaw_907 : decode code 907 = .ok (.iload_n 3, 1) := by decide +kernel
theorem dlaw_908 : decode code 908 = .ok (.iconst 1, 1) := by decide +kernel
theorem dlaw_909 : decode code 909 = .ok (.iadd, 1) := by decide +kernel
theorem dlaw_910 : decode code 910 = .ok (.iaload, 1) := by decide +kernel
theorem dlaw_911 : decode code 911 = .ok (.aload_n 0, 1) := by decide +kernel
theorem dlaw_912 : decode code 912 = .ok (.iload_n 3, 1) := by decide +kernel
theorem dlaw_913 : decode code 913 = .ok (.iconst 2, 1) := by decide +kernel
theorem dlaw_914 : decode code 914 = .ok (.iadd, 1) := by decide +kernel
theorem dlaw_915 : decode code 915 = .ok (.iaload, 1) := by decide +kernel
theorem dlaw_916 : decode code 916 = .ok (.aload_n 0, 1) := by decide +kernel
theorem dlaw_917 : decode code 917 = .ok (.iload_n 3, 1) := by decide +kernel
theorem dlaw_918 : decode code 918 = .ok (.iconst 3, 1) := by decide +kernel
theorem dlaw_919 : decode code 919 = .ok (.iadd, 1) := by decide +kernel
theorem dlaw_920 : decode code 920 = .ok (.iaload, 1) := by decide +kernel
theorem dlaw_921 : decode code 921 = .ok (.invokevirtual 127, 3) := by decide +kernel
theorem dlaw_924 : decode code 924 = .ok (.aload_n 2, 1) := by decide +kernel
theorem dlaw_925 : decode code 925 = .ok (.aload_n 0, 1) := by decide +kernel
theorem dlaw_926 : decode code 926 = .ok (.iload_n 3, 1) := by decide +kernel
theorem dlaw_927 : decode code 927 = .ok (.iconst 1, 1) := by decide +kernel
theorem dlaw_928 : decode code 928 = .ok (.iadd, 1) := by decide +kernel
theorem dlaw_929 : decode code 929 = .ok (.iaload, 1) := by decide +kernel
theorem dlaw_930 : decode code 930 = .ok (.aload_n 0, 1) := by decide +kernel
theorem dlaw_931 : decode code 931 = .ok (.iload_n 3, 1) := by decide +kernel
theorem dlaw_932 : decode code 932 = .ok (.iconst 2, 1) := by decide +kernel
theorem dlaw_933 : decode code 933 = .ok (.iadd, 1) := by decide +kernel
theorem dlaw_934 : decode code 934 = .ok (.iaload, 1) := by decide +kernel
theorem dlaw_935 : decode code 935 = .ok (.aload_n 0, 1) := by decide +kernel
theorem dlaw_936 : decode code 936 = .ok (.iload_n 3, 1) := by decide +kernel
theorem dlaw_937 : decode code 937 = .ok (.iconst 3, 1) := by decide +kernel
theorem dlaw_938 : decode code 938 = .ok (.iadd, 1) := by decide +kernel
theorem dlaw_939 : decode code 939 = .ok (.iaload, 1) := by decide +kernel
theorem dlaw_940 : decode code 940 = .ok (.invokevirtual 130, 3) := by decide +kernel
theorem dlaw_943 : decode code 943 = .ok (.if_icmp .eq 154, 3) := by decide +kernel
theorem dlaw_946 : decode code 946 = .ok (.iconst 0, 1) := by decide +kernel
theorem dlaw_947 : decode code 947 = .ok (.ireturn, 1) := by decide +kernel
theorem dlaw_948 : decode code 948 = .ok (.aload_n 1, 1) := by decide +kernel
theorem dlaw_949 : decode code 949 = .ok (.aload_n 0, 1) := by decide +kernel
theorem dlaw_950 : decode code 950 = .ok (.iload_n 3, 1) := by decide +kernel
theorem dlaw_951 : decode code 951 = .ok (.iconst 1, 1) := by decide +kernel
theorem dlaw_952 : decode code 952 = .ok (.iadd, 1) := by decide +kernel
theorem dlaw_953 : decode code 953 = .ok (.iaload, 1) := by decide +kernel
theorem dlaw_954 : decode code 954 = .ok (.aload_n 0, 1) := by decide +kernel
theorem dlaw_955 : decode code 955 = .ok (.iload_n 3, 1) := by decide +kernel
theorem dlaw_956 : decode code 956 = .ok (.iconst 2, 1) := by decide +kernel
theorem dlaw_957 : decode code 957 = .ok (.iadd, 1) := by decide +kernel
theorem dlaw_958 : decode code 958 = .ok (.iaload, 1) := by decide +kernel
theorem dlaw_959 : decode code 959 = .ok (.aload_n 0, 1) := by decide +kernel
theorem dlaw_960 : decode code 960 = .ok (.iload_n 3, 1) := by decide +kernel
theorem dlaw_961 : decode code 961 = .ok (.iconst 3, 1) := by decide +kernel
theorem dlaw_962 : decode code 962 = .ok (.iadd, 1) := by decide +kernel
theorem dlaw_963 : decode code 963 = .ok (.iaload, 1) := by decide +kernel
theorem dlaw_964 : decode code 964 = .ok (.aload_n 0, 1) := by decide +kernel
theorem dlaw_965 : decode code 965 = .ok (.iload_n 3, 1) := by decide +kernel
theorem dlaw_966 : decode code 966 = .ok (.iconst 4, 1) := by decide +kernel
theorem dlaw_967 : decode code 967 = .ok (.iadd, 1) := by decide +kernel
theorem dlaw_968 : decode code 968 = .ok (.iaload, 1) := by decide +kernel
theorem dlaw_969 : decode code 969 = .ok (.aload_n 0, 1) := by decide +kernel
theorem dlaw_970 : decode code 970 = .ok (.iload_n 3, 1) := by decide +kernel
theorem dlaw_971 : decode code 971 = .ok (.iconst 5, 1) := by decide +kernel
theorem dlaw_972 : decode code 972 = .ok (.iadd, 1) := by decide +kernel
theorem dlaw_973 : decode code 973 = .ok (.iaload, 1) := by decide +kernel
theorem dlaw_974 : decode code 974 = .ok (.invokevirtual 131, 3) := by decide +kernel
theorem dlaw_977 : decode code 977 = .ok (.aload_n 2, 1) := by decide +kernel
theorem dlaw_978 : decode code 978 = .ok (.aload_n 0, 1) := by decide +kernel
theorem dlaw_979 : decode code 979 = .ok (.iload_n 3, 1) := by decide +kernel
theorem dlaw_980 : decode code 980 = .ok (.iconst 1, 1) := by decide +kernel
theorem dlaw_981 : decode code 981 = .ok (.iadd, 1) := by decide +kernel
theorem dlaw_982 : decode code 982 = .ok (.iaload, 1) := by decide +kernel
theorem dlaw_983 : decode code 983 = .ok (.aload_n 0, 1) := by decide +kernel
theorem dlaw_984 : decode code 984 = .ok (.iload_n 3, 1) := by decide +kernel
theorem dlaw_985 : decode code 985 = .ok (.iconst 2, 1) := by decide +kernel
theorem dlaw_986 : decode code 986 = .ok (.iadd, 1) := by decide +kernel
theorem dlaw_987 : decode code 987 = .ok (.iaload, 1) := by decide +kernel
theorem dlaw_988 : decode code 988 = .ok (.aload_n 0, 1) := by decide +kernel
theorem dlaw_989 : decode code 989 = .ok (.iload_n 3, 1) := by decide +kernel
theorem dlaw_990 : decode code 990 = .ok (.iconst 3, 1) := by decide +kernel
theorem dlaw_991 : decode code 991 = .ok (.iadd, 1) := by decide +kernel
theorem dlaw_992 : decode code 992 = .ok (.iaload, 1) := by decide +kernel
theorem dlaw_993 : decode code 993 = .ok (.aload_n 0, 1) := by decide +kernel
theorem dlaw_994 : decode code 994 = .ok (.iload_n 3, 1) := by decide +kernel
theorem dlaw_995 : decode code 995 = .ok (.iconst 4, 1) := by decide +kernel
theorem dlaw_996 : decode code 996 = .ok (.iadd, 1) := by decide +kernel
theorem dlaw_997 : decode code 997 = .ok (.iaload, 1) := by decide +kernel
theorem dlaw_998 : decode code 998 = .ok (.aload_n 0, 1) := by decide +kernel
theorem dlaw_999 : decode code 999 = .ok (.iload_n 3, 1) := by decide +kernel
theorem dlaw_1000 : decode code 1000 = .ok (.iconst 5, 1) := by decide +kernel
theorem dlaw_1001 : decode code 1001 = .ok (.iadd, 1) := by decide +kernel
theorem dlaw_1002 : decode code 1002 = .ok (.iaload, 1) := by decide +kernel
theorem dlaw_1003 : decode code 1003 = .ok (.invokevirtual 135, 3) := by decide +kernel
theorem dlaw_1006 : decode code 1006 = .ok (.if_icmp .eq 91, 3) := by decide +kernel
theorem dlaw_1009 : decode code 1009 = .ok (.iconst 0, 1) := by decide +kernel
theorem dlaw_1010 : decode code 1010 = .ok (.ireturn, 1) := by decide +kernel
theorem dlaw_1011 : decode code 1011 = .ok (.aload_n 1, 1) := by decide +kernel
theorem dlaw_1012 : decode code 1012 = .ok (.aload_n 0, 1) := by decide +kernel
theorem dlaw_1013 : decode code 1013 = .ok (.iload_n 3, 1) := by decide +kernel
theorem dlaw_1014 : decode code 1014 = .ok (.iconst 1, 1) := by decide +kernel
theorem dlaw_1015 : decode code 1015 = .ok (.iadd, 1) := by decide +kernel
theorem dlaw_1016 : decode code 1016 = .ok (.iaload, 1) := by decide +kernel
theorem dlaw_1017 : decode code 1017 = .ok (.aload_n 0, 1) := by decide +kernel
theorem dlaw_1018 : decode code 1018 = .ok (.iload_n 3, 1) := by decide +kernel
theorem dlaw_1019 : decode code 1019 = .ok (.iconst 2, 1) := by decide +kernel
theorem dlaw_1020 : decode code 1020 = .ok (.iadd, 1) := by decide +kernel
theorem dlaw_1021 : decode code 1021 = .ok (.iaload, 1) := by decide +kernel
theorem dlaw_1022 : decode code 1022 = .ok (.aload_n 0, 1) := by decide +kernel
theorem dlaw_1023 : decode code 1023 = .ok (.iload_n 3, 1) := by decide +kernel
theorem dlaw_1024 : decode code 1024 = .ok (.iconst 3, 1) := by decide +kernel
theorem dlaw_1025 : decode code 1025 = .ok (.iadd, 1) := by decide +kernel
theorem dlaw_1026 : decode code 1026 = .ok (.iaload, 1) := by decide +kernel
theorem dlaw_1027 : decode code 1027 = .ok (.aload_n 0, 1) := by decide +kernel
theorem dlaw_1028 : decode code 1028 = .ok (.iload_n 3, 1) := by decide +kernel
theorem dlaw_1029 : decode code 1029 = .ok (.iconst 4, 1) := by decide +kernel
theorem dlaw_1030 : decode code 1030 = .ok (.iadd, 1) := by decide +kernel
theorem dlaw_1031 : decode code 1031 = .ok (.iaload, 1) := by decide +kernel
theorem dlaw_1032 : decode code 1032 = .ok (.invokevirtual 136, 3) := by decide +kernel
theorem dlaw_1035 : decode code 1035 = .ok (.aload_n 2, 1) := by decide +kernel
theorem dlaw_1036 : decode code 1036 = .ok (.aload_n 0, 1) := by decide +kernel
theorem dlaw_1037 : decode code 1037 = .ok (.iload_n 3, 1) := by decide +kernel
theorem dlaw_1038 : decode code 1038 = .ok (.iconst 1, 1) := by decide +kernel
theorem dlaw_1039 : decode code 1039 = .ok (.iadd, 1) := by decide +kernel
theorem dlaw_1040 : decode code 1040 = .ok (.iaload, 1) := by decide +kernel
theorem dlaw_1041 : decode code 1041 = .ok (.aload_n 0, 1) := by decide +kernel
theorem dlaw_1042 : decode code 1042 = .ok (.iload_n 3, 1) := by decide +kernel
theorem dlaw_1043 : decode code 1043 = .ok (.iconst 2, 1) := by decide +kernel
theorem dlaw_1044 : decode code 1044 = .ok (.iadd, 1) := by decide +kernel
theorem dlaw_1045 : decode code 1045 = .ok (.iaload, 1) := by decide +kernel
theorem dlaw_1046 : decode code 1046 = .ok (.aload_n 0, 1) := by decide +kernel
theorem dlaw_1047 : decode code 1047 = .ok (.iload_n 3, 1) := by decide +kernel
theorem dlaw_1048 : decode code 1048 = .ok (.iconst 3, 1) := by decide +kernel
theorem dlaw_1049 : decode code 1049 = .ok (.iadd, 1) := by decide +kernel
theorem dlaw_1050 : decode code 1050 = .ok (.iaload, 1) := by decide +kernel
theorem dlaw_1051 : decode code 1051 = .ok (.aload_n 0, 1) := by decide +kernel
theorem dlaw_1052 : decode code 1052 = .ok (.iload_n 3, 1) := by decide +kernel
theorem dlaw_1053 : decode code 1053 = .ok (.iconst 4, 1) := by decide +kernel
theorem dlaw_1054 : decode code 1054 = .ok (.iadd, 1) := by decide +kernel
theorem dlaw_1055 : decode code 1055 = .ok (.iaload, 1) := by decide +kernel
theorem dlaw_1056 : decode code 1056 = .ok (.invokevirtual 140, 3) := by decide +kernel
theorem dlaw_1059 : decode code 1059 = .ok (.if_icmp .eq 38, 3) := by decide +kernel
theorem dlaw_1062 : decode code 1062 = .ok (.iconst 0, 1) := by decide +kernel
theorem dlaw_1063 : decode code 1063 = .ok (.ireturn, 1) := by decide +kernel
theorem dlaw_1064 : decode code 1064 = .ok (.aload_n 1, 1) := by decide +kernel
theorem dlaw_1065 : decode code 1065 = .ok (.aload_n 0, 1) := by decide +kernel
theorem dlaw_1066 : decode code 1066 = .ok (.iload_n 3, 1) := by decide +kernel
theorem dlaw_1067 : decode code 1067 = .ok (.iconst 1, 1) := by decide +kernel
theorem dlaw_1068 : decode code 1068 = .ok (.iadd, 1) := by decide +kernel
theorem dlaw_1069 : decode code 1069 = .ok (.iaload, 1) := by decide +kernel
theorem dlaw_1070 : decode code 1070 = .ok (.aload_n 0, 1) := by decide +kernel
theorem dlaw_1071 : decode code 1071 = .ok (.iload_n 3, 1) := by decide +kernel
theorem dlaw_1072 : decode code 1072 = .ok (.iconst 2, 1) := by decide +kernel
theorem dlaw_1073 : decode code 1073 = .ok (.iadd, 1) := by decide +kernel
theorem dlaw_1074 : decode code 1074 = .ok (.iaload, 1) := by decide +kernel
theorem dlaw_1075 : decode code 1075 = .ok (.invokevirtual 141, 3) := by decide +kernel
theorem dlaw_1078 : decode code 1078 = .ok (.aload_n 2, 1) := by decide +kernel
theorem dlaw_1079 : decode code 1079 = .ok (.aload_n 0, 1) := by decide +kernel
theorem dlaw_1080 : decode code 1080 = .ok (.iload_n 3, 1) := by decide +kernel
theorem dlaw_1081 : decode code 1081 = .ok (.iconst 1, 1) := by decide +kernel
theorem dlaw_1082 : decode code 1082 = .ok (.iadd, 1) := by decide +kernel
theorem dlaw_1083 : decode code 1083 = .ok (.iaload, 1) := by decide +kernel
theorem dlaw_1084 : decode code 1084 = .ok (.aload_n 0, 1) := by decide +kernel
theorem dlaw_1085 : decode code 1085 = .ok (.iload_n 3, 1) := by decide +kernel
theorem dlaw_1086 : decode code 1086 = .ok (.iconst 2, 1) := by decide +kernel
theorem dlaw_1087 : decode code 1087 = .ok (.iadd, 1) := by decide +kernel
theorem dlaw_1088 : decode code 1088 = .ok (.iaload, 1) := by decide +kernel
theorem dlaw_1089 : decode code 1089 = .ok (.invokevirtual 144, 3) := by decide +kernel
theorem dlaw_1092 : decode code 1092 = .ok (.if_icmp .eq 5, 3) := by decide +kernel
theorem dlaw_1095 : decode code 1095 = .ok (.iconst 0, 1) := by decide +kernel
theorem dlaw_1096 : decode code 1096 = .ok (.ireturn, 1) := by decide +kernel
theorem dlaw_1097 : decode code 1097 = .ok (.iinc 3 6, 3) := by decide +kernel
theorem dlaw_1100 : decode code 1100 = .ok (.goto (-1082), 3) := by decide +kernel
theorem dlaw_1103 : decode code 1103 = .ok (.iconst 1, 1) := by decide +kernel
theorem dlaw_1104 : decode code 1104 = .ok (.ireturn, 1) := by decide +kernel
