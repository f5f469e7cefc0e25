theorem dL_law_0 : decode cL_law 0 = .ok (.new 7, 3) := by decide +kernel
theorem dL_law_3 : decode cL_law 3 = .ok (.dup, 1) := by decide +kernel
theorem dL_law_4 : decode cL_law 4 = .ok (.invokespecial 9, 3) := by decide +kernel
theorem dL_law_7 : decode cL_law 7 = .ok (.astore_n 1, 1) := by decide +kernel
theorem dL_law_8 : decode cL_law 8 = .ok (.new 10, 3) := by decide +kernel
theorem dL_law_11 : decode cL_law 11 = .ok (.dup, 1) := by decide +kernel
theorem dL_law_12 : decode cL_law 12 = .ok (.invokespecial 12, 3) := by decide +kernel
theorem dL_law_15 : decode cL_law 15 = .ok (.astore_n 2, 1) := by decide +kernel
theorem dL_law_16 : decode cL_law 16 = .ok (.iconst 0, 1) := by decide +kernel
theorem dL_law_17 : decode cL_law 17 = .ok (.istore_n 3, 1) := by decide +kernel
theorem dL_law_18 : decode cL_law 18 = .ok (.iload_n 3, 1) := by decide +kernel
theorem dL_law_19 : decode cL_law 19 = .ok (.aload_n 0, 1) := by decide +kernel
theorem dL_law_20 : decode cL_law 20 = .ok (.arraylength, 1) := by decide +kernel
theorem dL_law_21 : decode cL_law 21 = .ok (.bipush 7, 2) := by decide +kernel
theorem dL_law_23 : decode cL_law 23 = .ok (.isub, 1) := by decide +kernel
theorem dL_law_24 : decode cL_law 24 = .ok (.if_icmp .gt 1396, 3) := by decide +kernel
theorem dL_law_27 : decode cL_law 27 = .ok (.aload_n 0, 1) := by decide +kernel
theorem dL_law_28 : decode cL_law 28 = .ok (.iload_n 3, 1) := by decide +kernel
theorem dL_law_29 : decode cL_law 29 = .ok (.iaload, 1) := by decide +kernel
theorem dL_law_30 : decode cL_law 30 = .ok (.bipush 63, 2) := by decide +kernel
theorem dL_law_32 : decode cL_law 32 = .ok (.iand, 1) := by decide +kernel
theorem dL_law_33 : decode cL_law 33 = .ok (.tableswitch 1381 0 35 #[159, 182, 215, 238, 313, 326, 349, 392, 435, 478, 511, 544, 557, 590, 613, 636, 669, 702, 745, 768, 792, 815, 858, 891, 934, 977, 1000, 1033, 1066, 1120, 1133, 1146, 1189, 1232, 1295, 1348], 159) := by decide +kernel
theorem dL_law_192 : decode cL_law 192 = .ok (.aload_n 1, 1) := by decide +kernel
theorem dL_law_193 : decode cL_law 193 = .ok (.aload_n 0, 1) := by decide +kernel
theorem dL_law_194 : decode cL_law 194 = .ok (.iload_n 3, 1) := by decide +kernel
theorem dL_law_195 : decode cL_law 195 = .ok (.iconst 1, 1) := by decide +kernel
theorem dL_law_196 : decode cL_law 196 = .ok (.iadd, 1) := by decide +kernel
theorem dL_law_197 : decode cL_law 197 = .ok (.iaload, 1) := by decide +kernel
theorem dL_law_198 : decode cL_law 198 = .ok (.invokevirtual 13, 3) := by decide +kernel
theorem dL_law_201 : decode cL_law 201 = .ok (.aload_n 2, 1) := by decide +kernel
theorem dL_law_202 : decode cL_law 202 = .ok (.aload_n 0, 1) := by decide +kernel
theorem dL_law_203 : decode cL_law 203 = .ok (.iload_n 3, 1) := by decide +kernel
theorem dL_law_204 : decode cL_law 204 = .ok (.iconst 1, 1) := by decide +kernel
theorem dL_law_205 : decode cL_law 205 = .ok (.iadd, 1) := by decide +kernel
theorem dL_law_206 : decode cL_law 206 = .ok (.iaload, 1) := by decide +kernel
theorem dL_law_207 : decode cL_law 207 = .ok (.invokevirtual 17, 3) := by decide +kernel
theorem dL_law_210 : decode cL_law 210 = .ok (.if_icmp .eq 1204, 3) := by decide +kernel
theorem dL_law_213 : decode cL_law 213 = .ok (.iconst 0, 1) := by decide +kernel
theorem dL_law_214 : decode cL_law 214 = .ok (.ireturn, 1) := by decide +kernel
theorem dL_law_215 : decode cL_law 215 = .ok (.aload_n 1, 1) := by decide +kernel
theorem dL_law_216 : decode cL_law 216 = .ok (.aload_n 0, 1) := by decide +kernel
theorem dL_law_217 : decode cL_law 217 = .ok (.iload_n 3, 1) := by decide +kernel
theorem dL_law_218 : decode cL_law 218 = .ok (.iconst 1, 1) := by decide +kernel
theorem dL_law_219 : decode cL_law 219 = .ok (.iadd, 1) := by decide +kernel
theorem dL_law_220 : decode cL_law 220 = .ok (.iaload, 1) := by decide +kernel
theorem dL_law_221 : decode cL_law 221 = .ok (.aload_n 0, 1) := by decide +kernel
theorem dL_law_222 : decode cL_law 222 = .ok (.iload_n 3, 1) := by decide +kernel
theorem dL_law_223 : decode cL_law 223 = .ok (.iconst 2, 1) := by decide +kernel
theorem dL_law_224 : decode cL_law 224 = .ok (.iadd, 1) := by decide +kernel
theorem dL_law_225 : decode cL_law 225 = .ok (.iaload, 1) := by decide +kernel
theorem dL_law_226 : decode cL_law 226 = .ok (.invokevirtual 18, 3) := by decide +kernel
theorem dL_law_229 : decode cL_law 229 = .ok (.aload_n 2, 1) := by decide +kernel
theorem dL_law_230 : decode cL_law 230 = .ok (.aload_n 0, 1) := by decide +kernel
theorem dL_law_231 : decode cL_law 231 = .ok (.iload_n 3, 1) := by decide +kernel
theorem dL_law_232 : decode cL_law 232 = .ok (.iconst 1, 1) := by decide +kernel
theorem dL_law_233 : decode cL_law 233 = .ok (.iadd, 1) := by decide +kernel
theorem dL_law_234 : decode cL_law 234 = .ok (.iaload, 1) := by decide +kernel
theorem dL_law_235 : decode cL_law 235 = .ok (.aload_n 0, 1) := by decide +kernel
theorem dL_law_236 : decode cL_law 236 = .ok (.iload_n 3, 1) := by decide +kernel
theorem dL_law_237 : decode cL_law 237 = .ok (.iconst 2, 1) := by decide +kernel
theorem dL_law_238 : decode cL_law 238 = .ok (.iadd, 1) := by decide +kernel
theorem dL_law_239 : decode cL_law 239 = .ok (.iaload, 1) := by decide +kernel
theorem dL_law_240 : decode cL_law 240 = .ok (.invokevirtual 22, 3) := by decide +kernel
theorem dL_law_243 : decode cL_law 243 = .ok (.if_icmp .eq 1171, 3) := by decide +kernel
theorem dL_law_246 : decode cL_law 246 = .ok (.iconst 0, 1) := by decide +kernel
theorem dL_law_247 : decode cL_law 247 = .ok (.ireturn, 1) := by decide +kernel
theorem dL_law_248 : decode cL_law 248 = .ok (.aload_n 1, 1) := by decide +kernel
theorem dL_law_249 : decode cL_law 249 = .ok (.aload_n 0, 1) := by decide +kernel
theorem dL_law_250 : decode cL_law 250 = .ok (.iload_n 3, 1) := by decide +kernel
theorem dL_law_251 : decode cL_law 251 = .ok (.iconst 1, 1) := by decide +kernel
theorem dL_law_252 : decode cL_law 252 = .ok (.iadd, 1) := by decide +kernel
theorem dL_law_253 : decode cL_law 253 = .ok (.iaload, 1) := by decide +kernel
theorem dL_law_254 : decode cL_law 254 = .ok (.invokevirtual 23, 3) := by decide +kernel
theorem dL_law_257 : decode cL_law 257 = .ok (.aload_n 2, 1) := by decide +kernel
theorem dL_law_258 : decode cL_law 258 = .ok (.aload_n 0, 1) := by decide +kernel
theorem dL_law_259 : decode cL_law 259 = .ok (.iload_n 3, 1) := by decide +kernel
theorem dL_law_260 : decode cL_law 260 = .ok (.iconst 1, 1) := by decide +kernel
theorem dL_law_261 : decode cL_law 261 = .ok (.iadd, 1) := by decide +kernel
theorem dL_law_262 : decode cL_law 262 = .ok (.iaload, 1) := by decide +kernel
theorem dL_law_263 : decode cL_law 263 = .ok (.invokevirtual 26, 3) := by decide +kernel
theorem dL_law_266 : decode cL_law 266 = .ok (.if_icmp .eq 1148, 3) := by decide +kernel
theorem dL_law_269 : decode cL_law 269 = .ok (.iconst 0, 1) := by decide +kernel
theorem dL_law_270 : decode cL_law 270 = .ok (.ireturn, 1) := by decide +kernel
theorem dL_law_271 : decode cL_law 271 = .ok (.aload_n 1, 1) := by decide +kernel
theorem dL_law_272 : decode cL_law 272 = .ok (.aload_n 0, 1) := by decide +kernel
theorem dL_law_273 : decode cL_law 273 = .ok (.iload_n 3, 1) := by decide +kernel
theorem dL_law_274 : decode cL_law 274 = .ok (.iconst 1, 1) := by decide +kernel
theorem dL_law_275 : decode cL_law 275 = .ok (.iadd, 1) := by decide +kernel
theorem dL_law_276 : decode cL_law 276 = .ok (.iaload, 1) := by decide +kernel
theorem dL_law_277 : decode cL_law 277 = .ok (.aload_n 0, 1) := by decide +kernel
theorem dL_law_278 : decode cL_law 278 = .ok (.iload_n 3, 1) := by decide +kernel
theorem dL_law_279 : decode cL_law 279 = .ok (.iconst 2, 1) := by decide +kernel
theorem dL_law_280 : decode cL_law 280 = .ok (.iadd, 1) := by decide +kernel
theorem dL_law_281 : decode cL_law 281 = .ok (.iaload, 1) := by decide +kernel
theorem dL_law_282 : decode cL_law 282 = .ok (.aload_n 0, 1) := by decide +kernel
theorem dL_law_283 : decode cL_law 283 = .ok (.iload_n 3, 1) := by decide +kernel
theorem dL_law_284 : decode cL_law 284 = .ok (.iconst 3, 1) := by decide +kernel
theorem dL_law_285 : decode cL_law 285 = .ok (.iadd, 1) := by decide +kernel
theorem dL_law_286 : decode cL_law 286 = .ok (.iaload, 1) := by decide +kernel
theorem dL_law_287 : decode cL_law 287 = .ok (.aload_n 0, 1) := by decide +kernel
theorem dL_law_288 : decode cL_law 288 = .ok (.iload_n 3, 1) := by decide +kernel
theorem dL_law_289 : decode cL_law 289 = .ok (.iconst 4, 1) := by decide +kernel
theorem dL_law_290 : decode cL_law 290 = .ok (.iadd, 1) := by decide +kernel
theorem dL_law_291 : decode cL_law 291 = .ok (.iaload, 1) := by decide +kernel
theorem dL_law_292 : decode cL_law 292 = .ok (.aload_n 0, 1) := by decide +kernel
theorem dL_law_293 : decode cL_law 293 = .ok (.iload_n 3, 1) := by decide +kernel
theorem dL_law_294 : decode cL_law 294 = .ok (.iconst 5, 1) := by decide +kernel
theorem dL_law_295 : decode cL_law 295 = .ok (.iadd, 1) := by decide +kernel
theorem dL_law_296 : decode cL_law 296 = .ok (.iaload, 1) := by decide +kernel
theorem dL_law_297 : decode cL_law 297 = .ok (.aload_n 0, 1) := by decide +kernel
theorem dL_law_298 : decode cL_law 298 = .ok (.iload_n 3, 1) := by decide +kernel
theorem dL_law_299 : decode cL_law 299 = .ok (.bipush 6, 2) := by decide +kernel
theorem dL_law_301 : decode cL_law 301 = .ok (.iadd, 1) := by decide +kernel
theorem dL_law_302 : decode cL_law 302 = .ok (.iaload, 1) := by decide +kernel
theorem dL_law_303 : decode cL_law 303 = .ok (.invokevirtual 27, 3) := by decide +kernel
theorem dL_law_306 : decode cL_law 306 = .ok (.aload_n 2, 1) := by decide +kernel
theorem dL_law_307 : decode cL_law 307 = .ok (.aload_n 0, 1) := by decide +kernel
theorem dL_law_308 : decode cL_law 308 = .ok (.iload_n 3, 1) := by decide +kernel
theorem dL_law_309 : decode cL_law 309 = .ok (.iconst 1, 1) := by decide +kernel
theorem dL_law_310 : decode cL_law 310 = .ok (.iadd, 1) := by decide +kernel
theorem dL_law_311 : decode cL_law 311 = .ok (.iaload, 1) := by decide +kernel
theorem dL_law_312 : decode cL_law 312 = .ok (.aload_n 0, 1) := by decide +kernel
theorem dL_law_313 : decode cL_law 313 = .ok (.iload_n 3, 1) := by decide +kernel
theorem dL_law_314 : decode cL_law 314 = .ok (.iconst 2, 1) := by decide +kernel
theorem dL_law_315 : decode cL_law 315 = .ok (.iadd, 1) := by decide +kernel
theorem dL_law_316 : decode cL_law 316 = .ok (.iaload, 1) := by decide +kernel
theorem dL_law_317 : decode cL_law 317 = .ok (.aload_n 0, 1) := by decide +kernel
theorem dL_law_318 : decode cL_law 318 = .ok (.iload_n 3, 1) := by decide +kernel
theorem dL_law_319 : decode cL_law 319 = .ok (.iconst 3, 1) := by decide +kernel
theorem dL_law_320 : decode cL_law 320 = .ok (.iadd, 1) := by decide +kernel
theorem dL_law_321 : decode cL_law 321 = .ok (.iaload, 1) := by decide +kernel
theorem dL_law_322 : decode cL_law 322 = .ok (.aload_n 0, 1) := by decide +kernel
theorem dL_law_323 : decode cL_law 323 = .ok (.iload_n 3, 1) := by decide +kernel
theorem dL_law_324 : decode cL_law 324 = .ok (.iconst 4, 1) := by decide +kernel
theorem dL_law_325 : decode cL_law 325 = .ok (.iadd, 1) := by decide +kernel
theorem dL_law_326 : decode cL_law 326 = .ok (.iaload, 1) := by decide +kernel
theorem dL_law_327 : decode cL_law 327 = .ok (.aload_n 0, 1) := by decide +kernel
theorem dL_law_328 : decode cL_law 328 = .ok (.iload_n 3, 1) := by decide +kernel
theorem dL_law_329 : decode cL_law 329 = .ok (.iconst 5, 1) := by decide +kernel
theorem dL_law_330 : decode cL_law 330 = .ok (.iadd, 1) := by decide +kernel
theorem dL_law_331 : decode cL_law 331 = .ok (.iaload, 1) := by decide +kernel
theorem dL_law_332 : decode cL_law 332 = .ok (.aload_n 0, 1) := by decide +kernel
theorem dL_law_333 : decode cL_law 333 = .ok (.iload_n 3, 1) := by decide +kernel
theorem dL_law_334 : decode cL_law 334 = .ok (.bipush 6, 2) := by decide +kernel
theorem dL_law_336 : decode cL_law 336 = .ok (.iadd, 1) := by decide +kernel
theorem dL_law_337 : decode cL_law 337 = .ok (.iaload, 1) := by decide +kernel
theorem dL_law_338 : decode cL_law 338 = .ok (.invokevirtual 31, 3) := by decide +kernel
theorem dL_law_341 : decode cL_law 341 = .ok (.if_icmp .eq 1073, 3) := by decide +kernel
theorem dL_law_344 : decode cL_law 344 = .ok (.iconst 0, 1) := by decide +kernel
theorem dL_law_345 : decode cL_law 345 = .ok (.ireturn, 1) := by decide +kernel
theorem dL_law_346 : decode cL_law 346 = .ok (.aload_n 1, 1) := by decide +kernel
theorem dL_law_347 : decode cL_law 347 = .ok (.invokevirtual 32, 3) := by decide +kernel
theorem dL_law_350 : decode cL_law 350 = .ok (.aload_n 2, 1) := by decide +kernel
theorem dL_law_351 : decode cL_law 351 = .ok (.invokevirtual 36, 3) := by decide +kernel
theorem dL_law_354 : decode cL_law 354 = .ok (.if_icmp .eq 1060, 3) := by decide +kernel
theorem dL_law_357 : decode cL_law 357 = .ok (.iconst 0, 1) := by decide +kernel
theorem dL_law_358 : decode cL_law 358 = .ok (.ireturn, 1) := by decide +kernel
theorem dL_law_359 : decode cL_law 359 = .ok (.aload_n 1, 1) := by decide +kernel
theorem dL_law_360 : decode cL_law 360 = .ok (.aload_n 0, 1) := by decide +kernel
theorem dL_law_361 : decode cL_law 361 = .ok (.iload_n 3, 1) := by decide +kernel
theorem dL_law_362 : decode cL_law 362 = .ok (.iconst 1, 1) := by decide +kernel
theorem dL_law_363 : decode cL_law 363 = .ok (.iadd, 1) := by decide +kernel
theorem dL_law_364 : decode cL_law 364 = .ok (.iaload, 1) := by decide +kernel
theorem dL_law_365 : decode cL_law 365 = .ok (.invokevirtual 37, 3) := by decide +kernel
theorem dL_law_368 : decode cL_law 368 = .ok (.aload_n 2, 1) := by decide +kernel
theorem dL_law_369 : decode cL_law 369 = .ok (.aload_n 0, 1) := by decide +kernel
theorem dL_law_370 : decode cL_law 370 = .ok (.iload_n 3, 1) := by decide +kernel
theorem dL_law_371 : decode cL_law 371 = .ok (.iconst 1, 1) := by decide +kernel
theorem dL_law_372 : decode cL_law 372 = .ok (.iadd, 1) := by decide +kernel
theorem dL_law_373 : decode cL_law 373 = .ok (.iaload, 1) := by decide +kernel
theorem dL_law_374 : decode cL_law 374 = .ok (.invokevirtual 40, 3) := by decide +kernel
theorem dL_law_377 : decode cL_law 377 = .ok (.if_icmp .eq 1037, 3) := by decide +kernel
theorem dL_law_380 : decode cL_law 380 = .ok (.iconst 0, 1) := by decide +kernel
theorem dL_law_381 : decode cL_law 381 = .ok (.ireturn, 1) := by decide +kernel
theorem dL_law_382 : decode cL_law 382 = .ok (.aload_n 1, 1) := by decide +kernel
theorem dL_law_383 : decode cL_law 383 = .ok (.aload_n 0, 1) := by decide +kernel
theorem dL_law_384 : decode cL_law 384 = .ok (.iload_n 3, 1) := by decide +kernel
theorem dL_law_385 : decode cL_law 385 = .ok (.iconst 1, 1) := by decide +kernel
theorem dL_law_386 : decode cL_law 386 = .ok (.iadd, 1) := by decide +kernel
theorem dL_law_387 : decode cL_law 387 = .ok (.iaload, 1) := by decide +kernel
theorem dL_law_388 : decode cL_law 388 = .ok (.aload_n 0, 1) := by decide +kernel
theorem dL_law_389 : decode cL_law 389 = .ok (.iload_n 3, 1) := by decide +kernel
theorem dL_law_390 : decode cL_law 390 = .ok (.iconst 2, 1) := by decide +kernel
theorem dL_law_391 : decode cL_law 391 = .ok (.iadd, 1) := by decide +kernel
theorem dL_law_392 : decode cL_law 392 = .ok (.iaload, 1) := by decide +kernel
theorem dL_law_393 : decode cL_law 393 = .ok (.aload_n 0, 1) := by decide +kernel
theorem dL_law_394 : decode cL_law 394 = .ok (.iload_n 3, 1) := by decide +kernel
theorem dL_law_395 : decode cL_law 395 = .ok (.iconst 3, 1) := by decide +kernel
theorem dL_law_396 : decode cL_law 396 = .ok (.iadd, 1) := by decide +kernel
theorem dL_law_397 : decode cL_law 397 = .ok (.iaload, 1) := by decide +kernel
theorem dL_law_398 : decode cL_law 398 = .ok (.invokevirtual 41, 3) := by decide +kernel
theorem dL_law_401 : decode cL_law 401 = .ok (.aload_n 2, 1) := by decide +kernel
theorem dL_law_402 : decode cL_law 402 = .ok (.aload_n 0, 1) := by decide +kernel
theorem dL_law_403 : decode cL_law 403 = .ok (.iload_n 3, 1) := by decide +kernel
theorem dL_law_404 : decode cL_law 404 = .ok (.iconst 1, 1) := by decide +kernel
theorem dL_law_405 : decode cL_law 405 = .ok (.iadd, 1) := by decide +kernel
theorem dL_law_406 : decode cL_law 406 = .ok (.iaload, 1) := by decide +kernel
theorem dL_law_407 : decode cL_law 407 = .ok (.aload_n 0, 1) := by decide +kernel
theorem dL_law_408 : decode cL_law 408 = .ok (.iload_n 3, 1) := by decide +kernel
theorem dL_law_409 : decode cL_law 409 = .ok (.iconst 2, 1) := by decide +kernel
theorem dL_law_410 : decode cL_law 410 = .ok (.iadd, 1) := by decide +kernel
theorem dL_law_411 : decode cL_law 411 = .ok (.iaload, 1) := by decide +kernel
theorem dL_law_412 : decode cL_law 412 = .ok (.aload_n 0, 1) := by decide +kernel
theorem dL_law_413 : decode cL_law 413 = .ok (.iload_n 3, 1) := by decide +kernel
theorem dL_law_414 : decode cL_law 414 = .ok (.iconst 3, 1) := by decide +kernel
theorem dL_law_415 : decode cL_law 415 = .ok (.iadd, 1) := by decide +kernel
theorem dL_law_416 : decode cL_law 416 = .ok (.iaload, 1) := by decide +kernel
theorem dL_law_417 : decode cL_law 417 = .ok (.invokevirtual 45, 3) := by decide +kernel
theorem dL_law_420 : decode cL_law 420 = .ok (.if_icmp .eq 994, 3) := by decide +kernel
theorem dL_law_423 : decode cL_law 423 = .ok (.iconst 0, 1) := by decide +kernel
theorem dL_law_424 : decode cL_law 424 = .ok (.ireturn, 1) := by decide +kernel
theorem dL_law_425 : decode cL_law 425 = .ok (.aload_n 1, 1) := by decide +kernel
theorem dL_law_426 : decode cL_law 426 = .ok (.aload_n 0, 1) := by decide +kernel
theorem dL_law_427 : decode cL_law 427 = .ok (.iload_n 3, 1) := by decide +kernel
theorem dL_law_428 : decode cL_law 428 = .ok (.iconst 1, 1) := by decide +kernel
theorem dL_law_429 : decode cL_law 429 = .ok (.iadd, 1) := by decide +kernel
theorem dL_law_430 : decode cL_law 430 = .ok (.iaload, 1) := by decide +kernel
theorem dL_law_431 : decode cL_law 431 = .ok (.aload_n 0, 1) := by decide +kernel
theorem dL_law_432 : decode cL_law 432 = .ok (.iload_n 3, 1) := by decide +kernel
theorem dL_law_433 : decode cL_law 433 = .ok (.iconst 2, 1) := by decide +kernel
theorem dL_law_434 : decode cL_law 434 = .ok (.iadd, 1) := by decide +kernel
theorem dL_law_435 : decode cL_law 435 = .ok (.iaload, 1) := by decide +kernel
theorem dL_law_436 : decode cL_law 436 = .ok (.aload_n 0, 1) := by decide +kernel
theorem dL_law_437 : decode cL_law 437 = .ok (.iload_n 3, 1) := by decide +kernel
theorem dL_law_438 : decode cL_law 438 = .ok (.iconst 3, 1) := by decide +kernel
theorem dL_law_439 : decode cL_law 439 = .ok (.iadd, 1) := by decide +kernel
theorem dL_law_440 : decode cL_law 440 = .ok (.iaload, 1) := by decide +kernel
theorem dL_law_441 : decode cL_law 441 = .ok (.invokevirtual 46, 3) := by decide +kernel
theorem dL_law_444 : decode cL_law 444 = .ok (.aload_n 2, 1) := by decide +kernel
theorem dL_law_445 : decode cL_law 445 = .ok (.aload_n 0, 1) := by decide +kernel
theorem dL_law_446 : decode cL_law 446 = .ok (.iload_n 3, 1) := by decide +kernel
theorem dL_law_447 : decode cL_law 447 = .ok (.iconst 1, 1) := by decide +kernel
theorem dL_law_448 : decode cL_law 448 = .ok (.iadd, 1) := by decide +kernel
theorem dL_law_449 : decode cL_law 449 = .ok (.iaload, 1) := by decide +kernel
theorem dL_law_450 : decode cL_law 450 = .ok (.aload_n 0, 1) := by decide +kernel
theorem dL_law_451 : decode cL_law 451 = .ok (.iload_n 3, 1) := by decide +kernel
theorem dL_law_452 : decode cL_law 452 = .ok (.iconst 2, 1) := by decide +kernel
theorem dL_law_453 : decode cL_law 453 = .ok (.iadd, 1) := by decide +kernel
theorem dL_law_454 : decode cL_law 454 = .ok (.iaload, 1) := by decide +kernel
theorem dL_law_455 : decode cL_law 455 = .ok (.aload_n 0, 1) := by decide +kernel
theorem dL_law_456 : decode cL_law 456 = .ok (.iload_n 3, 1) := by decide +kernel
theorem dL_law_457 : decode cL_law 457 = .ok (.iconst 3, 1) := by decide +kernel
theorem dL_law_458 : decode cL_law 458 = .ok (.iadd, 1) := by decide +kernel
theorem dL_law_459 : decode cL_law 459 = .ok (.iaload, 1) := by decide +kernel
theorem dL_law_460 : decode cL_law 460 = .ok (.invokevirtual 49, 3) := by decide +kernel
theorem dL_law_463 : decode cL_law 463 = .ok (.if_icmp .eq 951, 3) := by decide +kernel
theorem dL_law_466 : decode cL_law 466 = .ok (.iconst 0, 1) := by decide +kernel
theorem dL_law_467 : decode cL_law 467 = .ok (.ireturn, 1) := by decide +kernel
theorem dL_law_468 : decode cL_law 468 = .ok (.aload_n 1, 1) := by decide +kernel
theorem dL_law_469 : decode cL_law 469 = .ok (.aload_n 0, 1) := by decide +kernel
theorem dL_law_470 : decode cL_law 470 = .ok (.iload_n 3, 1) := by decide +kernel
theorem dL_law_471 : decode cL_law 471 = .ok (.iconst 1, 1) := by decide +kernel
theorem dL_law_472 : decode cL_law 472 = .ok (.iadd, 1) := by decide +kernel
theorem dL_law_473 : decode cL_law 473 = .ok (.iaload, 1) := by decide +kernel
theorem dL_law_474 : decode cL_law 474 = .ok (.aload_n 0, 1) := by decide +kernel
theorem dL_law_475 : decode cL_law 475 = .ok (.iload_n 3, 1) := by decide +kernel
theorem dL_law_476 : decode cL_law 476 = .ok (.iconst 2, 1) := by decide +kernel
theorem dL_law_477 : decode cL_law 477 = .ok (.iadd, 1) := by decide +kernel
theorem dL_law_478 : decode cL_law 478 = .ok (.iaload, 1) := by decide +kernel
theorem dL_law_479 : decode cL_law 479 = .ok (.aload_n 0, 1) := by decide +kernel
theorem dL_law_480 : decode cL_law 480 = .ok (.iload_n 3, 1) := by decide +kernel
theorem dL_law_481 : decode cL_law 481 = .ok (.iconst 3, 1) := by decide +kernel
theorem dL_law_482 : decode cL_law 482 = .ok (.iadd, 1) := by decide +kernel
theorem dL_law_483 : decode cL_law 483 = .ok (.iaload, 1) := by decide +kernel
theorem dL_law_484 : decode cL_law 484 = .ok (.invokevirtual 50, 3) := by decide +kernel
theorem dL_law_487 : decode cL_law 487 = .ok (.aload_n 2, 1) := by decide +kernel
theorem dL_law_488 : decode cL_law 488 = .ok (.aload_n 0, 1) := by decide +kernel
theorem dL_law_489 : decode cL_law 489 = .ok (.iload_n 3, 1) := by decide +kernel
theorem dL_law_490 : decode cL_law 490 = .ok (.iconst 1, 1) := by decide +kernel
theorem dL_law_491 : decode cL_law 491 = .ok (.iadd, 1) := by decide +kernel
theorem dL_law_492 : decode cL_law 492 = .ok (.iaload, 1) := by decide +kernel
theorem dL_law_493 : decode cL_law 493 = .ok (.aload_n 0, 1) := by decide +kernel
theorem dL_law_494 : decode cL_law 494 = .ok (.iload_n 3, 1) := by decide +kernel
theorem dL_law_495 : decode cL_law 495 = .ok (.iconst 2, 1) := by decide +kernel
theorem dL_law_496 : decode cL_law 496 = .ok (.iadd, 1) := by decide +kernel
theorem dL_law_497 : decode cL_law 497 = .ok (.iaload, 1) := by decide +kernel
theorem dL_law_498 : decode cL_law 498 = .ok (.aload_n 0, 1) := by decide +kernel
theorem dL_law_499 : decode cL_law 499 = .ok (.iload_n 3, 1) := by decide +kernel
theorem dL_law_500 : decode cL_law 500 = .ok (.iconst 3, 1) := by decide +kernel
theorem dL_law_501 : decode cL_law 501 = .ok (.iadd, 1) := by decide +kernel
theorem dL_law_502 : decode cL_law 502 = .ok (.iaload, 1) := by decide +kernel
theorem dL_law_503 : decode cL_law 503 = .ok (.invokevirtual 53, 3) := by decide +kernel
theorem dL_law_506 : decode cL_law 506 = .ok (.if_icmp .eq 908, 3) := by decide +kernel
theorem dL_law_509 : decode cL_law 509 = .ok (.iconst 0, 1) := by decide +kernel
theorem dL_law_510 : decode cL_law 510 = .ok (.ireturn, 1) := by decide +kernel
theorem dL_law_511 : decode cL_law 511 = .ok (.aload_n 1, 1) := by decide +kernel
theorem dL_law_512 : decode cL_law 512 = .ok (.aload_n 0, 1) := by decide +kernel
theorem dL_law_513 : decode cL_law 513 = .ok (.iload_n 3, 1) := by decide +kernel
theorem dL_law_514 : decode cL_law 514 = .ok (.iconst 1, 1) := by decide +kernel
theorem dL_law_515 : decode cL_law 515 = .ok (.iadd, 1) := by decide +kernel
theorem dL_law_516 : decode cL_law 516 = .ok (.iaload, 1) := by decide +kernel
theorem dL_law_517 : decode cL_law 517 = .ok (.aload_n 0, 1) := by decide +kernel
theorem dL_law_518 : decode cL_law 518 = .ok (.iload_n 3, 1) := by decide +kernel
theorem dL_law_519 : decode cL_law 519 = .ok (.iconst 2, 1) := by decide +kernel
theorem dL_law_520 : decode cL_law 520 = .ok (.iadd, 1) := by decide +kernel
theorem dL_law_521 : decode cL_law 521 = .ok (.iaload, 1) := by decide +kernel
theorem dL_law_522 : decode cL_law 522 = .ok (.invokevirtual 54, 3) := by decide +kernel
theorem dL_law_525 : decode cL_law 525 = .ok (.aload_n 2, 1) := by decide +kernel
theorem dL_law_526 : decode cL_law 526 = .ok (.aload_n 0, 1) := by decide +kernel
theorem dL_law_527 : decode cL_law 527 = .ok (.iload_n 3, 1) := by decide +kernel
theorem dL_law_528 : decode cL_law 528 = .ok (.iconst 1, 1) := by decide +kernel
theorem dL_law_529 : decode cL_law 529 = .ok (.iadd, 1) := by decide +kernel
theorem dL_law_530 : decode cL_law 530 = .ok (.iaload, 1) := by decide +kernel
theorem dL_law_531 : decode cL_law 531 = .ok (.aload_n 0, 1) := by decide +kernel
theorem dL_law_532 : decode cL_law 532 = .ok (.iload_n 3, 1) := by decide +kernel
theorem dL_law_533 : decode cL_law 533 = .ok (.iconst 2, 1) := by decide +kernel
theorem dL_law_534 : decode cL_law 534 = .ok (.iadd, 1) := by decide +kernel
theorem dL_law_535 : decode cL_law 535 = .ok (.iaload, 1) := by decide +kernel
theorem dL_law_536 : decode cL_law 536 = .ok (.invokevirtual 57, 3) := by decide +kernel
theorem dL_law_539 : decode cL_law 539 = .ok (.if_icmp .eq 875, 3) := by decide +kernel
theorem dL_law_542 : decode cL_law 542 = .ok (.iconst 0, 1) := by decide +kernel
theorem dL_law_543 : decode cL_law 543 = .ok (.ireturn, 1) := by decide +kernel
theorem dL_law_544 : decode cL_law 544 = .ok (.aload_n 1, 1) := by decide +kernel
theorem dL_law_545 : decode cL_law 545 = .ok (.aload_n 0, 1) := by decide +kernel
theorem dL_law_546 : decode cL_law 546 = .ok (.iload_n 3, 1) := by decide +kernel
theorem dL_law_547 : decode cL_law 547 = .ok (.iconst 1, 1) := by decide +kernel
theorem dL_law_548 : decode cL_law 548 = .ok (.iadd, 1) := by decide +kernel
theorem dL_law_549 : decode cL_law 549 = .ok (.iaload, 1) := by decide +kernel
theorem dL_law_550 : decode cL_law 550 = .ok (.aload_n 0, 1) := by decide +kernel
theorem dL_law_551 : decode cL_law 551 = .ok (.iload_n 3, 1) := by decide +kernel
theorem dL_law_552 : decode cL_law 552 = .ok (.iconst 2, 1) := by decide +kernel
theorem dL_law_553 : decode cL_law 553 = .ok (.iadd, 1) := by decide +kernel
theorem dL_law_554 : decode cL_law 554 = .ok (.iaload, 1) := by decide +kernel
theorem dL_law_555 : decode cL_law 555 = .ok (.invokevirtual 58, 3) := by decide +kernel
theorem dL_law_558 : decode cL_law 558 = .ok (.aload_n 2, 1) := by decide +kernel
theorem dL_law_559 : decode cL_law 559 = .ok (.aload_n 0, 1) := by decide +kernel
theorem dL_law_560 : decode cL_law 560 = .ok (.iload_n 3, 1) := by decide +kernel
theorem dL_law_561 : decode cL_law 561 = .ok (.iconst 1, 1) := by decide +kernel
theorem dL_law_562 : decode cL_law 562 = .ok (.iadd, 1) := by decide +kernel
theorem dL_law_563 : decode cL_law 563 = .ok (.iaload, 1) := by decide +kernel
theorem dL_law_564 : decode cL_law 564 = .ok (.aload_n 0, 1) := by decide +kernel
theorem dL_law_565 : decode cL_law 565 = .ok (.iload_n 3, 1) := by decide +kernel
theorem dL_law_566 : decode cL_law 566 = .ok (.iconst 2, 1) := by decide +kernel
theorem dL_law_567 : decode cL_law 567 = .ok (.iadd, 1) := by decide +kernel
theorem dL_law_568 : decode cL_law 568 = .ok (.iaload, 1) := by decide +kernel
theorem dL_law_569 : decode cL_law 569 = .ok (.invokevirtual 61, 3) := by decide +kernel
theorem dL_law_572 : decode cL_law 572 = .ok (.if_icmp .eq 842, 3) := by decide +kernel
theorem dL_law_575 : decode cL_law 575 = .ok (.iconst 0, 1) := by decide +kernel
theorem dL_law_576 : decode cL_law 576 = .ok (.ireturn, 1) := by decide +kernel
theorem dL_law_577 : decode cL_law 577 = .ok (.aload_n 1, 1) := by decide +kernel
theorem dL_law_578 : decode cL_law 578 = .ok (.invokevirtual 62, 3) := by decide +kernel
theorem dL_law_581 : decode cL_law 581 = .ok (.aload_n 2, 1) := by decide +kernel
theorem dL_law_582 : decode cL_law 582 = .ok (.invokevirtual 65, 3) := by decide +kernel
theorem dL_law_585 : decode cL_law 585 = .ok (.if_icmp .eq 829, 3) := by decide +kernel
theorem dL_law_588 : decode cL_law 588 = .ok (.iconst 0, 1) := by decide +kernel
theorem dL_law_589 : decode cL_law 589 = .ok (.ireturn, 1) := by decide +kernel
theorem dL_law_590 : decode cL_law 590 = .ok (.aload_n 1, 1) := by decide +kernel
theorem dL_law_591 : decode cL_law 591 = .ok (.aload_n 0, 1) := by decide +kernel
theorem dL_law_592 : decode cL_law 592 = .ok (.iload_n 3, 1) := by decide +kernel
theorem dL_law_593 : decode cL_law 593 = .ok (.iconst 1, 1) := by decide +kernel
theorem dL_law_594 : decode cL_law 594 = .ok (.iadd, 1) := by decide +kernel
theorem dL_law_595 : decode cL_law 595 = .ok (.iaload, 1) := by decide +kernel
theorem dL_law_596 : decode cL_law 596 = .ok (.aload_n 0, 1) := by decide +kernel
theorem dL_law_597 : decode cL_law 597 = .ok (.iload_n 3, 1) := by decide +kernel
theorem dL_law_598 : decode cL_law 598 = .ok (.iconst 2, 1) := by decide +kernel
theorem dL_law_599 : decode cL_law 599 = .ok (.iadd, 1) := by decide +kernel
theorem dL_law_600 : decode cL_law 600 = .ok (.iaload, 1) := by decide +kernel
theorem dL_law_601 : decode cL_law 601 = .ok (.invokevirtual 66, 3) := by decide +kernel
theorem dL_law_604 : decode cL_law 604 = .ok (.aload_n 2, 1) := by decide +kernel
theorem dL_law_605 : decode cL_law 605 = .ok (.aload_n 0, 1) := by decide +kernel
theorem dL_law_606 : decode cL_law 606 = .ok (.iload_n 3, 1) := by decide +kernel
theorem dL_law_607 : decode cL_law 607 = .ok (.iconst 1, 1) := by decide +kernel
theorem dL_law_608 : decode cL_law 608 = .ok (.iadd, 1) := by decide +kernel
theorem dL_law_609 : decode cL_law 609 = .ok (.iaload, 1) := by decide +kernel
theorem dL_law_610 : decode cL_law 610 = .ok (.aload_n 0, 1) := by decide +kernel
theorem dL_law_611 : decode cL_law 611 = .ok (.iload_n 3, 1) := by decide +kernel
theorem dL_law_612 : decode cL_law 612 = .ok (.iconst 2, 1) := by decide +kernel
theorem dL_law_613 : decode cL_law 613 = .ok (.iadd, 1) := by decide +kernel
theorem dL_law_614 : decode cL_law 614 = .ok (.iaload, 1) := by decide +kernel
theorem dL_law_615 : decode cL_law 615 = .ok (.invokevirtual 69, 3) := by decide +kernel
theorem dL_law_618 : decode cL_law 618 = .ok (.if_icmp .eq 796, 3) := by decide +kernel
theorem dL_law_621 : decode cL_law 621 = .ok (.iconst 0, 1) := by decide +kernel
theorem dL_law_622 : decode cL_law 622 = .ok (.ireturn, 1) := by decide +kernel
theorem dL_law_623 : decode cL_law 623 = .ok (.aload_n 1, 1) := by decide +kernel
theorem dL_law_624 : decode cL_law 624 = .ok (.aload_n 0, 1) := by decide +kernel
theorem dL_law_625 : decode cL_law 625 = .ok (.iload_n 3, 1) := by decide +kernel
theorem dL_law_626 : decode cL_law 626 = .ok (.iconst 1, 1) := by decide +kernel
theorem dL_law_627 : decode cL_law 627 = .ok (.iadd, 1) := by decide +kernel
theorem dL_law_628 : decode cL_law 628 = .ok (.iaload, 1) := by decide +kernel
theorem dL_law_629 : decode cL_law 629 = .ok (.invokevirtual 70, 3) := by decide +kernel
theorem dL_law_632 : decode cL_law 632 = .ok (.aload_n 2, 1) := by decide +kernel
theorem dL_law_633 : decode cL_law 633 = .ok (.aload_n 0, 1) := by decide +kernel
theorem dL_law_634 : decode cL_law 634 = .ok (.iload_n 3, 1) := by decide +kernel
theorem dL_law_635 : decode cL_law 635 = .ok (.iconst 1, 1) := by decide +kernel
theorem dL_law_636 : decode cL_law 636 = .ok (.iadd, 1) := by decide +kernel
theorem dL_law_637 : decode cL_law 637 = .ok (.iaload, 1) := by decide +kernel
theorem dL_law_638 : decode cL_law 638 = .ok (.invokevirtual 73, 3) := by decide +kernel
theorem dL_law_641 : decode cL_law 641 = .ok (.if_icmp .eq 773, 3) := by decide +kernel
theorem dL_law_644 : decode cL_law 644 = .ok (.iconst 0, 1) := by decide +kernel
theorem dL_law_645 : decode cL_law 645 = .ok (.ireturn, 1) := by decide +kernel
theorem dL_law_646 : decode cL_law 646 = .ok (.aload_n 1, 1) := by decide +kernel
theorem dL_law_647 : decode cL_law 647 = .ok (.aload_n 0, 1) := by decide +kernel
theorem dL_law_648 : decode cL_law 648 = .ok (.iload_n 3, 1) := by decide +kernel
theorem dL_law_649 : decode cL_law 649 = .ok (.iconst 1, 1) := by decide +kernel
theorem dL_law_650 : decode cL_law 650 = .ok (.iadd, 1) := by decide +kernel
theorem dL_law_651 : decode cL_law 651 = .ok (.iaload, 1) := by decide +kernel
theorem dL_law_652 : decode cL_law 652 = .ok (.invokevirtual 74, 3) := by decide +kernel
theorem dL_law_655 : decode cL_law 655 = .ok (.aload_n 2, 1) := by decide +kernel
theorem dL_law_656 : decode cL_law 656 = .ok (.aload_n 0, 1) := by decide +kernel
theorem dL_law_657 : decode cL_law 657 = .ok (.iload_n 3, 1) := by decide +kernel
theorem dL_law_658 : decode cL_law 658 = .ok (.iconst 1, 1) := by decide +kernel
theorem dL_law_659 : decode cL_law 659 = .ok (.iadd, 1) := by decide +kernel
theorem dL_law_660 : decode cL_law 660 = .ok (.iaload, 1) := by decide +kernel
theorem dL_law_661 : decode cL_law 661 = .ok (.invokevirtual 77, 3) := by decide +kernel
theorem dL_law_664 : decode cL_law 664 = .ok (.if_icmp .eq 750, 3) := by decide +kernel
theorem dL_law_667 : decode cL_law 667 = .ok (.iconst 0, 1) := by decide +kernel
theorem dL_law_668 : decode cL_law 668 = .ok (.ireturn, 1) := by decide +kernel
theorem dL_law_669 : decode cL_law 669 = .ok (.aload_n 1, 1) := by decide +kernel
theorem dL_law_670 : decode cL_law 670 = .ok (.aload_n 0, 1) := by decide +kernel
theorem dL_law_671 : decode cL_law 671 = .ok (.iload_n 3, 1) := by decide +kernel
theorem dL_law_672 : decode cL_law 672 = .ok (.iconst 1, 1) := by decide +kernel
theorem dL_law_673 : decode cL_law 673 = .ok (.iadd, 1) := by decide +kernel
theorem dL_law_674 : decode cL_law 674 = .ok (.iaload, 1) := by decide +kernel
theorem dL_law_675 : decode cL_law 675 = .ok (.aload_n 0, 1) := by decide +kernel
theorem dL_law_676 : decode cL_law 676 = .ok (.iload_n 3, 1) := by decide +kernel
theorem dL_law_677 : decode cL_law 677 = .ok (.iconst 2, 1) := by decide +kernel
theorem dL_law_678 : decode cL_law 678 = .ok (.iadd, 1) := by decide +kernel
theorem dL_law_679 : decode cL_law 679 = .ok (.iaload, 1) := by decide +kernel
theorem dL_law_680 : decode cL_law 680 = .ok (.invokevirtual 78, 3) := by decide +kernel
theorem dL_law_683 : decode cL_law 683 = .ok (.aload_n 2, 1) := by decide +kernel
theorem dL_law_684 : decode cL_law 684 = .ok (.aload_n 0, 1) := by decide +kernel
theorem dL_law_685 : decode cL_law 685 = .ok (.iload_n 3, 1) := by decide +kernel
theorem dL_law_686 : decode cL_law 686 = .ok (.iconst 1, 1) := by decide +kernel
theorem dL_law_687 : decode cL_law 687 = .ok (.iadd, 1) := by decide +kernel
theorem dL_law_688 : decode cL_law 688 = .ok (.iaload, 1) := by decide +kernel
theorem dL_law_689 : decode cL_law 689 = .ok (.aload_n 0, 1) := by decide +kernel
theorem dL_law_690 : decode cL_law 690 = .ok (.iload_n 3, 1) := by decide +kernel
theorem dL_law_691 : decode cL_law 691 = .ok (.iconst 2, 1) := by decide +kernel
theorem dL_law_692 : decode cL_law 692 = .ok (.iadd, 1) := by decide +kernel
theorem dL_law_693 : decode cL_law 693 = .ok (.iaload, 1) := by decide +kernel
theorem dL_law_694 : decode cL_law 694 = .ok (.invokevirtual 81, 3) := by decide +kernel
theorem dL_law_697 : decode cL_law 697 = .ok (.if_icmp .eq 717, 3) := by decide +kernel
theorem dL_law_700 : decode cL_law 700 = .ok (.iconst 0, 1) := by decide +kernel
theorem dL_law_701 : decode cL_law 701 = .ok (.ireturn, 1) := by decide +kernel
theorem dL_law_702 : decode cL_law 702 = .ok (.aload_n 1, 1) := by decide +kernel
theorem dL_law_703 : decode cL_law 703 = .ok (.aload_n 0, 1) := by decide +kernel
theorem dL_law_704 : decode cL_law 704 = .ok (.iload_n 3, 1) := by decide +kernel
theorem dL_law_705 : decode cL_law 705 = .ok (.iconst 1, 1) := by decide +kernel
theorem dL_law_706 : decode cL_law 706 = .ok (.iadd, 1) := by decide +kernel
theorem dL_law_707 : decode cL_law 707 = .ok (.iaload, 1) := by decide +kernel
theorem dL_law_708 : decode cL_law 708 = .ok (.aload_n 0, 1) := by decide +kernel
theorem dL_law_709 : decode cL_law 709 = .ok (.iload_n 3, 1) := by decide +kernel
theorem dL_law_710 : decode cL_law 710 = .ok (.iconst 2, 1) := by decide +kernel
theorem dL_law_711 : decode cL_law 711 = .ok (.iadd, 1) := by decide +kernel
theorem dL_law_712 : decode cL_law 712 = .ok (.iaload, 1) := by decide +kernel
theorem dL_law_713 : decode cL_law 713 = .ok (.invokevirtual 82, 3) := by decide +kernel
theorem dL_law_716 : decode cL_law 716 = .ok (.aload_n 2, 1) := by decide +kernel
theorem dL_law_717 : decode cL_law 717 = .ok (.aload_n 0, 1) := by decide +kernel
theorem dL_law_718 : decode cL_law 718 = .ok (.iload_n 3, 1) := by decide +kernel
theorem dL_law_719 : decode cL_law 719 = .ok (.iconst 1, 1) := by decide +kernel
theorem dL_law_720 : decode cL_law 720 = .ok (.iadd, 1) := by decide +kernel
theorem dL_law_721 : decode cL_law 721 = .ok (.iaload, 1) := by decide +kernel
theorem dL_law_722 : decode cL_law 722 = .ok (.aload_n 0, 1) := by decide +kernel
theorem dL_law_723 : decode cL_law 723 = .ok (.iload_n 3, 1) := by decide +kernel
theorem dL_law_724 : decode cL_law 724 = .ok (.iconst 2, 1) := by decide +kernel
theorem dL_law_725 : decode cL_law 725 = .ok (.iadd, 1) := by decide +kernel
theorem dL_law_726 : decode cL_law 726 = .ok (.iaload, 1) := by decide +kernel
theorem dL_law_727 : decode cL_law 727 = .ok (.invokevirtual 85, 3) := by decide +kernel
theorem dL_law_730 : decode cL_law 730 = .ok (.if_icmp .eq 684, 3) := by decide +kernel
theorem dL_law_733 : decode cL_law 733 = .ok (.iconst 0, 1) := by decide +kernel
theorem dL_law_734 : decode cL_law 734 = .ok (.ireturn, 1) := by decide +kernel
theorem dL_law_735 : decode cL_law 735 = .ok (.aload_n 1, 1) := by decide +kernel
theorem dL_law_736 : decode cL_law 736 = .ok (.aload_n 0, 1) := by decide +kernel
theorem dL_law_737 : decode cL_law 737 = .ok (.iload_n 3, 1) := by decide +kernel
theorem dL_law_738 : decode cL_law 738 = .ok (.iconst 1, 1) := by decide +kernel
theorem dL_law_739 : decode cL_law 739 = .ok (.iadd, 1) := by decide +kernel
theorem dL_law_740 : decode cL_law 740 = .ok (.iaload, 1) := by decide +kernel
theorem dL_law_741 : decode cL_law 741 = .ok (.aload_n 0, 1) := by decide +kernel
theorem dL_law_742 : decode cL_law 742 = .ok (.iload_n 3, 1) := by decide +kernel
theorem dL_law_743 : decode cL_law 743 = .ok (.iconst 2, 1) := by decide +kernel
theorem dL_law_744 : decode cL_law 744 = .ok (.iadd, 1) := by decide +kernel
theorem dL_law_745 : decode cL_law 745 = .ok (.iaload, 1) := by decide +kernel
theorem dL_law_746 : decode cL_law 746 = .ok (.aload_n 0, 1) := by decide +kernel
theorem dL_law_747 : decode cL_law 747 = .ok (.iload_n 3, 1) := by decide +kernel
theorem dL_law_748 : decode cL_law 748 = .ok (.iconst 3, 1) := by decide +kernel
theorem dL_law_749 : decode cL_law 749 = .ok (.iadd, 1) := by decide +kernel
theorem dL_law_750 : decode cL_law 750 = .ok (.iaload, 1) := by decide +kernel
theorem dL_law_751 : decode cL_law 751 = .ok (.invokevirtual 86, 3) := by decide +kernel
theorem dL_law_754 : decode cL_law 754 = .ok (.aload_n 2, 1) := by decide +kernel
theorem dL_law_755 : decode cL_law 755 = .ok (.aload_n 0, 1) := by decide +kernel
theorem dL_law_756 : decode cL_law 756 = .ok (.iload_n 3, 1) := by decide +kernel
theorem dL_law_757 : decode cL_law 757 = .ok (.iconst 1, 1) := by decide +kernel
theorem dL_law_758 : decode cL_law 758 = .ok (.iadd, 1) := by decide +kernel
theorem dL_law_759 : decode cL_law 759 = .ok (.iaload, 1) := by decide +kernel
theorem dL_law_760 : decode cL_law 760 = .ok (.aload_n 0, 1) := by decide +kernel
theorem dL_law_761 : decode cL_law 761 = .ok (.iload_n 3, 1) := by decide +kernel
theorem dL_law_762 : decode cL_law 762 = .ok (.iconst 2, 1) := by decide +kernel
theorem dL_law_763 : decode cL_law 763 = .ok (.iadd, 1) := by decide +kernel
theorem dL_law_764 : decode cL_law 764 = .ok (.iaload, 1) := by decide +kernel
theorem dL_law_765 : decode cL_law 765 = .ok (.aload_n 0, 1) := by decide +kernel
theorem dL_law_766 : decode cL_law 766 = .ok (.iload_n 3, 1) := by decide +kernel
theorem dL_law_767 : decode cL_law 767 = .ok (.iconst 3, 1) := by decide +kernel
theorem dL_law_768 : decode cL_law 768 = .ok (.iadd, 1) := by decide +kernel
theorem dL_law_769 : decode cL_law 769 = .ok (.iaload, 1) := by decide +kernel
theorem dL_law_770 : decode cL_law 770 = .ok (.invokevirtual 89, 3) := by decide +kernel
theorem dL_law_773 : decode cL_law 773 = .ok (.if_icmp .eq 641, 3) := by decide +kernel
theorem dL_law_776 : decode cL_law 776 = .ok (.iconst 0, 1) := by decide +kernel
theorem dL_law_777 : decode cL_law 777 = .ok (.ireturn, 1) := by decide +kernel
theorem dL_law_778 : decode cL_law 778 = .ok (.aload_n 1, 1) := by decide +kernel
theorem dL_law_779 : decode cL_law 779 = .ok (.aload_n 0, 1) := by decide +kernel
theorem dL_law_780 : decode cL_law 780 = .ok (.iload_n 3, 1) := by decide +kernel
theorem dL_law_781 : decode cL_law 781 = .ok (.iconst 1, 1) := by decide +kernel
theorem dL_law_782 : decode cL_law 782 = .ok (.iadd, 1) := by decide +kernel
theorem dL_law_783 : decode cL_law 783 = .ok (.iaload, 1) := by decide +kernel
theorem dL_law_784 : decode cL_law 784 = .ok (.invokevirtual 90, 3) := by decide +kernel
theorem dL_law_787 : decode cL_law 787 = .ok (.aload_n 2, 1) := by decide +kernel
theorem dL_law_788 : decode cL_law 788 = .ok (.aload_n 0, 1) := by decide +kernel
theorem dL_law_789 : decode cL_law 789 = .ok (.iload_n 3, 1) := by decide +kernel
theorem dL_law_790 : decode cL_law 790 = .ok (.iconst 1, 1) := by decide +kernel
theorem dL_law_791 : decode cL_law 791 = .ok (.iadd, 1) := by decide +kernel
theorem dL_law_792 : decode cL_law 792 = .ok (.iaload, 1) := by decide +kernel
theorem dL_law_793 : decode cL_law 793 = .ok (.invokevirtual 93, 3) := by decide +kernel
theorem dL_law_796 : decode cL_law 796 = .ok (.if_icmp .eq 618, 3) := by decide +kernel
theorem dL_law_799 : decode cL_law 799 = .ok (.iconst 0, 1) := by decide +kernel
theorem dL_law_800 : decode cL_law 800 = .ok (.ireturn, 1) := by decide +kernel
theorem dL_law_801 : decode cL_law 801 = .ok (.aload_n 1, 1) := by decide +kernel
theorem dL_law_802 : decode cL_law 802 = .ok (.aload_n 0, 1) := by decide +kernel
theorem dL_law_803 : decode cL_law 803 = .ok (.iload_n 3, 1) := by decide +kernel
theorem dL_law_804 : decode cL_law 804 = .ok (.iconst 1, 1) := by decide +kernel
theorem dL_law_805 : decode cL_law 805 = .ok (.iadd, 1) := by decide +kernel
theorem dL_law_806 : decode cL_law 806 = .ok (.iaload, 1) := by decide +kernel
theorem dL_law_807 : decode cL_law 807 = .ok (.invokevirtual 94, 3) := by decide +kernel
theorem dL_law_810 : decode cL_law 810 = .ok (.aload_n 2, 1) := by decide +kernel
theorem dL_law_811 : decode cL_law 811 = .ok (.aload_n 0, 1) := by decide +kernel
theorem dL_law_812 : decode cL_law 812 = .ok (.iload_n 3, 1) := by decide +kernel
theorem dL_law_813 : decode cL_law 813 = .ok (.iconst 1, 1) := by decide +kernel
theorem dL_law_814 : decode cL_law 814 = .ok (.iadd, 1) := by decide +kernel
theorem dL_law_815 : decode cL_law 815 = .ok (.iaload, 1) := by decide +kernel
theorem dL_law_816 : decode cL_law 816 = .ok (.invokevirtual 98, 3) := by decide +kernel
theorem dL_law_819 : decode cL_law 819 = .ok (.lcmp, 1) := by decide +kernel
theorem dL_law_820 : decode cL_law 820 = .ok (.ifCond .eq 594, 3) := by decide +kernel
theorem dL_law_823 : decode cL_law 823 = .ok (.iconst 0, 1) := by decide +kernel
theorem dL_law_824 : decode cL_law 824 = .ok (.ireturn, 1) := by decide +kernel
theorem dL_law_825 : decode cL_law 825 = .ok (.aload_n 1, 1) := by decide +kernel
theorem dL_law_826 : decode cL_law 826 = .ok (.aload_n 0, 1) := by decide +kernel
theorem dL_law_827 : decode cL_law 827 = .ok (.iload_n 3, 1) := by decide +kernel
theorem dL_law_828 : decode cL_law 828 = .ok (.iconst 1, 1) := by decide +kernel
theorem dL_law_829 : decode cL_law 829 = .ok (.iadd, 1) := by decide +kernel
theorem dL_law_830 : decode cL_law 830 = .ok (.iaload, 1) := by decide +kernel
theorem dL_law_831 : decode cL_law 831 = .ok (.invokevirtual 99, 3) := by decide +kernel
theorem dL_law_834 : decode cL_law 834 = .ok (.aload_n 2, 1) := by decide +kernel
theorem dL_law_835 : decode cL_law 835 = .ok (.aload_n 0, 1) := by decide +kernel
theorem dL_law_836 : decode cL_law 836 = .ok (.iload_n 3, 1) := by decide +kernel
theorem dL_law_837 : decode cL_law 837 = .ok (.iconst 1, 1) := by decide +kernel
theorem dL_law_838 : decode cL_law 838 = .ok (.iadd, 1) := by decide +kernel
theorem dL_law_839 : decode cL_law 839 = .ok (.iaload, 1) := by decide +kernel
theorem dL_law_840 : decode cL_law 840 = .ok (.invokevirtual 102, 3) := by decide +kernel
theorem dL_law_843 : decode cL_law 843 = .ok (.if_icmp .eq 571, 3) := by decide +kernel
theorem dL_law_846 : decode cL_law 846 = .ok (.iconst 0, 1) := by decide +kernel
theorem dL_law_847 : decode cL_law 847 = .ok (.ireturn, 1) := by decide +kernel
theorem dL_law_848 : decode cL_law 848 = .ok (.aload_n 1, 1) := by decide +kernel
theorem dL_law_849 : decode cL_law 849 = .ok (.aload_n 0, 1) := by decide +kernel
theorem dL_law_850 : decode cL_law 850 = .ok (.iload_n 3, 1) := by decide +kernel
theorem dL_law_851 : decode cL_law 851 = .ok (.iconst 1, 1) := by decide +kernel
theorem dL_law_852 : decode cL_law 852 = .ok (.iadd, 1) := by decide +kernel
theorem dL_law_853 : decode cL_law 853 = .ok (.iaload, 1) := by decide +kernel
theorem dL_law_854 : decode cL_law 854 = .ok (.aload_n 0, 1) := by decide +kernel
theorem dL_law_855 : decode cL_law 855 = .ok (.iload_n 3, 1) := by decide +kernel
theorem dL_law_856 : decode cL_law 856 = .ok (.iconst 2, 1) := by decide +kernel
theorem dL_law_857 : decode cL_law 857 = .ok (.iadd, 1) := by decide +kernel
theorem dL_law_858 : decode cL_law 858 = .ok (.iaload, 1) := by decide +kernel
theorem dL_law_859 : decode cL_law 859 = .ok (.aload_n 0, 1) := by decide +kernel
theorem dL_law_860 : decode cL_law 860 = .ok (.iload_n 3, 1) := by decide +kernel
theorem dL_law_861 : decode cL_law 861 = .ok (.iconst 3, 1) := by decide +kernel
theorem dL_law_862 : decode cL_law 862 = .ok (.iadd, 1) := by decide +kernel
theorem dL_law_863 : decode cL_law 863 = .ok (.iaload, 1) := by decide +kernel
theorem dL_law_864 : decode cL_law 864 = .ok (.invokevirtual 103, 3) := by decide +kernel
theorem dL_law_867 : decode cL_law 867 = .ok (.aload_n 2, 1) := by decide +kernel
theorem dL_law_868 : decode cL_law 868 = .ok (.aload_n 0, 1) := by decide +kernel
theorem dL_law_869 : decode cL_law 869 = .ok (.iload_n 3, 1) := by decide +kernel
theorem dL_law_870 : decode cL_law 870 = .ok (.iconst 1, 1) := by decide +kernel
theorem dL_law_871 : decode cL_law 871 = .ok (.iadd, 1) := by decide +kernel
theorem dL_law_872 : decode cL_law 872 = .ok (.iaload, 1) := by decide +kernel
theorem dL_law_873 : decode cL_law 873 = .ok (.aload_n 0, 1) := by decide +kernel
theorem dL_law_874 : decode cL_law 874 = .ok (.iload_n 3, 1) := by decide +kernel
theorem dL_law_875 : decode cL_law 875 = .ok (.iconst 2, 1) := by decide +kernel
theorem dL_law_876 : decode cL_law 876 = .ok (.iadd, 1) := by decide +kernel
theorem dL_law_877 : decode cL_law 877 = .ok (.iaload, 1) := by decide +kernel
theorem dL_law_878 : decode cL_law 878 = .ok (.aload_n 0, 1) := by decide +kernel
theorem dL_law_879 : decode cL_law 879 = .ok (.iload_n 3, 1) := by decide +kernel
theorem dL_law_880 : decode cL_law 880 = .ok (.iconst 3, 1) := by decide +kernel
theorem dL_law_881 : decode cL_law 881 = .ok (.iadd, 1) := by decide +kernel
theorem dL_law_882 : decode cL_law 882 = .ok (.iaload, 1) := by decide +kernel
theorem dL_law_883 : decode cL_law 883 = .ok (.invokevirtual 106, 3) := by decide +kernel
theorem dL_law_886 : decode cL_law 886 = .ok (.if_icmp .eq 528, 3) := by decide +kernel
theorem dL_law_889 : decode cL_law 889 = .ok (.iconst 0, 1) := by decide +kernel
theorem dL_law_890 : decode cL_law 890 = .ok (.ireturn, 1) := by decide +kernel
theorem dL_law_891 : decode cL_law 891 = .ok (.aload_n 1, 1) := by decide +kernel
theorem dL_law_892 : decode cL_law 892 = .ok (.aload_n 0, 1) := by decide +kernel
theorem dL_law_893 : decode cL_law 893 = .ok (.iload_n 3, 1) := by decide +kernel
theorem dL_law_894 : decode cL_law 894 = .ok (.iconst 1, 1) := by decide +kernel
theorem dL_law_895 : decode cL_law 895 = .ok (.iadd, 1) := by decide +kernel
theorem dL_law_896 : decode cL_law 896 = .ok (.iaload, 1) := by decide +kernel
theorem dL_law_897 : decode cL_law 897 = .ok (.aload_n 0, 1) := by decide +kernel
theorem dL_law_898 : decode cL_law 898 = .ok (.iload_n 3, 1) := by decide +kernel
theorem dL_law_899 : decode cL_law 899 = .ok (.iconst 2, 1) := by decide +kernel
theorem dL_law_900 : decode cL_law 900 = .ok (.iadd, 1) := by decide +kernel
theorem dL_law_901 : decode cL_law 901 = .ok (.iaload, 1) := by decide +kernel
theorem dL_law_902 : decode cL_law 902 = .ok (.invokevirtual 107, 3) := by decide +kernel
theorem dL_law_905 : decode cL_law 905 = .ok (.aload_n 2, 1) := by decide +kernel
theorem dL_law_906 : decode cL_law 906 = .ok (.aload_n 0, 1) := by decide +kernel
theorem dL_law_907 : decode cL_law 907 = .ok (.iload_n 3, 1) := by decide +kernel
theorem dL_law_908 : decode cL_law 908 = .ok (.iconst 1, 1) := by decide +kernel
theorem dL_law_909 : decode cL_law 909 = .ok (.iadd, 1) := by decide +kernel
theorem dL_law_910 : decode cL_law 910 = .ok (.iaload, 1) := by decide +kernel
theorem dL_law_911 : decode cL_law 911 = .ok (.aload_n 0, 1) := by decide +kernel
theorem dL_law_912 : decode cL_law 912 = .ok (.iload_n 3, 1) := by decide +kernel
theorem dL_law_913 : decode cL_law 913 = .ok (.iconst 2, 1) := by decide +kernel
theorem dL_law_914 : decode cL_law 914 = .ok (.iadd, 1) := by decide +kernel
theorem dL_law_915 : decode cL_law 915 = .ok (.iaload, 1) := by decide +kernel
theorem dL_law_916 : decode cL_law 916 = .ok (.invokevirtual 110, 3) := by decide +kernel
theorem dL_law_919 : decode cL_law 919 = .ok (.if_icmp .eq 495, 3) := by decide +kernel
theorem dL_law_922 : decode cL_law 922 = .ok (.iconst 0, 1) := by decide +kernel
theorem dL_law_923 : decode cL_law 923 = .ok (.ireturn, 1) := by decide +kernel
theorem dL_law_924 : decode cL_law 924 = .ok (.aload_n 1, 1) := by decide +kernel
theorem dL_law_925 : decode cL_law 925 = .ok (.aload_n 0, 1) := by decide +kernel
theorem dL_law_926 : decode cL_law 926 = .ok (.iload_n 3, 1) := by decide +kernel
theorem dL_law_927 : decode cL_law 927 = .ok (.iconst 1, 1) := by decide +kernel
theorem dL_law_928 : decode cL_law 928 = .ok (.iadd, 1) := by decide +kernel
theorem dL_law_929 : decode cL_law 929 = .ok (.iaload, 1) := by decide +kernel
theorem dL_law_930 : decode cL_law 930 = .ok (.aload_n 0, 1) := by decide +kernel
theorem dL_law_931 : decode cL_law 931 = .ok (.iload_n 3, 1) := by decide +kernel
theorem dL_law_932 : decode cL_law 932 = .ok (.iconst 2, 1) := by decide +kernel
theorem dL_law_933 : decode cL_law 933 = .ok (.iadd, 1) := by decide +kernel
theorem dL_law_934 : decode cL_law 934 = .ok (.iaload, 1) := by decide +kernel
theorem dL_law_935 : decode cL_law 935 = .ok (.aload_n 0, 1) := by decide +kernel
theorem dL_law_936 : decode cL_law 936 = .ok (.iload_n 3, 1) := by decide +kernel
theorem dL_law_937 : decode cL_law 937 = .ok (.iconst 3, 1) := by decide +kernel
theorem dL_law_938 : decode cL_law 938 = .ok (.iadd, 1) := by decide +kernel
theorem dL_law_939 : decode cL_law 939 = .ok (.iaload, 1) := by decide +kernel
theorem dL_law_940 : decode cL_law 940 = .ok (.invokevirtual 111, 3) := by decide +kernel
theorem dL_law_943 : decode cL_law 943 = .ok (.aload_n 2, 1) := by decide +kernel
theorem dL_law_944 : decode cL_law 944 = .ok (.aload_n 0, 1) := by decide +kernel
theorem dL_law_945 : decode cL_law 945 = .ok (.iload_n 3, 1) := by decide +kernel
theorem dL_law_946 : decode cL_law 946 = .ok (.iconst 1, 1) := by decide +kernel
theorem dL_law_947 : decode cL_law 947 = .ok (.iadd, 1) := by decide +kernel
theorem dL_law_948 : decode cL_law 948 = .ok (.iaload, 1) := by decide +kernel
theorem dL_law_949 : decode cL_law 949 = .ok (.aload_n 0, 1) := by decide +kernel
theorem dL_law_950 : decode cL_law 950 = .ok (.iload_n 3, 1) := by decide +kernel
theorem dL_law_951 : decode cL_law 951 = .ok (.iconst 2, 1) := by decide +kernel
theorem dL_law_952 : decode cL_law 952 = .ok (.iadd, 1) := by decide +kernel
theorem dL_law_953 : decode cL_law 953 = .ok (.iaload, 1) := by decide +kernel
theorem dL_law_954 : decode cL_law 954 = .ok (.aload_n 0, 1) := by decide +kernel
theorem dL_law_955 : decode cL_law 955 = .ok (.iload_n 3, 1) := by decide +kernel
theorem dL_law_956 : decode cL_law 956 = .ok (.iconst 3, 1) := by decide +kernel
theorem dL_law_957 : decode cL_law 957 = .ok (.iadd, 1) := by decide +kernel
theorem dL_law_958 : decode cL_law 958 = .ok (.iaload, 1) := by decide +kernel
theorem dL_law_959 : decode cL_law 959 = .ok (.invokevirtual 114, 3) := by decide +kernel
theorem dL_law_962 : decode cL_law 962 = .ok (.if_icmp .eq 452, 3) := by decide +kernel
theorem dL_law_965 : decode cL_law 965 = .ok (.iconst 0, 1) := by decide +kernel
theorem dL_law_966 : decode cL_law 966 = .ok (.ireturn, 1) := by decide +kernel
theorem dL_law_967 : decode cL_law 967 = .ok (.aload_n 1, 1) := by decide +kernel
theorem dL_law_968 : decode cL_law 968 = .ok (.aload_n 0, 1) := by decide +kernel
theorem dL_law_969 : decode cL_law 969 = .ok (.iload_n 3, 1) := by decide +kernel
theorem dL_law_970 : decode cL_law 970 = .ok (.iconst 1, 1) := by decide +kernel
theorem dL_law_971 : decode cL_law 971 = .ok (.iadd, 1) := by decide +kernel
theorem dL_law_972 : decode cL_law 972 = .ok (.iaload, 1) := by decide +kernel
theorem dL_law_973 : decode cL_law 973 = .ok (.aload_n 0, 1) := by decide +kernel
theorem dL_law_974 : decode cL_law 974 = .ok (.iload_n 3, 1) := by decide +kernel
theorem dL_law_975 : decode cL_law 975 = .ok (.iconst 2, 1) := by decide +kernel
theorem dL_law_976 : decode cL_law 976 = .ok (.iadd, 1) := by decide +kernel
theorem dL_law_977 : decode cL_law 977 = .ok (.iaload, 1) := by decide +kernel
theorem dL_law_978 : decode cL_law 978 = .ok (.aload_n 0, 1) := by decide +kernel
theorem dL_law_979 : decode cL_law 979 = .ok (.iload_n 3, 1) := by decide +kernel
theorem dL_law_980 : decode cL_law 980 = .ok (.iconst 3, 1) := by decide +kernel
theorem dL_law_981 : decode cL_law 981 = .ok (.iadd, 1) := by decide +kernel
theorem dL_law_982 : decode cL_law 982 = .ok (.iaload, 1) := by decide +kernel
theorem dL_law_983 : decode cL_law 983 = .ok (.invokevirtual 115, 3) := by decide +kernel
theorem dL_law_986 : decode cL_law 986 = .ok (.aload_n 2, 1) := by decide +kernel
theorem dL_law_987 : decode cL_law 987 = .ok (.aload_n 0, 1) := by decide +kernel
theorem dL_law_988 : decode cL_law 988 = .ok (.iload_n 3, 1) := by decide +kernel
theorem dL_law_989 : decode cL_law 989 = .ok (.iconst 1, 1) := by decide +kernel
theorem dL_law_990 : decode cL_law 990 = .ok (.iadd, 1) := by decide +kernel
theorem dL_law_991 : decode cL_law 991 = .ok (.iaload, 1) := by decide +kernel
theorem dL_law_992 : decode cL_law 992 = .ok (.aload_n 0, 1) := by decide +kernel
theorem dL_law_993 : decode cL_law 993 = .ok (.iload_n 3, 1) := by decide +kernel
theorem dL_law_994 : decode cL_law 994 = .ok (.iconst 2, 1) := by decide +kernel
theorem dL_law_995 : decode cL_law 995 = .ok (.iadd, 1) := by decide +kernel
theorem dL_law_996 : decode cL_law 996 = .ok (.iaload, 1) := by decide +kernel
theorem dL_law_997 : decode cL_law 997 = .ok (.aload_n 0, 1) := by decide +kernel
theorem dL_law_998 : decode cL_law 998 = .ok (.iload_n 3, 1) := by decide +kernel
theorem dL_law_999 : decode cL_law 999 = .ok (.iconst 3, 1) := by decide +kernel
theorem dL_law_1000 : decode cL_law 1000 = .ok (.iadd, 1) := by decide +kernel
theorem dL_law_1001 : decode cL_law 1001 = .ok (.iaload, 1) := by decide +kernel
theorem dL_law_1002 : decode cL_law 1002 = .ok (.invokevirtual 118, 3) := by decide +kernel
theorem dL_law_1005 : decode cL_law 1005 = .ok (.if_icmp .eq 409, 3) := by decide +kernel
theorem dL_law_1008 : decode cL_law 1008 = .ok (.iconst 0, 1) := by decide +kernel
theorem dL_law_1009 : decode cL_law 1009 = .ok (.ireturn, 1) := by decide +kernel
theorem dL_law_1010 : decode cL_law 1010 = .ok (.aload_n 1, 1) := by decide +kernel
theorem dL_law_1011 : decode cL_law 1011 = .ok (.aload_n 0, 1) := by decide +kernel
theorem dL_law_1012 : decode cL_law 1012 = .ok (.iload_n 3, 1) := by decide +kernel
theorem dL_law_1013 : decode cL_law 1013 = .ok (.iconst 1, 1) := by decide +kernel
theorem dL_law_1014 : decode cL_law 1014 = .ok (.iadd, 1) := by decide +kernel
theorem dL_law_1015 : decode cL_law 1015 = .ok (.iaload, 1) := by decide +kernel
theorem dL_law_1016 : decode cL_law 1016 = .ok (.invokevirtual 119, 3) := by decide +kernel
theorem dL_law_1019 : decode cL_law 1019 = .ok (.aload_n 2, 1) := by decide +kernel
theorem dL_law_1020 : decode cL_law 1020 = .ok (.aload_n 0, 1) := by decide +kernel
theorem dL_law_1021 : decode cL_law 1021 = .ok (.iload_n 3, 1) := by decide +kernel
theorem dL_law_1022 : decode cL_law 1022 = .ok (.iconst 1, 1) := by decide +kernel
theorem dL_law_1023 : decode cL_law 1023 = .ok (.iadd, 1) := by decide +kernel
theorem dL_law_1024 : decode cL_law 1024 = .ok (.iaload, 1) := by decide +kernel
theorem dL_law_1025 : decode cL_law 1025 = .ok (.invokevirtual 122, 3) := by decide +kernel
theorem dL_law_1028 : decode cL_law 1028 = .ok (.if_icmp .eq 386, 3) := by decide +kernel
theorem dL_law_1031 : decode cL_law 1031 = .ok (.iconst 0, 1) := by decide +kernel
theorem dL_law_1032 : decode cL_law 1032 = .ok (.ireturn, 1) := by decide +kernel
theorem dL_law_1033 : decode cL_law 1033 = .ok (.aload_n 1, 1) := by decide +kernel
theorem dL_law_1034 : decode cL_law 1034 = .ok (.aload_n 0, 1) := by decide +kernel
theorem dL_law_1035 : decode cL_law 1035 = .ok (.iload_n 3, 1) := by decide +kernel
theorem dL_law_1036 : decode cL_law 1036 = .ok (.iconst 1, 1) := by decide +kernel
theorem dL_law_1037 : decode cL_law 1037 = .ok (.iadd, 1) := by decide +kernel
theorem dL_law_1038 : decode cL_law 1038 = .ok (.iaload, 1) := by decide +kernel
theorem dL_law_1039 : decode cL_law 1039 = .ok (.aload_n 0, 1) := by decide +kernel
theorem dL_law_1040 : decode cL_law 1040 = .ok (.iload_n 3, 1) := by decide +kernel
theorem dL_law_1041 : decode cL_law 1041 = .ok (.iconst 2, 1) := by decide +kernel
theorem dL_law_1042 : decode cL_law 1042 = .ok (.iadd, 1) := by decide +kernel
theorem dL_law_1043 : decode cL_law 1043 = .ok (.iaload, 1) := by decide +kernel
theorem dL_law_1044 : decode cL_law 1044 = .ok (.invokevirtual 123, 3) := by decide +kernel
theorem dL_law_1047 : decode cL_law 1047 = .ok (.aload_n 2, 1) := by decide +kernel
theorem dL_law_1048 : decode cL_law 1048 = .ok (.aload_n 0, 1) := by decide +kernel
theorem dL_law_1049 : decode cL_law 1049 = .ok (.iload_n 3, 1) := by decide +kernel
theorem dL_law_1050 : decode cL_law 1050 = .ok (.iconst 1, 1) := by decide +kernel
theorem dL_law_1051 : decode cL_law 1051 = .ok (.iadd, 1) := by decide +kernel
theorem dL_law_1052 : decode cL_law 1052 = .ok (.iaload, 1) := by decide +kernel
theorem dL_law_1053 : decode cL_law 1053 = .ok (.aload_n 0, 1) := by decide +kernel
theorem dL_law_1054 : decode cL_law 1054 = .ok (.iload_n 3, 1) := by decide +kernel
theorem dL_law_1055 : decode cL_law 1055 = .ok (.iconst 2, 1) := by decide +kernel
theorem dL_law_1056 : decode cL_law 1056 = .ok (.iadd, 1) := by decide +kernel
theorem dL_law_1057 : decode cL_law 1057 = .ok (.iaload, 1) := by decide +kernel
theorem dL_law_1058 : decode cL_law 1058 = .ok (.invokevirtual 126, 3) := by decide +kernel
theorem dL_law_1061 : decode cL_law 1061 = .ok (.if_icmp .eq 353, 3) := by decide +kernel
theorem dL_law_1064 : decode cL_law 1064 = .ok (.iconst 0, 1) := by decide +kernel
theorem dL_law_1065 : decode cL_law 1065 = .ok (.ireturn, 1) := by decide +kernel
theorem dL_law_1066 : decode cL_law 1066 = .ok (.aload_n 1, 1) := by decide +kernel
theorem dL_law_1067 : decode cL_law 1067 = .ok (.aload_n 0, 1) := by decide +kernel
theorem dL_law_1068 : decode cL_law 1068 = .ok (.iload_n 3, 1) := by decide +kernel
theorem dL_law_1069 : decode cL_law 1069 = .ok (.iconst 1, 1) := by decide +kernel
theorem dL_law_1070 : decode cL_law 1070 = .ok (.iadd, 1) := by decide +kernel
theorem dL_law_1071 : decode cL_law 1071 = .ok (.iaload, 1) := by decide +kernel
theorem dL_law_1072 : decode cL_law 1072 = .ok (.aload_n 0, 1) := by decide +kernel
theorem dL_law_1073 : decode cL_law 1073 = .ok (.iload_n 3, 1) := by decide +kernel
theorem dL_law_1074 : decode cL_law 1074 = .ok (.iconst 2, 1) := by decide +kernel
theorem dL_law_1075 : decode cL_law 1075 = .ok (.iadd, 1) := by decide +kernel
theorem dL_law_1076 : decode cL_law 1076 = .ok (.iaload, 1) := by decide +kernel
theorem dL_law_1077 : decode cL_law 1077 = .ok (.invokevirtual 127, 3) := by decide +kernel
theorem dL_law_1080 : decode cL_law 1080 = .ok (.aload_n 2, 1) := by decide +kernel
theorem dL_law_1081 : decode cL_law 1081 = .ok (.aload_n 0, 1) := by decide +kernel
theorem dL_law_1082 : decode cL_law 1082 = .ok (.iload_n 3, 1) := by decide +kernel
theorem dL_law_1083 : decode cL_law 1083 = .ok (.iconst 1, 1) := by decide +kernel
theorem dL_law_1084 : decode cL_law 1084 = .ok (.iadd, 1) := by decide +kernel
theorem dL_law_1085 : decode cL_law 1085 = .ok (.iaload, 1) := by decide +kernel
theorem dL_law_1086 : decode cL_law 1086 = .ok (.aload_n 0, 1) := by decide +kernel
theorem dL_law_1087 : decode cL_law 1087 = .ok (.iload_n 3, 1) := by decide +kernel
theorem dL_law_1088 : decode cL_law 1088 = .ok (.iconst 2, 1) := by decide +kernel
theorem dL_law_1089 : decode cL_law 1089 = .ok (.iadd, 1) := by decide +kernel
theorem dL_law_1090 : decode cL_law 1090 = .ok (.iaload, 1) := by decide +kernel
theorem dL_law_1091 : decode cL_law 1091 = .ok (.invokevirtual 130, 3) := by decide +kernel
theorem dL_law_1094 : decode cL_law 1094 = .ok (.if_icmp .eq 320, 3) := by decide +kernel
theorem dL_law_1097 : decode cL_law 1097 = .ok (.iconst 0, 1) := by decide +kernel
theorem dL_law_1098 : decode cL_law 1098 = .ok (.ireturn, 1) := by decide +kernel
theorem dL_law_1099 : decode cL_law 1099 = .ok (.aload_n 1, 1) := by decide +kernel
theorem dL_law_1100 : decode cL_law 1100 = .ok (.aload_n 0, 1) := by decide +kernel
theorem dL_law_1101 : decode cL_law 1101 = .ok (.iload_n 3, 1) := by decide +kernel
theorem dL_law_1102 : decode cL_law 1102 = .ok (.iconst 1, 1) := by decide +kernel
theorem dL_law_1103 : decode cL_law 1103 = .ok (.iadd, 1) := by decide +kernel
theorem dL_law_1104 : decode cL_law 1104 = .ok (.iaload, 1) := by decide +kernel
theorem dL_law_1105 : decode cL_law 1105 = .ok (.aload_n 0, 1) := by decide +kernel
theorem dL_law_1106 : decode cL_law 1106 = .ok (.iload_n 3, 1) := by decide +kernel
theorem dL_law_1107 : decode cL_law 1107 = .ok (.iconst 2, 1) := by decide +kernel
theorem dL_law_1108 : decode cL_law 1108 = .ok (.iadd, 1) := by decide +kernel
theorem dL_law_1109 : decode cL_law 1109 = .ok (.iaload, 1) := by decide +kernel
theorem dL_law_1110 : decode cL_law 1110 = .ok (.aload_n 0, 1) := by decide +kernel
theorem dL_law_1111 : decode cL_law 1111 = .ok (.iload_n 3, 1) := by decide +kernel
theorem dL_law_1112 : decode cL_law 1112 = .ok (.iconst 3, 1) := by decide +kernel
theorem dL_law_1113 : decode cL_law 1113 = .ok (.iadd, 1) := by decide +kernel
theorem dL_law_1114 : decode cL_law 1114 = .ok (.iaload, 1) := by decide +kernel
theorem dL_law_1115 : decode cL_law 1115 = .ok (.aload_n 0, 1) := by decide +kernel
theorem dL_law_1116 : decode cL_law 1116 = .ok (.iload_n 3, 1) := by decide +kernel
theorem dL_law_1117 : decode cL_law 1117 = .ok (.iconst 4, 1) := by decide +kernel
theorem dL_law_1118 : decode cL_law 1118 = .ok (.iadd, 1) := by decide +kernel
theorem dL_law_1119 : decode cL_law 1119 = .ok (.iaload, 1) := by decide +kernel
theorem dL_law_1120 : decode cL_law 1120 = .ok (.invokevirtual 131, 3) := by decide +kernel
theorem dL_law_1123 : decode cL_law 1123 = .ok (.aload_n 2, 1) := by decide +kernel
theorem dL_law_1124 : decode cL_law 1124 = .ok (.aload_n 0, 1) := by decide +kernel
theorem dL_law_1125 : decode cL_law 1125 = .ok (.iload_n 3, 1) := by decide +kernel
theorem dL_law_1126 : decode cL_law 1126 = .ok (.iconst 1, 1) := by decide +kernel
theorem dL_law_1127 : decode cL_law 1127 = .ok (.iadd, 1) := by decide +kernel
theorem dL_law_1128 : decode cL_law 1128 = .ok (.iaload, 1) := by decide +kernel
theorem dL_law_1129 : decode cL_law 1129 = .ok (.aload_n 0, 1) := by decide +kernel
theorem dL_law_1130 : decode cL_law 1130 = .ok (.iload_n 3, 1) := by decide +kernel
theorem dL_law_1131 : decode cL_law 1131 = .ok (.iconst 2, 1) := by decide +kernel
theorem dL_law_1132 : decode cL_law 1132 = .ok (.iadd, 1) := by decide +kernel
theorem dL_law_1133 : decode cL_law 1133 = .ok (.iaload, 1) := by decide +kernel
theorem dL_law_1134 : decode cL_law 1134 = .ok (.aload_n 0, 1) := by decide +kernel
theorem dL_law_1135 : decode cL_law 1135 = .ok (.iload_n 3, 1) := by decide +kernel
theorem dL_law_1136 : decode cL_law 1136 = .ok (.iconst 3, 1) := by decide +kernel
theorem dL_law_1137 : decode cL_law 1137 = .ok (.iadd, 1) := by decide +kernel
theorem dL_law_1138 : decode cL_law 1138 = .ok (.iaload, 1) := by decide +kernel
theorem dL_law_1139 : decode cL_law 1139 = .ok (.aload_n 0, 1) := by decide +kernel
theorem dL_law_1140 : decode cL_law 1140 = .ok (.iload_n 3, 1) := by decide +kernel
theorem dL_law_1141 : decode cL_law 1141 = .ok (.iconst 4, 1) := by decide +kernel
theorem dL_law_1142 : decode cL_law 1142 = .ok (.iadd, 1) := by decide +kernel
theorem dL_law_1143 : decode cL_law 1143 = .ok (.iaload, 1) := by decide +kernel
theorem dL_law_1144 : decode cL_law 1144 = .ok (.invokevirtual 135, 3) := by decide +kernel
theorem dL_law_1147 : decode cL_law 1147 = .ok (.lcmp, 1) := by decide +kernel
theorem dL_law_1148 : decode cL_law 1148 = .ok (.ifCond .eq 266, 3) := by decide +kernel
theorem dL_law_1151 : decode cL_law 1151 = .ok (.iconst 0, 1) := by decide +kernel
theorem dL_law_1152 : decode cL_law 1152 = .ok (.ireturn, 1) := by decide +kernel
theorem dL_law_1153 : decode cL_law 1153 = .ok (.aload_n 1, 1) := by decide +kernel
theorem dL_law_1154 : decode cL_law 1154 = .ok (.invokevirtual 136, 3) := by decide +kernel
theorem dL_law_1157 : decode cL_law 1157 = .ok (.aload_n 2, 1) := by decide +kernel
theorem dL_law_1158 : decode cL_law 1158 = .ok (.invokevirtual 139, 3) := by decide +kernel
theorem dL_law_1161 : decode cL_law 1161 = .ok (.if_icmp .eq 253, 3) := by decide +kernel
theorem dL_law_1164 : decode cL_law 1164 = .ok (.iconst 0, 1) := by decide +kernel
theorem dL_law_1165 : decode cL_law 1165 = .ok (.ireturn, 1) := by decide +kernel
theorem dL_law_1166 : decode cL_law 1166 = .ok (.aload_n 1, 1) := by decide +kernel
theorem dL_law_1167 : decode cL_law 1167 = .ok (.invokevirtual 140, 3) := by decide +kernel
theorem dL_law_1170 : decode cL_law 1170 = .ok (.aload_n 2, 1) := by decide +kernel
theorem dL_law_1171 : decode cL_law 1171 = .ok (.invokevirtual 143, 3) := by decide +kernel
theorem dL_law_1174 : decode cL_law 1174 = .ok (.if_icmp .eq 240, 3) := by decide +kernel
theorem dL_law_1177 : decode cL_law 1177 = .ok (.iconst 0, 1) := by decide +kernel
theorem dL_law_1178 : decode cL_law 1178 = .ok (.ireturn, 1) := by decide +kernel
theorem dL_law_1179 : decode cL_law 1179 = .ok (.aload_n 1, 1) := by decide +kernel
theorem dL_law_1180 : decode cL_law 1180 = .ok (.aload_n 0, 1) := by decide +kernel
theorem dL_law_1181 : decode cL_law 1181 = .ok (.iload_n 3, 1) := by decide +kernel
theorem dL_law_1182 : decode cL_law 1182 = .ok (.iconst 1, 1) := by decide +kernel
theorem dL_law_1183 : decode cL_law 1183 = .ok (.iadd, 1) := by decide +kernel
theorem dL_law_1184 : decode cL_law 1184 = .ok (.iaload, 1) := by decide +kernel
theorem dL_law_1185 : decode cL_law 1185 = .ok (.aload_n 0, 1) := by decide +kernel
theorem dL_law_1186 : decode cL_law 1186 = .ok (.iload_n 3, 1) := by decide +kernel
theorem dL_law_1187 : decode cL_law 1187 = .ok (.iconst 2, 1) := by decide +kernel
theorem dL_law_1188 : decode cL_law 1188 = .ok (.iadd, 1) := by decide +kernel
theorem dL_law_1189 : decode cL_law 1189 = .ok (.iaload, 1) := by decide +kernel
theorem dL_law_1190 : decode cL_law 1190 = .ok (.aload_n 0, 1) := by decide +kernel
theorem dL_law_1191 : decode cL_law 1191 = .ok (.iload_n 3, 1) := by decide +kernel
theorem dL_law_1192 : decode cL_law 1192 = .ok (.iconst 3, 1) := by decide +kernel
theorem dL_law_1193 : decode cL_law 1193 = .ok (.iadd, 1) := by decide +kernel
theorem dL_law_1194 : decode cL_law 1194 = .ok (.iaload, 1) := by decide +kernel
theorem dL_law_1195 : decode cL_law 1195 = .ok (.invokevirtual 144, 3) := by decide +kernel
theorem dL_law_1198 : decode cL_law 1198 = .ok (.aload_n 2, 1) := by decide +kernel
theorem dL_law_1199 : decode cL_law 1199 = .ok (.aload_n 0, 1) := by decide +kernel
theorem dL_law_1200 : decode cL_law 1200 = .ok (.iload_n 3, 1) := by decide +kernel
theorem dL_law_1201 : decode cL_law 1201 = .ok (.iconst 1, 1) := by decide +kernel
theorem dL_law_1202 : decode cL_law 1202 = .ok (.iadd, 1) := by decide +kernel
theorem dL_law_1203 : decode cL_law 1203 = .ok (.iaload, 1) := by decide +kernel
theorem dL_law_1204 : decode cL_law 1204 = .ok (.aload_n 0, 1) := by decide +kernel
theorem dL_law_1205 : decode cL_law 1205 = .ok (.iload_n 3, 1) := by decide +kernel
theorem dL_law_1206 : decode cL_law 1206 = .ok (.iconst 2, 1) := by decide +kernel
theorem dL_law_1207 : decode cL_law 1207 = .ok (.iadd, 1) := by decide +kernel
theorem dL_law_1208 : decode cL_law 1208 = .ok (.iaload, 1) := by decide +kernel
theorem dL_law_1209 : decode cL_law 1209 = .ok (.aload_n 0, 1) := by decide +kernel
theorem dL_law_1210 : decode cL_law 1210 = .ok (.iload_n 3, 1) := by decide +kernel
theorem dL_law_1211 : decode cL_law 1211 = .ok (.iconst 3, 1) := by decide +kernel
theorem dL_law_1212 : decode cL_law 1212 = .ok (.iadd, 1) := by decide +kernel
theorem dL_law_1213 : decode cL_law 1213 = .ok (.iaload, 1) := by decide +kernel
theorem dL_law_1214 : decode cL_law 1214 = .ok (.invokevirtual 147, 3) := by decide +kernel
theorem dL_law_1217 : decode cL_law 1217 = .ok (.if_icmp .eq 197, 3) := by decide +kernel
theorem dL_law_1220 : decode cL_law 1220 = .ok (.iconst 0, 1) := by decide +kernel
theorem dL_law_1221 : decode cL_law 1221 = .ok (.ireturn, 1) := by decide +kernel
theorem dL_law_1222 : decode cL_law 1222 = .ok (.aload_n 1, 1) := by decide +kernel
theorem dL_law_1223 : decode cL_law 1223 = .ok (.aload_n 0, 1) := by decide +kernel
theorem dL_law_1224 : decode cL_law 1224 = .ok (.iload_n 3, 1) := by decide +kernel
theorem dL_law_1225 : decode cL_law 1225 = .ok (.iconst 1, 1) := by decide +kernel
theorem dL_law_1226 : decode cL_law 1226 = .ok (.iadd, 1) := by decide +kernel
theorem dL_law_1227 : decode cL_law 1227 = .ok (.iaload, 1) := by decide +kernel
theorem dL_law_1228 : decode cL_law 1228 = .ok (.aload_n 0, 1) := by decide +kernel
theorem dL_law_1229 : decode cL_law 1229 = .ok (.iload_n 3, 1) := by decide +kernel
theorem dL_law_1230 : decode cL_law 1230 = .ok (.iconst 2, 1) := by decide +kernel
theorem dL_law_1231 : decode cL_law 1231 = .ok (.iadd, 1) := by decide +kernel
theorem dL_law_1232 : decode cL_law 1232 = .ok (.iaload, 1) := by decide +kernel
theorem dL_law_1233 : decode cL_law 1233 = .ok (.aload_n 0, 1) := by decide +kernel
theorem dL_law_1234 : decode cL_law 1234 = .ok (.iload_n 3, 1) := by decide +kernel
theorem dL_law_1235 : decode cL_law 1235 = .ok (.iconst 3, 1) := by decide +kernel
theorem dL_law_1236 : decode cL_law 1236 = .ok (.iadd, 1) := by decide +kernel
theorem dL_law_1237 : decode cL_law 1237 = .ok (.iaload, 1) := by decide +kernel
theorem dL_law_1238 : decode cL_law 1238 = .ok (.invokevirtual 148, 3) := by decide +kernel
theorem dL_law_1241 : decode cL_law 1241 = .ok (.aload_n 2, 1) := by decide +kernel
theorem dL_law_1242 : decode cL_law 1242 = .ok (.aload_n 0, 1) := by decide +kernel
theorem dL_law_1243 : decode cL_law 1243 = .ok (.iload_n 3, 1) := by decide +kernel
theorem dL_law_1244 : decode cL_law 1244 = .ok (.iconst 1, 1) := by decide +kernel
theorem dL_law_1245 : decode cL_law 1245 = .ok (.iadd, 1) := by decide +kernel
theorem dL_law_1246 : decode cL_law 1246 = .ok (.iaload, 1) := by decide +kernel
theorem dL_law_1247 : decode cL_law 1247 = .ok (.aload_n 0, 1) := by decide +kernel
theorem dL_law_1248 : decode cL_law 1248 = .ok (.iload_n 3, 1) := by decide +kernel
theorem dL_law_1249 : decode cL_law 1249 = .ok (.iconst 2, 1) := by decide +kernel
theorem dL_law_1250 : decode cL_law 1250 = .ok (.iadd, 1) := by decide +kernel
theorem dL_law_1251 : decode cL_law 1251 = .ok (.iaload, 1) := by decide +kernel
theorem dL_law_1252 : decode cL_law 1252 = .ok (.aload_n 0, 1) := by decide +kernel
theorem dL_law_1253 : decode cL_law 1253 = .ok (.iload_n 3, 1) := by decide +kernel
theorem dL_law_1254 : decode cL_law 1254 = .ok (.iconst 3, 1) := by decide +kernel
theorem dL_law_1255 : decode cL_law 1255 = .ok (.iadd, 1) := by decide +kernel
theorem dL_law_1256 : decode cL_law 1256 = .ok (.iaload, 1) := by decide +kernel
theorem dL_law_1257 : decode cL_law 1257 = .ok (.invokevirtual 151, 3) := by decide +kernel
theorem dL_law_1260 : decode cL_law 1260 = .ok (.if_icmp .eq 154, 3) := by decide +kernel
theorem dL_law_1263 : decode cL_law 1263 = .ok (.iconst 0, 1) := by decide +kernel
theorem dL_law_1264 : decode cL_law 1264 = .ok (.ireturn, 1) := by decide +kernel
theorem dL_law_1265 : decode cL_law 1265 = .ok (.aload_n 1, 1) := by decide +kernel
theorem dL_law_1266 : decode cL_law 1266 = .ok (.aload_n 0, 1) := by decide +kernel
theorem dL_law_1267 : decode cL_law 1267 = .ok (.iload_n 3, 1) := by decide +kernel
theorem dL_law_1268 : decode cL_law 1268 = .ok (.iconst 1, 1) := by decide +kernel
theorem dL_law_1269 : decode cL_law 1269 = .ok (.iadd, 1) := by decide +kernel
theorem dL_law_1270 : decode cL_law 1270 = .ok (.iaload, 1) := by decide +kernel
theorem dL_law_1271 : decode cL_law 1271 = .ok (.aload_n 0, 1) := by decide +kernel
theorem dL_law_1272 : decode cL_law 1272 = .ok (.iload_n 3, 1) := by decide +kernel
theorem dL_law_1273 : decode cL_law 1273 = .ok (.iconst 2, 1) := by decide +kernel
theorem dL_law_1274 : decode cL_law 1274 = .ok (.iadd, 1) := by decide +kernel
theorem dL_law_1275 : decode cL_law 1275 = .ok (.iaload, 1) := by decide +kernel
theorem dL_law_1276 : decode cL_law 1276 = .ok (.aload_n 0, 1) := by decide +kernel
theorem dL_law_1277 : decode cL_law 1277 = .ok (.iload_n 3, 1) := by decide +kernel
theorem dL_law_1278 : decode cL_law 1278 = .ok (.iconst 3, 1) := by decide +kernel
theorem dL_law_1279 : decode cL_law 1279 = .ok (.iadd, 1) := by decide +kernel
theorem dL_law_1280 : decode cL_law 1280 = .ok (.iaload, 1) := by decide +kernel
theorem dL_law_1281 : decode cL_law 1281 = .ok (.aload_n 0, 1) := by decide +kernel
theorem dL_law_1282 : decode cL_law 1282 = .ok (.iload_n 3, 1) := by decide +kernel
theorem dL_law_1283 : decode cL_law 1283 = .ok (.iconst 4, 1) := by decide +kernel
theorem dL_law_1284 : decode cL_law 1284 = .ok (.iadd, 1) := by decide +kernel
theorem dL_law_1285 : decode cL_law 1285 = .ok (.iaload, 1) := by decide +kernel
theorem dL_law_1286 : decode cL_law 1286 = .ok (.aload_n 0, 1) := by decide +kernel
theorem dL_law_1287 : decode cL_law 1287 = .ok (.iload_n 3, 1) := by decide +kernel
theorem dL_law_1288 : decode cL_law 1288 = .ok (.iconst 5, 1) := by decide +kernel
theorem dL_law_1289 : decode cL_law 1289 = .ok (.iadd, 1) := by decide +kernel
theorem dL_law_1290 : decode cL_law 1290 = .ok (.iaload, 1) := by decide +kernel
theorem dL_law_1291 : decode cL_law 1291 = .ok (.invokevirtual 152, 3) := by decide +kernel
theorem dL_law_1294 : decode cL_law 1294 = .ok (.aload_n 2, 1) := by decide +kernel
theorem dL_law_1295 : decode cL_law 1295 = .ok (.aload_n 0, 1) := by decide +kernel
theorem dL_law_1296 : decode cL_law 1296 = .ok (.iload_n 3, 1) := by decide +kernel
theorem dL_law_1297 : decode cL_law 1297 = .ok (.iconst 1, 1) := by decide +kernel
theorem dL_law_1298 : decode cL_law 1298 = .ok (.iadd, 1) := by decide +kernel
theorem dL_law_1299 : decode cL_law 1299 = .ok (.iaload, 1) := by decide +kernel
theorem dL_law_1300 : decode cL_law 1300 = .ok (.aload_n 0, 1) := by decide +kernel
theorem dL_law_1301 : decode cL_law 1301 = .ok (.iload_n 3, 1) := by decide +kernel
theorem dL_law_1302 : decode cL_law 1302 = .ok (.iconst 2, 1) := by decide +kernel
theorem dL_law_1303 : decode cL_law 1303 = .ok (.iadd, 1) := by decide +kernel
theorem dL_law_1304 : decode cL_law 1304 = .ok (.iaload, 1) := by decide +kernel
theorem dL_law_1305 : decode cL_law 1305 = .ok (.aload_n 0, 1) := by decide +kernel
theorem dL_law_1306 : decode cL_law 1306 = .ok (.iload_n 3, 1) := by decide +kernel
theorem dL_law_1307 : decode cL_law 1307 = .ok (.iconst 3, 1) := by decide +kernel
theorem dL_law_1308 : decode cL_law 1308 = .ok (.iadd, 1) := by decide +kernel
theorem dL_law_1309 : decode cL_law 1309 = .ok (.iaload, 1) := by decide +kernel
theorem dL_law_1310 : decode cL_law 1310 = .ok (.aload_n 0, 1) := by decide +kernel
theorem dL_law_1311 : decode cL_law 1311 = .ok (.iload_n 3, 1) := by decide +kernel
theorem dL_law_1312 : decode cL_law 1312 = .ok (.iconst 4, 1) := by decide +kernel
theorem dL_law_1313 : decode cL_law 1313 = .ok (.iadd, 1) := by decide +kernel
theorem dL_law_1314 : decode cL_law 1314 = .ok (.iaload, 1) := by decide +kernel
theorem dL_law_1315 : decode cL_law 1315 = .ok (.aload_n 0, 1) := by decide +kernel
theorem dL_law_1316 : decode cL_law 1316 = .ok (.iload_n 3, 1) := by decide +kernel
theorem dL_law_1317 : decode cL_law 1317 = .ok (.iconst 5, 1) := by decide +kernel
theorem dL_law_1318 : decode cL_law 1318 = .ok (.iadd, 1) := by decide +kernel
theorem dL_law_1319 : decode cL_law 1319 = .ok (.iaload, 1) := by decide +kernel
theorem dL_law_1320 : decode cL_law 1320 = .ok (.invokevirtual 156, 3) := by decide +kernel
theorem dL_law_1323 : decode cL_law 1323 = .ok (.if_icmp .eq 91, 3) := by decide +kernel
theorem dL_law_1326 : decode cL_law 1326 = .ok (.iconst 0, 1) := by decide +kernel
theorem dL_law_1327 : decode cL_law 1327 = .ok (.ireturn, 1) := by decide +kernel
theorem dL_law_1328 : decode cL_law 1328 = .ok (.aload_n 1, 1) := by decide +kernel
theorem dL_law_1329 : decode cL_law 1329 = .ok (.aload_n 0, 1) := by decide +kernel
theorem dL_law_1330 : decode cL_law 1330 = .ok (.iload_n 3, 1) := by decide +kernel
theorem dL_law_1331 : decode cL_law 1331 = .ok (.iconst 1, 1) := by decide +kernel
theorem dL_law_1332 : decode cL_law 1332 = .ok (.iadd, 1) := by decide +kernel
theorem dL_law_1333 : decode cL_law 1333 = .ok (.iaload, 1) := by decide +kernel
theorem dL_law_1334 : decode cL_law 1334 = .ok (.aload_n 0, 1) := by decide +kernel
theorem dL_law_1335 : decode cL_law 1335 = .ok (.iload_n 3, 1) := by decide +kernel
theorem dL_law_1336 : decode cL_law 1336 = .ok (.iconst 2, 1) := by decide +kernel
theorem dL_law_1337 : decode cL_law 1337 = .ok (.iadd, 1) := by decide +kernel
theorem dL_law_1338 : decode cL_law 1338 = .ok (.iaload, 1) := by decide +kernel
theorem dL_law_1339 : decode cL_law 1339 = .ok (.aload_n 0, 1) := by decide +kernel
theorem dL_law_1340 : decode cL_law 1340 = .ok (.iload_n 3, 1) := by decide +kernel
theorem dL_law_1341 : decode cL_law 1341 = .ok (.iconst 3, 1) := by decide +kernel
theorem dL_law_1342 : decode cL_law 1342 = .ok (.iadd, 1) := by decide +kernel
theorem dL_law_1343 : decode cL_law 1343 = .ok (.iaload, 1) := by decide +kernel
theorem dL_law_1344 : decode cL_law 1344 = .ok (.aload_n 0, 1) := by decide +kernel
theorem dL_law_1345 : decode cL_law 1345 = .ok (.iload_n 3, 1) := by decide +kernel
theorem dL_law_1346 : decode cL_law 1346 = .ok (.iconst 4, 1) := by decide +kernel
theorem dL_law_1347 : decode cL_law 1347 = .ok (.iadd, 1) := by decide +kernel
theorem dL_law_1348 : decode cL_law 1348 = .ok (.iaload, 1) := by decide +kernel
theorem dL_law_1349 : decode cL_law 1349 = .ok (.invokevirtual 157, 3) := by decide +kernel
theorem dL_law_1352 : decode cL_law 1352 = .ok (.aload_n 2, 1) := by decide +kernel
theorem dL_law_1353 : decode cL_law 1353 = .ok (.aload_n 0, 1) := by decide +kernel
theorem dL_law_1354 : decode cL_law 1354 = .ok (.iload_n 3, 1) := by decide +kernel
theorem dL_law_1355 : decode cL_law 1355 = .ok (.iconst 1, 1) := by decide +kernel
theorem dL_law_1356 : decode cL_law 1356 = .ok (.iadd, 1) := by decide +kernel
theorem dL_law_1357 : decode cL_law 1357 = .ok (.iaload, 1) := by decide +kernel
theorem dL_law_1358 : decode cL_law 1358 = .ok (.aload_n 0, 1) := by decide +kernel
theorem dL_law_1359 : decode cL_law 1359 = .ok (.iload_n 3, 1) := by decide +kernel
theorem dL_law_1360 : decode cL_law 1360 = .ok (.iconst 2, 1) := by decide +kernel
theorem dL_law_1361 : decode cL_law 1361 = .ok (.iadd, 1) := by decide +kernel
theorem dL_law_1362 : decode cL_law 1362 = .ok (.iaload, 1) := by decide +kernel
theorem dL_law_1363 : decode cL_law 1363 = .ok (.aload_n 0, 1) := by decide +kernel
theorem dL_law_1364 : decode cL_law 1364 = .ok (.iload_n 3, 1) := by decide +kernel
theorem dL_law_1365 : decode cL_law 1365 = .ok (.iconst 3, 1) := by decide +kernel
theorem dL_law_1366 : decode cL_law 1366 = .ok (.iadd, 1) := by decide +kernel
theorem dL_law_1367 : decode cL_law 1367 = .ok (.iaload, 1) := by decide +kernel
theorem dL_law_1368 : decode cL_law 1368 = .ok (.aload_n 0, 1) := by decide +kernel
theorem dL_law_1369 : decode cL_law 1369 = .ok (.iload_n 3, 1) := by decide +kernel
theorem dL_law_1370 : decode cL_law 1370 = .ok (.iconst 4, 1) := by decide +kernel
theorem dL_law_1371 : decode cL_law 1371 = .ok (.iadd, 1) := by decide +kernel
theorem dL_law_1372 : decode cL_law 1372 = .ok (.iaload, 1) := by decide +kernel
theorem dL_law_1373 : decode cL_law 1373 = .ok (.invokevirtual 161, 3) := by decide +kernel
theorem dL_law_1376 : decode cL_law 1376 = .ok (.if_icmp .eq 38, 3) := by decide +kernel
theorem dL_law_1379 : decode cL_law 1379 = .ok (.iconst 0, 1) := by decide +kernel
theorem dL_law_1380 : decode cL_law 1380 = .ok (.ireturn, 1) := by decide +kernel
theorem dL_law_1381 : decode cL_law 1381 = .ok (.aload_n 1, 1) := by decide +kernel
theorem dL_law_1382 : decode cL_law 1382 = .ok (.aload_n 0, 1) := by decide +kernel
theorem dL_law_1383 : decode cL_law 1383 = .ok (.iload_n 3, 1) := by decide +kernel
theorem dL_law_1384 : decode cL_law 1384 = .ok (.iconst 1, 1) := by decide +kernel
theorem dL_law_1385 : decode cL_law 1385 = .ok (.iadd, 1) := by decide +kernel
theorem dL_law_1386 : decode cL_law 1386 = .ok (.iaload, 1) := by decide +kernel
theorem dL_law_1387 : decode cL_law 1387 = .ok (.aload_n 0, 1) := by decide +kernel
theorem dL_law_1388 : decode cL_law 1388 = .ok (.iload_n 3, 1) := by decide +kernel
theorem dL_law_1389 : decode cL_law 1389 = .ok (.iconst 2, 1) := by decide +kernel
theorem dL_law_1390 : decode cL_law 1390 = .ok (.iadd, 1) := by decide +kernel
theorem dL_law_1391 : decode cL_law 1391 = .ok (.iaload, 1) := by decide +kernel
theorem dL_law_1392 : decode cL_law 1392 = .ok (.invokevirtual 162, 3) := by decide +kernel
theorem dL_law_1395 : decode cL_law 1395 = .ok (.aload_n 2, 1) := by decide +kernel
theorem dL_law_1396 : decode cL_law 1396 = .ok (.aload_n 0, 1) := by decide +kernel
theorem dL_law_1397 : decode cL_law 1397 = .ok (.iload_n 3, 1) := by decide +kernel
theorem dL_law_1398 : decode cL_law 1398 = .ok (.iconst 1, 1) := by decide +kernel
theorem dL_law_1399 : decode cL_law 1399 = .ok (.iadd, 1) := by decide +kernel
theorem dL_law_1400 : decode cL_law 1400 = .ok (.iaload, 1) := by decide +kernel
theorem dL_law_1401 : decode cL_law 1401 = .ok (.aload_n 0, 1) := by decide +kernel
theorem dL_law_1402 : decode cL_law 1402 = .ok (.iload_n 3, 1) := by decide +kernel
theorem dL_law_1403 : decode cL_law 1403 = .ok (.iconst 2, 1) := by decide +kernel
theorem dL_law_1404 : decode cL_law 1404 = .ok (.iadd, 1) := by decide +kernel
theorem dL_law_1405 : decode cL_law 1405 = .ok (.iaload, 1) := by decide +kernel
theorem dL_law_1406 : decode cL_law 1406 = .ok (.invokevirtual 165, 3) := by decide +kernel
theorem dL_law_1409 : decode cL_law 1409 = .ok (.if_icmp .eq 5, 3) := by decide +kernel
theorem dL_law_1412 : decode cL_law 1412 = .ok (.iconst 0, 1) := by decide +kernel
theorem dL_law_1413 : decode cL_law 1413 = .ok (.ireturn, 1) := by decide +kernel
theorem dL_law_1414 : decode cL_law 1414 = .ok (.iinc 3 7, 3) := by decide +kernel
theorem dL_law_1417 : decode cL_law 1417 = .ok (.goto (-1399), 3) := by decide +kernel
theorem dL_law_1420 : decode cL_law 1420 = .ok (.iconst 1, 1) := by decide +kernel
theorem dL_law_1421 : decode cL_law 1421 = .ok (.ireturn, 1) := by decide +kernel
set_option maxHeartbeats 4000000 in
set_option maxRecDepth 100000 in
theorem law_0 {E : gE} {d : Nat} {Q : State → Prop} (C : gCx SL E RL cL_law 4 ret d) (hd : 60 ≤ d) {b Ln i : Nat} {xs : Nat → Int32} (hX : va_X b Ln xs (e_s E) (e_s E).heap) (hbl : b < (e_s E).heap.size) (hbA : ¬ gA SL (e_ad E) b) (hLn : Ln ≤ 3584) {w : Int32} (Ew : w = nI i) (hi : i + 7 ≤ Ln) {TX : gTX} {P B σ τ : gS} (hC : RC TX P B σ) (hM : RM TX P B τ) (hzC : gz SC σ) (hzM : gz SM τ) (hk : ∀ (TX : gTX) (P B σ τ : gS), RC TX P B σ → RM TX P B τ → gz SC σ → gz SM τ → GW SL E Q 1414 [some (.ref b), some (.ref (e_ad E 0)), some (.ref (e_ad E 72)), some (.int w)] [] (gcat σ τ)) : GW SL E Q 192 [some (.ref b), some (.ref (e_ad E 0)), some (.ref (e_ad E 72)), some (.int w)] [] (gcat σ τ) := by
  refine G_aload_n (i := 1) C 193 dL_law_192 rfl rfl rfl ?_
  refine G_aload_n (i := 0) C 194 dL_law_193 rfl rfl rfl ?_
  refine G_iload_n (i := 3) C 195 dL_law_194 rfl rfl rfl ?_
  refine G_iconst (v := 1) C 196 dL_law_195 rfl rfl ?_
  refine G_iadd C 197 dL_law_196 rfl (fun x196 ex196 => ?_)
  have Nx196 : x196 = nI (i + 1) := g_addN ex196 Ew rfl
  refine L_sld C 198 hX hbl hbA Nx196 (by omega) hLn dL_law_197 rfl ?_
  refine L_Ci (n := 1) C 201 ⟨w_420, by decide +kernel, by decide +kernel, by decide +kernel, by decide⟩ ⟨w_417, w_418, w_419, w_1⟩ (by omega) rfl (c_X10_count 0 TX P B σ hC (xs (i + 1))) rfl rfl rfl (Nat.le_of_ble_eq_true rfl) rfl dL_law_198 rfl hzC hzM (fun r1 s1 h1 z1 => ?_)
  obtain ⟨hR1, hr1⟩ := h1
  refine G_aload_n (i := 2) C 202 dL_law_201 rfl rfl rfl ?_
  refine G_aload_n (i := 0) C 203 dL_law_202 rfl rfl rfl ?_
  refine G_iload_n (i := 3) C 204 dL_law_203 rfl rfl rfl ?_
  refine G_iconst (v := 1) C 205 dL_law_204 rfl rfl ?_
  refine G_iadd C 206 dL_law_205 rfl (fun x205 ex205 => ?_)
  have Nx205 : x205 = nI (i + 1) := g_addN ex205 Ew rfl
  refine L_sld C 207 hX hbl hbA Nx205 (by omega) hLn dL_law_206 rfl ?_
  refine L_Mi (n := 1) C 210 ⟨w_973, by decide +kernel, by decide +kernel, by decide +kernel, by decide⟩ ⟨w_970, w_971, w_972, w_18⟩ (by omega) rfl (c_X11_count 0 TX P B τ hM (xs (i + 1))) rfl rfl rfl (Nat.le_of_ble_eq_true rfl) rfl dL_law_207 rfl z1 hzM (fun r2 s2 h2 z2 => ?_)
  obtain ⟨hR2, hr2⟩ := h2
  refine G_icmp_eq C 1414 213 dL_law_210 rfl rfl (fun _ => hk _ _ _ _ _ hR1 hR2 z1 z2) (fun c => absurd (hr1.trans hr2.symm) c)
set_option maxHeartbeats 4000000 in
set_option maxRecDepth 100000 in
theorem law_1 {E : gE} {d : Nat} {Q : State → Prop} (C : gCx SL E RL cL_law 4 ret d) (hd : 60 ≤ d) {b Ln i : Nat} {xs : Nat → Int32} (hX : va_X b Ln xs (e_s E) (e_s E).heap) (hbl : b < (e_s E).heap.size) (hbA : ¬ gA SL (e_ad E) b) (hLn : Ln ≤ 3584) {w : Int32} (Ew : w = nI i) (hi : i + 7 ≤ Ln) {TX : gTX} {P B σ τ : gS} (hC : RC TX P B σ) (hM : RM TX P B τ) (hzC : gz SC σ) (hzM : gz SM τ) (hk : ∀ (TX : gTX) (P B σ τ : gS), RC TX P B σ → RM TX P B τ → gz SC σ → gz SM τ → GW SL E Q 1414 [some (.ref b), some (.ref (e_ad E 0)), some (.ref (e_ad E 72)), some (.int w)] [] (gcat σ τ)) : GW SL E Q 215 [some (.ref b), some (.ref (e_ad E 0)), some (.ref (e_ad E 72)), some (.int w)] [] (gcat σ τ) := by
  refine G_aload_n (i := 1) C 216 dL_law_215 rfl rfl rfl ?_
  refine G_aload_n (i := 0) C 217 dL_law_216 rfl rfl rfl ?_
  refine G_iload_n (i := 3) C 218 dL_law_217 rfl rfl rfl ?_
  refine G_iconst (v := 1) C 219 dL_law_218 rfl rfl ?_
  refine G_iadd C 220 dL_law_219 rfl (fun x219 ex219 => ?_)
  have Nx219 : x219 = nI (i + 1) := g_addN ex219 Ew rfl
  refine L_sld C 221 hX hbl hbA Nx219 (by omega) hLn dL_law_220 rfl ?_
  refine G_aload_n (i := 0) C 222 dL_law_221 rfl rfl rfl ?_
  refine G_iload_n (i := 3) C 223 dL_law_222 rfl rfl rfl ?_
  refine G_iconst (v := 2) C 224 dL_law_223 rfl rfl ?_
  refine G_iadd C 225 dL_law_224 rfl (fun x224 ex224 => ?_)
  have Nx224 : x224 = nI (i + 2) := g_addN ex224 Ew rfl
  refine L_sld C 226 hX hbl hbA Nx224 (by omega) hLn dL_law_225 rfl ?_
  refine L_Ci (n := 2) C 229 ⟨w_430, by decide +kernel, by decide +kernel, by decide +kernel, by decide⟩ ⟨w_427, w_428, w_429, w_1⟩ (by omega) rfl (c_X10_borough 0 TX P B σ hC (xs (i + 1)) (xs (i + 2))) rfl rfl rfl (Nat.le_of_ble_eq_true rfl) rfl dL_law_226 rfl hzC hzM (fun r1 s1 h1 z1 => ?_)
  obtain ⟨hR1, hr1⟩ := h1
  refine G_aload_n (i := 2) C 230 dL_law_229 rfl rfl rfl ?_
  refine G_aload_n (i := 0) C 231 dL_law_230 rfl rfl rfl ?_
  refine G_iload_n (i := 3) C 232 dL_law_231 rfl rfl rfl ?_
  refine G_iconst (v := 1) C 233 dL_law_232 rfl rfl ?_
  refine G_iadd C 234 dL_law_233 rfl (fun x233 ex233 => ?_)
  have Nx233 : x233 = nI (i + 1) := g_addN ex233 Ew rfl
  refine L_sld C 235 hX hbl hbA Nx233 (by omega) hLn dL_law_234 rfl ?_
  refine G_aload_n (i := 0) C 236 dL_law_235 rfl rfl rfl ?_
  refine G_iload_n (i := 3) C 237 dL_law_236 rfl rfl rfl ?_
  refine G_iconst (v := 2) C 238 dL_law_237 rfl rfl ?_
  refine G_iadd C 239 dL_law_238 rfl (fun x238 ex238 => ?_)
  have Nx238 : x238 = nI (i + 2) := g_addN ex238 Ew rfl
  refine L_sld C 240 hX hbl hbA Nx238 (by omega) hLn dL_law_239 rfl ?_
  refine L_Mi (n := 2) C 243 ⟨w_980, by decide +kernel, by decide +kernel, by decide +kernel, by decide⟩ ⟨w_977, w_978, w_979, w_18⟩ (by omega) rfl (c_X11_borough 0 TX P B τ hM (xs (i + 1)) (xs (i + 2))) rfl rfl rfl (Nat.le_of_ble_eq_true rfl) rfl dL_law_240 rfl z1 hzM (fun r2 s2 h2 z2 => ?_)
  obtain ⟨hR2, hr2⟩ := h2
  refine G_icmp_eq C 1414 246 dL_law_243 rfl rfl (fun _ => hk _ _ _ _ _ hR1 hR2 z1 z2) (fun c => absurd (hr1.trans hr2.symm) c)
set_option maxHeartbeats 4000000 in
set_option maxRecDepth 100000 in
theorem law_2 {E : gE} {d : Nat} {Q : State → Prop} (C : gCx SL E RL cL_law 4 ret d) (hd : 60 ≤ d) {b Ln i : Nat} {xs : Nat → Int32} (hX : va_X b Ln xs (e_s E) (e_s E).heap) (hbl : b < (e_s E).heap.size) (hbA : ¬ gA SL (e_ad E) b) (hLn : Ln ≤ 3584) {w : Int32} (Ew : w = nI i) (hi : i + 7 ≤ Ln) {TX : gTX} {P B σ τ : gS} (hC : RC TX P B σ) (hM : RM TX P B τ) (hzC : gz SC σ) (hzM : gz SM τ) (hk : ∀ (TX : gTX) (P B σ τ : gS), RC TX P B σ → RM TX P B τ → gz SC σ → gz SM τ → GW SL E Q 1414 [some (.ref b), some (.ref (e_ad E 0)), some (.ref (e_ad E 72)), some (.int w)] [] (gcat σ τ)) : GW SL E Q 248 [some (.ref b), some (.ref (e_ad E 0)), some (.ref (e_ad E 72)), some (.int w)] [] (gcat σ τ) := by
  refine G_aload_n (i := 1) C 249 dL_law_248 rfl rfl rfl ?_
  refine G_aload_n (i := 0) C 250 dL_law_249 rfl rfl rfl ?_
  refine G_iload_n (i := 3) C 251 dL_law_250 rfl rfl rfl ?_
  refine G_iconst (v := 1) C 252 dL_law_251 rfl rfl ?_
  refine G_iadd C 253 dL_law_252 rfl (fun x252 ex252 => ?_)
  have Nx252 : x252 = nI (i + 1) := g_addN ex252 Ew rfl
  refine L_sld C 254 hX hbl hbA Nx252 (by omega) hLn dL_law_253 rfl ?_
  refine L_Ci (n := 1) C 257 ⟨w_442, by decide +kernel, by decide +kernel, by decide +kernel, by decide⟩ ⟨w_439, w_440, w_441, w_1⟩ (by omega) rfl (c_X10_crier 0 TX P B σ hC (xs (i + 1))) rfl rfl rfl (Nat.le_of_ble_eq_true rfl) rfl dL_law_254 rfl hzC hzM (fun r1 s1 h1 z1 => ?_)
  obtain ⟨hR1, hr1⟩ := h1
  refine G_aload_n (i := 2) C 258 dL_law_257 rfl rfl rfl ?_
  refine G_aload_n (i := 0) C 259 dL_law_258 rfl rfl rfl ?_
  refine G_iload_n (i := 3) C 260 dL_law_259 rfl rfl rfl ?_
  refine G_iconst (v := 1) C 261 dL_law_260 rfl rfl ?_
  refine G_iadd C 262 dL_law_261 rfl (fun x261 ex261 => ?_)
  have Nx261 : x261 = nI (i + 1) := g_addN ex261 Ew rfl
  refine L_sld C 263 hX hbl hbA Nx261 (by omega) hLn dL_law_262 rfl ?_
  refine L_Mi (n := 1) C 266 ⟨w_984, by decide +kernel, by decide +kernel, by decide +kernel, by decide⟩ ⟨w_981, w_982, w_983, w_18⟩ (by omega) rfl (c_X11_crier 0 TX P B τ hM (xs (i + 1))) rfl rfl rfl (Nat.le_of_ble_eq_true rfl) rfl dL_law_263 rfl z1 hzM (fun r2 s2 h2 z2 => ?_)
  obtain ⟨hR2, hr2⟩ := h2
  refine G_icmp_eq C 1414 269 dL_law_266 rfl rfl (fun _ => hk _ _ _ _ _ hR1 hR2 z1 z2) (fun c => absurd (hr1.trans hr2.symm) c)
set_option maxHeartbeats 4000000 in
set_option maxRecDepth 100000 in
theorem law_3 {E : gE} {d : Nat} {Q : State → Prop} (C : gCx SL E RL cL_law 4 ret d) (hd : 60 ≤ d) {b Ln i : Nat} {xs : Nat → Int32} (hX : va_X b Ln xs (e_s E) (e_s E).heap) (hbl : b < (e_s E).heap.size) (hbA : ¬ gA SL (e_ad E) b) (hLn : Ln ≤ 3584) {w : Int32} (Ew : w = nI i) (hi : i + 7 ≤ Ln) {TX : gTX} {P B σ τ : gS} (hC : RC TX P B σ) (hM : RM TX P B τ) (hzC : gz SC σ) (hzM : gz SM τ) (hk : ∀ (TX : gTX) (P B σ τ : gS), RC TX P B σ → RM TX P B τ → gz SC σ → gz SM τ → GW SL E Q 1414 [some (.ref b), some (.ref (e_ad E 0)), some (.ref (e_ad E 72)), some (.int w)] [] (gcat σ τ)) : GW SL E Q 271 [some (.ref b), some (.ref (e_ad E 0)), some (.ref (e_ad E 72)), some (.int w)] [] (gcat σ τ) := by
  refine G_aload_n (i := 1) C 272 dL_law_271 rfl rfl rfl ?_
  refine G_aload_n (i := 0) C 273 dL_law_272 rfl rfl rfl ?_
  refine G_iload_n (i := 3) C 274 dL_law_273 rfl rfl rfl ?_
  refine G_iconst (v := 1) C 275 dL_law_274 rfl rfl ?_
  refine G_iadd C 276 dL_law_275 rfl (fun x275 ex275 => ?_)
  have Nx275 : x275 = nI (i + 1) := g_addN ex275 Ew rfl
  refine L_sld C 277 hX hbl hbA Nx275 (by omega) hLn dL_law_276 rfl ?_
  refine G_aload_n (i := 0) C 278 dL_law_277 rfl rfl rfl ?_
  refine G_iload_n (i := 3) C 279 dL_law_278 rfl rfl rfl ?_
  refine G_iconst (v := 2) C 280 dL_law_279 rfl rfl ?_
  refine G_iadd C 281 dL_law_280 rfl (fun x280 ex280 => ?_)
  have Nx280 : x280 = nI (i + 2) := g_addN ex280 Ew rfl
  refine L_sld C 282 hX hbl hbA Nx280 (by omega) hLn dL_law_281 rfl ?_
  refine G_aload_n (i := 0) C 283 dL_law_282 rfl rfl rfl ?_
  refine G_iload_n (i := 3) C 284 dL_law_283 rfl rfl rfl ?_
  refine G_iconst (v := 3) C 285 dL_law_284 rfl rfl ?_
  refine G_iadd C 286 dL_law_285 rfl (fun x285 ex285 => ?_)
  have Nx285 : x285 = nI (i + 3) := g_addN ex285 Ew rfl
  refine L_sld C 287 hX hbl hbA Nx285 (by omega) hLn dL_law_286 rfl ?_
  refine G_aload_n (i := 0) C 288 dL_law_287 rfl rfl rfl ?_
  refine G_iload_n (i := 3) C 289 dL_law_288 rfl rfl rfl ?_
  refine G_iconst (v := 4) C 290 dL_law_289 rfl rfl ?_
  refine G_iadd C 291 dL_law_290 rfl (fun x290 ex290 => ?_)
  have Nx290 : x290 = nI (i + 4) := g_addN ex290 Ew rfl
  refine L_sld C 292 hX hbl hbA Nx290 (by omega) hLn dL_law_291 rfl ?_
  refine G_aload_n (i := 0) C 293 dL_law_292 rfl rfl rfl ?_
  refine G_iload_n (i := 3) C 294 dL_law_293 rfl rfl rfl ?_
  refine G_iconst (v := 5) C 295 dL_law_294 rfl rfl ?_
  refine G_iadd C 296 dL_law_295 rfl (fun x295 ex295 => ?_)
  have Nx295 : x295 = nI (i + 5) := g_addN ex295 Ew rfl
  refine L_sld C 297 hX hbl hbA Nx295 (by omega) hLn dL_law_296 rfl ?_
  refine G_aload_n (i := 0) C 298 dL_law_297 rfl rfl rfl ?_
  refine G_iload_n (i := 3) C 299 dL_law_298 rfl rfl rfl ?_
  refine G_bipush (v := 6) C 301 dL_law_299 rfl rfl ?_
  refine G_iadd C 302 dL_law_301 rfl (fun x301 ex301 => ?_)
  have Nx301 : x301 = nI (i + 6) := g_addN ex301 Ew rfl
  refine L_sld C 303 hX hbl hbA Nx301 (by omega) hLn dL_law_302 rfl ?_
  refine L_Ci (n := 6) C 306 ⟨w_522, by decide +kernel, by decide +kernel, by decide +kernel, by decide⟩ ⟨w_519, w_520, w_521, w_1⟩ (by omega) rfl (c_X10_feed 0 TX P B σ hC (xs (i + 1)) (xs (i + 2)) (xs (i + 3)) (xs (i + 4)) (xs (i + 5)) (xs (i + 6))) rfl rfl rfl (Nat.le_of_ble_eq_true rfl) rfl dL_law_303 rfl hzC hzM (fun r1 s1 h1 z1 => ?_)
  obtain ⟨hR1, hr1⟩ := h1
  refine G_aload_n (i := 2) C 307 dL_law_306 rfl rfl rfl ?_
  refine G_aload_n (i := 0) C 308 dL_law_307 rfl rfl rfl ?_
  refine G_iload_n (i := 3) C 309 dL_law_308 rfl rfl rfl ?_
  refine G_iconst (v := 1) C 310 dL_law_309 rfl rfl ?_
  refine G_iadd C 311 dL_law_310 rfl (fun x310 ex310 => ?_)
  have Nx310 : x310 = nI (i + 1) := g_addN ex310 Ew rfl
  refine L_sld C 312 hX hbl hbA Nx310 (by omega) hLn dL_law_311 rfl ?_
  refine G_aload_n (i := 0) C 313 dL_law_312 rfl rfl rfl ?_
  refine G_iload_n (i := 3) C 314 dL_law_313 rfl rfl rfl ?_
  refine G_iconst (v := 2) C 315 dL_law_314 rfl rfl ?_
  refine G_iadd C 316 dL_law_315 rfl (fun x315 ex315 => ?_)
  have Nx315 : x315 = nI (i + 2) := g_addN ex315 Ew rfl
  refine L_sld C 317 hX hbl hbA Nx315 (by omega) hLn dL_law_316 rfl ?_
  refine G_aload_n (i := 0) C 318 dL_law_317 rfl rfl rfl ?_
  refine G_iload_n (i := 3) C 319 dL_law_318 rfl rfl rfl ?_
  refine G_iconst (v := 3) C 320 dL_law_319 rfl rfl ?_
  refine G_iadd C 321 dL_law_320 rfl (fun x320 ex320 => ?_)
  have Nx320 : x320 = nI (i + 3) := g_addN ex320 Ew rfl
  refine L_sld C 322 hX hbl hbA Nx320 (by omega) hLn dL_law_321 rfl ?_
  refine G_aload_n (i := 0) C 323 dL_law_322 rfl rfl rfl ?_
  refine G_iload_n (i := 3) C 324 dL_law_323 rfl rfl rfl ?_
  refine G_iconst (v := 4) C 325 dL_law_324 rfl rfl ?_
  refine G_iadd C 326 dL_law_325 rfl (fun x325 ex325 => ?_)
  have Nx325 : x325 = nI (i + 4) := g_addN ex325 Ew rfl
  refine L_sld C 327 hX hbl hbA Nx325 (by omega) hLn dL_law_326 rfl ?_
  refine G_aload_n (i := 0) C 328 dL_law_327 rfl rfl rfl ?_
  refine G_iload_n (i := 3) C 329 dL_law_328 rfl rfl rfl ?_
  refine G_iconst (v := 5) C 330 dL_law_329 rfl rfl ?_
  refine G_iadd C 331 dL_law_330 rfl (fun x330 ex330 => ?_)
  have Nx330 : x330 = nI (i + 5) := g_addN ex330 Ew rfl
  refine L_sld C 332 hX hbl hbA Nx330 (by omega) hLn dL_law_331 rfl ?_
  refine G_aload_n (i := 0) C 333 dL_law_332 rfl rfl rfl ?_
  refine G_iload_n (i := 3) C 334 dL_law_333 rfl rfl rfl ?_
  refine G_bipush (v := 6) C 336 dL_law_334 rfl rfl ?_
  refine G_iadd C 337 dL_law_336 rfl (fun x336 ex336 => ?_)
  have Nx336 : x336 = nI (i + 6) := g_addN ex336 Ew rfl
  refine L_sld C 338 hX hbl hbA Nx336 (by omega) hLn dL_law_337 rfl ?_
  refine L_Mi (n := 6) C 341 ⟨w_1026, by decide +kernel, by decide +kernel, by decide +kernel, by decide⟩ ⟨w_1023, w_1024, w_1025, w_18⟩ (by omega) rfl (c_X11_feed 0 TX P B τ hM (xs (i + 1)) (xs (i + 2)) (xs (i + 3)) (xs (i + 4)) (xs (i + 5)) (xs (i + 6))) rfl rfl rfl (Nat.le_of_ble_eq_true rfl) rfl dL_law_338 rfl z1 hzM (fun r2 s2 h2 z2 => ?_)
  obtain ⟨hR2, hr2⟩ := h2
  refine G_icmp_eq C 1414 344 dL_law_341 rfl rfl (fun _ => hk _ _ _ _ _ hR1 hR2 z1 z2) (fun c => absurd (hr1.trans hr2.symm) c)
set_option maxHeartbeats 4000000 in
set_option maxRecDepth 100000 in
theorem law_4 {E : gE} {d : Nat} {Q : State → Prop} (C : gCx SL E RL cL_law 4 ret d) (hd : 60 ≤ d) {b Ln i : Nat} {xs : Nat → Int32} (hX : va_X b Ln xs (e_s E) (e_s E).heap) (hbl : b < (e_s E).heap.size) (hbA : ¬ gA SL (e_ad E) b) (hLn : Ln ≤ 3584) {w : Int32} (Ew : w = nI i) (hi : i + 7 ≤ Ln) {TX : gTX} {P B σ τ : gS} (hC : RC TX P B σ) (hM : RM TX P B τ) (hzC : gz SC σ) (hzM : gz SM τ) (hk : ∀ (TX : gTX) (P B σ τ : gS), RC TX P B σ → RM TX P B τ → gz SC σ → gz SM τ → GW SL E Q 1414 [some (.ref b), some (.ref (e_ad E 0)), some (.ref (e_ad E 72)), some (.int w)] [] (gcat σ τ)) : GW SL E Q 346 [some (.ref b), some (.ref (e_ad E 0)), some (.ref (e_ad E 72)), some (.int w)] [] (gcat σ τ) := by
  refine G_aload_n (i := 1) C 347 dL_law_346 rfl rfl rfl ?_
  refine L_Ci (n := 0) C 350 ⟨w_529, by decide +kernel, by decide +kernel, by decide +kernel, by decide⟩ ⟨w_526, w_527, w_528, w_1⟩ (by omega) rfl (k_X10_text 0 TX P B σ hC ) rfl rfl rfl (Nat.le_of_ble_eq_true rfl) rfl dL_law_347 rfl hzC hzM (fun r1 s1 h1 z1 => ?_)
  obtain ⟨hR1, hr1⟩ := h1
  refine G_aload_n (i := 2) C 351 dL_law_350 rfl rfl rfl ?_
  refine L_Mi (n := 0) C 354 ⟨w_829, by decide +kernel, by decide +kernel, by decide +kernel, by decide⟩ ⟨w_1030, w_827, w_828, w_18⟩ (by omega) rfl (k_X11_text 0 TX P B τ hM ) rfl rfl rfl (Nat.le_of_ble_eq_true rfl) rfl dL_law_351 rfl z1 hzM (fun r2 s2 h2 z2 => ?_)
  obtain ⟨hR2, hr2⟩ := h2
  refine G_icmp_eq C 1414 357 dL_law_354 rfl rfl (fun _ => hk _ _ _ _ _ hR1 hR2 z1 z2) (fun c => absurd (hr1.trans hr2.symm) c)
set_option maxHeartbeats 4000000 in
set_option maxRecDepth 100000 in
theorem law_5 {E : gE} {d : Nat} {Q : State → Prop} (C : gCx SL E RL cL_law 4 ret d) (hd : 60 ≤ d) {b Ln i : Nat} {xs : Nat → Int32} (hX : va_X b Ln xs (e_s E) (e_s E).heap) (hbl : b < (e_s E).heap.size) (hbA : ¬ gA SL (e_ad E) b) (hLn : Ln ≤ 3584) {w : Int32} (Ew : w = nI i) (hi : i + 7 ≤ Ln) {TX : gTX} {P B σ τ : gS} (hC : RC TX P B σ) (hM : RM TX P B τ) (hzC : gz SC σ) (hzM : gz SM τ) (hk : ∀ (TX : gTX) (P B σ τ : gS), RC TX P B σ → RM TX P B τ → gz SC σ → gz SM τ → GW SL E Q 1414 [some (.ref b), some (.ref (e_ad E 0)), some (.ref (e_ad E 72)), some (.int w)] [] (gcat σ τ)) : GW SL E Q 359 [some (.ref b), some (.ref (e_ad E 0)), some (.ref (e_ad E 72)), some (.int w)] [] (gcat σ τ) := by
  refine G_aload_n (i := 1) C 360 dL_law_359 rfl rfl rfl ?_
  refine G_aload_n (i := 0) C 361 dL_law_360 rfl rfl rfl ?_
  refine G_iload_n (i := 3) C 362 dL_law_361 rfl rfl rfl ?_
  refine G_iconst (v := 1) C 363 dL_law_362 rfl rfl ?_
  refine G_iadd C 364 dL_law_363 rfl (fun x363 ex363 => ?_)
  have Nx363 : x363 = nI (i + 1) := g_addN ex363 Ew rfl
  refine L_sld C 365 hX hbl hbA Nx363 (by omega) hLn dL_law_364 rfl ?_
  refine L_Ci (n := 1) C 368 ⟨w_533, by decide +kernel, by decide +kernel, by decide +kernel, by decide⟩ ⟨w_530, w_531, w_532, w_1⟩ (by omega) rfl (c_X10_force 0 TX P B σ hC (xs (i + 1))) rfl rfl rfl (Nat.le_of_ble_eq_true rfl) rfl dL_law_365 rfl hzC hzM (fun r1 s1 h1 z1 => ?_)
  obtain ⟨hR1, hr1⟩ := h1
  refine G_aload_n (i := 2) C 369 dL_law_368 rfl rfl rfl ?_
  refine G_aload_n (i := 0) C 370 dL_law_369 rfl rfl rfl ?_
  refine G_iload_n (i := 3) C 371 dL_law_370 rfl rfl rfl ?_
  refine G_iconst (v := 1) C 372 dL_law_371 rfl rfl ?_
  refine G_iadd C 373 dL_law_372 rfl (fun x372 ex372 => ?_)
  have Nx372 : x372 = nI (i + 1) := g_addN ex372 Ew rfl
  refine L_sld C 374 hX hbl hbA Nx372 (by omega) hLn dL_law_373 rfl ?_
  refine L_Mi (n := 1) C 377 ⟨w_1034, by decide +kernel, by decide +kernel, by decide +kernel, by decide⟩ ⟨w_1031, w_1032, w_1033, w_18⟩ (by omega) rfl (c_X11_force 0 TX P B τ hM (xs (i + 1))) rfl rfl rfl (Nat.le_of_ble_eq_true rfl) rfl dL_law_374 rfl z1 hzM (fun r2 s2 h2 z2 => ?_)
  obtain ⟨hR2, hr2⟩ := h2
  refine G_icmp_eq C 1414 380 dL_law_377 rfl rfl (fun _ => hk _ _ _ _ _ hR1 hR2 z1 z2) (fun c => absurd (hr1.trans hr2.symm) c)
set_option maxHeartbeats 4000000 in
set_option maxRecDepth 100000 in
theorem law_6 {E : gE} {d : Nat} {Q : State → Prop} (C : gCx SL E RL cL_law 4 ret d) (hd : 60 ≤ d) {b Ln i : Nat} {xs : Nat → Int32} (hX : va_X b Ln xs (e_s E) (e_s E).heap) (hbl : b < (e_s E).heap.size) (hbA : ¬ gA SL (e_ad E) b) (hLn : Ln ≤ 3584) {w : Int32} (Ew : w = nI i) (hi : i + 7 ≤ Ln) {TX : gTX} {P B σ τ : gS} (hC : RC TX P B σ) (hM : RM TX P B τ) (hzC : gz SC σ) (hzM : gz SM τ) (hk : ∀ (TX : gTX) (P B σ τ : gS), RC TX P B σ → RM TX P B τ → gz SC σ → gz SM τ → GW SL E Q 1414 [some (.ref b), some (.ref (e_ad E 0)), some (.ref (e_ad E 72)), some (.int w)] [] (gcat σ τ)) : GW SL E Q 382 [some (.ref b), some (.ref (e_ad E 0)), some (.ref (e_ad E 72)), some (.int w)] [] (gcat σ τ) := by
  refine G_aload_n (i := 1) C 383 dL_law_382 rfl rfl rfl ?_
  refine G_aload_n (i := 0) C 384 dL_law_383 rfl rfl rfl ?_
  refine G_iload_n (i := 3) C 385 dL_law_384 rfl rfl rfl ?_
  refine G_iconst (v := 1) C 386 dL_law_385 rfl rfl ?_
  refine G_iadd C 387 dL_law_386 rfl (fun x386 ex386 => ?_)
  have Nx386 : x386 = nI (i + 1) := g_addN ex386 Ew rfl
  refine L_sld C 388 hX hbl hbA Nx386 (by omega) hLn dL_law_387 rfl ?_
  refine G_aload_n (i := 0) C 389 dL_law_388 rfl rfl rfl ?_
  refine G_iload_n (i := 3) C 390 dL_law_389 rfl rfl rfl ?_
  refine G_iconst (v := 2) C 391 dL_law_390 rfl rfl ?_
  refine G_iadd C 392 dL_law_391 rfl (fun x391 ex391 => ?_)
  have Nx391 : x391 = nI (i + 2) := g_addN ex391 Ew rfl
  refine L_sld C 393 hX hbl hbA Nx391 (by omega) hLn dL_law_392 rfl ?_
  refine G_aload_n (i := 0) C 394 dL_law_393 rfl rfl rfl ?_
  refine G_iload_n (i := 3) C 395 dL_law_394 rfl rfl rfl ?_
  refine G_iconst (v := 3) C 396 dL_law_395 rfl rfl ?_
  refine G_iadd C 397 dL_law_396 rfl (fun x396 ex396 => ?_)
  have Nx396 : x396 = nI (i + 3) := g_addN ex396 Ew rfl
  refine L_sld C 398 hX hbl hbA Nx396 (by omega) hLn dL_law_397 rfl ?_
  refine L_Ci (n := 3) C 401 ⟨w_537, by decide +kernel, by decide +kernel, by decide +kernel, by decide⟩ ⟨w_534, w_535, w_536, w_1⟩ (by omega) rfl (c_X10_asks 0 TX P B σ hC (xs (i + 1)) (xs (i + 2)) (xs (i + 3))) rfl rfl rfl (Nat.le_of_ble_eq_true rfl) rfl dL_law_398 rfl hzC hzM (fun r1 s1 h1 z1 => ?_)
  obtain ⟨hR1, hr1⟩ := h1
  refine G_aload_n (i := 2) C 402 dL_law_401 rfl rfl rfl ?_
  refine G_aload_n (i := 0) C 403 dL_law_402 rfl rfl rfl ?_
  refine G_iload_n (i := 3) C 404 dL_law_403 rfl rfl rfl ?_
  refine G_iconst (v := 1) C 405 dL_law_404 rfl rfl ?_
  refine G_iadd C 406 dL_law_405 rfl (fun x405 ex405 => ?_)
  have Nx405 : x405 = nI (i + 1) := g_addN ex405 Ew rfl
  refine L_sld C 407 hX hbl hbA Nx405 (by omega) hLn dL_law_406 rfl ?_
  refine G_aload_n (i := 0) C 408 dL_law_407 rfl rfl rfl ?_
  refine G_iload_n (i := 3) C 409 dL_law_408 rfl rfl rfl ?_
  refine G_iconst (v := 2) C 410 dL_law_409 rfl rfl ?_
  refine G_iadd C 411 dL_law_410 rfl (fun x410 ex410 => ?_)
  have Nx410 : x410 = nI (i + 2) := g_addN ex410 Ew rfl
  refine L_sld C 412 hX hbl hbA Nx410 (by omega) hLn dL_law_411 rfl ?_
  refine G_aload_n (i := 0) C 413 dL_law_412 rfl rfl rfl ?_
  refine G_iload_n (i := 3) C 414 dL_law_413 rfl rfl rfl ?_
  refine G_iconst (v := 3) C 415 dL_law_414 rfl rfl ?_
  refine G_iadd C 416 dL_law_415 rfl (fun x415 ex415 => ?_)
  have Nx415 : x415 = nI (i + 3) := g_addN ex415 Ew rfl
  refine L_sld C 417 hX hbl hbA Nx415 (by omega) hLn dL_law_416 rfl ?_
  refine L_Mi (n := 3) C 420 ⟨w_1038, by decide +kernel, by decide +kernel, by decide +kernel, by decide⟩ ⟨w_1035, w_1036, w_1037, w_18⟩ (by omega) rfl (c_X11_asks 0 TX P B τ hM (xs (i + 1)) (xs (i + 2)) (xs (i + 3))) rfl rfl rfl (Nat.le_of_ble_eq_true rfl) rfl dL_law_417 rfl z1 hzM (fun r2 s2 h2 z2 => ?_)
  obtain ⟨hR2, hr2⟩ := h2
  refine G_icmp_eq C 1414 423 dL_law_420 rfl rfl (fun _ => hk _ _ _ _ _ hR1 hR2 z1 z2) (fun c => absurd (hr1.trans hr2.symm) c)
set_option maxHeartbeats 4000000 in
set_option maxRecDepth 100000 in
theorem law_7 {E : gE} {d : Nat} {Q : State → Prop} (C : gCx SL E RL cL_law 4 ret d) (hd : 60 ≤ d) {b Ln i : Nat} {xs : Nat → Int32} (hX : va_X b Ln xs (e_s E) (e_s E).heap) (hbl : b < (e_s E).heap.size) (hbA : ¬ gA SL (e_ad E) b) (hLn : Ln ≤ 3584) {w : Int32} (Ew : w = nI i) (hi : i + 7 ≤ Ln) {TX : gTX} {P B σ τ : gS} (hC : RC TX P B σ) (hM : RM TX P B τ) (hzC : gz SC σ) (hzM : gz SM τ) (hk : ∀ (TX : gTX) (P B σ τ : gS), RC TX P B σ → RM TX P B τ → gz SC σ → gz SM τ → GW SL E Q 1414 [some (.ref b), some (.ref (e_ad E 0)), some (.ref (e_ad E 72)), some (.int w)] [] (gcat σ τ)) : GW SL E Q 425 [some (.ref b), some (.ref (e_ad E 0)), some (.ref (e_ad E 72)), some (.int w)] [] (gcat σ τ) := by
  refine G_aload_n (i := 1) C 426 dL_law_425 rfl rfl rfl ?_
  refine G_aload_n (i := 0) C 427 dL_law_426 rfl rfl rfl ?_
  refine G_iload_n (i := 3) C 428 dL_law_427 rfl rfl rfl ?_
  refine G_iconst (v := 1) C 429 dL_law_428 rfl rfl ?_
  refine G_iadd C 430 dL_law_429 rfl (fun x429 ex429 => ?_)
  have Nx429 : x429 = nI (i + 1) := g_addN ex429 Ew rfl
  refine L_sld C 431 hX hbl hbA Nx429 (by omega) hLn dL_law_430 rfl ?_
  refine G_aload_n (i := 0) C 432 dL_law_431 rfl rfl rfl ?_
  refine G_iload_n (i := 3) C 433 dL_law_432 rfl rfl rfl ?_
  refine G_iconst (v := 2) C 434 dL_law_433 rfl rfl ?_
  refine G_iadd C 435 dL_law_434 rfl (fun x434 ex434 => ?_)
  have Nx434 : x434 = nI (i + 2) := g_addN ex434 Ew rfl
  refine L_sld C 436 hX hbl hbA Nx434 (by omega) hLn dL_law_435 rfl ?_
  refine G_aload_n (i := 0) C 437 dL_law_436 rfl rfl rfl ?_
  refine G_iload_n (i := 3) C 438 dL_law_437 rfl rfl rfl ?_
  refine G_iconst (v := 3) C 439 dL_law_438 rfl rfl ?_
  refine G_iadd C 440 dL_law_439 rfl (fun x439 ex439 => ?_)
  have Nx439 : x439 = nI (i + 3) := g_addN ex439 Ew rfl
  refine L_sld C 441 hX hbl hbA Nx439 (by omega) hLn dL_law_440 rfl ?_
  refine L_Ci (n := 3) C 444 ⟨w_549, by decide +kernel, by decide +kernel, by decide +kernel, by decide⟩ ⟨w_546, w_547, w_548, w_1⟩ (by omega) rfl (c_X10_citizen 0 TX P B σ hC (xs (i + 1)) (xs (i + 2)) (xs (i + 3))) rfl rfl rfl (Nat.le_of_ble_eq_true rfl) rfl dL_law_441 rfl hzC hzM (fun r1 s1 h1 z1 => ?_)
  obtain ⟨hR1, hr1⟩ := h1
  refine G_aload_n (i := 2) C 445 dL_law_444 rfl rfl rfl ?_
  refine G_aload_n (i := 0) C 446 dL_law_445 rfl rfl rfl ?_
  refine G_iload_n (i := 3) C 447 dL_law_446 rfl rfl rfl ?_
  refine G_iconst (v := 1) C 448 dL_law_447 rfl rfl ?_
  refine G_iadd C 449 dL_law_448 rfl (fun x448 ex448 => ?_)
  have Nx448 : x448 = nI (i + 1) := g_addN ex448 Ew rfl
  refine L_sld C 450 hX hbl hbA Nx448 (by omega) hLn dL_law_449 rfl ?_
  refine G_aload_n (i := 0) C 451 dL_law_450 rfl rfl rfl ?_
  refine G_iload_n (i := 3) C 452 dL_law_451 rfl rfl rfl ?_
  refine G_iconst (v := 2) C 453 dL_law_452 rfl rfl ?_
  refine G_iadd C 454 dL_law_453 rfl (fun x453 ex453 => ?_)
  have Nx453 : x453 = nI (i + 2) := g_addN ex453 Ew rfl
  refine L_sld C 455 hX hbl hbA Nx453 (by omega) hLn dL_law_454 rfl ?_
  refine G_aload_n (i := 0) C 456 dL_law_455 rfl rfl rfl ?_
  refine G_iload_n (i := 3) C 457 dL_law_456 rfl rfl rfl ?_
  refine G_iconst (v := 3) C 458 dL_law_457 rfl rfl ?_
  refine G_iadd C 459 dL_law_458 rfl (fun x458 ex458 => ?_)
  have Nx458 : x458 = nI (i + 3) := g_addN ex458 Ew rfl
  refine L_sld C 460 hX hbl hbA Nx458 (by omega) hLn dL_law_459 rfl ?_
  refine L_Mi (n := 3) C 463 ⟨w_1046, by decide +kernel, by decide +kernel, by decide +kernel, by decide⟩ ⟨w_1043, w_1044, w_1045, w_18⟩ (by omega) rfl (c_X11_citizen 0 TX P B τ hM (xs (i + 1)) (xs (i + 2)) (xs (i + 3))) rfl rfl rfl (Nat.le_of_ble_eq_true rfl) rfl dL_law_460 rfl z1 hzM (fun r2 s2 h2 z2 => ?_)
  obtain ⟨hR2, hr2⟩ := h2
  refine G_icmp_eq C 1414 466 dL_law_463 rfl rfl (fun _ => hk _ _ _ _ _ hR1 hR2 z1 z2) (fun c => absurd (hr1.trans hr2.symm) c)
set_option maxHeartbeats 4000000 in
set_option maxRecDepth 100000 in
theorem law_8 {E : gE} {d : Nat} {Q : State → Prop} (C : gCx SL E RL cL_law 4 ret d) (hd : 60 ≤ d) {b Ln i : Nat} {xs : Nat → Int32} (hX : va_X b Ln xs (e_s E) (e_s E).heap) (hbl : b < (e_s E).heap.size) (hbA : ¬ gA SL (e_ad E) b) (hLn : Ln ≤ 3584) {w : Int32} (Ew : w = nI i) (hi : i + 7 ≤ Ln) {TX : gTX} {P B σ τ : gS} (hC : RC TX P B σ) (hM : RM TX P B τ) (hzC : gz SC σ) (hzM : gz SM τ) (hk : ∀ (TX : gTX) (P B σ τ : gS), RC TX P B σ → RM TX P B τ → gz SC σ → gz SM τ → GW SL E Q 1414 [some (.ref b), some (.ref (e_ad E 0)), some (.ref (e_ad E 72)), some (.int w)] [] (gcat σ τ)) : GW SL E Q 468 [some (.ref b), some (.ref (e_ad E 0)), some (.ref (e_ad E 72)), some (.int w)] [] (gcat σ τ) := by
  refine G_aload_n (i := 1) C 469 dL_law_468 rfl rfl rfl ?_
  refine G_aload_n (i := 0) C 470 dL_law_469 rfl rfl rfl ?_
  refine G_iload_n (i := 3) C 471 dL_law_470 rfl rfl rfl ?_
  refine G_iconst (v := 1) C 472 dL_law_471 rfl rfl ?_
  refine G_iadd C 473 dL_law_472 rfl (fun x472 ex472 => ?_)
  have Nx472 : x472 = nI (i + 1) := g_addN ex472 Ew rfl
  refine L_sld C 474 hX hbl hbA Nx472 (by omega) hLn dL_law_473 rfl ?_
  refine G_aload_n (i := 0) C 475 dL_law_474 rfl rfl rfl ?_
  refine G_iload_n (i := 3) C 476 dL_law_475 rfl rfl rfl ?_
  refine G_iconst (v := 2) C 477 dL_law_476 rfl rfl ?_
  refine G_iadd C 478 dL_law_477 rfl (fun x477 ex477 => ?_)
  have Nx477 : x477 = nI (i + 2) := g_addN ex477 Ew rfl
  refine L_sld C 479 hX hbl hbA Nx477 (by omega) hLn dL_law_478 rfl ?_
  refine G_aload_n (i := 0) C 480 dL_law_479 rfl rfl rfl ?_
  refine G_iload_n (i := 3) C 481 dL_law_480 rfl rfl rfl ?_
  refine G_iconst (v := 3) C 482 dL_law_481 rfl rfl ?_
  refine G_iadd C 483 dL_law_482 rfl (fun x482 ex482 => ?_)
  have Nx482 : x482 = nI (i + 3) := g_addN ex482 Ew rfl
  refine L_sld C 484 hX hbl hbA Nx482 (by omega) hLn dL_law_483 rfl ?_
  refine L_Ci (n := 3) C 487 ⟨w_557, by decide +kernel, by decide +kernel, by decide +kernel, by decide⟩ ⟨w_554, w_555, w_556, w_1⟩ (by omega) rfl (c_X10_put 0 TX P B σ hC (xs (i + 1)) (xs (i + 2)) (xs (i + 3))) rfl rfl rfl (Nat.le_of_ble_eq_true rfl) rfl dL_law_484 rfl hzC hzM (fun r1 s1 h1 z1 => ?_)
  obtain ⟨hR1, hr1⟩ := h1
  refine G_aload_n (i := 2) C 488 dL_law_487 rfl rfl rfl ?_
  refine G_aload_n (i := 0) C 489 dL_law_488 rfl rfl rfl ?_
  refine G_iload_n (i := 3) C 490 dL_law_489 rfl rfl rfl ?_
  refine G_iconst (v := 1) C 491 dL_law_490 rfl rfl ?_
  refine G_iadd C 492 dL_law_491 rfl (fun x491 ex491 => ?_)
  have Nx491 : x491 = nI (i + 1) := g_addN ex491 Ew rfl
  refine L_sld C 493 hX hbl hbA Nx491 (by omega) hLn dL_law_492 rfl ?_
  refine G_aload_n (i := 0) C 494 dL_law_493 rfl rfl rfl ?_
  refine G_iload_n (i := 3) C 495 dL_law_494 rfl rfl rfl ?_
  refine G_iconst (v := 2) C 496 dL_law_495 rfl rfl ?_
  refine G_iadd C 497 dL_law_496 rfl (fun x496 ex496 => ?_)
  have Nx496 : x496 = nI (i + 2) := g_addN ex496 Ew rfl
  refine L_sld C 498 hX hbl hbA Nx496 (by omega) hLn dL_law_497 rfl ?_
  refine G_aload_n (i := 0) C 499 dL_law_498 rfl rfl rfl ?_
  refine G_iload_n (i := 3) C 500 dL_law_499 rfl rfl rfl ?_
  refine G_iconst (v := 3) C 501 dL_law_500 rfl rfl ?_
  refine G_iadd C 502 dL_law_501 rfl (fun x501 ex501 => ?_)
  have Nx501 : x501 = nI (i + 3) := g_addN ex501 Ew rfl
  refine L_sld C 503 hX hbl hbA Nx501 (by omega) hLn dL_law_502 rfl ?_
  refine L_Mi (n := 3) C 506 ⟨w_1053, by decide +kernel, by decide +kernel, by decide +kernel, by decide⟩ ⟨w_1050, w_1051, w_1052, w_18⟩ (by omega) rfl (c_X11_put 0 TX P B τ hM (xs (i + 1)) (xs (i + 2)) (xs (i + 3))) rfl rfl rfl (Nat.le_of_ble_eq_true rfl) rfl dL_law_503 rfl z1 hzM (fun r2 s2 h2 z2 => ?_)
  obtain ⟨hR2, hr2⟩ := h2
  refine G_icmp_eq C 1414 509 dL_law_506 rfl rfl (fun _ => hk _ _ _ _ _ hR1 hR2 z1 z2) (fun c => absurd (hr1.trans hr2.symm) c)
set_option maxHeartbeats 4000000 in
set_option maxRecDepth 100000 in
theorem law_9 {E : gE} {d : Nat} {Q : State → Prop} (C : gCx SL E RL cL_law 4 ret d) (hd : 60 ≤ d) {b Ln i : Nat} {xs : Nat → Int32} (hX : va_X b Ln xs (e_s E) (e_s E).heap) (hbl : b < (e_s E).heap.size) (hbA : ¬ gA SL (e_ad E) b) (hLn : Ln ≤ 3584) {w : Int32} (Ew : w = nI i) (hi : i + 7 ≤ Ln) {TX : gTX} {P B σ τ : gS} (hC : RC TX P B σ) (hM : RM TX P B τ) (hzC : gz SC σ) (hzM : gz SM τ) (hk : ∀ (TX : gTX) (P B σ τ : gS), RC TX P B σ → RM TX P B τ → gz SC σ → gz SM τ → GW SL E Q 1414 [some (.ref b), some (.ref (e_ad E 0)), some (.ref (e_ad E 72)), some (.int w)] [] (gcat σ τ)) : GW SL E Q 511 [some (.ref b), some (.ref (e_ad E 0)), some (.ref (e_ad E 72)), some (.int w)] [] (gcat σ τ) := by
  refine G_aload_n (i := 1) C 512 dL_law_511 rfl rfl rfl ?_
  refine G_aload_n (i := 0) C 513 dL_law_512 rfl rfl rfl ?_
  refine G_iload_n (i := 3) C 514 dL_law_513 rfl rfl rfl ?_
  refine G_iconst (v := 1) C 515 dL_law_514 rfl rfl ?_
  refine G_iadd C 516 dL_law_515 rfl (fun x515 ex515 => ?_)
  have Nx515 : x515 = nI (i + 1) := g_addN ex515 Ew rfl
  refine L_sld C 517 hX hbl hbA Nx515 (by omega) hLn dL_law_516 rfl ?_
  refine G_aload_n (i := 0) C 518 dL_law_517 rfl rfl rfl ?_
  refine G_iload_n (i := 3) C 519 dL_law_518 rfl rfl rfl ?_
  refine G_iconst (v := 2) C 520 dL_law_519 rfl rfl ?_
  refine G_iadd C 521 dL_law_520 rfl (fun x520 ex520 => ?_)
  have Nx520 : x520 = nI (i + 2) := g_addN ex520 Ew rfl
  refine L_sld C 522 hX hbl hbA Nx520 (by omega) hLn dL_law_521 rfl ?_
  refine L_Ci (n := 2) C 525 ⟨w_567, by decide +kernel, by decide +kernel, by decide +kernel, by decide⟩ ⟨w_564, w_565, w_566, w_1⟩ (by omega) rfl (c_X10_told 0 TX P B σ hC (xs (i + 1)) (xs (i + 2))) rfl rfl rfl (Nat.le_of_ble_eq_true rfl) rfl dL_law_522 rfl hzC hzM (fun r1 s1 h1 z1 => ?_)
  obtain ⟨hR1, hr1⟩ := h1
  refine G_aload_n (i := 2) C 526 dL_law_525 rfl rfl rfl ?_
  refine G_aload_n (i := 0) C 527 dL_law_526 rfl rfl rfl ?_
  refine G_iload_n (i := 3) C 528 dL_law_527 rfl rfl rfl ?_
  refine G_iconst (v := 1) C 529 dL_law_528 rfl rfl ?_
  refine G_iadd C 530 dL_law_529 rfl (fun x529 ex529 => ?_)
  have Nx529 : x529 = nI (i + 1) := g_addN ex529 Ew rfl
  refine L_sld C 531 hX hbl hbA Nx529 (by omega) hLn dL_law_530 rfl ?_
  refine G_aload_n (i := 0) C 532 dL_law_531 rfl rfl rfl ?_
  refine G_iload_n (i := 3) C 533 dL_law_532 rfl rfl rfl ?_
  refine G_iconst (v := 2) C 534 dL_law_533 rfl rfl ?_
  refine G_iadd C 535 dL_law_534 rfl (fun x534 ex534 => ?_)
  have Nx534 : x534 = nI (i + 2) := g_addN ex534 Ew rfl
  refine L_sld C 536 hX hbl hbA Nx534 (by omega) hLn dL_law_535 rfl ?_
  refine L_Mi (n := 2) C 539 ⟨w_1057, by decide +kernel, by decide +kernel, by decide +kernel, by decide⟩ ⟨w_1054, w_1055, w_1056, w_18⟩ (by omega) rfl (c_X11_told 0 TX P B τ hM (xs (i + 1)) (xs (i + 2))) rfl rfl rfl (Nat.le_of_ble_eq_true rfl) rfl dL_law_536 rfl z1 hzM (fun r2 s2 h2 z2 => ?_)
  obtain ⟨hR2, hr2⟩ := h2
  refine G_icmp_eq C 1414 542 dL_law_539 rfl rfl (fun _ => hk _ _ _ _ _ hR1 hR2 z1 z2) (fun c => absurd (hr1.trans hr2.symm) c)
set_option maxHeartbeats 4000000 in
set_option maxRecDepth 100000 in
theorem law_10 {E : gE} {d : Nat} {Q : State → Prop} (C : gCx SL E RL cL_law 4 ret d) (hd : 60 ≤ d) {b Ln i : Nat} {xs : Nat → Int32} (hX : va_X b Ln xs (e_s E) (e_s E).heap) (hbl : b < (e_s E).heap.size) (hbA : ¬ gA SL (e_ad E) b) (hLn : Ln ≤ 3584) {w : Int32} (Ew : w = nI i) (hi : i + 7 ≤ Ln) {TX : gTX} {P B σ τ : gS} (hC : RC TX P B σ) (hM : RM TX P B τ) (hzC : gz SC σ) (hzM : gz SM τ) (hk : ∀ (TX : gTX) (P B σ τ : gS), RC TX P B σ → RM TX P B τ → gz SC σ → gz SM τ → GW SL E Q 1414 [some (.ref b), some (.ref (e_ad E 0)), some (.ref (e_ad E 72)), some (.int w)] [] (gcat σ τ)) : GW SL E Q 544 [some (.ref b), some (.ref (e_ad E 0)), some (.ref (e_ad E 72)), some (.int w)] [] (gcat σ τ) := by
  refine G_aload_n (i := 1) C 545 dL_law_544 rfl rfl rfl ?_
  refine G_aload_n (i := 0) C 546 dL_law_545 rfl rfl rfl ?_
  refine G_iload_n (i := 3) C 547 dL_law_546 rfl rfl rfl ?_
  refine G_iconst (v := 1) C 548 dL_law_547 rfl rfl ?_
  refine G_iadd C 549 dL_law_548 rfl (fun x548 ex548 => ?_)
  have Nx548 : x548 = nI (i + 1) := g_addN ex548 Ew rfl
  refine L_sld C 550 hX hbl hbA Nx548 (by omega) hLn dL_law_549 rfl ?_
  refine G_aload_n (i := 0) C 551 dL_law_550 rfl rfl rfl ?_
  refine G_iload_n (i := 3) C 552 dL_law_551 rfl rfl rfl ?_
  refine G_iconst (v := 2) C 553 dL_law_552 rfl rfl ?_
  refine G_iadd C 554 dL_law_553 rfl (fun x553 ex553 => ?_)
  have Nx553 : x553 = nI (i + 2) := g_addN ex553 Ew rfl
  refine L_sld C 555 hX hbl hbA Nx553 (by omega) hLn dL_law_554 rfl ?_
  refine L_Ci (n := 2) C 558 ⟨w_597, by decide +kernel, by decide +kernel, by decide +kernel, by decide⟩ ⟨w_594, w_595, w_596, w_1⟩ (by omega) rfl (c_X10_ring 0 TX P B σ hC (xs (i + 1)) (xs (i + 2))) rfl rfl rfl (Nat.le_of_ble_eq_true rfl) rfl dL_law_555 rfl hzC hzM (fun r1 s1 h1 z1 => ?_)
  obtain ⟨hR1, hr1⟩ := h1
  refine G_aload_n (i := 2) C 559 dL_law_558 rfl rfl rfl ?_
  refine G_aload_n (i := 0) C 560 dL_law_559 rfl rfl rfl ?_
  refine G_iload_n (i := 3) C 561 dL_law_560 rfl rfl rfl ?_
  refine G_iconst (v := 1) C 562 dL_law_561 rfl rfl ?_
  refine G_iadd C 563 dL_law_562 rfl (fun x562 ex562 => ?_)
  have Nx562 : x562 = nI (i + 1) := g_addN ex562 Ew rfl
  refine L_sld C 564 hX hbl hbA Nx562 (by omega) hLn dL_law_563 rfl ?_
  refine G_aload_n (i := 0) C 565 dL_law_564 rfl rfl rfl ?_
  refine G_iload_n (i := 3) C 566 dL_law_565 rfl rfl rfl ?_
  refine G_iconst (v := 2) C 567 dL_law_566 rfl rfl ?_
  refine G_iadd C 568 dL_law_567 rfl (fun x567 ex567 => ?_)
  have Nx567 : x567 = nI (i + 2) := g_addN ex567 Ew rfl
  refine L_sld C 569 hX hbl hbA Nx567 (by omega) hLn dL_law_568 rfl ?_
  refine L_Mi (n := 2) C 572 ⟨w_1069, by decide +kernel, by decide +kernel, by decide +kernel, by decide⟩ ⟨w_1066, w_1067, w_1068, w_18⟩ (by omega) rfl (c_X11_ring 0 TX P B τ hM (xs (i + 1)) (xs (i + 2))) rfl rfl rfl (Nat.le_of_ble_eq_true rfl) rfl dL_law_569 rfl z1 hzM (fun r2 s2 h2 z2 => ?_)
  obtain ⟨hR2, hr2⟩ := h2
  refine G_icmp_eq C 1414 575 dL_law_572 rfl rfl (fun _ => hk _ _ _ _ _ hR1 hR2 z1 z2) (fun c => absurd (hr1.trans hr2.symm) c)
set_option maxHeartbeats 4000000 in
set_option maxRecDepth 100000 in
theorem law_11 {E : gE} {d : Nat} {Q : State → Prop} (C : gCx SL E RL cL_law 4 ret d) (hd : 60 ≤ d) {b Ln i : Nat} {xs : Nat → Int32} (hX : va_X b Ln xs (e_s E) (e_s E).heap) (hbl : b < (e_s E).heap.size) (hbA : ¬ gA SL (e_ad E) b) (hLn : Ln ≤ 3584) {w : Int32} (Ew : w = nI i) (hi : i + 7 ≤ Ln) {TX : gTX} {P B σ τ : gS} (hC : RC TX P B σ) (hM : RM TX P B τ) (hzC : gz SC σ) (hzM : gz SM τ) (hk : ∀ (TX : gTX) (P B σ τ : gS), RC TX P B σ → RM TX P B τ → gz SC σ → gz SM τ → GW SL E Q 1414 [some (.ref b), some (.ref (e_ad E 0)), some (.ref (e_ad E 72)), some (.int w)] [] (gcat σ τ)) : GW SL E Q 577 [some (.ref b), some (.ref (e_ad E 0)), some (.ref (e_ad E 72)), some (.int w)] [] (gcat σ τ) := by
  refine G_aload_n (i := 1) C 578 dL_law_577 rfl rfl rfl ?_
  refine L_Ci (n := 0) C 581 ⟨w_609, by decide +kernel, by decide +kernel, by decide +kernel, by decide⟩ ⟨w_606, w_607, w_608, w_1⟩ (by omega) rfl (c_X10_hour 0 TX P B σ hC ) rfl rfl rfl (Nat.le_of_ble_eq_true rfl) rfl dL_law_578 rfl hzC hzM (fun r1 s1 h1 z1 => ?_)
  obtain ⟨hR1, hr1⟩ := h1
  refine G_aload_n (i := 2) C 582 dL_law_581 rfl rfl rfl ?_
  refine L_Mi (n := 0) C 585 ⟨w_1085, by decide +kernel, by decide +kernel, by decide +kernel, by decide⟩ ⟨w_1082, w_1083, w_1084, w_18⟩ (by omega) rfl (c_X11_hour 0 TX P B τ hM ) rfl rfl rfl (Nat.le_of_ble_eq_true rfl) rfl dL_law_582 rfl z1 hzM (fun r2 s2 h2 z2 => ?_)
  obtain ⟨hR2, hr2⟩ := h2
  refine G_icmp_eq C 1414 588 dL_law_585 rfl rfl (fun _ => hk _ _ _ _ _ hR1 hR2 z1 z2) (fun c => absurd (hr1.trans hr2.symm) c)
set_option maxHeartbeats 4000000 in
set_option maxRecDepth 100000 in
theorem law_12 {E : gE} {d : Nat} {Q : State → Prop} (C : gCx SL E RL cL_law 4 ret d) (hd : 60 ≤ d) {b Ln i : Nat} {xs : Nat → Int32} (hX : va_X b Ln xs (e_s E) (e_s E).heap) (hbl : b < (e_s E).heap.size) (hbA : ¬ gA SL (e_ad E) b) (hLn : Ln ≤ 3584) {w : Int32} (Ew : w = nI i) (hi : i + 7 ≤ Ln) {TX : gTX} {P B σ τ : gS} (hC : RC TX P B σ) (hM : RM TX P B τ) (hzC : gz SC σ) (hzM : gz SM τ) (hk : ∀ (TX : gTX) (P B σ τ : gS), RC TX P B σ → RM TX P B τ → gz SC σ → gz SM τ → GW SL E Q 1414 [some (.ref b), some (.ref (e_ad E 0)), some (.ref (e_ad E 72)), some (.int w)] [] (gcat σ τ)) : GW SL E Q 590 [some (.ref b), some (.ref (e_ad E 0)), some (.ref (e_ad E 72)), some (.int w)] [] (gcat σ τ) := by
  refine G_aload_n (i := 1) C 591 dL_law_590 rfl rfl rfl ?_
  refine G_aload_n (i := 0) C 592 dL_law_591 rfl rfl rfl ?_
  refine G_iload_n (i := 3) C 593 dL_law_592 rfl rfl rfl ?_
  refine G_iconst (v := 1) C 594 dL_law_593 rfl rfl ?_
  refine G_iadd C 595 dL_law_594 rfl (fun x594 ex594 => ?_)
  have Nx594 : x594 = nI (i + 1) := g_addN ex594 Ew rfl
  refine L_sld C 596 hX hbl hbA Nx594 (by omega) hLn dL_law_595 rfl ?_
  refine G_aload_n (i := 0) C 597 dL_law_596 rfl rfl rfl ?_
  refine G_iload_n (i := 3) C 598 dL_law_597 rfl rfl rfl ?_
  refine G_iconst (v := 2) C 599 dL_law_598 rfl rfl ?_
  refine G_iadd C 600 dL_law_599 rfl (fun x599 ex599 => ?_)
  have Nx599 : x599 = nI (i + 2) := g_addN ex599 Ew rfl
  refine L_sld C 601 hX hbl hbA Nx599 (by omega) hLn dL_law_600 rfl ?_
  refine L_Ci (n := 2) C 604 ⟨w_631, by decide +kernel, by decide +kernel, by decide +kernel, by decide⟩ ⟨w_628, w_629, w_630, w_1⟩ (by omega) rfl (c_X10_run 0 TX P B σ hC (xs (i + 1)) (xs (i + 2))) rfl rfl rfl (Nat.le_of_ble_eq_true rfl) rfl dL_law_601 rfl hzC hzM (fun r1 s1 h1 z1 => ?_)
  obtain ⟨hR1, hr1⟩ := h1
  refine G_aload_n (i := 2) C 605 dL_law_604 rfl rfl rfl ?_
  refine G_aload_n (i := 0) C 606 dL_law_605 rfl rfl rfl ?_
  refine G_iload_n (i := 3) C 607 dL_law_606 rfl rfl rfl ?_
  refine G_iconst (v := 1) C 608 dL_law_607 rfl rfl ?_
  refine G_iadd C 609 dL_law_608 rfl (fun x608 ex608 => ?_)
  have Nx608 : x608 = nI (i + 1) := g_addN ex608 Ew rfl
  refine L_sld C 610 hX hbl hbA Nx608 (by omega) hLn dL_law_609 rfl ?_
  refine G_aload_n (i := 0) C 611 dL_law_610 rfl rfl rfl ?_
  refine G_iload_n (i := 3) C 612 dL_law_611 rfl rfl rfl ?_
  refine G_iconst (v := 2) C 613 dL_law_612 rfl rfl ?_
  refine G_iadd C 614 dL_law_613 rfl (fun x613 ex613 => ?_)
  have Nx613 : x613 = nI (i + 2) := g_addN ex613 Ew rfl
  refine L_sld C 615 hX hbl hbA Nx613 (by omega) hLn dL_law_614 rfl ?_
  refine L_Mi (n := 2) C 618 ⟨w_1097, by decide +kernel, by decide +kernel, by decide +kernel, by decide⟩ ⟨w_1094, w_1095, w_1096, w_18⟩ (by omega) rfl (c_X11_run 0 TX P B τ hM (xs (i + 1)) (xs (i + 2))) rfl rfl rfl (Nat.le_of_ble_eq_true rfl) rfl dL_law_615 rfl z1 hzM (fun r2 s2 h2 z2 => ?_)
  obtain ⟨hR2, hr2⟩ := h2
  refine G_icmp_eq C 1414 621 dL_law_618 rfl rfl (fun _ => hk _ _ _ _ _ hR1 hR2 z1 z2) (fun c => absurd (hr1.trans hr2.symm) c)
set_option maxHeartbeats 4000000 in
set_option maxRecDepth 100000 in
theorem law_13 {E : gE} {d : Nat} {Q : State → Prop} (C : gCx SL E RL cL_law 4 ret d) (hd : 60 ≤ d) {b Ln i : Nat} {xs : Nat → Int32} (hX : va_X b Ln xs (e_s E) (e_s E).heap) (hbl : b < (e_s E).heap.size) (hbA : ¬ gA SL (e_ad E) b) (hLn : Ln ≤ 3584) {w : Int32} (Ew : w = nI i) (hi : i + 7 ≤ Ln) {TX : gTX} {P B σ τ : gS} (hC : RC TX P B σ) (hM : RM TX P B τ) (hzC : gz SC σ) (hzM : gz SM τ) (hk : ∀ (TX : gTX) (P B σ τ : gS), RC TX P B σ → RM TX P B τ → gz SC σ → gz SM τ → GW SL E Q 1414 [some (.ref b), some (.ref (e_ad E 0)), some (.ref (e_ad E 72)), some (.int w)] [] (gcat σ τ)) : GW SL E Q 623 [some (.ref b), some (.ref (e_ad E 0)), some (.ref (e_ad E 72)), some (.int w)] [] (gcat σ τ) := by
  refine G_aload_n (i := 1) C 624 dL_law_623 rfl rfl rfl ?_
  refine G_aload_n (i := 0) C 625 dL_law_624 rfl rfl rfl ?_
  refine G_iload_n (i := 3) C 626 dL_law_625 rfl rfl rfl ?_
  refine G_iconst (v := 1) C 627 dL_law_626 rfl rfl ?_
  refine G_iadd C 628 dL_law_627 rfl (fun x627 ex627 => ?_)
  have Nx627 : x627 = nI (i + 1) := g_addN ex627 Ew rfl
  refine L_sld C 629 hX hbl hbA Nx627 (by omega) hLn dL_law_628 rfl ?_
  refine L_Ci (n := 1) C 632 ⟨w_651, by decide +kernel, by decide +kernel, by decide +kernel, by decide⟩ ⟨w_648, w_649, w_650, w_1⟩ (by omega) rfl (c_X10_when 0 TX P B σ hC (xs (i + 1))) rfl rfl rfl (Nat.le_of_ble_eq_true rfl) rfl dL_law_629 rfl hzC hzM (fun r1 s1 h1 z1 => ?_)
  obtain ⟨hR1, hr1⟩ := h1
  refine G_aload_n (i := 2) C 633 dL_law_632 rfl rfl rfl ?_
  refine G_aload_n (i := 0) C 634 dL_law_633 rfl rfl rfl ?_
  refine G_iload_n (i := 3) C 635 dL_law_634 rfl rfl rfl ?_
  refine G_iconst (v := 1) C 636 dL_law_635 rfl rfl ?_
  refine G_iadd C 637 dL_law_636 rfl (fun x636 ex636 => ?_)
  have Nx636 : x636 = nI (i + 1) := g_addN ex636 Ew rfl
  refine L_sld C 638 hX hbl hbA Nx636 (by omega) hLn dL_law_637 rfl ?_
  refine L_Mi (n := 1) C 641 ⟨w_1117, by decide +kernel, by decide +kernel, by decide +kernel, by decide⟩ ⟨w_1114, w_1115, w_1116, w_18⟩ (by omega) rfl (c_X11_when 0 TX P B τ hM (xs (i + 1))) rfl rfl rfl (Nat.le_of_ble_eq_true rfl) rfl dL_law_638 rfl z1 hzM (fun r2 s2 h2 z2 => ?_)
  obtain ⟨hR2, hr2⟩ := h2
  refine G_icmp_eq C 1414 644 dL_law_641 rfl rfl (fun _ => hk _ _ _ _ _ hR1 hR2 z1 z2) (fun c => absurd (hr1.trans hr2.symm) c)
set_option maxHeartbeats 4000000 in
set_option maxRecDepth 100000 in
theorem law_14 {E : gE} {d : Nat} {Q : State → Prop} (C : gCx SL E RL cL_law 4 ret d) (hd : 60 ≤ d) {b Ln i : Nat} {xs : Nat → Int32} (hX : va_X b Ln xs (e_s E) (e_s E).heap) (hbl : b < (e_s E).heap.size) (hbA : ¬ gA SL (e_ad E) b) (hLn : Ln ≤ 3584) {w : Int32} (Ew : w = nI i) (hi : i + 7 ≤ Ln) {TX : gTX} {P B σ τ : gS} (hC : RC TX P B σ) (hM : RM TX P B τ) (hzC : gz SC σ) (hzM : gz SM τ) (hk : ∀ (TX : gTX) (P B σ τ : gS), RC TX P B σ → RM TX P B τ → gz SC σ → gz SM τ → GW SL E Q 1414 [some (.ref b), some (.ref (e_ad E 0)), some (.ref (e_ad E 72)), some (.int w)] [] (gcat σ τ)) : GW SL E Q 646 [some (.ref b), some (.ref (e_ad E 0)), some (.ref (e_ad E 72)), some (.int w)] [] (gcat σ τ) := by
  refine G_aload_n (i := 1) C 647 dL_law_646 rfl rfl rfl ?_
  refine G_aload_n (i := 0) C 648 dL_law_647 rfl rfl rfl ?_
  refine G_iload_n (i := 3) C 649 dL_law_648 rfl rfl rfl ?_
  refine G_iconst (v := 1) C 650 dL_law_649 rfl rfl ?_
  refine G_iadd C 651 dL_law_650 rfl (fun x650 ex650 => ?_)
  have Nx650 : x650 = nI (i + 1) := g_addN ex650 Ew rfl
  refine L_sld C 652 hX hbl hbA Nx650 (by omega) hLn dL_law_651 rfl ?_
  refine L_Ci (n := 1) C 655 ⟨w_659, by decide +kernel, by decide +kernel, by decide +kernel, by decide⟩ ⟨w_656, w_657, w_658, w_1⟩ (by omega) rfl (c_X10_where 0 TX P B σ hC (xs (i + 1))) rfl rfl rfl (Nat.le_of_ble_eq_true rfl) rfl dL_law_652 rfl hzC hzM (fun r1 s1 h1 z1 => ?_)
  obtain ⟨hR1, hr1⟩ := h1
  refine G_aload_n (i := 2) C 656 dL_law_655 rfl rfl rfl ?_
  refine G_aload_n (i := 0) C 657 dL_law_656 rfl rfl rfl ?_
  refine G_iload_n (i := 3) C 658 dL_law_657 rfl rfl rfl ?_
  refine G_iconst (v := 1) C 659 dL_law_658 rfl rfl ?_
  refine G_iadd C 660 dL_law_659 rfl (fun x659 ex659 => ?_)
  have Nx659 : x659 = nI (i + 1) := g_addN ex659 Ew rfl
  refine L_sld C 661 hX hbl hbA Nx659 (by omega) hLn dL_law_660 rfl ?_
  refine L_Mi (n := 1) C 664 ⟨w_1125, by decide +kernel, by decide +kernel, by decide +kernel, by decide⟩ ⟨w_1122, w_1123, w_1124, w_18⟩ (by omega) rfl (c_X11_where 0 TX P B τ hM (xs (i + 1))) rfl rfl rfl (Nat.le_of_ble_eq_true rfl) rfl dL_law_661 rfl z1 hzM (fun r2 s2 h2 z2 => ?_)
  obtain ⟨hR2, hr2⟩ := h2
  refine G_icmp_eq C 1414 667 dL_law_664 rfl rfl (fun _ => hk _ _ _ _ _ hR1 hR2 z1 z2) (fun c => absurd (hr1.trans hr2.symm) c)
set_option maxHeartbeats 4000000 in
set_option maxRecDepth 100000 in
theorem law_15 {E : gE} {d : Nat} {Q : State → Prop} (C : gCx SL E RL cL_law 4 ret d) (hd : 60 ≤ d) {b Ln i : Nat} {xs : Nat → Int32} (hX : va_X b Ln xs (e_s E) (e_s E).heap) (hbl : b < (e_s E).heap.size) (hbA : ¬ gA SL (e_ad E) b) (hLn : Ln ≤ 3584) {w : Int32} (Ew : w = nI i) (hi : i + 7 ≤ Ln) {TX : gTX} {P B σ τ : gS} (hC : RC TX P B σ) (hM : RM TX P B τ) (hzC : gz SC σ) (hzM : gz SM τ) (hk : ∀ (TX : gTX) (P B σ τ : gS), RC TX P B σ → RM TX P B τ → gz SC σ → gz SM τ → GW SL E Q 1414 [some (.ref b), some (.ref (e_ad E 0)), some (.ref (e_ad E 72)), some (.int w)] [] (gcat σ τ)) : GW SL E Q 669 [some (.ref b), some (.ref (e_ad E 0)), some (.ref (e_ad E 72)), some (.int w)] [] (gcat σ τ) := by
  refine G_aload_n (i := 1) C 670 dL_law_669 rfl rfl rfl ?_
  refine G_aload_n (i := 0) C 671 dL_law_670 rfl rfl rfl ?_
  refine G_iload_n (i := 3) C 672 dL_law_671 rfl rfl rfl ?_
  refine G_iconst (v := 1) C 673 dL_law_672 rfl rfl ?_
  refine G_iadd C 674 dL_law_673 rfl (fun x673 ex673 => ?_)
  have Nx673 : x673 = nI (i + 1) := g_addN ex673 Ew rfl
  refine L_sld C 675 hX hbl hbA Nx673 (by omega) hLn dL_law_674 rfl ?_
  refine G_aload_n (i := 0) C 676 dL_law_675 rfl rfl rfl ?_
  refine G_iload_n (i := 3) C 677 dL_law_676 rfl rfl rfl ?_
  refine G_iconst (v := 2) C 678 dL_law_677 rfl rfl ?_
  refine G_iadd C 679 dL_law_678 rfl (fun x678 ex678 => ?_)
  have Nx678 : x678 = nI (i + 2) := g_addN ex678 Ew rfl
  refine L_sld C 680 hX hbl hbA Nx678 (by omega) hLn dL_law_679 rfl ?_
  refine L_Ci (n := 2) C 683 ⟨w_663, by decide +kernel, by decide +kernel, by decide +kernel, by decide⟩ ⟨w_660, w_661, w_662, w_1⟩ (by omega) rfl (c_X10_begin 0 TX P B σ hC (xs (i + 1)) (xs (i + 2))) rfl rfl rfl (Nat.le_of_ble_eq_true rfl) rfl dL_law_680 rfl hzC hzM (fun r1 s1 h1 z1 => ?_)
  obtain ⟨hR1, hr1⟩ := h1
  refine G_aload_n (i := 2) C 684 dL_law_683 rfl rfl rfl ?_
  refine G_aload_n (i := 0) C 685 dL_law_684 rfl rfl rfl ?_
  refine G_iload_n (i := 3) C 686 dL_law_685 rfl rfl rfl ?_
  refine G_iconst (v := 1) C 687 dL_law_686 rfl rfl ?_
  refine G_iadd C 688 dL_law_687 rfl (fun x687 ex687 => ?_)
  have Nx687 : x687 = nI (i + 1) := g_addN ex687 Ew rfl
  refine L_sld C 689 hX hbl hbA Nx687 (by omega) hLn dL_law_688 rfl ?_
  refine G_aload_n (i := 0) C 690 dL_law_689 rfl rfl rfl ?_
  refine G_iload_n (i := 3) C 691 dL_law_690 rfl rfl rfl ?_
  refine G_iconst (v := 2) C 692 dL_law_691 rfl rfl ?_
  refine G_iadd C 693 dL_law_692 rfl (fun x692 ex692 => ?_)
  have Nx692 : x692 = nI (i + 2) := g_addN ex692 Ew rfl
  refine L_sld C 694 hX hbl hbA Nx692 (by omega) hLn dL_law_693 rfl ?_
  refine L_Mi (n := 2) C 697 ⟨w_1129, by decide +kernel, by decide +kernel, by decide +kernel, by decide⟩ ⟨w_1126, w_1127, w_1128, w_18⟩ (by omega) rfl (c_X11_begin 0 TX P B τ hM (xs (i + 1)) (xs (i + 2))) rfl rfl rfl (Nat.le_of_ble_eq_true rfl) rfl dL_law_694 rfl z1 hzM (fun r2 s2 h2 z2 => ?_)
  obtain ⟨hR2, hr2⟩ := h2
  refine G_icmp_eq C 1414 700 dL_law_697 rfl rfl (fun _ => hk _ _ _ _ _ hR1 hR2 z1 z2) (fun c => absurd (hr1.trans hr2.symm) c)
set_option maxHeartbeats 4000000 in
set_option maxRecDepth 100000 in
theorem law_16 {E : gE} {d : Nat} {Q : State → Prop} (C : gCx SL E RL cL_law 4 ret d) (hd : 60 ≤ d) {b Ln i : Nat} {xs : Nat → Int32} (hX : va_X b Ln xs (e_s E) (e_s E).heap) (hbl : b < (e_s E).heap.size) (hbA : ¬ gA SL (e_ad E) b) (hLn : Ln ≤ 3584) {w : Int32} (Ew : w = nI i) (hi : i + 7 ≤ Ln) {TX : gTX} {P B σ τ : gS} (hC : RC TX P B σ) (hM : RM TX P B τ) (hzC : gz SC σ) (hzM : gz SM τ) (hk : ∀ (TX : gTX) (P B σ τ : gS), RC TX P B σ → RM TX P B τ → gz SC σ → gz SM τ → GW SL E Q 1414 [some (.ref b), some (.ref (e_ad E 0)), some (.ref (e_ad E 72)), some (.int w)] [] (gcat σ τ)) : GW SL E Q 702 [some (.ref b), some (.ref (e_ad E 0)), some (.ref (e_ad E 72)), some (.int w)] [] (gcat σ τ) := by
  refine G_aload_n (i := 1) C 703 dL_law_702 rfl rfl rfl ?_
  refine G_aload_n (i := 0) C 704 dL_law_703 rfl rfl rfl ?_
  refine G_iload_n (i := 3) C 705 dL_law_704 rfl rfl rfl ?_
  refine G_iconst (v := 1) C 706 dL_law_705 rfl rfl ?_
  refine G_iadd C 707 dL_law_706 rfl (fun x706 ex706 => ?_)
  have Nx706 : x706 = nI (i + 1) := g_addN ex706 Ew rfl
  refine L_sld C 708 hX hbl hbA Nx706 (by omega) hLn dL_law_707 rfl ?_
  refine G_aload_n (i := 0) C 709 dL_law_708 rfl rfl rfl ?_
  refine G_iload_n (i := 3) C 710 dL_law_709 rfl rfl rfl ?_
  refine G_iconst (v := 2) C 711 dL_law_710 rfl rfl ?_
  refine G_iadd C 712 dL_law_711 rfl (fun x711 ex711 => ?_)
  have Nx711 : x711 = nI (i + 2) := g_addN ex711 Ew rfl
  refine L_sld C 713 hX hbl hbA Nx711 (by omega) hLn dL_law_712 rfl ?_
  refine L_Ci (n := 2) C 716 ⟨w_667, by decide +kernel, by decide +kernel, by decide +kernel, by decide⟩ ⟨w_664, w_665, w_666, w_1⟩ (by omega) rfl (c_X10_windows 0 TX P B σ hC (xs (i + 1)) (xs (i + 2))) rfl rfl rfl (Nat.le_of_ble_eq_true rfl) rfl dL_law_713 rfl hzC hzM (fun r1 s1 h1 z1 => ?_)
  obtain ⟨hR1, hr1⟩ := h1
  refine G_aload_n (i := 2) C 717 dL_law_716 rfl rfl rfl ?_
  refine G_aload_n (i := 0) C 718 dL_law_717 rfl rfl rfl ?_
  refine G_iload_n (i := 3) C 719 dL_law_718 rfl rfl rfl ?_
  refine G_iconst (v := 1) C 720 dL_law_719 rfl rfl ?_
  refine G_iadd C 721 dL_law_720 rfl (fun x720 ex720 => ?_)
  have Nx720 : x720 = nI (i + 1) := g_addN ex720 Ew rfl
  refine L_sld C 722 hX hbl hbA Nx720 (by omega) hLn dL_law_721 rfl ?_
  refine G_aload_n (i := 0) C 723 dL_law_722 rfl rfl rfl ?_
  refine G_iload_n (i := 3) C 724 dL_law_723 rfl rfl rfl ?_
  refine G_iconst (v := 2) C 725 dL_law_724 rfl rfl ?_
  refine G_iadd C 726 dL_law_725 rfl (fun x725 ex725 => ?_)
  have Nx725 : x725 = nI (i + 2) := g_addN ex725 Ew rfl
  refine L_sld C 727 hX hbl hbA Nx725 (by omega) hLn dL_law_726 rfl ?_
  refine L_Mi (n := 2) C 730 ⟨w_1137, by decide +kernel, by decide +kernel, by decide +kernel, by decide⟩ ⟨w_1134, w_1135, w_1136, w_18⟩ (by omega) rfl (c_X11_windows 0 TX P B τ hM (xs (i + 1)) (xs (i + 2))) rfl rfl rfl (Nat.le_of_ble_eq_true rfl) rfl dL_law_727 rfl z1 hzM (fun r2 s2 h2 z2 => ?_)
  obtain ⟨hR2, hr2⟩ := h2
  refine G_icmp_eq C 1414 733 dL_law_730 rfl rfl (fun _ => hk _ _ _ _ _ hR1 hR2 z1 z2) (fun c => absurd (hr1.trans hr2.symm) c)
set_option maxHeartbeats 4000000 in
set_option maxRecDepth 100000 in
theorem law_17 {E : gE} {d : Nat} {Q : State → Prop} (C : gCx SL E RL cL_law 4 ret d) (hd : 60 ≤ d) {b Ln i : Nat} {xs : Nat → Int32} (hX : va_X b Ln xs (e_s E) (e_s E).heap) (hbl : b < (e_s E).heap.size) (hbA : ¬ gA SL (e_ad E) b) (hLn : Ln ≤ 3584) {w : Int32} (Ew : w = nI i) (hi : i + 7 ≤ Ln) {TX : gTX} {P B σ τ : gS} (hC : RC TX P B σ) (hM : RM TX P B τ) (hzC : gz SC σ) (hzM : gz SM τ) (hk : ∀ (TX : gTX) (P B σ τ : gS), RC TX P B σ → RM TX P B τ → gz SC σ → gz SM τ → GW SL E Q 1414 [some (.ref b), some (.ref (e_ad E 0)), some (.ref (e_ad E 72)), some (.int w)] [] (gcat σ τ)) : GW SL E Q 735 [some (.ref b), some (.ref (e_ad E 0)), some (.ref (e_ad E 72)), some (.int w)] [] (gcat σ τ) := by
  refine G_aload_n (i := 1) C 736 dL_law_735 rfl rfl rfl ?_
  refine G_aload_n (i := 0) C 737 dL_law_736 rfl rfl rfl ?_
  refine G_iload_n (i := 3) C 738 dL_law_737 rfl rfl rfl ?_
  refine G_iconst (v := 1) C 739 dL_law_738 rfl rfl ?_
  refine G_iadd C 740 dL_law_739 rfl (fun x739 ex739 => ?_)
  have Nx739 : x739 = nI (i + 1) := g_addN ex739 Ew rfl
  refine L_sld C 741 hX hbl hbA Nx739 (by omega) hLn dL_law_740 rfl ?_
  refine G_aload_n (i := 0) C 742 dL_law_741 rfl rfl rfl ?_
  refine G_iload_n (i := 3) C 743 dL_law_742 rfl rfl rfl ?_
  refine G_iconst (v := 2) C 744 dL_law_743 rfl rfl ?_
  refine G_iadd C 745 dL_law_744 rfl (fun x744 ex744 => ?_)
  have Nx744 : x744 = nI (i + 2) := g_addN ex744 Ew rfl
  refine L_sld C 746 hX hbl hbA Nx744 (by omega) hLn dL_law_745 rfl ?_
  refine G_aload_n (i := 0) C 747 dL_law_746 rfl rfl rfl ?_
  refine G_iload_n (i := 3) C 748 dL_law_747 rfl rfl rfl ?_
  refine G_iconst (v := 3) C 749 dL_law_748 rfl rfl ?_
  refine G_iadd C 750 dL_law_749 rfl (fun x749 ex749 => ?_)
  have Nx749 : x749 = nI (i + 3) := g_addN ex749 Ew rfl
  refine L_sld C 751 hX hbl hbA Nx749 (by omega) hLn dL_law_750 rfl ?_
  refine L_Ci (n := 3) C 754 ⟨w_671, by decide +kernel, by decide +kernel, by decide +kernel, by decide⟩ ⟨w_668, w_669, w_670, w_1⟩ (by omega) rfl (c_X10_hush 0 TX P B σ hC (xs (i + 1)) (xs (i + 2)) (xs (i + 3))) rfl rfl rfl (Nat.le_of_ble_eq_true rfl) rfl dL_law_751 rfl hzC hzM (fun r1 s1 h1 z1 => ?_)
  obtain ⟨hR1, hr1⟩ := h1
  refine G_aload_n (i := 2) C 755 dL_law_754 rfl rfl rfl ?_
  refine G_aload_n (i := 0) C 756 dL_law_755 rfl rfl rfl ?_
  refine G_iload_n (i := 3) C 757 dL_law_756 rfl rfl rfl ?_
  refine G_iconst (v := 1) C 758 dL_law_757 rfl rfl ?_
  refine G_iadd C 759 dL_law_758 rfl (fun x758 ex758 => ?_)
  have Nx758 : x758 = nI (i + 1) := g_addN ex758 Ew rfl
  refine L_sld C 760 hX hbl hbA Nx758 (by omega) hLn dL_law_759 rfl ?_
  refine G_aload_n (i := 0) C 761 dL_law_760 rfl rfl rfl ?_
  refine G_iload_n (i := 3) C 762 dL_law_761 rfl rfl rfl ?_
  refine G_iconst (v := 2) C 763 dL_law_762 rfl rfl ?_
  refine G_iadd C 764 dL_law_763 rfl (fun x763 ex763 => ?_)
  have Nx763 : x763 = nI (i + 2) := g_addN ex763 Ew rfl
  refine L_sld C 765 hX hbl hbA Nx763 (by omega) hLn dL_law_764 rfl ?_
  refine G_aload_n (i := 0) C 766 dL_law_765 rfl rfl rfl ?_
  refine G_iload_n (i := 3) C 767 dL_law_766 rfl rfl rfl ?_
  refine G_iconst (v := 3) C 768 dL_law_767 rfl rfl ?_
  refine G_iadd C 769 dL_law_768 rfl (fun x768 ex768 => ?_)
  have Nx768 : x768 = nI (i + 3) := g_addN ex768 Ew rfl
  refine L_sld C 770 hX hbl hbA Nx768 (by omega) hLn dL_law_769 rfl ?_
  refine L_Mi (n := 3) C 773 ⟨w_1141, by decide +kernel, by decide +kernel, by decide +kernel, by decide⟩ ⟨w_1138, w_1139, w_1140, w_18⟩ (by omega) rfl (c_X11_hush 0 TX P B τ hM (xs (i + 1)) (xs (i + 2)) (xs (i + 3))) rfl rfl rfl (Nat.le_of_ble_eq_true rfl) rfl dL_law_770 rfl z1 hzM (fun r2 s2 h2 z2 => ?_)
  obtain ⟨hR2, hr2⟩ := h2
  refine G_icmp_eq C 1414 776 dL_law_773 rfl rfl (fun _ => hk _ _ _ _ _ hR1 hR2 z1 z2) (fun c => absurd (hr1.trans hr2.symm) c)
set_option maxHeartbeats 4000000 in
set_option maxRecDepth 100000 in
theorem law_18 {E : gE} {d : Nat} {Q : State → Prop} (C : gCx SL E RL cL_law 4 ret d) (hd : 60 ≤ d) {b Ln i : Nat} {xs : Nat → Int32} (hX : va_X b Ln xs (e_s E) (e_s E).heap) (hbl : b < (e_s E).heap.size) (hbA : ¬ gA SL (e_ad E) b) (hLn : Ln ≤ 3584) {w : Int32} (Ew : w = nI i) (hi : i + 7 ≤ Ln) {TX : gTX} {P B σ τ : gS} (hC : RC TX P B σ) (hM : RM TX P B τ) (hzC : gz SC σ) (hzM : gz SM τ) (hk : ∀ (TX : gTX) (P B σ τ : gS), RC TX P B σ → RM TX P B τ → gz SC σ → gz SM τ → GW SL E Q 1414 [some (.ref b), some (.ref (e_ad E 0)), some (.ref (e_ad E 72)), some (.int w)] [] (gcat σ τ)) : GW SL E Q 778 [some (.ref b), some (.ref (e_ad E 0)), some (.ref (e_ad E 72)), some (.int w)] [] (gcat σ τ) := by
  refine G_aload_n (i := 1) C 779 dL_law_778 rfl rfl rfl ?_
  refine G_aload_n (i := 0) C 780 dL_law_779 rfl rfl rfl ?_
  refine G_iload_n (i := 3) C 781 dL_law_780 rfl rfl rfl ?_
  refine G_iconst (v := 1) C 782 dL_law_781 rfl rfl ?_
  refine G_iadd C 783 dL_law_782 rfl (fun x782 ex782 => ?_)
  have Nx782 : x782 = nI (i + 1) := g_addN ex782 Ew rfl
  refine L_sld C 784 hX hbl hbA Nx782 (by omega) hLn dL_law_783 rfl ?_
  refine L_Ci (n := 1) C 787 ⟨w_679, by decide +kernel, by decide +kernel, by decide +kernel, by decide⟩ ⟨w_676, w_677, w_678, w_1⟩ (by omega) rfl (c_X10_round 0 TX P B σ hC (xs (i + 1))) rfl rfl rfl (Nat.le_of_ble_eq_true rfl) rfl dL_law_784 rfl hzC hzM (fun r1 s1 h1 z1 => ?_)
  obtain ⟨hR1, hr1⟩ := h1
  refine G_aload_n (i := 2) C 788 dL_law_787 rfl rfl rfl ?_
  refine G_aload_n (i := 0) C 789 dL_law_788 rfl rfl rfl ?_
  refine G_iload_n (i := 3) C 790 dL_law_789 rfl rfl rfl ?_
  refine G_iconst (v := 1) C 791 dL_law_790 rfl rfl ?_
  refine G_iadd C 792 dL_law_791 rfl (fun x791 ex791 => ?_)
  have Nx791 : x791 = nI (i + 1) := g_addN ex791 Ew rfl
  refine L_sld C 793 hX hbl hbA Nx791 (by omega) hLn dL_law_792 rfl ?_
  refine L_Mi (n := 1) C 796 ⟨w_1152, by decide +kernel, by decide +kernel, by decide +kernel, by decide⟩ ⟨w_1149, w_1150, w_1151, w_18⟩ (by omega) rfl (c_X11_round 0 TX P B τ hM (xs (i + 1))) rfl rfl rfl (Nat.le_of_ble_eq_true rfl) rfl dL_law_793 rfl z1 hzM (fun r2 s2 h2 z2 => ?_)
  obtain ⟨hR2, hr2⟩ := h2
  refine G_icmp_eq C 1414 799 dL_law_796 rfl rfl (fun _ => hk _ _ _ _ _ hR1 hR2 z1 z2) (fun c => absurd (hr1.trans hr2.symm) c)
set_option maxHeartbeats 4000000 in
set_option maxRecDepth 100000 in
theorem law_19 {E : gE} {d : Nat} {Q : State → Prop} (C : gCx SL E RL cL_law 4 ret d) (hd : 60 ≤ d) {b Ln i : Nat} {xs : Nat → Int32} (hX : va_X b Ln xs (e_s E) (e_s E).heap) (hbl : b < (e_s E).heap.size) (hbA : ¬ gA SL (e_ad E) b) (hLn : Ln ≤ 3584) {w : Int32} (Ew : w = nI i) (hi : i + 7 ≤ Ln) {TX : gTX} {P B σ τ : gS} (hC : RC TX P B σ) (hM : RM TX P B τ) (hzC : gz SC σ) (hzM : gz SM τ) (hk : ∀ (TX : gTX) (P B σ τ : gS), RC TX P B σ → RM TX P B τ → gz SC σ → gz SM τ → GW SL E Q 1414 [some (.ref b), some (.ref (e_ad E 0)), some (.ref (e_ad E 72)), some (.int w)] [] (gcat σ τ)) : GW SL E Q 801 [some (.ref b), some (.ref (e_ad E 0)), some (.ref (e_ad E 72)), some (.int w)] [] (gcat σ τ) := by
  refine G_aload_n (i := 1) C 802 dL_law_801 rfl rfl rfl ?_
  refine G_aload_n (i := 0) C 803 dL_law_802 rfl rfl rfl ?_
  refine G_iload_n (i := 3) C 804 dL_law_803 rfl rfl rfl ?_
  refine G_iconst (v := 1) C 805 dL_law_804 rfl rfl ?_
  refine G_iadd C 806 dL_law_805 rfl (fun x805 ex805 => ?_)
  have Nx805 : x805 = nI (i + 1) := g_addN ex805 Ew rfl
  refine L_sld C 807 hX hbl hbA Nx805 (by omega) hLn dL_law_806 rfl ?_
  refine L_Cl (n := 1) C 810 ⟨w_687, by decide +kernel, by decide +kernel, by decide +kernel, by decide⟩ ⟨w_684, w_685, w_686, w_1⟩ (by omega) rfl (c_X10_mean 0 TX P B σ hC (xs (i + 1))) rfl rfl rfl (Nat.le_of_ble_eq_true rfl) rfl dL_law_807 rfl hzC hzM (fun r1 s1 h1 z1 => ?_)
  obtain ⟨hR1, hr1⟩ := h1
  refine G_aload_n (i := 2) C 811 dL_law_810 rfl rfl rfl ?_
  refine G_aload_n (i := 0) C 812 dL_law_811 rfl rfl rfl ?_
  refine G_iload_n (i := 3) C 813 dL_law_812 rfl rfl rfl ?_
  refine G_iconst (v := 1) C 814 dL_law_813 rfl rfl ?_
  refine G_iadd C 815 dL_law_814 rfl (fun x814 ex814 => ?_)
  have Nx814 : x814 = nI (i + 1) := g_addN ex814 Ew rfl
  refine L_sld C 816 hX hbl hbA Nx814 (by omega) hLn dL_law_815 rfl ?_
  refine L_Ml (n := 1) C 819 ⟨w_1160, by decide +kernel, by decide +kernel, by decide +kernel, by decide⟩ ⟨w_1157, w_1158, w_1159, w_18⟩ (by omega) rfl (c_X11_mean 0 TX P B τ hM (xs (i + 1))) rfl rfl rfl (Nat.le_of_ble_eq_true rfl) rfl dL_law_816 rfl z1 hzM (fun r2 s2 h2 z2 => ?_)
  obtain ⟨hR2, hr2⟩ := h2
  refine G_lcmp C 820 dL_law_819 rfl (fun x ex => ?_)
  refine G_if_eq C 1414 823 dL_law_820 rfl rfl (fun _ => hk _ _ _ _ _ hR1 hR2 z1 z2) (fun c => absurd (ex.trans (L_cmp (hr1.trans hr2.symm))) c)
set_option maxHeartbeats 4000000 in
set_option maxRecDepth 100000 in
theorem law_20 {E : gE} {d : Nat} {Q : State → Prop} (C : gCx SL E RL cL_law 4 ret d) (hd : 60 ≤ d) {b Ln i : Nat} {xs : Nat → Int32} (hX : va_X b Ln xs (e_s E) (e_s E).heap) (hbl : b < (e_s E).heap.size) (hbA : ¬ gA SL (e_ad E) b) (hLn : Ln ≤ 3584) {w : Int32} (Ew : w = nI i) (hi : i + 7 ≤ Ln) {TX : gTX} {P B σ τ : gS} (hC : RC TX P B σ) (hM : RM TX P B τ) (hzC : gz SC σ) (hzM : gz SM τ) (hk : ∀ (TX : gTX) (P B σ τ : gS), RC TX P B σ → RM TX P B τ → gz SC σ → gz SM τ → GW SL E Q 1414 [some (.ref b), some (.ref (e_ad E 0)), some (.ref (e_ad E 72)), some (.int w)] [] (gcat σ τ)) : GW SL E Q 825 [some (.ref b), some (.ref (e_ad E 0)), some (.ref (e_ad E 72)), some (.int w)] [] (gcat σ τ) := by
  refine G_aload_n (i := 1) C 826 dL_law_825 rfl rfl rfl ?_
  refine G_aload_n (i := 0) C 827 dL_law_826 rfl rfl rfl ?_
  refine G_iload_n (i := 3) C 828 dL_law_827 rfl rfl rfl ?_
  refine G_iconst (v := 1) C 829 dL_law_828 rfl rfl ?_
  refine G_iadd C 830 dL_law_829 rfl (fun x829 ex829 => ?_)
  have Nx829 : x829 = nI (i + 1) := g_addN ex829 Ew rfl
  refine L_sld C 831 hX hbl hbA Nx829 (by omega) hLn dL_law_830 rfl ?_
  refine L_Ci (n := 1) C 834 ⟨w_695, by decide +kernel, by decide +kernel, by decide +kernel, by decide⟩ ⟨w_692, w_693, w_694, w_1⟩ (by omega) rfl (c_X10_judge 0 TX P B σ hC (xs (i + 1))) rfl rfl rfl (Nat.le_of_ble_eq_true rfl) rfl dL_law_831 rfl hzC hzM (fun r1 s1 h1 z1 => ?_)
  obtain ⟨hR1, hr1⟩ := h1
  refine G_aload_n (i := 2) C 835 dL_law_834 rfl rfl rfl ?_
  refine G_aload_n (i := 0) C 836 dL_law_835 rfl rfl rfl ?_
  refine G_iload_n (i := 3) C 837 dL_law_836 rfl rfl rfl ?_
  refine G_iconst (v := 1) C 838 dL_law_837 rfl rfl ?_
  refine G_iadd C 839 dL_law_838 rfl (fun x838 ex838 => ?_)
  have Nx838 : x838 = nI (i + 1) := g_addN ex838 Ew rfl
  refine L_sld C 840 hX hbl hbA Nx838 (by omega) hLn dL_law_839 rfl ?_
  refine L_Mi (n := 1) C 843 ⟨w_1168, by decide +kernel, by decide +kernel, by decide +kernel, by decide⟩ ⟨w_1165, w_1166, w_1167, w_18⟩ (by omega) rfl (c_X11_judge 0 TX P B τ hM (xs (i + 1))) rfl rfl rfl (Nat.le_of_ble_eq_true rfl) rfl dL_law_840 rfl z1 hzM (fun r2 s2 h2 z2 => ?_)
  obtain ⟨hR2, hr2⟩ := h2
  refine G_icmp_eq C 1414 846 dL_law_843 rfl rfl (fun _ => hk _ _ _ _ _ hR1 hR2 z1 z2) (fun c => absurd (hr1.trans hr2.symm) c)
set_option maxHeartbeats 4000000 in
set_option maxRecDepth 100000 in
theorem law_21 {E : gE} {d : Nat} {Q : State → Prop} (C : gCx SL E RL cL_law 4 ret d) (hd : 60 ≤ d) {b Ln i : Nat} {xs : Nat → Int32} (hX : va_X b Ln xs (e_s E) (e_s E).heap) (hbl : b < (e_s E).heap.size) (hbA : ¬ gA SL (e_ad E) b) (hLn : Ln ≤ 3584) {w : Int32} (Ew : w = nI i) (hi : i + 7 ≤ Ln) {TX : gTX} {P B σ τ : gS} (hC : RC TX P B σ) (hM : RM TX P B τ) (hzC : gz SC σ) (hzM : gz SM τ) (hk : ∀ (TX : gTX) (P B σ τ : gS), RC TX P B σ → RM TX P B τ → gz SC σ → gz SM τ → GW SL E Q 1414 [some (.ref b), some (.ref (e_ad E 0)), some (.ref (e_ad E 72)), some (.int w)] [] (gcat σ τ)) : GW SL E Q 848 [some (.ref b), some (.ref (e_ad E 0)), some (.ref (e_ad E 72)), some (.int w)] [] (gcat σ τ) := by
  refine G_aload_n (i := 1) C 849 dL_law_848 rfl rfl rfl ?_
  refine G_aload_n (i := 0) C 850 dL_law_849 rfl rfl rfl ?_
  refine G_iload_n (i := 3) C 851 dL_law_850 rfl rfl rfl ?_
  refine G_iconst (v := 1) C 852 dL_law_851 rfl rfl ?_
  refine G_iadd C 853 dL_law_852 rfl (fun x852 ex852 => ?_)
  have Nx852 : x852 = nI (i + 1) := g_addN ex852 Ew rfl
  refine L_sld C 854 hX hbl hbA Nx852 (by omega) hLn dL_law_853 rfl ?_
  refine G_aload_n (i := 0) C 855 dL_law_854 rfl rfl rfl ?_
  refine G_iload_n (i := 3) C 856 dL_law_855 rfl rfl rfl ?_
  refine G_iconst (v := 2) C 857 dL_law_856 rfl rfl ?_
  refine G_iadd C 858 dL_law_857 rfl (fun x857 ex857 => ?_)
  have Nx857 : x857 = nI (i + 2) := g_addN ex857 Ew rfl
  refine L_sld C 859 hX hbl hbA Nx857 (by omega) hLn dL_law_858 rfl ?_
  refine G_aload_n (i := 0) C 860 dL_law_859 rfl rfl rfl ?_
  refine G_iload_n (i := 3) C 861 dL_law_860 rfl rfl rfl ?_
  refine G_iconst (v := 3) C 862 dL_law_861 rfl rfl ?_
  refine G_iadd C 863 dL_law_862 rfl (fun x862 ex862 => ?_)
  have Nx862 : x862 = nI (i + 3) := g_addN ex862 Ew rfl
  refine L_sld C 864 hX hbl hbA Nx862 (by omega) hLn dL_law_863 rfl ?_
  refine L_Ci (n := 3) C 867 ⟨w_707, by decide +kernel, by decide +kernel, by decide +kernel, by decide⟩ ⟨w_704, w_705, w_706, w_1⟩ (by omega) rfl (c_X10_kinds 0 TX P B σ hC (xs (i + 1)) (xs (i + 2)) (xs (i + 3))) rfl rfl rfl (Nat.le_of_ble_eq_true rfl) rfl dL_law_864 rfl hzC hzM (fun r1 s1 h1 z1 => ?_)
  obtain ⟨hR1, hr1⟩ := h1
  refine G_aload_n (i := 2) C 868 dL_law_867 rfl rfl rfl ?_
  refine G_aload_n (i := 0) C 869 dL_law_868 rfl rfl rfl ?_
  refine G_iload_n (i := 3) C 870 dL_law_869 rfl rfl rfl ?_
  refine G_iconst (v := 1) C 871 dL_law_870 rfl rfl ?_
  refine G_iadd C 872 dL_law_871 rfl (fun x871 ex871 => ?_)
  have Nx871 : x871 = nI (i + 1) := g_addN ex871 Ew rfl
  refine L_sld C 873 hX hbl hbA Nx871 (by omega) hLn dL_law_872 rfl ?_
  refine G_aload_n (i := 0) C 874 dL_law_873 rfl rfl rfl ?_
  refine G_iload_n (i := 3) C 875 dL_law_874 rfl rfl rfl ?_
  refine G_iconst (v := 2) C 876 dL_law_875 rfl rfl ?_
  refine G_iadd C 877 dL_law_876 rfl (fun x876 ex876 => ?_)
  have Nx876 : x876 = nI (i + 2) := g_addN ex876 Ew rfl
  refine L_sld C 878 hX hbl hbA Nx876 (by omega) hLn dL_law_877 rfl ?_
  refine G_aload_n (i := 0) C 879 dL_law_878 rfl rfl rfl ?_
  refine G_iload_n (i := 3) C 880 dL_law_879 rfl rfl rfl ?_
  refine G_iconst (v := 3) C 881 dL_law_880 rfl rfl ?_
  refine G_iadd C 882 dL_law_881 rfl (fun x881 ex881 => ?_)
  have Nx881 : x881 = nI (i + 3) := g_addN ex881 Ew rfl
  refine L_sld C 883 hX hbl hbA Nx881 (by omega) hLn dL_law_882 rfl ?_
  refine L_Mi (n := 3) C 886 ⟨w_1180, by decide +kernel, by decide +kernel, by decide +kernel, by decide⟩ ⟨w_1177, w_1178, w_1179, w_18⟩ (by omega) rfl (c_X11_kinds 0 TX P B τ hM (xs (i + 1)) (xs (i + 2)) (xs (i + 3))) rfl rfl rfl (Nat.le_of_ble_eq_true rfl) rfl dL_law_883 rfl z1 hzM (fun r2 s2 h2 z2 => ?_)
  obtain ⟨hR2, hr2⟩ := h2
  refine G_icmp_eq C 1414 889 dL_law_886 rfl rfl (fun _ => hk _ _ _ _ _ hR1 hR2 z1 z2) (fun c => absurd (hr1.trans hr2.symm) c)
set_option maxHeartbeats 4000000 in
set_option maxRecDepth 100000 in
theorem law_22 {E : gE} {d : Nat} {Q : State → Prop} (C : gCx SL E RL cL_law 4 ret d) (hd : 60 ≤ d) {b Ln i : Nat} {xs : Nat → Int32} (hX : va_X b Ln xs (e_s E) (e_s E).heap) (hbl : b < (e_s E).heap.size) (hbA : ¬ gA SL (e_ad E) b) (hLn : Ln ≤ 3584) {w : Int32} (Ew : w = nI i) (hi : i + 7 ≤ Ln) {TX : gTX} {P B σ τ : gS} (hC : RC TX P B σ) (hM : RM TX P B τ) (hzC : gz SC σ) (hzM : gz SM τ) (hk : ∀ (TX : gTX) (P B σ τ : gS), RC TX P B σ → RM TX P B τ → gz SC σ → gz SM τ → GW SL E Q 1414 [some (.ref b), some (.ref (e_ad E 0)), some (.ref (e_ad E 72)), some (.int w)] [] (gcat σ τ)) : GW SL E Q 891 [some (.ref b), some (.ref (e_ad E 0)), some (.ref (e_ad E 72)), some (.int w)] [] (gcat σ τ) := by
  refine G_aload_n (i := 1) C 892 dL_law_891 rfl rfl rfl ?_
  refine G_aload_n (i := 0) C 893 dL_law_892 rfl rfl rfl ?_
  refine G_iload_n (i := 3) C 894 dL_law_893 rfl rfl rfl ?_
  refine G_iconst (v := 1) C 895 dL_law_894 rfl rfl ?_
  refine G_iadd C 896 dL_law_895 rfl (fun x895 ex895 => ?_)
  have Nx895 : x895 = nI (i + 1) := g_addN ex895 Ew rfl
  refine L_sld C 897 hX hbl hbA Nx895 (by omega) hLn dL_law_896 rfl ?_
  refine G_aload_n (i := 0) C 898 dL_law_897 rfl rfl rfl ?_
  refine G_iload_n (i := 3) C 899 dL_law_898 rfl rfl rfl ?_
  refine G_iconst (v := 2) C 900 dL_law_899 rfl rfl ?_
  refine G_iadd C 901 dL_law_900 rfl (fun x900 ex900 => ?_)
  have Nx900 : x900 = nI (i + 2) := g_addN ex900 Ew rfl
  refine L_sld C 902 hX hbl hbA Nx900 (by omega) hLn dL_law_901 rfl ?_
  refine L_Ci (n := 2) C 905 ⟨w_711, by decide +kernel, by decide +kernel, by decide +kernel, by decide⟩ ⟨w_708, w_709, w_710, w_1⟩ (by omega) rfl (c_X10_corners 0 TX P B σ hC (xs (i + 1)) (xs (i + 2))) rfl rfl rfl (Nat.le_of_ble_eq_true rfl) rfl dL_law_902 rfl hzC hzM (fun r1 s1 h1 z1 => ?_)
  obtain ⟨hR1, hr1⟩ := h1
  refine G_aload_n (i := 2) C 906 dL_law_905 rfl rfl rfl ?_
  refine G_aload_n (i := 0) C 907 dL_law_906 rfl rfl rfl ?_
  refine G_iload_n (i := 3) C 908 dL_law_907 rfl rfl rfl ?_
  refine G_iconst (v := 1) C 909 dL_law_908 rfl rfl ?_
  refine G_iadd C 910 dL_law_909 rfl (fun x909 ex909 => ?_)
  have Nx909 : x909 = nI (i + 1) := g_addN ex909 Ew rfl
  refine L_sld C 911 hX hbl hbA Nx909 (by omega) hLn dL_law_910 rfl ?_
  refine G_aload_n (i := 0) C 912 dL_law_911 rfl rfl rfl ?_
  refine G_iload_n (i := 3) C 913 dL_law_912 rfl rfl rfl ?_
  refine G_iconst (v := 2) C 914 dL_law_913 rfl rfl ?_
  refine G_iadd C 915 dL_law_914 rfl (fun x914 ex914 => ?_)
  have Nx914 : x914 = nI (i + 2) := g_addN ex914 Ew rfl
  refine L_sld C 916 hX hbl hbA Nx914 (by omega) hLn dL_law_915 rfl ?_
  refine L_Mi (n := 2) C 919 ⟨w_1184, by decide +kernel, by decide +kernel, by decide +kernel, by decide⟩ ⟨w_1181, w_1182, w_1183, w_18⟩ (by omega) rfl (c_X11_corners 0 TX P B τ hM (xs (i + 1)) (xs (i + 2))) rfl rfl rfl (Nat.le_of_ble_eq_true rfl) rfl dL_law_916 rfl z1 hzM (fun r2 s2 h2 z2 => ?_)
  obtain ⟨hR2, hr2⟩ := h2
  refine G_icmp_eq C 1414 922 dL_law_919 rfl rfl (fun _ => hk _ _ _ _ _ hR1 hR2 z1 z2) (fun c => absurd (hr1.trans hr2.symm) c)
set_option maxHeartbeats 4000000 in
set_option maxRecDepth 100000 in
theorem law_23 {E : gE} {d : Nat} {Q : State → Prop} (C : gCx SL E RL cL_law 4 ret d) (hd : 60 ≤ d) {b Ln i : Nat} {xs : Nat → Int32} (hX : va_X b Ln xs (e_s E) (e_s E).heap) (hbl : b < (e_s E).heap.size) (hbA : ¬ gA SL (e_ad E) b) (hLn : Ln ≤ 3584) {w : Int32} (Ew : w = nI i) (hi : i + 7 ≤ Ln) {TX : gTX} {P B σ τ : gS} (hC : RC TX P B σ) (hM : RM TX P B τ) (hzC : gz SC σ) (hzM : gz SM τ) (hk : ∀ (TX : gTX) (P B σ τ : gS), RC TX P B σ → RM TX P B τ → gz SC σ → gz SM τ → GW SL E Q 1414 [some (.ref b), some (.ref (e_ad E 0)), some (.ref (e_ad E 72)), some (.int w)] [] (gcat σ τ)) : GW SL E Q 924 [some (.ref b), some (.ref (e_ad E 0)), some (.ref (e_ad E 72)), some (.int w)] [] (gcat σ τ) := by
  refine G_aload_n (i := 1) C 925 dL_law_924 rfl rfl rfl ?_
  refine G_aload_n (i := 0) C 926 dL_law_925 rfl rfl rfl ?_
  refine G_iload_n (i := 3) C 927 dL_law_926 rfl rfl rfl ?_
  refine G_iconst (v := 1) C 928 dL_law_927 rfl rfl ?_
  refine G_iadd C 929 dL_law_928 rfl (fun x928 ex928 => ?_)
  have Nx928 : x928 = nI (i + 1) := g_addN ex928 Ew rfl
  refine L_sld C 930 hX hbl hbA Nx928 (by omega) hLn dL_law_929 rfl ?_
  refine G_aload_n (i := 0) C 931 dL_law_930 rfl rfl rfl ?_
  refine G_iload_n (i := 3) C 932 dL_law_931 rfl rfl rfl ?_
  refine G_iconst (v := 2) C 933 dL_law_932 rfl rfl ?_
  refine G_iadd C 934 dL_law_933 rfl (fun x933 ex933 => ?_)
  have Nx933 : x933 = nI (i + 2) := g_addN ex933 Ew rfl
  refine L_sld C 935 hX hbl hbA Nx933 (by omega) hLn dL_law_934 rfl ?_
  refine G_aload_n (i := 0) C 936 dL_law_935 rfl rfl rfl ?_
  refine G_iload_n (i := 3) C 937 dL_law_936 rfl rfl rfl ?_
  refine G_iconst (v := 3) C 938 dL_law_937 rfl rfl ?_
  refine G_iadd C 939 dL_law_938 rfl (fun x938 ex938 => ?_)
  have Nx938 : x938 = nI (i + 3) := g_addN ex938 Ew rfl
  refine L_sld C 940 hX hbl hbA Nx938 (by omega) hLn dL_law_939 rfl ?_
  refine L_Ci (n := 3) C 943 ⟨w_715, by decide +kernel, by decide +kernel, by decide +kernel, by decide⟩ ⟨w_712, w_713, w_714, w_1⟩ (by omega) rfl (c_X10_turned 0 TX P B σ hC (xs (i + 1)) (xs (i + 2)) (xs (i + 3))) rfl rfl rfl (Nat.le_of_ble_eq_true rfl) rfl dL_law_940 rfl hzC hzM (fun r1 s1 h1 z1 => ?_)
  obtain ⟨hR1, hr1⟩ := h1
  refine G_aload_n (i := 2) C 944 dL_law_943 rfl rfl rfl ?_
  refine G_aload_n (i := 0) C 945 dL_law_944 rfl rfl rfl ?_
  refine G_iload_n (i := 3) C 946 dL_law_945 rfl rfl rfl ?_
  refine G_iconst (v := 1) C 947 dL_law_946 rfl rfl ?_
  refine G_iadd C 948 dL_law_947 rfl (fun x947 ex947 => ?_)
  have Nx947 : x947 = nI (i + 1) := g_addN ex947 Ew rfl
  refine L_sld C 949 hX hbl hbA Nx947 (by omega) hLn dL_law_948 rfl ?_
  refine G_aload_n (i := 0) C 950 dL_law_949 rfl rfl rfl ?_
  refine G_iload_n (i := 3) C 951 dL_law_950 rfl rfl rfl ?_
  refine G_iconst (v := 2) C 952 dL_law_951 rfl rfl ?_
  refine G_iadd C 953 dL_law_952 rfl (fun x952 ex952 => ?_)
  have Nx952 : x952 = nI (i + 2) := g_addN ex952 Ew rfl
  refine L_sld C 954 hX hbl hbA Nx952 (by omega) hLn dL_law_953 rfl ?_
  refine G_aload_n (i := 0) C 955 dL_law_954 rfl rfl rfl ?_
  refine G_iload_n (i := 3) C 956 dL_law_955 rfl rfl rfl ?_
  refine G_iconst (v := 3) C 957 dL_law_956 rfl rfl ?_
  refine G_iadd C 958 dL_law_957 rfl (fun x957 ex957 => ?_)
  have Nx957 : x957 = nI (i + 3) := g_addN ex957 Ew rfl
  refine L_sld C 959 hX hbl hbA Nx957 (by omega) hLn dL_law_958 rfl ?_
  refine L_Mi (n := 3) C 962 ⟨w_1188, by decide +kernel, by decide +kernel, by decide +kernel, by decide⟩ ⟨w_1185, w_1186, w_1187, w_18⟩ (by omega) rfl (c_X11_turned 0 TX P B τ hM (xs (i + 1)) (xs (i + 2)) (xs (i + 3))) rfl rfl rfl (Nat.le_of_ble_eq_true rfl) rfl dL_law_959 rfl z1 hzM (fun r2 s2 h2 z2 => ?_)
  obtain ⟨hR2, hr2⟩ := h2
  refine G_icmp_eq C 1414 965 dL_law_962 rfl rfl (fun _ => hk _ _ _ _ _ hR1 hR2 z1 z2) (fun c => absurd (hr1.trans hr2.symm) c)
set_option maxHeartbeats 4000000 in
set_option maxRecDepth 100000 in
theorem law_24 {E : gE} {d : Nat} {Q : State → Prop} (C : gCx SL E RL cL_law 4 ret d) (hd : 60 ≤ d) {b Ln i : Nat} {xs : Nat → Int32} (hX : va_X b Ln xs (e_s E) (e_s E).heap) (hbl : b < (e_s E).heap.size) (hbA : ¬ gA SL (e_ad E) b) (hLn : Ln ≤ 3584) {w : Int32} (Ew : w = nI i) (hi : i + 7 ≤ Ln) {TX : gTX} {P B σ τ : gS} (hC : RC TX P B σ) (hM : RM TX P B τ) (hzC : gz SC σ) (hzM : gz SM τ) (hk : ∀ (TX : gTX) (P B σ τ : gS), RC TX P B σ → RM TX P B τ → gz SC σ → gz SM τ → GW SL E Q 1414 [some (.ref b), some (.ref (e_ad E 0)), some (.ref (e_ad E 72)), some (.int w)] [] (gcat σ τ)) : GW SL E Q 967 [some (.ref b), some (.ref (e_ad E 0)), some (.ref (e_ad E 72)), some (.int w)] [] (gcat σ τ) := by
  refine G_aload_n (i := 1) C 968 dL_law_967 rfl rfl rfl ?_
  refine G_aload_n (i := 0) C 969 dL_law_968 rfl rfl rfl ?_
  refine G_iload_n (i := 3) C 970 dL_law_969 rfl rfl rfl ?_
  refine G_iconst (v := 1) C 971 dL_law_970 rfl rfl ?_
  refine G_iadd C 972 dL_law_971 rfl (fun x971 ex971 => ?_)
  have Nx971 : x971 = nI (i + 1) := g_addN ex971 Ew rfl
  refine L_sld C 973 hX hbl hbA Nx971 (by omega) hLn dL_law_972 rfl ?_
  refine G_aload_n (i := 0) C 974 dL_law_973 rfl rfl rfl ?_
  refine G_iload_n (i := 3) C 975 dL_law_974 rfl rfl rfl ?_
  refine G_iconst (v := 2) C 976 dL_law_975 rfl rfl ?_
  refine G_iadd C 977 dL_law_976 rfl (fun x976 ex976 => ?_)
  have Nx976 : x976 = nI (i + 2) := g_addN ex976 Ew rfl
  refine L_sld C 978 hX hbl hbA Nx976 (by omega) hLn dL_law_977 rfl ?_
  refine G_aload_n (i := 0) C 979 dL_law_978 rfl rfl rfl ?_
  refine G_iload_n (i := 3) C 980 dL_law_979 rfl rfl rfl ?_
  refine G_iconst (v := 3) C 981 dL_law_980 rfl rfl ?_
  refine G_iadd C 982 dL_law_981 rfl (fun x981 ex981 => ?_)
  have Nx981 : x981 = nI (i + 3) := g_addN ex981 Ew rfl
  refine L_sld C 983 hX hbl hbA Nx981 (by omega) hLn dL_law_982 rfl ?_
  refine L_Ci (n := 3) C 986 ⟨w_719, by decide +kernel, by decide +kernel, by decide +kernel, by decide⟩ ⟨w_716, w_717, w_718, w_1⟩ (by omega) rfl (c_X10_evils 0 TX P B σ hC (xs (i + 1)) (xs (i + 2)) (xs (i + 3))) rfl rfl rfl (Nat.le_of_ble_eq_true rfl) rfl dL_law_983 rfl hzC hzM (fun r1 s1 h1 z1 => ?_)
  obtain ⟨hR1, hr1⟩ := h1
  refine G_aload_n (i := 2) C 987 dL_law_986 rfl rfl rfl ?_
  refine G_aload_n (i := 0) C 988 dL_law_987 rfl rfl rfl ?_
  refine G_iload_n (i := 3) C 989 dL_law_988 rfl rfl rfl ?_
  refine G_iconst (v := 1) C 990 dL_law_989 rfl rfl ?_
  refine G_iadd C 991 dL_law_990 rfl (fun x990 ex990 => ?_)
  have Nx990 : x990 = nI (i + 1) := g_addN ex990 Ew rfl
  refine L_sld C 992 hX hbl hbA Nx990 (by omega) hLn dL_law_991 rfl ?_
  refine G_aload_n (i := 0) C 993 dL_law_992 rfl rfl rfl ?_
  refine G_iload_n (i := 3) C 994 dL_law_993 rfl rfl rfl ?_
  refine G_iconst (v := 2) C 995 dL_law_994 rfl rfl ?_
  refine G_iadd C 996 dL_law_995 rfl (fun x995 ex995 => ?_)
  have Nx995 : x995 = nI (i + 2) := g_addN ex995 Ew rfl
  refine L_sld C 997 hX hbl hbA Nx995 (by omega) hLn dL_law_996 rfl ?_
  refine G_aload_n (i := 0) C 998 dL_law_997 rfl rfl rfl ?_
  refine G_iload_n (i := 3) C 999 dL_law_998 rfl rfl rfl ?_
  refine G_iconst (v := 3) C 1000 dL_law_999 rfl rfl ?_
  refine G_iadd C 1001 dL_law_1000 rfl (fun x1000 ex1000 => ?_)
  have Nx1000 : x1000 = nI (i + 3) := g_addN ex1000 Ew rfl
  refine L_sld C 1002 hX hbl hbA Nx1000 (by omega) hLn dL_law_1001 rfl ?_
  refine L_Mi (n := 3) C 1005 ⟨w_1192, by decide +kernel, by decide +kernel, by decide +kernel, by decide⟩ ⟨w_1189, w_1190, w_1191, w_18⟩ (by omega) rfl (c_X11_evils 0 TX P B τ hM (xs (i + 1)) (xs (i + 2)) (xs (i + 3))) rfl rfl rfl (Nat.le_of_ble_eq_true rfl) rfl dL_law_1002 rfl z1 hzM (fun r2 s2 h2 z2 => ?_)
  obtain ⟨hR2, hr2⟩ := h2
  refine G_icmp_eq C 1414 1008 dL_law_1005 rfl rfl (fun _ => hk _ _ _ _ _ hR1 hR2 z1 z2) (fun c => absurd (hr1.trans hr2.symm) c)
set_option maxHeartbeats 4000000 in
set_option maxRecDepth 100000 in
theorem law_25 {E : gE} {d : Nat} {Q : State → Prop} (C : gCx SL E RL cL_law 4 ret d) (hd : 60 ≤ d) {b Ln i : Nat} {xs : Nat → Int32} (hX : va_X b Ln xs (e_s E) (e_s E).heap) (hbl : b < (e_s E).heap.size) (hbA : ¬ gA SL (e_ad E) b) (hLn : Ln ≤ 3584) {w : Int32} (Ew : w = nI i) (hi : i + 7 ≤ Ln) {TX : gTX} {P B σ τ : gS} (hC : RC TX P B σ) (hM : RM TX P B τ) (hzC : gz SC σ) (hzM : gz SM τ) (hk : ∀ (TX : gTX) (P B σ τ : gS), RC TX P B σ → RM TX P B τ → gz SC σ → gz SM τ → GW SL E Q 1414 [some (.ref b), some (.ref (e_ad E 0)), some (.ref (e_ad E 72)), some (.int w)] [] (gcat σ τ)) : GW SL E Q 1010 [some (.ref b), some (.ref (e_ad E 0)), some (.ref (e_ad E 72)), some (.int w)] [] (gcat σ τ) := by
  refine G_aload_n (i := 1) C 1011 dL_law_1010 rfl rfl rfl ?_
  refine G_aload_n (i := 0) C 1012 dL_law_1011 rfl rfl rfl ?_
  refine G_iload_n (i := 3) C 1013 dL_law_1012 rfl rfl rfl ?_
  refine G_iconst (v := 1) C 1014 dL_law_1013 rfl rfl ?_
  refine G_iadd C 1015 dL_law_1014 rfl (fun x1014 ex1014 => ?_)
  have Nx1014 : x1014 = nI (i + 1) := g_addN ex1014 Ew rfl
  refine L_sld C 1016 hX hbl hbA Nx1014 (by omega) hLn dL_law_1015 rfl ?_
  refine L_Ci (n := 1) C 1019 ⟨w_723, by decide +kernel, by decide +kernel, by decide +kernel, by decide⟩ ⟨w_720, w_721, w_722, w_1⟩ (by omega) rfl (c_X10_laws 0 TX P B σ hC (xs (i + 1))) rfl rfl rfl (Nat.le_of_ble_eq_true rfl) rfl dL_law_1016 rfl hzC hzM (fun r1 s1 h1 z1 => ?_)
  obtain ⟨hR1, hr1⟩ := h1
  refine G_aload_n (i := 2) C 1020 dL_law_1019 rfl rfl rfl ?_
  refine G_aload_n (i := 0) C 1021 dL_law_1020 rfl rfl rfl ?_
  refine G_iload_n (i := 3) C 1022 dL_law_1021 rfl rfl rfl ?_
  refine G_iconst (v := 1) C 1023 dL_law_1022 rfl rfl ?_
  refine G_iadd C 1024 dL_law_1023 rfl (fun x1023 ex1023 => ?_)
  have Nx1023 : x1023 = nI (i + 1) := g_addN ex1023 Ew rfl
  refine L_sld C 1025 hX hbl hbA Nx1023 (by omega) hLn dL_law_1024 rfl ?_
  refine L_Mi (n := 1) C 1028 ⟨w_1196, by decide +kernel, by decide +kernel, by decide +kernel, by decide⟩ ⟨w_1193, w_1194, w_1195, w_18⟩ (by omega) rfl (c_X11_laws 0 TX P B τ hM (xs (i + 1))) rfl rfl rfl (Nat.le_of_ble_eq_true rfl) rfl dL_law_1025 rfl z1 hzM (fun r2 s2 h2 z2 => ?_)
  obtain ⟨hR2, hr2⟩ := h2
  refine G_icmp_eq C 1414 1031 dL_law_1028 rfl rfl (fun _ => hk _ _ _ _ _ hR1 hR2 z1 z2) (fun c => absurd (hr1.trans hr2.symm) c)
set_option maxHeartbeats 4000000 in
set_option maxRecDepth 100000 in
theorem law_26 {E : gE} {d : Nat} {Q : State → Prop} (C : gCx SL E RL cL_law 4 ret d) (hd : 60 ≤ d) {b Ln i : Nat} {xs : Nat → Int32} (hX : va_X b Ln xs (e_s E) (e_s E).heap) (hbl : b < (e_s E).heap.size) (hbA : ¬ gA SL (e_ad E) b) (hLn : Ln ≤ 3584) {w : Int32} (Ew : w = nI i) (hi : i + 7 ≤ Ln) {TX : gTX} {P B σ τ : gS} (hC : RC TX P B σ) (hM : RM TX P B τ) (hzC : gz SC σ) (hzM : gz SM τ) (hk : ∀ (TX : gTX) (P B σ τ : gS), RC TX P B σ → RM TX P B τ → gz SC σ → gz SM τ → GW SL E Q 1414 [some (.ref b), some (.ref (e_ad E 0)), some (.ref (e_ad E 72)), some (.int w)] [] (gcat σ τ)) : GW SL E Q 1033 [some (.ref b), some (.ref (e_ad E 0)), some (.ref (e_ad E 72)), some (.int w)] [] (gcat σ τ) := by
  refine G_aload_n (i := 1) C 1034 dL_law_1033 rfl rfl rfl ?_
  refine G_aload_n (i := 0) C 1035 dL_law_1034 rfl rfl rfl ?_
  refine G_iload_n (i := 3) C 1036 dL_law_1035 rfl rfl rfl ?_
  refine G_iconst (v := 1) C 1037 dL_law_1036 rfl rfl ?_
  refine G_iadd C 1038 dL_law_1037 rfl (fun x1037 ex1037 => ?_)
  have Nx1037 : x1037 = nI (i + 1) := g_addN ex1037 Ew rfl
  refine L_sld C 1039 hX hbl hbA Nx1037 (by omega) hLn dL_law_1038 rfl ?_
  refine G_aload_n (i := 0) C 1040 dL_law_1039 rfl rfl rfl ?_
  refine G_iload_n (i := 3) C 1041 dL_law_1040 rfl rfl rfl ?_
  refine G_iconst (v := 2) C 1042 dL_law_1041 rfl rfl ?_
  refine G_iadd C 1043 dL_law_1042 rfl (fun x1042 ex1042 => ?_)
  have Nx1042 : x1042 = nI (i + 2) := g_addN ex1042 Ew rfl
  refine L_sld C 1044 hX hbl hbA Nx1042 (by omega) hLn dL_law_1043 rfl ?_
  refine L_Ci (n := 2) C 1047 ⟨w_727, by decide +kernel, by decide +kernel, by decide +kernel, by decide⟩ ⟨w_724, w_725, w_726, w_1⟩ (by omega) rfl (c_X10_film 0 TX P B σ hC (xs (i + 1)) (xs (i + 2))) rfl rfl rfl (Nat.le_of_ble_eq_true rfl) rfl dL_law_1044 rfl hzC hzM (fun r1 s1 h1 z1 => ?_)
  obtain ⟨hR1, hr1⟩ := h1
  refine G_aload_n (i := 2) C 1048 dL_law_1047 rfl rfl rfl ?_
  refine G_aload_n (i := 0) C 1049 dL_law_1048 rfl rfl rfl ?_
  refine G_iload_n (i := 3) C 1050 dL_law_1049 rfl rfl rfl ?_
  refine G_iconst (v := 1) C 1051 dL_law_1050 rfl rfl ?_
  refine G_iadd C 1052 dL_law_1051 rfl (fun x1051 ex1051 => ?_)
  have Nx1051 : x1051 = nI (i + 1) := g_addN ex1051 Ew rfl
  refine L_sld C 1053 hX hbl hbA Nx1051 (by omega) hLn dL_law_1052 rfl ?_
  refine G_aload_n (i := 0) C 1054 dL_law_1053 rfl rfl rfl ?_
  refine G_iload_n (i := 3) C 1055 dL_law_1054 rfl rfl rfl ?_
  refine G_iconst (v := 2) C 1056 dL_law_1055 rfl rfl ?_
  refine G_iadd C 1057 dL_law_1056 rfl (fun x1056 ex1056 => ?_)
  have Nx1056 : x1056 = nI (i + 2) := g_addN ex1056 Ew rfl
  refine L_sld C 1058 hX hbl hbA Nx1056 (by omega) hLn dL_law_1057 rfl ?_
  refine L_Mi (n := 2) C 1061 ⟨w_1200, by decide +kernel, by decide +kernel, by decide +kernel, by decide⟩ ⟨w_1197, w_1198, w_1199, w_18⟩ (by omega) rfl (c_X11_film 0 TX P B τ hM (xs (i + 1)) (xs (i + 2))) rfl rfl rfl (Nat.le_of_ble_eq_true rfl) rfl dL_law_1058 rfl z1 hzM (fun r2 s2 h2 z2 => ?_)
  obtain ⟨hR2, hr2⟩ := h2
  refine G_icmp_eq C 1414 1064 dL_law_1061 rfl rfl (fun _ => hk _ _ _ _ _ hR1 hR2 z1 z2) (fun c => absurd (hr1.trans hr2.symm) c)
set_option maxHeartbeats 4000000 in
set_option maxRecDepth 100000 in
theorem law_27 {E : gE} {d : Nat} {Q : State → Prop} (C : gCx SL E RL cL_law 4 ret d) (hd : 60 ≤ d) {b Ln i : Nat} {xs : Nat → Int32} (hX : va_X b Ln xs (e_s E) (e_s E).heap) (hbl : b < (e_s E).heap.size) (hbA : ¬ gA SL (e_ad E) b) (hLn : Ln ≤ 3584) {w : Int32} (Ew : w = nI i) (hi : i + 7 ≤ Ln) {TX : gTX} {P B σ τ : gS} (hC : RC TX P B σ) (hM : RM TX P B τ) (hzC : gz SC σ) (hzM : gz SM τ) (hk : ∀ (TX : gTX) (P B σ τ : gS), RC TX P B σ → RM TX P B τ → gz SC σ → gz SM τ → GW SL E Q 1414 [some (.ref b), some (.ref (e_ad E 0)), some (.ref (e_ad E 72)), some (.int w)] [] (gcat σ τ)) : GW SL E Q 1066 [some (.ref b), some (.ref (e_ad E 0)), some (.ref (e_ad E 72)), some (.int w)] [] (gcat σ τ) := by
  refine G_aload_n (i := 1) C 1067 dL_law_1066 rfl rfl rfl ?_
  refine G_aload_n (i := 0) C 1068 dL_law_1067 rfl rfl rfl ?_
  refine G_iload_n (i := 3) C 1069 dL_law_1068 rfl rfl rfl ?_
  refine G_iconst (v := 1) C 1070 dL_law_1069 rfl rfl ?_
  refine G_iadd C 1071 dL_law_1070 rfl (fun x1070 ex1070 => ?_)
  have Nx1070 : x1070 = nI (i + 1) := g_addN ex1070 Ew rfl
  refine L_sld C 1072 hX hbl hbA Nx1070 (by omega) hLn dL_law_1071 rfl ?_
  refine G_aload_n (i := 0) C 1073 dL_law_1072 rfl rfl rfl ?_
  refine G_iload_n (i := 3) C 1074 dL_law_1073 rfl rfl rfl ?_
  refine G_iconst (v := 2) C 1075 dL_law_1074 rfl rfl ?_
  refine G_iadd C 1076 dL_law_1075 rfl (fun x1075 ex1075 => ?_)
  have Nx1075 : x1075 = nI (i + 2) := g_addN ex1075 Ew rfl
  refine L_sld C 1077 hX hbl hbA Nx1075 (by omega) hLn dL_law_1076 rfl ?_
  refine L_Ci (n := 2) C 1080 ⟨w_743, by decide +kernel, by decide +kernel, by decide +kernel, by decide⟩ ⟨w_740, w_741, w_742, w_1⟩ (by omega) rfl (c_X10_drawn 0 TX P B σ hC (xs (i + 1)) (xs (i + 2))) rfl rfl rfl (Nat.le_of_ble_eq_true rfl) rfl dL_law_1077 rfl hzC hzM (fun r1 s1 h1 z1 => ?_)
  obtain ⟨hR1, hr1⟩ := h1
  refine G_aload_n (i := 2) C 1081 dL_law_1080 rfl rfl rfl ?_
  refine G_aload_n (i := 0) C 1082 dL_law_1081 rfl rfl rfl ?_
  refine G_iload_n (i := 3) C 1083 dL_law_1082 rfl rfl rfl ?_
  refine G_iconst (v := 1) C 1084 dL_law_1083 rfl rfl ?_
  refine G_iadd C 1085 dL_law_1084 rfl (fun x1084 ex1084 => ?_)
  have Nx1084 : x1084 = nI (i + 1) := g_addN ex1084 Ew rfl
  refine L_sld C 1086 hX hbl hbA Nx1084 (by omega) hLn dL_law_1085 rfl ?_
  refine G_aload_n (i := 0) C 1087 dL_law_1086 rfl rfl rfl ?_
  refine G_iload_n (i := 3) C 1088 dL_law_1087 rfl rfl rfl ?_
  refine G_iconst (v := 2) C 1089 dL_law_1088 rfl rfl ?_
  refine G_iadd C 1090 dL_law_1089 rfl (fun x1089 ex1089 => ?_)
  have Nx1089 : x1089 = nI (i + 2) := g_addN ex1089 Ew rfl
  refine L_sld C 1091 hX hbl hbA Nx1089 (by omega) hLn dL_law_1090 rfl ?_
  refine L_Mi (n := 2) C 1094 ⟨w_1204, by decide +kernel, by decide +kernel, by decide +kernel, by decide⟩ ⟨w_1201, w_1202, w_1203, w_18⟩ (by omega) rfl (c_X11_drawn 0 TX P B τ hM (xs (i + 1)) (xs (i + 2))) rfl rfl rfl (Nat.le_of_ble_eq_true rfl) rfl dL_law_1091 rfl z1 hzM (fun r2 s2 h2 z2 => ?_)
  obtain ⟨hR2, hr2⟩ := h2
  refine G_icmp_eq C 1414 1097 dL_law_1094 rfl rfl (fun _ => hk _ _ _ _ _ hR1 hR2 z1 z2) (fun c => absurd (hr1.trans hr2.symm) c)
set_option maxHeartbeats 4000000 in
set_option maxRecDepth 100000 in
theorem law_28 {E : gE} {d : Nat} {Q : State → Prop} (C : gCx SL E RL cL_law 4 ret d) (hd : 60 ≤ d) {b Ln i : Nat} {xs : Nat → Int32} (hX : va_X b Ln xs (e_s E) (e_s E).heap) (hbl : b < (e_s E).heap.size) (hbA : ¬ gA SL (e_ad E) b) (hLn : Ln ≤ 3584) {w : Int32} (Ew : w = nI i) (hi : i + 7 ≤ Ln) {TX : gTX} {P B σ τ : gS} (hC : RC TX P B σ) (hM : RM TX P B τ) (hzC : gz SC σ) (hzM : gz SM τ) (hk : ∀ (TX : gTX) (P B σ τ : gS), RC TX P B σ → RM TX P B τ → gz SC σ → gz SM τ → GW SL E Q 1414 [some (.ref b), some (.ref (e_ad E 0)), some (.ref (e_ad E 72)), some (.int w)] [] (gcat σ τ)) : GW SL E Q 1099 [some (.ref b), some (.ref (e_ad E 0)), some (.ref (e_ad E 72)), some (.int w)] [] (gcat σ τ) := by
  refine G_aload_n (i := 1) C 1100 dL_law_1099 rfl rfl rfl ?_
  refine G_aload_n (i := 0) C 1101 dL_law_1100 rfl rfl rfl ?_
  refine G_iload_n (i := 3) C 1102 dL_law_1101 rfl rfl rfl ?_
  refine G_iconst (v := 1) C 1103 dL_law_1102 rfl rfl ?_
  refine G_iadd C 1104 dL_law_1103 rfl (fun x1103 ex1103 => ?_)
  have Nx1103 : x1103 = nI (i + 1) := g_addN ex1103 Ew rfl
  refine L_sld C 1105 hX hbl hbA Nx1103 (by omega) hLn dL_law_1104 rfl ?_
  refine G_aload_n (i := 0) C 1106 dL_law_1105 rfl rfl rfl ?_
  refine G_iload_n (i := 3) C 1107 dL_law_1106 rfl rfl rfl ?_
  refine G_iconst (v := 2) C 1108 dL_law_1107 rfl rfl ?_
  refine G_iadd C 1109 dL_law_1108 rfl (fun x1108 ex1108 => ?_)
  have Nx1108 : x1108 = nI (i + 2) := g_addN ex1108 Ew rfl
  refine L_sld C 1110 hX hbl hbA Nx1108 (by omega) hLn dL_law_1109 rfl ?_
  refine G_aload_n (i := 0) C 1111 dL_law_1110 rfl rfl rfl ?_
  refine G_iload_n (i := 3) C 1112 dL_law_1111 rfl rfl rfl ?_
  refine G_iconst (v := 3) C 1113 dL_law_1112 rfl rfl ?_
  refine G_iadd C 1114 dL_law_1113 rfl (fun x1113 ex1113 => ?_)
  have Nx1113 : x1113 = nI (i + 3) := g_addN ex1113 Ew rfl
  refine L_sld C 1115 hX hbl hbA Nx1113 (by omega) hLn dL_law_1114 rfl ?_
  refine G_aload_n (i := 0) C 1116 dL_law_1115 rfl rfl rfl ?_
  refine G_iload_n (i := 3) C 1117 dL_law_1116 rfl rfl rfl ?_
  refine G_iconst (v := 4) C 1118 dL_law_1117 rfl rfl ?_
  refine G_iadd C 1119 dL_law_1118 rfl (fun x1118 ex1118 => ?_)
  have Nx1118 : x1118 = nI (i + 4) := g_addN ex1118 Ew rfl
  refine L_sld C 1120 hX hbl hbA Nx1118 (by omega) hLn dL_law_1119 rfl ?_
  refine L_Cl (n := 4) C 1123 ⟨w_759, by decide +kernel, by decide +kernel, by decide +kernel, by decide⟩ ⟨w_756, w_757, w_758, w_1⟩ (by omega) rfl (c_X10_odds 0 TX P B σ hC (xs (i + 1)) (xs (i + 2)) (xs (i + 3)) (xs (i + 4))) rfl rfl rfl (Nat.le_of_ble_eq_true rfl) rfl dL_law_1120 rfl hzC hzM (fun r1 s1 h1 z1 => ?_)
  obtain ⟨hR1, hr1⟩ := h1
  refine G_aload_n (i := 2) C 1124 dL_law_1123 rfl rfl rfl ?_
  refine G_aload_n (i := 0) C 1125 dL_law_1124 rfl rfl rfl ?_
  refine G_iload_n (i := 3) C 1126 dL_law_1125 rfl rfl rfl ?_
  refine G_iconst (v := 1) C 1127 dL_law_1126 rfl rfl ?_
  refine G_iadd C 1128 dL_law_1127 rfl (fun x1127 ex1127 => ?_)
  have Nx1127 : x1127 = nI (i + 1) := g_addN ex1127 Ew rfl
  refine L_sld C 1129 hX hbl hbA Nx1127 (by omega) hLn dL_law_1128 rfl ?_
  refine G_aload_n (i := 0) C 1130 dL_law_1129 rfl rfl rfl ?_
  refine G_iload_n (i := 3) C 1131 dL_law_1130 rfl rfl rfl ?_
  refine G_iconst (v := 2) C 1132 dL_law_1131 rfl rfl ?_
  refine G_iadd C 1133 dL_law_1132 rfl (fun x1132 ex1132 => ?_)
  have Nx1132 : x1132 = nI (i + 2) := g_addN ex1132 Ew rfl
  refine L_sld C 1134 hX hbl hbA Nx1132 (by omega) hLn dL_law_1133 rfl ?_
  refine G_aload_n (i := 0) C 1135 dL_law_1134 rfl rfl rfl ?_
  refine G_iload_n (i := 3) C 1136 dL_law_1135 rfl rfl rfl ?_
  refine G_iconst (v := 3) C 1137 dL_law_1136 rfl rfl ?_
  refine G_iadd C 1138 dL_law_1137 rfl (fun x1137 ex1137 => ?_)
  have Nx1137 : x1137 = nI (i + 3) := g_addN ex1137 Ew rfl
  refine L_sld C 1139 hX hbl hbA Nx1137 (by omega) hLn dL_law_1138 rfl ?_
  refine G_aload_n (i := 0) C 1140 dL_law_1139 rfl rfl rfl ?_
  refine G_iload_n (i := 3) C 1141 dL_law_1140 rfl rfl rfl ?_
  refine G_iconst (v := 4) C 1142 dL_law_1141 rfl rfl ?_
  refine G_iadd C 1143 dL_law_1142 rfl (fun x1142 ex1142 => ?_)
  have Nx1142 : x1142 = nI (i + 4) := g_addN ex1142 Ew rfl
  refine L_sld C 1144 hX hbl hbA Nx1142 (by omega) hLn dL_law_1143 rfl ?_
  refine L_Ml (n := 4) C 1147 ⟨w_1217, by decide +kernel, by decide +kernel, by decide +kernel, by decide⟩ ⟨w_1214, w_1215, w_1216, w_18⟩ (by omega) rfl (c_X11_odds 0 TX P B τ hM (xs (i + 1)) (xs (i + 2)) (xs (i + 3)) (xs (i + 4))) rfl rfl rfl (Nat.le_of_ble_eq_true rfl) rfl dL_law_1144 rfl z1 hzM (fun r2 s2 h2 z2 => ?_)
  obtain ⟨hR2, hr2⟩ := h2
  refine G_lcmp C 1148 dL_law_1147 rfl (fun x ex => ?_)
  refine G_if_eq C 1414 1151 dL_law_1148 rfl rfl (fun _ => hk _ _ _ _ _ hR1 hR2 z1 z2) (fun c => absurd (ex.trans (L_cmp (hr1.trans hr2.symm))) c)
set_option maxHeartbeats 4000000 in
set_option maxRecDepth 100000 in
theorem law_29 {E : gE} {d : Nat} {Q : State → Prop} (C : gCx SL E RL cL_law 4 ret d) (hd : 60 ≤ d) {b Ln i : Nat} {xs : Nat → Int32} (hX : va_X b Ln xs (e_s E) (e_s E).heap) (hbl : b < (e_s E).heap.size) (hbA : ¬ gA SL (e_ad E) b) (hLn : Ln ≤ 3584) {w : Int32} (Ew : w = nI i) (hi : i + 7 ≤ Ln) {TX : gTX} {P B σ τ : gS} (hC : RC TX P B σ) (hM : RM TX P B τ) (hzC : gz SC σ) (hzM : gz SM τ) (hk : ∀ (TX : gTX) (P B σ τ : gS), RC TX P B σ → RM TX P B τ → gz SC σ → gz SM τ → GW SL E Q 1414 [some (.ref b), some (.ref (e_ad E 0)), some (.ref (e_ad E 72)), some (.int w)] [] (gcat σ τ)) : GW SL E Q 1153 [some (.ref b), some (.ref (e_ad E 0)), some (.ref (e_ad E 72)), some (.int w)] [] (gcat σ τ) := by
  refine G_aload_n (i := 1) C 1154 dL_law_1153 rfl rfl rfl ?_
  refine L_Ci (n := 0) C 1157 ⟨w_763, by decide +kernel, by decide +kernel, by decide +kernel, by decide⟩ ⟨w_760, w_761, w_762, w_1⟩ (by omega) rfl (c_X10_image 0 TX P B σ hC ) rfl rfl rfl (Nat.le_of_ble_eq_true rfl) rfl dL_law_1154 rfl hzC hzM (fun r1 s1 h1 z1 => ?_)
  obtain ⟨hR1, hr1⟩ := h1
  refine G_aload_n (i := 2) C 1158 dL_law_1157 rfl rfl rfl ?_
  refine L_Mi (n := 0) C 1161 ⟨w_1221, by decide +kernel, by decide +kernel, by decide +kernel, by decide⟩ ⟨w_1218, w_1219, w_1220, w_18⟩ (by omega) rfl (c_X11_image 0 TX P B τ hM ) rfl rfl rfl (Nat.le_of_ble_eq_true rfl) rfl dL_law_1158 rfl z1 hzM (fun r2 s2 h2 z2 => ?_)
  obtain ⟨hR2, hr2⟩ := h2
  refine G_icmp_eq C 1414 1164 dL_law_1161 rfl rfl (fun _ => hk _ _ _ _ _ hR1 hR2 z1 z2) (fun c => absurd (hr1.trans hr2.symm) c)
set_option maxHeartbeats 4000000 in
set_option maxRecDepth 100000 in
theorem law_30 {E : gE} {d : Nat} {Q : State → Prop} (C : gCx SL E RL cL_law 4 ret d) (hd : 60 ≤ d) {b Ln i : Nat} {xs : Nat → Int32} (hX : va_X b Ln xs (e_s E) (e_s E).heap) (hbl : b < (e_s E).heap.size) (hbA : ¬ gA SL (e_ad E) b) (hLn : Ln ≤ 3584) {w : Int32} (Ew : w = nI i) (hi : i + 7 ≤ Ln) {TX : gTX} {P B σ τ : gS} (hC : RC TX P B σ) (hM : RM TX P B τ) (hzC : gz SC σ) (hzM : gz SM τ) (hk : ∀ (TX : gTX) (P B σ τ : gS), RC TX P B σ → RM TX P B τ → gz SC σ → gz SM τ → GW SL E Q 1414 [some (.ref b), some (.ref (e_ad E 0)), some (.ref (e_ad E 72)), some (.int w)] [] (gcat σ τ)) : GW SL E Q 1166 [some (.ref b), some (.ref (e_ad E 0)), some (.ref (e_ad E 72)), some (.int w)] [] (gcat σ τ) := by
  refine G_aload_n (i := 1) C 1167 dL_law_1166 rfl rfl rfl ?_
  refine L_Ci (n := 0) C 1170 ⟨w_767, by decide +kernel, by decide +kernel, by decide +kernel, by decide⟩ ⟨w_764, w_765, w_766, w_1⟩ (by omega) rfl (c_X10_back 0 TX P B σ hC ) rfl rfl rfl (Nat.le_of_ble_eq_true rfl) rfl dL_law_1167 rfl hzC hzM (fun r1 s1 h1 z1 => ?_)
  obtain ⟨hR1, hr1⟩ := h1
  refine G_aload_n (i := 2) C 1171 dL_law_1170 rfl rfl rfl ?_
  refine L_Mi (n := 0) C 1174 ⟨w_1225, by decide +kernel, by decide +kernel, by decide +kernel, by decide⟩ ⟨w_1222, w_1223, w_1224, w_18⟩ (by omega) rfl (c_X11_back 0 TX P B τ hM ) rfl rfl rfl (Nat.le_of_ble_eq_true rfl) rfl dL_law_1171 rfl z1 hzM (fun r2 s2 h2 z2 => ?_)
  obtain ⟨hR2, hr2⟩ := h2
  refine G_icmp_eq C 1414 1177 dL_law_1174 rfl rfl (fun _ => hk _ _ _ _ _ hR1 hR2 z1 z2) (fun c => absurd (hr1.trans hr2.symm) c)
set_option maxHeartbeats 4000000 in
set_option maxRecDepth 100000 in
theorem law_31 {E : gE} {d : Nat} {Q : State → Prop} (C : gCx SL E RL cL_law 4 ret d) (hd : 60 ≤ d) {b Ln i : Nat} {xs : Nat → Int32} (hX : va_X b Ln xs (e_s E) (e_s E).heap) (hbl : b < (e_s E).heap.size) (hbA : ¬ gA SL (e_ad E) b) (hLn : Ln ≤ 3584) {w : Int32} (Ew : w = nI i) (hi : i + 7 ≤ Ln) {TX : gTX} {P B σ τ : gS} (hC : RC TX P B σ) (hM : RM TX P B τ) (hzC : gz SC σ) (hzM : gz SM τ) (hk : ∀ (TX : gTX) (P B σ τ : gS), RC TX P B σ → RM TX P B τ → gz SC σ → gz SM τ → GW SL E Q 1414 [some (.ref b), some (.ref (e_ad E 0)), some (.ref (e_ad E 72)), some (.int w)] [] (gcat σ τ)) : GW SL E Q 1179 [some (.ref b), some (.ref (e_ad E 0)), some (.ref (e_ad E 72)), some (.int w)] [] (gcat σ τ) := by
  refine G_aload_n (i := 1) C 1180 dL_law_1179 rfl rfl rfl ?_
  refine G_aload_n (i := 0) C 1181 dL_law_1180 rfl rfl rfl ?_
  refine G_iload_n (i := 3) C 1182 dL_law_1181 rfl rfl rfl ?_
  refine G_iconst (v := 1) C 1183 dL_law_1182 rfl rfl ?_
  refine G_iadd C 1184 dL_law_1183 rfl (fun x1183 ex1183 => ?_)
  have Nx1183 : x1183 = nI (i + 1) := g_addN ex1183 Ew rfl
  refine L_sld C 1185 hX hbl hbA Nx1183 (by omega) hLn dL_law_1184 rfl ?_
  refine G_aload_n (i := 0) C 1186 dL_law_1185 rfl rfl rfl ?_
  refine G_iload_n (i := 3) C 1187 dL_law_1186 rfl rfl rfl ?_
  refine G_iconst (v := 2) C 1188 dL_law_1187 rfl rfl ?_
  refine G_iadd C 1189 dL_law_1188 rfl (fun x1188 ex1188 => ?_)
  have Nx1188 : x1188 = nI (i + 2) := g_addN ex1188 Ew rfl
  refine L_sld C 1190 hX hbl hbA Nx1188 (by omega) hLn dL_law_1189 rfl ?_
  refine G_aload_n (i := 0) C 1191 dL_law_1190 rfl rfl rfl ?_
  refine G_iload_n (i := 3) C 1192 dL_law_1191 rfl rfl rfl ?_
  refine G_iconst (v := 3) C 1193 dL_law_1192 rfl rfl ?_
  refine G_iadd C 1194 dL_law_1193 rfl (fun x1193 ex1193 => ?_)
  have Nx1193 : x1193 = nI (i + 3) := g_addN ex1193 Ew rfl
  refine L_sld C 1195 hX hbl hbA Nx1193 (by omega) hLn dL_law_1194 rfl ?_
  refine L_Ci (n := 3) C 1198 ⟨w_771, by decide +kernel, by decide +kernel, by decide +kernel, by decide⟩ ⟨w_768, w_769, w_770, w_1⟩ (by omega) rfl (c_X10_sheet 0 TX P B σ hC (xs (i + 1)) (xs (i + 2)) (xs (i + 3))) rfl rfl rfl (Nat.le_of_ble_eq_true rfl) rfl dL_law_1195 rfl hzC hzM (fun r1 s1 h1 z1 => ?_)
  obtain ⟨hR1, hr1⟩ := h1
  refine G_aload_n (i := 2) C 1199 dL_law_1198 rfl rfl rfl ?_
  refine G_aload_n (i := 0) C 1200 dL_law_1199 rfl rfl rfl ?_
  refine G_iload_n (i := 3) C 1201 dL_law_1200 rfl rfl rfl ?_
  refine G_iconst (v := 1) C 1202 dL_law_1201 rfl rfl ?_
  refine G_iadd C 1203 dL_law_1202 rfl (fun x1202 ex1202 => ?_)
  have Nx1202 : x1202 = nI (i + 1) := g_addN ex1202 Ew rfl
  refine L_sld C 1204 hX hbl hbA Nx1202 (by omega) hLn dL_law_1203 rfl ?_
  refine G_aload_n (i := 0) C 1205 dL_law_1204 rfl rfl rfl ?_
  refine G_iload_n (i := 3) C 1206 dL_law_1205 rfl rfl rfl ?_
  refine G_iconst (v := 2) C 1207 dL_law_1206 rfl rfl ?_
  refine G_iadd C 1208 dL_law_1207 rfl (fun x1207 ex1207 => ?_)
  have Nx1207 : x1207 = nI (i + 2) := g_addN ex1207 Ew rfl
  refine L_sld C 1209 hX hbl hbA Nx1207 (by omega) hLn dL_law_1208 rfl ?_
  refine G_aload_n (i := 0) C 1210 dL_law_1209 rfl rfl rfl ?_
  refine G_iload_n (i := 3) C 1211 dL_law_1210 rfl rfl rfl ?_
  refine G_iconst (v := 3) C 1212 dL_law_1211 rfl rfl ?_
  refine G_iadd C 1213 dL_law_1212 rfl (fun x1212 ex1212 => ?_)
  have Nx1212 : x1212 = nI (i + 3) := g_addN ex1212 Ew rfl
  refine L_sld C 1214 hX hbl hbA Nx1212 (by omega) hLn dL_law_1213 rfl ?_
  refine L_Mi (n := 3) C 1217 ⟨w_1229, by decide +kernel, by decide +kernel, by decide +kernel, by decide⟩ ⟨w_1226, w_1227, w_1228, w_18⟩ (by omega) rfl (c_X11_sheet 0 TX P B τ hM (xs (i + 1)) (xs (i + 2)) (xs (i + 3))) rfl rfl rfl (Nat.le_of_ble_eq_true rfl) rfl dL_law_1214 rfl z1 hzM (fun r2 s2 h2 z2 => ?_)
  obtain ⟨hR2, hr2⟩ := h2
  refine G_icmp_eq C 1414 1220 dL_law_1217 rfl rfl (fun _ => hk _ _ _ _ _ hR1 hR2 z1 z2) (fun c => absurd (hr1.trans hr2.symm) c)
set_option maxHeartbeats 4000000 in
set_option maxRecDepth 100000 in
theorem law_32 {E : gE} {d : Nat} {Q : State → Prop} (C : gCx SL E RL cL_law 4 ret d) (hd : 60 ≤ d) {b Ln i : Nat} {xs : Nat → Int32} (hX : va_X b Ln xs (e_s E) (e_s E).heap) (hbl : b < (e_s E).heap.size) (hbA : ¬ gA SL (e_ad E) b) (hLn : Ln ≤ 3584) {w : Int32} (Ew : w = nI i) (hi : i + 7 ≤ Ln) {TX : gTX} {P B σ τ : gS} (hC : RC TX P B σ) (hM : RM TX P B τ) (hzC : gz SC σ) (hzM : gz SM τ) (hk : ∀ (TX : gTX) (P B σ τ : gS), RC TX P B σ → RM TX P B τ → gz SC σ → gz SM τ → GW SL E Q 1414 [some (.ref b), some (.ref (e_ad E 0)), some (.ref (e_ad E 72)), some (.int w)] [] (gcat σ τ)) : GW SL E Q 1222 [some (.ref b), some (.ref (e_ad E 0)), some (.ref (e_ad E 72)), some (.int w)] [] (gcat σ τ) := by
  refine G_aload_n (i := 1) C 1223 dL_law_1222 rfl rfl rfl ?_
  refine G_aload_n (i := 0) C 1224 dL_law_1223 rfl rfl rfl ?_
  refine G_iload_n (i := 3) C 1225 dL_law_1224 rfl rfl rfl ?_
  refine G_iconst (v := 1) C 1226 dL_law_1225 rfl rfl ?_
  refine G_iadd C 1227 dL_law_1226 rfl (fun x1226 ex1226 => ?_)
  have Nx1226 : x1226 = nI (i + 1) := g_addN ex1226 Ew rfl
  refine L_sld C 1228 hX hbl hbA Nx1226 (by omega) hLn dL_law_1227 rfl ?_
  refine G_aload_n (i := 0) C 1229 dL_law_1228 rfl rfl rfl ?_
  refine G_iload_n (i := 3) C 1230 dL_law_1229 rfl rfl rfl ?_
  refine G_iconst (v := 2) C 1231 dL_law_1230 rfl rfl ?_
  refine G_iadd C 1232 dL_law_1231 rfl (fun x1231 ex1231 => ?_)
  have Nx1231 : x1231 = nI (i + 2) := g_addN ex1231 Ew rfl
  refine L_sld C 1233 hX hbl hbA Nx1231 (by omega) hLn dL_law_1232 rfl ?_
  refine G_aload_n (i := 0) C 1234 dL_law_1233 rfl rfl rfl ?_
  refine G_iload_n (i := 3) C 1235 dL_law_1234 rfl rfl rfl ?_
  refine G_iconst (v := 3) C 1236 dL_law_1235 rfl rfl ?_
  refine G_iadd C 1237 dL_law_1236 rfl (fun x1236 ex1236 => ?_)
  have Nx1236 : x1236 = nI (i + 3) := g_addN ex1236 Ew rfl
  refine L_sld C 1238 hX hbl hbA Nx1236 (by omega) hLn dL_law_1237 rfl ?_
  refine L_Ci (n := 3) C 1241 ⟨w_775, by decide +kernel, by decide +kernel, by decide +kernel, by decide⟩ ⟨w_772, w_773, w_774, w_1⟩ (by omega) rfl (c_X10_cell 0 TX P B σ hC (xs (i + 1)) (xs (i + 2)) (xs (i + 3))) rfl rfl rfl (Nat.le_of_ble_eq_true rfl) rfl dL_law_1238 rfl hzC hzM (fun r1 s1 h1 z1 => ?_)
  obtain ⟨hR1, hr1⟩ := h1
  refine G_aload_n (i := 2) C 1242 dL_law_1241 rfl rfl rfl ?_
  refine G_aload_n (i := 0) C 1243 dL_law_1242 rfl rfl rfl ?_
  refine G_iload_n (i := 3) C 1244 dL_law_1243 rfl rfl rfl ?_
  refine G_iconst (v := 1) C 1245 dL_law_1244 rfl rfl ?_
  refine G_iadd C 1246 dL_law_1245 rfl (fun x1245 ex1245 => ?_)
  have Nx1245 : x1245 = nI (i + 1) := g_addN ex1245 Ew rfl
  refine L_sld C 1247 hX hbl hbA Nx1245 (by omega) hLn dL_law_1246 rfl ?_
  refine G_aload_n (i := 0) C 1248 dL_law_1247 rfl rfl rfl ?_
  refine G_iload_n (i := 3) C 1249 dL_law_1248 rfl rfl rfl ?_
  refine G_iconst (v := 2) C 1250 dL_law_1249 rfl rfl ?_
  refine G_iadd C 1251 dL_law_1250 rfl (fun x1250 ex1250 => ?_)
  have Nx1250 : x1250 = nI (i + 2) := g_addN ex1250 Ew rfl
  refine L_sld C 1252 hX hbl hbA Nx1250 (by omega) hLn dL_law_1251 rfl ?_
  refine G_aload_n (i := 0) C 1253 dL_law_1252 rfl rfl rfl ?_
  refine G_iload_n (i := 3) C 1254 dL_law_1253 rfl rfl rfl ?_
  refine G_iconst (v := 3) C 1255 dL_law_1254 rfl rfl ?_
  refine G_iadd C 1256 dL_law_1255 rfl (fun x1255 ex1255 => ?_)
  have Nx1255 : x1255 = nI (i + 3) := g_addN ex1255 Ew rfl
  refine L_sld C 1257 hX hbl hbA Nx1255 (by omega) hLn dL_law_1256 rfl ?_
  refine L_Mi (n := 3) C 1260 ⟨w_1233, by decide +kernel, by decide +kernel, by decide +kernel, by decide⟩ ⟨w_1230, w_1231, w_1232, w_18⟩ (by omega) rfl (c_X11_cell 0 TX P B τ hM (xs (i + 1)) (xs (i + 2)) (xs (i + 3))) rfl rfl rfl (Nat.le_of_ble_eq_true rfl) rfl dL_law_1257 rfl z1 hzM (fun r2 s2 h2 z2 => ?_)
  obtain ⟨hR2, hr2⟩ := h2
  refine G_icmp_eq C 1414 1263 dL_law_1260 rfl rfl (fun _ => hk _ _ _ _ _ hR1 hR2 z1 z2) (fun c => absurd (hr1.trans hr2.symm) c)
set_option maxHeartbeats 4000000 in
set_option maxRecDepth 100000 in
theorem law_33 {E : gE} {d : Nat} {Q : State → Prop} (C : gCx SL E RL cL_law 4 ret d) (hd : 60 ≤ d) {b Ln i : Nat} {xs : Nat → Int32} (hX : va_X b Ln xs (e_s E) (e_s E).heap) (hbl : b < (e_s E).heap.size) (hbA : ¬ gA SL (e_ad E) b) (hLn : Ln ≤ 3584) {w : Int32} (Ew : w = nI i) (hi : i + 7 ≤ Ln) {TX : gTX} {P B σ τ : gS} (hC : RC TX P B σ) (hM : RM TX P B τ) (hzC : gz SC σ) (hzM : gz SM τ) (hk : ∀ (TX : gTX) (P B σ τ : gS), RC TX P B σ → RM TX P B τ → gz SC σ → gz SM τ → GW SL E Q 1414 [some (.ref b), some (.ref (e_ad E 0)), some (.ref (e_ad E 72)), some (.int w)] [] (gcat σ τ)) : GW SL E Q 1265 [some (.ref b), some (.ref (e_ad E 0)), some (.ref (e_ad E 72)), some (.int w)] [] (gcat σ τ) := by
  refine G_aload_n (i := 1) C 1266 dL_law_1265 rfl rfl rfl ?_
  refine G_aload_n (i := 0) C 1267 dL_law_1266 rfl rfl rfl ?_
  refine G_iload_n (i := 3) C 1268 dL_law_1267 rfl rfl rfl ?_
  refine G_iconst (v := 1) C 1269 dL_law_1268 rfl rfl ?_
  refine G_iadd C 1270 dL_law_1269 rfl (fun x1269 ex1269 => ?_)
  have Nx1269 : x1269 = nI (i + 1) := g_addN ex1269 Ew rfl
  refine L_sld C 1271 hX hbl hbA Nx1269 (by omega) hLn dL_law_1270 rfl ?_
  refine G_aload_n (i := 0) C 1272 dL_law_1271 rfl rfl rfl ?_
  refine G_iload_n (i := 3) C 1273 dL_law_1272 rfl rfl rfl ?_
  refine G_iconst (v := 2) C 1274 dL_law_1273 rfl rfl ?_
  refine G_iadd C 1275 dL_law_1274 rfl (fun x1274 ex1274 => ?_)
  have Nx1274 : x1274 = nI (i + 2) := g_addN ex1274 Ew rfl
  refine L_sld C 1276 hX hbl hbA Nx1274 (by omega) hLn dL_law_1275 rfl ?_
  refine G_aload_n (i := 0) C 1277 dL_law_1276 rfl rfl rfl ?_
  refine G_iload_n (i := 3) C 1278 dL_law_1277 rfl rfl rfl ?_
  refine G_iconst (v := 3) C 1279 dL_law_1278 rfl rfl ?_
  refine G_iadd C 1280 dL_law_1279 rfl (fun x1279 ex1279 => ?_)
  have Nx1279 : x1279 = nI (i + 3) := g_addN ex1279 Ew rfl
  refine L_sld C 1281 hX hbl hbA Nx1279 (by omega) hLn dL_law_1280 rfl ?_
  refine G_aload_n (i := 0) C 1282 dL_law_1281 rfl rfl rfl ?_
  refine G_iload_n (i := 3) C 1283 dL_law_1282 rfl rfl rfl ?_
  refine G_iconst (v := 4) C 1284 dL_law_1283 rfl rfl ?_
  refine G_iadd C 1285 dL_law_1284 rfl (fun x1284 ex1284 => ?_)
  have Nx1284 : x1284 = nI (i + 4) := g_addN ex1284 Ew rfl
  refine L_sld C 1286 hX hbl hbA Nx1284 (by omega) hLn dL_law_1285 rfl ?_
  refine G_aload_n (i := 0) C 1287 dL_law_1286 rfl rfl rfl ?_
  refine G_iload_n (i := 3) C 1288 dL_law_1287 rfl rfl rfl ?_
  refine G_iconst (v := 5) C 1289 dL_law_1288 rfl rfl ?_
  refine G_iadd C 1290 dL_law_1289 rfl (fun x1289 ex1289 => ?_)
  have Nx1289 : x1289 = nI (i + 5) := g_addN ex1289 Ew rfl
  refine L_sld C 1291 hX hbl hbA Nx1289 (by omega) hLn dL_law_1290 rfl ?_
  refine L_Ci (n := 5) C 1294 ⟨w_779, by decide +kernel, by decide +kernel, by decide +kernel, by decide⟩ ⟨w_776, w_777, w_778, w_1⟩ (by omega) rfl (c_X10_copy 0 TX P B σ hC (xs (i + 1)) (xs (i + 2)) (xs (i + 3)) (xs (i + 4)) (xs (i + 5))) rfl rfl rfl (Nat.le_of_ble_eq_true rfl) rfl dL_law_1291 rfl hzC hzM (fun r1 s1 h1 z1 => ?_)
  obtain ⟨hR1, hr1⟩ := h1
  refine G_aload_n (i := 2) C 1295 dL_law_1294 rfl rfl rfl ?_
  refine G_aload_n (i := 0) C 1296 dL_law_1295 rfl rfl rfl ?_
  refine G_iload_n (i := 3) C 1297 dL_law_1296 rfl rfl rfl ?_
  refine G_iconst (v := 1) C 1298 dL_law_1297 rfl rfl ?_
  refine G_iadd C 1299 dL_law_1298 rfl (fun x1298 ex1298 => ?_)
  have Nx1298 : x1298 = nI (i + 1) := g_addN ex1298 Ew rfl
  refine L_sld C 1300 hX hbl hbA Nx1298 (by omega) hLn dL_law_1299 rfl ?_
  refine G_aload_n (i := 0) C 1301 dL_law_1300 rfl rfl rfl ?_
  refine G_iload_n (i := 3) C 1302 dL_law_1301 rfl rfl rfl ?_
  refine G_iconst (v := 2) C 1303 dL_law_1302 rfl rfl ?_
  refine G_iadd C 1304 dL_law_1303 rfl (fun x1303 ex1303 => ?_)
  have Nx1303 : x1303 = nI (i + 2) := g_addN ex1303 Ew rfl
  refine L_sld C 1305 hX hbl hbA Nx1303 (by omega) hLn dL_law_1304 rfl ?_
  refine G_aload_n (i := 0) C 1306 dL_law_1305 rfl rfl rfl ?_
  refine G_iload_n (i := 3) C 1307 dL_law_1306 rfl rfl rfl ?_
  refine G_iconst (v := 3) C 1308 dL_law_1307 rfl rfl ?_
  refine G_iadd C 1309 dL_law_1308 rfl (fun x1308 ex1308 => ?_)
  have Nx1308 : x1308 = nI (i + 3) := g_addN ex1308 Ew rfl
  refine L_sld C 1310 hX hbl hbA Nx1308 (by omega) hLn dL_law_1309 rfl ?_
  refine G_aload_n (i := 0) C 1311 dL_law_1310 rfl rfl rfl ?_
  refine G_iload_n (i := 3) C 1312 dL_law_1311 rfl rfl rfl ?_
  refine G_iconst (v := 4) C 1313 dL_law_1312 rfl rfl ?_
  refine G_iadd C 1314 dL_law_1313 rfl (fun x1313 ex1313 => ?_)
  have Nx1313 : x1313 = nI (i + 4) := g_addN ex1313 Ew rfl
  refine L_sld C 1315 hX hbl hbA Nx1313 (by omega) hLn dL_law_1314 rfl ?_
  refine G_aload_n (i := 0) C 1316 dL_law_1315 rfl rfl rfl ?_
  refine G_iload_n (i := 3) C 1317 dL_law_1316 rfl rfl rfl ?_
  refine G_iconst (v := 5) C 1318 dL_law_1317 rfl rfl ?_
  refine G_iadd C 1319 dL_law_1318 rfl (fun x1318 ex1318 => ?_)
  have Nx1318 : x1318 = nI (i + 5) := g_addN ex1318 Ew rfl
  refine L_sld C 1320 hX hbl hbA Nx1318 (by omega) hLn dL_law_1319 rfl ?_
  refine L_Mi (n := 5) C 1323 ⟨w_1237, by decide +kernel, by decide +kernel, by decide +kernel, by decide⟩ ⟨w_1234, w_1235, w_1236, w_18⟩ (by omega) rfl (c_X11_copy 0 TX P B τ hM (xs (i + 1)) (xs (i + 2)) (xs (i + 3)) (xs (i + 4)) (xs (i + 5))) rfl rfl rfl (Nat.le_of_ble_eq_true rfl) rfl dL_law_1320 rfl z1 hzM (fun r2 s2 h2 z2 => ?_)
  obtain ⟨hR2, hr2⟩ := h2
  refine G_icmp_eq C 1414 1326 dL_law_1323 rfl rfl (fun _ => hk _ _ _ _ _ hR1 hR2 z1 z2) (fun c => absurd (hr1.trans hr2.symm) c)
set_option maxHeartbeats 4000000 in
set_option maxRecDepth 100000 in
theorem law_34 {E : gE} {d : Nat} {Q : State → Prop} (C : gCx SL E RL cL_law 4 ret d) (hd : 60 ≤ d) {b Ln i : Nat} {xs : Nat → Int32} (hX : va_X b Ln xs (e_s E) (e_s E).heap) (hbl : b < (e_s E).heap.size) (hbA : ¬ gA SL (e_ad E) b) (hLn : Ln ≤ 3584) {w : Int32} (Ew : w = nI i) (hi : i + 7 ≤ Ln) {TX : gTX} {P B σ τ : gS} (hC : RC TX P B σ) (hM : RM TX P B τ) (hzC : gz SC σ) (hzM : gz SM τ) (hk : ∀ (TX : gTX) (P B σ τ : gS), RC TX P B σ → RM TX P B τ → gz SC σ → gz SM τ → GW SL E Q 1414 [some (.ref b), some (.ref (e_ad E 0)), some (.ref (e_ad E 72)), some (.int w)] [] (gcat σ τ)) : GW SL E Q 1328 [some (.ref b), some (.ref (e_ad E 0)), some (.ref (e_ad E 72)), some (.int w)] [] (gcat σ τ) := by
  refine G_aload_n (i := 1) C 1329 dL_law_1328 rfl rfl rfl ?_
  refine G_aload_n (i := 0) C 1330 dL_law_1329 rfl rfl rfl ?_
  refine G_iload_n (i := 3) C 1331 dL_law_1330 rfl rfl rfl ?_
  refine G_iconst (v := 1) C 1332 dL_law_1331 rfl rfl ?_
  refine G_iadd C 1333 dL_law_1332 rfl (fun x1332 ex1332 => ?_)
  have Nx1332 : x1332 = nI (i + 1) := g_addN ex1332 Ew rfl
  refine L_sld C 1334 hX hbl hbA Nx1332 (by omega) hLn dL_law_1333 rfl ?_
  refine G_aload_n (i := 0) C 1335 dL_law_1334 rfl rfl rfl ?_
  refine G_iload_n (i := 3) C 1336 dL_law_1335 rfl rfl rfl ?_
  refine G_iconst (v := 2) C 1337 dL_law_1336 rfl rfl ?_
  refine G_iadd C 1338 dL_law_1337 rfl (fun x1337 ex1337 => ?_)
  have Nx1337 : x1337 = nI (i + 2) := g_addN ex1337 Ew rfl
  refine L_sld C 1339 hX hbl hbA Nx1337 (by omega) hLn dL_law_1338 rfl ?_
  refine G_aload_n (i := 0) C 1340 dL_law_1339 rfl rfl rfl ?_
  refine G_iload_n (i := 3) C 1341 dL_law_1340 rfl rfl rfl ?_
  refine G_iconst (v := 3) C 1342 dL_law_1341 rfl rfl ?_
  refine G_iadd C 1343 dL_law_1342 rfl (fun x1342 ex1342 => ?_)
  have Nx1342 : x1342 = nI (i + 3) := g_addN ex1342 Ew rfl
  refine L_sld C 1344 hX hbl hbA Nx1342 (by omega) hLn dL_law_1343 rfl ?_
  refine G_aload_n (i := 0) C 1345 dL_law_1344 rfl rfl rfl ?_
  refine G_iload_n (i := 3) C 1346 dL_law_1345 rfl rfl rfl ?_
  refine G_iconst (v := 4) C 1347 dL_law_1346 rfl rfl ?_
  refine G_iadd C 1348 dL_law_1347 rfl (fun x1347 ex1347 => ?_)
  have Nx1347 : x1347 = nI (i + 4) := g_addN ex1347 Ew rfl
  refine L_sld C 1349 hX hbl hbA Nx1347 (by omega) hLn dL_law_1348 rfl ?_
  refine L_Ci (n := 4) C 1352 ⟨w_788, by decide +kernel, by decide +kernel, by decide +kernel, by decide⟩ ⟨w_785, w_786, w_787, w_1⟩ (by omega) rfl (c_X10_peopleBy 0 TX P B σ hC (xs (i + 1)) (xs (i + 2)) (xs (i + 3)) (xs (i + 4))) rfl rfl rfl (Nat.le_of_ble_eq_true rfl) rfl dL_law_1349 rfl hzC hzM (fun r1 s1 h1 z1 => ?_)
  obtain ⟨hR1, hr1⟩ := h1
  refine G_aload_n (i := 2) C 1353 dL_law_1352 rfl rfl rfl ?_
  refine G_aload_n (i := 0) C 1354 dL_law_1353 rfl rfl rfl ?_
  refine G_iload_n (i := 3) C 1355 dL_law_1354 rfl rfl rfl ?_
  refine G_iconst (v := 1) C 1356 dL_law_1355 rfl rfl ?_
  refine G_iadd C 1357 dL_law_1356 rfl (fun x1356 ex1356 => ?_)
  have Nx1356 : x1356 = nI (i + 1) := g_addN ex1356 Ew rfl
  refine L_sld C 1358 hX hbl hbA Nx1356 (by omega) hLn dL_law_1357 rfl ?_
  refine G_aload_n (i := 0) C 1359 dL_law_1358 rfl rfl rfl ?_
  refine G_iload_n (i := 3) C 1360 dL_law_1359 rfl rfl rfl ?_
  refine G_iconst (v := 2) C 1361 dL_law_1360 rfl rfl ?_
  refine G_iadd C 1362 dL_law_1361 rfl (fun x1361 ex1361 => ?_)
  have Nx1361 : x1361 = nI (i + 2) := g_addN ex1361 Ew rfl
  refine L_sld C 1363 hX hbl hbA Nx1361 (by omega) hLn dL_law_1362 rfl ?_
  refine G_aload_n (i := 0) C 1364 dL_law_1363 rfl rfl rfl ?_
  refine G_iload_n (i := 3) C 1365 dL_law_1364 rfl rfl rfl ?_
  refine G_iconst (v := 3) C 1366 dL_law_1365 rfl rfl ?_
  refine G_iadd C 1367 dL_law_1366 rfl (fun x1366 ex1366 => ?_)
  have Nx1366 : x1366 = nI (i + 3) := g_addN ex1366 Ew rfl
  refine L_sld C 1368 hX hbl hbA Nx1366 (by omega) hLn dL_law_1367 rfl ?_
  refine G_aload_n (i := 0) C 1369 dL_law_1368 rfl rfl rfl ?_
  refine G_iload_n (i := 3) C 1370 dL_law_1369 rfl rfl rfl ?_
  refine G_iconst (v := 4) C 1371 dL_law_1370 rfl rfl ?_
  refine G_iadd C 1372 dL_law_1371 rfl (fun x1371 ex1371 => ?_)
  have Nx1371 : x1371 = nI (i + 4) := g_addN ex1371 Ew rfl
  refine L_sld C 1373 hX hbl hbA Nx1371 (by omega) hLn dL_law_1372 rfl ?_
  refine L_Mi (n := 4) C 1376 ⟨w_1241, by decide +kernel, by decide +kernel, by decide +kernel, by decide⟩ ⟨w_1238, w_1239, w_1240, w_18⟩ (by omega) rfl (c_X11_peopleBy 0 TX P B τ hM (xs (i + 1)) (xs (i + 2)) (xs (i + 3)) (xs (i + 4))) rfl rfl rfl (Nat.le_of_ble_eq_true rfl) rfl dL_law_1373 rfl z1 hzM (fun r2 s2 h2 z2 => ?_)
  obtain ⟨hR2, hr2⟩ := h2
  refine G_icmp_eq C 1414 1379 dL_law_1376 rfl rfl (fun _ => hk _ _ _ _ _ hR1 hR2 z1 z2) (fun c => absurd (hr1.trans hr2.symm) c)
set_option maxHeartbeats 4000000 in
set_option maxRecDepth 100000 in
theorem law_35 {E : gE} {d : Nat} {Q : State → Prop} (C : gCx SL E RL cL_law 4 ret d) (hd : 60 ≤ d) {b Ln i : Nat} {xs : Nat → Int32} (hX : va_X b Ln xs (e_s E) (e_s E).heap) (hbl : b < (e_s E).heap.size) (hbA : ¬ gA SL (e_ad E) b) (hLn : Ln ≤ 3584) {w : Int32} (Ew : w = nI i) (hi : i + 7 ≤ Ln) {TX : gTX} {P B σ τ : gS} (hC : RC TX P B σ) (hM : RM TX P B τ) (hzC : gz SC σ) (hzM : gz SM τ) (hk : ∀ (TX : gTX) (P B σ τ : gS), RC TX P B σ → RM TX P B τ → gz SC σ → gz SM τ → GW SL E Q 1414 [some (.ref b), some (.ref (e_ad E 0)), some (.ref (e_ad E 72)), some (.int w)] [] (gcat σ τ)) : GW SL E Q 1381 [some (.ref b), some (.ref (e_ad E 0)), some (.ref (e_ad E 72)), some (.int w)] [] (gcat σ τ) := by
  refine G_aload_n (i := 1) C 1382 dL_law_1381 rfl rfl rfl ?_
  refine G_aload_n (i := 0) C 1383 dL_law_1382 rfl rfl rfl ?_
  refine G_iload_n (i := 3) C 1384 dL_law_1383 rfl rfl rfl ?_
  refine G_iconst (v := 1) C 1385 dL_law_1384 rfl rfl ?_
  refine G_iadd C 1386 dL_law_1385 rfl (fun x1385 ex1385 => ?_)
  have Nx1385 : x1385 = nI (i + 1) := g_addN ex1385 Ew rfl
  refine L_sld C 1387 hX hbl hbA Nx1385 (by omega) hLn dL_law_1386 rfl ?_
  refine G_aload_n (i := 0) C 1388 dL_law_1387 rfl rfl rfl ?_
  refine G_iload_n (i := 3) C 1389 dL_law_1388 rfl rfl rfl ?_
  refine G_iconst (v := 2) C 1390 dL_law_1389 rfl rfl ?_
  refine G_iadd C 1391 dL_law_1390 rfl (fun x1390 ex1390 => ?_)
  have Nx1390 : x1390 = nI (i + 2) := g_addN ex1390 Ew rfl
  refine L_sld C 1392 hX hbl hbA Nx1390 (by omega) hLn dL_law_1391 rfl ?_
  refine L_Ci (n := 2) C 1395 ⟨w_793, by decide +kernel, by decide +kernel, by decide +kernel, by decide⟩ ⟨w_790, w_791, w_792, w_1⟩ (by omega) rfl (c_X10_taken 0 TX P B σ hC (xs (i + 1)) (xs (i + 2))) rfl rfl rfl (Nat.le_of_ble_eq_true rfl) rfl dL_law_1392 rfl hzC hzM (fun r1 s1 h1 z1 => ?_)
  obtain ⟨hR1, hr1⟩ := h1
  refine G_aload_n (i := 2) C 1396 dL_law_1395 rfl rfl rfl ?_
  refine G_aload_n (i := 0) C 1397 dL_law_1396 rfl rfl rfl ?_
  refine G_iload_n (i := 3) C 1398 dL_law_1397 rfl rfl rfl ?_
  refine G_iconst (v := 1) C 1399 dL_law_1398 rfl rfl ?_
  refine G_iadd C 1400 dL_law_1399 rfl (fun x1399 ex1399 => ?_)
  have Nx1399 : x1399 = nI (i + 1) := g_addN ex1399 Ew rfl
  refine L_sld C 1401 hX hbl hbA Nx1399 (by omega) hLn dL_law_1400 rfl ?_
  refine G_aload_n (i := 0) C 1402 dL_law_1401 rfl rfl rfl ?_
  refine G_iload_n (i := 3) C 1403 dL_law_1402 rfl rfl rfl ?_
  refine G_iconst (v := 2) C 1404 dL_law_1403 rfl rfl ?_
  refine G_iadd C 1405 dL_law_1404 rfl (fun x1404 ex1404 => ?_)
  have Nx1404 : x1404 = nI (i + 2) := g_addN ex1404 Ew rfl
  refine L_sld C 1406 hX hbl hbA Nx1404 (by omega) hLn dL_law_1405 rfl ?_
  refine L_Mi (n := 2) C 1409 ⟨w_1246, by decide +kernel, by decide +kernel, by decide +kernel, by decide⟩ ⟨w_1243, w_1244, w_1245, w_18⟩ (by omega) rfl (c_X11_taken 0 TX P B τ hM (xs (i + 1)) (xs (i + 2))) rfl rfl rfl (Nat.le_of_ble_eq_true rfl) rfl dL_law_1406 rfl z1 hzM (fun r2 s2 h2 z2 => ?_)
  obtain ⟨hR2, hr2⟩ := h2
  refine G_icmp_eq C 1414 1412 dL_law_1409 rfl rfl (fun _ => hk _ _ _ _ _ hR1 hR2 z1 z2) (fun c => absurd (hr1.trans hr2.symm) c)
