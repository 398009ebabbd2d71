/-! ===== what stands where in the law (written by wip/whole/gen80.py) ===== -/
theorem k219_0 : mj_look (mj_prog 219) 0 = some (.new 7, 3, 11, 0) := by decide +kernel
theorem k219_3 : mj_look (mj_prog 219) 3 = some (.dup, 1, 0, 0) := by decide +kernel
theorem k219_4 : mj_look (mj_prog 219) 4 = some (.invokespecial 9, 3, 0, 0) := by decide +kernel
theorem k219_7 : mj_look (mj_prog 219) 7 = some (.astore_n 1, 1, 0, 0) := by decide +kernel
theorem k219_8 : mj_look (mj_prog 219) 8 = some (.new 10, 3, 12, 0) := by decide +kernel
theorem k219_11 : mj_look (mj_prog 219) 11 = some (.dup, 1, 0, 0) := by decide +kernel
theorem k219_12 : mj_look (mj_prog 219) 12 = some (.invokespecial 12, 3, 132, 0) := by decide +kernel
theorem k219_15 : mj_look (mj_prog 219) 15 = some (.astore_n 2, 1, 0, 0) := by decide +kernel
theorem k219_16 : mj_look (mj_prog 219) 16 = some (.iconst 0, 1, 0, 0) := by decide +kernel
theorem k219_17 : mj_look (mj_prog 219) 17 = some (.istore_n 3, 1, 0, 0) := by decide +kernel
theorem k219_18 : mj_look (mj_prog 219) 18 = some (.iload_n 3, 1, 0, 0) := by decide +kernel
theorem k219_19 : mj_look (mj_prog 219) 19 = some (.aload_n 0, 1, 0, 0) := by decide +kernel
theorem k219_20 : mj_look (mj_prog 219) 20 = some (.arraylength, 1, 0, 0) := by decide +kernel
theorem k219_21 : mj_look (mj_prog 219) 21 = some (.bipush 6, 2, 0, 0) := by decide +kernel
theorem k219_23 : mj_look (mj_prog 219) 23 = some (.isub, 1, 0, 0) := by decide +kernel
theorem k219_24 : mj_look (mj_prog 219) 24 = some (.if_icmp .gt 1538, 3, 1562, 0) := by decide +kernel
theorem k219_27 : mj_look (mj_prog 219) 27 = some (.aload_n 0, 1, 0, 0) := by decide +kernel
theorem k219_28 : mj_look (mj_prog 219) 28 = some (.iload_n 3, 1, 0, 0) := by decide +kernel
theorem k219_29 : mj_look (mj_prog 219) 29 = some (.iaload, 1, 0, 0) := by decide +kernel
theorem k219_30 : mj_look (mj_prog 219) 30 = some (.bipush 63, 2, 0, 0) := by decide +kernel
theorem k219_32 : mj_look (mj_prog 219) 32 = some (.iand, 1, 0, 0) := by decide +kernel
theorem k219_33 : mj_look (mj_prog 219) 33 = some (.tableswitch 1523 0 43 #[191, 234, 267, 300, 333, 366, 409, 442, 485, 508, 531, 554, 577, 600, 613, 646, 659, 702, 745, 778, 821, 854, 877, 920, 933, 956, 999, 1022, 1035, 1068, 1091, 1134, 1177, 1200, 1223, 1286, 1329, 1362, 1395, 1428, 1451, 1474, 1487, 1500], 191, 0, 0) := by decide +kernel
theorem k219_224 : mj_look (mj_prog 219) 224 = some (.aload_n 1, 1, 0, 0) := by decide +kernel
theorem k219_225 : mj_look (mj_prog 219) 225 = some (.aload_n 0, 1, 0, 0) := by decide +kernel
theorem k219_226 : mj_look (mj_prog 219) 226 = some (.iload_n 3, 1, 0, 0) := by decide +kernel
theorem k219_227 : mj_look (mj_prog 219) 227 = some (.iconst 1, 1, 0, 0) := by decide +kernel
theorem k219_228 : mj_look (mj_prog 219) 228 = some (.iadd, 1, 0, 0) := by decide +kernel
theorem k219_229 : mj_look (mj_prog 219) 229 = some (.iaload, 1, 0, 0) := by decide +kernel
theorem k219_230 : mj_look (mj_prog 219) 230 = some (.aload_n 0, 1, 0, 0) := by decide +kernel
theorem k219_231 : mj_look (mj_prog 219) 231 = some (.iload_n 3, 1, 0, 0) := by decide +kernel
theorem k219_232 : mj_look (mj_prog 219) 232 = some (.iconst 2, 1, 0, 0) := by decide +kernel
theorem k219_233 : mj_look (mj_prog 219) 233 = some (.iadd, 1, 0, 0) := by decide +kernel
theorem k219_234 : mj_look (mj_prog 219) 234 = some (.iaload, 1, 0, 0) := by decide +kernel
theorem k219_235 : mj_look (mj_prog 219) 235 = some (.aload_n 0, 1, 0, 0) := by decide +kernel
theorem k219_236 : mj_look (mj_prog 219) 236 = some (.iload_n 3, 1, 0, 0) := by decide +kernel
theorem k219_237 : mj_look (mj_prog 219) 237 = some (.iconst 3, 1, 0, 0) := by decide +kernel
theorem k219_238 : mj_look (mj_prog 219) 238 = some (.iadd, 1, 0, 0) := by decide +kernel
theorem k219_239 : mj_look (mj_prog 219) 239 = some (.iaload, 1, 0, 0) := by decide +kernel
theorem k219_240 : mj_look (mj_prog 219) 240 = some (.invokevirtual 13, 3, 12, 3) := by decide +kernel
theorem k219_243 : mj_look (mj_prog 219) 243 = some (.aload_n 2, 1, 0, 0) := by decide +kernel
theorem k219_244 : mj_look (mj_prog 219) 244 = some (.aload_n 0, 1, 0, 0) := by decide +kernel
theorem k219_245 : mj_look (mj_prog 219) 245 = some (.iload_n 3, 1, 0, 0) := by decide +kernel
theorem k219_246 : mj_look (mj_prog 219) 246 = some (.iconst 1, 1, 0, 0) := by decide +kernel
theorem k219_247 : mj_look (mj_prog 219) 247 = some (.iadd, 1, 0, 0) := by decide +kernel
theorem k219_248 : mj_look (mj_prog 219) 248 = some (.iaload, 1, 0, 0) := by decide +kernel
theorem k219_249 : mj_look (mj_prog 219) 249 = some (.aload_n 0, 1, 0, 0) := by decide +kernel
theorem k219_250 : mj_look (mj_prog 219) 250 = some (.iload_n 3, 1, 0, 0) := by decide +kernel
theorem k219_251 : mj_look (mj_prog 219) 251 = some (.iconst 2, 1, 0, 0) := by decide +kernel
theorem k219_252 : mj_look (mj_prog 219) 252 = some (.iadd, 1, 0, 0) := by decide +kernel
theorem k219_253 : mj_look (mj_prog 219) 253 = some (.iaload, 1, 0, 0) := by decide +kernel
theorem k219_254 : mj_look (mj_prog 219) 254 = some (.aload_n 0, 1, 0, 0) := by decide +kernel
theorem k219_255 : mj_look (mj_prog 219) 255 = some (.iload_n 3, 1, 0, 0) := by decide +kernel
theorem k219_256 : mj_look (mj_prog 219) 256 = some (.iconst 3, 1, 0, 0) := by decide +kernel
theorem k219_257 : mj_look (mj_prog 219) 257 = some (.iadd, 1, 0, 0) := by decide +kernel
theorem k219_258 : mj_look (mj_prog 219) 258 = some (.iaload, 1, 0, 0) := by decide +kernel
theorem k219_259 : mj_look (mj_prog 219) 259 = some (.invokevirtual 17, 3, 133, 3) := by decide +kernel
theorem k219_262 : mj_look (mj_prog 219) 262 = some (.if_icmp .eq 1294, 3, 1556, 0) := by decide +kernel
theorem k219_265 : mj_look (mj_prog 219) 265 = some (.iconst 0, 1, 0, 0) := by decide +kernel
theorem k219_266 : mj_look (mj_prog 219) 266 = some (.ireturn, 1, 0, 0) := by decide +kernel
theorem k219_267 : mj_look (mj_prog 219) 267 = some (.aload_n 1, 1, 0, 0) := by decide +kernel
theorem k219_268 : mj_look (mj_prog 219) 268 = some (.aload_n 0, 1, 0, 0) := by decide +kernel
theorem k219_269 : mj_look (mj_prog 219) 269 = some (.iload_n 3, 1, 0, 0) := by decide +kernel
theorem k219_270 : mj_look (mj_prog 219) 270 = some (.iconst 1, 1, 0, 0) := by decide +kernel
theorem k219_271 : mj_look (mj_prog 219) 271 = some (.iadd, 1, 0, 0) := by decide +kernel
theorem k219_272 : mj_look (mj_prog 219) 272 = some (.iaload, 1, 0, 0) := by decide +kernel
theorem k219_273 : mj_look (mj_prog 219) 273 = some (.aload_n 0, 1, 0, 0) := by decide +kernel
theorem k219_274 : mj_look (mj_prog 219) 274 = some (.iload_n 3, 1, 0, 0) := by decide +kernel
theorem k219_275 : mj_look (mj_prog 219) 275 = some (.iconst 2, 1, 0, 0) := by decide +kernel
theorem k219_276 : mj_look (mj_prog 219) 276 = some (.iadd, 1, 0, 0) := by decide +kernel
theorem k219_277 : mj_look (mj_prog 219) 277 = some (.iaload, 1, 0, 0) := by decide +kernel
theorem k219_278 : mj_look (mj_prog 219) 278 = some (.invokevirtual 18, 3, 18, 2) := by decide +kernel
theorem k219_281 : mj_look (mj_prog 219) 281 = some (.aload_n 2, 1, 0, 0) := by decide +kernel
theorem k219_282 : mj_look (mj_prog 219) 282 = some (.aload_n 0, 1, 0, 0) := by decide +kernel
theorem k219_283 : mj_look (mj_prog 219) 283 = some (.iload_n 3, 1, 0, 0) := by decide +kernel
theorem k219_284 : mj_look (mj_prog 219) 284 = some (.iconst 1, 1, 0, 0) := by decide +kernel
theorem k219_285 : mj_look (mj_prog 219) 285 = some (.iadd, 1, 0, 0) := by decide +kernel
theorem k219_286 : mj_look (mj_prog 219) 286 = some (.iaload, 1, 0, 0) := by decide +kernel
theorem k219_287 : mj_look (mj_prog 219) 287 = some (.aload_n 0, 1, 0, 0) := by decide +kernel
theorem k219_288 : mj_look (mj_prog 219) 288 = some (.iload_n 3, 1, 0, 0) := by decide +kernel
theorem k219_289 : mj_look (mj_prog 219) 289 = some (.iconst 2, 1, 0, 0) := by decide +kernel
theorem k219_290 : mj_look (mj_prog 219) 290 = some (.iadd, 1, 0, 0) := by decide +kernel
theorem k219_291 : mj_look (mj_prog 219) 291 = some (.iaload, 1, 0, 0) := by decide +kernel
theorem k219_292 : mj_look (mj_prog 219) 292 = some (.invokevirtual 22, 3, 145, 2) := by decide +kernel
theorem k219_295 : mj_look (mj_prog 219) 295 = some (.if_icmp .eq 1261, 3, 1556, 0) := by decide +kernel
theorem k219_298 : mj_look (mj_prog 219) 298 = some (.iconst 0, 1, 0, 0) := by decide +kernel
theorem k219_299 : mj_look (mj_prog 219) 299 = some (.ireturn, 1, 0, 0) := by decide +kernel
theorem k219_300 : mj_look (mj_prog 219) 300 = some (.aload_n 1, 1, 0, 0) := by decide +kernel
theorem k219_301 : mj_look (mj_prog 219) 301 = some (.aload_n 0, 1, 0, 0) := by decide +kernel
theorem k219_302 : mj_look (mj_prog 219) 302 = some (.iload_n 3, 1, 0, 0) := by decide +kernel
theorem k219_303 : mj_look (mj_prog 219) 303 = some (.iconst 1, 1, 0, 0) := by decide +kernel
theorem k219_304 : mj_look (mj_prog 219) 304 = some (.iadd, 1, 0, 0) := by decide +kernel
theorem k219_305 : mj_look (mj_prog 219) 305 = some (.iaload, 1, 0, 0) := by decide +kernel
theorem k219_306 : mj_look (mj_prog 219) 306 = some (.aload_n 0, 1, 0, 0) := by decide +kernel
theorem k219_307 : mj_look (mj_prog 219) 307 = some (.iload_n 3, 1, 0, 0) := by decide +kernel
theorem k219_308 : mj_look (mj_prog 219) 308 = some (.iconst 2, 1, 0, 0) := by decide +kernel
theorem k219_309 : mj_look (mj_prog 219) 309 = some (.iadd, 1, 0, 0) := by decide +kernel
theorem k219_310 : mj_look (mj_prog 219) 310 = some (.iaload, 1, 0, 0) := by decide +kernel
theorem k219_311 : mj_look (mj_prog 219) 311 = some (.invokevirtual 23, 3, 44, 2) := by decide +kernel
theorem k219_314 : mj_look (mj_prog 219) 314 = some (.aload_n 2, 1, 0, 0) := by decide +kernel
theorem k219_315 : mj_look (mj_prog 219) 315 = some (.aload_n 0, 1, 0, 0) := by decide +kernel
theorem k219_316 : mj_look (mj_prog 219) 316 = some (.iload_n 3, 1, 0, 0) := by decide +kernel
theorem k219_317 : mj_look (mj_prog 219) 317 = some (.iconst 1, 1, 0, 0) := by decide +kernel
theorem k219_318 : mj_look (mj_prog 219) 318 = some (.iadd, 1, 0, 0) := by decide +kernel
theorem k219_319 : mj_look (mj_prog 219) 319 = some (.iaload, 1, 0, 0) := by decide +kernel
theorem k219_320 : mj_look (mj_prog 219) 320 = some (.aload_n 0, 1, 0, 0) := by decide +kernel
theorem k219_321 : mj_look (mj_prog 219) 321 = some (.iload_n 3, 1, 0, 0) := by decide +kernel
theorem k219_322 : mj_look (mj_prog 219) 322 = some (.iconst 2, 1, 0, 0) := by decide +kernel
theorem k219_323 : mj_look (mj_prog 219) 323 = some (.iadd, 1, 0, 0) := by decide +kernel
theorem k219_324 : mj_look (mj_prog 219) 324 = some (.iaload, 1, 0, 0) := by decide +kernel
theorem k219_325 : mj_look (mj_prog 219) 325 = some (.invokevirtual 26, 3, 136, 2) := by decide +kernel
theorem k219_328 : mj_look (mj_prog 219) 328 = some (.if_icmp .eq 1228, 3, 1556, 0) := by decide +kernel
theorem k219_331 : mj_look (mj_prog 219) 331 = some (.iconst 0, 1, 0, 0) := by decide +kernel
theorem k219_332 : mj_look (mj_prog 219) 332 = some (.ireturn, 1, 0, 0) := by decide +kernel
theorem k219_333 : mj_look (mj_prog 219) 333 = some (.aload_n 1, 1, 0, 0) := by decide +kernel
theorem k219_334 : mj_look (mj_prog 219) 334 = some (.aload_n 0, 1, 0, 0) := by decide +kernel
theorem k219_335 : mj_look (mj_prog 219) 335 = some (.iload_n 3, 1, 0, 0) := by decide +kernel
theorem k219_336 : mj_look (mj_prog 219) 336 = some (.iconst 1, 1, 0, 0) := by decide +kernel
theorem k219_337 : mj_look (mj_prog 219) 337 = some (.iadd, 1, 0, 0) := by decide +kernel
theorem k219_338 : mj_look (mj_prog 219) 338 = some (.iaload, 1, 0, 0) := by decide +kernel
theorem k219_339 : mj_look (mj_prog 219) 339 = some (.aload_n 0, 1, 0, 0) := by decide +kernel
theorem k219_340 : mj_look (mj_prog 219) 340 = some (.iload_n 3, 1, 0, 0) := by decide +kernel
theorem k219_341 : mj_look (mj_prog 219) 341 = some (.iconst 2, 1, 0, 0) := by decide +kernel
theorem k219_342 : mj_look (mj_prog 219) 342 = some (.iadd, 1, 0, 0) := by decide +kernel
theorem k219_343 : mj_look (mj_prog 219) 343 = some (.iaload, 1, 0, 0) := by decide +kernel
theorem k219_344 : mj_look (mj_prog 219) 344 = some (.invokevirtual 27, 3, 46, 2) := by decide +kernel
theorem k219_347 : mj_look (mj_prog 219) 347 = some (.aload_n 2, 1, 0, 0) := by decide +kernel
theorem k219_348 : mj_look (mj_prog 219) 348 = some (.aload_n 0, 1, 0, 0) := by decide +kernel
theorem k219_349 : mj_look (mj_prog 219) 349 = some (.iload_n 3, 1, 0, 0) := by decide +kernel
theorem k219_350 : mj_look (mj_prog 219) 350 = some (.iconst 1, 1, 0, 0) := by decide +kernel
theorem k219_351 : mj_look (mj_prog 219) 351 = some (.iadd, 1, 0, 0) := by decide +kernel
theorem k219_352 : mj_look (mj_prog 219) 352 = some (.iaload, 1, 0, 0) := by decide +kernel
theorem k219_353 : mj_look (mj_prog 219) 353 = some (.aload_n 0, 1, 0, 0) := by decide +kernel
theorem k219_354 : mj_look (mj_prog 219) 354 = some (.iload_n 3, 1, 0, 0) := by decide +kernel
theorem k219_355 : mj_look (mj_prog 219) 355 = some (.iconst 2, 1, 0, 0) := by decide +kernel
theorem k219_356 : mj_look (mj_prog 219) 356 = some (.iadd, 1, 0, 0) := by decide +kernel
theorem k219_357 : mj_look (mj_prog 219) 357 = some (.iaload, 1, 0, 0) := by decide +kernel
theorem k219_358 : mj_look (mj_prog 219) 358 = some (.invokevirtual 30, 3, 149, 2) := by decide +kernel
theorem k219_361 : mj_look (mj_prog 219) 361 = some (.if_icmp .eq 1195, 3, 1556, 0) := by decide +kernel
theorem k219_364 : mj_look (mj_prog 219) 364 = some (.iconst 0, 1, 0, 0) := by decide +kernel
theorem k219_365 : mj_look (mj_prog 219) 365 = some (.ireturn, 1, 0, 0) := by decide +kernel
theorem k219_366 : mj_look (mj_prog 219) 366 = some (.aload_n 1, 1, 0, 0) := by decide +kernel
theorem k219_367 : mj_look (mj_prog 219) 367 = some (.aload_n 0, 1, 0, 0) := by decide +kernel
theorem k219_368 : mj_look (mj_prog 219) 368 = some (.iload_n 3, 1, 0, 0) := by decide +kernel
theorem k219_369 : mj_look (mj_prog 219) 369 = some (.iconst 1, 1, 0, 0) := by decide +kernel
theorem k219_370 : mj_look (mj_prog 219) 370 = some (.iadd, 1, 0, 0) := by decide +kernel
theorem k219_371 : mj_look (mj_prog 219) 371 = some (.iaload, 1, 0, 0) := by decide +kernel
theorem k219_372 : mj_look (mj_prog 219) 372 = some (.aload_n 0, 1, 0, 0) := by decide +kernel
theorem k219_373 : mj_look (mj_prog 219) 373 = some (.iload_n 3, 1, 0, 0) := by decide +kernel
theorem k219_374 : mj_look (mj_prog 219) 374 = some (.iconst 2, 1, 0, 0) := by decide +kernel
theorem k219_375 : mj_look (mj_prog 219) 375 = some (.iadd, 1, 0, 0) := by decide +kernel
theorem k219_376 : mj_look (mj_prog 219) 376 = some (.iaload, 1, 0, 0) := by decide +kernel
theorem k219_377 : mj_look (mj_prog 219) 377 = some (.invokevirtual 31, 3, 53, 2) := by decide +kernel
theorem k219_380 : mj_look (mj_prog 219) 380 = some (.aload_n 2, 1, 0, 0) := by decide +kernel
theorem k219_381 : mj_look (mj_prog 219) 381 = some (.aload_n 0, 1, 0, 0) := by decide +kernel
theorem k219_382 : mj_look (mj_prog 219) 382 = some (.iload_n 3, 1, 0, 0) := by decide +kernel
theorem k219_383 : mj_look (mj_prog 219) 383 = some (.iconst 1, 1, 0, 0) := by decide +kernel
theorem k219_384 : mj_look (mj_prog 219) 384 = some (.iadd, 1, 0, 0) := by decide +kernel
theorem k219_385 : mj_look (mj_prog 219) 385 = some (.iaload, 1, 0, 0) := by decide +kernel
theorem k219_386 : mj_look (mj_prog 219) 386 = some (.aload_n 0, 1, 0, 0) := by decide +kernel
theorem k219_387 : mj_look (mj_prog 219) 387 = some (.iload_n 3, 1, 0, 0) := by decide +kernel
theorem k219_388 : mj_look (mj_prog 219) 388 = some (.iconst 2, 1, 0, 0) := by decide +kernel
theorem k219_389 : mj_look (mj_prog 219) 389 = some (.iadd, 1, 0, 0) := by decide +kernel
theorem k219_390 : mj_look (mj_prog 219) 390 = some (.iaload, 1, 0, 0) := by decide +kernel
theorem k219_391 : mj_look (mj_prog 219) 391 = some (.invokevirtual 34, 3, 151, 2) := by decide +kernel
theorem k219_394 : mj_look (mj_prog 219) 394 = some (.if_icmp .eq 1162, 3, 1556, 0) := by decide +kernel
theorem k219_397 : mj_look (mj_prog 219) 397 = some (.iconst 0, 1, 0, 0) := by decide +kernel
theorem k219_398 : mj_look (mj_prog 219) 398 = some (.ireturn, 1, 0, 0) := by decide +kernel
theorem k219_399 : mj_look (mj_prog 219) 399 = some (.aload_n 1, 1, 0, 0) := by decide +kernel
theorem k219_400 : mj_look (mj_prog 219) 400 = some (.aload_n 0, 1, 0, 0) := by decide +kernel
theorem k219_401 : mj_look (mj_prog 219) 401 = some (.iload_n 3, 1, 0, 0) := by decide +kernel
theorem k219_402 : mj_look (mj_prog 219) 402 = some (.iconst 1, 1, 0, 0) := by decide +kernel
theorem k219_403 : mj_look (mj_prog 219) 403 = some (.iadd, 1, 0, 0) := by decide +kernel
theorem k219_404 : mj_look (mj_prog 219) 404 = some (.iaload, 1, 0, 0) := by decide +kernel
theorem k219_405 : mj_look (mj_prog 219) 405 = some (.aload_n 0, 1, 0, 0) := by decide +kernel
theorem k219_406 : mj_look (mj_prog 219) 406 = some (.iload_n 3, 1, 0, 0) := by decide +kernel
theorem k219_407 : mj_look (mj_prog 219) 407 = some (.iconst 2, 1, 0, 0) := by decide +kernel
theorem k219_408 : mj_look (mj_prog 219) 408 = some (.iadd, 1, 0, 0) := by decide +kernel
theorem k219_409 : mj_look (mj_prog 219) 409 = some (.iaload, 1, 0, 0) := by decide +kernel
theorem k219_410 : mj_look (mj_prog 219) 410 = some (.aload_n 0, 1, 0, 0) := by decide +kernel
theorem k219_411 : mj_look (mj_prog 219) 411 = some (.iload_n 3, 1, 0, 0) := by decide +kernel
theorem k219_412 : mj_look (mj_prog 219) 412 = some (.iconst 3, 1, 0, 0) := by decide +kernel
theorem k219_413 : mj_look (mj_prog 219) 413 = some (.iadd, 1, 0, 0) := by decide +kernel
theorem k219_414 : mj_look (mj_prog 219) 414 = some (.iaload, 1, 0, 0) := by decide +kernel
theorem k219_415 : mj_look (mj_prog 219) 415 = some (.invokevirtual 35, 3, 54, 3) := by decide +kernel
theorem k219_418 : mj_look (mj_prog 219) 418 = some (.aload_n 2, 1, 0, 0) := by decide +kernel
theorem k219_419 : mj_look (mj_prog 219) 419 = some (.aload_n 0, 1, 0, 0) := by decide +kernel
theorem k219_420 : mj_look (mj_prog 219) 420 = some (.iload_n 3, 1, 0, 0) := by decide +kernel
theorem k219_421 : mj_look (mj_prog 219) 421 = some (.iconst 1, 1, 0, 0) := by decide +kernel
theorem k219_422 : mj_look (mj_prog 219) 422 = some (.iadd, 1, 0, 0) := by decide +kernel
theorem k219_423 : mj_look (mj_prog 219) 423 = some (.iaload, 1, 0, 0) := by decide +kernel
theorem k219_424 : mj_look (mj_prog 219) 424 = some (.aload_n 0, 1, 0, 0) := by decide +kernel
theorem k219_425 : mj_look (mj_prog 219) 425 = some (.iload_n 3, 1, 0, 0) := by decide +kernel
theorem k219_426 : mj_look (mj_prog 219) 426 = some (.iconst 2, 1, 0, 0) := by decide +kernel
theorem k219_427 : mj_look (mj_prog 219) 427 = some (.iadd, 1, 0, 0) := by decide +kernel
theorem k219_428 : mj_look (mj_prog 219) 428 = some (.iaload, 1, 0, 0) := by decide +kernel
theorem k219_429 : mj_look (mj_prog 219) 429 = some (.aload_n 0, 1, 0, 0) := by decide +kernel
theorem k219_430 : mj_look (mj_prog 219) 430 = some (.iload_n 3, 1, 0, 0) := by decide +kernel
theorem k219_431 : mj_look (mj_prog 219) 431 = some (.iconst 3, 1, 0, 0) := by decide +kernel
theorem k219_432 : mj_look (mj_prog 219) 432 = some (.iadd, 1, 0, 0) := by decide +kernel
theorem k219_433 : mj_look (mj_prog 219) 433 = some (.iaload, 1, 0, 0) := by decide +kernel
theorem k219_434 : mj_look (mj_prog 219) 434 = some (.invokevirtual 38, 3, 153, 3) := by decide +kernel
theorem k219_437 : mj_look (mj_prog 219) 437 = some (.if_icmp .eq 1119, 3, 1556, 0) := by decide +kernel
theorem k219_440 : mj_look (mj_prog 219) 440 = some (.iconst 0, 1, 0, 0) := by decide +kernel
theorem k219_441 : mj_look (mj_prog 219) 441 = some (.ireturn, 1, 0, 0) := by decide +kernel
theorem k219_442 : mj_look (mj_prog 219) 442 = some (.aload_n 1, 1, 0, 0) := by decide +kernel
theorem k219_443 : mj_look (mj_prog 219) 443 = some (.aload_n 0, 1, 0, 0) := by decide +kernel
theorem k219_444 : mj_look (mj_prog 219) 444 = some (.iload_n 3, 1, 0, 0) := by decide +kernel
theorem k219_445 : mj_look (mj_prog 219) 445 = some (.iconst 1, 1, 0, 0) := by decide +kernel
theorem k219_446 : mj_look (mj_prog 219) 446 = some (.iadd, 1, 0, 0) := by decide +kernel
theorem k219_447 : mj_look (mj_prog 219) 447 = some (.iaload, 1, 0, 0) := by decide +kernel
theorem k219_448 : mj_look (mj_prog 219) 448 = some (.aload_n 0, 1, 0, 0) := by decide +kernel
theorem k219_449 : mj_look (mj_prog 219) 449 = some (.iload_n 3, 1, 0, 0) := by decide +kernel
theorem k219_450 : mj_look (mj_prog 219) 450 = some (.iconst 2, 1, 0, 0) := by decide +kernel
theorem k219_451 : mj_look (mj_prog 219) 451 = some (.iadd, 1, 0, 0) := by decide +kernel
theorem k219_452 : mj_look (mj_prog 219) 452 = some (.iaload, 1, 0, 0) := by decide +kernel
theorem k219_453 : mj_look (mj_prog 219) 453 = some (.invokevirtual 39, 3, 55, 2) := by decide +kernel
theorem k219_456 : mj_look (mj_prog 219) 456 = some (.aload_n 2, 1, 0, 0) := by decide +kernel
theorem k219_457 : mj_look (mj_prog 219) 457 = some (.aload_n 0, 1, 0, 0) := by decide +kernel
theorem k219_458 : mj_look (mj_prog 219) 458 = some (.iload_n 3, 1, 0, 0) := by decide +kernel
theorem k219_459 : mj_look (mj_prog 219) 459 = some (.iconst 1, 1, 0, 0) := by decide +kernel
theorem k219_460 : mj_look (mj_prog 219) 460 = some (.iadd, 1, 0, 0) := by decide +kernel
theorem k219_461 : mj_look (mj_prog 219) 461 = some (.iaload, 1, 0, 0) := by decide +kernel
theorem k219_462 : mj_look (mj_prog 219) 462 = some (.aload_n 0, 1, 0, 0) := by decide +kernel
theorem k219_463 : mj_look (mj_prog 219) 463 = some (.iload_n 3, 1, 0, 0) := by decide +kernel
theorem k219_464 : mj_look (mj_prog 219) 464 = some (.iconst 2, 1, 0, 0) := by decide +kernel
theorem k219_465 : mj_look (mj_prog 219) 465 = some (.iadd, 1, 0, 0) := by decide +kernel
theorem k219_466 : mj_look (mj_prog 219) 466 = some (.iaload, 1, 0, 0) := by decide +kernel
theorem k219_467 : mj_look (mj_prog 219) 467 = some (.invokevirtual 42, 3, 154, 2) := by decide +kernel
theorem k219_470 : mj_look (mj_prog 219) 470 = some (.if_icmp .eq 1086, 3, 1556, 0) := by decide +kernel
theorem k219_473 : mj_look (mj_prog 219) 473 = some (.iconst 0, 1, 0, 0) := by decide +kernel
theorem k219_474 : mj_look (mj_prog 219) 474 = some (.ireturn, 1, 0, 0) := by decide +kernel
theorem k219_475 : mj_look (mj_prog 219) 475 = some (.aload_n 1, 1, 0, 0) := by decide +kernel
theorem k219_476 : mj_look (mj_prog 219) 476 = some (.aload_n 0, 1, 0, 0) := by decide +kernel
theorem k219_477 : mj_look (mj_prog 219) 477 = some (.iload_n 3, 1, 0, 0) := by decide +kernel
theorem k219_478 : mj_look (mj_prog 219) 478 = some (.iconst 1, 1, 0, 0) := by decide +kernel
theorem k219_479 : mj_look (mj_prog 219) 479 = some (.iadd, 1, 0, 0) := by decide +kernel
theorem k219_480 : mj_look (mj_prog 219) 480 = some (.iaload, 1, 0, 0) := by decide +kernel
theorem k219_481 : mj_look (mj_prog 219) 481 = some (.aload_n 0, 1, 0, 0) := by decide +kernel
theorem k219_482 : mj_look (mj_prog 219) 482 = some (.iload_n 3, 1, 0, 0) := by decide +kernel
theorem k219_483 : mj_look (mj_prog 219) 483 = some (.iconst 2, 1, 0, 0) := by decide +kernel
theorem k219_484 : mj_look (mj_prog 219) 484 = some (.iadd, 1, 0, 0) := by decide +kernel
theorem k219_485 : mj_look (mj_prog 219) 485 = some (.iaload, 1, 0, 0) := by decide +kernel
theorem k219_486 : mj_look (mj_prog 219) 486 = some (.aload_n 0, 1, 0, 0) := by decide +kernel
theorem k219_487 : mj_look (mj_prog 219) 487 = some (.iload_n 3, 1, 0, 0) := by decide +kernel
theorem k219_488 : mj_look (mj_prog 219) 488 = some (.iconst 3, 1, 0, 0) := by decide +kernel
theorem k219_489 : mj_look (mj_prog 219) 489 = some (.iadd, 1, 0, 0) := by decide +kernel
theorem k219_490 : mj_look (mj_prog 219) 490 = some (.iaload, 1, 0, 0) := by decide +kernel
theorem k219_491 : mj_look (mj_prog 219) 491 = some (.invokevirtual 43, 3, 56, 3) := by decide +kernel
theorem k219_494 : mj_look (mj_prog 219) 494 = some (.aload_n 2, 1, 0, 0) := by decide +kernel
theorem k219_495 : mj_look (mj_prog 219) 495 = some (.aload_n 0, 1, 0, 0) := by decide +kernel
theorem k219_496 : mj_look (mj_prog 219) 496 = some (.iload_n 3, 1, 0, 0) := by decide +kernel
theorem k219_497 : mj_look (mj_prog 219) 497 = some (.iconst 1, 1, 0, 0) := by decide +kernel
theorem k219_498 : mj_look (mj_prog 219) 498 = some (.iadd, 1, 0, 0) := by decide +kernel
theorem k219_499 : mj_look (mj_prog 219) 499 = some (.iaload, 1, 0, 0) := by decide +kernel
theorem k219_500 : mj_look (mj_prog 219) 500 = some (.aload_n 0, 1, 0, 0) := by decide +kernel
theorem k219_501 : mj_look (mj_prog 219) 501 = some (.iload_n 3, 1, 0, 0) := by decide +kernel
theorem k219_502 : mj_look (mj_prog 219) 502 = some (.iconst 2, 1, 0, 0) := by decide +kernel
theorem k219_503 : mj_look (mj_prog 219) 503 = some (.iadd, 1, 0, 0) := by decide +kernel
theorem k219_504 : mj_look (mj_prog 219) 504 = some (.iaload, 1, 0, 0) := by decide +kernel
theorem k219_505 : mj_look (mj_prog 219) 505 = some (.aload_n 0, 1, 0, 0) := by decide +kernel
theorem k219_506 : mj_look (mj_prog 219) 506 = some (.iload_n 3, 1, 0, 0) := by decide +kernel
theorem k219_507 : mj_look (mj_prog 219) 507 = some (.iconst 3, 1, 0, 0) := by decide +kernel
theorem k219_508 : mj_look (mj_prog 219) 508 = some (.iadd, 1, 0, 0) := by decide +kernel
theorem k219_509 : mj_look (mj_prog 219) 509 = some (.iaload, 1, 0, 0) := by decide +kernel
theorem k219_510 : mj_look (mj_prog 219) 510 = some (.invokevirtual 46, 3, 155, 3) := by decide +kernel
theorem k219_513 : mj_look (mj_prog 219) 513 = some (.if_icmp .eq 1043, 3, 1556, 0) := by decide +kernel
theorem k219_516 : mj_look (mj_prog 219) 516 = some (.iconst 0, 1, 0, 0) := by decide +kernel
theorem k219_517 : mj_look (mj_prog 219) 517 = some (.ireturn, 1, 0, 0) := by decide +kernel
theorem k219_518 : mj_look (mj_prog 219) 518 = some (.aload_n 1, 1, 0, 0) := by decide +kernel
theorem k219_519 : mj_look (mj_prog 219) 519 = some (.aload_n 0, 1, 0, 0) := by decide +kernel
theorem k219_520 : mj_look (mj_prog 219) 520 = some (.iload_n 3, 1, 0, 0) := by decide +kernel
theorem k219_521 : mj_look (mj_prog 219) 521 = some (.iconst 1, 1, 0, 0) := by decide +kernel
theorem k219_522 : mj_look (mj_prog 219) 522 = some (.iadd, 1, 0, 0) := by decide +kernel
theorem k219_523 : mj_look (mj_prog 219) 523 = some (.iaload, 1, 0, 0) := by decide +kernel
theorem k219_524 : mj_look (mj_prog 219) 524 = some (.invokevirtual 47, 3, 57, 1) := by decide +kernel
theorem k219_527 : mj_look (mj_prog 219) 527 = some (.aload_n 2, 1, 0, 0) := by decide +kernel
theorem k219_528 : mj_look (mj_prog 219) 528 = some (.aload_n 0, 1, 0, 0) := by decide +kernel
theorem k219_529 : mj_look (mj_prog 219) 529 = some (.iload_n 3, 1, 0, 0) := by decide +kernel
theorem k219_530 : mj_look (mj_prog 219) 530 = some (.iconst 1, 1, 0, 0) := by decide +kernel
theorem k219_531 : mj_look (mj_prog 219) 531 = some (.iadd, 1, 0, 0) := by decide +kernel
theorem k219_532 : mj_look (mj_prog 219) 532 = some (.iaload, 1, 0, 0) := by decide +kernel
theorem k219_533 : mj_look (mj_prog 219) 533 = some (.invokevirtual 51, 3, 156, 1) := by decide +kernel
theorem k219_536 : mj_look (mj_prog 219) 536 = some (.if_icmp .eq 1020, 3, 1556, 0) := by decide +kernel
theorem k219_539 : mj_look (mj_prog 219) 539 = some (.iconst 0, 1, 0, 0) := by decide +kernel
theorem k219_540 : mj_look (mj_prog 219) 540 = some (.ireturn, 1, 0, 0) := by decide +kernel
theorem k219_541 : mj_look (mj_prog 219) 541 = some (.aload_n 1, 1, 0, 0) := by decide +kernel
theorem k219_542 : mj_look (mj_prog 219) 542 = some (.aload_n 0, 1, 0, 0) := by decide +kernel
theorem k219_543 : mj_look (mj_prog 219) 543 = some (.iload_n 3, 1, 0, 0) := by decide +kernel
theorem k219_544 : mj_look (mj_prog 219) 544 = some (.iconst 1, 1, 0, 0) := by decide +kernel
theorem k219_545 : mj_look (mj_prog 219) 545 = some (.iadd, 1, 0, 0) := by decide +kernel
theorem k219_546 : mj_look (mj_prog 219) 546 = some (.iaload, 1, 0, 0) := by decide +kernel
theorem k219_547 : mj_look (mj_prog 219) 547 = some (.invokevirtual 52, 3, 58, 1) := by decide +kernel
theorem k219_550 : mj_look (mj_prog 219) 550 = some (.aload_n 2, 1, 0, 0) := by decide +kernel
theorem k219_551 : mj_look (mj_prog 219) 551 = some (.aload_n 0, 1, 0, 0) := by decide +kernel
theorem k219_552 : mj_look (mj_prog 219) 552 = some (.iload_n 3, 1, 0, 0) := by decide +kernel
theorem k219_553 : mj_look (mj_prog 219) 553 = some (.iconst 1, 1, 0, 0) := by decide +kernel
theorem k219_554 : mj_look (mj_prog 219) 554 = some (.iadd, 1, 0, 0) := by decide +kernel
theorem k219_555 : mj_look (mj_prog 219) 555 = some (.iaload, 1, 0, 0) := by decide +kernel
theorem k219_556 : mj_look (mj_prog 219) 556 = some (.invokevirtual 55, 3, 157, 1) := by decide +kernel
theorem k219_559 : mj_look (mj_prog 219) 559 = some (.if_icmp .eq 997, 3, 1556, 0) := by decide +kernel
theorem k219_562 : mj_look (mj_prog 219) 562 = some (.iconst 0, 1, 0, 0) := by decide +kernel
theorem k219_563 : mj_look (mj_prog 219) 563 = some (.ireturn, 1, 0, 0) := by decide +kernel
theorem k219_564 : mj_look (mj_prog 219) 564 = some (.aload_n 1, 1, 0, 0) := by decide +kernel
theorem k219_565 : mj_look (mj_prog 219) 565 = some (.aload_n 0, 1, 0, 0) := by decide +kernel
theorem k219_566 : mj_look (mj_prog 219) 566 = some (.iload_n 3, 1, 0, 0) := by decide +kernel
theorem k219_567 : mj_look (mj_prog 219) 567 = some (.iconst 1, 1, 0, 0) := by decide +kernel
theorem k219_568 : mj_look (mj_prog 219) 568 = some (.iadd, 1, 0, 0) := by decide +kernel
theorem k219_569 : mj_look (mj_prog 219) 569 = some (.iaload, 1, 0, 0) := by decide +kernel
theorem k219_570 : mj_look (mj_prog 219) 570 = some (.invokevirtual 56, 3, 60, 1) := by decide +kernel
theorem k219_573 : mj_look (mj_prog 219) 573 = some (.aload_n 2, 1, 0, 0) := by decide +kernel
theorem k219_574 : mj_look (mj_prog 219) 574 = some (.aload_n 0, 1, 0, 0) := by decide +kernel
theorem k219_575 : mj_look (mj_prog 219) 575 = some (.iload_n 3, 1, 0, 0) := by decide +kernel
theorem k219_576 : mj_look (mj_prog 219) 576 = some (.iconst 1, 1, 0, 0) := by decide +kernel
theorem k219_577 : mj_look (mj_prog 219) 577 = some (.iadd, 1, 0, 0) := by decide +kernel
theorem k219_578 : mj_look (mj_prog 219) 578 = some (.iaload, 1, 0, 0) := by decide +kernel
theorem k219_579 : mj_look (mj_prog 219) 579 = some (.invokevirtual 59, 3, 159, 1) := by decide +kernel
theorem k219_582 : mj_look (mj_prog 219) 582 = some (.if_icmp .eq 974, 3, 1556, 0) := by decide +kernel
theorem k219_585 : mj_look (mj_prog 219) 585 = some (.iconst 0, 1, 0, 0) := by decide +kernel
theorem k219_586 : mj_look (mj_prog 219) 586 = some (.ireturn, 1, 0, 0) := by decide +kernel
theorem k219_587 : mj_look (mj_prog 219) 587 = some (.aload_n 1, 1, 0, 0) := by decide +kernel
theorem k219_588 : mj_look (mj_prog 219) 588 = some (.aload_n 0, 1, 0, 0) := by decide +kernel
theorem k219_589 : mj_look (mj_prog 219) 589 = some (.iload_n 3, 1, 0, 0) := by decide +kernel
theorem k219_590 : mj_look (mj_prog 219) 590 = some (.iconst 1, 1, 0, 0) := by decide +kernel
theorem k219_591 : mj_look (mj_prog 219) 591 = some (.iadd, 1, 0, 0) := by decide +kernel
theorem k219_592 : mj_look (mj_prog 219) 592 = some (.iaload, 1, 0, 0) := by decide +kernel
theorem k219_593 : mj_look (mj_prog 219) 593 = some (.invokevirtual 60, 3, 61, 1) := by decide +kernel
theorem k219_596 : mj_look (mj_prog 219) 596 = some (.aload_n 2, 1, 0, 0) := by decide +kernel
theorem k219_597 : mj_look (mj_prog 219) 597 = some (.aload_n 0, 1, 0, 0) := by decide +kernel
theorem k219_598 : mj_look (mj_prog 219) 598 = some (.iload_n 3, 1, 0, 0) := by decide +kernel
theorem k219_599 : mj_look (mj_prog 219) 599 = some (.iconst 1, 1, 0, 0) := by decide +kernel
theorem k219_600 : mj_look (mj_prog 219) 600 = some (.iadd, 1, 0, 0) := by decide +kernel
theorem k219_601 : mj_look (mj_prog 219) 601 = some (.iaload, 1, 0, 0) := by decide +kernel
theorem k219_602 : mj_look (mj_prog 219) 602 = some (.invokevirtual 63, 3, 160, 1) := by decide +kernel
theorem k219_605 : mj_look (mj_prog 219) 605 = some (.if_icmp .eq 951, 3, 1556, 0) := by decide +kernel
theorem k219_608 : mj_look (mj_prog 219) 608 = some (.iconst 0, 1, 0, 0) := by decide +kernel
theorem k219_609 : mj_look (mj_prog 219) 609 = some (.ireturn, 1, 0, 0) := by decide +kernel
theorem k219_610 : mj_look (mj_prog 219) 610 = some (.aload_n 1, 1, 0, 0) := by decide +kernel
theorem k219_611 : mj_look (mj_prog 219) 611 = some (.aload_n 0, 1, 0, 0) := by decide +kernel
theorem k219_612 : mj_look (mj_prog 219) 612 = some (.iload_n 3, 1, 0, 0) := by decide +kernel
theorem k219_613 : mj_look (mj_prog 219) 613 = some (.iconst 1, 1, 0, 0) := by decide +kernel
theorem k219_614 : mj_look (mj_prog 219) 614 = some (.iadd, 1, 0, 0) := by decide +kernel
theorem k219_615 : mj_look (mj_prog 219) 615 = some (.iaload, 1, 0, 0) := by decide +kernel
theorem k219_616 : mj_look (mj_prog 219) 616 = some (.invokevirtual 64, 3, 66, 1) := by decide +kernel
theorem k219_619 : mj_look (mj_prog 219) 619 = some (.aload_n 2, 1, 0, 0) := by decide +kernel
theorem k219_620 : mj_look (mj_prog 219) 620 = some (.aload_n 0, 1, 0, 0) := by decide +kernel
theorem k219_621 : mj_look (mj_prog 219) 621 = some (.iload_n 3, 1, 0, 0) := by decide +kernel
theorem k219_622 : mj_look (mj_prog 219) 622 = some (.iconst 1, 1, 0, 0) := by decide +kernel
theorem k219_623 : mj_look (mj_prog 219) 623 = some (.iadd, 1, 0, 0) := by decide +kernel
theorem k219_624 : mj_look (mj_prog 219) 624 = some (.iaload, 1, 0, 0) := by decide +kernel
theorem k219_625 : mj_look (mj_prog 219) 625 = some (.invokevirtual 67, 3, 167, 1) := by decide +kernel
theorem k219_628 : mj_look (mj_prog 219) 628 = some (.if_icmp .eq 928, 3, 1556, 0) := by decide +kernel
theorem k219_631 : mj_look (mj_prog 219) 631 = some (.iconst 0, 1, 0, 0) := by decide +kernel
theorem k219_632 : mj_look (mj_prog 219) 632 = some (.ireturn, 1, 0, 0) := by decide +kernel
theorem k219_633 : mj_look (mj_prog 219) 633 = some (.aload_n 1, 1, 0, 0) := by decide +kernel
theorem k219_634 : mj_look (mj_prog 219) 634 = some (.invokevirtual 68, 3, 68, 0) := by decide +kernel
theorem k219_637 : mj_look (mj_prog 219) 637 = some (.aload_n 2, 1, 0, 0) := by decide +kernel
theorem k219_638 : mj_look (mj_prog 219) 638 = some (.invokevirtual 72, 3, 169, 0) := by decide +kernel
theorem k219_641 : mj_look (mj_prog 219) 641 = some (.if_icmp .eq 915, 3, 1556, 0) := by decide +kernel
theorem k219_644 : mj_look (mj_prog 219) 644 = some (.iconst 0, 1, 0, 0) := by decide +kernel
theorem k219_645 : mj_look (mj_prog 219) 645 = some (.ireturn, 1, 0, 0) := by decide +kernel
theorem k219_646 : mj_look (mj_prog 219) 646 = some (.aload_n 1, 1, 0, 0) := by decide +kernel
theorem k219_647 : mj_look (mj_prog 219) 647 = some (.aload_n 0, 1, 0, 0) := by decide +kernel
theorem k219_648 : mj_look (mj_prog 219) 648 = some (.iload_n 3, 1, 0, 0) := by decide +kernel
theorem k219_649 : mj_look (mj_prog 219) 649 = some (.iconst 1, 1, 0, 0) := by decide +kernel
theorem k219_650 : mj_look (mj_prog 219) 650 = some (.iadd, 1, 0, 0) := by decide +kernel
theorem k219_651 : mj_look (mj_prog 219) 651 = some (.iaload, 1, 0, 0) := by decide +kernel
theorem k219_652 : mj_look (mj_prog 219) 652 = some (.aload_n 0, 1, 0, 0) := by decide +kernel
theorem k219_653 : mj_look (mj_prog 219) 653 = some (.iload_n 3, 1, 0, 0) := by decide +kernel
theorem k219_654 : mj_look (mj_prog 219) 654 = some (.iconst 2, 1, 0, 0) := by decide +kernel
theorem k219_655 : mj_look (mj_prog 219) 655 = some (.iadd, 1, 0, 0) := by decide +kernel
theorem k219_656 : mj_look (mj_prog 219) 656 = some (.iaload, 1, 0, 0) := by decide +kernel
theorem k219_657 : mj_look (mj_prog 219) 657 = some (.invokevirtual 73, 3, 69, 2) := by decide +kernel
theorem k219_660 : mj_look (mj_prog 219) 660 = some (.aload_n 2, 1, 0, 0) := by decide +kernel
theorem k219_661 : mj_look (mj_prog 219) 661 = some (.aload_n 0, 1, 0, 0) := by decide +kernel
theorem k219_662 : mj_look (mj_prog 219) 662 = some (.iload_n 3, 1, 0, 0) := by decide +kernel
theorem k219_663 : mj_look (mj_prog 219) 663 = some (.iconst 1, 1, 0, 0) := by decide +kernel
theorem k219_664 : mj_look (mj_prog 219) 664 = some (.iadd, 1, 0, 0) := by decide +kernel
theorem k219_665 : mj_look (mj_prog 219) 665 = some (.iaload, 1, 0, 0) := by decide +kernel
theorem k219_666 : mj_look (mj_prog 219) 666 = some (.aload_n 0, 1, 0, 0) := by decide +kernel
theorem k219_667 : mj_look (mj_prog 219) 667 = some (.iload_n 3, 1, 0, 0) := by decide +kernel
theorem k219_668 : mj_look (mj_prog 219) 668 = some (.iconst 2, 1, 0, 0) := by decide +kernel
theorem k219_669 : mj_look (mj_prog 219) 669 = some (.iadd, 1, 0, 0) := by decide +kernel
theorem k219_670 : mj_look (mj_prog 219) 670 = some (.iaload, 1, 0, 0) := by decide +kernel
theorem k219_671 : mj_look (mj_prog 219) 671 = some (.invokevirtual 76, 3, 170, 2) := by decide +kernel
theorem k219_674 : mj_look (mj_prog 219) 674 = some (.if_icmp .eq 882, 3, 1556, 0) := by decide +kernel
theorem k219_677 : mj_look (mj_prog 219) 677 = some (.iconst 0, 1, 0, 0) := by decide +kernel
theorem k219_678 : mj_look (mj_prog 219) 678 = some (.ireturn, 1, 0, 0) := by decide +kernel
theorem k219_679 : mj_look (mj_prog 219) 679 = some (.aload_n 1, 1, 0, 0) := by decide +kernel
theorem k219_680 : mj_look (mj_prog 219) 680 = some (.invokevirtual 77, 3, 71, 0) := by decide +kernel
theorem k219_683 : mj_look (mj_prog 219) 683 = some (.aload_n 2, 1, 0, 0) := by decide +kernel
theorem k219_684 : mj_look (mj_prog 219) 684 = some (.invokevirtual 80, 3, 173, 0) := by decide +kernel
theorem k219_687 : mj_look (mj_prog 219) 687 = some (.if_icmp .eq 869, 3, 1556, 0) := by decide +kernel
theorem k219_690 : mj_look (mj_prog 219) 690 = some (.iconst 0, 1, 0, 0) := by decide +kernel
theorem k219_691 : mj_look (mj_prog 219) 691 = some (.ireturn, 1, 0, 0) := by decide +kernel
theorem k219_692 : mj_look (mj_prog 219) 692 = some (.aload_n 1, 1, 0, 0) := by decide +kernel
theorem k219_693 : mj_look (mj_prog 219) 693 = some (.aload_n 0, 1, 0, 0) := by decide +kernel
theorem k219_694 : mj_look (mj_prog 219) 694 = some (.iload_n 3, 1, 0, 0) := by decide +kernel
theorem k219_695 : mj_look (mj_prog 219) 695 = some (.iconst 1, 1, 0, 0) := by decide +kernel
theorem k219_696 : mj_look (mj_prog 219) 696 = some (.iadd, 1, 0, 0) := by decide +kernel
theorem k219_697 : mj_look (mj_prog 219) 697 = some (.iaload, 1, 0, 0) := by decide +kernel
theorem k219_698 : mj_look (mj_prog 219) 698 = some (.aload_n 0, 1, 0, 0) := by decide +kernel
theorem k219_699 : mj_look (mj_prog 219) 699 = some (.iload_n 3, 1, 0, 0) := by decide +kernel
theorem k219_700 : mj_look (mj_prog 219) 700 = some (.iconst 2, 1, 0, 0) := by decide +kernel
theorem k219_701 : mj_look (mj_prog 219) 701 = some (.iadd, 1, 0, 0) := by decide +kernel
theorem k219_702 : mj_look (mj_prog 219) 702 = some (.iaload, 1, 0, 0) := by decide +kernel
theorem k219_703 : mj_look (mj_prog 219) 703 = some (.aload_n 0, 1, 0, 0) := by decide +kernel
theorem k219_704 : mj_look (mj_prog 219) 704 = some (.iload_n 3, 1, 0, 0) := by decide +kernel
theorem k219_705 : mj_look (mj_prog 219) 705 = some (.iconst 3, 1, 0, 0) := by decide +kernel
theorem k219_706 : mj_look (mj_prog 219) 706 = some (.iadd, 1, 0, 0) := by decide +kernel
theorem k219_707 : mj_look (mj_prog 219) 707 = some (.iaload, 1, 0, 0) := by decide +kernel
theorem k219_708 : mj_look (mj_prog 219) 708 = some (.invokevirtual 81, 3, 72, 3) := by decide +kernel
theorem k219_711 : mj_look (mj_prog 219) 711 = some (.aload_n 2, 1, 0, 0) := by decide +kernel
theorem k219_712 : mj_look (mj_prog 219) 712 = some (.aload_n 0, 1, 0, 0) := by decide +kernel
theorem k219_713 : mj_look (mj_prog 219) 713 = some (.iload_n 3, 1, 0, 0) := by decide +kernel
theorem k219_714 : mj_look (mj_prog 219) 714 = some (.iconst 1, 1, 0, 0) := by decide +kernel
theorem k219_715 : mj_look (mj_prog 219) 715 = some (.iadd, 1, 0, 0) := by decide +kernel
theorem k219_716 : mj_look (mj_prog 219) 716 = some (.iaload, 1, 0, 0) := by decide +kernel
theorem k219_717 : mj_look (mj_prog 219) 717 = some (.aload_n 0, 1, 0, 0) := by decide +kernel
theorem k219_718 : mj_look (mj_prog 219) 718 = some (.iload_n 3, 1, 0, 0) := by decide +kernel
theorem k219_719 : mj_look (mj_prog 219) 719 = some (.iconst 2, 1, 0, 0) := by decide +kernel
theorem k219_720 : mj_look (mj_prog 219) 720 = some (.iadd, 1, 0, 0) := by decide +kernel
theorem k219_721 : mj_look (mj_prog 219) 721 = some (.iaload, 1, 0, 0) := by decide +kernel
theorem k219_722 : mj_look (mj_prog 219) 722 = some (.aload_n 0, 1, 0, 0) := by decide +kernel
theorem k219_723 : mj_look (mj_prog 219) 723 = some (.iload_n 3, 1, 0, 0) := by decide +kernel
theorem k219_724 : mj_look (mj_prog 219) 724 = some (.iconst 3, 1, 0, 0) := by decide +kernel
theorem k219_725 : mj_look (mj_prog 219) 725 = some (.iadd, 1, 0, 0) := by decide +kernel
theorem k219_726 : mj_look (mj_prog 219) 726 = some (.iaload, 1, 0, 0) := by decide +kernel
theorem k219_727 : mj_look (mj_prog 219) 727 = some (.invokevirtual 84, 3, 174, 3) := by decide +kernel
theorem k219_730 : mj_look (mj_prog 219) 730 = some (.if_icmp .eq 826, 3, 1556, 0) := by decide +kernel
theorem k219_733 : mj_look (mj_prog 219) 733 = some (.iconst 0, 1, 0, 0) := by decide +kernel
theorem k219_734 : mj_look (mj_prog 219) 734 = some (.ireturn, 1, 0, 0) := by decide +kernel
theorem k219_735 : mj_look (mj_prog 219) 735 = some (.aload_n 1, 1, 0, 0) := by decide +kernel
theorem k219_736 : mj_look (mj_prog 219) 736 = some (.aload_n 0, 1, 0, 0) := by decide +kernel
theorem k219_737 : mj_look (mj_prog 219) 737 = some (.iload_n 3, 1, 0, 0) := by decide +kernel
theorem k219_738 : mj_look (mj_prog 219) 738 = some (.iconst 1, 1, 0, 0) := by decide +kernel
theorem k219_739 : mj_look (mj_prog 219) 739 = some (.iadd, 1, 0, 0) := by decide +kernel
theorem k219_740 : mj_look (mj_prog 219) 740 = some (.iaload, 1, 0, 0) := by decide +kernel
theorem k219_741 : mj_look (mj_prog 219) 741 = some (.aload_n 0, 1, 0, 0) := by decide +kernel
theorem k219_742 : mj_look (mj_prog 219) 742 = some (.iload_n 3, 1, 0, 0) := by decide +kernel
theorem k219_743 : mj_look (mj_prog 219) 743 = some (.iconst 2, 1, 0, 0) := by decide +kernel
theorem k219_744 : mj_look (mj_prog 219) 744 = some (.iadd, 1, 0, 0) := by decide +kernel
theorem k219_745 : mj_look (mj_prog 219) 745 = some (.iaload, 1, 0, 0) := by decide +kernel
theorem k219_746 : mj_look (mj_prog 219) 746 = some (.aload_n 0, 1, 0, 0) := by decide +kernel
theorem k219_747 : mj_look (mj_prog 219) 747 = some (.iload_n 3, 1, 0, 0) := by decide +kernel
theorem k219_748 : mj_look (mj_prog 219) 748 = some (.iconst 3, 1, 0, 0) := by decide +kernel
theorem k219_749 : mj_look (mj_prog 219) 749 = some (.iadd, 1, 0, 0) := by decide +kernel
theorem k219_750 : mj_look (mj_prog 219) 750 = some (.iaload, 1, 0, 0) := by decide +kernel
theorem k219_751 : mj_look (mj_prog 219) 751 = some (.invokevirtual 85, 3, 75, 3) := by decide +kernel
theorem k219_754 : mj_look (mj_prog 219) 754 = some (.aload_n 2, 1, 0, 0) := by decide +kernel
theorem k219_755 : mj_look (mj_prog 219) 755 = some (.aload_n 0, 1, 0, 0) := by decide +kernel
theorem k219_756 : mj_look (mj_prog 219) 756 = some (.iload_n 3, 1, 0, 0) := by decide +kernel
theorem k219_757 : mj_look (mj_prog 219) 757 = some (.iconst 1, 1, 0, 0) := by decide +kernel
theorem k219_758 : mj_look (mj_prog 219) 758 = some (.iadd, 1, 0, 0) := by decide +kernel
theorem k219_759 : mj_look (mj_prog 219) 759 = some (.iaload, 1, 0, 0) := by decide +kernel
theorem k219_760 : mj_look (mj_prog 219) 760 = some (.aload_n 0, 1, 0, 0) := by decide +kernel
theorem k219_761 : mj_look (mj_prog 219) 761 = some (.iload_n 3, 1, 0, 0) := by decide +kernel
theorem k219_762 : mj_look (mj_prog 219) 762 = some (.iconst 2, 1, 0, 0) := by decide +kernel
theorem k219_763 : mj_look (mj_prog 219) 763 = some (.iadd, 1, 0, 0) := by decide +kernel
theorem k219_764 : mj_look (mj_prog 219) 764 = some (.iaload, 1, 0, 0) := by decide +kernel
theorem k219_765 : mj_look (mj_prog 219) 765 = some (.aload_n 0, 1, 0, 0) := by decide +kernel
theorem k219_766 : mj_look (mj_prog 219) 766 = some (.iload_n 3, 1, 0, 0) := by decide +kernel
theorem k219_767 : mj_look (mj_prog 219) 767 = some (.iconst 3, 1, 0, 0) := by decide +kernel
theorem k219_768 : mj_look (mj_prog 219) 768 = some (.iadd, 1, 0, 0) := by decide +kernel
theorem k219_769 : mj_look (mj_prog 219) 769 = some (.iaload, 1, 0, 0) := by decide +kernel
theorem k219_770 : mj_look (mj_prog 219) 770 = some (.invokevirtual 88, 3, 175, 3) := by decide +kernel
theorem k219_773 : mj_look (mj_prog 219) 773 = some (.if_icmp .eq 783, 3, 1556, 0) := by decide +kernel
theorem k219_776 : mj_look (mj_prog 219) 776 = some (.iconst 0, 1, 0, 0) := by decide +kernel
theorem k219_777 : mj_look (mj_prog 219) 777 = some (.ireturn, 1, 0, 0) := by decide +kernel
theorem k219_778 : mj_look (mj_prog 219) 778 = some (.aload_n 1, 1, 0, 0) := by decide +kernel
theorem k219_779 : mj_look (mj_prog 219) 779 = some (.aload_n 0, 1, 0, 0) := by decide +kernel
theorem k219_780 : mj_look (mj_prog 219) 780 = some (.iload_n 3, 1, 0, 0) := by decide +kernel
theorem k219_781 : mj_look (mj_prog 219) 781 = some (.iconst 1, 1, 0, 0) := by decide +kernel
theorem k219_782 : mj_look (mj_prog 219) 782 = some (.iadd, 1, 0, 0) := by decide +kernel
theorem k219_783 : mj_look (mj_prog 219) 783 = some (.iaload, 1, 0, 0) := by decide +kernel
theorem k219_784 : mj_look (mj_prog 219) 784 = some (.aload_n 0, 1, 0, 0) := by decide +kernel
theorem k219_785 : mj_look (mj_prog 219) 785 = some (.iload_n 3, 1, 0, 0) := by decide +kernel
theorem k219_786 : mj_look (mj_prog 219) 786 = some (.iconst 2, 1, 0, 0) := by decide +kernel
theorem k219_787 : mj_look (mj_prog 219) 787 = some (.iadd, 1, 0, 0) := by decide +kernel
theorem k219_788 : mj_look (mj_prog 219) 788 = some (.iaload, 1, 0, 0) := by decide +kernel
theorem k219_789 : mj_look (mj_prog 219) 789 = some (.invokevirtual 89, 3, 77, 2) := by decide +kernel
theorem k219_792 : mj_look (mj_prog 219) 792 = some (.aload_n 2, 1, 0, 0) := by decide +kernel
theorem k219_793 : mj_look (mj_prog 219) 793 = some (.aload_n 0, 1, 0, 0) := by decide +kernel
theorem k219_794 : mj_look (mj_prog 219) 794 = some (.iload_n 3, 1, 0, 0) := by decide +kernel
theorem k219_795 : mj_look (mj_prog 219) 795 = some (.iconst 1, 1, 0, 0) := by decide +kernel
theorem k219_796 : mj_look (mj_prog 219) 796 = some (.iadd, 1, 0, 0) := by decide +kernel
theorem k219_797 : mj_look (mj_prog 219) 797 = some (.iaload, 1, 0, 0) := by decide +kernel
theorem k219_798 : mj_look (mj_prog 219) 798 = some (.aload_n 0, 1, 0, 0) := by decide +kernel
theorem k219_799 : mj_look (mj_prog 219) 799 = some (.iload_n 3, 1, 0, 0) := by decide +kernel
theorem k219_800 : mj_look (mj_prog 219) 800 = some (.iconst 2, 1, 0, 0) := by decide +kernel
theorem k219_801 : mj_look (mj_prog 219) 801 = some (.iadd, 1, 0, 0) := by decide +kernel
theorem k219_802 : mj_look (mj_prog 219) 802 = some (.iaload, 1, 0, 0) := by decide +kernel
theorem k219_803 : mj_look (mj_prog 219) 803 = some (.invokevirtual 92, 3, 177, 2) := by decide +kernel
theorem k219_806 : mj_look (mj_prog 219) 806 = some (.if_icmp .eq 750, 3, 1556, 0) := by decide +kernel
theorem k219_809 : mj_look (mj_prog 219) 809 = some (.iconst 0, 1, 0, 0) := by decide +kernel
theorem k219_810 : mj_look (mj_prog 219) 810 = some (.ireturn, 1, 0, 0) := by decide +kernel
theorem k219_811 : mj_look (mj_prog 219) 811 = some (.aload_n 1, 1, 0, 0) := by decide +kernel
theorem k219_812 : mj_look (mj_prog 219) 812 = some (.aload_n 0, 1, 0, 0) := by decide +kernel
theorem k219_813 : mj_look (mj_prog 219) 813 = some (.iload_n 3, 1, 0, 0) := by decide +kernel
theorem k219_814 : mj_look (mj_prog 219) 814 = some (.iconst 1, 1, 0, 0) := by decide +kernel
theorem k219_815 : mj_look (mj_prog 219) 815 = some (.iadd, 1, 0, 0) := by decide +kernel
theorem k219_816 : mj_look (mj_prog 219) 816 = some (.iaload, 1, 0, 0) := by decide +kernel
theorem k219_817 : mj_look (mj_prog 219) 817 = some (.aload_n 0, 1, 0, 0) := by decide +kernel
theorem k219_818 : mj_look (mj_prog 219) 818 = some (.iload_n 3, 1, 0, 0) := by decide +kernel
theorem k219_819 : mj_look (mj_prog 219) 819 = some (.iconst 2, 1, 0, 0) := by decide +kernel
theorem k219_820 : mj_look (mj_prog 219) 820 = some (.iadd, 1, 0, 0) := by decide +kernel
theorem k219_821 : mj_look (mj_prog 219) 821 = some (.iaload, 1, 0, 0) := by decide +kernel
theorem k219_822 : mj_look (mj_prog 219) 822 = some (.aload_n 0, 1, 0, 0) := by decide +kernel
theorem k219_823 : mj_look (mj_prog 219) 823 = some (.iload_n 3, 1, 0, 0) := by decide +kernel
theorem k219_824 : mj_look (mj_prog 219) 824 = some (.iconst 3, 1, 0, 0) := by decide +kernel
theorem k219_825 : mj_look (mj_prog 219) 825 = some (.iadd, 1, 0, 0) := by decide +kernel
theorem k219_826 : mj_look (mj_prog 219) 826 = some (.iaload, 1, 0, 0) := by decide +kernel
theorem k219_827 : mj_look (mj_prog 219) 827 = some (.invokevirtual 93, 3, 79, 3) := by decide +kernel
theorem k219_830 : mj_look (mj_prog 219) 830 = some (.aload_n 2, 1, 0, 0) := by decide +kernel
theorem k219_831 : mj_look (mj_prog 219) 831 = some (.aload_n 0, 1, 0, 0) := by decide +kernel
theorem k219_832 : mj_look (mj_prog 219) 832 = some (.iload_n 3, 1, 0, 0) := by decide +kernel
theorem k219_833 : mj_look (mj_prog 219) 833 = some (.iconst 1, 1, 0, 0) := by decide +kernel
theorem k219_834 : mj_look (mj_prog 219) 834 = some (.iadd, 1, 0, 0) := by decide +kernel
theorem k219_835 : mj_look (mj_prog 219) 835 = some (.iaload, 1, 0, 0) := by decide +kernel
theorem k219_836 : mj_look (mj_prog 219) 836 = some (.aload_n 0, 1, 0, 0) := by decide +kernel
theorem k219_837 : mj_look (mj_prog 219) 837 = some (.iload_n 3, 1, 0, 0) := by decide +kernel
theorem k219_838 : mj_look (mj_prog 219) 838 = some (.iconst 2, 1, 0, 0) := by decide +kernel
theorem k219_839 : mj_look (mj_prog 219) 839 = some (.iadd, 1, 0, 0) := by decide +kernel
theorem k219_840 : mj_look (mj_prog 219) 840 = some (.iaload, 1, 0, 0) := by decide +kernel
theorem k219_841 : mj_look (mj_prog 219) 841 = some (.aload_n 0, 1, 0, 0) := by decide +kernel
theorem k219_842 : mj_look (mj_prog 219) 842 = some (.iload_n 3, 1, 0, 0) := by decide +kernel
theorem k219_843 : mj_look (mj_prog 219) 843 = some (.iconst 3, 1, 0, 0) := by decide +kernel
theorem k219_844 : mj_look (mj_prog 219) 844 = some (.iadd, 1, 0, 0) := by decide +kernel
theorem k219_845 : mj_look (mj_prog 219) 845 = some (.iaload, 1, 0, 0) := by decide +kernel
theorem k219_846 : mj_look (mj_prog 219) 846 = some (.invokevirtual 96, 3, 178, 3) := by decide +kernel
theorem k219_849 : mj_look (mj_prog 219) 849 = some (.if_icmp .eq 707, 3, 1556, 0) := by decide +kernel
theorem k219_852 : mj_look (mj_prog 219) 852 = some (.iconst 0, 1, 0, 0) := by decide +kernel
theorem k219_853 : mj_look (mj_prog 219) 853 = some (.ireturn, 1, 0, 0) := by decide +kernel
theorem k219_854 : mj_look (mj_prog 219) 854 = some (.aload_n 1, 1, 0, 0) := by decide +kernel
theorem k219_855 : mj_look (mj_prog 219) 855 = some (.aload_n 0, 1, 0, 0) := by decide +kernel
theorem k219_856 : mj_look (mj_prog 219) 856 = some (.iload_n 3, 1, 0, 0) := by decide +kernel
theorem k219_857 : mj_look (mj_prog 219) 857 = some (.iconst 1, 1, 0, 0) := by decide +kernel
theorem k219_858 : mj_look (mj_prog 219) 858 = some (.iadd, 1, 0, 0) := by decide +kernel
theorem k219_859 : mj_look (mj_prog 219) 859 = some (.iaload, 1, 0, 0) := by decide +kernel
theorem k219_860 : mj_look (mj_prog 219) 860 = some (.aload_n 0, 1, 0, 0) := by decide +kernel
theorem k219_861 : mj_look (mj_prog 219) 861 = some (.iload_n 3, 1, 0, 0) := by decide +kernel
theorem k219_862 : mj_look (mj_prog 219) 862 = some (.iconst 2, 1, 0, 0) := by decide +kernel
theorem k219_863 : mj_look (mj_prog 219) 863 = some (.iadd, 1, 0, 0) := by decide +kernel
theorem k219_864 : mj_look (mj_prog 219) 864 = some (.iaload, 1, 0, 0) := by decide +kernel
theorem k219_865 : mj_look (mj_prog 219) 865 = some (.invokevirtual 97, 3, 80, 2) := by decide +kernel
theorem k219_868 : mj_look (mj_prog 219) 868 = some (.aload_n 2, 1, 0, 0) := by decide +kernel
theorem k219_869 : mj_look (mj_prog 219) 869 = some (.aload_n 0, 1, 0, 0) := by decide +kernel
theorem k219_870 : mj_look (mj_prog 219) 870 = some (.iload_n 3, 1, 0, 0) := by decide +kernel
theorem k219_871 : mj_look (mj_prog 219) 871 = some (.iconst 1, 1, 0, 0) := by decide +kernel
theorem k219_872 : mj_look (mj_prog 219) 872 = some (.iadd, 1, 0, 0) := by decide +kernel
theorem k219_873 : mj_look (mj_prog 219) 873 = some (.iaload, 1, 0, 0) := by decide +kernel
theorem k219_874 : mj_look (mj_prog 219) 874 = some (.aload_n 0, 1, 0, 0) := by decide +kernel
theorem k219_875 : mj_look (mj_prog 219) 875 = some (.iload_n 3, 1, 0, 0) := by decide +kernel
theorem k219_876 : mj_look (mj_prog 219) 876 = some (.iconst 2, 1, 0, 0) := by decide +kernel
theorem k219_877 : mj_look (mj_prog 219) 877 = some (.iadd, 1, 0, 0) := by decide +kernel
theorem k219_878 : mj_look (mj_prog 219) 878 = some (.iaload, 1, 0, 0) := by decide +kernel
theorem k219_879 : mj_look (mj_prog 219) 879 = some (.invokevirtual 100, 3, 179, 2) := by decide +kernel
theorem k219_882 : mj_look (mj_prog 219) 882 = some (.if_icmp .eq 674, 3, 1556, 0) := by decide +kernel
theorem k219_885 : mj_look (mj_prog 219) 885 = some (.iconst 0, 1, 0, 0) := by decide +kernel
theorem k219_886 : mj_look (mj_prog 219) 886 = some (.ireturn, 1, 0, 0) := by decide +kernel
theorem k219_887 : mj_look (mj_prog 219) 887 = some (.aload_n 1, 1, 0, 0) := by decide +kernel
theorem k219_888 : mj_look (mj_prog 219) 888 = some (.aload_n 0, 1, 0, 0) := by decide +kernel
theorem k219_889 : mj_look (mj_prog 219) 889 = some (.iload_n 3, 1, 0, 0) := by decide +kernel
theorem k219_890 : mj_look (mj_prog 219) 890 = some (.iconst 1, 1, 0, 0) := by decide +kernel
theorem k219_891 : mj_look (mj_prog 219) 891 = some (.iadd, 1, 0, 0) := by decide +kernel
theorem k219_892 : mj_look (mj_prog 219) 892 = some (.iaload, 1, 0, 0) := by decide +kernel
theorem k219_893 : mj_look (mj_prog 219) 893 = some (.invokevirtual 101, 3, 81, 1) := by decide +kernel
theorem k219_896 : mj_look (mj_prog 219) 896 = some (.aload_n 2, 1, 0, 0) := by decide +kernel
theorem k219_897 : mj_look (mj_prog 219) 897 = some (.aload_n 0, 1, 0, 0) := by decide +kernel
theorem k219_898 : mj_look (mj_prog 219) 898 = some (.iload_n 3, 1, 0, 0) := by decide +kernel
theorem k219_899 : mj_look (mj_prog 219) 899 = some (.iconst 1, 1, 0, 0) := by decide +kernel
theorem k219_900 : mj_look (mj_prog 219) 900 = some (.iadd, 1, 0, 0) := by decide +kernel
theorem k219_901 : mj_look (mj_prog 219) 901 = some (.iaload, 1, 0, 0) := by decide +kernel
theorem k219_902 : mj_look (mj_prog 219) 902 = some (.invokevirtual 104, 3, 180, 1) := by decide +kernel
theorem k219_905 : mj_look (mj_prog 219) 905 = some (.if_icmp .eq 651, 3, 1556, 0) := by decide +kernel
theorem k219_908 : mj_look (mj_prog 219) 908 = some (.iconst 0, 1, 0, 0) := by decide +kernel
theorem k219_909 : mj_look (mj_prog 219) 909 = some (.ireturn, 1, 0, 0) := by decide +kernel
theorem k219_910 : mj_look (mj_prog 219) 910 = some (.aload_n 1, 1, 0, 0) := by decide +kernel
theorem k219_911 : mj_look (mj_prog 219) 911 = some (.aload_n 0, 1, 0, 0) := by decide +kernel
theorem k219_912 : mj_look (mj_prog 219) 912 = some (.iload_n 3, 1, 0, 0) := by decide +kernel
theorem k219_913 : mj_look (mj_prog 219) 913 = some (.iconst 1, 1, 0, 0) := by decide +kernel
theorem k219_914 : mj_look (mj_prog 219) 914 = some (.iadd, 1, 0, 0) := by decide +kernel
theorem k219_915 : mj_look (mj_prog 219) 915 = some (.iaload, 1, 0, 0) := by decide +kernel
theorem k219_916 : mj_look (mj_prog 219) 916 = some (.aload_n 0, 1, 0, 0) := by decide +kernel
theorem k219_917 : mj_look (mj_prog 219) 917 = some (.iload_n 3, 1, 0, 0) := by decide +kernel
theorem k219_918 : mj_look (mj_prog 219) 918 = some (.iconst 2, 1, 0, 0) := by decide +kernel
theorem k219_919 : mj_look (mj_prog 219) 919 = some (.iadd, 1, 0, 0) := by decide +kernel
theorem k219_920 : mj_look (mj_prog 219) 920 = some (.iaload, 1, 0, 0) := by decide +kernel
theorem k219_921 : mj_look (mj_prog 219) 921 = some (.aload_n 0, 1, 0, 0) := by decide +kernel
theorem k219_922 : mj_look (mj_prog 219) 922 = some (.iload_n 3, 1, 0, 0) := by decide +kernel
theorem k219_923 : mj_look (mj_prog 219) 923 = some (.iconst 3, 1, 0, 0) := by decide +kernel
theorem k219_924 : mj_look (mj_prog 219) 924 = some (.iadd, 1, 0, 0) := by decide +kernel
theorem k219_925 : mj_look (mj_prog 219) 925 = some (.iaload, 1, 0, 0) := by decide +kernel
theorem k219_926 : mj_look (mj_prog 219) 926 = some (.invokevirtual 105, 3, 83, 3) := by decide +kernel
theorem k219_929 : mj_look (mj_prog 219) 929 = some (.aload_n 2, 1, 0, 0) := by decide +kernel
theorem k219_930 : mj_look (mj_prog 219) 930 = some (.aload_n 0, 1, 0, 0) := by decide +kernel
theorem k219_931 : mj_look (mj_prog 219) 931 = some (.iload_n 3, 1, 0, 0) := by decide +kernel
theorem k219_932 : mj_look (mj_prog 219) 932 = some (.iconst 1, 1, 0, 0) := by decide +kernel
theorem k219_933 : mj_look (mj_prog 219) 933 = some (.iadd, 1, 0, 0) := by decide +kernel
theorem k219_934 : mj_look (mj_prog 219) 934 = some (.iaload, 1, 0, 0) := by decide +kernel
theorem k219_935 : mj_look (mj_prog 219) 935 = some (.aload_n 0, 1, 0, 0) := by decide +kernel
theorem k219_936 : mj_look (mj_prog 219) 936 = some (.iload_n 3, 1, 0, 0) := by decide +kernel
theorem k219_937 : mj_look (mj_prog 219) 937 = some (.iconst 2, 1, 0, 0) := by decide +kernel
theorem k219_938 : mj_look (mj_prog 219) 938 = some (.iadd, 1, 0, 0) := by decide +kernel
theorem k219_939 : mj_look (mj_prog 219) 939 = some (.iaload, 1, 0, 0) := by decide +kernel
theorem k219_940 : mj_look (mj_prog 219) 940 = some (.aload_n 0, 1, 0, 0) := by decide +kernel
theorem k219_941 : mj_look (mj_prog 219) 941 = some (.iload_n 3, 1, 0, 0) := by decide +kernel
theorem k219_942 : mj_look (mj_prog 219) 942 = some (.iconst 3, 1, 0, 0) := by decide +kernel
theorem k219_943 : mj_look (mj_prog 219) 943 = some (.iadd, 1, 0, 0) := by decide +kernel
theorem k219_944 : mj_look (mj_prog 219) 944 = some (.iaload, 1, 0, 0) := by decide +kernel
theorem k219_945 : mj_look (mj_prog 219) 945 = some (.invokevirtual 108, 3, 181, 3) := by decide +kernel
theorem k219_948 : mj_look (mj_prog 219) 948 = some (.if_icmp .eq 608, 3, 1556, 0) := by decide +kernel
theorem k219_951 : mj_look (mj_prog 219) 951 = some (.iconst 0, 1, 0, 0) := by decide +kernel
theorem k219_952 : mj_look (mj_prog 219) 952 = some (.ireturn, 1, 0, 0) := by decide +kernel
theorem k219_953 : mj_look (mj_prog 219) 953 = some (.aload_n 1, 1, 0, 0) := by decide +kernel
theorem k219_954 : mj_look (mj_prog 219) 954 = some (.invokevirtual 109, 3, 88, 0) := by decide +kernel
theorem k219_957 : mj_look (mj_prog 219) 957 = some (.aload_n 2, 1, 0, 0) := by decide +kernel
theorem k219_958 : mj_look (mj_prog 219) 958 = some (.invokevirtual 112, 3, 184, 0) := by decide +kernel
theorem k219_961 : mj_look (mj_prog 219) 961 = some (.if_icmp .eq 595, 3, 1556, 0) := by decide +kernel
theorem k219_964 : mj_look (mj_prog 219) 964 = some (.iconst 0, 1, 0, 0) := by decide +kernel
theorem k219_965 : mj_look (mj_prog 219) 965 = some (.ireturn, 1, 0, 0) := by decide +kernel
theorem k219_966 : mj_look (mj_prog 219) 966 = some (.aload_n 1, 1, 0, 0) := by decide +kernel
theorem k219_967 : mj_look (mj_prog 219) 967 = some (.aload_n 0, 1, 0, 0) := by decide +kernel
theorem k219_968 : mj_look (mj_prog 219) 968 = some (.iload_n 3, 1, 0, 0) := by decide +kernel
theorem k219_969 : mj_look (mj_prog 219) 969 = some (.iconst 1, 1, 0, 0) := by decide +kernel
theorem k219_970 : mj_look (mj_prog 219) 970 = some (.iadd, 1, 0, 0) := by decide +kernel
theorem k219_971 : mj_look (mj_prog 219) 971 = some (.iaload, 1, 0, 0) := by decide +kernel
theorem k219_972 : mj_look (mj_prog 219) 972 = some (.invokevirtual 113, 3, 89, 1) := by decide +kernel
theorem k219_975 : mj_look (mj_prog 219) 975 = some (.aload_n 2, 1, 0, 0) := by decide +kernel
theorem k219_976 : mj_look (mj_prog 219) 976 = some (.aload_n 0, 1, 0, 0) := by decide +kernel
theorem k219_977 : mj_look (mj_prog 219) 977 = some (.iload_n 3, 1, 0, 0) := by decide +kernel
theorem k219_978 : mj_look (mj_prog 219) 978 = some (.iconst 1, 1, 0, 0) := by decide +kernel
theorem k219_979 : mj_look (mj_prog 219) 979 = some (.iadd, 1, 0, 0) := by decide +kernel
theorem k219_980 : mj_look (mj_prog 219) 980 = some (.iaload, 1, 0, 0) := by decide +kernel
theorem k219_981 : mj_look (mj_prog 219) 981 = some (.invokevirtual 116, 3, 185, 1) := by decide +kernel
theorem k219_984 : mj_look (mj_prog 219) 984 = some (.if_icmp .eq 572, 3, 1556, 0) := by decide +kernel
theorem k219_987 : mj_look (mj_prog 219) 987 = some (.iconst 0, 1, 0, 0) := by decide +kernel
theorem k219_988 : mj_look (mj_prog 219) 988 = some (.ireturn, 1, 0, 0) := by decide +kernel
theorem k219_989 : mj_look (mj_prog 219) 989 = some (.aload_n 1, 1, 0, 0) := by decide +kernel
theorem k219_990 : mj_look (mj_prog 219) 990 = some (.aload_n 0, 1, 0, 0) := by decide +kernel
theorem k219_991 : mj_look (mj_prog 219) 991 = some (.iload_n 3, 1, 0, 0) := by decide +kernel
theorem k219_992 : mj_look (mj_prog 219) 992 = some (.iconst 1, 1, 0, 0) := by decide +kernel
theorem k219_993 : mj_look (mj_prog 219) 993 = some (.iadd, 1, 0, 0) := by decide +kernel
theorem k219_994 : mj_look (mj_prog 219) 994 = some (.iaload, 1, 0, 0) := by decide +kernel
theorem k219_995 : mj_look (mj_prog 219) 995 = some (.aload_n 0, 1, 0, 0) := by decide +kernel
theorem k219_996 : mj_look (mj_prog 219) 996 = some (.iload_n 3, 1, 0, 0) := by decide +kernel
theorem k219_997 : mj_look (mj_prog 219) 997 = some (.iconst 2, 1, 0, 0) := by decide +kernel
theorem k219_998 : mj_look (mj_prog 219) 998 = some (.iadd, 1, 0, 0) := by decide +kernel
theorem k219_999 : mj_look (mj_prog 219) 999 = some (.iaload, 1, 0, 0) := by decide +kernel
theorem k219_1000 : mj_look (mj_prog 219) 1000 = some (.aload_n 0, 1, 0, 0) := by decide +kernel
theorem k219_1001 : mj_look (mj_prog 219) 1001 = some (.iload_n 3, 1, 0, 0) := by decide +kernel
theorem k219_1002 : mj_look (mj_prog 219) 1002 = some (.iconst 3, 1, 0, 0) := by decide +kernel
theorem k219_1003 : mj_look (mj_prog 219) 1003 = some (.iadd, 1, 0, 0) := by decide +kernel
theorem k219_1004 : mj_look (mj_prog 219) 1004 = some (.iaload, 1, 0, 0) := by decide +kernel
theorem k219_1005 : mj_look (mj_prog 219) 1005 = some (.invokevirtual 117, 3, 90, 3) := by decide +kernel
theorem k219_1008 : mj_look (mj_prog 219) 1008 = some (.aload_n 2, 1, 0, 0) := by decide +kernel
theorem k219_1009 : mj_look (mj_prog 219) 1009 = some (.aload_n 0, 1, 0, 0) := by decide +kernel
theorem k219_1010 : mj_look (mj_prog 219) 1010 = some (.iload_n 3, 1, 0, 0) := by decide +kernel
theorem k219_1011 : mj_look (mj_prog 219) 1011 = some (.iconst 1, 1, 0, 0) := by decide +kernel
theorem k219_1012 : mj_look (mj_prog 219) 1012 = some (.iadd, 1, 0, 0) := by decide +kernel
theorem k219_1013 : mj_look (mj_prog 219) 1013 = some (.iaload, 1, 0, 0) := by decide +kernel
theorem k219_1014 : mj_look (mj_prog 219) 1014 = some (.aload_n 0, 1, 0, 0) := by decide +kernel
theorem k219_1015 : mj_look (mj_prog 219) 1015 = some (.iload_n 3, 1, 0, 0) := by decide +kernel
theorem k219_1016 : mj_look (mj_prog 219) 1016 = some (.iconst 2, 1, 0, 0) := by decide +kernel
theorem k219_1017 : mj_look (mj_prog 219) 1017 = some (.iadd, 1, 0, 0) := by decide +kernel
theorem k219_1018 : mj_look (mj_prog 219) 1018 = some (.iaload, 1, 0, 0) := by decide +kernel
theorem k219_1019 : mj_look (mj_prog 219) 1019 = some (.aload_n 0, 1, 0, 0) := by decide +kernel
theorem k219_1020 : mj_look (mj_prog 219) 1020 = some (.iload_n 3, 1, 0, 0) := by decide +kernel
theorem k219_1021 : mj_look (mj_prog 219) 1021 = some (.iconst 3, 1, 0, 0) := by decide +kernel
theorem k219_1022 : mj_look (mj_prog 219) 1022 = some (.iadd, 1, 0, 0) := by decide +kernel
theorem k219_1023 : mj_look (mj_prog 219) 1023 = some (.iaload, 1, 0, 0) := by decide +kernel
theorem k219_1024 : mj_look (mj_prog 219) 1024 = some (.invokevirtual 120, 3, 186, 3) := by decide +kernel
theorem k219_1027 : mj_look (mj_prog 219) 1027 = some (.if_icmp .eq 529, 3, 1556, 0) := by decide +kernel
theorem k219_1030 : mj_look (mj_prog 219) 1030 = some (.iconst 0, 1, 0, 0) := by decide +kernel
theorem k219_1031 : mj_look (mj_prog 219) 1031 = some (.ireturn, 1, 0, 0) := by decide +kernel
theorem k219_1032 : mj_look (mj_prog 219) 1032 = some (.aload_n 1, 1, 0, 0) := by decide +kernel
theorem k219_1033 : mj_look (mj_prog 219) 1033 = some (.aload_n 0, 1, 0, 0) := by decide +kernel
theorem k219_1034 : mj_look (mj_prog 219) 1034 = some (.iload_n 3, 1, 0, 0) := by decide +kernel
theorem k219_1035 : mj_look (mj_prog 219) 1035 = some (.iconst 1, 1, 0, 0) := by decide +kernel
theorem k219_1036 : mj_look (mj_prog 219) 1036 = some (.iadd, 1, 0, 0) := by decide +kernel
theorem k219_1037 : mj_look (mj_prog 219) 1037 = some (.iaload, 1, 0, 0) := by decide +kernel
theorem k219_1038 : mj_look (mj_prog 219) 1038 = some (.invokevirtual 121, 3, 92, 1) := by decide +kernel
theorem k219_1041 : mj_look (mj_prog 219) 1041 = some (.aload_n 2, 1, 0, 0) := by decide +kernel
theorem k219_1042 : mj_look (mj_prog 219) 1042 = some (.aload_n 0, 1, 0, 0) := by decide +kernel
theorem k219_1043 : mj_look (mj_prog 219) 1043 = some (.iload_n 3, 1, 0, 0) := by decide +kernel
theorem k219_1044 : mj_look (mj_prog 219) 1044 = some (.iconst 1, 1, 0, 0) := by decide +kernel
theorem k219_1045 : mj_look (mj_prog 219) 1045 = some (.iadd, 1, 0, 0) := by decide +kernel
theorem k219_1046 : mj_look (mj_prog 219) 1046 = some (.iaload, 1, 0, 0) := by decide +kernel
theorem k219_1047 : mj_look (mj_prog 219) 1047 = some (.invokevirtual 124, 3, 187, 1) := by decide +kernel
theorem k219_1050 : mj_look (mj_prog 219) 1050 = some (.if_icmp .eq 506, 3, 1556, 0) := by decide +kernel
theorem k219_1053 : mj_look (mj_prog 219) 1053 = some (.iconst 0, 1, 0, 0) := by decide +kernel
theorem k219_1054 : mj_look (mj_prog 219) 1054 = some (.ireturn, 1, 0, 0) := by decide +kernel
theorem k219_1055 : mj_look (mj_prog 219) 1055 = some (.aload_n 1, 1, 0, 0) := by decide +kernel
theorem k219_1056 : mj_look (mj_prog 219) 1056 = some (.invokevirtual 125, 3, 93, 0) := by decide +kernel
theorem k219_1059 : mj_look (mj_prog 219) 1059 = some (.aload_n 2, 1, 0, 0) := by decide +kernel
theorem k219_1060 : mj_look (mj_prog 219) 1060 = some (.invokevirtual 128, 3, 188, 0) := by decide +kernel
theorem k219_1063 : mj_look (mj_prog 219) 1063 = some (.if_icmp .eq 493, 3, 1556, 0) := by decide +kernel
theorem k219_1066 : mj_look (mj_prog 219) 1066 = some (.iconst 0, 1, 0, 0) := by decide +kernel
theorem k219_1067 : mj_look (mj_prog 219) 1067 = some (.ireturn, 1, 0, 0) := by decide +kernel
theorem k219_1068 : mj_look (mj_prog 219) 1068 = some (.aload_n 1, 1, 0, 0) := by decide +kernel
theorem k219_1069 : mj_look (mj_prog 219) 1069 = some (.aload_n 0, 1, 0, 0) := by decide +kernel
theorem k219_1070 : mj_look (mj_prog 219) 1070 = some (.iload_n 3, 1, 0, 0) := by decide +kernel
theorem k219_1071 : mj_look (mj_prog 219) 1071 = some (.iconst 1, 1, 0, 0) := by decide +kernel
theorem k219_1072 : mj_look (mj_prog 219) 1072 = some (.iadd, 1, 0, 0) := by decide +kernel
theorem k219_1073 : mj_look (mj_prog 219) 1073 = some (.iaload, 1, 0, 0) := by decide +kernel
theorem k219_1074 : mj_look (mj_prog 219) 1074 = some (.aload_n 0, 1, 0, 0) := by decide +kernel
theorem k219_1075 : mj_look (mj_prog 219) 1075 = some (.iload_n 3, 1, 0, 0) := by decide +kernel
theorem k219_1076 : mj_look (mj_prog 219) 1076 = some (.iconst 2, 1, 0, 0) := by decide +kernel
theorem k219_1077 : mj_look (mj_prog 219) 1077 = some (.iadd, 1, 0, 0) := by decide +kernel
theorem k219_1078 : mj_look (mj_prog 219) 1078 = some (.iaload, 1, 0, 0) := by decide +kernel
theorem k219_1079 : mj_look (mj_prog 219) 1079 = some (.invokevirtual 129, 3, 111, 2) := by decide +kernel
theorem k219_1082 : mj_look (mj_prog 219) 1082 = some (.aload_n 2, 1, 0, 0) := by decide +kernel
theorem k219_1083 : mj_look (mj_prog 219) 1083 = some (.aload_n 0, 1, 0, 0) := by decide +kernel
theorem k219_1084 : mj_look (mj_prog 219) 1084 = some (.iload_n 3, 1, 0, 0) := by decide +kernel
theorem k219_1085 : mj_look (mj_prog 219) 1085 = some (.iconst 1, 1, 0, 0) := by decide +kernel
theorem k219_1086 : mj_look (mj_prog 219) 1086 = some (.iadd, 1, 0, 0) := by decide +kernel
theorem k219_1087 : mj_look (mj_prog 219) 1087 = some (.iaload, 1, 0, 0) := by decide +kernel
theorem k219_1088 : mj_look (mj_prog 219) 1088 = some (.aload_n 0, 1, 0, 0) := by decide +kernel
theorem k219_1089 : mj_look (mj_prog 219) 1089 = some (.iload_n 3, 1, 0, 0) := by decide +kernel
theorem k219_1090 : mj_look (mj_prog 219) 1090 = some (.iconst 2, 1, 0, 0) := by decide +kernel
theorem k219_1091 : mj_look (mj_prog 219) 1091 = some (.iadd, 1, 0, 0) := by decide +kernel
theorem k219_1092 : mj_look (mj_prog 219) 1092 = some (.iaload, 1, 0, 0) := by decide +kernel
theorem k219_1093 : mj_look (mj_prog 219) 1093 = some (.invokevirtual 132, 3, 200, 2) := by decide +kernel
theorem k219_1096 : mj_look (mj_prog 219) 1096 = some (.if_icmp .eq 460, 3, 1556, 0) := by decide +kernel
theorem k219_1099 : mj_look (mj_prog 219) 1099 = some (.iconst 0, 1, 0, 0) := by decide +kernel
theorem k219_1100 : mj_look (mj_prog 219) 1100 = some (.ireturn, 1, 0, 0) := by decide +kernel
theorem k219_1101 : mj_look (mj_prog 219) 1101 = some (.aload_n 1, 1, 0, 0) := by decide +kernel
theorem k219_1102 : mj_look (mj_prog 219) 1102 = some (.aload_n 0, 1, 0, 0) := by decide +kernel
theorem k219_1103 : mj_look (mj_prog 219) 1103 = some (.iload_n 3, 1, 0, 0) := by decide +kernel
theorem k219_1104 : mj_look (mj_prog 219) 1104 = some (.iconst 1, 1, 0, 0) := by decide +kernel
theorem k219_1105 : mj_look (mj_prog 219) 1105 = some (.iadd, 1, 0, 0) := by decide +kernel
theorem k219_1106 : mj_look (mj_prog 219) 1106 = some (.iaload, 1, 0, 0) := by decide +kernel
theorem k219_1107 : mj_look (mj_prog 219) 1107 = some (.invokevirtual 133, 3, 112, 1) := by decide +kernel
theorem k219_1110 : mj_look (mj_prog 219) 1110 = some (.aload_n 2, 1, 0, 0) := by decide +kernel
theorem k219_1111 : mj_look (mj_prog 219) 1111 = some (.aload_n 0, 1, 0, 0) := by decide +kernel
theorem k219_1112 : mj_look (mj_prog 219) 1112 = some (.iload_n 3, 1, 0, 0) := by decide +kernel
theorem k219_1113 : mj_look (mj_prog 219) 1113 = some (.iconst 1, 1, 0, 0) := by decide +kernel
theorem k219_1114 : mj_look (mj_prog 219) 1114 = some (.iadd, 1, 0, 0) := by decide +kernel
theorem k219_1115 : mj_look (mj_prog 219) 1115 = some (.iaload, 1, 0, 0) := by decide +kernel
theorem k219_1116 : mj_look (mj_prog 219) 1116 = some (.invokevirtual 136, 3, 201, 1) := by decide +kernel
theorem k219_1119 : mj_look (mj_prog 219) 1119 = some (.if_icmp .eq 437, 3, 1556, 0) := by decide +kernel
theorem k219_1122 : mj_look (mj_prog 219) 1122 = some (.iconst 0, 1, 0, 0) := by decide +kernel
theorem k219_1123 : mj_look (mj_prog 219) 1123 = some (.ireturn, 1, 0, 0) := by decide +kernel
theorem k219_1124 : mj_look (mj_prog 219) 1124 = some (.aload_n 1, 1, 0, 0) := by decide +kernel
theorem k219_1125 : mj_look (mj_prog 219) 1125 = some (.aload_n 0, 1, 0, 0) := by decide +kernel
theorem k219_1126 : mj_look (mj_prog 219) 1126 = some (.iload_n 3, 1, 0, 0) := by decide +kernel
theorem k219_1127 : mj_look (mj_prog 219) 1127 = some (.iconst 1, 1, 0, 0) := by decide +kernel
theorem k219_1128 : mj_look (mj_prog 219) 1128 = some (.iadd, 1, 0, 0) := by decide +kernel
theorem k219_1129 : mj_look (mj_prog 219) 1129 = some (.iaload, 1, 0, 0) := by decide +kernel
theorem k219_1130 : mj_look (mj_prog 219) 1130 = some (.aload_n 0, 1, 0, 0) := by decide +kernel
theorem k219_1131 : mj_look (mj_prog 219) 1131 = some (.iload_n 3, 1, 0, 0) := by decide +kernel
theorem k219_1132 : mj_look (mj_prog 219) 1132 = some (.iconst 2, 1, 0, 0) := by decide +kernel
theorem k219_1133 : mj_look (mj_prog 219) 1133 = some (.iadd, 1, 0, 0) := by decide +kernel
theorem k219_1134 : mj_look (mj_prog 219) 1134 = some (.iaload, 1, 0, 0) := by decide +kernel
theorem k219_1135 : mj_look (mj_prog 219) 1135 = some (.aload_n 0, 1, 0, 0) := by decide +kernel
theorem k219_1136 : mj_look (mj_prog 219) 1136 = some (.iload_n 3, 1, 0, 0) := by decide +kernel
theorem k219_1137 : mj_look (mj_prog 219) 1137 = some (.iconst 3, 1, 0, 0) := by decide +kernel
theorem k219_1138 : mj_look (mj_prog 219) 1138 = some (.iadd, 1, 0, 0) := by decide +kernel
theorem k219_1139 : mj_look (mj_prog 219) 1139 = some (.iaload, 1, 0, 0) := by decide +kernel
theorem k219_1140 : mj_look (mj_prog 219) 1140 = some (.invokevirtual 137, 3, 113, 3) := by decide +kernel
theorem k219_1143 : mj_look (mj_prog 219) 1143 = some (.aload_n 2, 1, 0, 0) := by decide +kernel
theorem k219_1144 : mj_look (mj_prog 219) 1144 = some (.aload_n 0, 1, 0, 0) := by decide +kernel
theorem k219_1145 : mj_look (mj_prog 219) 1145 = some (.iload_n 3, 1, 0, 0) := by decide +kernel
theorem k219_1146 : mj_look (mj_prog 219) 1146 = some (.iconst 1, 1, 0, 0) := by decide +kernel
theorem k219_1147 : mj_look (mj_prog 219) 1147 = some (.iadd, 1, 0, 0) := by decide +kernel
theorem k219_1148 : mj_look (mj_prog 219) 1148 = some (.iaload, 1, 0, 0) := by decide +kernel
theorem k219_1149 : mj_look (mj_prog 219) 1149 = some (.aload_n 0, 1, 0, 0) := by decide +kernel
theorem k219_1150 : mj_look (mj_prog 219) 1150 = some (.iload_n 3, 1, 0, 0) := by decide +kernel
theorem k219_1151 : mj_look (mj_prog 219) 1151 = some (.iconst 2, 1, 0, 0) := by decide +kernel
theorem k219_1152 : mj_look (mj_prog 219) 1152 = some (.iadd, 1, 0, 0) := by decide +kernel
theorem k219_1153 : mj_look (mj_prog 219) 1153 = some (.iaload, 1, 0, 0) := by decide +kernel
theorem k219_1154 : mj_look (mj_prog 219) 1154 = some (.aload_n 0, 1, 0, 0) := by decide +kernel
theorem k219_1155 : mj_look (mj_prog 219) 1155 = some (.iload_n 3, 1, 0, 0) := by decide +kernel
theorem k219_1156 : mj_look (mj_prog 219) 1156 = some (.iconst 3, 1, 0, 0) := by decide +kernel
theorem k219_1157 : mj_look (mj_prog 219) 1157 = some (.iadd, 1, 0, 0) := by decide +kernel
theorem k219_1158 : mj_look (mj_prog 219) 1158 = some (.iaload, 1, 0, 0) := by decide +kernel
theorem k219_1159 : mj_look (mj_prog 219) 1159 = some (.invokevirtual 140, 3, 202, 3) := by decide +kernel
theorem k219_1162 : mj_look (mj_prog 219) 1162 = some (.if_icmp .eq 394, 3, 1556, 0) := by decide +kernel
theorem k219_1165 : mj_look (mj_prog 219) 1165 = some (.iconst 0, 1, 0, 0) := by decide +kernel
theorem k219_1166 : mj_look (mj_prog 219) 1166 = some (.ireturn, 1, 0, 0) := by decide +kernel
theorem k219_1167 : mj_look (mj_prog 219) 1167 = some (.aload_n 1, 1, 0, 0) := by decide +kernel
theorem k219_1168 : mj_look (mj_prog 219) 1168 = some (.aload_n 0, 1, 0, 0) := by decide +kernel
theorem k219_1169 : mj_look (mj_prog 219) 1169 = some (.iload_n 3, 1, 0, 0) := by decide +kernel
theorem k219_1170 : mj_look (mj_prog 219) 1170 = some (.iconst 1, 1, 0, 0) := by decide +kernel
theorem k219_1171 : mj_look (mj_prog 219) 1171 = some (.iadd, 1, 0, 0) := by decide +kernel
theorem k219_1172 : mj_look (mj_prog 219) 1172 = some (.iaload, 1, 0, 0) := by decide +kernel
theorem k219_1173 : mj_look (mj_prog 219) 1173 = some (.aload_n 0, 1, 0, 0) := by decide +kernel
theorem k219_1174 : mj_look (mj_prog 219) 1174 = some (.iload_n 3, 1, 0, 0) := by decide +kernel
theorem k219_1175 : mj_look (mj_prog 219) 1175 = some (.iconst 2, 1, 0, 0) := by decide +kernel
theorem k219_1176 : mj_look (mj_prog 219) 1176 = some (.iadd, 1, 0, 0) := by decide +kernel
theorem k219_1177 : mj_look (mj_prog 219) 1177 = some (.iaload, 1, 0, 0) := by decide +kernel
theorem k219_1178 : mj_look (mj_prog 219) 1178 = some (.aload_n 0, 1, 0, 0) := by decide +kernel
theorem k219_1179 : mj_look (mj_prog 219) 1179 = some (.iload_n 3, 1, 0, 0) := by decide +kernel
theorem k219_1180 : mj_look (mj_prog 219) 1180 = some (.iconst 3, 1, 0, 0) := by decide +kernel
theorem k219_1181 : mj_look (mj_prog 219) 1181 = some (.iadd, 1, 0, 0) := by decide +kernel
theorem k219_1182 : mj_look (mj_prog 219) 1182 = some (.iaload, 1, 0, 0) := by decide +kernel
theorem k219_1183 : mj_look (mj_prog 219) 1183 = some (.invokevirtual 141, 3, 115, 3) := by decide +kernel
theorem k219_1186 : mj_look (mj_prog 219) 1186 = some (.aload_n 2, 1, 0, 0) := by decide +kernel
theorem k219_1187 : mj_look (mj_prog 219) 1187 = some (.aload_n 0, 1, 0, 0) := by decide +kernel
theorem k219_1188 : mj_look (mj_prog 219) 1188 = some (.iload_n 3, 1, 0, 0) := by decide +kernel
theorem k219_1189 : mj_look (mj_prog 219) 1189 = some (.iconst 1, 1, 0, 0) := by decide +kernel
theorem k219_1190 : mj_look (mj_prog 219) 1190 = some (.iadd, 1, 0, 0) := by decide +kernel
theorem k219_1191 : mj_look (mj_prog 219) 1191 = some (.iaload, 1, 0, 0) := by decide +kernel
theorem k219_1192 : mj_look (mj_prog 219) 1192 = some (.aload_n 0, 1, 0, 0) := by decide +kernel
theorem k219_1193 : mj_look (mj_prog 219) 1193 = some (.iload_n 3, 1, 0, 0) := by decide +kernel
theorem k219_1194 : mj_look (mj_prog 219) 1194 = some (.iconst 2, 1, 0, 0) := by decide +kernel
theorem k219_1195 : mj_look (mj_prog 219) 1195 = some (.iadd, 1, 0, 0) := by decide +kernel
theorem k219_1196 : mj_look (mj_prog 219) 1196 = some (.iaload, 1, 0, 0) := by decide +kernel
theorem k219_1197 : mj_look (mj_prog 219) 1197 = some (.aload_n 0, 1, 0, 0) := by decide +kernel
theorem k219_1198 : mj_look (mj_prog 219) 1198 = some (.iload_n 3, 1, 0, 0) := by decide +kernel
theorem k219_1199 : mj_look (mj_prog 219) 1199 = some (.iconst 3, 1, 0, 0) := by decide +kernel
theorem k219_1200 : mj_look (mj_prog 219) 1200 = some (.iadd, 1, 0, 0) := by decide +kernel
theorem k219_1201 : mj_look (mj_prog 219) 1201 = some (.iaload, 1, 0, 0) := by decide +kernel
theorem k219_1202 : mj_look (mj_prog 219) 1202 = some (.invokevirtual 144, 3, 203, 3) := by decide +kernel
theorem k219_1205 : mj_look (mj_prog 219) 1205 = some (.if_icmp .eq 351, 3, 1556, 0) := by decide +kernel
theorem k219_1208 : mj_look (mj_prog 219) 1208 = some (.iconst 0, 1, 0, 0) := by decide +kernel
theorem k219_1209 : mj_look (mj_prog 219) 1209 = some (.ireturn, 1, 0, 0) := by decide +kernel
theorem k219_1210 : mj_look (mj_prog 219) 1210 = some (.aload_n 1, 1, 0, 0) := by decide +kernel
theorem k219_1211 : mj_look (mj_prog 219) 1211 = some (.aload_n 0, 1, 0, 0) := by decide +kernel
theorem k219_1212 : mj_look (mj_prog 219) 1212 = some (.iload_n 3, 1, 0, 0) := by decide +kernel
theorem k219_1213 : mj_look (mj_prog 219) 1213 = some (.iconst 1, 1, 0, 0) := by decide +kernel
theorem k219_1214 : mj_look (mj_prog 219) 1214 = some (.iadd, 1, 0, 0) := by decide +kernel
theorem k219_1215 : mj_look (mj_prog 219) 1215 = some (.iaload, 1, 0, 0) := by decide +kernel
theorem k219_1216 : mj_look (mj_prog 219) 1216 = some (.invokevirtual 145, 3, 117, 1) := by decide +kernel
theorem k219_1219 : mj_look (mj_prog 219) 1219 = some (.aload_n 2, 1, 0, 0) := by decide +kernel
theorem k219_1220 : mj_look (mj_prog 219) 1220 = some (.aload_n 0, 1, 0, 0) := by decide +kernel
theorem k219_1221 : mj_look (mj_prog 219) 1221 = some (.iload_n 3, 1, 0, 0) := by decide +kernel
theorem k219_1222 : mj_look (mj_prog 219) 1222 = some (.iconst 1, 1, 0, 0) := by decide +kernel
theorem k219_1223 : mj_look (mj_prog 219) 1223 = some (.iadd, 1, 0, 0) := by decide +kernel
theorem k219_1224 : mj_look (mj_prog 219) 1224 = some (.iaload, 1, 0, 0) := by decide +kernel
theorem k219_1225 : mj_look (mj_prog 219) 1225 = some (.invokevirtual 148, 3, 204, 1) := by decide +kernel
theorem k219_1228 : mj_look (mj_prog 219) 1228 = some (.if_icmp .eq 328, 3, 1556, 0) := by decide +kernel
theorem k219_1231 : mj_look (mj_prog 219) 1231 = some (.iconst 0, 1, 0, 0) := by decide +kernel
theorem k219_1232 : mj_look (mj_prog 219) 1232 = some (.ireturn, 1, 0, 0) := by decide +kernel
theorem k219_1233 : mj_look (mj_prog 219) 1233 = some (.aload_n 1, 1, 0, 0) := by decide +kernel
theorem k219_1234 : mj_look (mj_prog 219) 1234 = some (.aload_n 0, 1, 0, 0) := by decide +kernel
theorem k219_1235 : mj_look (mj_prog 219) 1235 = some (.iload_n 3, 1, 0, 0) := by decide +kernel
theorem k219_1236 : mj_look (mj_prog 219) 1236 = some (.iconst 1, 1, 0, 0) := by decide +kernel
theorem k219_1237 : mj_look (mj_prog 219) 1237 = some (.iadd, 1, 0, 0) := by decide +kernel
theorem k219_1238 : mj_look (mj_prog 219) 1238 = some (.iaload, 1, 0, 0) := by decide +kernel
theorem k219_1239 : mj_look (mj_prog 219) 1239 = some (.invokevirtual 149, 3, 118, 1) := by decide +kernel
theorem k219_1242 : mj_look (mj_prog 219) 1242 = some (.aload_n 2, 1, 0, 0) := by decide +kernel
theorem k219_1243 : mj_look (mj_prog 219) 1243 = some (.aload_n 0, 1, 0, 0) := by decide +kernel
theorem k219_1244 : mj_look (mj_prog 219) 1244 = some (.iload_n 3, 1, 0, 0) := by decide +kernel
theorem k219_1245 : mj_look (mj_prog 219) 1245 = some (.iconst 1, 1, 0, 0) := by decide +kernel
theorem k219_1246 : mj_look (mj_prog 219) 1246 = some (.iadd, 1, 0, 0) := by decide +kernel
theorem k219_1247 : mj_look (mj_prog 219) 1247 = some (.iaload, 1, 0, 0) := by decide +kernel
theorem k219_1248 : mj_look (mj_prog 219) 1248 = some (.invokevirtual 152, 3, 205, 1) := by decide +kernel
theorem k219_1251 : mj_look (mj_prog 219) 1251 = some (.if_icmp .eq 305, 3, 1556, 0) := by decide +kernel
theorem k219_1254 : mj_look (mj_prog 219) 1254 = some (.iconst 0, 1, 0, 0) := by decide +kernel
theorem k219_1255 : mj_look (mj_prog 219) 1255 = some (.ireturn, 1, 0, 0) := by decide +kernel
theorem k219_1256 : mj_look (mj_prog 219) 1256 = some (.aload_n 1, 1, 0, 0) := by decide +kernel
theorem k219_1257 : mj_look (mj_prog 219) 1257 = some (.aload_n 0, 1, 0, 0) := by decide +kernel
theorem k219_1258 : mj_look (mj_prog 219) 1258 = some (.iload_n 3, 1, 0, 0) := by decide +kernel
theorem k219_1259 : mj_look (mj_prog 219) 1259 = some (.iconst 1, 1, 0, 0) := by decide +kernel
theorem k219_1260 : mj_look (mj_prog 219) 1260 = some (.iadd, 1, 0, 0) := by decide +kernel
theorem k219_1261 : mj_look (mj_prog 219) 1261 = some (.iaload, 1, 0, 0) := by decide +kernel
theorem k219_1262 : mj_look (mj_prog 219) 1262 = some (.aload_n 0, 1, 0, 0) := by decide +kernel
theorem k219_1263 : mj_look (mj_prog 219) 1263 = some (.iload_n 3, 1, 0, 0) := by decide +kernel
theorem k219_1264 : mj_look (mj_prog 219) 1264 = some (.iconst 2, 1, 0, 0) := by decide +kernel
theorem k219_1265 : mj_look (mj_prog 219) 1265 = some (.iadd, 1, 0, 0) := by decide +kernel
theorem k219_1266 : mj_look (mj_prog 219) 1266 = some (.iaload, 1, 0, 0) := by decide +kernel
theorem k219_1267 : mj_look (mj_prog 219) 1267 = some (.aload_n 0, 1, 0, 0) := by decide +kernel
theorem k219_1268 : mj_look (mj_prog 219) 1268 = some (.iload_n 3, 1, 0, 0) := by decide +kernel
theorem k219_1269 : mj_look (mj_prog 219) 1269 = some (.iconst 3, 1, 0, 0) := by decide +kernel
theorem k219_1270 : mj_look (mj_prog 219) 1270 = some (.iadd, 1, 0, 0) := by decide +kernel
theorem k219_1271 : mj_look (mj_prog 219) 1271 = some (.iaload, 1, 0, 0) := by decide +kernel
theorem k219_1272 : mj_look (mj_prog 219) 1272 = some (.aload_n 0, 1, 0, 0) := by decide +kernel
theorem k219_1273 : mj_look (mj_prog 219) 1273 = some (.iload_n 3, 1, 0, 0) := by decide +kernel
theorem k219_1274 : mj_look (mj_prog 219) 1274 = some (.iconst 4, 1, 0, 0) := by decide +kernel
theorem k219_1275 : mj_look (mj_prog 219) 1275 = some (.iadd, 1, 0, 0) := by decide +kernel
theorem k219_1276 : mj_look (mj_prog 219) 1276 = some (.iaload, 1, 0, 0) := by decide +kernel
theorem k219_1277 : mj_look (mj_prog 219) 1277 = some (.aload_n 0, 1, 0, 0) := by decide +kernel
theorem k219_1278 : mj_look (mj_prog 219) 1278 = some (.iload_n 3, 1, 0, 0) := by decide +kernel
theorem k219_1279 : mj_look (mj_prog 219) 1279 = some (.iconst 5, 1, 0, 0) := by decide +kernel
theorem k219_1280 : mj_look (mj_prog 219) 1280 = some (.iadd, 1, 0, 0) := by decide +kernel
theorem k219_1281 : mj_look (mj_prog 219) 1281 = some (.iaload, 1, 0, 0) := by decide +kernel
theorem k219_1282 : mj_look (mj_prog 219) 1282 = some (.invokevirtual 153, 3, 119, 5) := by decide +kernel
theorem k219_1285 : mj_look (mj_prog 219) 1285 = some (.aload_n 2, 1, 0, 0) := by decide +kernel
theorem k219_1286 : mj_look (mj_prog 219) 1286 = some (.aload_n 0, 1, 0, 0) := by decide +kernel
theorem k219_1287 : mj_look (mj_prog 219) 1287 = some (.iload_n 3, 1, 0, 0) := by decide +kernel
theorem k219_1288 : mj_look (mj_prog 219) 1288 = some (.iconst 1, 1, 0, 0) := by decide +kernel
theorem k219_1289 : mj_look (mj_prog 219) 1289 = some (.iadd, 1, 0, 0) := by decide +kernel
theorem k219_1290 : mj_look (mj_prog 219) 1290 = some (.iaload, 1, 0, 0) := by decide +kernel
theorem k219_1291 : mj_look (mj_prog 219) 1291 = some (.aload_n 0, 1, 0, 0) := by decide +kernel
theorem k219_1292 : mj_look (mj_prog 219) 1292 = some (.iload_n 3, 1, 0, 0) := by decide +kernel
theorem k219_1293 : mj_look (mj_prog 219) 1293 = some (.iconst 2, 1, 0, 0) := by decide +kernel
theorem k219_1294 : mj_look (mj_prog 219) 1294 = some (.iadd, 1, 0, 0) := by decide +kernel
theorem k219_1295 : mj_look (mj_prog 219) 1295 = some (.iaload, 1, 0, 0) := by decide +kernel
theorem k219_1296 : mj_look (mj_prog 219) 1296 = some (.aload_n 0, 1, 0, 0) := by decide +kernel
theorem k219_1297 : mj_look (mj_prog 219) 1297 = some (.iload_n 3, 1, 0, 0) := by decide +kernel
theorem k219_1298 : mj_look (mj_prog 219) 1298 = some (.iconst 3, 1, 0, 0) := by decide +kernel
theorem k219_1299 : mj_look (mj_prog 219) 1299 = some (.iadd, 1, 0, 0) := by decide +kernel
theorem k219_1300 : mj_look (mj_prog 219) 1300 = some (.iaload, 1, 0, 0) := by decide +kernel
theorem k219_1301 : mj_look (mj_prog 219) 1301 = some (.aload_n 0, 1, 0, 0) := by decide +kernel
theorem k219_1302 : mj_look (mj_prog 219) 1302 = some (.iload_n 3, 1, 0, 0) := by decide +kernel
theorem k219_1303 : mj_look (mj_prog 219) 1303 = some (.iconst 4, 1, 0, 0) := by decide +kernel
theorem k219_1304 : mj_look (mj_prog 219) 1304 = some (.iadd, 1, 0, 0) := by decide +kernel
theorem k219_1305 : mj_look (mj_prog 219) 1305 = some (.iaload, 1, 0, 0) := by decide +kernel
theorem k219_1306 : mj_look (mj_prog 219) 1306 = some (.aload_n 0, 1, 0, 0) := by decide +kernel
theorem k219_1307 : mj_look (mj_prog 219) 1307 = some (.iload_n 3, 1, 0, 0) := by decide +kernel
theorem k219_1308 : mj_look (mj_prog 219) 1308 = some (.iconst 5, 1, 0, 0) := by decide +kernel
theorem k219_1309 : mj_look (mj_prog 219) 1309 = some (.iadd, 1, 0, 0) := by decide +kernel
theorem k219_1310 : mj_look (mj_prog 219) 1310 = some (.iaload, 1, 0, 0) := by decide +kernel
theorem k219_1311 : mj_look (mj_prog 219) 1311 = some (.invokevirtual 157, 3, 206, 5) := by decide +kernel
theorem k219_1314 : mj_look (mj_prog 219) 1314 = some (.if_icmp .eq 242, 3, 1556, 0) := by decide +kernel
theorem k219_1317 : mj_look (mj_prog 219) 1317 = some (.iconst 0, 1, 0, 0) := by decide +kernel
theorem k219_1318 : mj_look (mj_prog 219) 1318 = some (.ireturn, 1, 0, 0) := by decide +kernel
theorem k219_1319 : mj_look (mj_prog 219) 1319 = some (.aload_n 1, 1, 0, 0) := by decide +kernel
theorem k219_1320 : mj_look (mj_prog 219) 1320 = some (.aload_n 0, 1, 0, 0) := by decide +kernel
theorem k219_1321 : mj_look (mj_prog 219) 1321 = some (.iload_n 3, 1, 0, 0) := by decide +kernel
theorem k219_1322 : mj_look (mj_prog 219) 1322 = some (.iconst 1, 1, 0, 0) := by decide +kernel
theorem k219_1323 : mj_look (mj_prog 219) 1323 = some (.iadd, 1, 0, 0) := by decide +kernel
theorem k219_1324 : mj_look (mj_prog 219) 1324 = some (.iaload, 1, 0, 0) := by decide +kernel
theorem k219_1325 : mj_look (mj_prog 219) 1325 = some (.aload_n 0, 1, 0, 0) := by decide +kernel
theorem k219_1326 : mj_look (mj_prog 219) 1326 = some (.iload_n 3, 1, 0, 0) := by decide +kernel
theorem k219_1327 : mj_look (mj_prog 219) 1327 = some (.iconst 2, 1, 0, 0) := by decide +kernel
theorem k219_1328 : mj_look (mj_prog 219) 1328 = some (.iadd, 1, 0, 0) := by decide +kernel
theorem k219_1329 : mj_look (mj_prog 219) 1329 = some (.iaload, 1, 0, 0) := by decide +kernel
theorem k219_1330 : mj_look (mj_prog 219) 1330 = some (.aload_n 0, 1, 0, 0) := by decide +kernel
theorem k219_1331 : mj_look (mj_prog 219) 1331 = some (.iload_n 3, 1, 0, 0) := by decide +kernel
theorem k219_1332 : mj_look (mj_prog 219) 1332 = some (.iconst 3, 1, 0, 0) := by decide +kernel
theorem k219_1333 : mj_look (mj_prog 219) 1333 = some (.iadd, 1, 0, 0) := by decide +kernel
theorem k219_1334 : mj_look (mj_prog 219) 1334 = some (.iaload, 1, 0, 0) := by decide +kernel
theorem k219_1335 : mj_look (mj_prog 219) 1335 = some (.invokevirtual 158, 3, 120, 3) := by decide +kernel
theorem k219_1338 : mj_look (mj_prog 219) 1338 = some (.aload_n 2, 1, 0, 0) := by decide +kernel
theorem k219_1339 : mj_look (mj_prog 219) 1339 = some (.aload_n 0, 1, 0, 0) := by decide +kernel
theorem k219_1340 : mj_look (mj_prog 219) 1340 = some (.iload_n 3, 1, 0, 0) := by decide +kernel
theorem k219_1341 : mj_look (mj_prog 219) 1341 = some (.iconst 1, 1, 0, 0) := by decide +kernel
theorem k219_1342 : mj_look (mj_prog 219) 1342 = some (.iadd, 1, 0, 0) := by decide +kernel
theorem k219_1343 : mj_look (mj_prog 219) 1343 = some (.iaload, 1, 0, 0) := by decide +kernel
theorem k219_1344 : mj_look (mj_prog 219) 1344 = some (.aload_n 0, 1, 0, 0) := by decide +kernel
theorem k219_1345 : mj_look (mj_prog 219) 1345 = some (.iload_n 3, 1, 0, 0) := by decide +kernel
theorem k219_1346 : mj_look (mj_prog 219) 1346 = some (.iconst 2, 1, 0, 0) := by decide +kernel
theorem k219_1347 : mj_look (mj_prog 219) 1347 = some (.iadd, 1, 0, 0) := by decide +kernel
theorem k219_1348 : mj_look (mj_prog 219) 1348 = some (.iaload, 1, 0, 0) := by decide +kernel
theorem k219_1349 : mj_look (mj_prog 219) 1349 = some (.aload_n 0, 1, 0, 0) := by decide +kernel
theorem k219_1350 : mj_look (mj_prog 219) 1350 = some (.iload_n 3, 1, 0, 0) := by decide +kernel
theorem k219_1351 : mj_look (mj_prog 219) 1351 = some (.iconst 3, 1, 0, 0) := by decide +kernel
theorem k219_1352 : mj_look (mj_prog 219) 1352 = some (.iadd, 1, 0, 0) := by decide +kernel
theorem k219_1353 : mj_look (mj_prog 219) 1353 = some (.iaload, 1, 0, 0) := by decide +kernel
theorem k219_1354 : mj_look (mj_prog 219) 1354 = some (.invokevirtual 161, 3, 207, 3) := by decide +kernel
theorem k219_1357 : mj_look (mj_prog 219) 1357 = some (.if_icmp .eq 199, 3, 1556, 0) := by decide +kernel
theorem k219_1360 : mj_look (mj_prog 219) 1360 = some (.iconst 0, 1, 0, 0) := by decide +kernel
theorem k219_1361 : mj_look (mj_prog 219) 1361 = some (.ireturn, 1, 0, 0) := by decide +kernel
theorem k219_1362 : mj_look (mj_prog 219) 1362 = some (.aload_n 1, 1, 0, 0) := by decide +kernel
theorem k219_1363 : mj_look (mj_prog 219) 1363 = some (.aload_n 0, 1, 0, 0) := by decide +kernel
theorem k219_1364 : mj_look (mj_prog 219) 1364 = some (.iload_n 3, 1, 0, 0) := by decide +kernel
theorem k219_1365 : mj_look (mj_prog 219) 1365 = some (.iconst 1, 1, 0, 0) := by decide +kernel
theorem k219_1366 : mj_look (mj_prog 219) 1366 = some (.iadd, 1, 0, 0) := by decide +kernel
theorem k219_1367 : mj_look (mj_prog 219) 1367 = some (.iaload, 1, 0, 0) := by decide +kernel
theorem k219_1368 : mj_look (mj_prog 219) 1368 = some (.aload_n 0, 1, 0, 0) := by decide +kernel
theorem k219_1369 : mj_look (mj_prog 219) 1369 = some (.iload_n 3, 1, 0, 0) := by decide +kernel
theorem k219_1370 : mj_look (mj_prog 219) 1370 = some (.iconst 2, 1, 0, 0) := by decide +kernel
theorem k219_1371 : mj_look (mj_prog 219) 1371 = some (.iadd, 1, 0, 0) := by decide +kernel
theorem k219_1372 : mj_look (mj_prog 219) 1372 = some (.iaload, 1, 0, 0) := by decide +kernel
theorem k219_1373 : mj_look (mj_prog 219) 1373 = some (.invokevirtual 162, 3, 123, 2) := by decide +kernel
theorem k219_1376 : mj_look (mj_prog 219) 1376 = some (.aload_n 2, 1, 0, 0) := by decide +kernel
theorem k219_1377 : mj_look (mj_prog 219) 1377 = some (.aload_n 0, 1, 0, 0) := by decide +kernel
theorem k219_1378 : mj_look (mj_prog 219) 1378 = some (.iload_n 3, 1, 0, 0) := by decide +kernel
theorem k219_1379 : mj_look (mj_prog 219) 1379 = some (.iconst 1, 1, 0, 0) := by decide +kernel
theorem k219_1380 : mj_look (mj_prog 219) 1380 = some (.iadd, 1, 0, 0) := by decide +kernel
theorem k219_1381 : mj_look (mj_prog 219) 1381 = some (.iaload, 1, 0, 0) := by decide +kernel
theorem k219_1382 : mj_look (mj_prog 219) 1382 = some (.aload_n 0, 1, 0, 0) := by decide +kernel
theorem k219_1383 : mj_look (mj_prog 219) 1383 = some (.iload_n 3, 1, 0, 0) := by decide +kernel
theorem k219_1384 : mj_look (mj_prog 219) 1384 = some (.iconst 2, 1, 0, 0) := by decide +kernel
theorem k219_1385 : mj_look (mj_prog 219) 1385 = some (.iadd, 1, 0, 0) := by decide +kernel
theorem k219_1386 : mj_look (mj_prog 219) 1386 = some (.iaload, 1, 0, 0) := by decide +kernel
theorem k219_1387 : mj_look (mj_prog 219) 1387 = some (.invokevirtual 165, 3, 209, 2) := by decide +kernel
theorem k219_1390 : mj_look (mj_prog 219) 1390 = some (.if_icmp .eq 166, 3, 1556, 0) := by decide +kernel
theorem k219_1393 : mj_look (mj_prog 219) 1393 = some (.iconst 0, 1, 0, 0) := by decide +kernel
theorem k219_1394 : mj_look (mj_prog 219) 1394 = some (.ireturn, 1, 0, 0) := by decide +kernel
theorem k219_1395 : mj_look (mj_prog 219) 1395 = some (.aload_n 1, 1, 0, 0) := by decide +kernel
theorem k219_1396 : mj_look (mj_prog 219) 1396 = some (.aload_n 0, 1, 0, 0) := by decide +kernel
theorem k219_1397 : mj_look (mj_prog 219) 1397 = some (.iload_n 3, 1, 0, 0) := by decide +kernel
theorem k219_1398 : mj_look (mj_prog 219) 1398 = some (.iconst 1, 1, 0, 0) := by decide +kernel
theorem k219_1399 : mj_look (mj_prog 219) 1399 = some (.iadd, 1, 0, 0) := by decide +kernel
theorem k219_1400 : mj_look (mj_prog 219) 1400 = some (.iaload, 1, 0, 0) := by decide +kernel
theorem k219_1401 : mj_look (mj_prog 219) 1401 = some (.aload_n 0, 1, 0, 0) := by decide +kernel
theorem k219_1402 : mj_look (mj_prog 219) 1402 = some (.iload_n 3, 1, 0, 0) := by decide +kernel
theorem k219_1403 : mj_look (mj_prog 219) 1403 = some (.iconst 2, 1, 0, 0) := by decide +kernel
theorem k219_1404 : mj_look (mj_prog 219) 1404 = some (.iadd, 1, 0, 0) := by decide +kernel
theorem k219_1405 : mj_look (mj_prog 219) 1405 = some (.iaload, 1, 0, 0) := by decide +kernel
theorem k219_1406 : mj_look (mj_prog 219) 1406 = some (.invokevirtual 166, 3, 124, 2) := by decide +kernel
theorem k219_1409 : mj_look (mj_prog 219) 1409 = some (.aload_n 2, 1, 0, 0) := by decide +kernel
theorem k219_1410 : mj_look (mj_prog 219) 1410 = some (.aload_n 0, 1, 0, 0) := by decide +kernel
theorem k219_1411 : mj_look (mj_prog 219) 1411 = some (.iload_n 3, 1, 0, 0) := by decide +kernel
theorem k219_1412 : mj_look (mj_prog 219) 1412 = some (.iconst 1, 1, 0, 0) := by decide +kernel
theorem k219_1413 : mj_look (mj_prog 219) 1413 = some (.iadd, 1, 0, 0) := by decide +kernel
theorem k219_1414 : mj_look (mj_prog 219) 1414 = some (.iaload, 1, 0, 0) := by decide +kernel
theorem k219_1415 : mj_look (mj_prog 219) 1415 = some (.aload_n 0, 1, 0, 0) := by decide +kernel
theorem k219_1416 : mj_look (mj_prog 219) 1416 = some (.iload_n 3, 1, 0, 0) := by decide +kernel
theorem k219_1417 : mj_look (mj_prog 219) 1417 = some (.iconst 2, 1, 0, 0) := by decide +kernel
theorem k219_1418 : mj_look (mj_prog 219) 1418 = some (.iadd, 1, 0, 0) := by decide +kernel
theorem k219_1419 : mj_look (mj_prog 219) 1419 = some (.iaload, 1, 0, 0) := by decide +kernel
theorem k219_1420 : mj_look (mj_prog 219) 1420 = some (.invokevirtual 169, 3, 210, 2) := by decide +kernel
theorem k219_1423 : mj_look (mj_prog 219) 1423 = some (.if_icmp .eq 133, 3, 1556, 0) := by decide +kernel
theorem k219_1426 : mj_look (mj_prog 219) 1426 = some (.iconst 0, 1, 0, 0) := by decide +kernel
theorem k219_1427 : mj_look (mj_prog 219) 1427 = some (.ireturn, 1, 0, 0) := by decide +kernel
theorem k219_1428 : mj_look (mj_prog 219) 1428 = some (.aload_n 1, 1, 0, 0) := by decide +kernel
theorem k219_1429 : mj_look (mj_prog 219) 1429 = some (.aload_n 0, 1, 0, 0) := by decide +kernel
theorem k219_1430 : mj_look (mj_prog 219) 1430 = some (.iload_n 3, 1, 0, 0) := by decide +kernel
theorem k219_1431 : mj_look (mj_prog 219) 1431 = some (.iconst 1, 1, 0, 0) := by decide +kernel
theorem k219_1432 : mj_look (mj_prog 219) 1432 = some (.iadd, 1, 0, 0) := by decide +kernel
theorem k219_1433 : mj_look (mj_prog 219) 1433 = some (.iaload, 1, 0, 0) := by decide +kernel
theorem k219_1434 : mj_look (mj_prog 219) 1434 = some (.aload_n 0, 1, 0, 0) := by decide +kernel
theorem k219_1435 : mj_look (mj_prog 219) 1435 = some (.iload_n 3, 1, 0, 0) := by decide +kernel
theorem k219_1436 : mj_look (mj_prog 219) 1436 = some (.iconst 2, 1, 0, 0) := by decide +kernel
theorem k219_1437 : mj_look (mj_prog 219) 1437 = some (.iadd, 1, 0, 0) := by decide +kernel
theorem k219_1438 : mj_look (mj_prog 219) 1438 = some (.iaload, 1, 0, 0) := by decide +kernel
theorem k219_1439 : mj_look (mj_prog 219) 1439 = some (.invokevirtual 170, 3, 125, 2) := by decide +kernel
theorem k219_1442 : mj_look (mj_prog 219) 1442 = some (.aload_n 2, 1, 0, 0) := by decide +kernel
theorem k219_1443 : mj_look (mj_prog 219) 1443 = some (.aload_n 0, 1, 0, 0) := by decide +kernel
theorem k219_1444 : mj_look (mj_prog 219) 1444 = some (.iload_n 3, 1, 0, 0) := by decide +kernel
theorem k219_1445 : mj_look (mj_prog 219) 1445 = some (.iconst 1, 1, 0, 0) := by decide +kernel
theorem k219_1446 : mj_look (mj_prog 219) 1446 = some (.iadd, 1, 0, 0) := by decide +kernel
theorem k219_1447 : mj_look (mj_prog 219) 1447 = some (.iaload, 1, 0, 0) := by decide +kernel
theorem k219_1448 : mj_look (mj_prog 219) 1448 = some (.aload_n 0, 1, 0, 0) := by decide +kernel
theorem k219_1449 : mj_look (mj_prog 219) 1449 = some (.iload_n 3, 1, 0, 0) := by decide +kernel
theorem k219_1450 : mj_look (mj_prog 219) 1450 = some (.iconst 2, 1, 0, 0) := by decide +kernel
theorem k219_1451 : mj_look (mj_prog 219) 1451 = some (.iadd, 1, 0, 0) := by decide +kernel
theorem k219_1452 : mj_look (mj_prog 219) 1452 = some (.iaload, 1, 0, 0) := by decide +kernel
theorem k219_1453 : mj_look (mj_prog 219) 1453 = some (.invokevirtual 173, 3, 211, 2) := by decide +kernel
theorem k219_1456 : mj_look (mj_prog 219) 1456 = some (.if_icmp .eq 100, 3, 1556, 0) := by decide +kernel
theorem k219_1459 : mj_look (mj_prog 219) 1459 = some (.iconst 0, 1, 0, 0) := by decide +kernel
theorem k219_1460 : mj_look (mj_prog 219) 1460 = some (.ireturn, 1, 0, 0) := by decide +kernel
theorem k219_1461 : mj_look (mj_prog 219) 1461 = some (.aload_n 1, 1, 0, 0) := by decide +kernel
theorem k219_1462 : mj_look (mj_prog 219) 1462 = some (.aload_n 0, 1, 0, 0) := by decide +kernel
theorem k219_1463 : mj_look (mj_prog 219) 1463 = some (.iload_n 3, 1, 0, 0) := by decide +kernel
theorem k219_1464 : mj_look (mj_prog 219) 1464 = some (.iconst 1, 1, 0, 0) := by decide +kernel
theorem k219_1465 : mj_look (mj_prog 219) 1465 = some (.iadd, 1, 0, 0) := by decide +kernel
theorem k219_1466 : mj_look (mj_prog 219) 1466 = some (.iaload, 1, 0, 0) := by decide +kernel
theorem k219_1467 : mj_look (mj_prog 219) 1467 = some (.invokevirtual 174, 3, 126, 1) := by decide +kernel
theorem k219_1470 : mj_look (mj_prog 219) 1470 = some (.aload_n 2, 1, 0, 0) := by decide +kernel
theorem k219_1471 : mj_look (mj_prog 219) 1471 = some (.aload_n 0, 1, 0, 0) := by decide +kernel
theorem k219_1472 : mj_look (mj_prog 219) 1472 = some (.iload_n 3, 1, 0, 0) := by decide +kernel
theorem k219_1473 : mj_look (mj_prog 219) 1473 = some (.iconst 1, 1, 0, 0) := by decide +kernel
theorem k219_1474 : mj_look (mj_prog 219) 1474 = some (.iadd, 1, 0, 0) := by decide +kernel
theorem k219_1475 : mj_look (mj_prog 219) 1475 = some (.iaload, 1, 0, 0) := by decide +kernel
theorem k219_1476 : mj_look (mj_prog 219) 1476 = some (.invokevirtual 177, 3, 212, 1) := by decide +kernel
theorem k219_1479 : mj_look (mj_prog 219) 1479 = some (.if_icmp .eq 77, 3, 1556, 0) := by decide +kernel
theorem k219_1482 : mj_look (mj_prog 219) 1482 = some (.iconst 0, 1, 0, 0) := by decide +kernel
theorem k219_1483 : mj_look (mj_prog 219) 1483 = some (.ireturn, 1, 0, 0) := by decide +kernel
theorem k219_1484 : mj_look (mj_prog 219) 1484 = some (.aload_n 1, 1, 0, 0) := by decide +kernel
theorem k219_1485 : mj_look (mj_prog 219) 1485 = some (.aload_n 0, 1, 0, 0) := by decide +kernel
theorem k219_1486 : mj_look (mj_prog 219) 1486 = some (.iload_n 3, 1, 0, 0) := by decide +kernel
theorem k219_1487 : mj_look (mj_prog 219) 1487 = some (.iconst 1, 1, 0, 0) := by decide +kernel
theorem k219_1488 : mj_look (mj_prog 219) 1488 = some (.iadd, 1, 0, 0) := by decide +kernel
theorem k219_1489 : mj_look (mj_prog 219) 1489 = some (.iaload, 1, 0, 0) := by decide +kernel
theorem k219_1490 : mj_look (mj_prog 219) 1490 = some (.invokevirtual 178, 3, 127, 1) := by decide +kernel
theorem k219_1493 : mj_look (mj_prog 219) 1493 = some (.aload_n 2, 1, 0, 0) := by decide +kernel
theorem k219_1494 : mj_look (mj_prog 219) 1494 = some (.aload_n 0, 1, 0, 0) := by decide +kernel
theorem k219_1495 : mj_look (mj_prog 219) 1495 = some (.iload_n 3, 1, 0, 0) := by decide +kernel
theorem k219_1496 : mj_look (mj_prog 219) 1496 = some (.iconst 1, 1, 0, 0) := by decide +kernel
theorem k219_1497 : mj_look (mj_prog 219) 1497 = some (.iadd, 1, 0, 0) := by decide +kernel
theorem k219_1498 : mj_look (mj_prog 219) 1498 = some (.iaload, 1, 0, 0) := by decide +kernel
theorem k219_1499 : mj_look (mj_prog 219) 1499 = some (.invokevirtual 181, 3, 213, 1) := by decide +kernel
theorem k219_1502 : mj_look (mj_prog 219) 1502 = some (.if_icmp .eq 54, 3, 1556, 0) := by decide +kernel
theorem k219_1505 : mj_look (mj_prog 219) 1505 = some (.iconst 0, 1, 0, 0) := by decide +kernel
theorem k219_1506 : mj_look (mj_prog 219) 1506 = some (.ireturn, 1, 0, 0) := by decide +kernel
theorem k219_1507 : mj_look (mj_prog 219) 1507 = some (.aload_n 1, 1, 0, 0) := by decide +kernel
theorem k219_1508 : mj_look (mj_prog 219) 1508 = some (.invokevirtual 182, 3, 128, 0) := by decide +kernel
theorem k219_1511 : mj_look (mj_prog 219) 1511 = some (.aload_n 2, 1, 0, 0) := by decide +kernel
theorem k219_1512 : mj_look (mj_prog 219) 1512 = some (.invokevirtual 185, 3, 215, 0) := by decide +kernel
theorem k219_1515 : mj_look (mj_prog 219) 1515 = some (.if_icmp .eq 41, 3, 1556, 0) := by decide +kernel
theorem k219_1518 : mj_look (mj_prog 219) 1518 = some (.iconst 0, 1, 0, 0) := by decide +kernel
theorem k219_1519 : mj_look (mj_prog 219) 1519 = some (.ireturn, 1, 0, 0) := by decide +kernel
theorem k219_1520 : mj_look (mj_prog 219) 1520 = some (.aload_n 1, 1, 0, 0) := by decide +kernel
theorem k219_1521 : mj_look (mj_prog 219) 1521 = some (.invokevirtual 186, 3, 129, 0) := by decide +kernel
theorem k219_1524 : mj_look (mj_prog 219) 1524 = some (.aload_n 2, 1, 0, 0) := by decide +kernel
theorem k219_1525 : mj_look (mj_prog 219) 1525 = some (.invokevirtual 189, 3, 216, 0) := by decide +kernel
theorem k219_1528 : mj_look (mj_prog 219) 1528 = some (.if_icmp .eq 28, 3, 1556, 0) := by decide +kernel
theorem k219_1531 : mj_look (mj_prog 219) 1531 = some (.iconst 0, 1, 0, 0) := by decide +kernel
theorem k219_1532 : mj_look (mj_prog 219) 1532 = some (.ireturn, 1, 0, 0) := by decide +kernel
theorem k219_1533 : mj_look (mj_prog 219) 1533 = some (.aload_n 1, 1, 0, 0) := by decide +kernel
theorem k219_1534 : mj_look (mj_prog 219) 1534 = some (.aload_n 0, 1, 0, 0) := by decide +kernel
theorem k219_1535 : mj_look (mj_prog 219) 1535 = some (.iload_n 3, 1, 0, 0) := by decide +kernel
theorem k219_1536 : mj_look (mj_prog 219) 1536 = some (.iconst 1, 1, 0, 0) := by decide +kernel
theorem k219_1537 : mj_look (mj_prog 219) 1537 = some (.iadd, 1, 0, 0) := by decide +kernel
theorem k219_1538 : mj_look (mj_prog 219) 1538 = some (.iaload, 1, 0, 0) := by decide +kernel
theorem k219_1539 : mj_look (mj_prog 219) 1539 = some (.invokevirtual 190, 3, 130, 1) := by decide +kernel
theorem k219_1542 : mj_look (mj_prog 219) 1542 = some (.aload_n 2, 1, 0, 0) := by decide +kernel
theorem k219_1543 : mj_look (mj_prog 219) 1543 = some (.aload_n 0, 1, 0, 0) := by decide +kernel
theorem k219_1544 : mj_look (mj_prog 219) 1544 = some (.iload_n 3, 1, 0, 0) := by decide +kernel
theorem k219_1545 : mj_look (mj_prog 219) 1545 = some (.iconst 1, 1, 0, 0) := by decide +kernel
theorem k219_1546 : mj_look (mj_prog 219) 1546 = some (.iadd, 1, 0, 0) := by decide +kernel
theorem k219_1547 : mj_look (mj_prog 219) 1547 = some (.iaload, 1, 0, 0) := by decide +kernel
theorem k219_1548 : mj_look (mj_prog 219) 1548 = some (.invokevirtual 193, 3, 217, 1) := by decide +kernel
theorem k219_1551 : mj_look (mj_prog 219) 1551 = some (.if_icmp .eq 5, 3, 1556, 0) := by decide +kernel
theorem k219_1554 : mj_look (mj_prog 219) 1554 = some (.iconst 0, 1, 0, 0) := by decide +kernel
theorem k219_1555 : mj_look (mj_prog 219) 1555 = some (.ireturn, 1, 0, 0) := by decide +kernel
theorem k219_1556 : mj_look (mj_prog 219) 1556 = some (.iinc 3 6, 3, 0, 0) := by decide +kernel
theorem k219_1559 : mj_look (mj_prog 219) 1559 = some (.goto (-1541), 3, 18, 0) := by decide +kernel
theorem k219_1562 : mj_look (mj_prog 219) 1562 = some (.iconst 1, 1, 0, 0) := by decide +kernel
theorem k219_1563 : mj_look (mj_prog 219) 1563 = some (.ireturn, 1, 0, 0) := by decide +kernel
