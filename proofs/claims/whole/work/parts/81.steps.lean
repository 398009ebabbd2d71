/-! ===== the law: a step of the script ===== -/
theorem mI_and63 (x : Int32) : x &&& nI 63 = nI (x.toBitVec.toNat % 64) := by
  have h : x.toBitVec &&& 63#32 = BitVec.ofNat 32 (x.toBitVec.toNat % 64) := by
    apply BitVec.eq_of_toNat_eq
    rw [BitVec.toNat_and]
    show x.toBitVec.toNat &&& 63 = _
    rw [show (63 : Nat) = 2 ^ 6 - 1 from rfl, Nat.and_two_pow_sub_one_eq_mod]
    have := Nat.mod_lt x.toBitVec.toNat (show 0 < 64 by decide)
    show x.toBitVec.toNat % 64 = (x.toBitVec.toNat % 64) % 2 ^ 32
    exact (Nat.mod_eq_of_lt (by omega)).symm
  show Int32.ofBitVec (x.toBitVec &&& 63#32) = _
  rw [h]
  rfl
abbrev mLw (i : Nat) : List Value := [.ref mj_X, .ref 0, .ref 127, .int (nI i)]
theorem lw_0 {L : Nat} {xs : Nat → Int32} {I : Nat → Nat → Int32} {Q : Option Value → mj_H → Prop} {i : Nat} (hi : i + 6 ≤ L) (hL : L ≤ 3072) (hR : mRel I) (hS : ∀ J, mRel J → mj_Ev 96 219 1556 (mLw i) [] (mg_h L xs J) Q) : mj_Ev 96 219 224 (mLw i) [] (mg_h L xs I) Q := by
  refine me_aload_n (p' := 225) k219_224 rfl rfl ?_
  refine me_aload_n (p' := 226) k219_225 rfl rfl ?_
  refine me_iload_n (p' := 227) k219_226 rfl rfl ?_
  refine me_iconst (p' := 228) k219_227 rfl (v := nI 1) (by decide) ?_
  refine me_iadd (p' := 229) k219_228 rfl (v := nI (i + 1)) (mI_add _ _) ?_
  refine me_xald (p' := 230) k219_229 rfl (j := i + 1) rfl (by omega) (by omega) ?_
  refine me_aload_n (p' := 231) k219_230 rfl rfl ?_
  refine me_iload_n (p' := 232) k219_231 rfl rfl ?_
  refine me_iconst (p' := 233) k219_232 rfl (v := nI 2) (by decide) ?_
  refine me_iadd (p' := 234) k219_233 rfl (v := nI (i + 2)) (mI_add _ _) ?_
  refine me_xald (p' := 235) k219_234 rfl (j := i + 2) rfl (by omega) (by omega) ?_
  refine me_aload_n (p' := 236) k219_235 rfl rfl ?_
  refine me_iload_n (p' := 237) k219_236 rfl rfl ?_
  refine me_iconst (p' := 238) k219_237 rfl (v := nI 3) (by decide) ?_
  refine me_iadd (p' := 239) k219_238 rfl (v := nI (i + 3)) (mI_add _ _) ?_
  refine me_xald (p' := 240) k219_239 rfl (j := i + 3) rfl (by omega) (by omega) ?_
  refine me_cv (p' := 243) k219_240 rfl rfl (by decide) rfl (by decide) (by decide) dp_12 rfl rfl (cl_le mx_12 rfl) (by decide) (cl_sum rfl) (b_car hR _ (fun I1 v hv => ?_))
  refine me_aload_n (p' := 244) k219_243 rfl rfl ?_
  refine me_aload_n (p' := 245) k219_244 rfl rfl ?_
  refine me_iload_n (p' := 246) k219_245 rfl rfl ?_
  refine me_iconst (p' := 247) k219_246 rfl (v := nI 1) (by decide) ?_
  refine me_iadd (p' := 248) k219_247 rfl (v := nI (i + 1)) (mI_add _ _) ?_
  refine me_xald (p' := 249) k219_248 rfl (j := i + 1) rfl (by omega) (by omega) ?_
  refine me_aload_n (p' := 250) k219_249 rfl rfl ?_
  refine me_iload_n (p' := 251) k219_250 rfl rfl ?_
  refine me_iconst (p' := 252) k219_251 rfl (v := nI 2) (by decide) ?_
  refine me_iadd (p' := 253) k219_252 rfl (v := nI (i + 2)) (mI_add _ _) ?_
  refine me_xald (p' := 254) k219_253 rfl (j := i + 2) rfl (by omega) (by omega) ?_
  refine me_aload_n (p' := 255) k219_254 rfl rfl ?_
  refine me_iload_n (p' := 256) k219_255 rfl rfl ?_
  refine me_iconst (p' := 257) k219_256 rfl (v := nI 3) (by decide) ?_
  refine me_iadd (p' := 258) k219_257 rfl (v := nI (i + 3)) (mI_add _ _) ?_
  refine me_xald (p' := 259) k219_258 rfl (j := i + 3) rfl (by omega) (by omega) ?_
  refine me_cv (p' := 262) k219_259 rfl rfl (by decide) rfl (by decide) (by decide) dp_133 rfl rfl (cl_le mx_133 rfl) (by decide) (cl_sum rfl) (hv _ (fun I2 hR2 => ?_))
  refine me_ic_eq (p' := 265) k219_262 rfl (fun c1 => ?_) (fun c1 => ?_)
  · skip
    exact hS I2 hR2
  · skip
    exact absurd rfl c1
theorem lw_1 {L : Nat} {xs : Nat → Int32} {I : Nat → Nat → Int32} {Q : Option Value → mj_H → Prop} {i : Nat} (hi : i + 6 ≤ L) (hL : L ≤ 3072) (hR : mRel I) (hS : ∀ J, mRel J → mj_Ev 96 219 1556 (mLw i) [] (mg_h L xs J) Q) : mj_Ev 96 219 267 (mLw i) [] (mg_h L xs I) Q := by
  refine me_aload_n (p' := 268) k219_267 rfl rfl ?_
  refine me_aload_n (p' := 269) k219_268 rfl rfl ?_
  refine me_iload_n (p' := 270) k219_269 rfl rfl ?_
  refine me_iconst (p' := 271) k219_270 rfl (v := nI 1) (by decide) ?_
  refine me_iadd (p' := 272) k219_271 rfl (v := nI (i + 1)) (mI_add _ _) ?_
  refine me_xald (p' := 273) k219_272 rfl (j := i + 1) rfl (by omega) (by omega) ?_
  refine me_aload_n (p' := 274) k219_273 rfl rfl ?_
  refine me_iload_n (p' := 275) k219_274 rfl rfl ?_
  refine me_iconst (p' := 276) k219_275 rfl (v := nI 2) (by decide) ?_
  refine me_iadd (p' := 277) k219_276 rfl (v := nI (i + 2)) (mI_add _ _) ?_
  refine me_xald (p' := 278) k219_277 rfl (j := i + 2) rfl (by omega) (by omega) ?_
  refine me_cv (p' := 281) k219_278 rfl rfl (by decide) rfl (by decide) (by decide) dp_18 rfl rfl (cl_le mx_18 rfl) (by decide) (cl_sum rfl) (b_told hR _ (fun I1 v hv => ?_))
  refine me_aload_n (p' := 282) k219_281 rfl rfl ?_
  refine me_aload_n (p' := 283) k219_282 rfl rfl ?_
  refine me_iload_n (p' := 284) k219_283 rfl rfl ?_
  refine me_iconst (p' := 285) k219_284 rfl (v := nI 1) (by decide) ?_
  refine me_iadd (p' := 286) k219_285 rfl (v := nI (i + 1)) (mI_add _ _) ?_
  refine me_xald (p' := 287) k219_286 rfl (j := i + 1) rfl (by omega) (by omega) ?_
  refine me_aload_n (p' := 288) k219_287 rfl rfl ?_
  refine me_iload_n (p' := 289) k219_288 rfl rfl ?_
  refine me_iconst (p' := 290) k219_289 rfl (v := nI 2) (by decide) ?_
  refine me_iadd (p' := 291) k219_290 rfl (v := nI (i + 2)) (mI_add _ _) ?_
  refine me_xald (p' := 292) k219_291 rfl (j := i + 2) rfl (by omega) (by omega) ?_
  refine me_cv (p' := 295) k219_292 rfl rfl (by decide) rfl (by decide) (by decide) dp_145 rfl rfl (cl_le mx_145 rfl) (by decide) (cl_sum rfl) (hv _ (fun I2 hR2 => ?_))
  refine me_ic_eq (p' := 298) k219_295 rfl (fun c1 => ?_) (fun c1 => ?_)
  · skip
    exact hS I2 hR2
  · skip
    exact absurd rfl c1
theorem lw_2 {L : Nat} {xs : Nat → Int32} {I : Nat → Nat → Int32} {Q : Option Value → mj_H → Prop} {i : Nat} (hi : i + 6 ≤ L) (hL : L ≤ 3072) (hR : mRel I) (hS : ∀ J, mRel J → mj_Ev 96 219 1556 (mLw i) [] (mg_h L xs J) Q) : mj_Ev 96 219 300 (mLw i) [] (mg_h L xs I) Q := by
  refine me_aload_n (p' := 301) k219_300 rfl rfl ?_
  refine me_aload_n (p' := 302) k219_301 rfl rfl ?_
  refine me_iload_n (p' := 303) k219_302 rfl rfl ?_
  refine me_iconst (p' := 304) k219_303 rfl (v := nI 1) (by decide) ?_
  refine me_iadd (p' := 305) k219_304 rfl (v := nI (i + 1)) (mI_add _ _) ?_
  refine me_xald (p' := 306) k219_305 rfl (j := i + 1) rfl (by omega) (by omega) ?_
  refine me_aload_n (p' := 307) k219_306 rfl rfl ?_
  refine me_iload_n (p' := 308) k219_307 rfl rfl ?_
  refine me_iconst (p' := 309) k219_308 rfl (v := nI 2) (by decide) ?_
  refine me_iadd (p' := 310) k219_309 rfl (v := nI (i + 2)) (mI_add _ _) ?_
  refine me_xald (p' := 311) k219_310 rfl (j := i + 2) rfl (by omega) (by omega) ?_
  refine me_cv (p' := 314) k219_311 rfl rfl (by decide) rfl (by decide) (by decide) dp_44 rfl rfl (cl_le mx_44 rfl) (by decide) (cl_sum rfl) (b_pace hR _ (fun I1 v hv => ?_))
  refine me_aload_n (p' := 315) k219_314 rfl rfl ?_
  refine me_aload_n (p' := 316) k219_315 rfl rfl ?_
  refine me_iload_n (p' := 317) k219_316 rfl rfl ?_
  refine me_iconst (p' := 318) k219_317 rfl (v := nI 1) (by decide) ?_
  refine me_iadd (p' := 319) k219_318 rfl (v := nI (i + 1)) (mI_add _ _) ?_
  refine me_xald (p' := 320) k219_319 rfl (j := i + 1) rfl (by omega) (by omega) ?_
  refine me_aload_n (p' := 321) k219_320 rfl rfl ?_
  refine me_iload_n (p' := 322) k219_321 rfl rfl ?_
  refine me_iconst (p' := 323) k219_322 rfl (v := nI 2) (by decide) ?_
  refine me_iadd (p' := 324) k219_323 rfl (v := nI (i + 2)) (mI_add _ _) ?_
  refine me_xald (p' := 325) k219_324 rfl (j := i + 2) rfl (by omega) (by omega) ?_
  refine me_cv (p' := 328) k219_325 rfl rfl (by decide) rfl (by decide) (by decide) dp_136 rfl rfl (cl_le mx_136 rfl) (by decide) (cl_sum rfl) (hv _ (fun I2 hR2 => ?_))
  refine me_ic_eq (p' := 331) k219_328 rfl (fun c1 => ?_) (fun c1 => ?_)
  · skip
    exact hS I2 hR2
  · skip
    exact absurd rfl c1
theorem lw_3 {L : Nat} {xs : Nat → Int32} {I : Nat → Nat → Int32} {Q : Option Value → mj_H → Prop} {i : Nat} (hi : i + 6 ≤ L) (hL : L ≤ 3072) (hR : mRel I) (hS : ∀ J, mRel J → mj_Ev 96 219 1556 (mLw i) [] (mg_h L xs J) Q) : mj_Ev 96 219 333 (mLw i) [] (mg_h L xs I) Q := by
  refine me_aload_n (p' := 334) k219_333 rfl rfl ?_
  refine me_aload_n (p' := 335) k219_334 rfl rfl ?_
  refine me_iload_n (p' := 336) k219_335 rfl rfl ?_
  refine me_iconst (p' := 337) k219_336 rfl (v := nI 1) (by decide) ?_
  refine me_iadd (p' := 338) k219_337 rfl (v := nI (i + 1)) (mI_add _ _) ?_
  refine me_xald (p' := 339) k219_338 rfl (j := i + 1) rfl (by omega) (by omega) ?_
  refine me_aload_n (p' := 340) k219_339 rfl rfl ?_
  refine me_iload_n (p' := 341) k219_340 rfl rfl ?_
  refine me_iconst (p' := 342) k219_341 rfl (v := nI 2) (by decide) ?_
  refine me_iadd (p' := 343) k219_342 rfl (v := nI (i + 2)) (mI_add _ _) ?_
  refine me_xald (p' := 344) k219_343 rfl (j := i + 2) rfl (by omega) (by omega) ?_
  refine me_cv (p' := 347) k219_344 rfl rfl (by decide) rfl (by decide) (by decide) dp_46 rfl rfl (cl_le mx_46 rfl) (by decide) (cl_sum rfl) (b_as hR _ (fun I1 v hv => ?_))
  refine me_aload_n (p' := 348) k219_347 rfl rfl ?_
  refine me_aload_n (p' := 349) k219_348 rfl rfl ?_
  refine me_iload_n (p' := 350) k219_349 rfl rfl ?_
  refine me_iconst (p' := 351) k219_350 rfl (v := nI 1) (by decide) ?_
  refine me_iadd (p' := 352) k219_351 rfl (v := nI (i + 1)) (mI_add _ _) ?_
  refine me_xald (p' := 353) k219_352 rfl (j := i + 1) rfl (by omega) (by omega) ?_
  refine me_aload_n (p' := 354) k219_353 rfl rfl ?_
  refine me_iload_n (p' := 355) k219_354 rfl rfl ?_
  refine me_iconst (p' := 356) k219_355 rfl (v := nI 2) (by decide) ?_
  refine me_iadd (p' := 357) k219_356 rfl (v := nI (i + 2)) (mI_add _ _) ?_
  refine me_xald (p' := 358) k219_357 rfl (j := i + 2) rfl (by omega) (by omega) ?_
  refine me_cv (p' := 361) k219_358 rfl rfl (by decide) rfl (by decide) (by decide) dp_149 rfl rfl (cl_le mx_149 rfl) (by decide) (cl_sum rfl) (hv _ (fun I2 hR2 => ?_))
  refine me_ic_eq (p' := 364) k219_361 rfl (fun c1 => ?_) (fun c1 => ?_)
  · skip
    exact hS I2 hR2
  · skip
    exact absurd rfl c1
theorem lw_4 {L : Nat} {xs : Nat → Int32} {I : Nat → Nat → Int32} {Q : Option Value → mj_H → Prop} {i : Nat} (hi : i + 6 ≤ L) (hL : L ≤ 3072) (hR : mRel I) (hS : ∀ J, mRel J → mj_Ev 96 219 1556 (mLw i) [] (mg_h L xs J) Q) : mj_Ev 96 219 366 (mLw i) [] (mg_h L xs I) Q := by
  refine me_aload_n (p' := 367) k219_366 rfl rfl ?_
  refine me_aload_n (p' := 368) k219_367 rfl rfl ?_
  refine me_iload_n (p' := 369) k219_368 rfl rfl ?_
  refine me_iconst (p' := 370) k219_369 rfl (v := nI 1) (by decide) ?_
  refine me_iadd (p' := 371) k219_370 rfl (v := nI (i + 1)) (mI_add _ _) ?_
  refine me_xald (p' := 372) k219_371 rfl (j := i + 1) rfl (by omega) (by omega) ?_
  refine me_aload_n (p' := 373) k219_372 rfl rfl ?_
  refine me_iload_n (p' := 374) k219_373 rfl rfl ?_
  refine me_iconst (p' := 375) k219_374 rfl (v := nI 2) (by decide) ?_
  refine me_iadd (p' := 376) k219_375 rfl (v := nI (i + 2)) (mI_add _ _) ?_
  refine me_xald (p' := 377) k219_376 rfl (j := i + 2) rfl (by omega) (by omega) ?_
  refine me_cv (p' := 380) k219_377 rfl rfl (by decide) rfl (by decide) (by decide) dp_53 rfl rfl (cl_le mx_53 rfl) (by decide) (cl_sum rfl) (b_turns hR _ (fun I1 v hv => ?_))
  refine me_aload_n (p' := 381) k219_380 rfl rfl ?_
  refine me_aload_n (p' := 382) k219_381 rfl rfl ?_
  refine me_iload_n (p' := 383) k219_382 rfl rfl ?_
  refine me_iconst (p' := 384) k219_383 rfl (v := nI 1) (by decide) ?_
  refine me_iadd (p' := 385) k219_384 rfl (v := nI (i + 1)) (mI_add _ _) ?_
  refine me_xald (p' := 386) k219_385 rfl (j := i + 1) rfl (by omega) (by omega) ?_
  refine me_aload_n (p' := 387) k219_386 rfl rfl ?_
  refine me_iload_n (p' := 388) k219_387 rfl rfl ?_
  refine me_iconst (p' := 389) k219_388 rfl (v := nI 2) (by decide) ?_
  refine me_iadd (p' := 390) k219_389 rfl (v := nI (i + 2)) (mI_add _ _) ?_
  refine me_xald (p' := 391) k219_390 rfl (j := i + 2) rfl (by omega) (by omega) ?_
  refine me_cv (p' := 394) k219_391 rfl rfl (by decide) rfl (by decide) (by decide) dp_151 rfl rfl (cl_le mx_151 rfl) (by decide) (cl_sum rfl) (hv _ (fun I2 hR2 => ?_))
  refine me_ic_eq (p' := 397) k219_394 rfl (fun c1 => ?_) (fun c1 => ?_)
  · skip
    exact hS I2 hR2
  · skip
    exact absurd rfl c1
theorem lw_5 {L : Nat} {xs : Nat → Int32} {I : Nat → Nat → Int32} {Q : Option Value → mj_H → Prop} {i : Nat} (hi : i + 6 ≤ L) (hL : L ≤ 3072) (hR : mRel I) (hS : ∀ J, mRel J → mj_Ev 96 219 1556 (mLw i) [] (mg_h L xs J) Q) : mj_Ev 96 219 399 (mLw i) [] (mg_h L xs I) Q := by
  refine me_aload_n (p' := 400) k219_399 rfl rfl ?_
  refine me_aload_n (p' := 401) k219_400 rfl rfl ?_
  refine me_iload_n (p' := 402) k219_401 rfl rfl ?_
  refine me_iconst (p' := 403) k219_402 rfl (v := nI 1) (by decide) ?_
  refine me_iadd (p' := 404) k219_403 rfl (v := nI (i + 1)) (mI_add _ _) ?_
  refine me_xald (p' := 405) k219_404 rfl (j := i + 1) rfl (by omega) (by omega) ?_
  refine me_aload_n (p' := 406) k219_405 rfl rfl ?_
  refine me_iload_n (p' := 407) k219_406 rfl rfl ?_
  refine me_iconst (p' := 408) k219_407 rfl (v := nI 2) (by decide) ?_
  refine me_iadd (p' := 409) k219_408 rfl (v := nI (i + 2)) (mI_add _ _) ?_
  refine me_xald (p' := 410) k219_409 rfl (j := i + 2) rfl (by omega) (by omega) ?_
  refine me_aload_n (p' := 411) k219_410 rfl rfl ?_
  refine me_iload_n (p' := 412) k219_411 rfl rfl ?_
  refine me_iconst (p' := 413) k219_412 rfl (v := nI 3) (by decide) ?_
  refine me_iadd (p' := 414) k219_413 rfl (v := nI (i + 3)) (mI_add _ _) ?_
  refine me_xald (p' := 415) k219_414 rfl (j := i + 3) rfl (by omega) (by omega) ?_
  refine me_cv (p' := 418) k219_415 rfl rfl (by decide) rfl (by decide) (by decide) dp_54 rfl rfl (cl_le mx_54 rfl) (by decide) (cl_sum rfl) (b_set hR _ (fun I1 v hv => ?_))
  refine me_aload_n (p' := 419) k219_418 rfl rfl ?_
  refine me_aload_n (p' := 420) k219_419 rfl rfl ?_
  refine me_iload_n (p' := 421) k219_420 rfl rfl ?_
  refine me_iconst (p' := 422) k219_421 rfl (v := nI 1) (by decide) ?_
  refine me_iadd (p' := 423) k219_422 rfl (v := nI (i + 1)) (mI_add _ _) ?_
  refine me_xald (p' := 424) k219_423 rfl (j := i + 1) rfl (by omega) (by omega) ?_
  refine me_aload_n (p' := 425) k219_424 rfl rfl ?_
  refine me_iload_n (p' := 426) k219_425 rfl rfl ?_
  refine me_iconst (p' := 427) k219_426 rfl (v := nI 2) (by decide) ?_
  refine me_iadd (p' := 428) k219_427 rfl (v := nI (i + 2)) (mI_add _ _) ?_
  refine me_xald (p' := 429) k219_428 rfl (j := i + 2) rfl (by omega) (by omega) ?_
  refine me_aload_n (p' := 430) k219_429 rfl rfl ?_
  refine me_iload_n (p' := 431) k219_430 rfl rfl ?_
  refine me_iconst (p' := 432) k219_431 rfl (v := nI 3) (by decide) ?_
  refine me_iadd (p' := 433) k219_432 rfl (v := nI (i + 3)) (mI_add _ _) ?_
  refine me_xald (p' := 434) k219_433 rfl (j := i + 3) rfl (by omega) (by omega) ?_
  refine me_cv (p' := 437) k219_434 rfl rfl (by decide) rfl (by decide) (by decide) dp_153 rfl rfl (cl_le mx_153 rfl) (by decide) (cl_sum rfl) (hv _ (fun I2 hR2 => ?_))
  refine me_ic_eq (p' := 440) k219_437 rfl (fun c1 => ?_) (fun c1 => ?_)
  · skip
    exact hS I2 hR2
  · skip
    exact absurd rfl c1
theorem lw_6 {L : Nat} {xs : Nat → Int32} {I : Nat → Nat → Int32} {Q : Option Value → mj_H → Prop} {i : Nat} (hi : i + 6 ≤ L) (hL : L ≤ 3072) (hR : mRel I) (hS : ∀ J, mRel J → mj_Ev 96 219 1556 (mLw i) [] (mg_h L xs J) Q) : mj_Ev 96 219 442 (mLw i) [] (mg_h L xs I) Q := by
  refine me_aload_n (p' := 443) k219_442 rfl rfl ?_
  refine me_aload_n (p' := 444) k219_443 rfl rfl ?_
  refine me_iload_n (p' := 445) k219_444 rfl rfl ?_
  refine me_iconst (p' := 446) k219_445 rfl (v := nI 1) (by decide) ?_
  refine me_iadd (p' := 447) k219_446 rfl (v := nI (i + 1)) (mI_add _ _) ?_
  refine me_xald (p' := 448) k219_447 rfl (j := i + 1) rfl (by omega) (by omega) ?_
  refine me_aload_n (p' := 449) k219_448 rfl rfl ?_
  refine me_iload_n (p' := 450) k219_449 rfl rfl ?_
  refine me_iconst (p' := 451) k219_450 rfl (v := nI 2) (by decide) ?_
  refine me_iadd (p' := 452) k219_451 rfl (v := nI (i + 2)) (mI_add _ _) ?_
  refine me_xald (p' := 453) k219_452 rfl (j := i + 2) rfl (by omega) (by omega) ?_
  refine me_cv (p' := 456) k219_453 rfl rfl (by decide) rfl (by decide) (by decide) dp_55 rfl rfl (cl_le mx_55 rfl) (by decide) (cl_sum rfl) (b_part hR _ (fun I1 v hv => ?_))
  refine me_aload_n (p' := 457) k219_456 rfl rfl ?_
  refine me_aload_n (p' := 458) k219_457 rfl rfl ?_
  refine me_iload_n (p' := 459) k219_458 rfl rfl ?_
  refine me_iconst (p' := 460) k219_459 rfl (v := nI 1) (by decide) ?_
  refine me_iadd (p' := 461) k219_460 rfl (v := nI (i + 1)) (mI_add _ _) ?_
  refine me_xald (p' := 462) k219_461 rfl (j := i + 1) rfl (by omega) (by omega) ?_
  refine me_aload_n (p' := 463) k219_462 rfl rfl ?_
  refine me_iload_n (p' := 464) k219_463 rfl rfl ?_
  refine me_iconst (p' := 465) k219_464 rfl (v := nI 2) (by decide) ?_
  refine me_iadd (p' := 466) k219_465 rfl (v := nI (i + 2)) (mI_add _ _) ?_
  refine me_xald (p' := 467) k219_466 rfl (j := i + 2) rfl (by omega) (by omega) ?_
  refine me_cv (p' := 470) k219_467 rfl rfl (by decide) rfl (by decide) (by decide) dp_154 rfl rfl (cl_le mx_154 rfl) (by decide) (cl_sum rfl) (hv _ (fun I2 hR2 => ?_))
  refine me_ic_eq (p' := 473) k219_470 rfl (fun c1 => ?_) (fun c1 => ?_)
  · skip
    exact hS I2 hR2
  · skip
    exact absurd rfl c1
theorem lw_7 {L : Nat} {xs : Nat → Int32} {I : Nat → Nat → Int32} {Q : Option Value → mj_H → Prop} {i : Nat} (hi : i + 6 ≤ L) (hL : L ≤ 3072) (hR : mRel I) (hS : ∀ J, mRel J → mj_Ev 96 219 1556 (mLw i) [] (mg_h L xs J) Q) : mj_Ev 96 219 475 (mLw i) [] (mg_h L xs I) Q := by
  refine me_aload_n (p' := 476) k219_475 rfl rfl ?_
  refine me_aload_n (p' := 477) k219_476 rfl rfl ?_
  refine me_iload_n (p' := 478) k219_477 rfl rfl ?_
  refine me_iconst (p' := 479) k219_478 rfl (v := nI 1) (by decide) ?_
  refine me_iadd (p' := 480) k219_479 rfl (v := nI (i + 1)) (mI_add _ _) ?_
  refine me_xald (p' := 481) k219_480 rfl (j := i + 1) rfl (by omega) (by omega) ?_
  refine me_aload_n (p' := 482) k219_481 rfl rfl ?_
  refine me_iload_n (p' := 483) k219_482 rfl rfl ?_
  refine me_iconst (p' := 484) k219_483 rfl (v := nI 2) (by decide) ?_
  refine me_iadd (p' := 485) k219_484 rfl (v := nI (i + 2)) (mI_add _ _) ?_
  refine me_xald (p' := 486) k219_485 rfl (j := i + 2) rfl (by omega) (by omega) ?_
  refine me_aload_n (p' := 487) k219_486 rfl rfl ?_
  refine me_iload_n (p' := 488) k219_487 rfl rfl ?_
  refine me_iconst (p' := 489) k219_488 rfl (v := nI 3) (by decide) ?_
  refine me_iadd (p' := 490) k219_489 rfl (v := nI (i + 3)) (mI_add _ _) ?_
  refine me_xald (p' := 491) k219_490 rfl (j := i + 3) rfl (by omega) (by omega) ?_
  refine me_cv (p' := 494) k219_491 rfl rfl (by decide) rfl (by decide) (by decide) dp_56 rfl rfl (cl_le mx_56 rfl) (by decide) (cl_sum rfl) (b_lays hR _ (fun I1 v hv => ?_))
  refine me_aload_n (p' := 495) k219_494 rfl rfl ?_
  refine me_aload_n (p' := 496) k219_495 rfl rfl ?_
  refine me_iload_n (p' := 497) k219_496 rfl rfl ?_
  refine me_iconst (p' := 498) k219_497 rfl (v := nI 1) (by decide) ?_
  refine me_iadd (p' := 499) k219_498 rfl (v := nI (i + 1)) (mI_add _ _) ?_
  refine me_xald (p' := 500) k219_499 rfl (j := i + 1) rfl (by omega) (by omega) ?_
  refine me_aload_n (p' := 501) k219_500 rfl rfl ?_
  refine me_iload_n (p' := 502) k219_501 rfl rfl ?_
  refine me_iconst (p' := 503) k219_502 rfl (v := nI 2) (by decide) ?_
  refine me_iadd (p' := 504) k219_503 rfl (v := nI (i + 2)) (mI_add _ _) ?_
  refine me_xald (p' := 505) k219_504 rfl (j := i + 2) rfl (by omega) (by omega) ?_
  refine me_aload_n (p' := 506) k219_505 rfl rfl ?_
  refine me_iload_n (p' := 507) k219_506 rfl rfl ?_
  refine me_iconst (p' := 508) k219_507 rfl (v := nI 3) (by decide) ?_
  refine me_iadd (p' := 509) k219_508 rfl (v := nI (i + 3)) (mI_add _ _) ?_
  refine me_xald (p' := 510) k219_509 rfl (j := i + 3) rfl (by omega) (by omega) ?_
  refine me_cv (p' := 513) k219_510 rfl rfl (by decide) rfl (by decide) (by decide) dp_155 rfl rfl (cl_le mx_155 rfl) (by decide) (cl_sum rfl) (hv _ (fun I2 hR2 => ?_))
  refine me_ic_eq (p' := 516) k219_513 rfl (fun c1 => ?_) (fun c1 => ?_)
  · skip
    exact hS I2 hR2
  · skip
    exact absurd rfl c1
theorem lw_8 {L : Nat} {xs : Nat → Int32} {I : Nat → Nat → Int32} {Q : Option Value → mj_H → Prop} {i : Nat} (hi : i + 6 ≤ L) (hL : L ≤ 3072) (hR : mRel I) (hS : ∀ J, mRel J → mj_Ev 96 219 1556 (mLw i) [] (mg_h L xs J) Q) : mj_Ev 96 219 518 (mLw i) [] (mg_h L xs I) Q := by
  refine me_aload_n (p' := 519) k219_518 rfl rfl ?_
  refine me_aload_n (p' := 520) k219_519 rfl rfl ?_
  refine me_iload_n (p' := 521) k219_520 rfl rfl ?_
  refine me_iconst (p' := 522) k219_521 rfl (v := nI 1) (by decide) ?_
  refine me_iadd (p' := 523) k219_522 rfl (v := nI (i + 1)) (mI_add _ _) ?_
  refine me_xald (p' := 524) k219_523 rfl (j := i + 1) rfl (by omega) (by omega) ?_
  refine me_cv (p' := 527) k219_524 rfl rfl (by decide) rfl (by decide) (by decide) dp_57 rfl rfl (cl_le mx_57 rfl) (by decide) (cl_sum rfl) (b_gap hR _ (fun I1 v hv => ?_))
  refine me_aload_n (p' := 528) k219_527 rfl rfl ?_
  refine me_aload_n (p' := 529) k219_528 rfl rfl ?_
  refine me_iload_n (p' := 530) k219_529 rfl rfl ?_
  refine me_iconst (p' := 531) k219_530 rfl (v := nI 1) (by decide) ?_
  refine me_iadd (p' := 532) k219_531 rfl (v := nI (i + 1)) (mI_add _ _) ?_
  refine me_xald (p' := 533) k219_532 rfl (j := i + 1) rfl (by omega) (by omega) ?_
  refine me_cv (p' := 536) k219_533 rfl rfl (by decide) rfl (by decide) (by decide) dp_156 rfl rfl (cl_le mx_156 rfl) (by decide) (cl_sum rfl) (hv _ (fun I2 hR2 => ?_))
  refine me_ic_eq (p' := 539) k219_536 rfl (fun c1 => ?_) (fun c1 => ?_)
  · skip
    exact hS I2 hR2
  · skip
    exact absurd rfl c1
theorem lw_9 {L : Nat} {xs : Nat → Int32} {I : Nat → Nat → Int32} {Q : Option Value → mj_H → Prop} {i : Nat} (hi : i + 6 ≤ L) (hL : L ≤ 3072) (hR : mRel I) (hS : ∀ J, mRel J → mj_Ev 96 219 1556 (mLw i) [] (mg_h L xs J) Q) : mj_Ev 96 219 541 (mLw i) [] (mg_h L xs I) Q := by
  refine me_aload_n (p' := 542) k219_541 rfl rfl ?_
  refine me_aload_n (p' := 543) k219_542 rfl rfl ?_
  refine me_iload_n (p' := 544) k219_543 rfl rfl ?_
  refine me_iconst (p' := 545) k219_544 rfl (v := nI 1) (by decide) ?_
  refine me_iadd (p' := 546) k219_545 rfl (v := nI (i + 1)) (mI_add _ _) ?_
  refine me_xald (p' := 547) k219_546 rfl (j := i + 1) rfl (by omega) (by omega) ?_
  refine me_cv (p' := 550) k219_547 rfl rfl (by decide) rfl (by decide) (by decide) dp_58 rfl rfl (cl_le mx_58 rfl) (by decide) (cl_sum rfl) (b_deal hR _ (fun I1 v hv => ?_))
  refine me_aload_n (p' := 551) k219_550 rfl rfl ?_
  refine me_aload_n (p' := 552) k219_551 rfl rfl ?_
  refine me_iload_n (p' := 553) k219_552 rfl rfl ?_
  refine me_iconst (p' := 554) k219_553 rfl (v := nI 1) (by decide) ?_
  refine me_iadd (p' := 555) k219_554 rfl (v := nI (i + 1)) (mI_add _ _) ?_
  refine me_xald (p' := 556) k219_555 rfl (j := i + 1) rfl (by omega) (by omega) ?_
  refine me_cv (p' := 559) k219_556 rfl rfl (by decide) rfl (by decide) (by decide) dp_157 rfl rfl (cl_le mx_157 rfl) (by decide) (cl_sum rfl) (hv _ (fun I2 hR2 => ?_))
  refine me_ic_eq (p' := 562) k219_559 rfl (fun c1 => ?_) (fun c1 => ?_)
  · skip
    exact hS I2 hR2
  · skip
    exact absurd rfl c1
theorem lw_10 {L : Nat} {xs : Nat → Int32} {I : Nat → Nat → Int32} {Q : Option Value → mj_H → Prop} {i : Nat} (hi : i + 6 ≤ L) (hL : L ≤ 3072) (hR : mRel I) (hS : ∀ J, mRel J → mj_Ev 96 219 1556 (mLw i) [] (mg_h L xs J) Q) : mj_Ev 96 219 564 (mLw i) [] (mg_h L xs I) Q := by
  refine me_aload_n (p' := 565) k219_564 rfl rfl ?_
  refine me_aload_n (p' := 566) k219_565 rfl rfl ?_
  refine me_iload_n (p' := 567) k219_566 rfl rfl ?_
  refine me_iconst (p' := 568) k219_567 rfl (v := nI 1) (by decide) ?_
  refine me_iadd (p' := 569) k219_568 rfl (v := nI (i + 1)) (mI_add _ _) ?_
  refine me_xald (p' := 570) k219_569 rfl (j := i + 1) rfl (by omega) (by omega) ?_
  refine me_cv (p' := 573) k219_570 rfl rfl (by decide) rfl (by decide) (by decide) dp_60 rfl rfl (cl_le mx_60 rfl) (by decide) (cl_sum rfl) (b_seed hR _ (fun I1 v hv => ?_))
  refine me_aload_n (p' := 574) k219_573 rfl rfl ?_
  refine me_aload_n (p' := 575) k219_574 rfl rfl ?_
  refine me_iload_n (p' := 576) k219_575 rfl rfl ?_
  refine me_iconst (p' := 577) k219_576 rfl (v := nI 1) (by decide) ?_
  refine me_iadd (p' := 578) k219_577 rfl (v := nI (i + 1)) (mI_add _ _) ?_
  refine me_xald (p' := 579) k219_578 rfl (j := i + 1) rfl (by omega) (by omega) ?_
  refine me_cv (p' := 582) k219_579 rfl rfl (by decide) rfl (by decide) (by decide) dp_159 rfl rfl (cl_le mx_159 rfl) (by decide) (cl_sum rfl) (hv _ (fun I2 hR2 => ?_))
  refine me_ic_eq (p' := 585) k219_582 rfl (fun c1 => ?_) (fun c1 => ?_)
  · skip
    exact hS I2 hR2
  · skip
    exact absurd rfl c1
theorem lw_11 {L : Nat} {xs : Nat → Int32} {I : Nat → Nat → Int32} {Q : Option Value → mj_H → Prop} {i : Nat} (hi : i + 6 ≤ L) (hL : L ≤ 3072) (hR : mRel I) (hS : ∀ J, mRel J → mj_Ev 96 219 1556 (mLw i) [] (mg_h L xs J) Q) : mj_Ev 96 219 587 (mLw i) [] (mg_h L xs I) Q := by
  refine me_aload_n (p' := 588) k219_587 rfl rfl ?_
  refine me_aload_n (p' := 589) k219_588 rfl rfl ?_
  refine me_iload_n (p' := 590) k219_589 rfl rfl ?_
  refine me_iconst (p' := 591) k219_590 rfl (v := nI 1) (by decide) ?_
  refine me_iadd (p' := 592) k219_591 rfl (v := nI (i + 1)) (mI_add _ _) ?_
  refine me_xald (p' := 593) k219_592 rfl (j := i + 1) rfl (by omega) (by omega) ?_
  refine me_cv (p' := 596) k219_593 rfl rfl (by decide) rfl (by decide) (by decide) dp_61 rfl rfl (cl_le mx_61 rfl) (by decide) (cl_sum rfl) (b_seconds hR _ (fun I1 v hv => ?_))
  refine me_aload_n (p' := 597) k219_596 rfl rfl ?_
  refine me_aload_n (p' := 598) k219_597 rfl rfl ?_
  refine me_iload_n (p' := 599) k219_598 rfl rfl ?_
  refine me_iconst (p' := 600) k219_599 rfl (v := nI 1) (by decide) ?_
  refine me_iadd (p' := 601) k219_600 rfl (v := nI (i + 1)) (mI_add _ _) ?_
  refine me_xald (p' := 602) k219_601 rfl (j := i + 1) rfl (by omega) (by omega) ?_
  refine me_cv (p' := 605) k219_602 rfl rfl (by decide) rfl (by decide) (by decide) dp_160 rfl rfl (cl_le mx_160 rfl) (by decide) (cl_sum rfl) (hv _ (fun I2 hR2 => ?_))
  refine me_ic_eq (p' := 608) k219_605 rfl (fun c1 => ?_) (fun c1 => ?_)
  · skip
    exact hS I2 hR2
  · skip
    exact absurd rfl c1
theorem lw_12 {L : Nat} {xs : Nat → Int32} {I : Nat → Nat → Int32} {Q : Option Value → mj_H → Prop} {i : Nat} (hi : i + 6 ≤ L) (hL : L ≤ 3072) (hR : mRel I) (hS : ∀ J, mRel J → mj_Ev 96 219 1556 (mLw i) [] (mg_h L xs J) Q) : mj_Ev 96 219 610 (mLw i) [] (mg_h L xs I) Q := by
  refine me_aload_n (p' := 611) k219_610 rfl rfl ?_
  refine me_aload_n (p' := 612) k219_611 rfl rfl ?_
  refine me_iload_n (p' := 613) k219_612 rfl rfl ?_
  refine me_iconst (p' := 614) k219_613 rfl (v := nI 1) (by decide) ?_
  refine me_iadd (p' := 615) k219_614 rfl (v := nI (i + 1)) (mI_add _ _) ?_
  refine me_xald (p' := 616) k219_615 rfl (j := i + 1) rfl (by omega) (by omega) ?_
  refine me_cv (p' := 619) k219_616 rfl rfl (by decide) rfl (by decide) (by decide) dp_66 rfl rfl (cl_le mx_66 rfl) (by decide) (cl_sum rfl) (b_ride hR _ (fun I1 v hv => ?_))
  refine me_aload_n (p' := 620) k219_619 rfl rfl ?_
  refine me_aload_n (p' := 621) k219_620 rfl rfl ?_
  refine me_iload_n (p' := 622) k219_621 rfl rfl ?_
  refine me_iconst (p' := 623) k219_622 rfl (v := nI 1) (by decide) ?_
  refine me_iadd (p' := 624) k219_623 rfl (v := nI (i + 1)) (mI_add _ _) ?_
  refine me_xald (p' := 625) k219_624 rfl (j := i + 1) rfl (by omega) (by omega) ?_
  refine me_cv (p' := 628) k219_625 rfl rfl (by decide) rfl (by decide) (by decide) dp_167 rfl rfl (cl_le mx_167 rfl) (by decide) (cl_sum rfl) (hv _ (fun I2 hR2 => ?_))
  refine me_ic_eq (p' := 631) k219_628 rfl (fun c1 => ?_) (fun c1 => ?_)
  · skip
    exact hS I2 hR2
  · skip
    exact absurd rfl c1
theorem lw_13 {L : Nat} {xs : Nat → Int32} {I : Nat → Nat → Int32} {Q : Option Value → mj_H → Prop} {i : Nat} (hi : i + 6 ≤ L) (hL : L ≤ 3072) (hR : mRel I) (hS : ∀ J, mRel J → mj_Ev 96 219 1556 (mLw i) [] (mg_h L xs J) Q) : mj_Ev 96 219 633 (mLw i) [] (mg_h L xs I) Q := by
  refine me_aload_n (p' := 634) k219_633 rfl rfl ?_
  refine me_cv (p' := 637) k219_634 rfl rfl (by decide) rfl (by decide) (by decide) dp_68 rfl rfl (cl_le mx_68 rfl) (by decide) (cl_sum rfl) (b_lamps hR _ (fun I1 v hv => ?_))
  refine me_aload_n (p' := 638) k219_637 rfl rfl ?_
  refine me_cv (p' := 641) k219_638 rfl rfl (by decide) rfl (by decide) (by decide) dp_169 rfl rfl (cl_le mx_169 rfl) (by decide) (cl_sum rfl) (hv _ (fun I2 hR2 => ?_))
  refine me_ic_eq (p' := 644) k219_641 rfl (fun c1 => ?_) (fun c1 => ?_)
  · skip
    exact hS I2 hR2
  · skip
    exact absurd rfl c1
theorem lw_14 {L : Nat} {xs : Nat → Int32} {I : Nat → Nat → Int32} {Q : Option Value → mj_H → Prop} {i : Nat} (hi : i + 6 ≤ L) (hL : L ≤ 3072) (hR : mRel I) (hS : ∀ J, mRel J → mj_Ev 96 219 1556 (mLw i) [] (mg_h L xs J) Q) : mj_Ev 96 219 646 (mLw i) [] (mg_h L xs I) Q := by
  refine me_aload_n (p' := 647) k219_646 rfl rfl ?_
  refine me_aload_n (p' := 648) k219_647 rfl rfl ?_
  refine me_iload_n (p' := 649) k219_648 rfl rfl ?_
  refine me_iconst (p' := 650) k219_649 rfl (v := nI 1) (by decide) ?_
  refine me_iadd (p' := 651) k219_650 rfl (v := nI (i + 1)) (mI_add _ _) ?_
  refine me_xald (p' := 652) k219_651 rfl (j := i + 1) rfl (by omega) (by omega) ?_
  refine me_aload_n (p' := 653) k219_652 rfl rfl ?_
  refine me_iload_n (p' := 654) k219_653 rfl rfl ?_
  refine me_iconst (p' := 655) k219_654 rfl (v := nI 2) (by decide) ?_
  refine me_iadd (p' := 656) k219_655 rfl (v := nI (i + 2)) (mI_add _ _) ?_
  refine me_xald (p' := 657) k219_656 rfl (j := i + 2) rfl (by omega) (by omega) ?_
  refine me_cv (p' := 660) k219_657 rfl rfl (by decide) rfl (by decide) (by decide) dp_69 rfl rfl (cl_le mx_69 rfl) (by decide) (cl_sum rfl) (b_behind hR _ (fun I1 v hv => ?_))
  refine me_aload_n (p' := 661) k219_660 rfl rfl ?_
  refine me_aload_n (p' := 662) k219_661 rfl rfl ?_
  refine me_iload_n (p' := 663) k219_662 rfl rfl ?_
  refine me_iconst (p' := 664) k219_663 rfl (v := nI 1) (by decide) ?_
  refine me_iadd (p' := 665) k219_664 rfl (v := nI (i + 1)) (mI_add _ _) ?_
  refine me_xald (p' := 666) k219_665 rfl (j := i + 1) rfl (by omega) (by omega) ?_
  refine me_aload_n (p' := 667) k219_666 rfl rfl ?_
  refine me_iload_n (p' := 668) k219_667 rfl rfl ?_
  refine me_iconst (p' := 669) k219_668 rfl (v := nI 2) (by decide) ?_
  refine me_iadd (p' := 670) k219_669 rfl (v := nI (i + 2)) (mI_add _ _) ?_
  refine me_xald (p' := 671) k219_670 rfl (j := i + 2) rfl (by omega) (by omega) ?_
  refine me_cv (p' := 674) k219_671 rfl rfl (by decide) rfl (by decide) (by decide) dp_170 rfl rfl (cl_le mx_170 rfl) (by decide) (cl_sum rfl) (hv _ (fun I2 hR2 => ?_))
  refine me_ic_eq (p' := 677) k219_674 rfl (fun c1 => ?_) (fun c1 => ?_)
  · skip
    exact hS I2 hR2
  · skip
    exact absurd rfl c1
theorem lw_15 {L : Nat} {xs : Nat → Int32} {I : Nat → Nat → Int32} {Q : Option Value → mj_H → Prop} {i : Nat} (hi : i + 6 ≤ L) (hL : L ≤ 3072) (hR : mRel I) (hS : ∀ J, mRel J → mj_Ev 96 219 1556 (mLw i) [] (mg_h L xs J) Q) : mj_Ev 96 219 679 (mLw i) [] (mg_h L xs I) Q := by
  refine me_aload_n (p' := 680) k219_679 rfl rfl ?_
  refine me_cv (p' := 683) k219_680 rfl rfl (by decide) rfl (by decide) (by decide) dp_71 rfl rfl (cl_le mx_71 rfl) (by decide) (cl_sum rfl) (b_stands hR _ (fun I1 v hv => ?_))
  refine me_aload_n (p' := 684) k219_683 rfl rfl ?_
  refine me_cv (p' := 687) k219_684 rfl rfl (by decide) rfl (by decide) (by decide) dp_173 rfl rfl (cl_le mx_173 rfl) (by decide) (cl_sum rfl) (hv _ (fun I2 hR2 => ?_))
  refine me_ic_eq (p' := 690) k219_687 rfl (fun c1 => ?_) (fun c1 => ?_)
  · skip
    exact hS I2 hR2
  · skip
    exact absurd rfl c1
theorem lw_16 {L : Nat} {xs : Nat → Int32} {I : Nat → Nat → Int32} {Q : Option Value → mj_H → Prop} {i : Nat} (hi : i + 6 ≤ L) (hL : L ≤ 3072) (hR : mRel I) (hS : ∀ J, mRel J → mj_Ev 96 219 1556 (mLw i) [] (mg_h L xs J) Q) : mj_Ev 96 219 692 (mLw i) [] (mg_h L xs I) Q := by
  refine me_aload_n (p' := 693) k219_692 rfl rfl ?_
  refine me_aload_n (p' := 694) k219_693 rfl rfl ?_
  refine me_iload_n (p' := 695) k219_694 rfl rfl ?_
  refine me_iconst (p' := 696) k219_695 rfl (v := nI 1) (by decide) ?_
  refine me_iadd (p' := 697) k219_696 rfl (v := nI (i + 1)) (mI_add _ _) ?_
  refine me_xald (p' := 698) k219_697 rfl (j := i + 1) rfl (by omega) (by omega) ?_
  refine me_aload_n (p' := 699) k219_698 rfl rfl ?_
  refine me_iload_n (p' := 700) k219_699 rfl rfl ?_
  refine me_iconst (p' := 701) k219_700 rfl (v := nI 2) (by decide) ?_
  refine me_iadd (p' := 702) k219_701 rfl (v := nI (i + 2)) (mI_add _ _) ?_
  refine me_xald (p' := 703) k219_702 rfl (j := i + 2) rfl (by omega) (by omega) ?_
  refine me_aload_n (p' := 704) k219_703 rfl rfl ?_
  refine me_iload_n (p' := 705) k219_704 rfl rfl ?_
  refine me_iconst (p' := 706) k219_705 rfl (v := nI 3) (by decide) ?_
  refine me_iadd (p' := 707) k219_706 rfl (v := nI (i + 3)) (mI_add _ _) ?_
  refine me_xald (p' := 708) k219_707 rfl (j := i + 3) rfl (by omega) (by omega) ?_
  refine me_cv (p' := 711) k219_708 rfl rfl (by decide) rfl (by decide) (by decide) dp_72 rfl rfl (cl_le mx_72 rfl) (by decide) (cl_sum rfl) (b_brake hR _ (fun I1 v hv => ?_))
  refine me_aload_n (p' := 712) k219_711 rfl rfl ?_
  refine me_aload_n (p' := 713) k219_712 rfl rfl ?_
  refine me_iload_n (p' := 714) k219_713 rfl rfl ?_
  refine me_iconst (p' := 715) k219_714 rfl (v := nI 1) (by decide) ?_
  refine me_iadd (p' := 716) k219_715 rfl (v := nI (i + 1)) (mI_add _ _) ?_
  refine me_xald (p' := 717) k219_716 rfl (j := i + 1) rfl (by omega) (by omega) ?_
  refine me_aload_n (p' := 718) k219_717 rfl rfl ?_
  refine me_iload_n (p' := 719) k219_718 rfl rfl ?_
  refine me_iconst (p' := 720) k219_719 rfl (v := nI 2) (by decide) ?_
  refine me_iadd (p' := 721) k219_720 rfl (v := nI (i + 2)) (mI_add _ _) ?_
  refine me_xald (p' := 722) k219_721 rfl (j := i + 2) rfl (by omega) (by omega) ?_
  refine me_aload_n (p' := 723) k219_722 rfl rfl ?_
  refine me_iload_n (p' := 724) k219_723 rfl rfl ?_
  refine me_iconst (p' := 725) k219_724 rfl (v := nI 3) (by decide) ?_
  refine me_iadd (p' := 726) k219_725 rfl (v := nI (i + 3)) (mI_add _ _) ?_
  refine me_xald (p' := 727) k219_726 rfl (j := i + 3) rfl (by omega) (by omega) ?_
  refine me_cv (p' := 730) k219_727 rfl rfl (by decide) rfl (by decide) (by decide) dp_174 rfl rfl (cl_le mx_174 rfl) (by decide) (cl_sum rfl) (hv _ (fun I2 hR2 => ?_))
  refine me_ic_eq (p' := 733) k219_730 rfl (fun c1 => ?_) (fun c1 => ?_)
  · skip
    exact hS I2 hR2
  · skip
    exact absurd rfl c1
theorem lw_17 {L : Nat} {xs : Nat → Int32} {I : Nat → Nat → Int32} {Q : Option Value → mj_H → Prop} {i : Nat} (hi : i + 6 ≤ L) (hL : L ≤ 3072) (hR : mRel I) (hS : ∀ J, mRel J → mj_Ev 96 219 1556 (mLw i) [] (mg_h L xs J) Q) : mj_Ev 96 219 735 (mLw i) [] (mg_h L xs I) Q := by
  refine me_aload_n (p' := 736) k219_735 rfl rfl ?_
  refine me_aload_n (p' := 737) k219_736 rfl rfl ?_
  refine me_iload_n (p' := 738) k219_737 rfl rfl ?_
  refine me_iconst (p' := 739) k219_738 rfl (v := nI 1) (by decide) ?_
  refine me_iadd (p' := 740) k219_739 rfl (v := nI (i + 1)) (mI_add _ _) ?_
  refine me_xald (p' := 741) k219_740 rfl (j := i + 1) rfl (by omega) (by omega) ?_
  refine me_aload_n (p' := 742) k219_741 rfl rfl ?_
  refine me_iload_n (p' := 743) k219_742 rfl rfl ?_
  refine me_iconst (p' := 744) k219_743 rfl (v := nI 2) (by decide) ?_
  refine me_iadd (p' := 745) k219_744 rfl (v := nI (i + 2)) (mI_add _ _) ?_
  refine me_xald (p' := 746) k219_745 rfl (j := i + 2) rfl (by omega) (by omega) ?_
  refine me_aload_n (p' := 747) k219_746 rfl rfl ?_
  refine me_iload_n (p' := 748) k219_747 rfl rfl ?_
  refine me_iconst (p' := 749) k219_748 rfl (v := nI 3) (by decide) ?_
  refine me_iadd (p' := 750) k219_749 rfl (v := nI (i + 3)) (mI_add _ _) ?_
  refine me_xald (p' := 751) k219_750 rfl (j := i + 3) rfl (by omega) (by omega) ?_
  refine me_cv (p' := 754) k219_751 rfl rfl (by decide) rfl (by decide) (by decide) dp_75 rfl rfl (cl_le mx_75 rfl) (by decide) (cl_sum rfl) (b_moved hR _ (fun I1 v hv => ?_))
  refine me_aload_n (p' := 755) k219_754 rfl rfl ?_
  refine me_aload_n (p' := 756) k219_755 rfl rfl ?_
  refine me_iload_n (p' := 757) k219_756 rfl rfl ?_
  refine me_iconst (p' := 758) k219_757 rfl (v := nI 1) (by decide) ?_
  refine me_iadd (p' := 759) k219_758 rfl (v := nI (i + 1)) (mI_add _ _) ?_
  refine me_xald (p' := 760) k219_759 rfl (j := i + 1) rfl (by omega) (by omega) ?_
  refine me_aload_n (p' := 761) k219_760 rfl rfl ?_
  refine me_iload_n (p' := 762) k219_761 rfl rfl ?_
  refine me_iconst (p' := 763) k219_762 rfl (v := nI 2) (by decide) ?_
  refine me_iadd (p' := 764) k219_763 rfl (v := nI (i + 2)) (mI_add _ _) ?_
  refine me_xald (p' := 765) k219_764 rfl (j := i + 2) rfl (by omega) (by omega) ?_
  refine me_aload_n (p' := 766) k219_765 rfl rfl ?_
  refine me_iload_n (p' := 767) k219_766 rfl rfl ?_
  refine me_iconst (p' := 768) k219_767 rfl (v := nI 3) (by decide) ?_
  refine me_iadd (p' := 769) k219_768 rfl (v := nI (i + 3)) (mI_add _ _) ?_
  refine me_xald (p' := 770) k219_769 rfl (j := i + 3) rfl (by omega) (by omega) ?_
  refine me_cv (p' := 773) k219_770 rfl rfl (by decide) rfl (by decide) (by decide) dp_175 rfl rfl (cl_le mx_175 rfl) (by decide) (cl_sum rfl) (hv _ (fun I2 hR2 => ?_))
  refine me_ic_eq (p' := 776) k219_773 rfl (fun c1 => ?_) (fun c1 => ?_)
  · skip
    exact hS I2 hR2
  · skip
    exact absurd rfl c1
theorem lw_18 {L : Nat} {xs : Nat → Int32} {I : Nat → Nat → Int32} {Q : Option Value → mj_H → Prop} {i : Nat} (hi : i + 6 ≤ L) (hL : L ≤ 3072) (hR : mRel I) (hS : ∀ J, mRel J → mj_Ev 96 219 1556 (mLw i) [] (mg_h L xs J) Q) : mj_Ev 96 219 778 (mLw i) [] (mg_h L xs I) Q := by
  refine me_aload_n (p' := 779) k219_778 rfl rfl ?_
  refine me_aload_n (p' := 780) k219_779 rfl rfl ?_
  refine me_iload_n (p' := 781) k219_780 rfl rfl ?_
  refine me_iconst (p' := 782) k219_781 rfl (v := nI 1) (by decide) ?_
  refine me_iadd (p' := 783) k219_782 rfl (v := nI (i + 1)) (mI_add _ _) ?_
  refine me_xald (p' := 784) k219_783 rfl (j := i + 1) rfl (by omega) (by omega) ?_
  refine me_aload_n (p' := 785) k219_784 rfl rfl ?_
  refine me_iload_n (p' := 786) k219_785 rfl rfl ?_
  refine me_iconst (p' := 787) k219_786 rfl (v := nI 2) (by decide) ?_
  refine me_iadd (p' := 788) k219_787 rfl (v := nI (i + 2)) (mI_add _ _) ?_
  refine me_xald (p' := 789) k219_788 rfl (j := i + 2) rfl (by omega) (by omega) ?_
  refine me_cv (p' := 792) k219_789 rfl rfl (by decide) rfl (by decide) (by decide) dp_77 rfl rfl (cl_le mx_77 rfl) (by decide) (cl_sum rfl) (b_off hR _ (fun I1 v hv => ?_))
  refine me_aload_n (p' := 793) k219_792 rfl rfl ?_
  refine me_aload_n (p' := 794) k219_793 rfl rfl ?_
  refine me_iload_n (p' := 795) k219_794 rfl rfl ?_
  refine me_iconst (p' := 796) k219_795 rfl (v := nI 1) (by decide) ?_
  refine me_iadd (p' := 797) k219_796 rfl (v := nI (i + 1)) (mI_add _ _) ?_
  refine me_xald (p' := 798) k219_797 rfl (j := i + 1) rfl (by omega) (by omega) ?_
  refine me_aload_n (p' := 799) k219_798 rfl rfl ?_
  refine me_iload_n (p' := 800) k219_799 rfl rfl ?_
  refine me_iconst (p' := 801) k219_800 rfl (v := nI 2) (by decide) ?_
  refine me_iadd (p' := 802) k219_801 rfl (v := nI (i + 2)) (mI_add _ _) ?_
  refine me_xald (p' := 803) k219_802 rfl (j := i + 2) rfl (by omega) (by omega) ?_
  refine me_cv (p' := 806) k219_803 rfl rfl (by decide) rfl (by decide) (by decide) dp_177 rfl rfl (cl_le mx_177 rfl) (by decide) (cl_sum rfl) (hv _ (fun I2 hR2 => ?_))
  refine me_ic_eq (p' := 809) k219_806 rfl (fun c1 => ?_) (fun c1 => ?_)
  · skip
    exact hS I2 hR2
  · skip
    exact absurd rfl c1
theorem lw_19 {L : Nat} {xs : Nat → Int32} {I : Nat → Nat → Int32} {Q : Option Value → mj_H → Prop} {i : Nat} (hi : i + 6 ≤ L) (hL : L ≤ 3072) (hR : mRel I) (hS : ∀ J, mRel J → mj_Ev 96 219 1556 (mLw i) [] (mg_h L xs J) Q) : mj_Ev 96 219 811 (mLw i) [] (mg_h L xs I) Q := by
  refine me_aload_n (p' := 812) k219_811 rfl rfl ?_
  refine me_aload_n (p' := 813) k219_812 rfl rfl ?_
  refine me_iload_n (p' := 814) k219_813 rfl rfl ?_
  refine me_iconst (p' := 815) k219_814 rfl (v := nI 1) (by decide) ?_
  refine me_iadd (p' := 816) k219_815 rfl (v := nI (i + 1)) (mI_add _ _) ?_
  refine me_xald (p' := 817) k219_816 rfl (j := i + 1) rfl (by omega) (by omega) ?_
  refine me_aload_n (p' := 818) k219_817 rfl rfl ?_
  refine me_iload_n (p' := 819) k219_818 rfl rfl ?_
  refine me_iconst (p' := 820) k219_819 rfl (v := nI 2) (by decide) ?_
  refine me_iadd (p' := 821) k219_820 rfl (v := nI (i + 2)) (mI_add _ _) ?_
  refine me_xald (p' := 822) k219_821 rfl (j := i + 2) rfl (by omega) (by omega) ?_
  refine me_aload_n (p' := 823) k219_822 rfl rfl ?_
  refine me_iload_n (p' := 824) k219_823 rfl rfl ?_
  refine me_iconst (p' := 825) k219_824 rfl (v := nI 3) (by decide) ?_
  refine me_iadd (p' := 826) k219_825 rfl (v := nI (i + 3)) (mI_add _ _) ?_
  refine me_xald (p' := 827) k219_826 rfl (j := i + 3) rfl (by omega) (by omega) ?_
  refine me_cv (p' := 830) k219_827 rfl rfl (by decide) rfl (by decide) (by decide) dp_79 rfl rfl (cl_le mx_79 rfl) (by decide) (cl_sum rfl) (b_kind hR _ (fun I1 v hv => ?_))
  refine me_aload_n (p' := 831) k219_830 rfl rfl ?_
  refine me_aload_n (p' := 832) k219_831 rfl rfl ?_
  refine me_iload_n (p' := 833) k219_832 rfl rfl ?_
  refine me_iconst (p' := 834) k219_833 rfl (v := nI 1) (by decide) ?_
  refine me_iadd (p' := 835) k219_834 rfl (v := nI (i + 1)) (mI_add _ _) ?_
  refine me_xald (p' := 836) k219_835 rfl (j := i + 1) rfl (by omega) (by omega) ?_
  refine me_aload_n (p' := 837) k219_836 rfl rfl ?_
  refine me_iload_n (p' := 838) k219_837 rfl rfl ?_
  refine me_iconst (p' := 839) k219_838 rfl (v := nI 2) (by decide) ?_
  refine me_iadd (p' := 840) k219_839 rfl (v := nI (i + 2)) (mI_add _ _) ?_
  refine me_xald (p' := 841) k219_840 rfl (j := i + 2) rfl (by omega) (by omega) ?_
  refine me_aload_n (p' := 842) k219_841 rfl rfl ?_
  refine me_iload_n (p' := 843) k219_842 rfl rfl ?_
  refine me_iconst (p' := 844) k219_843 rfl (v := nI 3) (by decide) ?_
  refine me_iadd (p' := 845) k219_844 rfl (v := nI (i + 3)) (mI_add _ _) ?_
  refine me_xald (p' := 846) k219_845 rfl (j := i + 3) rfl (by omega) (by omega) ?_
  refine me_cv (p' := 849) k219_846 rfl rfl (by decide) rfl (by decide) (by decide) dp_178 rfl rfl (cl_le mx_178 rfl) (by decide) (cl_sum rfl) (hv _ (fun I2 hR2 => ?_))
  refine me_ic_eq (p' := 852) k219_849 rfl (fun c1 => ?_) (fun c1 => ?_)
  · skip
    exact hS I2 hR2
  · skip
    exact absurd rfl c1
theorem lw_20 {L : Nat} {xs : Nat → Int32} {I : Nat → Nat → Int32} {Q : Option Value → mj_H → Prop} {i : Nat} (hi : i + 6 ≤ L) (hL : L ≤ 3072) (hR : mRel I) (hS : ∀ J, mRel J → mj_Ev 96 219 1556 (mLw i) [] (mg_h L xs J) Q) : mj_Ev 96 219 854 (mLw i) [] (mg_h L xs I) Q := by
  refine me_aload_n (p' := 855) k219_854 rfl rfl ?_
  refine me_aload_n (p' := 856) k219_855 rfl rfl ?_
  refine me_iload_n (p' := 857) k219_856 rfl rfl ?_
  refine me_iconst (p' := 858) k219_857 rfl (v := nI 1) (by decide) ?_
  refine me_iadd (p' := 859) k219_858 rfl (v := nI (i + 1)) (mI_add _ _) ?_
  refine me_xald (p' := 860) k219_859 rfl (j := i + 1) rfl (by omega) (by omega) ?_
  refine me_aload_n (p' := 861) k219_860 rfl rfl ?_
  refine me_iload_n (p' := 862) k219_861 rfl rfl ?_
  refine me_iconst (p' := 863) k219_862 rfl (v := nI 2) (by decide) ?_
  refine me_iadd (p' := 864) k219_863 rfl (v := nI (i + 2)) (mI_add _ _) ?_
  refine me_xald (p' := 865) k219_864 rfl (j := i + 2) rfl (by omega) (by omega) ?_
  refine me_cv (p' := 868) k219_865 rfl rfl (by decide) rfl (by decide) (by decide) dp_80 rfl rfl (cl_le mx_80 rfl) (by decide) (cl_sum rfl) (b_kiss hR _ (fun I1 v hv => ?_))
  refine me_aload_n (p' := 869) k219_868 rfl rfl ?_
  refine me_aload_n (p' := 870) k219_869 rfl rfl ?_
  refine me_iload_n (p' := 871) k219_870 rfl rfl ?_
  refine me_iconst (p' := 872) k219_871 rfl (v := nI 1) (by decide) ?_
  refine me_iadd (p' := 873) k219_872 rfl (v := nI (i + 1)) (mI_add _ _) ?_
  refine me_xald (p' := 874) k219_873 rfl (j := i + 1) rfl (by omega) (by omega) ?_
  refine me_aload_n (p' := 875) k219_874 rfl rfl ?_
  refine me_iload_n (p' := 876) k219_875 rfl rfl ?_
  refine me_iconst (p' := 877) k219_876 rfl (v := nI 2) (by decide) ?_
  refine me_iadd (p' := 878) k219_877 rfl (v := nI (i + 2)) (mI_add _ _) ?_
  refine me_xald (p' := 879) k219_878 rfl (j := i + 2) rfl (by omega) (by omega) ?_
  refine me_cv (p' := 882) k219_879 rfl rfl (by decide) rfl (by decide) (by decide) dp_179 rfl rfl (cl_le mx_179 rfl) (by decide) (cl_sum rfl) (hv _ (fun I2 hR2 => ?_))
  refine me_ic_eq (p' := 885) k219_882 rfl (fun c1 => ?_) (fun c1 => ?_)
  · skip
    exact hS I2 hR2
  · skip
    exact absurd rfl c1
theorem lw_21 {L : Nat} {xs : Nat → Int32} {I : Nat → Nat → Int32} {Q : Option Value → mj_H → Prop} {i : Nat} (hi : i + 6 ≤ L) (hL : L ≤ 3072) (hR : mRel I) (hS : ∀ J, mRel J → mj_Ev 96 219 1556 (mLw i) [] (mg_h L xs J) Q) : mj_Ev 96 219 887 (mLw i) [] (mg_h L xs I) Q := by
  refine me_aload_n (p' := 888) k219_887 rfl rfl ?_
  refine me_aload_n (p' := 889) k219_888 rfl rfl ?_
  refine me_iload_n (p' := 890) k219_889 rfl rfl ?_
  refine me_iconst (p' := 891) k219_890 rfl (v := nI 1) (by decide) ?_
  refine me_iadd (p' := 892) k219_891 rfl (v := nI (i + 1)) (mI_add _ _) ?_
  refine me_xald (p' := 893) k219_892 rfl (j := i + 1) rfl (by omega) (by omega) ?_
  refine me_cv (p' := 896) k219_893 rfl rfl (by decide) rfl (by decide) (by decide) dp_81 rfl rfl (cl_le mx_81 rfl) (by decide) (cl_sum rfl) (b_gaps hR _ (fun I1 v hv => ?_))
  refine me_aload_n (p' := 897) k219_896 rfl rfl ?_
  refine me_aload_n (p' := 898) k219_897 rfl rfl ?_
  refine me_iload_n (p' := 899) k219_898 rfl rfl ?_
  refine me_iconst (p' := 900) k219_899 rfl (v := nI 1) (by decide) ?_
  refine me_iadd (p' := 901) k219_900 rfl (v := nI (i + 1)) (mI_add _ _) ?_
  refine me_xald (p' := 902) k219_901 rfl (j := i + 1) rfl (by omega) (by omega) ?_
  refine me_cv (p' := 905) k219_902 rfl rfl (by decide) rfl (by decide) (by decide) dp_180 rfl rfl (cl_le mx_180 rfl) (by decide) (cl_sum rfl) (hv _ (fun I2 hR2 => ?_))
  refine me_ic_eq (p' := 908) k219_905 rfl (fun c1 => ?_) (fun c1 => ?_)
  · skip
    exact hS I2 hR2
  · skip
    exact absurd rfl c1
theorem lw_22 {L : Nat} {xs : Nat → Int32} {I : Nat → Nat → Int32} {Q : Option Value → mj_H → Prop} {i : Nat} (hi : i + 6 ≤ L) (hL : L ≤ 3072) (hR : mRel I) (hS : ∀ J, mRel J → mj_Ev 96 219 1556 (mLw i) [] (mg_h L xs J) Q) : mj_Ev 96 219 910 (mLw i) [] (mg_h L xs I) Q := by
  refine me_aload_n (p' := 911) k219_910 rfl rfl ?_
  refine me_aload_n (p' := 912) k219_911 rfl rfl ?_
  refine me_iload_n (p' := 913) k219_912 rfl rfl ?_
  refine me_iconst (p' := 914) k219_913 rfl (v := nI 1) (by decide) ?_
  refine me_iadd (p' := 915) k219_914 rfl (v := nI (i + 1)) (mI_add _ _) ?_
  refine me_xald (p' := 916) k219_915 rfl (j := i + 1) rfl (by omega) (by omega) ?_
  refine me_aload_n (p' := 917) k219_916 rfl rfl ?_
  refine me_iload_n (p' := 918) k219_917 rfl rfl ?_
  refine me_iconst (p' := 919) k219_918 rfl (v := nI 2) (by decide) ?_
  refine me_iadd (p' := 920) k219_919 rfl (v := nI (i + 2)) (mI_add _ _) ?_
  refine me_xald (p' := 921) k219_920 rfl (j := i + 2) rfl (by omega) (by omega) ?_
  refine me_aload_n (p' := 922) k219_921 rfl rfl ?_
  refine me_iload_n (p' := 923) k219_922 rfl rfl ?_
  refine me_iconst (p' := 924) k219_923 rfl (v := nI 3) (by decide) ?_
  refine me_iadd (p' := 925) k219_924 rfl (v := nI (i + 3)) (mI_add _ _) ?_
  refine me_xald (p' := 926) k219_925 rfl (j := i + 3) rfl (by omega) (by omega) ?_
  refine me_cv (p' := 929) k219_926 rfl rfl (by decide) rfl (by decide) (by decide) dp_83 rfl rfl (cl_le mx_83 rfl) (by decide) (cl_sum rfl) (b_weighed hR _ (fun I1 v hv => ?_))
  refine me_aload_n (p' := 930) k219_929 rfl rfl ?_
  refine me_aload_n (p' := 931) k219_930 rfl rfl ?_
  refine me_iload_n (p' := 932) k219_931 rfl rfl ?_
  refine me_iconst (p' := 933) k219_932 rfl (v := nI 1) (by decide) ?_
  refine me_iadd (p' := 934) k219_933 rfl (v := nI (i + 1)) (mI_add _ _) ?_
  refine me_xald (p' := 935) k219_934 rfl (j := i + 1) rfl (by omega) (by omega) ?_
  refine me_aload_n (p' := 936) k219_935 rfl rfl ?_
  refine me_iload_n (p' := 937) k219_936 rfl rfl ?_
  refine me_iconst (p' := 938) k219_937 rfl (v := nI 2) (by decide) ?_
  refine me_iadd (p' := 939) k219_938 rfl (v := nI (i + 2)) (mI_add _ _) ?_
  refine me_xald (p' := 940) k219_939 rfl (j := i + 2) rfl (by omega) (by omega) ?_
  refine me_aload_n (p' := 941) k219_940 rfl rfl ?_
  refine me_iload_n (p' := 942) k219_941 rfl rfl ?_
  refine me_iconst (p' := 943) k219_942 rfl (v := nI 3) (by decide) ?_
  refine me_iadd (p' := 944) k219_943 rfl (v := nI (i + 3)) (mI_add _ _) ?_
  refine me_xald (p' := 945) k219_944 rfl (j := i + 3) rfl (by omega) (by omega) ?_
  refine me_cv (p' := 948) k219_945 rfl rfl (by decide) rfl (by decide) (by decide) dp_181 rfl rfl (cl_le mx_181 rfl) (by decide) (cl_sum rfl) (hv _ (fun I2 hR2 => ?_))
  refine me_ic_eq (p' := 951) k219_948 rfl (fun c1 => ?_) (fun c1 => ?_)
  · skip
    exact hS I2 hR2
  · skip
    exact absurd rfl c1
theorem lw_23 {L : Nat} {xs : Nat → Int32} {I : Nat → Nat → Int32} {Q : Option Value → mj_H → Prop} {i : Nat} (hi : i + 6 ≤ L) (hL : L ≤ 3072) (hR : mRel I) (hS : ∀ J, mRel J → mj_Ev 96 219 1556 (mLw i) [] (mg_h L xs J) Q) : mj_Ev 96 219 953 (mLw i) [] (mg_h L xs I) Q := by
  refine me_aload_n (p' := 954) k219_953 rfl rfl ?_
  refine me_cv (p' := 957) k219_954 rfl rfl (by decide) rfl (by decide) (by decide) dp_88 rfl rfl (cl_le mx_88 rfl) (by decide) (cl_sum rfl) (b_fee hR _ (fun I1 v hv => ?_))
  refine me_aload_n (p' := 958) k219_957 rfl rfl ?_
  refine me_cv (p' := 961) k219_958 rfl rfl (by decide) rfl (by decide) (by decide) dp_184 rfl rfl (cl_le mx_184 rfl) (by decide) (cl_sum rfl) (hv _ (fun I2 hR2 => ?_))
  refine me_ic_eq (p' := 964) k219_961 rfl (fun c1 => ?_) (fun c1 => ?_)
  · skip
    exact hS I2 hR2
  · skip
    exact absurd rfl c1
theorem lw_24 {L : Nat} {xs : Nat → Int32} {I : Nat → Nat → Int32} {Q : Option Value → mj_H → Prop} {i : Nat} (hi : i + 6 ≤ L) (hL : L ≤ 3072) (hR : mRel I) (hS : ∀ J, mRel J → mj_Ev 96 219 1556 (mLw i) [] (mg_h L xs J) Q) : mj_Ev 96 219 966 (mLw i) [] (mg_h L xs I) Q := by
  refine me_aload_n (p' := 967) k219_966 rfl rfl ?_
  refine me_aload_n (p' := 968) k219_967 rfl rfl ?_
  refine me_iload_n (p' := 969) k219_968 rfl rfl ?_
  refine me_iconst (p' := 970) k219_969 rfl (v := nI 1) (by decide) ?_
  refine me_iadd (p' := 971) k219_970 rfl (v := nI (i + 1)) (mI_add _ _) ?_
  refine me_xald (p' := 972) k219_971 rfl (j := i + 1) rfl (by omega) (by omega) ?_
  refine me_cv (p' := 975) k219_972 rfl rfl (by decide) rfl (by decide) (by decide) dp_89 rfl rfl (cl_le mx_89 rfl) (by decide) (cl_sum rfl) (b_fine hR _ (fun I1 v hv => ?_))
  refine me_aload_n (p' := 976) k219_975 rfl rfl ?_
  refine me_aload_n (p' := 977) k219_976 rfl rfl ?_
  refine me_iload_n (p' := 978) k219_977 rfl rfl ?_
  refine me_iconst (p' := 979) k219_978 rfl (v := nI 1) (by decide) ?_
  refine me_iadd (p' := 980) k219_979 rfl (v := nI (i + 1)) (mI_add _ _) ?_
  refine me_xald (p' := 981) k219_980 rfl (j := i + 1) rfl (by omega) (by omega) ?_
  refine me_cv (p' := 984) k219_981 rfl rfl (by decide) rfl (by decide) (by decide) dp_185 rfl rfl (cl_le mx_185 rfl) (by decide) (cl_sum rfl) (hv _ (fun I2 hR2 => ?_))
  refine me_ic_eq (p' := 987) k219_984 rfl (fun c1 => ?_) (fun c1 => ?_)
  · skip
    exact hS I2 hR2
  · skip
    exact absurd rfl c1
theorem lw_25 {L : Nat} {xs : Nat → Int32} {I : Nat → Nat → Int32} {Q : Option Value → mj_H → Prop} {i : Nat} (hi : i + 6 ≤ L) (hL : L ≤ 3072) (hR : mRel I) (hS : ∀ J, mRel J → mj_Ev 96 219 1556 (mLw i) [] (mg_h L xs J) Q) : mj_Ev 96 219 989 (mLw i) [] (mg_h L xs I) Q := by
  refine me_aload_n (p' := 990) k219_989 rfl rfl ?_
  refine me_aload_n (p' := 991) k219_990 rfl rfl ?_
  refine me_iload_n (p' := 992) k219_991 rfl rfl ?_
  refine me_iconst (p' := 993) k219_992 rfl (v := nI 1) (by decide) ?_
  refine me_iadd (p' := 994) k219_993 rfl (v := nI (i + 1)) (mI_add _ _) ?_
  refine me_xald (p' := 995) k219_994 rfl (j := i + 1) rfl (by omega) (by omega) ?_
  refine me_aload_n (p' := 996) k219_995 rfl rfl ?_
  refine me_iload_n (p' := 997) k219_996 rfl rfl ?_
  refine me_iconst (p' := 998) k219_997 rfl (v := nI 2) (by decide) ?_
  refine me_iadd (p' := 999) k219_998 rfl (v := nI (i + 2)) (mI_add _ _) ?_
  refine me_xald (p' := 1000) k219_999 rfl (j := i + 2) rfl (by omega) (by omega) ?_
  refine me_aload_n (p' := 1001) k219_1000 rfl rfl ?_
  refine me_iload_n (p' := 1002) k219_1001 rfl rfl ?_
  refine me_iconst (p' := 1003) k219_1002 rfl (v := nI 3) (by decide) ?_
  refine me_iadd (p' := 1004) k219_1003 rfl (v := nI (i + 3)) (mI_add _ _) ?_
  refine me_xald (p' := 1005) k219_1004 rfl (j := i + 3) rfl (by omega) (by omega) ?_
  refine me_cv (p' := 1008) k219_1005 rfl rfl (by decide) rfl (by decide) (by decide) dp_90 rfl rfl (cl_le mx_90 rfl) (by decide) (cl_sum rfl) (b_feed hR _ (fun I1 v hv => ?_))
  refine me_aload_n (p' := 1009) k219_1008 rfl rfl ?_
  refine me_aload_n (p' := 1010) k219_1009 rfl rfl ?_
  refine me_iload_n (p' := 1011) k219_1010 rfl rfl ?_
  refine me_iconst (p' := 1012) k219_1011 rfl (v := nI 1) (by decide) ?_
  refine me_iadd (p' := 1013) k219_1012 rfl (v := nI (i + 1)) (mI_add _ _) ?_
  refine me_xald (p' := 1014) k219_1013 rfl (j := i + 1) rfl (by omega) (by omega) ?_
  refine me_aload_n (p' := 1015) k219_1014 rfl rfl ?_
  refine me_iload_n (p' := 1016) k219_1015 rfl rfl ?_
  refine me_iconst (p' := 1017) k219_1016 rfl (v := nI 2) (by decide) ?_
  refine me_iadd (p' := 1018) k219_1017 rfl (v := nI (i + 2)) (mI_add _ _) ?_
  refine me_xald (p' := 1019) k219_1018 rfl (j := i + 2) rfl (by omega) (by omega) ?_
  refine me_aload_n (p' := 1020) k219_1019 rfl rfl ?_
  refine me_iload_n (p' := 1021) k219_1020 rfl rfl ?_
  refine me_iconst (p' := 1022) k219_1021 rfl (v := nI 3) (by decide) ?_
  refine me_iadd (p' := 1023) k219_1022 rfl (v := nI (i + 3)) (mI_add _ _) ?_
  refine me_xald (p' := 1024) k219_1023 rfl (j := i + 3) rfl (by omega) (by omega) ?_
  refine me_cv (p' := 1027) k219_1024 rfl rfl (by decide) rfl (by decide) (by decide) dp_186 rfl rfl (cl_le mx_186 rfl) (by decide) (cl_sum rfl) (hv _ (fun I2 hR2 => ?_))
  refine me_ic_eq (p' := 1030) k219_1027 rfl (fun c1 => ?_) (fun c1 => ?_)
  · skip
    exact hS I2 hR2
  · skip
    exact absurd rfl c1
theorem lw_26 {L : Nat} {xs : Nat → Int32} {I : Nat → Nat → Int32} {Q : Option Value → mj_H → Prop} {i : Nat} (hi : i + 6 ≤ L) (hL : L ≤ 3072) (hR : mRel I) (hS : ∀ J, mRel J → mj_Ev 96 219 1556 (mLw i) [] (mg_h L xs J) Q) : mj_Ev 96 219 1032 (mLw i) [] (mg_h L xs I) Q := by
  refine me_aload_n (p' := 1033) k219_1032 rfl rfl ?_
  refine me_aload_n (p' := 1034) k219_1033 rfl rfl ?_
  refine me_iload_n (p' := 1035) k219_1034 rfl rfl ?_
  refine me_iconst (p' := 1036) k219_1035 rfl (v := nI 1) (by decide) ?_
  refine me_iadd (p' := 1037) k219_1036 rfl (v := nI (i + 1)) (mI_add _ _) ?_
  refine me_xald (p' := 1038) k219_1037 rfl (j := i + 1) rfl (by omega) (by omega) ?_
  refine me_cv (p' := 1041) k219_1038 rfl rfl (by decide) rfl (by decide) (by decide) dp_92 rfl rfl (cl_le mx_92 rfl) (by decide) (cl_sum rfl) (b_trim hR _ (fun I1 v hv => ?_))
  refine me_aload_n (p' := 1042) k219_1041 rfl rfl ?_
  refine me_aload_n (p' := 1043) k219_1042 rfl rfl ?_
  refine me_iload_n (p' := 1044) k219_1043 rfl rfl ?_
  refine me_iconst (p' := 1045) k219_1044 rfl (v := nI 1) (by decide) ?_
  refine me_iadd (p' := 1046) k219_1045 rfl (v := nI (i + 1)) (mI_add _ _) ?_
  refine me_xald (p' := 1047) k219_1046 rfl (j := i + 1) rfl (by omega) (by omega) ?_
  refine me_cv (p' := 1050) k219_1047 rfl rfl (by decide) rfl (by decide) (by decide) dp_187 rfl rfl (cl_le mx_187 rfl) (by decide) (cl_sum rfl) (hv _ (fun I2 hR2 => ?_))
  refine me_ic_eq (p' := 1053) k219_1050 rfl (fun c1 => ?_) (fun c1 => ?_)
  · skip
    exact hS I2 hR2
  · skip
    exact absurd rfl c1
theorem lw_27 {L : Nat} {xs : Nat → Int32} {I : Nat → Nat → Int32} {Q : Option Value → mj_H → Prop} {i : Nat} (hi : i + 6 ≤ L) (hL : L ≤ 3072) (hR : mRel I) (hS : ∀ J, mRel J → mj_Ev 96 219 1556 (mLw i) [] (mg_h L xs J) Q) : mj_Ev 96 219 1055 (mLw i) [] (mg_h L xs I) Q := by
  refine me_aload_n (p' := 1056) k219_1055 rfl rfl ?_
  refine me_cv (p' := 1059) k219_1056 rfl rfl (by decide) rfl (by decide) (by decide) dp_93 rfl rfl (cl_le mx_93 rfl) (by decide) (cl_sum rfl) (b_text hR _ (fun I1 v hv => ?_))
  refine me_aload_n (p' := 1060) k219_1059 rfl rfl ?_
  refine me_cv (p' := 1063) k219_1060 rfl rfl (by decide) rfl (by decide) (by decide) dp_188 rfl rfl (cl_le mx_188 rfl) (by decide) (cl_sum rfl) (hv _ (fun I2 hR2 => ?_))
  refine me_ic_eq (p' := 1066) k219_1063 rfl (fun c1 => ?_) (fun c1 => ?_)
  · skip
    exact hS I2 hR2
  · skip
    exact absurd rfl c1
theorem lw_28 {L : Nat} {xs : Nat → Int32} {I : Nat → Nat → Int32} {Q : Option Value → mj_H → Prop} {i : Nat} (hi : i + 6 ≤ L) (hL : L ≤ 3072) (hR : mRel I) (hS : ∀ J, mRel J → mj_Ev 96 219 1556 (mLw i) [] (mg_h L xs J) Q) : mj_Ev 96 219 1068 (mLw i) [] (mg_h L xs I) Q := by
  refine me_aload_n (p' := 1069) k219_1068 rfl rfl ?_
  refine me_aload_n (p' := 1070) k219_1069 rfl rfl ?_
  refine me_iload_n (p' := 1071) k219_1070 rfl rfl ?_
  refine me_iconst (p' := 1072) k219_1071 rfl (v := nI 1) (by decide) ?_
  refine me_iadd (p' := 1073) k219_1072 rfl (v := nI (i + 1)) (mI_add _ _) ?_
  refine me_xald (p' := 1074) k219_1073 rfl (j := i + 1) rfl (by omega) (by omega) ?_
  refine me_aload_n (p' := 1075) k219_1074 rfl rfl ?_
  refine me_iload_n (p' := 1076) k219_1075 rfl rfl ?_
  refine me_iconst (p' := 1077) k219_1076 rfl (v := nI 2) (by decide) ?_
  refine me_iadd (p' := 1078) k219_1077 rfl (v := nI (i + 2)) (mI_add _ _) ?_
  refine me_xald (p' := 1079) k219_1078 rfl (j := i + 2) rfl (by omega) (by omega) ?_
  refine me_cv (p' := 1082) k219_1079 rfl rfl (by decide) rfl (by decide) (by decide) dp_111 rfl rfl (cl_le mx_111 rfl) (by decide) (cl_sum rfl) (b_textTold hR _ (fun I1 v hv => ?_))
  refine me_aload_n (p' := 1083) k219_1082 rfl rfl ?_
  refine me_aload_n (p' := 1084) k219_1083 rfl rfl ?_
  refine me_iload_n (p' := 1085) k219_1084 rfl rfl ?_
  refine me_iconst (p' := 1086) k219_1085 rfl (v := nI 1) (by decide) ?_
  refine me_iadd (p' := 1087) k219_1086 rfl (v := nI (i + 1)) (mI_add _ _) ?_
  refine me_xald (p' := 1088) k219_1087 rfl (j := i + 1) rfl (by omega) (by omega) ?_
  refine me_aload_n (p' := 1089) k219_1088 rfl rfl ?_
  refine me_iload_n (p' := 1090) k219_1089 rfl rfl ?_
  refine me_iconst (p' := 1091) k219_1090 rfl (v := nI 2) (by decide) ?_
  refine me_iadd (p' := 1092) k219_1091 rfl (v := nI (i + 2)) (mI_add _ _) ?_
  refine me_xald (p' := 1093) k219_1092 rfl (j := i + 2) rfl (by omega) (by omega) ?_
  refine me_cv (p' := 1096) k219_1093 rfl rfl (by decide) rfl (by decide) (by decide) dp_200 rfl rfl (cl_le mx_200 rfl) (by decide) (cl_sum rfl) (hv _ (fun I2 hR2 => ?_))
  refine me_ic_eq (p' := 1099) k219_1096 rfl (fun c1 => ?_) (fun c1 => ?_)
  · skip
    exact hS I2 hR2
  · skip
    exact absurd rfl c1
theorem lw_29 {L : Nat} {xs : Nat → Int32} {I : Nat → Nat → Int32} {Q : Option Value → mj_H → Prop} {i : Nat} (hi : i + 6 ≤ L) (hL : L ≤ 3072) (hR : mRel I) (hS : ∀ J, mRel J → mj_Ev 96 219 1556 (mLw i) [] (mg_h L xs J) Q) : mj_Ev 96 219 1101 (mLw i) [] (mg_h L xs I) Q := by
  refine me_aload_n (p' := 1102) k219_1101 rfl rfl ?_
  refine me_aload_n (p' := 1103) k219_1102 rfl rfl ?_
  refine me_iload_n (p' := 1104) k219_1103 rfl rfl ?_
  refine me_iconst (p' := 1105) k219_1104 rfl (v := nI 1) (by decide) ?_
  refine me_iadd (p' := 1106) k219_1105 rfl (v := nI (i + 1)) (mI_add _ _) ?_
  refine me_xald (p' := 1107) k219_1106 rfl (j := i + 1) rfl (by omega) (by omega) ?_
  refine me_cv (p' := 1110) k219_1107 rfl rfl (by decide) rfl (by decide) (by decide) dp_112 rfl rfl (cl_le mx_112 rfl) (by decide) (cl_sum rfl) (b_why hR _ (fun I1 v hv => ?_))
  refine me_aload_n (p' := 1111) k219_1110 rfl rfl ?_
  refine me_aload_n (p' := 1112) k219_1111 rfl rfl ?_
  refine me_iload_n (p' := 1113) k219_1112 rfl rfl ?_
  refine me_iconst (p' := 1114) k219_1113 rfl (v := nI 1) (by decide) ?_
  refine me_iadd (p' := 1115) k219_1114 rfl (v := nI (i + 1)) (mI_add _ _) ?_
  refine me_xald (p' := 1116) k219_1115 rfl (j := i + 1) rfl (by omega) (by omega) ?_
  refine me_cv (p' := 1119) k219_1116 rfl rfl (by decide) rfl (by decide) (by decide) dp_201 rfl rfl (cl_le mx_201 rfl) (by decide) (cl_sum rfl) (hv _ (fun I2 hR2 => ?_))
  refine me_ic_eq (p' := 1122) k219_1119 rfl (fun c1 => ?_) (fun c1 => ?_)
  · skip
    exact hS I2 hR2
  · skip
    exact absurd rfl c1
theorem lw_30 {L : Nat} {xs : Nat → Int32} {I : Nat → Nat → Int32} {Q : Option Value → mj_H → Prop} {i : Nat} (hi : i + 6 ≤ L) (hL : L ≤ 3072) (hR : mRel I) (hS : ∀ J, mRel J → mj_Ev 96 219 1556 (mLw i) [] (mg_h L xs J) Q) : mj_Ev 96 219 1124 (mLw i) [] (mg_h L xs I) Q := by
  refine me_aload_n (p' := 1125) k219_1124 rfl rfl ?_
  refine me_aload_n (p' := 1126) k219_1125 rfl rfl ?_
  refine me_iload_n (p' := 1127) k219_1126 rfl rfl ?_
  refine me_iconst (p' := 1128) k219_1127 rfl (v := nI 1) (by decide) ?_
  refine me_iadd (p' := 1129) k219_1128 rfl (v := nI (i + 1)) (mI_add _ _) ?_
  refine me_xald (p' := 1130) k219_1129 rfl (j := i + 1) rfl (by omega) (by omega) ?_
  refine me_aload_n (p' := 1131) k219_1130 rfl rfl ?_
  refine me_iload_n (p' := 1132) k219_1131 rfl rfl ?_
  refine me_iconst (p' := 1133) k219_1132 rfl (v := nI 2) (by decide) ?_
  refine me_iadd (p' := 1134) k219_1133 rfl (v := nI (i + 2)) (mI_add _ _) ?_
  refine me_xald (p' := 1135) k219_1134 rfl (j := i + 2) rfl (by omega) (by omega) ?_
  refine me_aload_n (p' := 1136) k219_1135 rfl rfl ?_
  refine me_iload_n (p' := 1137) k219_1136 rfl rfl ?_
  refine me_iconst (p' := 1138) k219_1137 rfl (v := nI 3) (by decide) ?_
  refine me_iadd (p' := 1139) k219_1138 rfl (v := nI (i + 3)) (mI_add _ _) ?_
  refine me_xald (p' := 1140) k219_1139 rfl (j := i + 3) rfl (by omega) (by omega) ?_
  refine me_cv (p' := 1143) k219_1140 rfl rfl (by decide) rfl (by decide) (by decide) dp_113 rfl rfl (cl_le mx_113 rfl) (by decide) (cl_sum rfl) (b_sheet hR _ (fun I1 v hv => ?_))
  refine me_aload_n (p' := 1144) k219_1143 rfl rfl ?_
  refine me_aload_n (p' := 1145) k219_1144 rfl rfl ?_
  refine me_iload_n (p' := 1146) k219_1145 rfl rfl ?_
  refine me_iconst (p' := 1147) k219_1146 rfl (v := nI 1) (by decide) ?_
  refine me_iadd (p' := 1148) k219_1147 rfl (v := nI (i + 1)) (mI_add _ _) ?_
  refine me_xald (p' := 1149) k219_1148 rfl (j := i + 1) rfl (by omega) (by omega) ?_
  refine me_aload_n (p' := 1150) k219_1149 rfl rfl ?_
  refine me_iload_n (p' := 1151) k219_1150 rfl rfl ?_
  refine me_iconst (p' := 1152) k219_1151 rfl (v := nI 2) (by decide) ?_
  refine me_iadd (p' := 1153) k219_1152 rfl (v := nI (i + 2)) (mI_add _ _) ?_
  refine me_xald (p' := 1154) k219_1153 rfl (j := i + 2) rfl (by omega) (by omega) ?_
  refine me_aload_n (p' := 1155) k219_1154 rfl rfl ?_
  refine me_iload_n (p' := 1156) k219_1155 rfl rfl ?_
  refine me_iconst (p' := 1157) k219_1156 rfl (v := nI 3) (by decide) ?_
  refine me_iadd (p' := 1158) k219_1157 rfl (v := nI (i + 3)) (mI_add _ _) ?_
  refine me_xald (p' := 1159) k219_1158 rfl (j := i + 3) rfl (by omega) (by omega) ?_
  refine me_cv (p' := 1162) k219_1159 rfl rfl (by decide) rfl (by decide) (by decide) dp_202 rfl rfl (cl_le mx_202 rfl) (by decide) (cl_sum rfl) (hv _ (fun I2 hR2 => ?_))
  refine me_ic_eq (p' := 1165) k219_1162 rfl (fun c1 => ?_) (fun c1 => ?_)
  · skip
    exact hS I2 hR2
  · skip
    exact absurd rfl c1
theorem lw_31 {L : Nat} {xs : Nat → Int32} {I : Nat → Nat → Int32} {Q : Option Value → mj_H → Prop} {i : Nat} (hi : i + 6 ≤ L) (hL : L ≤ 3072) (hR : mRel I) (hS : ∀ J, mRel J → mj_Ev 96 219 1556 (mLw i) [] (mg_h L xs J) Q) : mj_Ev 96 219 1167 (mLw i) [] (mg_h L xs I) Q := by
  refine me_aload_n (p' := 1168) k219_1167 rfl rfl ?_
  refine me_aload_n (p' := 1169) k219_1168 rfl rfl ?_
  refine me_iload_n (p' := 1170) k219_1169 rfl rfl ?_
  refine me_iconst (p' := 1171) k219_1170 rfl (v := nI 1) (by decide) ?_
  refine me_iadd (p' := 1172) k219_1171 rfl (v := nI (i + 1)) (mI_add _ _) ?_
  refine me_xald (p' := 1173) k219_1172 rfl (j := i + 1) rfl (by omega) (by omega) ?_
  refine me_aload_n (p' := 1174) k219_1173 rfl rfl ?_
  refine me_iload_n (p' := 1175) k219_1174 rfl rfl ?_
  refine me_iconst (p' := 1176) k219_1175 rfl (v := nI 2) (by decide) ?_
  refine me_iadd (p' := 1177) k219_1176 rfl (v := nI (i + 2)) (mI_add _ _) ?_
  refine me_xald (p' := 1178) k219_1177 rfl (j := i + 2) rfl (by omega) (by omega) ?_
  refine me_aload_n (p' := 1179) k219_1178 rfl rfl ?_
  refine me_iload_n (p' := 1180) k219_1179 rfl rfl ?_
  refine me_iconst (p' := 1181) k219_1180 rfl (v := nI 3) (by decide) ?_
  refine me_iadd (p' := 1182) k219_1181 rfl (v := nI (i + 3)) (mI_add _ _) ?_
  refine me_xald (p' := 1183) k219_1182 rfl (j := i + 3) rfl (by omega) (by omega) ?_
  refine me_cv (p' := 1186) k219_1183 rfl rfl (by decide) rfl (by decide) (by decide) dp_115 rfl rfl (cl_le mx_115 rfl) (by decide) (cl_sum rfl) (b_mark hR _ (fun I1 v hv => ?_))
  refine me_aload_n (p' := 1187) k219_1186 rfl rfl ?_
  refine me_aload_n (p' := 1188) k219_1187 rfl rfl ?_
  refine me_iload_n (p' := 1189) k219_1188 rfl rfl ?_
  refine me_iconst (p' := 1190) k219_1189 rfl (v := nI 1) (by decide) ?_
  refine me_iadd (p' := 1191) k219_1190 rfl (v := nI (i + 1)) (mI_add _ _) ?_
  refine me_xald (p' := 1192) k219_1191 rfl (j := i + 1) rfl (by omega) (by omega) ?_
  refine me_aload_n (p' := 1193) k219_1192 rfl rfl ?_
  refine me_iload_n (p' := 1194) k219_1193 rfl rfl ?_
  refine me_iconst (p' := 1195) k219_1194 rfl (v := nI 2) (by decide) ?_
  refine me_iadd (p' := 1196) k219_1195 rfl (v := nI (i + 2)) (mI_add _ _) ?_
  refine me_xald (p' := 1197) k219_1196 rfl (j := i + 2) rfl (by omega) (by omega) ?_
  refine me_aload_n (p' := 1198) k219_1197 rfl rfl ?_
  refine me_iload_n (p' := 1199) k219_1198 rfl rfl ?_
  refine me_iconst (p' := 1200) k219_1199 rfl (v := nI 3) (by decide) ?_
  refine me_iadd (p' := 1201) k219_1200 rfl (v := nI (i + 3)) (mI_add _ _) ?_
  refine me_xald (p' := 1202) k219_1201 rfl (j := i + 3) rfl (by omega) (by omega) ?_
  refine me_cv (p' := 1205) k219_1202 rfl rfl (by decide) rfl (by decide) (by decide) dp_203 rfl rfl (cl_le mx_203 rfl) (by decide) (cl_sum rfl) (hv _ (fun I2 hR2 => ?_))
  refine me_ic_eq (p' := 1208) k219_1205 rfl (fun c1 => ?_) (fun c1 => ?_)
  · skip
    exact hS I2 hR2
  · skip
    exact absurd rfl c1
theorem lw_32 {L : Nat} {xs : Nat → Int32} {I : Nat → Nat → Int32} {Q : Option Value → mj_H → Prop} {i : Nat} (hi : i + 6 ≤ L) (hL : L ≤ 3072) (hR : mRel I) (hS : ∀ J, mRel J → mj_Ev 96 219 1556 (mLw i) [] (mg_h L xs J) Q) : mj_Ev 96 219 1210 (mLw i) [] (mg_h L xs I) Q := by
  refine me_aload_n (p' := 1211) k219_1210 rfl rfl ?_
  refine me_aload_n (p' := 1212) k219_1211 rfl rfl ?_
  refine me_iload_n (p' := 1213) k219_1212 rfl rfl ?_
  refine me_iconst (p' := 1214) k219_1213 rfl (v := nI 1) (by decide) ?_
  refine me_iadd (p' := 1215) k219_1214 rfl (v := nI (i + 1)) (mI_add _ _) ?_
  refine me_xald (p' := 1216) k219_1215 rfl (j := i + 1) rfl (by omega) (by omega) ?_
  refine me_cv (p' := 1219) k219_1216 rfl rfl (by decide) rfl (by decide) (by decide) dp_117 rfl rfl (cl_le mx_117 rfl) (by decide) (cl_sum rfl) (b_pour hR _ (fun I1 v hv => ?_))
  refine me_aload_n (p' := 1220) k219_1219 rfl rfl ?_
  refine me_aload_n (p' := 1221) k219_1220 rfl rfl ?_
  refine me_iload_n (p' := 1222) k219_1221 rfl rfl ?_
  refine me_iconst (p' := 1223) k219_1222 rfl (v := nI 1) (by decide) ?_
  refine me_iadd (p' := 1224) k219_1223 rfl (v := nI (i + 1)) (mI_add _ _) ?_
  refine me_xald (p' := 1225) k219_1224 rfl (j := i + 1) rfl (by omega) (by omega) ?_
  refine me_cv (p' := 1228) k219_1225 rfl rfl (by decide) rfl (by decide) (by decide) dp_204 rfl rfl (cl_le mx_204 rfl) (by decide) (cl_sum rfl) (hv _ (fun I2 hR2 => ?_))
  refine me_ic_eq (p' := 1231) k219_1228 rfl (fun c1 => ?_) (fun c1 => ?_)
  · skip
    exact hS I2 hR2
  · skip
    exact absurd rfl c1
theorem lw_33 {L : Nat} {xs : Nat → Int32} {I : Nat → Nat → Int32} {Q : Option Value → mj_H → Prop} {i : Nat} (hi : i + 6 ≤ L) (hL : L ≤ 3072) (hR : mRel I) (hS : ∀ J, mRel J → mj_Ev 96 219 1556 (mLw i) [] (mg_h L xs J) Q) : mj_Ev 96 219 1233 (mLw i) [] (mg_h L xs I) Q := by
  refine me_aload_n (p' := 1234) k219_1233 rfl rfl ?_
  refine me_aload_n (p' := 1235) k219_1234 rfl rfl ?_
  refine me_iload_n (p' := 1236) k219_1235 rfl rfl ?_
  refine me_iconst (p' := 1237) k219_1236 rfl (v := nI 1) (by decide) ?_
  refine me_iadd (p' := 1238) k219_1237 rfl (v := nI (i + 1)) (mI_add _ _) ?_
  refine me_xald (p' := 1239) k219_1238 rfl (j := i + 1) rfl (by omega) (by omega) ?_
  refine me_cv (p' := 1242) k219_1239 rfl rfl (by decide) rfl (by decide) (by decide) dp_118 rfl rfl (cl_le mx_118 rfl) (by decide) (cl_sum rfl) (b_reads hR _ (fun I1 v hv => ?_))
  refine me_aload_n (p' := 1243) k219_1242 rfl rfl ?_
  refine me_aload_n (p' := 1244) k219_1243 rfl rfl ?_
  refine me_iload_n (p' := 1245) k219_1244 rfl rfl ?_
  refine me_iconst (p' := 1246) k219_1245 rfl (v := nI 1) (by decide) ?_
  refine me_iadd (p' := 1247) k219_1246 rfl (v := nI (i + 1)) (mI_add _ _) ?_
  refine me_xald (p' := 1248) k219_1247 rfl (j := i + 1) rfl (by omega) (by omega) ?_
  refine me_cv (p' := 1251) k219_1248 rfl rfl (by decide) rfl (by decide) (by decide) dp_205 rfl rfl (cl_le mx_205 rfl) (by decide) (cl_sum rfl) (hv _ (fun I2 hR2 => ?_))
  refine me_ic_eq (p' := 1254) k219_1251 rfl (fun c1 => ?_) (fun c1 => ?_)
  · skip
    exact hS I2 hR2
  · skip
    exact absurd rfl c1
theorem lw_34 {L : Nat} {xs : Nat → Int32} {I : Nat → Nat → Int32} {Q : Option Value → mj_H → Prop} {i : Nat} (hi : i + 6 ≤ L) (hL : L ≤ 3072) (hR : mRel I) (hS : ∀ J, mRel J → mj_Ev 96 219 1556 (mLw i) [] (mg_h L xs J) Q) : mj_Ev 96 219 1256 (mLw i) [] (mg_h L xs I) Q := by
  refine me_aload_n (p' := 1257) k219_1256 rfl rfl ?_
  refine me_aload_n (p' := 1258) k219_1257 rfl rfl ?_
  refine me_iload_n (p' := 1259) k219_1258 rfl rfl ?_
  refine me_iconst (p' := 1260) k219_1259 rfl (v := nI 1) (by decide) ?_
  refine me_iadd (p' := 1261) k219_1260 rfl (v := nI (i + 1)) (mI_add _ _) ?_
  refine me_xald (p' := 1262) k219_1261 rfl (j := i + 1) rfl (by omega) (by omega) ?_
  refine me_aload_n (p' := 1263) k219_1262 rfl rfl ?_
  refine me_iload_n (p' := 1264) k219_1263 rfl rfl ?_
  refine me_iconst (p' := 1265) k219_1264 rfl (v := nI 2) (by decide) ?_
  refine me_iadd (p' := 1266) k219_1265 rfl (v := nI (i + 2)) (mI_add _ _) ?_
  refine me_xald (p' := 1267) k219_1266 rfl (j := i + 2) rfl (by omega) (by omega) ?_
  refine me_aload_n (p' := 1268) k219_1267 rfl rfl ?_
  refine me_iload_n (p' := 1269) k219_1268 rfl rfl ?_
  refine me_iconst (p' := 1270) k219_1269 rfl (v := nI 3) (by decide) ?_
  refine me_iadd (p' := 1271) k219_1270 rfl (v := nI (i + 3)) (mI_add _ _) ?_
  refine me_xald (p' := 1272) k219_1271 rfl (j := i + 3) rfl (by omega) (by omega) ?_
  refine me_aload_n (p' := 1273) k219_1272 rfl rfl ?_
  refine me_iload_n (p' := 1274) k219_1273 rfl rfl ?_
  refine me_iconst (p' := 1275) k219_1274 rfl (v := nI 4) (by decide) ?_
  refine me_iadd (p' := 1276) k219_1275 rfl (v := nI (i + 4)) (mI_add _ _) ?_
  refine me_xald (p' := 1277) k219_1276 rfl (j := i + 4) rfl (by omega) (by omega) ?_
  refine me_aload_n (p' := 1278) k219_1277 rfl rfl ?_
  refine me_iload_n (p' := 1279) k219_1278 rfl rfl ?_
  refine me_iconst (p' := 1280) k219_1279 rfl (v := nI 5) (by decide) ?_
  refine me_iadd (p' := 1281) k219_1280 rfl (v := nI (i + 5)) (mI_add _ _) ?_
  refine me_xald (p' := 1282) k219_1281 rfl (j := i + 5) rfl (by omega) (by omega) ?_
  refine me_cv (p' := 1285) k219_1282 rfl rfl (by decide) rfl (by decide) (by decide) dp_119 rfl rfl (cl_le mx_119 rfl) (by decide) (cl_sum rfl) (b_copy hR _ (fun I1 v hv => ?_))
  refine me_aload_n (p' := 1286) k219_1285 rfl rfl ?_
  refine me_aload_n (p' := 1287) k219_1286 rfl rfl ?_
  refine me_iload_n (p' := 1288) k219_1287 rfl rfl ?_
  refine me_iconst (p' := 1289) k219_1288 rfl (v := nI 1) (by decide) ?_
  refine me_iadd (p' := 1290) k219_1289 rfl (v := nI (i + 1)) (mI_add _ _) ?_
  refine me_xald (p' := 1291) k219_1290 rfl (j := i + 1) rfl (by omega) (by omega) ?_
  refine me_aload_n (p' := 1292) k219_1291 rfl rfl ?_
  refine me_iload_n (p' := 1293) k219_1292 rfl rfl ?_
  refine me_iconst (p' := 1294) k219_1293 rfl (v := nI 2) (by decide) ?_
  refine me_iadd (p' := 1295) k219_1294 rfl (v := nI (i + 2)) (mI_add _ _) ?_
  refine me_xald (p' := 1296) k219_1295 rfl (j := i + 2) rfl (by omega) (by omega) ?_
  refine me_aload_n (p' := 1297) k219_1296 rfl rfl ?_
  refine me_iload_n (p' := 1298) k219_1297 rfl rfl ?_
  refine me_iconst (p' := 1299) k219_1298 rfl (v := nI 3) (by decide) ?_
  refine me_iadd (p' := 1300) k219_1299 rfl (v := nI (i + 3)) (mI_add _ _) ?_
  refine me_xald (p' := 1301) k219_1300 rfl (j := i + 3) rfl (by omega) (by omega) ?_
  refine me_aload_n (p' := 1302) k219_1301 rfl rfl ?_
  refine me_iload_n (p' := 1303) k219_1302 rfl rfl ?_
  refine me_iconst (p' := 1304) k219_1303 rfl (v := nI 4) (by decide) ?_
  refine me_iadd (p' := 1305) k219_1304 rfl (v := nI (i + 4)) (mI_add _ _) ?_
  refine me_xald (p' := 1306) k219_1305 rfl (j := i + 4) rfl (by omega) (by omega) ?_
  refine me_aload_n (p' := 1307) k219_1306 rfl rfl ?_
  refine me_iload_n (p' := 1308) k219_1307 rfl rfl ?_
  refine me_iconst (p' := 1309) k219_1308 rfl (v := nI 5) (by decide) ?_
  refine me_iadd (p' := 1310) k219_1309 rfl (v := nI (i + 5)) (mI_add _ _) ?_
  refine me_xald (p' := 1311) k219_1310 rfl (j := i + 5) rfl (by omega) (by omega) ?_
  refine me_cv (p' := 1314) k219_1311 rfl rfl (by decide) rfl (by decide) (by decide) dp_206 rfl rfl (cl_le mx_206 rfl) (by decide) (cl_sum rfl) (hv _ (fun I2 hR2 => ?_))
  refine me_ic_eq (p' := 1317) k219_1314 rfl (fun c1 => ?_) (fun c1 => ?_)
  · skip
    exact hS I2 hR2
  · skip
    exact absurd rfl c1
theorem lw_35 {L : Nat} {xs : Nat → Int32} {I : Nat → Nat → Int32} {Q : Option Value → mj_H → Prop} {i : Nat} (hi : i + 6 ≤ L) (hL : L ≤ 3072) (hR : mRel I) (hS : ∀ J, mRel J → mj_Ev 96 219 1556 (mLw i) [] (mg_h L xs J) Q) : mj_Ev 96 219 1319 (mLw i) [] (mg_h L xs I) Q := by
  refine me_aload_n (p' := 1320) k219_1319 rfl rfl ?_
  refine me_aload_n (p' := 1321) k219_1320 rfl rfl ?_
  refine me_iload_n (p' := 1322) k219_1321 rfl rfl ?_
  refine me_iconst (p' := 1323) k219_1322 rfl (v := nI 1) (by decide) ?_
  refine me_iadd (p' := 1324) k219_1323 rfl (v := nI (i + 1)) (mI_add _ _) ?_
  refine me_xald (p' := 1325) k219_1324 rfl (j := i + 1) rfl (by omega) (by omega) ?_
  refine me_aload_n (p' := 1326) k219_1325 rfl rfl ?_
  refine me_iload_n (p' := 1327) k219_1326 rfl rfl ?_
  refine me_iconst (p' := 1328) k219_1327 rfl (v := nI 2) (by decide) ?_
  refine me_iadd (p' := 1329) k219_1328 rfl (v := nI (i + 2)) (mI_add _ _) ?_
  refine me_xald (p' := 1330) k219_1329 rfl (j := i + 2) rfl (by omega) (by omega) ?_
  refine me_aload_n (p' := 1331) k219_1330 rfl rfl ?_
  refine me_iload_n (p' := 1332) k219_1331 rfl rfl ?_
  refine me_iconst (p' := 1333) k219_1332 rfl (v := nI 3) (by decide) ?_
  refine me_iadd (p' := 1334) k219_1333 rfl (v := nI (i + 3)) (mI_add _ _) ?_
  refine me_xald (p' := 1335) k219_1334 rfl (j := i + 3) rfl (by omega) (by omega) ?_
  refine me_cv (p' := 1338) k219_1335 rfl rfl (by decide) rfl (by decide) (by decide) dp_120 rfl rfl (cl_le mx_120 rfl) (by decide) (cl_sum rfl) (b_lay hR _ (fun I1 v hv => ?_))
  refine me_aload_n (p' := 1339) k219_1338 rfl rfl ?_
  refine me_aload_n (p' := 1340) k219_1339 rfl rfl ?_
  refine me_iload_n (p' := 1341) k219_1340 rfl rfl ?_
  refine me_iconst (p' := 1342) k219_1341 rfl (v := nI 1) (by decide) ?_
  refine me_iadd (p' := 1343) k219_1342 rfl (v := nI (i + 1)) (mI_add _ _) ?_
  refine me_xald (p' := 1344) k219_1343 rfl (j := i + 1) rfl (by omega) (by omega) ?_
  refine me_aload_n (p' := 1345) k219_1344 rfl rfl ?_
  refine me_iload_n (p' := 1346) k219_1345 rfl rfl ?_
  refine me_iconst (p' := 1347) k219_1346 rfl (v := nI 2) (by decide) ?_
  refine me_iadd (p' := 1348) k219_1347 rfl (v := nI (i + 2)) (mI_add _ _) ?_
  refine me_xald (p' := 1349) k219_1348 rfl (j := i + 2) rfl (by omega) (by omega) ?_
  refine me_aload_n (p' := 1350) k219_1349 rfl rfl ?_
  refine me_iload_n (p' := 1351) k219_1350 rfl rfl ?_
  refine me_iconst (p' := 1352) k219_1351 rfl (v := nI 3) (by decide) ?_
  refine me_iadd (p' := 1353) k219_1352 rfl (v := nI (i + 3)) (mI_add _ _) ?_
  refine me_xald (p' := 1354) k219_1353 rfl (j := i + 3) rfl (by omega) (by omega) ?_
  refine me_cv (p' := 1357) k219_1354 rfl rfl (by decide) rfl (by decide) (by decide) dp_207 rfl rfl (cl_le mx_207 rfl) (by decide) (cl_sum rfl) (hv _ (fun I2 hR2 => ?_))
  refine me_ic_eq (p' := 1360) k219_1357 rfl (fun c1 => ?_) (fun c1 => ?_)
  · skip
    exact hS I2 hR2
  · skip
    exact absurd rfl c1
theorem lw_36 {L : Nat} {xs : Nat → Int32} {I : Nat → Nat → Int32} {Q : Option Value → mj_H → Prop} {i : Nat} (hi : i + 6 ≤ L) (hL : L ≤ 3072) (hR : mRel I) (hS : ∀ J, mRel J → mj_Ev 96 219 1556 (mLw i) [] (mg_h L xs J) Q) : mj_Ev 96 219 1362 (mLw i) [] (mg_h L xs I) Q := by
  refine me_aload_n (p' := 1363) k219_1362 rfl rfl ?_
  refine me_aload_n (p' := 1364) k219_1363 rfl rfl ?_
  refine me_iload_n (p' := 1365) k219_1364 rfl rfl ?_
  refine me_iconst (p' := 1366) k219_1365 rfl (v := nI 1) (by decide) ?_
  refine me_iadd (p' := 1367) k219_1366 rfl (v := nI (i + 1)) (mI_add _ _) ?_
  refine me_xald (p' := 1368) k219_1367 rfl (j := i + 1) rfl (by omega) (by omega) ?_
  refine me_aload_n (p' := 1369) k219_1368 rfl rfl ?_
  refine me_iload_n (p' := 1370) k219_1369 rfl rfl ?_
  refine me_iconst (p' := 1371) k219_1370 rfl (v := nI 2) (by decide) ?_
  refine me_iadd (p' := 1372) k219_1371 rfl (v := nI (i + 2)) (mI_add _ _) ?_
  refine me_xald (p' := 1373) k219_1372 rfl (j := i + 2) rfl (by omega) (by omega) ?_
  refine me_cv (p' := 1376) k219_1373 rfl rfl (by decide) rfl (by decide) (by decide) dp_123 rfl rfl (cl_le mx_123 rfl) (by decide) (cl_sum rfl) (b_ask hR _ (fun I1 v hv => ?_))
  refine me_aload_n (p' := 1377) k219_1376 rfl rfl ?_
  refine me_aload_n (p' := 1378) k219_1377 rfl rfl ?_
  refine me_iload_n (p' := 1379) k219_1378 rfl rfl ?_
  refine me_iconst (p' := 1380) k219_1379 rfl (v := nI 1) (by decide) ?_
  refine me_iadd (p' := 1381) k219_1380 rfl (v := nI (i + 1)) (mI_add _ _) ?_
  refine me_xald (p' := 1382) k219_1381 rfl (j := i + 1) rfl (by omega) (by omega) ?_
  refine me_aload_n (p' := 1383) k219_1382 rfl rfl ?_
  refine me_iload_n (p' := 1384) k219_1383 rfl rfl ?_
  refine me_iconst (p' := 1385) k219_1384 rfl (v := nI 2) (by decide) ?_
  refine me_iadd (p' := 1386) k219_1385 rfl (v := nI (i + 2)) (mI_add _ _) ?_
  refine me_xald (p' := 1387) k219_1386 rfl (j := i + 2) rfl (by omega) (by omega) ?_
  refine me_cv (p' := 1390) k219_1387 rfl rfl (by decide) rfl (by decide) (by decide) dp_209 rfl rfl (cl_le mx_209 rfl) (by decide) (cl_sum rfl) (hv _ (fun I2 hR2 => ?_))
  refine me_ic_eq (p' := 1393) k219_1390 rfl (fun c1 => ?_) (fun c1 => ?_)
  · skip
    exact hS I2 hR2
  · skip
    exact absurd rfl c1
theorem lw_37 {L : Nat} {xs : Nat → Int32} {I : Nat → Nat → Int32} {Q : Option Value → mj_H → Prop} {i : Nat} (hi : i + 6 ≤ L) (hL : L ≤ 3072) (hR : mRel I) (hS : ∀ J, mRel J → mj_Ev 96 219 1556 (mLw i) [] (mg_h L xs J) Q) : mj_Ev 96 219 1395 (mLw i) [] (mg_h L xs I) Q := by
  refine me_aload_n (p' := 1396) k219_1395 rfl rfl ?_
  refine me_aload_n (p' := 1397) k219_1396 rfl rfl ?_
  refine me_iload_n (p' := 1398) k219_1397 rfl rfl ?_
  refine me_iconst (p' := 1399) k219_1398 rfl (v := nI 1) (by decide) ?_
  refine me_iadd (p' := 1400) k219_1399 rfl (v := nI (i + 1)) (mI_add _ _) ?_
  refine me_xald (p' := 1401) k219_1400 rfl (j := i + 1) rfl (by omega) (by omega) ?_
  refine me_aload_n (p' := 1402) k219_1401 rfl rfl ?_
  refine me_iload_n (p' := 1403) k219_1402 rfl rfl ?_
  refine me_iconst (p' := 1404) k219_1403 rfl (v := nI 2) (by decide) ?_
  refine me_iadd (p' := 1405) k219_1404 rfl (v := nI (i + 2)) (mI_add _ _) ?_
  refine me_xald (p' := 1406) k219_1405 rfl (j := i + 2) rfl (by omega) (by omega) ?_
  refine me_cv (p' := 1409) k219_1406 rfl rfl (by decide) rfl (by decide) (by decide) dp_124 rfl rfl (cl_le mx_124 rfl) (by decide) (cl_sum rfl) (b_item hR _ (fun I1 v hv => ?_))
  refine me_aload_n (p' := 1410) k219_1409 rfl rfl ?_
  refine me_aload_n (p' := 1411) k219_1410 rfl rfl ?_
  refine me_iload_n (p' := 1412) k219_1411 rfl rfl ?_
  refine me_iconst (p' := 1413) k219_1412 rfl (v := nI 1) (by decide) ?_
  refine me_iadd (p' := 1414) k219_1413 rfl (v := nI (i + 1)) (mI_add _ _) ?_
  refine me_xald (p' := 1415) k219_1414 rfl (j := i + 1) rfl (by omega) (by omega) ?_
  refine me_aload_n (p' := 1416) k219_1415 rfl rfl ?_
  refine me_iload_n (p' := 1417) k219_1416 rfl rfl ?_
  refine me_iconst (p' := 1418) k219_1417 rfl (v := nI 2) (by decide) ?_
  refine me_iadd (p' := 1419) k219_1418 rfl (v := nI (i + 2)) (mI_add _ _) ?_
  refine me_xald (p' := 1420) k219_1419 rfl (j := i + 2) rfl (by omega) (by omega) ?_
  refine me_cv (p' := 1423) k219_1420 rfl rfl (by decide) rfl (by decide) (by decide) dp_210 rfl rfl (cl_le mx_210 rfl) (by decide) (cl_sum rfl) (hv _ (fun I2 hR2 => ?_))
  refine me_ic_eq (p' := 1426) k219_1423 rfl (fun c1 => ?_) (fun c1 => ?_)
  · skip
    exact hS I2 hR2
  · skip
    exact absurd rfl c1
theorem lw_38 {L : Nat} {xs : Nat → Int32} {I : Nat → Nat → Int32} {Q : Option Value → mj_H → Prop} {i : Nat} (hi : i + 6 ≤ L) (hL : L ≤ 3072) (hR : mRel I) (hS : ∀ J, mRel J → mj_Ev 96 219 1556 (mLw i) [] (mg_h L xs J) Q) : mj_Ev 96 219 1428 (mLw i) [] (mg_h L xs I) Q := by
  refine me_aload_n (p' := 1429) k219_1428 rfl rfl ?_
  refine me_aload_n (p' := 1430) k219_1429 rfl rfl ?_
  refine me_iload_n (p' := 1431) k219_1430 rfl rfl ?_
  refine me_iconst (p' := 1432) k219_1431 rfl (v := nI 1) (by decide) ?_
  refine me_iadd (p' := 1433) k219_1432 rfl (v := nI (i + 1)) (mI_add _ _) ?_
  refine me_xald (p' := 1434) k219_1433 rfl (j := i + 1) rfl (by omega) (by omega) ?_
  refine me_aload_n (p' := 1435) k219_1434 rfl rfl ?_
  refine me_iload_n (p' := 1436) k219_1435 rfl rfl ?_
  refine me_iconst (p' := 1437) k219_1436 rfl (v := nI 2) (by decide) ?_
  refine me_iadd (p' := 1438) k219_1437 rfl (v := nI (i + 2)) (mI_add _ _) ?_
  refine me_xald (p' := 1439) k219_1438 rfl (j := i + 2) rfl (by omega) (by omega) ?_
  refine me_cv (p' := 1442) k219_1439 rfl rfl (by decide) rfl (by decide) (by decide) dp_125 rfl rfl (cl_le mx_125 rfl) (by decide) (cl_sum rfl) (b_rest hR _ (fun I1 v hv => ?_))
  refine me_aload_n (p' := 1443) k219_1442 rfl rfl ?_
  refine me_aload_n (p' := 1444) k219_1443 rfl rfl ?_
  refine me_iload_n (p' := 1445) k219_1444 rfl rfl ?_
  refine me_iconst (p' := 1446) k219_1445 rfl (v := nI 1) (by decide) ?_
  refine me_iadd (p' := 1447) k219_1446 rfl (v := nI (i + 1)) (mI_add _ _) ?_
  refine me_xald (p' := 1448) k219_1447 rfl (j := i + 1) rfl (by omega) (by omega) ?_
  refine me_aload_n (p' := 1449) k219_1448 rfl rfl ?_
  refine me_iload_n (p' := 1450) k219_1449 rfl rfl ?_
  refine me_iconst (p' := 1451) k219_1450 rfl (v := nI 2) (by decide) ?_
  refine me_iadd (p' := 1452) k219_1451 rfl (v := nI (i + 2)) (mI_add _ _) ?_
  refine me_xald (p' := 1453) k219_1452 rfl (j := i + 2) rfl (by omega) (by omega) ?_
  refine me_cv (p' := 1456) k219_1453 rfl rfl (by decide) rfl (by decide) (by decide) dp_211 rfl rfl (cl_le mx_211 rfl) (by decide) (cl_sum rfl) (hv _ (fun I2 hR2 => ?_))
  refine me_ic_eq (p' := 1459) k219_1456 rfl (fun c1 => ?_) (fun c1 => ?_)
  · skip
    exact hS I2 hR2
  · skip
    exact absurd rfl c1
theorem lw_39 {L : Nat} {xs : Nat → Int32} {I : Nat → Nat → Int32} {Q : Option Value → mj_H → Prop} {i : Nat} (hi : i + 6 ≤ L) (hL : L ≤ 3072) (hR : mRel I) (hS : ∀ J, mRel J → mj_Ev 96 219 1556 (mLw i) [] (mg_h L xs J) Q) : mj_Ev 96 219 1461 (mLw i) [] (mg_h L xs I) Q := by
  refine me_aload_n (p' := 1462) k219_1461 rfl rfl ?_
  refine me_aload_n (p' := 1463) k219_1462 rfl rfl ?_
  refine me_iload_n (p' := 1464) k219_1463 rfl rfl ?_
  refine me_iconst (p' := 1465) k219_1464 rfl (v := nI 1) (by decide) ?_
  refine me_iadd (p' := 1466) k219_1465 rfl (v := nI (i + 1)) (mI_add _ _) ?_
  refine me_xald (p' := 1467) k219_1466 rfl (j := i + 1) rfl (by omega) (by omega) ?_
  refine me_cv (p' := 1470) k219_1467 rfl rfl (by decide) rfl (by decide) (by decide) dp_126 rfl rfl (cl_le mx_126 rfl) (by decide) (cl_sum rfl) (b_tell hR _ (fun I1 v hv => ?_))
  refine me_aload_n (p' := 1471) k219_1470 rfl rfl ?_
  refine me_aload_n (p' := 1472) k219_1471 rfl rfl ?_
  refine me_iload_n (p' := 1473) k219_1472 rfl rfl ?_
  refine me_iconst (p' := 1474) k219_1473 rfl (v := nI 1) (by decide) ?_
  refine me_iadd (p' := 1475) k219_1474 rfl (v := nI (i + 1)) (mI_add _ _) ?_
  refine me_xald (p' := 1476) k219_1475 rfl (j := i + 1) rfl (by omega) (by omega) ?_
  refine me_cv (p' := 1479) k219_1476 rfl rfl (by decide) rfl (by decide) (by decide) dp_212 rfl rfl (cl_le mx_212 rfl) (by decide) (cl_sum rfl) (hv _ (fun I2 hR2 => ?_))
  refine me_ic_eq (p' := 1482) k219_1479 rfl (fun c1 => ?_) (fun c1 => ?_)
  · skip
    exact hS I2 hR2
  · skip
    exact absurd rfl c1
theorem lw_40 {L : Nat} {xs : Nat → Int32} {I : Nat → Nat → Int32} {Q : Option Value → mj_H → Prop} {i : Nat} (hi : i + 6 ≤ L) (hL : L ≤ 3072) (hR : mRel I) (hS : ∀ J, mRel J → mj_Ev 96 219 1556 (mLw i) [] (mg_h L xs J) Q) : mj_Ev 96 219 1484 (mLw i) [] (mg_h L xs I) Q := by
  refine me_aload_n (p' := 1485) k219_1484 rfl rfl ?_
  refine me_aload_n (p' := 1486) k219_1485 rfl rfl ?_
  refine me_iload_n (p' := 1487) k219_1486 rfl rfl ?_
  refine me_iconst (p' := 1488) k219_1487 rfl (v := nI 1) (by decide) ?_
  refine me_iadd (p' := 1489) k219_1488 rfl (v := nI (i + 1)) (mI_add _ _) ?_
  refine me_xald (p' := 1490) k219_1489 rfl (j := i + 1) rfl (by omega) (by omega) ?_
  refine me_cv (p' := 1493) k219_1490 rfl rfl (by decide) rfl (by decide) (by decide) dp_127 rfl rfl (cl_le mx_127 rfl) (by decide) (cl_sum rfl) (b_check hR _ (fun I1 v hv => ?_))
  refine me_aload_n (p' := 1494) k219_1493 rfl rfl ?_
  refine me_aload_n (p' := 1495) k219_1494 rfl rfl ?_
  refine me_iload_n (p' := 1496) k219_1495 rfl rfl ?_
  refine me_iconst (p' := 1497) k219_1496 rfl (v := nI 1) (by decide) ?_
  refine me_iadd (p' := 1498) k219_1497 rfl (v := nI (i + 1)) (mI_add _ _) ?_
  refine me_xald (p' := 1499) k219_1498 rfl (j := i + 1) rfl (by omega) (by omega) ?_
  refine me_cv (p' := 1502) k219_1499 rfl rfl (by decide) rfl (by decide) (by decide) dp_213 rfl rfl (cl_le mx_213 rfl) (by decide) (cl_sum rfl) (hv _ (fun I2 hR2 => ?_))
  refine me_ic_eq (p' := 1505) k219_1502 rfl (fun c1 => ?_) (fun c1 => ?_)
  · skip
    exact hS I2 hR2
  · skip
    exact absurd rfl c1
theorem lw_41 {L : Nat} {xs : Nat → Int32} {I : Nat → Nat → Int32} {Q : Option Value → mj_H → Prop} {i : Nat} (hi : i + 6 ≤ L) (hL : L ≤ 3072) (hR : mRel I) (hS : ∀ J, mRel J → mj_Ev 96 219 1556 (mLw i) [] (mg_h L xs J) Q) : mj_Ev 96 219 1507 (mLw i) [] (mg_h L xs I) Q := by
  refine me_aload_n (p' := 1508) k219_1507 rfl rfl ?_
  refine me_cv (p' := 1511) k219_1508 rfl rfl (by decide) rfl (by decide) (by decide) dp_128 rfl rfl (cl_le mx_128 rfl) (by decide) (cl_sum rfl) (b_keep hR _ (fun I1 v hv => ?_))
  refine me_aload_n (p' := 1512) k219_1511 rfl rfl ?_
  refine me_cv (p' := 1515) k219_1512 rfl rfl (by decide) rfl (by decide) (by decide) dp_215 rfl rfl (cl_le mx_215 rfl) (by decide) (cl_sum rfl) (hv _ (fun I2 hR2 => ?_))
  refine me_ic_eq (p' := 1518) k219_1515 rfl (fun c1 => ?_) (fun c1 => ?_)
  · skip
    exact hS I2 hR2
  · skip
    exact absurd rfl c1
theorem lw_42 {L : Nat} {xs : Nat → Int32} {I : Nat → Nat → Int32} {Q : Option Value → mj_H → Prop} {i : Nat} (hi : i + 6 ≤ L) (hL : L ≤ 3072) (hR : mRel I) (hS : ∀ J, mRel J → mj_Ev 96 219 1556 (mLw i) [] (mg_h L xs J) Q) : mj_Ev 96 219 1520 (mLw i) [] (mg_h L xs I) Q := by
  refine me_aload_n (p' := 1521) k219_1520 rfl rfl ?_
  refine me_cv (p' := 1524) k219_1521 rfl rfl (by decide) rfl (by decide) (by decide) dp_129 rfl rfl (cl_le mx_129 rfl) (by decide) (cl_sum rfl) (b_back hR _ (fun I1 v hv => ?_))
  refine me_aload_n (p' := 1525) k219_1524 rfl rfl ?_
  refine me_cv (p' := 1528) k219_1525 rfl rfl (by decide) rfl (by decide) (by decide) dp_216 rfl rfl (cl_le mx_216 rfl) (by decide) (cl_sum rfl) (hv _ (fun I2 hR2 => ?_))
  refine me_ic_eq (p' := 1531) k219_1528 rfl (fun c1 => ?_) (fun c1 => ?_)
  · skip
    exact hS I2 hR2
  · skip
    exact absurd rfl c1
theorem lw_43 {L : Nat} {xs : Nat → Int32} {I : Nat → Nat → Int32} {Q : Option Value → mj_H → Prop} {i : Nat} (hi : i + 6 ≤ L) (hL : L ≤ 3072) (hR : mRel I) (hS : ∀ J, mRel J → mj_Ev 96 219 1556 (mLw i) [] (mg_h L xs J) Q) : mj_Ev 96 219 1533 (mLw i) [] (mg_h L xs I) Q := by
  refine me_aload_n (p' := 1534) k219_1533 rfl rfl ?_
  refine me_aload_n (p' := 1535) k219_1534 rfl rfl ?_
  refine me_iload_n (p' := 1536) k219_1535 rfl rfl ?_
  refine me_iconst (p' := 1537) k219_1536 rfl (v := nI 1) (by decide) ?_
  refine me_iadd (p' := 1538) k219_1537 rfl (v := nI (i + 1)) (mI_add _ _) ?_
  refine me_xald (p' := 1539) k219_1538 rfl (j := i + 1) rfl (by omega) (by omega) ?_
  refine me_cv (p' := 1542) k219_1539 rfl rfl (by decide) rfl (by decide) (by decide) dp_130 rfl rfl (cl_le mx_130 rfl) (by decide) (cl_sum rfl) (b_count hR _ (fun I1 v hv => ?_))
  refine me_aload_n (p' := 1543) k219_1542 rfl rfl ?_
  refine me_aload_n (p' := 1544) k219_1543 rfl rfl ?_
  refine me_iload_n (p' := 1545) k219_1544 rfl rfl ?_
  refine me_iconst (p' := 1546) k219_1545 rfl (v := nI 1) (by decide) ?_
  refine me_iadd (p' := 1547) k219_1546 rfl (v := nI (i + 1)) (mI_add _ _) ?_
  refine me_xald (p' := 1548) k219_1547 rfl (j := i + 1) rfl (by omega) (by omega) ?_
  refine me_cv (p' := 1551) k219_1548 rfl rfl (by decide) rfl (by decide) (by decide) dp_217 rfl rfl (cl_le mx_217 rfl) (by decide) (cl_sum rfl) (hv _ (fun I2 hR2 => ?_))
  refine me_ic_eq (p' := 1554) k219_1551 rfl (fun c1 => ?_) (fun c1 => ?_)
  · skip
    exact hS I2 hR2
  · skip
    exact absurd rfl c1
