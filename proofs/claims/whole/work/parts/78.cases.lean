/-! THE LAW, case by case -/
def LG (d pc i n : Nat) (M : mM) : Prop := ∀ x5 x6 x7 : Option mAV, ∃ M1, AW iL_law (d + 10) pc [some (vR 15 0 0), some (vR 5 0 0), some (vR 6 0 0), some (vR 14 0 0), some (vI (nI i)), x5, x6, x7] [] M (.inl (some (vI 1))) M1 n
/-- the script at i: four ints are there -/
def Sc (i : Nat) (M : mM) : Prop := i < 100000 ∧ ∀ j, j < 4 → nI (i + j) < M (16, 0, 0) 0
theorem Sc.wd {i : Nat} {M M1 : mM} (h : Sc i M) (hw : Wd M M1) : Sc i M1 := ⟨h.1, fun j hj => by rw [hw.2]; exact h.2 j hj⟩
theorem Wd.tr {M M1 M2 : mM} (h : Wd M M1) (h2 : Wd M1 M2) : Wd M M2 := ⟨h2.1.trans h.1, h2.2.trans h.2⟩
theorem sc_0 {a : Nat} (h : a < 200000) : 0 ≤ nI a := nI_pos' (by omega)
theorem sc_c {a : Nat} (h : a < 200000) : (nI a).toNatClampNeg = a := nI_clamp (by omega)
theorem nI_3 (a : Nat) : nI a + 3 = nI (a + 3) := by rw [show (3 : Int32) = nI 3 from rfl, nI_add]
theorem lc_0 {d i n : Nat} {M : mM} (h : StW M) (hs : Sc i M) (hk : ∀ M2, StW M2 → Wd M M2 → LG d 1860 i n M2) : LG d 204 i (n + 1) M := by
  intro x5 x6 x7
  have hi := hs.1
  obtain ⟨k, b, n1, M1, M2, hn1, l1, l2, hth, hv, hS2, hw1, hw2⟩ := o_addLeg (d := d) h (M (15, 0, 0) (i + 1)) (M (15, 0, 0) (i + 2)) (M (15, 0, 0) (i + 3))
  have hs1 := hs.wd hw1
  have e15 := hw1.1
  have ec1 : (nI (i + 1)).toNatClampNeg = i + 1 := sc_c (by omega)
  have ec2 : (nI (i + 2)).toNatClampNeg = i + 2 := sc_c (by omega)
  have ec3 : (nI (i + 3)).toNatClampNeg = i + 3 := sc_c (by omega)
  obtain ⟨M3, hG⟩ := hk M2 hS2 hw2 (some (vI k)) (some (vI b)) x7
  refine ⟨M3, aw_mono (n := n1 + n) (by omega) ?_⟩
  refine aw_aload_n k226_204 rfl ?_
  refine aw_aload_n k226_205 rfl ?_
  refine aw_iload k226_206 rfl ?_
  refine aw_iconst (v := 1) k226_208 (by decide) ?_
  refine aw_iadd k226_209 ?_
  rw [nI_1 i]
  refine aw_sload k226_210 (sc_0 (by omega)) (hs.2 1 (by decide)) ?_
  try simp only [ec1, ec2, ec3, e15]
  refine aw_aload_n k226_211 rfl ?_
  refine aw_iload k226_212 rfl ?_
  refine aw_iconst (v := 2) k226_214 (by decide) ?_
  refine aw_iadd k226_215 ?_
  rw [nI_2 i]
  refine aw_sload k226_216 (sc_0 (by omega)) (hs.2 2 (by decide)) ?_
  try simp only [ec1, ec2, ec3, e15]
  refine aw_aload_n k226_217 rfl ?_
  refine aw_iload k226_218 rfl ?_
  refine aw_iconst (v := 3) k226_220 (by decide) ?_
  refine aw_iadd k226_221 ?_
  rw [nI_3 i]
  refine aw_sload k226_222 (sc_0 (by omega)) (hs.2 3 (by decide)) ?_
  try simp only [ec1, ec2, ec3, e15]
  refine aw_aload_n k226_223 rfl ?_
  refine aw_callSn5 k226_224 hC_L_law ok_L_addLeg ss_L_104 (ne_nil hH_L_addLeg) (by rw [hL_L_addLeg]; exact Nat.le_of_ble_eq_true rfl) (Nat.le_of_ble_eq_true rfl) l1 ?_
  refine aw_istore k226_227 (Nat.le_of_ble_eq_true rfl) rfl ?_
  refine aw_aload_n k226_229 rfl ?_
  refine aw_aload_n k226_230 rfl ?_
  refine aw_iload k226_231 rfl ?_
  refine aw_iconst (v := 1) k226_233 (by decide) ?_
  refine aw_iadd k226_234 ?_
  rw [nI_1 i]
  refine aw_sload k226_235 (sc_0 (by omega)) (hs1.2 1 (by decide)) ?_
  try simp only [ec1, ec2, ec3, e15]
  refine aw_aload_n k226_236 rfl ?_
  refine aw_iload k226_237 rfl ?_
  refine aw_iconst (v := 2) k226_239 (by decide) ?_
  refine aw_iadd k226_240 ?_
  rw [nI_2 i]
  refine aw_sload k226_241 (sc_0 (by omega)) (hs1.2 2 (by decide)) ?_
  try simp only [ec1, ec2, ec3, e15]
  refine aw_aload_n k226_242 rfl ?_
  refine aw_iload k226_243 rfl ?_
  refine aw_iconst (v := 3) k226_245 (by decide) ?_
  refine aw_iadd k226_246 ?_
  rw [nI_3 i]
  refine aw_sload k226_247 (sc_0 (by omega)) (hs1.2 3 (by decide)) ?_
  try simp only [ec1, ec2, ec3, e15]
  refine aw_callV3 k226_248 hC_L_law ok_M_addLeg sv_L_109 hH_M_addLeg ⟨rfl, rfl⟩ (by decide) hN_M_addLeg (by rw [hL_M_addLeg]; exact Nat.le_of_ble_eq_true rfl) (Nat.le_of_ble_eq_true rfl) l2 ?_
  refine aw_istore k226_251 (Nat.le_of_ble_eq_true rfl) rfl ?_
  refine aw_aload_n k226_253 rfl ?_
  refine aw_callV0 k226_254 hC_L_law ok_M_thrown sv_L_110 hH_M_thrown ⟨rfl, rfl⟩ (by decide) hN_M_thrown (by rw [hL_M_thrown]; exact Nat.le_of_ble_eq_true rfl) (Nat.le_of_ble_eq_true rfl) s_M_thrown ?_
  refine aw_iload k226_257 rfl ?_
  refine aw_icmp_eq 264 k226_259 (by decide) (fun c_259 => ?_) (fun c_259 => ?_)
  · refine aw_iload k226_264 rfl ?_
    refine aw_if_ne 281 k226_266 (by decide) (fun c_266 => ?_) (fun c_266 => ?_)
    · refine aw_goto (t := 1860) k226_281 (by decide) ?_
      exact hG
    · refine aw_aload_n k226_269 rfl ?_
      refine aw_iconst (v := 0) k226_270 (by decide) ?_
      refine aw_laload k226_271 ?_
      refine aw_iload k226_272 rfl ?_
      refine aw_i2l k226_274 ?_
      refine aw_lcmp_eq 281 k226_275 k226_276 (by decide) (fun c_275 => ?_) (fun c_275 => ?_)
      · refine aw_goto (t := 1860) k226_281 (by decide) ?_
        exact hG
      · exact absurd (hv c_266) c_275
  · exact absurd hth c_259
theorem lc_1 {d i n : Nat} {M : mM} (h : StW M) (hs : Sc i M) (hk : ∀ M2, StW M2 → Wd M M2 → LG d 1860 i n M2) : LG d 284 i (n + 1) M := by
  intro x5 x6 x7
  have hi := hs.1
  obtain ⟨k, b, n1, M1, M2, hn1, l1, l2, hth, hv, hS2, hw1, hw2⟩ := o_takeBack (d := d) h 
  have hs1 := hs.wd hw1
  have e15 := hw1.1
  obtain ⟨M3, hG⟩ := hk M2 hS2 hw2 (some (vI k)) (some (vI b)) x7
  refine ⟨M3, aw_mono (n := n1 + n) (by omega) ?_⟩
  refine aw_aload_n k226_284 rfl ?_
  refine aw_aload_n k226_285 rfl ?_
  refine aw_callSn2 k226_286 hC_L_law ok_L_takeBack ss_L_113 (ne_nil hH_L_takeBack) (by rw [hL_L_takeBack]; exact Nat.le_of_ble_eq_true rfl) (Nat.le_of_ble_eq_true rfl) l1 ?_
  refine aw_istore k226_289 (Nat.le_of_ble_eq_true rfl) rfl ?_
  refine aw_aload_n k226_291 rfl ?_
  refine aw_callV0 k226_292 hC_L_law ok_M_takeBack sv_L_116 hH_M_takeBack ⟨rfl, rfl⟩ (by decide) hN_M_takeBack (by rw [hL_M_takeBack]; exact Nat.le_of_ble_eq_true rfl) (Nat.le_of_ble_eq_true rfl) l2 ?_
  refine aw_istore k226_295 (Nat.le_of_ble_eq_true rfl) rfl ?_
  refine aw_aload_n k226_297 rfl ?_
  refine aw_callV0 k226_298 hC_L_law ok_M_thrown sv_L_110 hH_M_thrown ⟨rfl, rfl⟩ (by decide) hN_M_thrown (by rw [hL_M_thrown]; exact Nat.le_of_ble_eq_true rfl) (Nat.le_of_ble_eq_true rfl) s_M_thrown ?_
  refine aw_iload k226_301 rfl ?_
  refine aw_icmp_eq 308 k226_303 (by decide) (fun c_303 => ?_) (fun c_303 => ?_)
  · refine aw_iload k226_308 rfl ?_
    refine aw_if_ne 325 k226_310 (by decide) (fun c_310 => ?_) (fun c_310 => ?_)
    · refine aw_goto (t := 1860) k226_325 (by decide) ?_
      exact hG
    · refine aw_aload_n k226_313 rfl ?_
      refine aw_iconst (v := 0) k226_314 (by decide) ?_
      refine aw_laload k226_315 ?_
      refine aw_iload k226_316 rfl ?_
      refine aw_i2l k226_318 ?_
      refine aw_lcmp_eq 325 k226_319 k226_320 (by decide) (fun c_319 => ?_) (fun c_319 => ?_)
      · refine aw_goto (t := 1860) k226_325 (by decide) ?_
        exact hG
      · exact absurd (hv c_310) c_319
  · exact absurd hth c_303
theorem lc_2 {d i n : Nat} {M : mM} (h : StW M) (hs : Sc i M) (hk : ∀ M2, StW M2 → Wd M M2 → LG d 1860 i n M2) : LG d 328 i (n + 1) M := by
  intro x5 x6 x7
  have hi := hs.1
  obtain ⟨k, b, n1, M1, M2, hn1, l1, l2, hth, hv, hS2, hw1, hw2⟩ := o_setOrigin (d := d) h (M (15, 0, 0) (i + 1)) (M (15, 0, 0) (i + 2))
  have hs1 := hs.wd hw1
  have e15 := hw1.1
  have ec1 : (nI (i + 1)).toNatClampNeg = i + 1 := sc_c (by omega)
  have ec2 : (nI (i + 2)).toNatClampNeg = i + 2 := sc_c (by omega)
  obtain ⟨M3, hG⟩ := hk M2 hS2 hw2 (some (vI k)) (some (vI b)) x7
  refine ⟨M3, aw_mono (n := n1 + n) (by omega) ?_⟩
  refine aw_aload_n k226_328 rfl ?_
  refine aw_aload_n k226_329 rfl ?_
  refine aw_iload k226_330 rfl ?_
  refine aw_iconst (v := 1) k226_332 (by decide) ?_
  refine aw_iadd k226_333 ?_
  rw [nI_1 i]
  refine aw_sload k226_334 (sc_0 (by omega)) (hs.2 1 (by decide)) ?_
  try simp only [ec1, ec2, e15]
  refine aw_aload_n k226_335 rfl ?_
  refine aw_iload k226_336 rfl ?_
  refine aw_iconst (v := 2) k226_338 (by decide) ?_
  refine aw_iadd k226_339 ?_
  rw [nI_2 i]
  refine aw_sload k226_340 (sc_0 (by omega)) (hs.2 2 (by decide)) ?_
  try simp only [ec1, ec2, e15]
  refine aw_aload_n k226_341 rfl ?_
  refine aw_callSn4 k226_342 hC_L_law ok_L_setOrigin ss_L_117 (ne_nil hH_L_setOrigin) (by rw [hL_L_setOrigin]; exact Nat.le_of_ble_eq_true rfl) (Nat.le_of_ble_eq_true rfl) l1 ?_
  refine aw_istore k226_345 (Nat.le_of_ble_eq_true rfl) rfl ?_
  refine aw_aload_n k226_347 rfl ?_
  refine aw_aload_n k226_348 rfl ?_
  refine aw_iload k226_349 rfl ?_
  refine aw_iconst (v := 1) k226_351 (by decide) ?_
  refine aw_iadd k226_352 ?_
  rw [nI_1 i]
  refine aw_sload k226_353 (sc_0 (by omega)) (hs1.2 1 (by decide)) ?_
  try simp only [ec1, ec2, e15]
  refine aw_aload_n k226_354 rfl ?_
  refine aw_iload k226_355 rfl ?_
  refine aw_iconst (v := 2) k226_357 (by decide) ?_
  refine aw_iadd k226_358 ?_
  rw [nI_2 i]
  refine aw_sload k226_359 (sc_0 (by omega)) (hs1.2 2 (by decide)) ?_
  try simp only [ec1, ec2, e15]
  refine aw_callV2 k226_360 hC_L_law ok_M_setOrigin sv_L_120 hH_M_setOrigin ⟨rfl, rfl⟩ (by decide) hN_M_setOrigin (by rw [hL_M_setOrigin]; exact Nat.le_of_ble_eq_true rfl) (Nat.le_of_ble_eq_true rfl) l2 ?_
  refine aw_istore k226_363 (Nat.le_of_ble_eq_true rfl) rfl ?_
  refine aw_aload_n k226_365 rfl ?_
  refine aw_callV0 k226_366 hC_L_law ok_M_thrown sv_L_110 hH_M_thrown ⟨rfl, rfl⟩ (by decide) hN_M_thrown (by rw [hL_M_thrown]; exact Nat.le_of_ble_eq_true rfl) (Nat.le_of_ble_eq_true rfl) s_M_thrown ?_
  refine aw_iload k226_369 rfl ?_
  refine aw_icmp_eq 376 k226_371 (by decide) (fun c_371 => ?_) (fun c_371 => ?_)
  · refine aw_iload k226_376 rfl ?_
    refine aw_if_ne 393 k226_378 (by decide) (fun c_378 => ?_) (fun c_378 => ?_)
    · refine aw_goto (t := 1860) k226_393 (by decide) ?_
      exact hG
    · refine aw_aload_n k226_381 rfl ?_
      refine aw_iconst (v := 0) k226_382 (by decide) ?_
      refine aw_laload k226_383 ?_
      refine aw_iload k226_384 rfl ?_
      refine aw_i2l k226_386 ?_
      refine aw_lcmp_eq 393 k226_387 k226_388 (by decide) (fun c_387 => ?_) (fun c_387 => ?_)
      · refine aw_goto (t := 1860) k226_393 (by decide) ?_
        exact hG
      · exact absurd (hv c_378) c_387
  · exact absurd hth c_371
theorem lc_3 {d i n : Nat} {M : mM} (h : StW M) (hs : Sc i M) (hk : ∀ M2, StW M2 → Wd M M2 → LG d 1860 i n M2) : LG d 396 i (n + 1) M := by
  intro x5 x6 x7
  have hi := hs.1
  obtain ⟨k, b, n1, M1, M2, hn1, l1, l2, hth, hv, hS2, hw1, hw2⟩ := o_keep (d := d) h 
  have hs1 := hs.wd hw1
  have e15 := hw1.1
  obtain ⟨M3, hG⟩ := hk M2 hS2 hw2 (some (vI k)) (some (vI b)) x7
  refine ⟨M3, aw_mono (n := n1 + n) (by omega) ?_⟩
  refine aw_aload_n k226_396 rfl ?_
  refine aw_aload_n k226_397 rfl ?_
  refine aw_callSn2 k226_398 hC_L_law ok_L_keep ss_L_121 (ne_nil hH_L_keep) (by rw [hL_L_keep]; exact Nat.le_of_ble_eq_true rfl) (Nat.le_of_ble_eq_true rfl) l1 ?_
  refine aw_istore k226_401 (Nat.le_of_ble_eq_true rfl) rfl ?_
  refine aw_aload_n k226_403 rfl ?_
  refine aw_callV0 k226_404 hC_L_law ok_M_keep sv_L_123 hH_M_keep ⟨rfl, rfl⟩ (by decide) hN_M_keep (by rw [hL_M_keep]; exact Nat.le_of_ble_eq_true rfl) (Nat.le_of_ble_eq_true rfl) l2 ?_
  refine aw_istore k226_407 (Nat.le_of_ble_eq_true rfl) rfl ?_
  refine aw_aload_n k226_409 rfl ?_
  refine aw_callV0 k226_410 hC_L_law ok_M_thrown sv_L_110 hH_M_thrown ⟨rfl, rfl⟩ (by decide) hN_M_thrown (by rw [hL_M_thrown]; exact Nat.le_of_ble_eq_true rfl) (Nat.le_of_ble_eq_true rfl) s_M_thrown ?_
  refine aw_iload k226_413 rfl ?_
  refine aw_icmp_eq 420 k226_415 (by decide) (fun c_415 => ?_) (fun c_415 => ?_)
  · refine aw_iload k226_420 rfl ?_
    refine aw_if_ne 437 k226_422 (by decide) (fun c_422 => ?_) (fun c_422 => ?_)
    · refine aw_goto (t := 1860) k226_437 (by decide) ?_
      exact hG
    · refine aw_aload_n k226_425 rfl ?_
      refine aw_iconst (v := 0) k226_426 (by decide) ?_
      refine aw_laload k226_427 ?_
      refine aw_iload k226_428 rfl ?_
      refine aw_i2l k226_430 ?_
      refine aw_lcmp_eq 437 k226_431 k226_432 (by decide) (fun c_431 => ?_) (fun c_431 => ?_)
      · refine aw_goto (t := 1860) k226_437 (by decide) ?_
        exact hG
      · exact absurd (hv c_422) c_431
  · exact absurd hth c_415
theorem lc_4 {d i n : Nat} {M : mM} (h : StW M) (hs : Sc i M) (hk : ∀ M2, StW M2 → Wd M M2 → LG d 1860 i n M2) : LG d 440 i (n + 1) M := by
  intro x5 x6 x7
  have hi := hs.1
  obtain ⟨k, b, n1, M1, M2, hn1, l1, l2, hth, hv, hS2, hw1, hw2⟩ := o_giveUp (d := d) h (M (15, 0, 0) (i + 1))
  have hs1 := hs.wd hw1
  have e15 := hw1.1
  have ec1 : (nI (i + 1)).toNatClampNeg = i + 1 := sc_c (by omega)
  obtain ⟨M3, hG⟩ := hk M2 hS2 hw2 (some (vI k)) (some (vI b)) x7
  refine ⟨M3, aw_mono (n := n1 + n) (by omega) ?_⟩
  refine aw_aload_n k226_440 rfl ?_
  refine aw_aload_n k226_441 rfl ?_
  refine aw_iload k226_442 rfl ?_
  refine aw_iconst (v := 1) k226_444 (by decide) ?_
  refine aw_iadd k226_445 ?_
  rw [nI_1 i]
  refine aw_sload k226_446 (sc_0 (by omega)) (hs.2 1 (by decide)) ?_
  try simp only [ec1, e15]
  refine aw_aload_n k226_447 rfl ?_
  refine aw_callSn3 k226_448 hC_L_law ok_L_giveUp ss_L_124 (ne_nil hH_L_giveUp) (by rw [hL_L_giveUp]; exact Nat.le_of_ble_eq_true rfl) (Nat.le_of_ble_eq_true rfl) l1 ?_
  refine aw_istore k226_451 (Nat.le_of_ble_eq_true rfl) rfl ?_
  refine aw_aload_n k226_453 rfl ?_
  refine aw_aload_n k226_454 rfl ?_
  refine aw_iload k226_455 rfl ?_
  refine aw_iconst (v := 1) k226_457 (by decide) ?_
  refine aw_iadd k226_458 ?_
  rw [nI_1 i]
  refine aw_sload k226_459 (sc_0 (by omega)) (hs1.2 1 (by decide)) ?_
  try simp only [ec1, e15]
  refine aw_callV1 k226_460 hC_L_law ok_M_giveUp sv_L_127 hH_M_giveUp ⟨rfl, rfl⟩ (by decide) hN_M_giveUp (by rw [hL_M_giveUp]; exact Nat.le_of_ble_eq_true rfl) (Nat.le_of_ble_eq_true rfl) l2 ?_
  refine aw_istore k226_463 (Nat.le_of_ble_eq_true rfl) rfl ?_
  refine aw_aload_n k226_465 rfl ?_
  refine aw_callV0 k226_466 hC_L_law ok_M_thrown sv_L_110 hH_M_thrown ⟨rfl, rfl⟩ (by decide) hN_M_thrown (by rw [hL_M_thrown]; exact Nat.le_of_ble_eq_true rfl) (Nat.le_of_ble_eq_true rfl) s_M_thrown ?_
  refine aw_iload k226_469 rfl ?_
  refine aw_icmp_eq 476 k226_471 (by decide) (fun c_471 => ?_) (fun c_471 => ?_)
  · refine aw_iload k226_476 rfl ?_
    refine aw_if_ne 493 k226_478 (by decide) (fun c_478 => ?_) (fun c_478 => ?_)
    · refine aw_goto (t := 1860) k226_493 (by decide) ?_
      exact hG
    · refine aw_aload_n k226_481 rfl ?_
      refine aw_iconst (v := 0) k226_482 (by decide) ?_
      refine aw_laload k226_483 ?_
      refine aw_iload k226_484 rfl ?_
      refine aw_i2l k226_486 ?_
      refine aw_lcmp_eq 493 k226_487 k226_488 (by decide) (fun c_487 => ?_) (fun c_487 => ?_)
      · refine aw_goto (t := 1860) k226_493 (by decide) ?_
        exact hG
      · exact absurd (hv c_478) c_487
  · exact absurd hth c_471
theorem lc_5 {d i n : Nat} {M : mM} (h : StW M) (hs : Sc i M) (hk : ∀ M2, StW M2 → Wd M M2 → LG d 1860 i n M2) : LG d 496 i (n + 1) M := by
  intro x5 x6 x7
  have hi := hs.1
  obtain ⟨k, b, n1, M1, M2, hn1, l1, l2, hth, hv, hS2, hw1, hw2⟩ := o_type (d := d) h (M (15, 0, 0) (i + 1))
  have hs1 := hs.wd hw1
  have e15 := hw1.1
  have ec1 : (nI (i + 1)).toNatClampNeg = i + 1 := sc_c (by omega)
  obtain ⟨M3, hG⟩ := hk M2 hS2 hw2 (some (vI k)) (some (vI b)) x7
  refine ⟨M3, aw_mono (n := n1 + n) (by omega) ?_⟩
  refine aw_aload_n k226_496 rfl ?_
  refine aw_aload_n k226_497 rfl ?_
  refine aw_iload k226_498 rfl ?_
  refine aw_iconst (v := 1) k226_500 (by decide) ?_
  refine aw_iadd k226_501 ?_
  rw [nI_1 i]
  refine aw_sload k226_502 (sc_0 (by omega)) (hs.2 1 (by decide)) ?_
  try simp only [ec1, e15]
  refine aw_i2c k226_503 ?_
  refine aw_aload_n k226_504 rfl ?_
  refine aw_callSn3 k226_505 hC_L_law ok_L_type ss_L_128 (ne_nil hH_L_type) (by rw [hL_L_type]; exact Nat.le_of_ble_eq_true rfl) (Nat.le_of_ble_eq_true rfl) l1 ?_
  refine aw_istore k226_508 (Nat.le_of_ble_eq_true rfl) rfl ?_
  refine aw_aload_n k226_510 rfl ?_
  refine aw_aload_n k226_511 rfl ?_
  refine aw_iload k226_512 rfl ?_
  refine aw_iconst (v := 1) k226_514 (by decide) ?_
  refine aw_iadd k226_515 ?_
  rw [nI_1 i]
  refine aw_sload k226_516 (sc_0 (by omega)) (hs1.2 1 (by decide)) ?_
  try simp only [ec1, e15]
  refine aw_i2c k226_517 ?_
  refine aw_callV1 k226_518 hC_L_law ok_M_type sv_L_131 hH_M_type ⟨rfl, rfl⟩ (by decide) hN_M_type (by rw [hL_M_type]; exact Nat.le_of_ble_eq_true rfl) (Nat.le_of_ble_eq_true rfl) l2 ?_
  refine aw_istore k226_521 (Nat.le_of_ble_eq_true rfl) rfl ?_
  refine aw_aload_n k226_523 rfl ?_
  refine aw_callV0 k226_524 hC_L_law ok_M_thrown sv_L_110 hH_M_thrown ⟨rfl, rfl⟩ (by decide) hN_M_thrown (by rw [hL_M_thrown]; exact Nat.le_of_ble_eq_true rfl) (Nat.le_of_ble_eq_true rfl) s_M_thrown ?_
  refine aw_iload k226_527 rfl ?_
  refine aw_icmp_eq 534 k226_529 (by decide) (fun c_529 => ?_) (fun c_529 => ?_)
  · refine aw_iload k226_534 rfl ?_
    refine aw_if_ne 551 k226_536 (by decide) (fun c_536 => ?_) (fun c_536 => ?_)
    · refine aw_goto (t := 1860) k226_551 (by decide) ?_
      exact hG
    · refine aw_aload_n k226_539 rfl ?_
      refine aw_iconst (v := 0) k226_540 (by decide) ?_
      refine aw_laload k226_541 ?_
      refine aw_iload k226_542 rfl ?_
      refine aw_i2l k226_544 ?_
      refine aw_lcmp_eq 551 k226_545 k226_546 (by decide) (fun c_545 => ?_) (fun c_545 => ?_)
      · refine aw_goto (t := 1860) k226_551 (by decide) ?_
        exact hG
      · exact absurd (hv c_536) c_545
  · exact absurd hth c_529
theorem lc_6 {d i n : Nat} {M : mM} (h : StW M) (hs : Sc i M) (hk : ∀ M2, StW M2 → Wd M M2 → LG d 1860 i n M2) : LG d 554 i (n + 1) M := by
  intro x5 x6 x7
  obtain ⟨v, M1, M2, l1, l2, hS2, hw2⟩ := o_clearText (d := d) h
  obtain ⟨M3, hG⟩ := hk M2 hS2 hw2 x5 x6 x7
  refine ⟨M3, aw_mono (n := n) (by omega) ?_⟩
  refine aw_aload_n k226_554 rfl ?_
  refine aw_callV0 k226_555 hC_L_law ok_A_clearText sv_L_132 hH_A_clearText ⟨rfl, rfl⟩ (by decide) hN_A_clearText (by rw [hL_A_clearText]; exact Nat.le_of_ble_eq_true rfl) (Nat.le_of_ble_eq_true rfl) l1 ?_
  refine aw_aload_n k226_558 rfl ?_
  refine aw_callV0 k226_559 hC_L_law ok_M_clearText sv_L_135 hH_M_clearText ⟨rfl, rfl⟩ (by decide) hN_M_clearText (by rw [hL_M_clearText]; exact Nat.le_of_ble_eq_true rfl) (Nat.le_of_ble_eq_true rfl) l2 ?_
  refine aw_icmp_eq 1860 k226_562 (by decide) (fun c_562 => ?_) (fun c_562 => ?_)
  · exact hG
  · exact absurd rfl c_562
theorem lc_7 {d i n : Nat} {M : mM} (h : StW M) (hs : Sc i M) (hk : ∀ M2, StW M2 → Wd M M2 → LG d 1860 i n M2) : LG d 567 i (n + 1) M := by
  intro x5 x6 x7
  obtain ⟨v, M1, M2, l1, l2, hS2, hw2⟩ := o_textError (d := d) h
  obtain ⟨M3, hG⟩ := hk M2 hS2 hw2 x5 x6 x7
  refine ⟨M3, aw_mono (n := n) (by omega) ?_⟩
  refine aw_aload_n k226_567 rfl ?_
  refine aw_callV0 k226_568 hC_L_law ok_A_textError sv_L_136 hH_A_textError ⟨rfl, rfl⟩ (by decide) hN_A_textError (by rw [hL_A_textError]; exact Nat.le_of_ble_eq_true rfl) (Nat.le_of_ble_eq_true rfl) l1 ?_
  refine aw_aload_n k226_571 rfl ?_
  refine aw_callV0 k226_572 hC_L_law ok_M_textError sv_L_139 hH_M_textError ⟨rfl, rfl⟩ (by decide) hN_M_textError (by rw [hL_M_textError]; exact Nat.le_of_ble_eq_true rfl) (Nat.le_of_ble_eq_true rfl) l2 ?_
  refine aw_icmp_eq 1860 k226_575 (by decide) (fun c_575 => ?_) (fun c_575 => ?_)
  · exact hG
  · exact absurd rfl c_575
theorem lc_8 {d i n : Nat} {M : mM} (h : StW M) (hs : Sc i M) (hk : ∀ M2, StW M2 → Wd M M2 → LG d 1860 i n M2) : LG d 580 i (n + 1) M := by
  intro x5 x6 x7
  have hi := hs.1
  obtain ⟨k, b, n1, M1, M2, hn1, l1, l2, hth, hv, hS2, hw1, hw2⟩ := o_impossibleOrder (d := d) h 
  have hs1 := hs.wd hw1
  have e15 := hw1.1
  obtain ⟨M3, hG⟩ := hk M2 hS2 hw2 (some (vI k)) (some (vI b)) x7
  refine ⟨M3, aw_mono (n := n1 + n) (by omega) ?_⟩
  refine aw_aload_n k226_580 rfl ?_
  refine aw_aload_n k226_581 rfl ?_
  refine aw_callSn2 k226_582 hC_L_law ok_L_impossibleOrder ss_L_140 (ne_nil hH_L_impossibleOrder) (by rw [hL_L_impossibleOrder]; exact Nat.le_of_ble_eq_true rfl) (Nat.le_of_ble_eq_true rfl) l1 ?_
  refine aw_istore k226_585 (Nat.le_of_ble_eq_true rfl) rfl ?_
  refine aw_aload_n k226_587 rfl ?_
  refine aw_callV0 k226_588 hC_L_law ok_M_impossibleOrder sv_L_142 hH_M_impossibleOrder ⟨rfl, rfl⟩ (by decide) hN_M_impossibleOrder (by rw [hL_M_impossibleOrder]; exact Nat.le_of_ble_eq_true rfl) (Nat.le_of_ble_eq_true rfl) l2 ?_
  refine aw_istore k226_591 (Nat.le_of_ble_eq_true rfl) rfl ?_
  refine aw_aload_n k226_593 rfl ?_
  refine aw_callV0 k226_594 hC_L_law ok_M_thrown sv_L_110 hH_M_thrown ⟨rfl, rfl⟩ (by decide) hN_M_thrown (by rw [hL_M_thrown]; exact Nat.le_of_ble_eq_true rfl) (Nat.le_of_ble_eq_true rfl) s_M_thrown ?_
  refine aw_iload k226_597 rfl ?_
  refine aw_icmp_eq 604 k226_599 (by decide) (fun c_599 => ?_) (fun c_599 => ?_)
  · refine aw_iload k226_604 rfl ?_
    refine aw_if_ne 621 k226_606 (by decide) (fun c_606 => ?_) (fun c_606 => ?_)
    · refine aw_goto (t := 1860) k226_621 (by decide) ?_
      exact hG
    · refine aw_aload_n k226_609 rfl ?_
      refine aw_iconst (v := 0) k226_610 (by decide) ?_
      refine aw_laload k226_611 ?_
      refine aw_iload k226_612 rfl ?_
      refine aw_i2l k226_614 ?_
      refine aw_lcmp_eq 621 k226_615 k226_616 (by decide) (fun c_615 => ?_) (fun c_615 => ?_)
      · refine aw_goto (t := 1860) k226_621 (by decide) ?_
        exact hG
      · exact absurd (hv c_606) c_615
  · exact absurd hth c_599
theorem lc_9 {d i n : Nat} {M : mM} (h : StW M) (hs : Sc i M) (hk : ∀ M2, StW M2 → Wd M M2 → LG d 1860 i n M2) : LG d 624 i (n + 1) M := by
  intro x5 x6 x7
  have hi := hs.1
  obtain ⟨k, b, n1, M1, M2, hn1, l1, l2, hth, hv, hS2, hw1, hw2⟩ := o_carryOut (d := d) h 
  have hs1 := hs.wd hw1
  have e15 := hw1.1
  obtain ⟨M3, hG⟩ := hk M2 hS2 hw2 (some (vI k)) (some (vI b)) x7
  refine ⟨M3, aw_mono (n := n1 + n) (by omega) ?_⟩
  refine aw_aload_n k226_624 rfl ?_
  refine aw_aload_n k226_625 rfl ?_
  refine aw_callSn2 k226_626 hC_L_law ok_L_carryOut ss_L_143 (ne_nil hH_L_carryOut) (by rw [hL_L_carryOut]; exact Nat.le_of_ble_eq_true rfl) (Nat.le_of_ble_eq_true rfl) l1 ?_
  refine aw_istore k226_629 (Nat.le_of_ble_eq_true rfl) rfl ?_
  refine aw_aload_n k226_631 rfl ?_
  refine aw_callV0 k226_632 hC_L_law ok_M_carryOut sv_L_145 hH_M_carryOut ⟨rfl, rfl⟩ (by decide) hN_M_carryOut (by rw [hL_M_carryOut]; exact Nat.le_of_ble_eq_true rfl) (Nat.le_of_ble_eq_true rfl) l2 ?_
  refine aw_istore k226_635 (Nat.le_of_ble_eq_true rfl) rfl ?_
  refine aw_aload_n k226_637 rfl ?_
  refine aw_callV0 k226_638 hC_L_law ok_M_thrown sv_L_110 hH_M_thrown ⟨rfl, rfl⟩ (by decide) hN_M_thrown (by rw [hL_M_thrown]; exact Nat.le_of_ble_eq_true rfl) (Nat.le_of_ble_eq_true rfl) s_M_thrown ?_
  refine aw_iload k226_641 rfl ?_
  refine aw_icmp_eq 648 k226_643 (by decide) (fun c_643 => ?_) (fun c_643 => ?_)
  · refine aw_iload k226_648 rfl ?_
    refine aw_if_ne 665 k226_650 (by decide) (fun c_650 => ?_) (fun c_650 => ?_)
    · refine aw_goto (t := 1860) k226_665 (by decide) ?_
      exact hG
    · refine aw_aload_n k226_653 rfl ?_
      refine aw_iconst (v := 0) k226_654 (by decide) ?_
      refine aw_laload k226_655 ?_
      refine aw_iload k226_656 rfl ?_
      refine aw_i2l k226_658 ?_
      refine aw_lcmp_eq 665 k226_659 k226_660 (by decide) (fun c_659 => ?_) (fun c_659 => ?_)
      · refine aw_goto (t := 1860) k226_665 (by decide) ?_
        exact hG
      · exact absurd (hv c_650) c_659
  · exact absurd hth c_643
theorem lc_10 {d i n : Nat} {M : mM} (h : StW M) (hs : Sc i M) (hk : ∀ M2, StW M2 → Wd M M2 → LG d 1860 i n M2) : LG d 668 i (n + 1) M := by
  intro x5 x6 x7
  have hi := hs.1
  obtain ⟨k, b, n1, M1, M2, hn1, l1, l2, hth, hv, hS2, hw1, hw2⟩ := o_undo (d := d) h 
  have hs1 := hs.wd hw1
  have e15 := hw1.1
  obtain ⟨M3, hG⟩ := hk M2 hS2 hw2 (some (vI k)) (some (vI b)) x7
  refine ⟨M3, aw_mono (n := n1 + n) (by omega) ?_⟩
  refine aw_aload_n k226_668 rfl ?_
  refine aw_aload_n k226_669 rfl ?_
  refine aw_callSn2 k226_670 hC_L_law ok_L_undo ss_L_146 (ne_nil hH_L_undo) (by rw [hL_L_undo]; exact Nat.le_of_ble_eq_true rfl) (Nat.le_of_ble_eq_true rfl) l1 ?_
  refine aw_istore k226_673 (Nat.le_of_ble_eq_true rfl) rfl ?_
  refine aw_aload_n k226_675 rfl ?_
  refine aw_callV0 k226_676 hC_L_law ok_M_undo sv_L_148 hH_M_undo ⟨rfl, rfl⟩ (by decide) hN_M_undo (by rw [hL_M_undo]; exact Nat.le_of_ble_eq_true rfl) (Nat.le_of_ble_eq_true rfl) l2 ?_
  refine aw_istore k226_679 (Nat.le_of_ble_eq_true rfl) rfl ?_
  refine aw_aload_n k226_681 rfl ?_
  refine aw_callV0 k226_682 hC_L_law ok_M_thrown sv_L_110 hH_M_thrown ⟨rfl, rfl⟩ (by decide) hN_M_thrown (by rw [hL_M_thrown]; exact Nat.le_of_ble_eq_true rfl) (Nat.le_of_ble_eq_true rfl) s_M_thrown ?_
  refine aw_iload k226_685 rfl ?_
  refine aw_icmp_eq 692 k226_687 (by decide) (fun c_687 => ?_) (fun c_687 => ?_)
  · refine aw_iload k226_692 rfl ?_
    refine aw_if_ne 709 k226_694 (by decide) (fun c_694 => ?_) (fun c_694 => ?_)
    · refine aw_goto (t := 1860) k226_709 (by decide) ?_
      exact hG
    · refine aw_aload_n k226_697 rfl ?_
      refine aw_iconst (v := 0) k226_698 (by decide) ?_
      refine aw_laload k226_699 ?_
      refine aw_iload k226_700 rfl ?_
      refine aw_i2l k226_702 ?_
      refine aw_lcmp_eq 709 k226_703 k226_704 (by decide) (fun c_703 => ?_) (fun c_703 => ?_)
      · refine aw_goto (t := 1860) k226_709 (by decide) ?_
        exact hG
      · exact absurd (hv c_694) c_703
  · exact absurd hth c_687
theorem lc_11 {d i n : Nat} {M : mM} (h : StW M) (hs : Sc i M) (hk : ∀ M2, StW M2 → Wd M M2 → LG d 1860 i n M2) : LG d 712 i (n + 1) M := by
  intro x5 x6 x7
  obtain ⟨v, M1, M2, l1, l2, hS2, hw2⟩ := o_takeSnapshot (d := d) h
  obtain ⟨M3, hG⟩ := hk M2 hS2 hw2 x5 x6 x7
  refine ⟨M3, aw_mono (n := n) (by omega) ?_⟩
  refine aw_aload_n k226_712 rfl ?_
  refine aw_callV0 k226_713 hC_L_law ok_A_takeSnapshot sv_L_149 hH_A_takeSnapshot ⟨rfl, rfl⟩ (by decide) hN_A_takeSnapshot (by rw [hL_A_takeSnapshot]; exact Nat.le_of_ble_eq_true rfl) (Nat.le_of_ble_eq_true rfl) l1 ?_
  refine aw_aload_n k226_716 rfl ?_
  refine aw_callV0 k226_717 hC_L_law ok_M_takeSnapshot sv_L_152 hH_M_takeSnapshot ⟨rfl, rfl⟩ (by decide) hN_M_takeSnapshot (by rw [hL_M_takeSnapshot]; exact Nat.le_of_ble_eq_true rfl) (Nat.le_of_ble_eq_true rfl) l2 ?_
  refine aw_icmp_eq 1860 k226_720 (by decide) (fun c_720 => ?_) (fun c_720 => ?_)
  · exact hG
  · exact absurd rfl c_720
theorem lc_12 {d i n : Nat} {M : mM} (h : StW M) (hs : Sc i M) (hk : ∀ M2, StW M2 → Wd M M2 → LG d 1860 i n M2) : LG d 725 i (n + 1) M := by
  intro x5 x6 x7
  have hi := hs.1
  obtain ⟨k, b, n1, M1, M2, hn1, l1, l2, hth, hv, hS2, hw1, hw2⟩ := o_restoreSnapshot (d := d) h 
  have hs1 := hs.wd hw1
  have e15 := hw1.1
  obtain ⟨M3, hG⟩ := hk M2 hS2 hw2 (some (vI k)) (some (vI b)) x7
  refine ⟨M3, aw_mono (n := n1 + n) (by omega) ?_⟩
  refine aw_aload_n k226_725 rfl ?_
  refine aw_aload_n k226_726 rfl ?_
  refine aw_callSn2 k226_727 hC_L_law ok_L_restoreSnapshot ss_L_153 (ne_nil hH_L_restoreSnapshot) (by rw [hL_L_restoreSnapshot]; exact Nat.le_of_ble_eq_true rfl) (Nat.le_of_ble_eq_true rfl) l1 ?_
  refine aw_istore k226_730 (Nat.le_of_ble_eq_true rfl) rfl ?_
  refine aw_aload_n k226_732 rfl ?_
  refine aw_callV0 k226_733 hC_L_law ok_M_restoreSnapshot sv_L_155 hH_M_restoreSnapshot ⟨rfl, rfl⟩ (by decide) hN_M_restoreSnapshot (by rw [hL_M_restoreSnapshot]; exact Nat.le_of_ble_eq_true rfl) (Nat.le_of_ble_eq_true rfl) l2 ?_
  refine aw_istore k226_736 (Nat.le_of_ble_eq_true rfl) rfl ?_
  refine aw_aload_n k226_738 rfl ?_
  refine aw_callV0 k226_739 hC_L_law ok_M_thrown sv_L_110 hH_M_thrown ⟨rfl, rfl⟩ (by decide) hN_M_thrown (by rw [hL_M_thrown]; exact Nat.le_of_ble_eq_true rfl) (Nat.le_of_ble_eq_true rfl) s_M_thrown ?_
  refine aw_iload k226_742 rfl ?_
  refine aw_icmp_eq 749 k226_744 (by decide) (fun c_744 => ?_) (fun c_744 => ?_)
  · refine aw_iload k226_749 rfl ?_
    refine aw_if_ne 766 k226_751 (by decide) (fun c_751 => ?_) (fun c_751 => ?_)
    · refine aw_goto (t := 1860) k226_766 (by decide) ?_
      exact hG
    · refine aw_aload_n k226_754 rfl ?_
      refine aw_iconst (v := 0) k226_755 (by decide) ?_
      refine aw_laload k226_756 ?_
      refine aw_iload k226_757 rfl ?_
      refine aw_i2l k226_759 ?_
      refine aw_lcmp_eq 766 k226_760 k226_761 (by decide) (fun c_760 => ?_) (fun c_760 => ?_)
      · refine aw_goto (t := 1860) k226_766 (by decide) ?_
        exact hG
      · exact absurd (hv c_751) c_760
  · exact absurd hth c_744
theorem lc_13 {d i n : Nat} {M : mM} (h : StW M) (hs : Sc i M) (hk : ∀ M2, StW M2 → Wd M M2 → LG d 1860 i n M2) : LG d 769 i (n + 1) M := by
  intro x5 x6 x7
  obtain ⟨v, M1, M2, l1, l2, hS2, hw2⟩ := o_legs (d := d) h
  obtain ⟨M3, hG⟩ := hk M2 hS2 hw2 x5 x6 x7
  refine ⟨M3, aw_mono (n := n) (by omega) ?_⟩
  refine aw_aload_n k226_769 rfl ?_
  refine aw_callV0 k226_770 hC_L_law ok_A_legs sv_L_156 hH_A_legs ⟨rfl, rfl⟩ (by decide) hN_A_legs (by rw [hL_A_legs]; exact Nat.le_of_ble_eq_true rfl) (Nat.le_of_ble_eq_true rfl) l1 ?_
  refine aw_aload_n k226_773 rfl ?_
  refine aw_callV0 k226_774 hC_L_law ok_M_legs sv_L_159 hH_M_legs ⟨rfl, rfl⟩ (by decide) hN_M_legs (by rw [hL_M_legs]; exact Nat.le_of_ble_eq_true rfl) (Nat.le_of_ble_eq_true rfl) l2 ?_
  refine aw_icmp_eq 1860 k226_777 (by decide) (fun c_777 => ?_) (fun c_777 => ?_)
  · exact hG
  · exact absurd rfl c_777
theorem lc_14 {d i n : Nat} {M : mM} (h : StW M) (hs : Sc i M) (hk : ∀ M2, StW M2 → Wd M M2 → LG d 1860 i n M2) : LG d 782 i (n + 1) M := by
  intro x5 x6 x7
  obtain ⟨v, M1, M2, l1, l2, hS2, hw2⟩ := o_traverseLength (d := d) h
  obtain ⟨M3, hG⟩ := hk M2 hS2 hw2 x5 x6 x7
  refine ⟨M3, aw_mono (n := n) (by omega) ?_⟩
  refine aw_aload_n k226_782 rfl ?_
  refine aw_callV0 k226_783 hC_L_law ok_A_traverseLength sv_L_160 hH_A_traverseLength ⟨rfl, rfl⟩ (by decide) hN_A_traverseLength (by rw [hL_A_traverseLength]; exact Nat.le_of_ble_eq_true rfl) (Nat.le_of_ble_eq_true rfl) l1 ?_
  refine aw_aload_n k226_786 rfl ?_
  refine aw_callV0 k226_787 hC_L_law ok_M_traverseLength sv_L_163 hH_M_traverseLength ⟨rfl, rfl⟩ (by decide) hN_M_traverseLength (by rw [hL_M_traverseLength]; exact Nat.le_of_ble_eq_true rfl) (Nat.le_of_ble_eq_true rfl) l2 ?_
  refine aw_icmp_eq 1860 k226_790 (by decide) (fun c_790 => ?_) (fun c_790 => ?_)
  · exact hG
  · exact absurd rfl c_790
theorem lc_15 {d i n : Nat} {M : mM} (h : StW M) (hs : Sc i M) (hk : ∀ M2, StW M2 → Wd M M2 → LG d 1860 i n M2) : LG d 795 i (n + 1) M := by
  intro x5 x6 x7
  obtain ⟨v, M1, M2, l1, l2, hS2, hw2⟩ := o_errorEast (d := d) h
  obtain ⟨M3, hG⟩ := hk M2 hS2 hw2 x5 x6 x7
  refine ⟨M3, aw_mono (n := n) (by omega) ?_⟩
  refine aw_aload_n k226_795 rfl ?_
  refine aw_callV0 k226_796 hC_L_law ok_A_errorEast sv_L_164 hH_A_errorEast ⟨rfl, rfl⟩ (by decide) hN_A_errorEast (by rw [hL_A_errorEast]; exact Nat.le_of_ble_eq_true rfl) (Nat.le_of_ble_eq_true rfl) l1 ?_
  refine aw_aload_n k226_799 rfl ?_
  refine aw_callV0 k226_800 hC_L_law ok_M_errorEast sv_L_167 hH_M_errorEast ⟨rfl, rfl⟩ (by decide) hN_M_errorEast (by rw [hL_M_errorEast]; exact Nat.le_of_ble_eq_true rfl) (Nat.le_of_ble_eq_true rfl) l2 ?_
  refine aw_icmp_eq 1860 k226_803 (by decide) (fun c_803 => ?_) (fun c_803 => ?_)
  · exact hG
  · exact absurd rfl c_803
theorem lc_16 {d i n : Nat} {M : mM} (h : StW M) (hs : Sc i M) (hk : ∀ M2, StW M2 → Wd M M2 → LG d 1860 i n M2) : LG d 808 i (n + 1) M := by
  intro x5 x6 x7
  obtain ⟨v, M1, M2, l1, l2, hS2, hw2⟩ := o_errorNorth (d := d) h
  obtain ⟨M3, hG⟩ := hk M2 hS2 hw2 x5 x6 x7
  refine ⟨M3, aw_mono (n := n) (by omega) ?_⟩
  refine aw_aload_n k226_808 rfl ?_
  refine aw_callV0 k226_809 hC_L_law ok_A_errorNorth sv_L_168 hH_A_errorNorth ⟨rfl, rfl⟩ (by decide) hN_A_errorNorth (by rw [hL_A_errorNorth]; exact Nat.le_of_ble_eq_true rfl) (Nat.le_of_ble_eq_true rfl) l1 ?_
  refine aw_aload_n k226_812 rfl ?_
  refine aw_callV0 k226_813 hC_L_law ok_M_errorNorth sv_L_171 hH_M_errorNorth ⟨rfl, rfl⟩ (by decide) hN_M_errorNorth (by rw [hL_M_errorNorth]; exact Nat.le_of_ble_eq_true rfl) (Nat.le_of_ble_eq_true rfl) l2 ?_
  refine aw_icmp_eq 1860 k226_816 (by decide) (fun c_816 => ?_) (fun c_816 => ?_)
  · exact hG
  · exact absurd rfl c_816
theorem lc_17 {d i n : Nat} {M : mM} (h : StW M) (hs : Sc i M) (hk : ∀ M2, StW M2 → Wd M M2 → LG d 1860 i n M2) : LG d 821 i (n + 1) M := by
  intro x5 x6 x7
  obtain ⟨v, M1, M2, l1, l2, hS2, hw2⟩ := o_isClose (d := d) h
  obtain ⟨M3, hG⟩ := hk M2 hS2 hw2 x5 x6 x7
  refine ⟨M3, aw_mono (n := n) (by omega) ?_⟩
  refine aw_aload_n k226_821 rfl ?_
  refine aw_callV0 k226_822 hC_L_law ok_A_isClose sv_L_172 hH_A_isClose ⟨rfl, rfl⟩ (by decide) hN_A_isClose (by rw [hL_A_isClose]; exact Nat.le_of_ble_eq_true rfl) (Nat.le_of_ble_eq_true rfl) l1 ?_
  refine aw_aload_n k226_825 rfl ?_
  refine aw_callV0 k226_826 hC_L_law ok_M_isClose sv_L_176 hH_M_isClose ⟨rfl, rfl⟩ (by decide) hN_M_isClose (by rw [hL_M_isClose]; exact Nat.le_of_ble_eq_true rfl) (Nat.le_of_ble_eq_true rfl) l2 ?_
  refine aw_icmp_eq 1860 k226_829 (by decide) (fun c_829 => ?_) (fun c_829 => ?_)
  · exact hG
  · exact absurd rfl c_829
theorem lc_18 {d i n : Nat} {M : mM} (h : StW M) (hs : Sc i M) (hk : ∀ M2, StW M2 → Wd M M2 → LG d 1860 i n M2) : LG d 834 i (n + 1) M := by
  intro x5 x6 x7
  have hi := hs.1
  obtain ⟨k, b, n1, M1, M2, hn1, l1, l2, hth, hv, hS2, hw1, hw2⟩ := o_adjustedEast (d := d) h (M (15, 0, 0) (i + 1))
  have hs1 := hs.wd hw1
  have e15 := hw1.1
  have ec1 : (nI (i + 1)).toNatClampNeg = i + 1 := sc_c (by omega)
  obtain ⟨M3, hG⟩ := hk M2 hS2 hw2 (some (vI k)) (some (vI b)) x7
  refine ⟨M3, aw_mono (n := n1 + n) (by omega) ?_⟩
  refine aw_aload_n k226_834 rfl ?_
  refine aw_aload_n k226_835 rfl ?_
  refine aw_iload k226_836 rfl ?_
  refine aw_iconst (v := 1) k226_838 (by decide) ?_
  refine aw_iadd k226_839 ?_
  rw [nI_1 i]
  refine aw_sload k226_840 (sc_0 (by omega)) (hs.2 1 (by decide)) ?_
  try simp only [ec1, e15]
  refine aw_aload_n k226_841 rfl ?_
  refine aw_callSn3 k226_842 hC_L_law ok_L_adjustedEast ss_L_177 (ne_nil hH_L_adjustedEast) (by rw [hL_L_adjustedEast]; exact Nat.le_of_ble_eq_true rfl) (Nat.le_of_ble_eq_true rfl) l1 ?_
  refine aw_istore k226_845 (Nat.le_of_ble_eq_true rfl) rfl ?_
  refine aw_aload_n k226_847 rfl ?_
  refine aw_aload_n k226_848 rfl ?_
  refine aw_iload k226_849 rfl ?_
  refine aw_iconst (v := 1) k226_851 (by decide) ?_
  refine aw_iadd k226_852 ?_
  rw [nI_1 i]
  refine aw_sload k226_853 (sc_0 (by omega)) (hs1.2 1 (by decide)) ?_
  try simp only [ec1, e15]
  refine aw_callV1 k226_854 hC_L_law ok_M_adjustedEast sv_L_179 hH_M_adjustedEast ⟨rfl, rfl⟩ (by decide) hN_M_adjustedEast (by rw [hL_M_adjustedEast]; exact Nat.le_of_ble_eq_true rfl) (Nat.le_of_ble_eq_true rfl) l2 ?_
  refine aw_istore k226_857 (Nat.le_of_ble_eq_true rfl) rfl ?_
  refine aw_aload_n k226_859 rfl ?_
  refine aw_callV0 k226_860 hC_L_law ok_M_thrown sv_L_110 hH_M_thrown ⟨rfl, rfl⟩ (by decide) hN_M_thrown (by rw [hL_M_thrown]; exact Nat.le_of_ble_eq_true rfl) (Nat.le_of_ble_eq_true rfl) s_M_thrown ?_
  refine aw_iload k226_863 rfl ?_
  refine aw_icmp_eq 870 k226_865 (by decide) (fun c_865 => ?_) (fun c_865 => ?_)
  · refine aw_iload k226_870 rfl ?_
    refine aw_if_ne 887 k226_872 (by decide) (fun c_872 => ?_) (fun c_872 => ?_)
    · refine aw_goto (t := 1860) k226_887 (by decide) ?_
      exact hG
    · refine aw_aload_n k226_875 rfl ?_
      refine aw_iconst (v := 0) k226_876 (by decide) ?_
      refine aw_laload k226_877 ?_
      refine aw_iload k226_878 rfl ?_
      refine aw_i2l k226_880 ?_
      refine aw_lcmp_eq 887 k226_881 k226_882 (by decide) (fun c_881 => ?_) (fun c_881 => ?_)
      · refine aw_goto (t := 1860) k226_887 (by decide) ?_
        exact hG
      · exact absurd (hv c_872) c_881
  · exact absurd hth c_865
theorem lc_19 {d i n : Nat} {M : mM} (h : StW M) (hs : Sc i M) (hk : ∀ M2, StW M2 → Wd M M2 → LG d 1860 i n M2) : LG d 890 i (n + 1) M := by
  intro x5 x6 x7
  have hi := hs.1
  obtain ⟨k, b, n1, M1, M2, hn1, l1, l2, hth, hv, hS2, hw1, hw2⟩ := o_adjustedNorth (d := d) h (M (15, 0, 0) (i + 1))
  have hs1 := hs.wd hw1
  have e15 := hw1.1
  have ec1 : (nI (i + 1)).toNatClampNeg = i + 1 := sc_c (by omega)
  obtain ⟨M3, hG⟩ := hk M2 hS2 hw2 (some (vI k)) (some (vI b)) x7
  refine ⟨M3, aw_mono (n := n1 + n) (by omega) ?_⟩
  refine aw_aload_n k226_890 rfl ?_
  refine aw_aload_n k226_891 rfl ?_
  refine aw_iload k226_892 rfl ?_
  refine aw_iconst (v := 1) k226_894 (by decide) ?_
  refine aw_iadd k226_895 ?_
  rw [nI_1 i]
  refine aw_sload k226_896 (sc_0 (by omega)) (hs.2 1 (by decide)) ?_
  try simp only [ec1, e15]
  refine aw_aload_n k226_897 rfl ?_
  refine aw_callSn3 k226_898 hC_L_law ok_L_adjustedNorth ss_L_180 (ne_nil hH_L_adjustedNorth) (by rw [hL_L_adjustedNorth]; exact Nat.le_of_ble_eq_true rfl) (Nat.le_of_ble_eq_true rfl) l1 ?_
  refine aw_istore k226_901 (Nat.le_of_ble_eq_true rfl) rfl ?_
  refine aw_aload_n k226_903 rfl ?_
  refine aw_aload_n k226_904 rfl ?_
  refine aw_iload k226_905 rfl ?_
  refine aw_iconst (v := 1) k226_907 (by decide) ?_
  refine aw_iadd k226_908 ?_
  rw [nI_1 i]
  refine aw_sload k226_909 (sc_0 (by omega)) (hs1.2 1 (by decide)) ?_
  try simp only [ec1, e15]
  refine aw_callV1 k226_910 hC_L_law ok_M_adjustedNorth sv_L_182 hH_M_adjustedNorth ⟨rfl, rfl⟩ (by decide) hN_M_adjustedNorth (by rw [hL_M_adjustedNorth]; exact Nat.le_of_ble_eq_true rfl) (Nat.le_of_ble_eq_true rfl) l2 ?_
  refine aw_istore k226_913 (Nat.le_of_ble_eq_true rfl) rfl ?_
  refine aw_aload_n k226_915 rfl ?_
  refine aw_callV0 k226_916 hC_L_law ok_M_thrown sv_L_110 hH_M_thrown ⟨rfl, rfl⟩ (by decide) hN_M_thrown (by rw [hL_M_thrown]; exact Nat.le_of_ble_eq_true rfl) (Nat.le_of_ble_eq_true rfl) s_M_thrown ?_
  refine aw_iload k226_919 rfl ?_
  refine aw_icmp_eq 926 k226_921 (by decide) (fun c_921 => ?_) (fun c_921 => ?_)
  · refine aw_iload k226_926 rfl ?_
    refine aw_if_ne 943 k226_928 (by decide) (fun c_928 => ?_) (fun c_928 => ?_)
    · refine aw_goto (t := 1860) k226_943 (by decide) ?_
      exact hG
    · refine aw_aload_n k226_931 rfl ?_
      refine aw_iconst (v := 0) k226_932 (by decide) ?_
      refine aw_laload k226_933 ?_
      refine aw_iload k226_934 rfl ?_
      refine aw_i2l k226_936 ?_
      refine aw_lcmp_eq 943 k226_937 k226_938 (by decide) (fun c_937 => ?_) (fun c_937 => ?_)
      · refine aw_goto (t := 1860) k226_943 (by decide) ?_
        exact hG
      · exact absurd (hv c_928) c_937
  · exact absurd hth c_921
theorem lc_20 {d i n : Nat} {M : mM} (h : StW M) (hs : Sc i M) (hk : ∀ M2, StW M2 → Wd M M2 → LG d 1860 i n M2) : LG d 946 i (n + 1) M := by
  intro x5 x6 x7
  obtain ⟨v, M1, M2, l1, l2, hS2, hw2⟩ := o_fields (d := d) h
  obtain ⟨M3, hG⟩ := hk M2 hS2 hw2 x5 x6 x7
  refine ⟨M3, aw_mono (n := n) (by omega) ?_⟩
  refine aw_aload_n k226_946 rfl ?_
  refine aw_callV0 k226_947 hC_L_law ok_A_fields sv_L_183 hH_A_fields ⟨rfl, rfl⟩ (by decide) hN_A_fields (by rw [hL_A_fields]; exact Nat.le_of_ble_eq_true rfl) (Nat.le_of_ble_eq_true rfl) l1 ?_
  refine aw_aload_n k226_950 rfl ?_
  refine aw_callV0 k226_951 hC_L_law ok_M_fields sv_L_186 hH_M_fields ⟨rfl, rfl⟩ (by decide) hN_M_fields (by rw [hL_M_fields]; exact Nat.le_of_ble_eq_true rfl) (Nat.le_of_ble_eq_true rfl) l2 ?_
  refine aw_icmp_eq 1860 k226_954 (by decide) (fun c_954 => ?_) (fun c_954 => ?_)
  · exact hG
  · exact absurd rfl c_954
theorem lc_21 {d i n : Nat} {M : mM} (h : StW M) (hs : Sc i M) (hk : ∀ M2, StW M2 → Wd M M2 → LG d 1860 i n M2) : LG d 959 i (n + 1) M := by
  intro x5 x6 x7
  have hi := hs.1
  obtain ⟨k, b, n1, M1, M2, hn1, l1, l2, hth, hv, hS2, hw1, hw2⟩ := o_cornersOf (d := d) h (M (15, 0, 0) (i + 1))
  have hs1 := hs.wd hw1
  have e15 := hw1.1
  have ec1 : (nI (i + 1)).toNatClampNeg = i + 1 := sc_c (by omega)
  obtain ⟨M3, hG⟩ := hk M2 hS2 hw2 (some (vI k)) (some (vI b)) x7
  refine ⟨M3, aw_mono (n := n1 + n) (by omega) ?_⟩
  refine aw_aload_n k226_959 rfl ?_
  refine aw_aload_n k226_960 rfl ?_
  refine aw_iload k226_961 rfl ?_
  refine aw_iconst (v := 1) k226_963 (by decide) ?_
  refine aw_iadd k226_964 ?_
  rw [nI_1 i]
  refine aw_sload k226_965 (sc_0 (by omega)) (hs.2 1 (by decide)) ?_
  try simp only [ec1, e15]
  refine aw_aload_n k226_966 rfl ?_
  refine aw_callSn3 k226_967 hC_L_law ok_L_cornersOf ss_L_187 (ne_nil hH_L_cornersOf) (by rw [hL_L_cornersOf]; exact Nat.le_of_ble_eq_true rfl) (Nat.le_of_ble_eq_true rfl) l1 ?_
  refine aw_istore k226_970 (Nat.le_of_ble_eq_true rfl) rfl ?_
  refine aw_aload_n k226_972 rfl ?_
  refine aw_aload_n k226_973 rfl ?_
  refine aw_iload k226_974 rfl ?_
  refine aw_iconst (v := 1) k226_976 (by decide) ?_
  refine aw_iadd k226_977 ?_
  rw [nI_1 i]
  refine aw_sload k226_978 (sc_0 (by omega)) (hs1.2 1 (by decide)) ?_
  try simp only [ec1, e15]
  refine aw_callV1 k226_979 hC_L_law ok_M_cornersOf sv_L_189 hH_M_cornersOf ⟨rfl, rfl⟩ (by decide) hN_M_cornersOf (by rw [hL_M_cornersOf]; exact Nat.le_of_ble_eq_true rfl) (Nat.le_of_ble_eq_true rfl) l2 ?_
  refine aw_istore k226_982 (Nat.le_of_ble_eq_true rfl) rfl ?_
  refine aw_aload_n k226_984 rfl ?_
  refine aw_callV0 k226_985 hC_L_law ok_M_thrown sv_L_110 hH_M_thrown ⟨rfl, rfl⟩ (by decide) hN_M_thrown (by rw [hL_M_thrown]; exact Nat.le_of_ble_eq_true rfl) (Nat.le_of_ble_eq_true rfl) s_M_thrown ?_
  refine aw_iload k226_988 rfl ?_
  refine aw_icmp_eq 995 k226_990 (by decide) (fun c_990 => ?_) (fun c_990 => ?_)
  · refine aw_iload k226_995 rfl ?_
    refine aw_if_ne 1012 k226_997 (by decide) (fun c_997 => ?_) (fun c_997 => ?_)
    · refine aw_goto (t := 1860) k226_1012 (by decide) ?_
      exact hG
    · refine aw_aload_n k226_1000 rfl ?_
      refine aw_iconst (v := 0) k226_1001 (by decide) ?_
      refine aw_laload k226_1002 ?_
      refine aw_iload k226_1003 rfl ?_
      refine aw_i2l k226_1005 ?_
      refine aw_lcmp_eq 1012 k226_1006 k226_1007 (by decide) (fun c_1006 => ?_) (fun c_1006 => ?_)
      · refine aw_goto (t := 1860) k226_1012 (by decide) ?_
        exact hG
      · exact absurd (hv c_997) c_1006
  · exact absurd hth c_990
theorem lc_22 {d i n : Nat} {M : mM} (h : StW M) (hs : Sc i M) (hk : ∀ M2, StW M2 → Wd M M2 → LG d 1860 i n M2) : LG d 1015 i (n + 1) M := by
  intro x5 x6 x7
  have hi := hs.1
  obtain ⟨k, b, n1, M1, M2, hn1, l1, l2, hth, hv, hS2, hw1, hw2⟩ := o_cornerEast (d := d) h (M (15, 0, 0) (i + 1)) (M (15, 0, 0) (i + 2))
  have hs1 := hs.wd hw1
  have e15 := hw1.1
  have ec1 : (nI (i + 1)).toNatClampNeg = i + 1 := sc_c (by omega)
  have ec2 : (nI (i + 2)).toNatClampNeg = i + 2 := sc_c (by omega)
  obtain ⟨M3, hG⟩ := hk M2 hS2 hw2 (some (vI k)) (some (vI b)) x7
  refine ⟨M3, aw_mono (n := n1 + n) (by omega) ?_⟩
  refine aw_aload_n k226_1015 rfl ?_
  refine aw_aload_n k226_1016 rfl ?_
  refine aw_iload k226_1017 rfl ?_
  refine aw_iconst (v := 1) k226_1019 (by decide) ?_
  refine aw_iadd k226_1020 ?_
  rw [nI_1 i]
  refine aw_sload k226_1021 (sc_0 (by omega)) (hs.2 1 (by decide)) ?_
  try simp only [ec1, ec2, e15]
  refine aw_aload_n k226_1022 rfl ?_
  refine aw_iload k226_1023 rfl ?_
  refine aw_iconst (v := 2) k226_1025 (by decide) ?_
  refine aw_iadd k226_1026 ?_
  rw [nI_2 i]
  refine aw_sload k226_1027 (sc_0 (by omega)) (hs.2 2 (by decide)) ?_
  try simp only [ec1, ec2, e15]
  refine aw_aload_n k226_1028 rfl ?_
  refine aw_callSn4 k226_1029 hC_L_law ok_L_cornerEast ss_L_190 (ne_nil hH_L_cornerEast) (by rw [hL_L_cornerEast]; exact Nat.le_of_ble_eq_true rfl) (Nat.le_of_ble_eq_true rfl) l1 ?_
  refine aw_istore k226_1032 (Nat.le_of_ble_eq_true rfl) rfl ?_
  refine aw_aload_n k226_1034 rfl ?_
  refine aw_aload_n k226_1035 rfl ?_
  refine aw_iload k226_1036 rfl ?_
  refine aw_iconst (v := 1) k226_1038 (by decide) ?_
  refine aw_iadd k226_1039 ?_
  rw [nI_1 i]
  refine aw_sload k226_1040 (sc_0 (by omega)) (hs1.2 1 (by decide)) ?_
  try simp only [ec1, ec2, e15]
  refine aw_aload_n k226_1041 rfl ?_
  refine aw_iload k226_1042 rfl ?_
  refine aw_iconst (v := 2) k226_1044 (by decide) ?_
  refine aw_iadd k226_1045 ?_
  rw [nI_2 i]
  refine aw_sload k226_1046 (sc_0 (by omega)) (hs1.2 2 (by decide)) ?_
  try simp only [ec1, ec2, e15]
  refine aw_callV2 k226_1047 hC_L_law ok_M_cornerEast sv_L_192 hH_M_cornerEast ⟨rfl, rfl⟩ (by decide) hN_M_cornerEast (by rw [hL_M_cornerEast]; exact Nat.le_of_ble_eq_true rfl) (Nat.le_of_ble_eq_true rfl) l2 ?_
  refine aw_istore k226_1050 (Nat.le_of_ble_eq_true rfl) rfl ?_
  refine aw_aload_n k226_1052 rfl ?_
  refine aw_callV0 k226_1053 hC_L_law ok_M_thrown sv_L_110 hH_M_thrown ⟨rfl, rfl⟩ (by decide) hN_M_thrown (by rw [hL_M_thrown]; exact Nat.le_of_ble_eq_true rfl) (Nat.le_of_ble_eq_true rfl) s_M_thrown ?_
  refine aw_iload k226_1056 rfl ?_
  refine aw_icmp_eq 1063 k226_1058 (by decide) (fun c_1058 => ?_) (fun c_1058 => ?_)
  · refine aw_iload k226_1063 rfl ?_
    refine aw_if_ne 1080 k226_1065 (by decide) (fun c_1065 => ?_) (fun c_1065 => ?_)
    · refine aw_goto (t := 1860) k226_1080 (by decide) ?_
      exact hG
    · refine aw_aload_n k226_1068 rfl ?_
      refine aw_iconst (v := 0) k226_1069 (by decide) ?_
      refine aw_laload k226_1070 ?_
      refine aw_iload k226_1071 rfl ?_
      refine aw_i2l k226_1073 ?_
      refine aw_lcmp_eq 1080 k226_1074 k226_1075 (by decide) (fun c_1074 => ?_) (fun c_1074 => ?_)
      · refine aw_goto (t := 1860) k226_1080 (by decide) ?_
        exact hG
      · exact absurd (hv c_1065) c_1074
  · exact absurd hth c_1058
theorem lc_23 {d i n : Nat} {M : mM} (h : StW M) (hs : Sc i M) (hk : ∀ M2, StW M2 → Wd M M2 → LG d 1860 i n M2) : LG d 1083 i (n + 1) M := by
  intro x5 x6 x7
  have hi := hs.1
  obtain ⟨k, b, n1, M1, M2, hn1, l1, l2, hth, hv, hS2, hw1, hw2⟩ := o_cornerNorth (d := d) h (M (15, 0, 0) (i + 1)) (M (15, 0, 0) (i + 2))
  have hs1 := hs.wd hw1
  have e15 := hw1.1
  have ec1 : (nI (i + 1)).toNatClampNeg = i + 1 := sc_c (by omega)
  have ec2 : (nI (i + 2)).toNatClampNeg = i + 2 := sc_c (by omega)
  obtain ⟨M3, hG⟩ := hk M2 hS2 hw2 (some (vI k)) (some (vI b)) x7
  refine ⟨M3, aw_mono (n := n1 + n) (by omega) ?_⟩
  refine aw_aload_n k226_1083 rfl ?_
  refine aw_aload_n k226_1084 rfl ?_
  refine aw_iload k226_1085 rfl ?_
  refine aw_iconst (v := 1) k226_1087 (by decide) ?_
  refine aw_iadd k226_1088 ?_
  rw [nI_1 i]
  refine aw_sload k226_1089 (sc_0 (by omega)) (hs.2 1 (by decide)) ?_
  try simp only [ec1, ec2, e15]
  refine aw_aload_n k226_1090 rfl ?_
  refine aw_iload k226_1091 rfl ?_
  refine aw_iconst (v := 2) k226_1093 (by decide) ?_
  refine aw_iadd k226_1094 ?_
  rw [nI_2 i]
  refine aw_sload k226_1095 (sc_0 (by omega)) (hs.2 2 (by decide)) ?_
  try simp only [ec1, ec2, e15]
  refine aw_aload_n k226_1096 rfl ?_
  refine aw_callSn4 k226_1097 hC_L_law ok_L_cornerNorth ss_L_193 (ne_nil hH_L_cornerNorth) (by rw [hL_L_cornerNorth]; exact Nat.le_of_ble_eq_true rfl) (Nat.le_of_ble_eq_true rfl) l1 ?_
  refine aw_istore k226_1100 (Nat.le_of_ble_eq_true rfl) rfl ?_
  refine aw_aload_n k226_1102 rfl ?_
  refine aw_aload_n k226_1103 rfl ?_
  refine aw_iload k226_1104 rfl ?_
  refine aw_iconst (v := 1) k226_1106 (by decide) ?_
  refine aw_iadd k226_1107 ?_
  rw [nI_1 i]
  refine aw_sload k226_1108 (sc_0 (by omega)) (hs1.2 1 (by decide)) ?_
  try simp only [ec1, ec2, e15]
  refine aw_aload_n k226_1109 rfl ?_
  refine aw_iload k226_1110 rfl ?_
  refine aw_iconst (v := 2) k226_1112 (by decide) ?_
  refine aw_iadd k226_1113 ?_
  rw [nI_2 i]
  refine aw_sload k226_1114 (sc_0 (by omega)) (hs1.2 2 (by decide)) ?_
  try simp only [ec1, ec2, e15]
  refine aw_callV2 k226_1115 hC_L_law ok_M_cornerNorth sv_L_195 hH_M_cornerNorth ⟨rfl, rfl⟩ (by decide) hN_M_cornerNorth (by rw [hL_M_cornerNorth]; exact Nat.le_of_ble_eq_true rfl) (Nat.le_of_ble_eq_true rfl) l2 ?_
  refine aw_istore k226_1118 (Nat.le_of_ble_eq_true rfl) rfl ?_
  refine aw_aload_n k226_1120 rfl ?_
  refine aw_callV0 k226_1121 hC_L_law ok_M_thrown sv_L_110 hH_M_thrown ⟨rfl, rfl⟩ (by decide) hN_M_thrown (by rw [hL_M_thrown]; exact Nat.le_of_ble_eq_true rfl) (Nat.le_of_ble_eq_true rfl) s_M_thrown ?_
  refine aw_iload k226_1124 rfl ?_
  refine aw_icmp_eq 1131 k226_1126 (by decide) (fun c_1126 => ?_) (fun c_1126 => ?_)
  · refine aw_iload k226_1131 rfl ?_
    refine aw_if_ne 1148 k226_1133 (by decide) (fun c_1133 => ?_) (fun c_1133 => ?_)
    · refine aw_goto (t := 1860) k226_1148 (by decide) ?_
      exact hG
    · refine aw_aload_n k226_1136 rfl ?_
      refine aw_iconst (v := 0) k226_1137 (by decide) ?_
      refine aw_laload k226_1138 ?_
      refine aw_iload k226_1139 rfl ?_
      refine aw_i2l k226_1141 ?_
      refine aw_lcmp_eq 1148 k226_1142 k226_1143 (by decide) (fun c_1142 => ?_) (fun c_1142 => ?_)
      · refine aw_goto (t := 1860) k226_1148 (by decide) ?_
        exact hG
      · exact absurd (hv c_1133) c_1142
  · exact absurd hth c_1126
theorem lc_24 {d i n : Nat} {M : mM} (h : StW M) (hs : Sc i M) (hk : ∀ M2, StW M2 → Wd M M2 → LG d 1860 i n M2) : LG d 1151 i (n + 1) M := by
  intro x5 x6 x7
  have hi := hs.1
  obtain ⟨k, b, n1, M1, M2, hn1, l1, l2, hth, hv, hS2, hw1, hw2⟩ := o_leftTurns (d := d) h (M (15, 0, 0) (i + 1))
  have hs1 := hs.wd hw1
  have e15 := hw1.1
  have ec1 : (nI (i + 1)).toNatClampNeg = i + 1 := sc_c (by omega)
  obtain ⟨M3, hG⟩ := hk M2 hS2 hw2 (some (vI k)) (some (vI b)) x7
  refine ⟨M3, aw_mono (n := n1 + n) (by omega) ?_⟩
  refine aw_aload_n k226_1151 rfl ?_
  refine aw_aload_n k226_1152 rfl ?_
  refine aw_iload k226_1153 rfl ?_
  refine aw_iconst (v := 1) k226_1155 (by decide) ?_
  refine aw_iadd k226_1156 ?_
  rw [nI_1 i]
  refine aw_sload k226_1157 (sc_0 (by omega)) (hs.2 1 (by decide)) ?_
  try simp only [ec1, e15]
  refine aw_aload_n k226_1158 rfl ?_
  refine aw_callSn3 k226_1159 hC_L_law ok_L_leftTurns ss_L_196 (ne_nil hH_L_leftTurns) (by rw [hL_L_leftTurns]; exact Nat.le_of_ble_eq_true rfl) (Nat.le_of_ble_eq_true rfl) l1 ?_
  refine aw_istore k226_1162 (Nat.le_of_ble_eq_true rfl) rfl ?_
  refine aw_aload_n k226_1164 rfl ?_
  refine aw_aload_n k226_1165 rfl ?_
  refine aw_iload k226_1166 rfl ?_
  refine aw_iconst (v := 1) k226_1168 (by decide) ?_
  refine aw_iadd k226_1169 ?_
  rw [nI_1 i]
  refine aw_sload k226_1170 (sc_0 (by omega)) (hs1.2 1 (by decide)) ?_
  try simp only [ec1, e15]
  refine aw_callV1 k226_1171 hC_L_law ok_M_leftTurns sv_L_198 hH_M_leftTurns ⟨rfl, rfl⟩ (by decide) hN_M_leftTurns (by rw [hL_M_leftTurns]; exact Nat.le_of_ble_eq_true rfl) (Nat.le_of_ble_eq_true rfl) l2 ?_
  refine aw_istore k226_1174 (Nat.le_of_ble_eq_true rfl) rfl ?_
  refine aw_aload_n k226_1176 rfl ?_
  refine aw_callV0 k226_1177 hC_L_law ok_M_thrown sv_L_110 hH_M_thrown ⟨rfl, rfl⟩ (by decide) hN_M_thrown (by rw [hL_M_thrown]; exact Nat.le_of_ble_eq_true rfl) (Nat.le_of_ble_eq_true rfl) s_M_thrown ?_
  refine aw_iload k226_1180 rfl ?_
  refine aw_icmp_eq 1187 k226_1182 (by decide) (fun c_1182 => ?_) (fun c_1182 => ?_)
  · refine aw_iload k226_1187 rfl ?_
    refine aw_if_ne 1204 k226_1189 (by decide) (fun c_1189 => ?_) (fun c_1189 => ?_)
    · refine aw_goto (t := 1860) k226_1204 (by decide) ?_
      exact hG
    · refine aw_aload_n k226_1192 rfl ?_
      refine aw_iconst (v := 0) k226_1193 (by decide) ?_
      refine aw_laload k226_1194 ?_
      refine aw_iload k226_1195 rfl ?_
      refine aw_i2l k226_1197 ?_
      refine aw_lcmp_eq 1204 k226_1198 k226_1199 (by decide) (fun c_1198 => ?_) (fun c_1198 => ?_)
      · refine aw_goto (t := 1860) k226_1204 (by decide) ?_
        exact hG
      · exact absurd (hv c_1189) c_1198
  · exact absurd hth c_1182
theorem lc_25 {d i n : Nat} {M : mM} (h : StW M) (hs : Sc i M) (hk : ∀ M2, StW M2 → Wd M M2 → LG d 1860 i n M2) : LG d 1207 i (n + 1) M := by
  intro x5 x6 x7
  have hi := hs.1
  obtain ⟨k, b, n1, M1, M2, hn1, l1, l2, hth, hv, hS2, hw1, hw2⟩ := o_turnsOneWay (d := d) h (M (15, 0, 0) (i + 1))
  have hs1 := hs.wd hw1
  have e15 := hw1.1
  have ec1 : (nI (i + 1)).toNatClampNeg = i + 1 := sc_c (by omega)
  obtain ⟨M3, hG⟩ := hk M2 hS2 hw2 (some (vI k)) (some (vI b)) x7
  refine ⟨M3, aw_mono (n := n1 + n) (by omega) ?_⟩
  by_cases hb : b = 0
  · skip
    refine aw_aload_n k226_1207 rfl ?_
    refine aw_aload_n k226_1208 rfl ?_
    refine aw_iload k226_1209 rfl ?_
    refine aw_iconst (v := 1) k226_1211 (by decide) ?_
    refine aw_iadd k226_1212 ?_
    rw [nI_1 i]
    refine aw_sload k226_1213 (sc_0 (by omega)) (hs.2 1 (by decide)) ?_
    try simp only [ec1, e15]
    refine aw_aload_n k226_1214 rfl ?_
    refine aw_callSn3 k226_1215 hC_L_law ok_L_turnsOneWay ss_L_199 (ne_nil hH_L_turnsOneWay) (by rw [hL_L_turnsOneWay]; exact Nat.le_of_ble_eq_true rfl) (Nat.le_of_ble_eq_true rfl) l1 ?_
    refine aw_istore k226_1218 (Nat.le_of_ble_eq_true rfl) rfl ?_
    refine aw_aload_n k226_1220 rfl ?_
    refine aw_aload_n k226_1221 rfl ?_
    refine aw_iload k226_1222 rfl ?_
    refine aw_iconst (v := 1) k226_1224 (by decide) ?_
    refine aw_iadd k226_1225 ?_
    rw [nI_1 i]
    refine aw_sload k226_1226 (sc_0 (by omega)) (hs1.2 1 (by decide)) ?_
    try simp only [ec1, e15]
    refine aw_callV1 k226_1227 hC_L_law ok_M_turnsOneWay sv_L_201 hH_M_turnsOneWay ⟨rfl, rfl⟩ (by decide) hN_M_turnsOneWay (by rw [hL_M_turnsOneWay]; exact Nat.le_of_ble_eq_true rfl) (Nat.le_of_ble_eq_true rfl) l2 ?_
    refine aw_istore k226_1230 (Nat.le_of_ble_eq_true rfl) rfl ?_
    refine aw_aload_n k226_1232 rfl ?_
    refine aw_callV0 k226_1233 hC_L_law ok_M_thrown sv_L_110 hH_M_thrown ⟨rfl, rfl⟩ (by decide) hN_M_thrown (by rw [hL_M_thrown]; exact Nat.le_of_ble_eq_true rfl) (Nat.le_of_ble_eq_true rfl) s_M_thrown ?_
    refine aw_iload k226_1236 rfl ?_
    refine aw_icmp_eq 1243 k226_1238 (by decide) (fun c_1238 => ?_) (fun c_1238 => ?_)
    · refine aw_iload k226_1243 rfl ?_
      refine aw_if_ne 1267 k226_1245 (by decide) (fun c_1245 => ?_) (fun c_1245 => ?_)
      · refine aw_goto (t := 1860) k226_1267 (by decide) ?_
        exact hG
      · refine aw_aload_n k226_1248 rfl ?_
        refine aw_iconst (v := 0) k226_1249 (by decide) ?_
        refine aw_laload k226_1250 ?_
        refine aw_iload k226_1251 rfl ?_
        refine aw_if_eq 1260 k226_1253 (by decide) (fun c_1253 => ?_) (fun c_1253 => ?_)
        · refine aw_lconst (v := 0) k226_1260 (by decide) ?_
          refine aw_lcmp_eq 1267 k226_1261 k226_1262 (by decide) (fun c_1261 => ?_) (fun c_1261 => ?_)
          · refine aw_goto (t := 1860) k226_1267 (by decide) ?_
            exact hG
          · exact absurd ((hv c_1245).trans (if_pos hb)) c_1261
        · exact absurd hb c_1253
    · exact absurd hth c_1238
  · skip
    refine aw_aload_n k226_1207 rfl ?_
    refine aw_aload_n k226_1208 rfl ?_
    refine aw_iload k226_1209 rfl ?_
    refine aw_iconst (v := 1) k226_1211 (by decide) ?_
    refine aw_iadd k226_1212 ?_
    rw [nI_1 i]
    refine aw_sload k226_1213 (sc_0 (by omega)) (hs.2 1 (by decide)) ?_
    try simp only [ec1, e15]
    refine aw_aload_n k226_1214 rfl ?_
    refine aw_callSn3 k226_1215 hC_L_law ok_L_turnsOneWay ss_L_199 (ne_nil hH_L_turnsOneWay) (by rw [hL_L_turnsOneWay]; exact Nat.le_of_ble_eq_true rfl) (Nat.le_of_ble_eq_true rfl) l1 ?_
    refine aw_istore k226_1218 (Nat.le_of_ble_eq_true rfl) rfl ?_
    refine aw_aload_n k226_1220 rfl ?_
    refine aw_aload_n k226_1221 rfl ?_
    refine aw_iload k226_1222 rfl ?_
    refine aw_iconst (v := 1) k226_1224 (by decide) ?_
    refine aw_iadd k226_1225 ?_
    rw [nI_1 i]
    refine aw_sload k226_1226 (sc_0 (by omega)) (hs1.2 1 (by decide)) ?_
    try simp only [ec1, e15]
    refine aw_callV1 k226_1227 hC_L_law ok_M_turnsOneWay sv_L_201 hH_M_turnsOneWay ⟨rfl, rfl⟩ (by decide) hN_M_turnsOneWay (by rw [hL_M_turnsOneWay]; exact Nat.le_of_ble_eq_true rfl) (Nat.le_of_ble_eq_true rfl) l2 ?_
    refine aw_istore k226_1230 (Nat.le_of_ble_eq_true rfl) rfl ?_
    refine aw_aload_n k226_1232 rfl ?_
    refine aw_callV0 k226_1233 hC_L_law ok_M_thrown sv_L_110 hH_M_thrown ⟨rfl, rfl⟩ (by decide) hN_M_thrown (by rw [hL_M_thrown]; exact Nat.le_of_ble_eq_true rfl) (Nat.le_of_ble_eq_true rfl) s_M_thrown ?_
    refine aw_iload k226_1236 rfl ?_
    refine aw_icmp_eq 1243 k226_1238 (by decide) (fun c_1238 => ?_) (fun c_1238 => ?_)
    · refine aw_iload k226_1243 rfl ?_
      refine aw_if_ne 1267 k226_1245 (by decide) (fun c_1245 => ?_) (fun c_1245 => ?_)
      · refine aw_goto (t := 1860) k226_1267 (by decide) ?_
        exact hG
      · refine aw_aload_n k226_1248 rfl ?_
        refine aw_iconst (v := 0) k226_1249 (by decide) ?_
        refine aw_laload k226_1250 ?_
        refine aw_iload k226_1251 rfl ?_
        refine aw_if_eq 1260 k226_1253 (by decide) (fun c_1253 => ?_) (fun c_1253 => ?_)
        · exact absurd c_1253 hb
        · refine aw_lconst (v := 1) k226_1256 (by decide) ?_
          refine aw_goto (t := 1261) k226_1257 (by decide) ?_
          refine aw_lcmp_eq 1267 k226_1261 k226_1262 (by decide) (fun c_1261 => ?_) (fun c_1261 => ?_)
          · refine aw_goto (t := 1860) k226_1267 (by decide) ?_
            exact hG
          · exact absurd ((hv c_1245).trans (if_neg hb)) c_1261
    · exact absurd hth c_1238
theorem lc_26 {d i n : Nat} {M : mM} (h : StW M) (hs : Sc i M) (hk : ∀ M2, StW M2 → Wd M M2 → LG d 1860 i n M2) : LG d 1270 i (n + 1) M := by
  intro x5 x6 x7
  have hi := hs.1
  obtain ⟨k, b, n1, M1, M2, hn1, l1, l2, hth, hv, hS2, hw1, hw2⟩ := o_sidesEastOf (d := d) h (M (15, 0, 0) (i + 1)) (M (15, 0, 0) (i + 2)) (M (15, 0, 0) (i + 3))
  have hs1 := hs.wd hw1
  have e15 := hw1.1
  have ec1 : (nI (i + 1)).toNatClampNeg = i + 1 := sc_c (by omega)
  have ec2 : (nI (i + 2)).toNatClampNeg = i + 2 := sc_c (by omega)
  have ec3 : (nI (i + 3)).toNatClampNeg = i + 3 := sc_c (by omega)
  obtain ⟨M3, hG⟩ := hk M2 hS2 hw2 (some (vI k)) (some (vI b)) x7
  refine ⟨M3, aw_mono (n := n1 + n) (by omega) ?_⟩
  refine aw_aload_n k226_1270 rfl ?_
  refine aw_aload_n k226_1271 rfl ?_
  refine aw_iload k226_1272 rfl ?_
  refine aw_iconst (v := 1) k226_1274 (by decide) ?_
  refine aw_iadd k226_1275 ?_
  rw [nI_1 i]
  refine aw_sload k226_1276 (sc_0 (by omega)) (hs.2 1 (by decide)) ?_
  try simp only [ec1, ec2, ec3, e15]
  refine aw_aload_n k226_1277 rfl ?_
  refine aw_iload k226_1278 rfl ?_
  refine aw_iconst (v := 2) k226_1280 (by decide) ?_
  refine aw_iadd k226_1281 ?_
  rw [nI_2 i]
  refine aw_sload k226_1282 (sc_0 (by omega)) (hs.2 2 (by decide)) ?_
  try simp only [ec1, ec2, ec3, e15]
  refine aw_aload_n k226_1283 rfl ?_
  refine aw_iload k226_1284 rfl ?_
  refine aw_iconst (v := 3) k226_1286 (by decide) ?_
  refine aw_iadd k226_1287 ?_
  rw [nI_3 i]
  refine aw_sload k226_1288 (sc_0 (by omega)) (hs.2 3 (by decide)) ?_
  try simp only [ec1, ec2, ec3, e15]
  refine aw_aload_n k226_1289 rfl ?_
  refine aw_callSn5 k226_1290 hC_L_law ok_L_sidesEastOf ss_L_202 (ne_nil hH_L_sidesEastOf) (by rw [hL_L_sidesEastOf]; exact Nat.le_of_ble_eq_true rfl) (Nat.le_of_ble_eq_true rfl) l1 ?_
  refine aw_istore k226_1293 (Nat.le_of_ble_eq_true rfl) rfl ?_
  refine aw_aload_n k226_1295 rfl ?_
  refine aw_aload_n k226_1296 rfl ?_
  refine aw_iload k226_1297 rfl ?_
  refine aw_iconst (v := 1) k226_1299 (by decide) ?_
  refine aw_iadd k226_1300 ?_
  rw [nI_1 i]
  refine aw_sload k226_1301 (sc_0 (by omega)) (hs1.2 1 (by decide)) ?_
  try simp only [ec1, ec2, ec3, e15]
  refine aw_aload_n k226_1302 rfl ?_
  refine aw_iload k226_1303 rfl ?_
  refine aw_iconst (v := 2) k226_1305 (by decide) ?_
  refine aw_iadd k226_1306 ?_
  rw [nI_2 i]
  refine aw_sload k226_1307 (sc_0 (by omega)) (hs1.2 2 (by decide)) ?_
  try simp only [ec1, ec2, ec3, e15]
  refine aw_aload_n k226_1308 rfl ?_
  refine aw_iload k226_1309 rfl ?_
  refine aw_iconst (v := 3) k226_1311 (by decide) ?_
  refine aw_iadd k226_1312 ?_
  rw [nI_3 i]
  refine aw_sload k226_1313 (sc_0 (by omega)) (hs1.2 3 (by decide)) ?_
  try simp only [ec1, ec2, ec3, e15]
  refine aw_callV3 k226_1314 hC_L_law ok_M_sidesEastOf sv_L_204 hH_M_sidesEastOf ⟨rfl, rfl⟩ (by decide) hN_M_sidesEastOf (by rw [hL_M_sidesEastOf]; exact Nat.le_of_ble_eq_true rfl) (Nat.le_of_ble_eq_true rfl) l2 ?_
  refine aw_istore k226_1317 (Nat.le_of_ble_eq_true rfl) rfl ?_
  refine aw_aload_n k226_1319 rfl ?_
  refine aw_callV0 k226_1320 hC_L_law ok_M_thrown sv_L_110 hH_M_thrown ⟨rfl, rfl⟩ (by decide) hN_M_thrown (by rw [hL_M_thrown]; exact Nat.le_of_ble_eq_true rfl) (Nat.le_of_ble_eq_true rfl) s_M_thrown ?_
  refine aw_iload k226_1323 rfl ?_
  refine aw_icmp_eq 1330 k226_1325 (by decide) (fun c_1325 => ?_) (fun c_1325 => ?_)
  · refine aw_iload k226_1330 rfl ?_
    refine aw_if_ne 1347 k226_1332 (by decide) (fun c_1332 => ?_) (fun c_1332 => ?_)
    · refine aw_goto (t := 1860) k226_1347 (by decide) ?_
      exact hG
    · refine aw_aload_n k226_1335 rfl ?_
      refine aw_iconst (v := 0) k226_1336 (by decide) ?_
      refine aw_laload k226_1337 ?_
      refine aw_iload k226_1338 rfl ?_
      refine aw_i2l k226_1340 ?_
      refine aw_lcmp_eq 1347 k226_1341 k226_1342 (by decide) (fun c_1341 => ?_) (fun c_1341 => ?_)
      · refine aw_goto (t := 1860) k226_1347 (by decide) ?_
        exact hG
      · exact absurd (hv c_1332) c_1341
  · exact absurd hth c_1325
theorem lc_27 {d i n : Nat} {M : mM} (h : StW M) (hs : Sc i M) (hk : ∀ M2, StW M2 → Wd M M2 → LG d 1860 i n M2) : LG d 1350 i (n + 1) M := by
  intro x5 x6 x7
  have hi := hs.1
  obtain ⟨k, b, n1, M1, M2, hn1, l1, l2, hth, hv, hS2, hw1, hw2⟩ := o_sharedSides (d := d) h (M (15, 0, 0) (i + 1)) (M (15, 0, 0) (i + 2))
  have hs1 := hs.wd hw1
  have e15 := hw1.1
  have ec1 : (nI (i + 1)).toNatClampNeg = i + 1 := sc_c (by omega)
  have ec2 : (nI (i + 2)).toNatClampNeg = i + 2 := sc_c (by omega)
  obtain ⟨M3, hG⟩ := hk M2 hS2 hw2 (some (vI k)) (some (vI b)) x7
  refine ⟨M3, aw_mono (n := n1 + n) (by omega) ?_⟩
  refine aw_aload_n k226_1350 rfl ?_
  refine aw_aload_n k226_1351 rfl ?_
  refine aw_iload k226_1352 rfl ?_
  refine aw_iconst (v := 1) k226_1354 (by decide) ?_
  refine aw_iadd k226_1355 ?_
  rw [nI_1 i]
  refine aw_sload k226_1356 (sc_0 (by omega)) (hs.2 1 (by decide)) ?_
  try simp only [ec1, ec2, e15]
  refine aw_aload_n k226_1357 rfl ?_
  refine aw_iload k226_1358 rfl ?_
  refine aw_iconst (v := 2) k226_1360 (by decide) ?_
  refine aw_iadd k226_1361 ?_
  rw [nI_2 i]
  refine aw_sload k226_1362 (sc_0 (by omega)) (hs.2 2 (by decide)) ?_
  try simp only [ec1, ec2, e15]
  refine aw_aload_n k226_1363 rfl ?_
  refine aw_callSn4 k226_1364 hC_L_law ok_L_sharedSides ss_L_205 (ne_nil hH_L_sharedSides) (by rw [hL_L_sharedSides]; exact Nat.le_of_ble_eq_true rfl) (Nat.le_of_ble_eq_true rfl) l1 ?_
  refine aw_istore k226_1367 (Nat.le_of_ble_eq_true rfl) rfl ?_
  refine aw_aload_n k226_1369 rfl ?_
  refine aw_aload_n k226_1370 rfl ?_
  refine aw_iload k226_1371 rfl ?_
  refine aw_iconst (v := 1) k226_1373 (by decide) ?_
  refine aw_iadd k226_1374 ?_
  rw [nI_1 i]
  refine aw_sload k226_1375 (sc_0 (by omega)) (hs1.2 1 (by decide)) ?_
  try simp only [ec1, ec2, e15]
  refine aw_aload_n k226_1376 rfl ?_
  refine aw_iload k226_1377 rfl ?_
  refine aw_iconst (v := 2) k226_1379 (by decide) ?_
  refine aw_iadd k226_1380 ?_
  rw [nI_2 i]
  refine aw_sload k226_1381 (sc_0 (by omega)) (hs1.2 2 (by decide)) ?_
  try simp only [ec1, ec2, e15]
  refine aw_callV2 k226_1382 hC_L_law ok_M_sharedSides sv_L_207 hH_M_sharedSides ⟨rfl, rfl⟩ (by decide) hN_M_sharedSides (by rw [hL_M_sharedSides]; exact Nat.le_of_ble_eq_true rfl) (Nat.le_of_ble_eq_true rfl) l2 ?_
  refine aw_istore k226_1385 (Nat.le_of_ble_eq_true rfl) rfl ?_
  refine aw_aload_n k226_1387 rfl ?_
  refine aw_callV0 k226_1388 hC_L_law ok_M_thrown sv_L_110 hH_M_thrown ⟨rfl, rfl⟩ (by decide) hN_M_thrown (by rw [hL_M_thrown]; exact Nat.le_of_ble_eq_true rfl) (Nat.le_of_ble_eq_true rfl) s_M_thrown ?_
  refine aw_iload k226_1391 rfl ?_
  refine aw_icmp_eq 1398 k226_1393 (by decide) (fun c_1393 => ?_) (fun c_1393 => ?_)
  · refine aw_iload k226_1398 rfl ?_
    refine aw_if_ne 1415 k226_1400 (by decide) (fun c_1400 => ?_) (fun c_1400 => ?_)
    · refine aw_goto (t := 1860) k226_1415 (by decide) ?_
      exact hG
    · refine aw_aload_n k226_1403 rfl ?_
      refine aw_iconst (v := 0) k226_1404 (by decide) ?_
      refine aw_laload k226_1405 ?_
      refine aw_iload k226_1406 rfl ?_
      refine aw_i2l k226_1408 ?_
      refine aw_lcmp_eq 1415 k226_1409 k226_1410 (by decide) (fun c_1409 => ?_) (fun c_1409 => ?_)
      · refine aw_goto (t := 1860) k226_1415 (by decide) ?_
        exact hG
      · exact absurd (hv c_1400) c_1409
  · exact absurd hth c_1393
theorem lc_28 {d i n : Nat} {M : mM} (h : StW M) (hs : Sc i M) (hk : ∀ M2, StW M2 → Wd M M2 → LG d 1860 i n M2) : LG d 1418 i (n + 1) M := by
  intro x5 x6 x7
  have hi := hs.1
  obtain ⟨k, b, n1, M1, M2, hn1, l1, l2, hth, hv, hS2, hw1, hw2⟩ := o_twiceAreaByCorners (d := d) h (M (15, 0, 0) (i + 1))
  have hs1 := hs.wd hw1
  have e15 := hw1.1
  have ec1 : (nI (i + 1)).toNatClampNeg = i + 1 := sc_c (by omega)
  obtain ⟨M3, hG⟩ := hk M2 hS2 hw2 (some (vI k)) (some (vL b)) none
  refine ⟨M3, aw_mono (n := n1 + n) (by omega) ?_⟩
  refine aw_aload_n k226_1418 rfl ?_
  refine aw_aload_n k226_1419 rfl ?_
  refine aw_iload k226_1420 rfl ?_
  refine aw_iconst (v := 1) k226_1422 (by decide) ?_
  refine aw_iadd k226_1423 ?_
  rw [nI_1 i]
  refine aw_sload k226_1424 (sc_0 (by omega)) (hs.2 1 (by decide)) ?_
  try simp only [ec1, e15]
  refine aw_aload_n k226_1425 rfl ?_
  refine aw_callSn3 k226_1426 hC_L_law ok_L_twiceAreaByCorners ss_L_208 (ne_nil hH_L_twiceAreaByCorners) (by rw [hL_L_twiceAreaByCorners]; exact Nat.le_of_ble_eq_true rfl) (Nat.le_of_ble_eq_true rfl) l1 ?_
  refine aw_istore k226_1429 (Nat.le_of_ble_eq_true rfl) rfl ?_
  refine aw_aload_n k226_1431 rfl ?_
  refine aw_aload_n k226_1432 rfl ?_
  refine aw_iload k226_1433 rfl ?_
  refine aw_iconst (v := 1) k226_1435 (by decide) ?_
  refine aw_iadd k226_1436 ?_
  rw [nI_1 i]
  refine aw_sload k226_1437 (sc_0 (by omega)) (hs1.2 1 (by decide)) ?_
  try simp only [ec1, e15]
  refine aw_callV1 k226_1438 hC_L_law ok_M_twiceAreaByCorners sv_L_210 hH_M_twiceAreaByCorners ⟨rfl, rfl⟩ (by decide) hN_M_twiceAreaByCorners (by rw [hL_M_twiceAreaByCorners]; exact Nat.le_of_ble_eq_true rfl) (Nat.le_of_ble_eq_true rfl) l2 ?_
  refine aw_lstore k226_1441 (Nat.le_of_ble_eq_true rfl) rfl ?_
  refine aw_aload_n k226_1443 rfl ?_
  refine aw_callV0 k226_1444 hC_L_law ok_M_thrown sv_L_110 hH_M_thrown ⟨rfl, rfl⟩ (by decide) hN_M_thrown (by rw [hL_M_thrown]; exact Nat.le_of_ble_eq_true rfl) (Nat.le_of_ble_eq_true rfl) s_M_thrown ?_
  refine aw_iload k226_1447 rfl ?_
  refine aw_icmp_eq 1454 k226_1449 (by decide) (fun c_1449 => ?_) (fun c_1449 => ?_)
  · refine aw_iload k226_1454 rfl ?_
    refine aw_if_ne 1470 k226_1456 (by decide) (fun c_1456 => ?_) (fun c_1456 => ?_)
    · refine aw_goto (t := 1860) k226_1470 (by decide) ?_
      exact hG
    · refine aw_aload_n k226_1459 rfl ?_
      refine aw_iconst (v := 0) k226_1460 (by decide) ?_
      refine aw_laload k226_1461 ?_
      refine aw_lload k226_1462 rfl ?_
      refine aw_lcmp_eq 1470 k226_1464 k226_1465 (by decide) (fun c_1464 => ?_) (fun c_1464 => ?_)
      · refine aw_goto (t := 1860) k226_1470 (by decide) ?_
        exact hG
      · exact absurd (hv c_1456) c_1464
  · exact absurd hth c_1449
theorem lc_29 {d i n : Nat} {M : mM} (h : StW M) (hs : Sc i M) (hk : ∀ M2, StW M2 → Wd M M2 → LG d 1860 i n M2) : LG d 1473 i (n + 1) M := by
  intro x5 x6 x7
  have hi := hs.1
  obtain ⟨k, b, n1, M1, M2, hn1, l1, l2, hth, hv, hS2, hw1, hw2⟩ := o_twiceAreaByStrips (d := d) h (M (15, 0, 0) (i + 1))
  have hs1 := hs.wd hw1
  have e15 := hw1.1
  have ec1 : (nI (i + 1)).toNatClampNeg = i + 1 := sc_c (by omega)
  obtain ⟨M3, hG⟩ := hk M2 hS2 hw2 (some (vI k)) (some (vL b)) none
  refine ⟨M3, aw_mono (n := n1 + n) (by omega) ?_⟩
  refine aw_aload_n k226_1473 rfl ?_
  refine aw_aload_n k226_1474 rfl ?_
  refine aw_iload k226_1475 rfl ?_
  refine aw_iconst (v := 1) k226_1477 (by decide) ?_
  refine aw_iadd k226_1478 ?_
  rw [nI_1 i]
  refine aw_sload k226_1479 (sc_0 (by omega)) (hs.2 1 (by decide)) ?_
  try simp only [ec1, e15]
  refine aw_aload_n k226_1480 rfl ?_
  refine aw_callSn3 k226_1481 hC_L_law ok_L_twiceAreaByStrips ss_L_211 (ne_nil hH_L_twiceAreaByStrips) (by rw [hL_L_twiceAreaByStrips]; exact Nat.le_of_ble_eq_true rfl) (Nat.le_of_ble_eq_true rfl) l1 ?_
  refine aw_istore k226_1484 (Nat.le_of_ble_eq_true rfl) rfl ?_
  refine aw_aload_n k226_1486 rfl ?_
  refine aw_aload_n k226_1487 rfl ?_
  refine aw_iload k226_1488 rfl ?_
  refine aw_iconst (v := 1) k226_1490 (by decide) ?_
  refine aw_iadd k226_1491 ?_
  rw [nI_1 i]
  refine aw_sload k226_1492 (sc_0 (by omega)) (hs1.2 1 (by decide)) ?_
  try simp only [ec1, e15]
  refine aw_callV1 k226_1493 hC_L_law ok_M_twiceAreaByStrips sv_L_213 hH_M_twiceAreaByStrips ⟨rfl, rfl⟩ (by decide) hN_M_twiceAreaByStrips (by rw [hL_M_twiceAreaByStrips]; exact Nat.le_of_ble_eq_true rfl) (Nat.le_of_ble_eq_true rfl) l2 ?_
  refine aw_lstore k226_1496 (Nat.le_of_ble_eq_true rfl) rfl ?_
  refine aw_aload_n k226_1498 rfl ?_
  refine aw_callV0 k226_1499 hC_L_law ok_M_thrown sv_L_110 hH_M_thrown ⟨rfl, rfl⟩ (by decide) hN_M_thrown (by rw [hL_M_thrown]; exact Nat.le_of_ble_eq_true rfl) (Nat.le_of_ble_eq_true rfl) s_M_thrown ?_
  refine aw_iload k226_1502 rfl ?_
  refine aw_icmp_eq 1509 k226_1504 (by decide) (fun c_1504 => ?_) (fun c_1504 => ?_)
  · refine aw_iload k226_1509 rfl ?_
    refine aw_if_ne 1525 k226_1511 (by decide) (fun c_1511 => ?_) (fun c_1511 => ?_)
    · refine aw_goto (t := 1860) k226_1525 (by decide) ?_
      exact hG
    · refine aw_aload_n k226_1514 rfl ?_
      refine aw_iconst (v := 0) k226_1515 (by decide) ?_
      refine aw_laload k226_1516 ?_
      refine aw_lload k226_1517 rfl ?_
      refine aw_lcmp_eq 1525 k226_1519 k226_1520 (by decide) (fun c_1519 => ?_) (fun c_1519 => ?_)
      · refine aw_goto (t := 1860) k226_1525 (by decide) ?_
        exact hG
      · exact absurd (hv c_1511) c_1519
  · exact absurd hth c_1504
theorem lc_30 {d i n : Nat} {M : mM} (h : StW M) (hs : Sc i M) (hk : ∀ M2, StW M2 → Wd M M2 → LG d 1860 i n M2) : LG d 1528 i (n + 1) M := by
  intro x5 x6 x7
  have hi := hs.1
  obtain ⟨k, b, n1, M1, M2, hn1, l1, l2, hth, hv, hS2, hw1, hw2⟩ := o_acresOf (d := d) h (M (15, 0, 0) (i + 1))
  have hs1 := hs.wd hw1
  have e15 := hw1.1
  have ec1 : (nI (i + 1)).toNatClampNeg = i + 1 := sc_c (by omega)
  obtain ⟨M3, hG⟩ := hk M2 hS2 hw2 (some (vI k)) (some (vI b)) x7
  refine ⟨M3, aw_mono (n := n1 + n) (by omega) ?_⟩
  refine aw_aload_n k226_1528 rfl ?_
  refine aw_aload_n k226_1529 rfl ?_
  refine aw_iload k226_1530 rfl ?_
  refine aw_iconst (v := 1) k226_1532 (by decide) ?_
  refine aw_iadd k226_1533 ?_
  rw [nI_1 i]
  refine aw_sload k226_1534 (sc_0 (by omega)) (hs.2 1 (by decide)) ?_
  try simp only [ec1, e15]
  refine aw_aload_n k226_1535 rfl ?_
  refine aw_callSn3 k226_1536 hC_L_law ok_L_acresOf ss_L_214 (ne_nil hH_L_acresOf) (by rw [hL_L_acresOf]; exact Nat.le_of_ble_eq_true rfl) (Nat.le_of_ble_eq_true rfl) l1 ?_
  refine aw_istore k226_1539 (Nat.le_of_ble_eq_true rfl) rfl ?_
  refine aw_aload_n k226_1541 rfl ?_
  refine aw_aload_n k226_1542 rfl ?_
  refine aw_iload k226_1543 rfl ?_
  refine aw_iconst (v := 1) k226_1545 (by decide) ?_
  refine aw_iadd k226_1546 ?_
  rw [nI_1 i]
  refine aw_sload k226_1547 (sc_0 (by omega)) (hs1.2 1 (by decide)) ?_
  try simp only [ec1, e15]
  refine aw_callV1 k226_1548 hC_L_law ok_M_acresOf sv_L_216 hH_M_acresOf ⟨rfl, rfl⟩ (by decide) hN_M_acresOf (by rw [hL_M_acresOf]; exact Nat.le_of_ble_eq_true rfl) (Nat.le_of_ble_eq_true rfl) l2 ?_
  refine aw_istore k226_1551 (Nat.le_of_ble_eq_true rfl) rfl ?_
  refine aw_aload_n k226_1553 rfl ?_
  refine aw_callV0 k226_1554 hC_L_law ok_M_thrown sv_L_110 hH_M_thrown ⟨rfl, rfl⟩ (by decide) hN_M_thrown (by rw [hL_M_thrown]; exact Nat.le_of_ble_eq_true rfl) (Nat.le_of_ble_eq_true rfl) s_M_thrown ?_
  refine aw_iload k226_1557 rfl ?_
  refine aw_icmp_eq 1564 k226_1559 (by decide) (fun c_1559 => ?_) (fun c_1559 => ?_)
  · refine aw_iload k226_1564 rfl ?_
    refine aw_if_ne 1581 k226_1566 (by decide) (fun c_1566 => ?_) (fun c_1566 => ?_)
    · refine aw_goto (t := 1860) k226_1581 (by decide) ?_
      exact hG
    · refine aw_aload_n k226_1569 rfl ?_
      refine aw_iconst (v := 0) k226_1570 (by decide) ?_
      refine aw_laload k226_1571 ?_
      refine aw_iload k226_1572 rfl ?_
      refine aw_i2l k226_1574 ?_
      refine aw_lcmp_eq 1581 k226_1575 k226_1576 (by decide) (fun c_1575 => ?_) (fun c_1575 => ?_)
      · refine aw_goto (t := 1860) k226_1581 (by decide) ?_
        exact hG
      · exact absurd (hv c_1566) c_1575
  · exact absurd hth c_1559
theorem lc_31 {d i n : Nat} {M : mM} (h : StW M) (hs : Sc i M) (hk : ∀ M2, StW M2 → Wd M M2 → LG d 1860 i n M2) : LG d 1584 i (n + 1) M := by
  intro x5 x6 x7
  have hi := hs.1
  obtain ⟨k, b, n1, M1, M2, hn1, l1, l2, hth, hv, hS2, hw1, hw2⟩ := o_roodsOf (d := d) h (M (15, 0, 0) (i + 1))
  have hs1 := hs.wd hw1
  have e15 := hw1.1
  have ec1 : (nI (i + 1)).toNatClampNeg = i + 1 := sc_c (by omega)
  obtain ⟨M3, hG⟩ := hk M2 hS2 hw2 (some (vI k)) (some (vI b)) x7
  refine ⟨M3, aw_mono (n := n1 + n) (by omega) ?_⟩
  refine aw_aload_n k226_1584 rfl ?_
  refine aw_aload_n k226_1585 rfl ?_
  refine aw_iload k226_1586 rfl ?_
  refine aw_iconst (v := 1) k226_1588 (by decide) ?_
  refine aw_iadd k226_1589 ?_
  rw [nI_1 i]
  refine aw_sload k226_1590 (sc_0 (by omega)) (hs.2 1 (by decide)) ?_
  try simp only [ec1, e15]
  refine aw_aload_n k226_1591 rfl ?_
  refine aw_callSn3 k226_1592 hC_L_law ok_L_roodsOf ss_L_217 (ne_nil hH_L_roodsOf) (by rw [hL_L_roodsOf]; exact Nat.le_of_ble_eq_true rfl) (Nat.le_of_ble_eq_true rfl) l1 ?_
  refine aw_istore k226_1595 (Nat.le_of_ble_eq_true rfl) rfl ?_
  refine aw_aload_n k226_1597 rfl ?_
  refine aw_aload_n k226_1598 rfl ?_
  refine aw_iload k226_1599 rfl ?_
  refine aw_iconst (v := 1) k226_1601 (by decide) ?_
  refine aw_iadd k226_1602 ?_
  rw [nI_1 i]
  refine aw_sload k226_1603 (sc_0 (by omega)) (hs1.2 1 (by decide)) ?_
  try simp only [ec1, e15]
  refine aw_callV1 k226_1604 hC_L_law ok_M_roodsOf sv_L_219 hH_M_roodsOf ⟨rfl, rfl⟩ (by decide) hN_M_roodsOf (by rw [hL_M_roodsOf]; exact Nat.le_of_ble_eq_true rfl) (Nat.le_of_ble_eq_true rfl) l2 ?_
  refine aw_istore k226_1607 (Nat.le_of_ble_eq_true rfl) rfl ?_
  refine aw_aload_n k226_1609 rfl ?_
  refine aw_callV0 k226_1610 hC_L_law ok_M_thrown sv_L_110 hH_M_thrown ⟨rfl, rfl⟩ (by decide) hN_M_thrown (by rw [hL_M_thrown]; exact Nat.le_of_ble_eq_true rfl) (Nat.le_of_ble_eq_true rfl) s_M_thrown ?_
  refine aw_iload k226_1613 rfl ?_
  refine aw_icmp_eq 1620 k226_1615 (by decide) (fun c_1615 => ?_) (fun c_1615 => ?_)
  · refine aw_iload k226_1620 rfl ?_
    refine aw_if_ne 1637 k226_1622 (by decide) (fun c_1622 => ?_) (fun c_1622 => ?_)
    · refine aw_goto (t := 1860) k226_1637 (by decide) ?_
      exact hG
    · refine aw_aload_n k226_1625 rfl ?_
      refine aw_iconst (v := 0) k226_1626 (by decide) ?_
      refine aw_laload k226_1627 ?_
      refine aw_iload k226_1628 rfl ?_
      refine aw_i2l k226_1630 ?_
      refine aw_lcmp_eq 1637 k226_1631 k226_1632 (by decide) (fun c_1631 => ?_) (fun c_1631 => ?_)
      · refine aw_goto (t := 1860) k226_1637 (by decide) ?_
        exact hG
      · exact absurd (hv c_1622) c_1631
  · exact absurd hth c_1615
theorem lc_32 {d i n : Nat} {M : mM} (h : StW M) (hs : Sc i M) (hk : ∀ M2, StW M2 → Wd M M2 → LG d 1860 i n M2) : LG d 1640 i (n + 1) M := by
  intro x5 x6 x7
  have hi := hs.1
  obtain ⟨k, b, n1, M1, M2, hn1, l1, l2, hth, hv, hS2, hw1, hw2⟩ := o_perchesOf (d := d) h (M (15, 0, 0) (i + 1))
  have hs1 := hs.wd hw1
  have e15 := hw1.1
  have ec1 : (nI (i + 1)).toNatClampNeg = i + 1 := sc_c (by omega)
  obtain ⟨M3, hG⟩ := hk M2 hS2 hw2 (some (vI k)) (some (vI b)) x7
  refine ⟨M3, aw_mono (n := n1 + n) (by omega) ?_⟩
  refine aw_aload_n k226_1640 rfl ?_
  refine aw_aload_n k226_1641 rfl ?_
  refine aw_iload k226_1642 rfl ?_
  refine aw_iconst (v := 1) k226_1644 (by decide) ?_
  refine aw_iadd k226_1645 ?_
  rw [nI_1 i]
  refine aw_sload k226_1646 (sc_0 (by omega)) (hs.2 1 (by decide)) ?_
  try simp only [ec1, e15]
  refine aw_aload_n k226_1647 rfl ?_
  refine aw_callSn3 k226_1648 hC_L_law ok_L_perchesOf ss_L_220 (ne_nil hH_L_perchesOf) (by rw [hL_L_perchesOf]; exact Nat.le_of_ble_eq_true rfl) (Nat.le_of_ble_eq_true rfl) l1 ?_
  refine aw_istore k226_1651 (Nat.le_of_ble_eq_true rfl) rfl ?_
  refine aw_aload_n k226_1653 rfl ?_
  refine aw_aload_n k226_1654 rfl ?_
  refine aw_iload k226_1655 rfl ?_
  refine aw_iconst (v := 1) k226_1657 (by decide) ?_
  refine aw_iadd k226_1658 ?_
  rw [nI_1 i]
  refine aw_sload k226_1659 (sc_0 (by omega)) (hs1.2 1 (by decide)) ?_
  try simp only [ec1, e15]
  refine aw_callV1 k226_1660 hC_L_law ok_M_perchesOf sv_L_222 hH_M_perchesOf ⟨rfl, rfl⟩ (by decide) hN_M_perchesOf (by rw [hL_M_perchesOf]; exact Nat.le_of_ble_eq_true rfl) (Nat.le_of_ble_eq_true rfl) l2 ?_
  refine aw_istore k226_1663 (Nat.le_of_ble_eq_true rfl) rfl ?_
  refine aw_aload_n k226_1665 rfl ?_
  refine aw_callV0 k226_1666 hC_L_law ok_M_thrown sv_L_110 hH_M_thrown ⟨rfl, rfl⟩ (by decide) hN_M_thrown (by rw [hL_M_thrown]; exact Nat.le_of_ble_eq_true rfl) (Nat.le_of_ble_eq_true rfl) s_M_thrown ?_
  refine aw_iload k226_1669 rfl ?_
  refine aw_icmp_eq 1676 k226_1671 (by decide) (fun c_1671 => ?_) (fun c_1671 => ?_)
  · refine aw_iload k226_1676 rfl ?_
    refine aw_if_ne 1693 k226_1678 (by decide) (fun c_1678 => ?_) (fun c_1678 => ?_)
    · refine aw_goto (t := 1860) k226_1693 (by decide) ?_
      exact hG
    · refine aw_aload_n k226_1681 rfl ?_
      refine aw_iconst (v := 0) k226_1682 (by decide) ?_
      refine aw_laload k226_1683 ?_
      refine aw_iload k226_1684 rfl ?_
      refine aw_i2l k226_1686 ?_
      refine aw_lcmp_eq 1693 k226_1687 k226_1688 (by decide) (fun c_1687 => ?_) (fun c_1687 => ?_)
      · refine aw_goto (t := 1860) k226_1693 (by decide) ?_
        exact hG
      · exact absurd (hv c_1678) c_1687
  · exact absurd hth c_1671
theorem lc_33 {d i n : Nat} {M : mM} (h : StW M) (hs : Sc i M) (hk : ∀ M2, StW M2 → Wd M M2 → LG d 1860 i n M2) : LG d 1696 i (n + 1) M := by
  intro x5 x6 x7
  obtain ⟨v, M1, M2, l1, l2, hS2, hw2⟩ := o_largestField (d := d) h
  obtain ⟨M3, hG⟩ := hk M2 hS2 hw2 x5 x6 x7
  refine ⟨M3, aw_mono (n := n) (by omega) ?_⟩
  refine aw_aload_n k226_1696 rfl ?_
  refine aw_callV0 k226_1697 hC_L_law ok_A_largestField sv_L_223 hH_A_largestField ⟨rfl, rfl⟩ (by decide) hN_A_largestField (by rw [hL_A_largestField]; exact Nat.le_of_ble_eq_true rfl) (Nat.le_of_ble_eq_true rfl) l1 ?_
  refine aw_aload_n k226_1700 rfl ?_
  refine aw_callV0 k226_1701 hC_L_law ok_M_largestField sv_L_226 hH_M_largestField ⟨rfl, rfl⟩ (by decide) hN_M_largestField (by rw [hL_M_largestField]; exact Nat.le_of_ble_eq_true rfl) (Nat.le_of_ble_eq_true rfl) l2 ?_
  refine aw_icmp_eq 1860 k226_1704 (by decide) (fun c_1704 => ?_) (fun c_1704 => ?_)
  · exact hG
  · exact absurd rfl c_1704
theorem lc_34 {d i n : Nat} {M : mM} (h : StW M) (hs : Sc i M) (hk : ∀ M2, StW M2 → Wd M M2 → LG d 1860 i n M2) : LG d 1709 i (n + 1) M := by
  intro x5 x6 x7
  obtain ⟨v, M1, M2, l1, l2, hS2, hw2⟩ := o_twiceAreaOfAll (d := d) h
  obtain ⟨M3, hG⟩ := hk M2 hS2 hw2 x5 x6 x7
  refine ⟨M3, aw_mono (n := n) (by omega) ?_⟩
  refine aw_aload_n k226_1709 rfl ?_
  refine aw_callV0 k226_1710 hC_L_law ok_A_twiceAreaOfAll sv_L_227 hH_A_twiceAreaOfAll ⟨rfl, rfl⟩ (by decide) hN_A_twiceAreaOfAll (by rw [hL_A_twiceAreaOfAll]; exact Nat.le_of_ble_eq_true rfl) (Nat.le_of_ble_eq_true rfl) l1 ?_
  refine aw_aload_n k226_1713 rfl ?_
  refine aw_callV0 k226_1714 hC_L_law ok_M_twiceAreaOfAll sv_L_231 hH_M_twiceAreaOfAll ⟨rfl, rfl⟩ (by decide) hN_M_twiceAreaOfAll (by rw [hL_M_twiceAreaOfAll]; exact Nat.le_of_ble_eq_true rfl) (Nat.le_of_ble_eq_true rfl) l2 ?_
  refine aw_lcmp_eq 1860 k226_1717 k226_1718 (by decide) (fun c_1717 => ?_) (fun c_1717 => ?_)
  · exact hG
  · exact absurd rfl c_1717
theorem lc_35 {d i n : Nat} {M : mM} (h : StW M) (hs : Sc i M) (hk : ∀ M2, StW M2 → Wd M M2 → LG d 1860 i n M2) : LG d 1723 i (n + 1) M := by
  intro x5 x6 x7
  have hi := hs.1
  obtain ⟨k, b, n1, M1, M2, hn1, l1, l2, hth, hv, hS2, hw1, hw2⟩ := o_sheetsFor (d := d) h (M (15, 0, 0) (i + 1)) (M (15, 0, 0) (i + 2))
  have hs1 := hs.wd hw1
  have e15 := hw1.1
  have ec1 : (nI (i + 1)).toNatClampNeg = i + 1 := sc_c (by omega)
  have ec2 : (nI (i + 2)).toNatClampNeg = i + 2 := sc_c (by omega)
  obtain ⟨M3, hG⟩ := hk M2 hS2 hw2 (some (vI k)) (some (vI b)) x7
  refine ⟨M3, aw_mono (n := n1 + n) (by omega) ?_⟩
  refine aw_aload_n k226_1723 rfl ?_
  refine aw_aload_n k226_1724 rfl ?_
  refine aw_iload k226_1725 rfl ?_
  refine aw_iconst (v := 1) k226_1727 (by decide) ?_
  refine aw_iadd k226_1728 ?_
  rw [nI_1 i]
  refine aw_sload k226_1729 (sc_0 (by omega)) (hs.2 1 (by decide)) ?_
  try simp only [ec1, ec2, e15]
  refine aw_aload_n k226_1730 rfl ?_
  refine aw_iload k226_1731 rfl ?_
  refine aw_iconst (v := 2) k226_1733 (by decide) ?_
  refine aw_iadd k226_1734 ?_
  rw [nI_2 i]
  refine aw_sload k226_1735 (sc_0 (by omega)) (hs.2 2 (by decide)) ?_
  try simp only [ec1, ec2, e15]
  refine aw_aload_n k226_1736 rfl ?_
  refine aw_callSn4 k226_1737 hC_L_law ok_L_sheetsFor ss_L_232 (ne_nil hH_L_sheetsFor) (by rw [hL_L_sheetsFor]; exact Nat.le_of_ble_eq_true rfl) (Nat.le_of_ble_eq_true rfl) l1 ?_
  refine aw_istore k226_1740 (Nat.le_of_ble_eq_true rfl) rfl ?_
  refine aw_aload_n k226_1742 rfl ?_
  refine aw_aload_n k226_1743 rfl ?_
  refine aw_iload k226_1744 rfl ?_
  refine aw_iconst (v := 1) k226_1746 (by decide) ?_
  refine aw_iadd k226_1747 ?_
  rw [nI_1 i]
  refine aw_sload k226_1748 (sc_0 (by omega)) (hs1.2 1 (by decide)) ?_
  try simp only [ec1, ec2, e15]
  refine aw_aload_n k226_1749 rfl ?_
  refine aw_iload k226_1750 rfl ?_
  refine aw_iconst (v := 2) k226_1752 (by decide) ?_
  refine aw_iadd k226_1753 ?_
  rw [nI_2 i]
  refine aw_sload k226_1754 (sc_0 (by omega)) (hs1.2 2 (by decide)) ?_
  try simp only [ec1, ec2, e15]
  refine aw_callV2 k226_1755 hC_L_law ok_M_sheetsFor sv_L_234 hH_M_sheetsFor ⟨rfl, rfl⟩ (by decide) hN_M_sheetsFor (by rw [hL_M_sheetsFor]; exact Nat.le_of_ble_eq_true rfl) (Nat.le_of_ble_eq_true rfl) l2 ?_
  refine aw_istore k226_1758 (Nat.le_of_ble_eq_true rfl) rfl ?_
  refine aw_aload_n k226_1760 rfl ?_
  refine aw_callV0 k226_1761 hC_L_law ok_M_thrown sv_L_110 hH_M_thrown ⟨rfl, rfl⟩ (by decide) hN_M_thrown (by rw [hL_M_thrown]; exact Nat.le_of_ble_eq_true rfl) (Nat.le_of_ble_eq_true rfl) s_M_thrown ?_
  refine aw_iload k226_1764 rfl ?_
  refine aw_icmp_eq 1771 k226_1766 (by decide) (fun c_1766 => ?_) (fun c_1766 => ?_)
  · refine aw_iload k226_1771 rfl ?_
    refine aw_if_ne 1788 k226_1773 (by decide) (fun c_1773 => ?_) (fun c_1773 => ?_)
    · refine aw_goto (t := 1860) k226_1788 (by decide) ?_
      exact hG
    · refine aw_aload_n k226_1776 rfl ?_
      refine aw_iconst (v := 0) k226_1777 (by decide) ?_
      refine aw_laload k226_1778 ?_
      refine aw_iload k226_1779 rfl ?_
      refine aw_i2l k226_1781 ?_
      refine aw_lcmp_eq 1788 k226_1782 k226_1783 (by decide) (fun c_1782 => ?_) (fun c_1782 => ?_)
      · refine aw_goto (t := 1860) k226_1788 (by decide) ?_
        exact hG
      · exact absurd (hv c_1773) c_1782
  · exact absurd hth c_1766
theorem lc_36 {d i n : Nat} {M : mM} (h : StW M) (hs : Sc i M) (hk : ∀ M2, StW M2 → Wd M M2 → LG d 1860 i n M2) : LG d 1791 i (n + 1) M := by
  intro x5 x6 x7
  have hi := hs.1
  obtain ⟨k, b, n1, M1, M2, hn1, l1, l2, hth, hv, hS2, hw1, hw2⟩ := o_scaleFor (d := d) h (M (15, 0, 0) (i + 1))
  have hs1 := hs.wd hw1
  have e15 := hw1.1
  have ec1 : (nI (i + 1)).toNatClampNeg = i + 1 := sc_c (by omega)
  obtain ⟨M3, hG⟩ := hk M2 hS2 hw2 (some (vI k)) (some (vI b)) x7
  refine ⟨M3, aw_mono (n := n1 + n) (by omega) ?_⟩
  refine aw_aload_n k226_1791 rfl ?_
  refine aw_aload_n k226_1792 rfl ?_
  refine aw_iload k226_1793 rfl ?_
  refine aw_iconst (v := 1) k226_1795 (by decide) ?_
  refine aw_iadd k226_1796 ?_
  rw [nI_1 i]
  refine aw_sload k226_1797 (sc_0 (by omega)) (hs.2 1 (by decide)) ?_
  try simp only [ec1, e15]
  refine aw_aload_n k226_1798 rfl ?_
  refine aw_callSn3 k226_1799 hC_L_law ok_L_scaleFor ss_L_235 (ne_nil hH_L_scaleFor) (by rw [hL_L_scaleFor]; exact Nat.le_of_ble_eq_true rfl) (Nat.le_of_ble_eq_true rfl) l1 ?_
  refine aw_istore k226_1802 (Nat.le_of_ble_eq_true rfl) rfl ?_
  refine aw_aload_n k226_1804 rfl ?_
  refine aw_aload_n k226_1805 rfl ?_
  refine aw_iload k226_1806 rfl ?_
  refine aw_iconst (v := 1) k226_1808 (by decide) ?_
  refine aw_iadd k226_1809 ?_
  rw [nI_1 i]
  refine aw_sload k226_1810 (sc_0 (by omega)) (hs1.2 1 (by decide)) ?_
  try simp only [ec1, e15]
  refine aw_callV1 k226_1811 hC_L_law ok_M_scaleFor sv_L_237 hH_M_scaleFor ⟨rfl, rfl⟩ (by decide) hN_M_scaleFor (by rw [hL_M_scaleFor]; exact Nat.le_of_ble_eq_true rfl) (Nat.le_of_ble_eq_true rfl) l2 ?_
  refine aw_istore k226_1814 (Nat.le_of_ble_eq_true rfl) rfl ?_
  refine aw_aload_n k226_1816 rfl ?_
  refine aw_callV0 k226_1817 hC_L_law ok_M_thrown sv_L_110 hH_M_thrown ⟨rfl, rfl⟩ (by decide) hN_M_thrown (by rw [hL_M_thrown]; exact Nat.le_of_ble_eq_true rfl) (Nat.le_of_ble_eq_true rfl) s_M_thrown ?_
  refine aw_iload k226_1820 rfl ?_
  refine aw_icmp_eq 1827 k226_1822 (by decide) (fun c_1822 => ?_) (fun c_1822 => ?_)
  · refine aw_iload k226_1827 rfl ?_
    refine aw_if_ne 1844 k226_1829 (by decide) (fun c_1829 => ?_) (fun c_1829 => ?_)
    · refine aw_goto (t := 1860) k226_1844 (by decide) ?_
      exact hG
    · refine aw_aload_n k226_1832 rfl ?_
      refine aw_iconst (v := 0) k226_1833 (by decide) ?_
      refine aw_laload k226_1834 ?_
      refine aw_iload k226_1835 rfl ?_
      refine aw_i2l k226_1837 ?_
      refine aw_lcmp_eq 1844 k226_1838 k226_1839 (by decide) (fun c_1838 => ?_) (fun c_1838 => ?_)
      · refine aw_goto (t := 1860) k226_1844 (by decide) ?_
        exact hG
      · exact absurd (hv c_1829) c_1838
  · exact absurd hth c_1822
theorem lc_37 {d i n : Nat} {M : mM} (h : StW M) (hs : Sc i M) (hk : ∀ M2, StW M2 → Wd M M2 → LG d 1860 i n M2) : LG d 1847 i (n + 1) M := by
  intro x5 x6 x7
  obtain ⟨v, M1, M2, l1, l2, hS2, hw2⟩ := o_recordedStates (d := d) h
  obtain ⟨M3, hG⟩ := hk M2 hS2 hw2 x5 x6 x7
  refine ⟨M3, aw_mono (n := n) (by omega) ?_⟩
  refine aw_aload_n k226_1847 rfl ?_
  refine aw_callV0 k226_1848 hC_L_law ok_A_recordedStates sv_L_238 hH_A_recordedStates ⟨rfl, rfl⟩ (by decide) hN_A_recordedStates (by rw [hL_A_recordedStates]; exact Nat.le_of_ble_eq_true rfl) (Nat.le_of_ble_eq_true rfl) l1 ?_
  refine aw_aload_n k226_1851 rfl ?_
  refine aw_callV0 k226_1852 hC_L_law ok_M_recordedStates sv_L_241 hH_M_recordedStates ⟨rfl, rfl⟩ (by decide) hN_M_recordedStates (by rw [hL_M_recordedStates]; exact Nat.le_of_ble_eq_true rfl) (Nat.le_of_ble_eq_true rfl) l2 ?_
  refine aw_icmp_eq 1860 k226_1855 (by decide) (fun c_1855 => ?_) (fun c_1855 => ?_)
  · exact hG
  · exact absurd rfl c_1855
