/-! THE LAW: fits -/
set_option maxHeartbeats 8000000 in
theorem c_fits {d L j : Nat} {M : mM} {f t : Nat → Int32} {hs : List (Nat → Int32)} {sn : Option (Nat → Int32)} {v : Int32} (hC : CR M f hs sn t L) (hG : Gp f) (hj : j < fC f) : CT iL_fits (d + 9) [vR 5 0 0, vI (nI j), vI v] M (.inl (some (vI 1))) M 0 := by
  have hR := hC.1
  obtain ⟨hS, hB, hP⟩ := id hG
  have h6 := hS.2.2.2.1
  obtain ⟨e40, hm3, hm12⟩ := hS.2.2.2.2 j hj
  have hbd := (hP j hj).2
  have hhF : hasF f (nI j) = true := hasF_nI hS.2.2.1 h6 hj
  have ej : (nI j).toNatClampNeg = j := nI_clamp (by omega)
  generalize hm : bN f j = m at e40 hm3 hm12 hbd
  have kC : CT iA_cornersOf (d + 8) [vR 5 0 0, vI (nI j)] M (.inl (some (vI (nI m)))) M 0 := by
    have := s_A_cornersOf (d := d) hC hhF
    rw [ej, e40] at this
    exact this
  have kE : ∀ k, k < m → CT iA_cornerEast (d + 8) [vR 5 0 0, vI (nI j), vI (nI k)] M (.inl (some (vI (fX f j k)))) M 0 := fun k hk => by
    have ek : (nI k).toNatClampNeg = k := nI_clamp (by omega)
    have := s_A_cornerEast (d := d) (M := M) (x := nI j) (y := nI k) hR hhF ⟨i_ge0 (by rw [nI_i (by omega)]; omega), by rw [ej, e40]; exact (nI_ltI (by omega) (by omega)).mpr hk⟩
    rw [ej, ek] at this
    exact this
  have kN : ∀ k, k < m → CT iA_cornerNorth (d + 8) [vR 5 0 0, vI (nI j), vI (nI k)] M (.inl (some (vI (fY f j k)))) M 0 := fun k hk => by
    have ek : (nI k).toNatClampNeg = k := nI_clamp (by omega)
    have := s_A_cornerNorth (d := d) (M := M) (x := nI j) (y := nI k) hR hhF ⟨i_ge0 (by rw [nI_i (by omega)]; omega), by rw [ej, e40]; exact (nI_ltI (by omega) (by omega)).mpr hk⟩
    rw [ej, ek] at this
    exact this
  have kS : CT iA_scaleFor (d + 8) [vR 5 0 0, vI (nI j)] M (.inl (some (vI (scF (exX f j) (exY f j))))) M 0 := by
    have := s_A_scaleFor (d := d) hC hhF
    rw [ej] at this
    exact this
  have kH : ∀ {y : Int32}, 10 ≤ y.toInt → y.toInt ≤ 1000 → CT iA_sheetsFor (d + 8) [vR 5 0 0, vI (nI j), vI y] M (.inl (some (vI (pcs (exX f j) (20 * y) * pcs (exY f j) (20 * y))))) M 0 := fun {y} h1 h2 => by
    have := s_A_sheetsFor (d := d) hC hhF (y := y) ⟨by rw [Int32.le_iff_toInt_le]; exact h1, by rw [Int32.le_iff_toInt_le]; exact h2⟩
    rw [ej] at this
    exact this
  have kM : ∀ {x y : Int32}, bi x 200000 → bi y 200000 → CT iA_sidesEastOf (d + 8) [vR 5 0 0, vI (nI j), vI x, vI y] M (.inl (some (vI (nI (meF f j x y))))) M 0 := fun {x y} h1 h2 => by
    have z : (200000 : Int32).toInt = 200000 := rfl
    have := s_A_sidesEastOf (d := d) hC hhF (y := x) (z := y) ((inR_i (by decide)).mpr (by rw [z]; exact h1)) ((inR_i (by decide)).mpr (by rw [z]; exact h2))
    rw [ej] at this
    exact this
  -- the least and the greatest
  have hX := min_bd (X := fX f j) (A := 180000) (m - 1) (fun k hk => (hbd k (by omega)).1)
  have hY := min_bd (X := fY f j) (A := 180000) (m - 1) (fun k hk => (hbd k (by omega)).2)
  have mX := min_le (X := fX f j) (m - 1)
  have mY := min_le (X := fY f j) (m - 1)
  have eX : exX f j = maxV (fX f j) (m - 1) - minV (fX f j) (m - 1) := by unfold exX; rw [hm]
  have eY : exY f j = maxV (fY f j) (m - 1) - minV (fY f j) (m - 1) := by unfold exY; rw [hm]
  have hdm : ∀ x y : Int32, ∀ k, k < m → k ≤ m - 1 := fun _ _ k hk => by omega
  generalize hlo : minV (fX f j) (m - 1) = lo at hX mX eX
  generalize hhi : maxV (fX f j) (m - 1) = hi at hX mX eX
  generalize hlow : minV (fY f j) (m - 1) = low at hY mY eY
  generalize hhigh : maxV (fY f j) (m - 1) = high at hY mY eY
  obtain ⟨bx1, bx2, bx3⟩ := hX
  obtain ⟨by1, by2, by3⟩ := hY
  have xX : (hi - lo).toInt = hi.toInt - lo.toInt := i_sub bx2 bx1 (by decide)
  have xY : (high - low).toInt = high.toInt - low.toInt := i_sub by2 by1 (by decide)
  have z1 : (1 : Int32).toInt = 1 := rfl
  have z10 : (10 : Int32).toInt = 10 := rfl
  have zn : (-1 : Int32).toInt = -1 := rfl
  unfold bi at bx1 bx2 by1 by2
  have wX : 0 ≤ (exX f j).toInt ∧ (exX f j).toInt ≤ 400000 := by rw [eX, xX]; omega
  have wY : 0 ≤ (exY f j).toInt ∧ (exY f j).toInt ≤ 400000 := by rw [eY, xY]; omega
  have lo1 : (lo - 1).toInt = lo.toInt - 1 := by rw [i_sub (A := 180000) (B := 1) bx1 ⟨by decide, by decide⟩ (by decide), z1]
  have low1 : (low - 1).toInt = low.toInt - 1 := by rw [i_sub (A := 180000) (B := 1) by1 ⟨by decide, by decide⟩ (by decide), z1]
  have yX : (hi - lo + 1).toInt = hi.toInt - lo.toInt + 1 := by rw [i_add (A := 360000) (B := 1) ⟨by omega, by omega⟩ ⟨by decide, by decide⟩ (by decide), xX, z1]
  have yY : (high - low + 1).toInt = high.toInt - low.toInt + 1 := by rw [i_add (A := 360000) (B := 1) ⟨by omega, by omega⟩ ⟨by decide, by decide⟩ (by decide), xY, z1]
  have hxa : ∀ k, k < m → (lo - 1).toInt < (fX f j k).toInt := fun k hk => by have := (mX k (by omega)).1; omega
  -- the sides met
  have t301 : ∀ H : Int32, bi H 180000 → AW iL_fits (d + 9) 288 [some (vR 5 0 0), some (vI (nI j)), some (vI v), some (vI (nI m)), some (vI lo), some (vI hi), some (vI low), some (vI high), some (vI (wid (exX f j) (exY f j))), some (vI (scF (exX f j) (exY f j))), some (vI (10 + lowV v 991)), some (vI 1), some (vI H), none] [] M (.inl (some (vI 1))) M 0 := by
    intro H hH
    have far : meF f j (lo - 1) H = crN f j H := me_far (by rw [hm]; exact hbd) ⟨by omega, by omega⟩ (bi_le hH (by decide)) (by rw [hm]; exact hxa)
    have near : meF f j hi H = 0 := me_near (by rw [hm]; exact hbd) ⟨by omega, by omega⟩ (bi_le hH (by decide)) (by rw [hm]; exact fun k hk => (mX k (by omega)).2)
    have ev := crN_even (f := f) (j := j) (y := H) (by omega)
    have hle : crN f j H ≤ m := by rw [← hm]; exact cntB_le _ _
    have rg := lowV_rng (v := v) (n := hi - lo + 1) (by omega)
    have hX2 : (lo + lowV v (hi - lo + 1)).toInt = lo.toInt + (lowV v (hi - lo + 1)).toInt := i_add (A := 180000) (B := 360001) bx1 ⟨by omega, by omega⟩ (by decide)
    have k1 := kM (x := lo - 1) (y := H) ⟨by omega, by omega⟩ (bi_le hH (by decide))
    have k2 := kM (x := hi) (y := H) ⟨by omega, by omega⟩ (bi_le hH (by decide))
    have k3 := kM (x := lo + lowV v (hi - lo + 1)) (y := H) ⟨by omega, by omega⟩ (bi_le hH (by decide))
    have k4 := kM (x := lo - 1) (y := high) ⟨by omega, by omega⟩ ⟨by omega, by omega⟩
    have k5 := kM (x := lo - 1) (y := low - 1) ⟨by omega, by omega⟩ ⟨by omega, by omega⟩
    have n4 : meF f j (lo - 1) high = 0 := me_none false (by
      rw [hm]
      intro k hk
      refine decide_eq_false ?_
      rw [Int32.lt_iff_toInt_lt]
      have := (mY k (by omega)).2
      omega)
    have n5 : meF f j (lo - 1) (low - 1) = 0 := me_none true (by
      rw [hm]
      intro k hk
      refine decide_eq_true ?_
      rw [Int32.lt_iff_toInt_lt]
      have := (mY k (by omega)).1
      omega)
    have l3 := me_le (f := f) (j := j) (x := lo + lowV v (hi - lo + 1)) (y := H)
    rw [far] at k1
    rw [near] at k2
    rw [n4] at k4
    rw [n5] at k5
    have hp := par_0 (crN f j H) (by omega) ev
    refine aw_aload_n k103_288 rfl ?_
    refine aw_iload_n k103_289 rfl ?_
    refine aw_iload k103_290 rfl ?_
    refine aw_iconst (v := 1) k103_292 (by decide) ?_
    refine aw_isub k103_293 ?_
    refine aw_iload k103_294 rfl ?_
    refine aw_callV3 k103_296 hC_L_fits ok_A_sidesEastOf sv_L_108 hH_A_sidesEastOf ⟨rfl, rfl⟩ (by decide) hN_A_sidesEastOf (by rw [hL_A_sidesEastOf]; exact Nat.le_of_ble_eq_true rfl) (Nat.le_of_ble_eq_true rfl) k1 ?_
    refine aw_istore k103_299 (Nat.le_of_ble_eq_true rfl) (st1_13 (by rfl)) ?_
    refine aw_iload k103_301 rfl ?_
    refine aw_if_eq 391 k103_303 (by decide) (fun c_303 => ?_) (fun c_303 => ?_)
    · exact absurd (show (1 : Int32) = 0 from c_303) (by decide)
    · refine aw_aload_n k103_306 rfl ?_
      refine aw_iload_n k103_307 rfl ?_
      refine aw_iload k103_308 rfl ?_
      refine aw_iload k103_310 rfl ?_
      refine aw_callV3 k103_312 hC_L_fits ok_A_sidesEastOf sv_L_108 hH_A_sidesEastOf ⟨rfl, rfl⟩ (by decide) hN_A_sidesEastOf (by rw [hL_A_sidesEastOf]; exact Nat.le_of_ble_eq_true rfl) (Nat.le_of_ble_eq_true rfl) k2 ?_
      refine aw_if_ne 391 k103_315 (by decide) (fun c_315 => ?_) (fun c_315 => ?_)
      · exact absurd rfl c_315
      · refine aw_iload k103_318 rfl ?_
        refine aw_iconst (v := 2) k103_320 (by decide) ?_
        refine aw_irem k103_321 (by decide) ?_
        refine aw_if_ne 391 k103_322 (by decide) (fun c_322 => ?_) (fun c_322 => ?_)
        · exact absurd hp c_322
        · refine aw_iload k103_325 rfl ?_
          refine aw_iload_n k103_327 rfl ?_
          refine aw_icmp_gt 391 k103_328 (by decide) (fun c_328 => ?_) (fun c_328 => ?_)
          · exact absurd (nI_lt_of c_328) (by omega)
          · refine aw_aload_n k103_331 rfl ?_
            refine aw_iload_n k103_332 rfl ?_
            refine aw_iload k103_333 rfl ?_
            refine aw_iload_n k103_335 rfl ?_
            refine aw_iload k103_336 rfl ?_
            refine aw_iload k103_338 rfl ?_
            refine aw_isub k103_340 ?_
            refine aw_iconst (v := 1) k103_341 (by decide) ?_
            refine aw_iadd k103_342 ?_
            refine aw_callS2 k103_343 hC_L_fits ok_L_low ss_L_9 hH_L_low (by rw [hL_L_low]; exact Nat.le_of_ble_eq_true rfl) (Nat.le_of_ble_eq_true rfl) (c_low (by omega)) ?_
            refine aw_iadd k103_346 ?_
            refine aw_iload k103_347 rfl ?_
            refine aw_callV3 k103_349 hC_L_fits ok_A_sidesEastOf sv_L_108 hH_A_sidesEastOf ⟨rfl, rfl⟩ (by decide) hN_A_sidesEastOf (by rw [hL_A_sidesEastOf]; exact Nat.le_of_ble_eq_true rfl) (Nat.le_of_ble_eq_true rfl) k3 ?_
            refine aw_iload k103_352 rfl ?_
            refine aw_icmp_gt 391 k103_354 (by decide) (fun c_354 => ?_) (fun c_354 => ?_)
            · exact absurd (nI_lt_of c_354) (by omega)
            · refine aw_aload_n k103_357 rfl ?_
              refine aw_iload_n k103_358 rfl ?_
              refine aw_iload k103_359 rfl ?_
              refine aw_iconst (v := 1) k103_361 (by decide) ?_
              refine aw_isub k103_362 ?_
              refine aw_iload k103_363 rfl ?_
              refine aw_callV3 k103_365 hC_L_fits ok_A_sidesEastOf sv_L_108 hH_A_sidesEastOf ⟨rfl, rfl⟩ (by decide) hN_A_sidesEastOf (by rw [hL_A_sidesEastOf]; exact Nat.le_of_ble_eq_true rfl) (Nat.le_of_ble_eq_true rfl) k4 ?_
              refine aw_if_ne 391 k103_368 (by decide) (fun c_368 => ?_) (fun c_368 => ?_)
              · exact absurd rfl c_368
              · refine aw_aload_n k103_371 rfl ?_
                refine aw_iload_n k103_372 rfl ?_
                refine aw_iload k103_373 rfl ?_
                refine aw_iconst (v := 1) k103_375 (by decide) ?_
                refine aw_isub k103_376 ?_
                refine aw_iload k103_377 rfl ?_
                refine aw_iconst (v := 1) k103_379 (by decide) ?_
                refine aw_isub k103_380 ?_
                refine aw_callV3 k103_381 hC_L_fits ok_A_sidesEastOf sv_L_108 hH_A_sidesEastOf ⟨rfl, rfl⟩ (by decide) hN_A_sidesEastOf (by rw [hL_A_sidesEastOf]; exact Nat.le_of_ble_eq_true rfl) (Nat.le_of_ble_eq_true rfl) k5 ?_
                refine aw_if_ne 391 k103_384 (by decide) (fun c_384 => ?_) (fun c_384 => ?_)
                · exact absurd rfl c_384
                · refine aw_iconst (v := 1) k103_387 (by decide) ?_
                  refine aw_goto (t := 392) k103_388 (by decide) ?_
                  refine aw_zreturn k103_392 hR_L_fits ?_ ?_ ?_
                  · exact Or.inr rfl
                  · rfl
                  · rfl
  have t270 : AW iL_fits (d + 9) 270 [some (vR 5 0 0), some (vI (nI j)), some (vI v), some (vI (nI m)), some (vI lo), some (vI hi), some (vI low), some (vI high), some (vI (wid (exX f j) (exY f j))), some (vI (scF (exX f j) (exY f j))), some (vI (10 + lowV v 991)), some (vI 1), none, none] [] M (.inl (some (vI 1))) M 0 := by
    have rg := lowV_rng (v := v >>> ((3 : Int32) &&& 31)) (n := high - low + 1) (by omega)
    have e := i_add (x := low) (y := lowV (v >>> ((3 : Int32) &&& 31)) (high - low + 1)) (A := 180000) (B := 360001) by1 ⟨by omega, by omega⟩ (by decide)
    have s288 := t301 (low + lowV (v >>> ((3 : Int32) &&& 31)) (high - low + 1)) ⟨by omega, by omega⟩
    refine aw_iload k103_270 rfl ?_
    refine aw_iload_n k103_272 rfl ?_
    refine aw_iconst (v := 3) k103_273 (by decide) ?_
    refine aw_ishr k103_274 ?_
    refine aw_iload k103_275 rfl ?_
    refine aw_iload k103_277 rfl ?_
    refine aw_isub k103_279 ?_
    refine aw_iconst (v := 1) k103_280 (by decide) ?_
    refine aw_iadd k103_281 ?_
    refine aw_callS2 k103_282 hC_L_fits ok_L_low ss_L_9 hH_L_low (by rw [hL_L_low]; exact Nat.le_of_ble_eq_true rfl) (Nat.le_of_ble_eq_true rfl) (c_low (by omega)) ?_
    refine aw_iadd k103_285 ?_
    refine aw_istore k103_286 (Nat.le_of_ble_eq_true rfl) (st1_12 (by rfl)) ?_
    exact s288
  -- the sheets at the law's links
  have rg := lowV_rng (v := v) (n := 991) (by decide)
  have z991 : (991 : Int32).toInt = 991 := rfl
  have el : (10 + lowV v 991).toInt = 10 + (lowV v 991).toInt := by rw [i_add (A := 10) (B := 991) ⟨by decide, by decide⟩ ⟨by omega, by omega⟩ (by decide), z10]
  have hsw := sheet_w (l := 10 + lowV v 991) wX wY ⟨by omega, by omega⟩
  have kl := kH (y := 10 + lowV v 991) (by omega) (by omega)
  have t224 : AW iL_fits (d + 9) 222 [some (vR 5 0 0), some (vI (nI j)), some (vI v), some (vI (nI m)), some (vI lo), some (vI hi), some (vI low), some (vI high), some (vI (wid (exX f j) (exY f j))), some (vI (scF (exX f j) (exY f j))), some (vI (10 + lowV v 991)), none, none, none] [vI 1] M (.inl (some (vI 1))) M 0 := by
    by_cases hq : wid (exX f j) (exY f j) ≤ 20 * (10 + lowV v 991)
    · have hq1 := hsw.mpr hq
      refine aw_istore k103_222 (Nat.le_of_ble_eq_true rfl) (st1_11 (by rfl)) ?_
      refine aw_iload k103_224 rfl ?_
      refine aw_if_eq 267 k103_226 (by decide) (fun c_226 => ?_) (fun c_226 => ?_)
      · exact absurd (show (1 : Int32) = 0 from c_226) (by decide)
      · refine aw_aload_n k103_229 rfl ?_
        refine aw_iload_n k103_230 rfl ?_
        refine aw_iload k103_231 rfl ?_
        refine aw_callV2 k103_233 hC_L_fits ok_A_sheetsFor sv_L_105 hH_A_sheetsFor ⟨rfl, rfl⟩ (by decide) hN_A_sheetsFor (by rw [hL_A_sheetsFor]; exact Nat.le_of_ble_eq_true rfl) (Nat.le_of_ble_eq_true rfl) kl ?_
        refine aw_iconst (v := 1) k103_236 (by decide) ?_
        refine aw_icmp_ne 244 k103_237 (by decide) (fun c_237 => ?_) (fun c_237 => ?_)
        · exact absurd hq1 c_237
        · refine aw_iconst (v := 1) k103_240 (by decide) ?_
          refine aw_goto (t := 245) k103_241 (by decide) ?_
          refine aw_iload k103_245 rfl ?_
          refine aw_bipush (v := 20) k103_247 (by decide) ?_
          refine aw_iload k103_249 rfl ?_
          refine aw_imul k103_251 ?_
          refine aw_icmp_gt 259 k103_252 (by decide) (fun c_252 => ?_) (fun c_252 => ?_)
          · exact absurd hq (Int32.not_le.mpr c_252)
          · refine aw_iconst (v := 1) k103_255 (by decide) ?_
            refine aw_goto (t := 260) k103_256 (by decide) ?_
            refine aw_icmp_ne 267 k103_260 (by decide) (fun c_260 => ?_) (fun c_260 => ?_)
            · exact absurd rfl c_260
            · refine aw_iconst (v := 1) k103_263 (by decide) ?_
              refine aw_goto (t := 268) k103_264 (by decide) ?_
              refine aw_istore k103_268 (Nat.le_of_ble_eq_true rfl) (st1_11 (by rfl)) ?_
              exact t270
    · have hq1 : ¬ pcs (exX f j) (20 * (10 + lowV v 991)) * pcs (exY f j) (20 * (10 + lowV v 991)) = 1 := fun q => hq (hsw.mp q)
      refine aw_istore k103_222 (Nat.le_of_ble_eq_true rfl) (st1_11 (by rfl)) ?_
      refine aw_iload k103_224 rfl ?_
      refine aw_if_eq 267 k103_226 (by decide) (fun c_226 => ?_) (fun c_226 => ?_)
      · exact absurd (show (1 : Int32) = 0 from c_226) (by decide)
      · refine aw_aload_n k103_229 rfl ?_
        refine aw_iload_n k103_230 rfl ?_
        refine aw_iload k103_231 rfl ?_
        refine aw_callV2 k103_233 hC_L_fits ok_A_sheetsFor sv_L_105 hH_A_sheetsFor ⟨rfl, rfl⟩ (by decide) hN_A_sheetsFor (by rw [hL_A_sheetsFor]; exact Nat.le_of_ble_eq_true rfl) (Nat.le_of_ble_eq_true rfl) kl ?_
        refine aw_iconst (v := 1) k103_236 (by decide) ?_
        refine aw_icmp_ne 244 k103_237 (by decide) (fun c_237 => ?_) (fun c_237 => ?_)
        · refine aw_iconst (v := 0) k103_244 (by decide) ?_
          refine aw_iload k103_245 rfl ?_
          refine aw_bipush (v := 20) k103_247 (by decide) ?_
          refine aw_iload k103_249 rfl ?_
          refine aw_imul k103_251 ?_
          refine aw_icmp_gt 259 k103_252 (by decide) (fun c_252 => ?_) (fun c_252 => ?_)
          · refine aw_iconst (v := 0) k103_259 (by decide) ?_
            refine aw_icmp_ne 267 k103_260 (by decide) (fun c_260 => ?_) (fun c_260 => ?_)
            · exact absurd rfl c_260
            · refine aw_iconst (v := 1) k103_263 (by decide) ?_
              refine aw_goto (t := 268) k103_264 (by decide) ?_
              refine aw_istore k103_268 (Nat.le_of_ble_eq_true rfl) (st1_11 (by rfl)) ?_
              exact t270
          · exact absurd (Int32.not_lt.mp c_252) hq
        · exact absurd c_237 hq1
  -- the scale
  have t148 : AW iL_fits (d + 9) 148 [some (vR 5 0 0), some (vI (nI j)), some (vI v), some (vI (nI m)), some (vI lo), some (vI hi), some (vI low), some (vI high), some (vI (wid (exX f j) (exY f j))), some (vI (scF (exX f j) (exY f j))), some (vI (10 + lowV v 991)), none, none, none] [] M (.inl (some (vI 1))) M 0 := by
    have z20000 : (20000 : Int32).toInt = 20000 := rfl
    rcases sc_law wX wY with ⟨e1, e2⟩ | ⟨e1, e2, e3, e4⟩
    · have h2 : ¬ wid (exX f j) (exY f j) ≤ 20000 := by rw [Int32.le_iff_toInt_le, z20000]; omega
      refine aw_iload k103_148 rfl ?_
      refine aw_iconst (v := (-1)) k103_150 (by decide) ?_
      refine aw_icmp_ne 170 k103_151 (by decide) (fun c_151 => ?_) (fun c_151 => ?_)
      · exact absurd e1 c_151
      · refine aw_iload k103_154 rfl ?_
        refine aw_sipush (v := 20000) k103_156 (by decide) ?_
        refine aw_icmp_le 166 k103_159 (by decide) (fun c_159 => ?_) (fun c_159 => ?_)
        · exact absurd c_159 h2
        · refine aw_iconst (v := 1) k103_162 (by decide) ?_
          refine aw_goto (t := 222) k103_163 (by decide) ?_
          exact t224
    · have hne : ¬ scF (exX f j) (exY f j) = -1 := fun q => by rw [q, zn] at e1; omega
      have m1 := m20 (y := scF (exX f j) (exY f j)) (by omega)
      have s1 : (scF (exX f j) (exY f j) - 1).toInt = (scF (exX f j) (exY f j)).toInt - 1 := by rw [i_sub (A := 1000) (B := 1) ⟨by omega, e2⟩ ⟨by decide, by decide⟩ (by decide), z1]
      have m2 := m20 (y := scF (exX f j) (exY f j) - 1) (by omega)
      have h2 : ¬ scF (exX f j) (exY f j) < 10 := by rw [Int32.lt_iff_toInt_lt, z10]; omega
      have h3 : wid (exX f j) (exY f j) ≤ 20 * scF (exX f j) (exY f j) := by rw [Int32.le_iff_toInt_le]; omega
      have h4 : ¬ scF (exX f j) (exY f j) = 10 → ¬ wid (exX f j) (exY f j) ≤ 20 * (scF (exX f j) (exY f j) - 1) := fun q w => by
        rw [Int32.le_iff_toInt_le] at w
        rcases e4 with q2 | q2
        · exact q (i_eq (q2.trans z10.symm))
        · omega
      have hq1 := (sheet_w (l := scF (exX f j) (exY f j)) wX wY ⟨e1, e2⟩).mpr h3
      have ks := kH e1 e2
      refine aw_iload k103_148 rfl ?_
      refine aw_iconst (v := (-1)) k103_150 (by decide) ?_
      refine aw_icmp_ne 170 k103_151 (by decide) (fun c_151 => ?_) (fun c_151 => ?_)
      · refine aw_iload k103_170 rfl ?_
        refine aw_bipush (v := 10) k103_172 (by decide) ?_
        refine aw_icmp_lt 221 k103_174 (by decide) (fun c_174 => ?_) (fun c_174 => ?_)
        · exact absurd c_174 h2
        · refine aw_iload k103_177 rfl ?_
          refine aw_bipush (v := 20) k103_179 (by decide) ?_
          refine aw_iload k103_181 rfl ?_
          refine aw_imul k103_183 ?_
          refine aw_icmp_gt 221 k103_184 (by decide) (fun c_184 => ?_) (fun c_184 => ?_)
          · exact absurd h3 (Int32.not_le.mpr c_184)
          · refine aw_iload k103_187 rfl ?_
            refine aw_bipush (v := 10) k103_189 (by decide) ?_
            refine aw_icmp_eq 206 k103_191 (by decide) (fun c_191 => ?_) (fun c_191 => ?_)
            · refine aw_aload_n k103_206 rfl ?_
              refine aw_iload_n k103_207 rfl ?_
              refine aw_iload k103_208 rfl ?_
              refine aw_callV2 k103_210 hC_L_fits ok_A_sheetsFor sv_L_105 hH_A_sheetsFor ⟨rfl, rfl⟩ (by decide) hN_A_sheetsFor (by rw [hL_A_sheetsFor]; exact Nat.le_of_ble_eq_true rfl) (Nat.le_of_ble_eq_true rfl) ks ?_
              refine aw_iconst (v := 1) k103_213 (by decide) ?_
              refine aw_icmp_ne 221 k103_214 (by decide) (fun c_214 => ?_) (fun c_214 => ?_)
              · exact absurd hq1 c_214
              · refine aw_iconst (v := 1) k103_217 (by decide) ?_
                refine aw_goto (t := 222) k103_218 (by decide) ?_
                exact t224
            · refine aw_iload k103_194 rfl ?_
              refine aw_bipush (v := 20) k103_196 (by decide) ?_
              refine aw_iload k103_198 rfl ?_
              refine aw_iconst (v := 1) k103_200 (by decide) ?_
              refine aw_isub k103_201 ?_
              refine aw_imul k103_202 ?_
              refine aw_icmp_le 221 k103_203 (by decide) (fun c_203 => ?_) (fun c_203 => ?_)
              · exact absurd c_203 (h4 c_191)
              · refine aw_aload_n k103_206 rfl ?_
                refine aw_iload_n k103_207 rfl ?_
                refine aw_iload k103_208 rfl ?_
                refine aw_callV2 k103_210 hC_L_fits ok_A_sheetsFor sv_L_105 hH_A_sheetsFor ⟨rfl, rfl⟩ (by decide) hN_A_sheetsFor (by rw [hL_A_sheetsFor]; exact Nat.le_of_ble_eq_true rfl) (Nat.le_of_ble_eq_true rfl) ks ?_
                refine aw_iconst (v := 1) k103_213 (by decide) ?_
                refine aw_icmp_ne 221 k103_214 (by decide) (fun c_214 => ?_) (fun c_214 => ?_)
                · exact absurd hq1 c_214
                · refine aw_iconst (v := 1) k103_217 (by decide) ?_
                  refine aw_goto (t := 222) k103_218 (by decide) ?_
                  exact t224
      · exact absurd c_151 hne
  have t127 : ∀ w, w = wid (exX f j) (exY f j) → AW iL_fits (d + 9) 127 [some (vR 5 0 0), some (vI (nI j)), some (vI v), some (vI (nI m)), some (vI lo), some (vI hi), some (vI low), some (vI high), some (vI (nI m)), none, none, none, none, none] [vI w] M (.inl (some (vI 1))) M 0 := by
    intro w e
    subst e
    refine aw_istore k103_127 (Nat.le_of_ble_eq_true rfl) (st1_8 (by rfl)) ?_
    refine aw_aload_n k103_129 rfl ?_
    refine aw_iload_n k103_130 rfl ?_
    refine aw_callV1 k103_131 hC_L_fits ok_A_scaleFor sv_L_102 hH_A_scaleFor ⟨rfl, rfl⟩ (by decide) hN_A_scaleFor (by rw [hL_A_scaleFor]; exact Nat.le_of_ble_eq_true rfl) (Nat.le_of_ble_eq_true rfl) kS ?_
    refine aw_istore k103_134 (Nat.le_of_ble_eq_true rfl) (st1_9 (by rfl)) ?_
    refine aw_bipush (v := 10) k103_136 (by decide) ?_
    refine aw_iload_n k103_138 rfl ?_
    refine aw_sipush (v := 991) k103_139 (by decide) ?_
    refine aw_callS2 k103_142 hC_L_fits ok_L_low ss_L_9 hH_L_low (by rw [hL_L_low]; exact Nat.le_of_ble_eq_true rfl) (Nat.le_of_ble_eq_true rfl) (c_low (by decide)) ?_
    refine aw_iadd k103_145 ?_
    refine aw_istore k103_146 (Nat.le_of_ble_eq_true rfl) (st1_10 (by rfl)) ?_
    exact t148
  have t101 : AW iL_fits (d + 9) 101 [some (vR 5 0 0), some (vI (nI j)), some (vI v), some (vI (nI m)), some (vI lo), some (vI hi), some (vI low), some (vI high), some (vI (nI m)), none, none, none, none, none] [] M (.inl (some (vI 1))) M 0 := by
    refine aw_iload k103_101 rfl ?_
    refine aw_iload k103_103 rfl ?_
    refine aw_isub k103_105 ?_
    refine aw_iload k103_106 rfl ?_
    refine aw_iload k103_108 rfl ?_
    refine aw_isub k103_110 ?_
    refine aw_icmp_le 122 k103_111 (by decide) (fun c_111 => ?_) (fun c_111 => ?_)
    · have w1 : high - low = wid (exX f j) (exY f j) := by rw [eX, eY]; exact (if_neg (Int32.not_lt.mpr c_111)).symm
      refine aw_iload k103_122 rfl ?_
      refine aw_iload k103_124 rfl ?_
      refine aw_isub k103_126 ?_
      exact t127 _ w1
    · have w1 : hi - lo = wid (exX f j) (exY f j) := by rw [eX, eY]; exact (if_pos (Int32.not_le.mp c_111)).symm
      refine aw_iload k103_114 rfl ?_
      refine aw_iload k103_116 rfl ?_
      refine aw_isub k103_118 ?_
      refine aw_goto (t := 127) k103_119 (by decide) ?_
      exact t127 _ w1
  -- the loop
  have loop : ∀ k i : Nat, i + k = m → 1 ≤ i → AW iL_fits (d + 9) 33 [some (vR 5 0 0), some (vI (nI j)), some (vI v), some (vI (nI m)), some (vI (minV (fX f j) (i - 1))), some (vI (maxV (fX f j) (i - 1))), some (vI (minV (fY f j) (i - 1))), some (vI (maxV (fY f j) (i - 1))), some (vI (nI i)), none, none, none, none, none] [] M (.inl (some (vI 1))) M 0 := by
    intro k
    induction k with
    | zero =>
      intro i hi9 h1
      obtain rfl : i = m := by omega
      rw [hlo, hhi, hlow, hhigh]
      refine aw_iload k103_33 rfl ?_
      refine aw_iload_n k103_35 rfl ?_
      refine aw_icmp_ge 101 k103_36 (by decide) (fun c_36 => ?_) (fun c_36 => ?_)
      · exact t101
      · exact absurd (nI_leI (by omega) (by omega) |>.mpr (Nat.le_refl i)) c_36
    | succ k ih =>
      intro i hi9 h1
      have him : i < m := by omega
      have hn := ih (i + 1) (by omega) (by omega)
      have e1 : i + 1 - 1 = i - 1 + 1 := by omega
      have e2 : i - 1 + 1 = i := by omega
      have a1 : minV (fX f j) (i + 1 - 1) = (if fX f j i < minV (fX f j) (i - 1) then fX f j i else minV (fX f j) (i - 1)) := by
        rw [e1]
        show (if fX f j (i - 1 + 1) < _ then fX f j (i - 1 + 1) else _) = _
        rw [e2]
      have a2 : maxV (fX f j) (i + 1 - 1) = (if maxV (fX f j) (i - 1) < fX f j i then fX f j i else maxV (fX f j) (i - 1)) := by
        rw [e1]
        show (if _ < fX f j (i - 1 + 1) then fX f j (i - 1 + 1) else _) = _
        rw [e2]
      have a3 : minV (fY f j) (i + 1 - 1) = (if fY f j i < minV (fY f j) (i - 1) then fY f j i else minV (fY f j) (i - 1)) := by
        rw [e1]
        show (if fY f j (i - 1 + 1) < _ then fY f j (i - 1 + 1) else _) = _
        rw [e2]
      have a4 : maxV (fY f j) (i + 1 - 1) = (if maxV (fY f j) (i - 1) < fY f j i then fY f j i else maxV (fY f j) (i - 1)) := by
        rw [e1]
        show (if _ < fY f j (i - 1 + 1) then fY f j (i - 1 + 1) else _) = _
        rw [e2]
      rw [a1, a2, a3, a4] at hn
      refine aw_iload k103_33 rfl ?_
      refine aw_iload_n k103_35 rfl ?_
      refine aw_icmp_ge 101 k103_36 (by decide) (fun c_36 => ?_) (fun c_36 => ?_)
      · exact absurd (nI_le_of c_36) (by omega)
      · refine aw_iload k103_39 rfl ?_
        refine aw_aload_n k103_41 rfl ?_
        refine aw_iload_n k103_42 rfl ?_
        refine aw_iload k103_43 rfl ?_
        refine aw_callV2 k103_45 hC_L_fits ok_A_cornerEast sv_L_88 hH_A_cornerEast ⟨rfl, rfl⟩ (by decide) hN_A_cornerEast (by rw [hL_A_cornerEast]; exact Nat.le_of_ble_eq_true rfl) (Nat.le_of_ble_eq_true rfl) (kE i him) ?_
        refine aw_callS2 k103_48 hC_L_fits ok_L_least ss_L_96 hH_L_least (by rw [hL_L_least]; exact Nat.le_of_ble_eq_true rfl) (Nat.le_of_ble_eq_true rfl) c_least ?_
        refine aw_istore k103_51 (Nat.le_of_ble_eq_true rfl) (st1_4 (by rfl)) ?_
        refine aw_iload k103_53 rfl ?_
        refine aw_aload_n k103_55 rfl ?_
        refine aw_iload_n k103_56 rfl ?_
        refine aw_iload k103_57 rfl ?_
        refine aw_callV2 k103_59 hC_L_fits ok_A_cornerEast sv_L_88 hH_A_cornerEast ⟨rfl, rfl⟩ (by decide) hN_A_cornerEast (by rw [hL_A_cornerEast]; exact Nat.le_of_ble_eq_true rfl) (Nat.le_of_ble_eq_true rfl) (kE i him) ?_
        refine aw_callS2 k103_62 hC_L_fits ok_L_most ss_L_99 hH_L_most (by rw [hL_L_most]; exact Nat.le_of_ble_eq_true rfl) (Nat.le_of_ble_eq_true rfl) c_most ?_
        refine aw_istore k103_65 (Nat.le_of_ble_eq_true rfl) (st1_5 (by rfl)) ?_
        refine aw_iload k103_67 rfl ?_
        refine aw_aload_n k103_69 rfl ?_
        refine aw_iload_n k103_70 rfl ?_
        refine aw_iload k103_71 rfl ?_
        refine aw_callV2 k103_73 hC_L_fits ok_A_cornerNorth sv_L_92 hH_A_cornerNorth ⟨rfl, rfl⟩ (by decide) hN_A_cornerNorth (by rw [hL_A_cornerNorth]; exact Nat.le_of_ble_eq_true rfl) (Nat.le_of_ble_eq_true rfl) (kN i him) ?_
        refine aw_callS2 k103_76 hC_L_fits ok_L_least ss_L_96 hH_L_least (by rw [hL_L_least]; exact Nat.le_of_ble_eq_true rfl) (Nat.le_of_ble_eq_true rfl) c_least ?_
        refine aw_istore k103_79 (Nat.le_of_ble_eq_true rfl) (st1_6 (by rfl)) ?_
        refine aw_iload k103_81 rfl ?_
        refine aw_aload_n k103_83 rfl ?_
        refine aw_iload_n k103_84 rfl ?_
        refine aw_iload k103_85 rfl ?_
        refine aw_callV2 k103_87 hC_L_fits ok_A_cornerNorth sv_L_92 hH_A_cornerNorth ⟨rfl, rfl⟩ (by decide) hN_A_cornerNorth (by rw [hL_A_cornerNorth]; exact Nat.le_of_ble_eq_true rfl) (Nat.le_of_ble_eq_true rfl) (kN i him) ?_
        refine aw_callS2 k103_90 hC_L_fits ok_L_most ss_L_99 hH_L_most (by rw [hL_L_most]; exact Nat.le_of_ble_eq_true rfl) (Nat.le_of_ble_eq_true rfl) c_most ?_
        refine aw_istore k103_93 (Nat.le_of_ble_eq_true rfl) (st1_7 (by rfl)) ?_
        refine aw_iinc (y := 1) k103_95 rfl (by decide) (st1_8 (by rfl)) ?_
        rw [nI_1 i]
        refine aw_goto (t := 33) k103_98 (by decide) ?_
        exact hn
  have l1 := loop (m - 1) 1 (by omega) (by omega)
  refine ct_go hL_L_fits rfl ?_
  refine aw_aload_n k103_0 rfl ?_
  refine aw_iload_n k103_1 rfl ?_
  refine aw_callV1 k103_2 hC_L_fits ok_A_cornersOf sv_L_82 hH_A_cornersOf ⟨rfl, rfl⟩ (by decide) hN_A_cornersOf (by rw [hL_A_cornersOf]; exact Nat.le_of_ble_eq_true rfl) (Nat.le_of_ble_eq_true rfl) kC ?_
  refine aw_istore_n k103_5 (Nat.le_of_ble_eq_true rfl) (st1_3 (by rfl)) ?_
  refine aw_aload_n k103_6 rfl ?_
  refine aw_iload_n k103_7 rfl ?_
  refine aw_iconst (v := 0) k103_8 (by decide) ?_
  refine aw_callV2 k103_9 hC_L_fits ok_A_cornerEast sv_L_88 hH_A_cornerEast ⟨rfl, rfl⟩ (by decide) hN_A_cornerEast (by rw [hL_A_cornerEast]; exact Nat.le_of_ble_eq_true rfl) (Nat.le_of_ble_eq_true rfl) (kE 0 (by omega)) ?_
  refine aw_istore k103_12 (Nat.le_of_ble_eq_true rfl) (st1_4 (by rfl)) ?_
  refine aw_iload k103_14 rfl ?_
  refine aw_istore k103_16 (Nat.le_of_ble_eq_true rfl) (st1_5 (by rfl)) ?_
  refine aw_aload_n k103_18 rfl ?_
  refine aw_iload_n k103_19 rfl ?_
  refine aw_iconst (v := 0) k103_20 (by decide) ?_
  refine aw_callV2 k103_21 hC_L_fits ok_A_cornerNorth sv_L_92 hH_A_cornerNorth ⟨rfl, rfl⟩ (by decide) hN_A_cornerNorth (by rw [hL_A_cornerNorth]; exact Nat.le_of_ble_eq_true rfl) (Nat.le_of_ble_eq_true rfl) (kN 0 (by omega)) ?_
  refine aw_istore k103_24 (Nat.le_of_ble_eq_true rfl) (st1_6 (by rfl)) ?_
  refine aw_iload k103_26 rfl ?_
  refine aw_istore k103_28 (Nat.le_of_ble_eq_true rfl) (st1_7 (by rfl)) ?_
  refine aw_iconst (v := 1) k103_30 (by decide) ?_
  refine aw_istore k103_31 (Nat.le_of_ble_eq_true rfl) (st1_8 (by rfl)) ?_
  exact l1
