/-! THE LAW: holds -/
theorem h_410 {d L : Nat} {M : mM} {f t : Nat → Int32} {hs : List (Nat → Int32)} {sn : Option (Nat → Int32)} {v : Int32} (hC : CR M f hs sn t L) (hG : Gp f) : ∀ x11 x12 x13 x14 x15 x16 x17 x18 : Option mAV, AW iL_holds (d + 10) 410 [some (vR 5 0 0), some (vI v), some (vI (f 0)), some (vI (bef f 0 (fN f))), some (vI (bef f 1 (fN f))), some (vL (sumL (twF f) (fC f))), none, some (vI (grF f (fC f)).1), some (vI (iabs (bef f 0 (fN f)) + iabs (bef f 1 (fN f)))), some (vI 1), some (vI (nI (fC f))), x11, x12, x13, x14, x15, x16, x17, x18] [] M (.inl (some (vI 1))) M 0 := by
  intro x11 x12 x13 x14 x15 x16 x17 x18
  have k1 := s_A_twiceAreaOfAll (d := d + 1) hC
  have k2 := s_A_largestField (d := d + 1) hC
  refine aw_iload k104_410 rfl ?_
  refine aw_if_eq 438 k104_412 (by decide) (fun c_412 => ?_) (fun c_412 => ?_)
  · exact absurd (show (1 : Int32) = 0 from c_412) (by decide)
  · refine aw_aload_n k104_415 rfl ?_
    refine aw_callV0 k104_416 hC_L_holds ok_A_twiceAreaOfAll sv_L_64 hH_A_twiceAreaOfAll ⟨rfl, rfl⟩ (by decide) hN_A_twiceAreaOfAll (by rw [hL_A_twiceAreaOfAll]; exact Nat.le_of_ble_eq_true rfl) (Nat.le_of_ble_eq_true rfl) k1 ?_
    refine aw_lload k104_419 rfl ?_
    refine aw_lcmp_ne 438 k104_421 k104_422 (by decide) (fun c_421 => ?_) (fun c_421 => ?_)
    · exact absurd rfl c_421
    · refine aw_aload_n k104_425 rfl ?_
      refine aw_callV0 k104_426 hC_L_holds ok_A_largestField sv_L_61 hH_A_largestField ⟨rfl, rfl⟩ (by decide) hN_A_largestField (by rw [hL_A_largestField]; exact Nat.le_of_ble_eq_true rfl) (Nat.le_of_ble_eq_true rfl) k2 ?_
      refine aw_iload k104_429 rfl ?_
      refine aw_icmp_ne 438 k104_431 (by decide) (fun c_431 => ?_) (fun c_431 => ?_)
      · exact absurd rfl c_431
      · refine aw_iconst (v := 1) k104_434 (by decide) ?_
        refine aw_goto (t := 439) k104_435 (by decide) ?_
        refine aw_zreturn k104_439 hR_L_holds ?_ ?_ ?_
        · exact Or.inr rfl
        · rfl
        · rfl
/-- the sides shared with the fields before -/
theorem h_inner {d L : Nat} {M : mM} {f t : Nat → Int32} {hs : List (Nat → Int32)} {sn : Option (Nat → Int32)} {v : Int32} (hC : CR M f hs sn t L) (hG : Gp f) {i : Nat} (hi : i < fC f) (hk : ∀ x11 x12 x13 x14 x15 x16 x17 x18 : Option mAV, AW iL_holds (d + 10) 112 [some (vR 5 0 0), some (vI v), some (vI (f 0)), some (vI (bef f 0 (fN f))), some (vI (bef f 1 (fN f))), some (vL (sumL (twF f) (i + 1))), none, some (vI (grF f (i + 1)).1), some (vI (iabs (bef f 0 (fN f)) + iabs (bef f 1 (fN f)))), some (vI 1), some (vI (nI (i + 1))), x11, x12, x13, x14, x15, x16, x17, x18] [] M (.inl (some (vI 1))) M 0) : ∀ k o : Nat, o + k = i → ∀ x18, AW iL_holds (d + 10) 333 [some (vR 5 0 0), some (vI v), some (vI (f 0)), some (vI (bef f 0 (fN f))), some (vI (bef f 1 (fN f))), some (vL (sumL (twF f) (i + 1))), none, some (vI (grF f (i + 1)).1), some (vI (iabs (bef f 0 (fN f)) + iabs (bef f 1 (fN f)))), some (vI 1), some (vI (nI i)), some (vL (twF f i)), none, some (vL (twF f i / 2)), none, some (vI (nI (leF f i))), some (vI (nI (bN f i))), some (vI (nI o)), x18] [] M (.inl (some (vI 1))) M 0 := by
  have h6 := hG.1.2.2.2.1
  have hF : ∀ q, q < fC f → hasF f (nI q) = true := fun q hq => hasF_nI hG.1.2.2.1 h6 hq
  have eI : ∀ q, q < fC f → (nI q).toNatClampNeg = q := fun q hq => nI_clamp (by omega)
  have kS : ∀ a b, a < fC f → b < fC f → CT iA_sharedSides (d + 9) [vR 5 0 0, vI (nI a), vI (nI b)] M (.inl (some (vI (nI (shaF f a b))))) M 0 := fun a b ha hb => by
    have := s_A_sharedSides (d := d + 1) hC (hF a ha) (hF b hb)
    rw [eI a ha, eI b hb] at this
    exact this
  intro k
  induction k with
  | zero =>
    intro o ho x18
    obtain rfl : o = i := by omega
    have hn := hk
    refine aw_iload k104_333 rfl ?_
    refine aw_iload k104_335 rfl ?_
    refine aw_icmp_ge 404 k104_337 (by decide) (fun c_337 => ?_) (fun c_337 => ?_)
    · refine aw_iinc (y := 1) k104_404 rfl (by decide) (st1_10 (by rfl)) ?_
      rw [nI_1 o]
      refine aw_goto (t := 112) k104_407 (by decide) ?_
      exact hn _ _ _ _ _ _ _ _
    · exact absurd (nI_leI (by omega) (by omega) |>.mpr (Nat.le_refl o)) c_337
  | succ k ih =>
    intro o ho x18
    have hoi : o < i := by omega
    have k1 := kS i o hi (by omega)
    have k2 := kS o i (by omega) hi
    have hle : shaF f i o ≤ bN f i := cntB_le _ _
    have hb := (hG.1.2.2.2.2 i hi).2.2
    have hb2 := (hG.1.2.2.2.2 o (by omega)).2.2
    have hle2 : shaF f o i ≤ bN f o := cntB_le _ _
    have hn := ih (o + 1) (by omega)
    by_cases h0 : shaF f i o = 0
    · have h1 := sha_0 h0
      rw [h0] at k1 hle
      rw [h1] at k2
      refine aw_iload k104_333 rfl ?_
      refine aw_iload k104_335 rfl ?_
      refine aw_icmp_ge 404 k104_337 (by decide) (fun c_337 => ?_) (fun c_337 => ?_)
      · exact absurd (nI_le_of c_337) (by omega)
      · refine aw_iload k104_340 rfl ?_
        refine aw_if_eq 404 k104_342 (by decide) (fun c_342 => ?_) (fun c_342 => ?_)
        · exact absurd (show (1 : Int32) = 0 from c_342) (by decide)
        · refine aw_aload_n k104_345 rfl ?_
          refine aw_iload k104_346 rfl ?_
          refine aw_iload k104_348 rfl ?_
          refine aw_callV2 k104_350 hC_L_holds ok_A_sharedSides sv_L_137 hH_A_sharedSides ⟨rfl, rfl⟩ (by decide) hN_A_sharedSides (by rw [hL_A_sharedSides]; exact Nat.le_of_ble_eq_true rfl) (Nat.le_of_ble_eq_true rfl) k1 ?_
          refine aw_istore k104_353 (Nat.le_of_ble_eq_true rfl) (st1_18 (by rfl)) ?_
          refine aw_iload k104_355 rfl ?_
          refine aw_if_ne 364 k104_357 (by decide) (fun c_357 => ?_) (fun c_357 => ?_)
          · exact absurd rfl c_357
          · refine aw_iconst (v := 1) k104_360 (by decide) ?_
            refine aw_goto (t := 365) k104_361 (by decide) ?_
            refine aw_aload_n k104_365 rfl ?_
            refine aw_iload k104_366 rfl ?_
            refine aw_iload k104_368 rfl ?_
            refine aw_callV2 k104_370 hC_L_holds ok_A_sharedSides sv_L_137 hH_A_sharedSides ⟨rfl, rfl⟩ (by decide) hN_A_sharedSides (by rw [hL_A_sharedSides]; exact Nat.le_of_ble_eq_true rfl) (Nat.le_of_ble_eq_true rfl) k2 ?_
            refine aw_if_ne 380 k104_373 (by decide) (fun c_373 => ?_) (fun c_373 => ?_)
            · exact absurd rfl c_373
            · refine aw_iconst (v := 1) k104_376 (by decide) ?_
              refine aw_goto (t := 381) k104_377 (by decide) ?_
              refine aw_icmp_ne 395 k104_381 (by decide) (fun c_381 => ?_) (fun c_381 => ?_)
              · exact absurd rfl c_381
              · refine aw_iload k104_384 rfl ?_
                refine aw_iload k104_386 rfl ?_
                refine aw_icmp_gt 395 k104_388 (by decide) (fun c_388 => ?_) (fun c_388 => ?_)
                · exact absurd (nI_lt_of c_388) (by omega)
                · refine aw_iconst (v := 1) k104_391 (by decide) ?_
                  refine aw_goto (t := 396) k104_392 (by decide) ?_
                  refine aw_istore k104_396 (Nat.le_of_ble_eq_true rfl) (st1_9 (by rfl)) ?_
                  refine aw_iinc (y := 1) k104_398 rfl (by decide) (st1_17 (by rfl)) ?_
                  rw [nI_1 o]
                  refine aw_goto (t := 333) k104_401 (by decide) ?_
                  exact hn _
    · have h1 : ¬ shaF f o i = 0 := fun q => h0 (sha_0 q)
      have g0 : ¬ nI (shaF f i o) = 0 := fun q => h0 (nI_eq_of (b := 0) q)
      have g1 : ¬ nI (shaF f o i) = 0 := fun q => h1 (nI_eq_of (b := 0) q)
      refine aw_iload k104_333 rfl ?_
      refine aw_iload k104_335 rfl ?_
      refine aw_icmp_ge 404 k104_337 (by decide) (fun c_337 => ?_) (fun c_337 => ?_)
      · exact absurd (nI_le_of c_337) (by omega)
      · refine aw_iload k104_340 rfl ?_
        refine aw_if_eq 404 k104_342 (by decide) (fun c_342 => ?_) (fun c_342 => ?_)
        · exact absurd (show (1 : Int32) = 0 from c_342) (by decide)
        · refine aw_aload_n k104_345 rfl ?_
          refine aw_iload k104_346 rfl ?_
          refine aw_iload k104_348 rfl ?_
          refine aw_callV2 k104_350 hC_L_holds ok_A_sharedSides sv_L_137 hH_A_sharedSides ⟨rfl, rfl⟩ (by decide) hN_A_sharedSides (by rw [hL_A_sharedSides]; exact Nat.le_of_ble_eq_true rfl) (Nat.le_of_ble_eq_true rfl) k1 ?_
          refine aw_istore k104_353 (Nat.le_of_ble_eq_true rfl) (st1_18 (by rfl)) ?_
          refine aw_iload k104_355 rfl ?_
          refine aw_if_ne 364 k104_357 (by decide) (fun c_357 => ?_) (fun c_357 => ?_)
          · refine aw_iconst (v := 0) k104_364 (by decide) ?_
            refine aw_aload_n k104_365 rfl ?_
            refine aw_iload k104_366 rfl ?_
            refine aw_iload k104_368 rfl ?_
            refine aw_callV2 k104_370 hC_L_holds ok_A_sharedSides sv_L_137 hH_A_sharedSides ⟨rfl, rfl⟩ (by decide) hN_A_sharedSides (by rw [hL_A_sharedSides]; exact Nat.le_of_ble_eq_true rfl) (Nat.le_of_ble_eq_true rfl) k2 ?_
            refine aw_if_ne 380 k104_373 (by decide) (fun c_373 => ?_) (fun c_373 => ?_)
            · refine aw_iconst (v := 0) k104_380 (by decide) ?_
              refine aw_icmp_ne 395 k104_381 (by decide) (fun c_381 => ?_) (fun c_381 => ?_)
              · exact absurd rfl c_381
              · refine aw_iload k104_384 rfl ?_
                refine aw_iload k104_386 rfl ?_
                refine aw_icmp_gt 395 k104_388 (by decide) (fun c_388 => ?_) (fun c_388 => ?_)
                · exact absurd (nI_lt_of c_388) (by omega)
                · refine aw_iconst (v := 1) k104_391 (by decide) ?_
                  refine aw_goto (t := 396) k104_392 (by decide) ?_
                  refine aw_istore k104_396 (Nat.le_of_ble_eq_true rfl) (st1_9 (by rfl)) ?_
                  refine aw_iinc (y := 1) k104_398 rfl (by decide) (st1_17 (by rfl)) ?_
                  rw [nI_1 o]
                  refine aw_goto (t := 333) k104_401 (by decide) ?_
                  exact hn _
            · exact absurd c_373 g1
          · exact absurd c_357 g0
/-- the largest -/
theorem h_large {d L : Nat} {M : mM} {f t : Nat → Int32} {hs : List (Nat → Int32)} {sn : Option (Nat → Int32)} {v : Int32} (hC : CR M f hs sn t L) (hG : Gp f) {i : Nat} (hi : i < fC f) (hk : ∀ x11 x12 x13 x14 x15 x16 x17 x18 : Option mAV, AW iL_holds (d + 10) 112 [some (vR 5 0 0), some (vI v), some (vI (f 0)), some (vI (bef f 0 (fN f))), some (vI (bef f 1 (fN f))), some (vL (sumL (twF f) (i + 1))), none, some (vI (grF f (i + 1)).1), some (vI (iabs (bef f 0 (fN f)) + iabs (bef f 1 (fN f)))), some (vI 1), some (vI (nI (i + 1))), x11, x12, x13, x14, x15, x16, x17, x18] [] M (.inl (some (vI 1))) M 0) (x17 x18 : Option mAV) : AW iL_holds (d + 10) 299 [some (vR 5 0 0), some (vI v), some (vI (f 0)), some (vI (bef f 0 (fN f))), some (vI (bef f 1 (fN f))), some (vL (sumL (twF f) (i + 1))), none, some (vI (grF f i).1), some (vI (iabs (bef f 0 (fN f)) + iabs (bef f 1 (fN f)))), some (vI 1), some (vI (nI i)), some (vL (twF f i)), none, some (vL (twF f i / 2)), none, some (vI (nI (leF f i))), some (vI (nI (bN f i))), x17, x18] [] M (.inl (some (vI 1))) M 0 := by
  have h6 := hG.1.2.2.2.1
  have hin := h_inner (d := d) (v := v) hC hG hi hk i 0 (by omega)
  have t328 : ∀ w, w = (grF f (i + 1)).1 → AW iL_holds (d + 10) 328 [some (vR 5 0 0), some (vI v), some (vI (f 0)), some (vI (bef f 0 (fN f))), some (vI (bef f 1 (fN f))), some (vL (sumL (twF f) (i + 1))), none, some (vI (grF f i).1), some (vI (iabs (bef f 0 (fN f)) + iabs (bef f 1 (fN f)))), some (vI 1), some (vI (nI i)), some (vL (twF f i)), none, some (vL (twF f i / 2)), none, some (vI (nI (leF f i))), some (vI (nI (bN f i))), x17, x18] [vI w] M (.inl (some (vI 1))) M 0 := by
    intro w e
    subst e
    refine aw_istore k104_328 (Nat.le_of_ble_eq_true rfl) (st1_7 (by rfl)) ?_
    refine aw_iconst (v := 0) k104_330 (by decide) ?_
    refine aw_istore k104_331 (Nat.le_of_ble_eq_true rfl) (st1_17 (by rfl)) ?_
    exact hin _
  obtain ⟨g1, g2⟩ := gr_next hG hi
  by_cases hq : (grF f i).1 = -1
  · have e := (g1 hq).symm
    refine aw_iload k104_299 rfl ?_
    refine aw_iconst (v := (-1)) k104_301 (by decide) ?_
    refine aw_icmp_eq 321 k104_302 (by decide) (fun c_302 => ?_) (fun c_302 => ?_)
    · refine aw_iload k104_321 rfl ?_
      refine aw_goto (t := 328) k104_323 (by decide) ?_
      exact t328 _ e
    · exact absurd hq c_302
  · obtain ⟨j, hj, e1, e2, e3⟩ := g2 hq
    have kT : CT iA_twiceAreaByStrips (d + 9) [vR 5 0 0, vI (grF f i).1] M (.inl (some (vL (twF f j)))) M 0 := by
      have hF : hasF f (nI j) = true := hasF_nI hG.1.2.2.1 h6 (by omega)
      have ej : (nI j).toNatClampNeg = j := nI_clamp (by omega)
      have := s_A_twiceAreaByStrips (d := d + 1) hC hF
      rw [ej, hG.str (by omega)] at this
      rw [e1]
      exact this
    refine aw_iload k104_299 rfl ?_
    refine aw_iconst (v := (-1)) k104_301 (by decide) ?_
    refine aw_icmp_eq 321 k104_302 (by decide) (fun c_302 => ?_) (fun c_302 => ?_)
    · exact absurd c_302 hq
    · refine aw_lload k104_305 rfl ?_
      refine aw_aload_n k104_307 rfl ?_
      refine aw_iload k104_308 rfl ?_
      refine aw_callV1 k104_310 hC_L_holds ok_A_twiceAreaByStrips sv_L_68 hH_A_twiceAreaByStrips ⟨rfl, rfl⟩ (by decide) hN_A_twiceAreaByStrips (by rw [hL_A_twiceAreaByStrips]; exact Nat.le_of_ble_eq_true rfl) (Nat.le_of_ble_eq_true rfl) kT ?_
      refine aw_ldc2_w k104_313 hC_L_holds cl_L_113 ?_
      refine aw_ldiv k104_316 (by decide) ?_
      refine aw_lcmp_le 326 k104_317 k104_318 (by decide) (fun c_317 => ?_) (fun c_317 => ?_)
      · refine aw_iload k104_326 rfl ?_
        first | exact t328 _ (e3 c_317).symm | exact t328 _ (e1.trans (e2 c_317).symm)
      · refine aw_iload k104_321 rfl ?_
        refine aw_goto (t := 328) k104_323 (by decide) ?_
        first | exact t328 _ (e3 c_317).symm | exact t328 _ (e1.trans (e2 c_317).symm)
