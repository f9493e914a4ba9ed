/-! THE LAW: rounds, from its beginning -/
theorem RP.go {d pc : Nat} {loc : List (Option mAV)} {M : mM} {sn : Option (Nat → Int32)} {t : Nat → Int32} {L pc2 : Nat} {loc2 : List (Option mAV)} {M2 : mM} (h : RP d pc2 loc2 M2 sn t L) (hF : CFr M M2) (k : ∀ M', AW iL_rounds (d + 9) pc2 loc2 [] M2 (.inl (some (vI 1))) M' 0 → AW iL_rounds (d + 9) pc loc [] M (.inl (some (vI 1))) M' 0) : RP d pc loc M sn t L := by
  obtain ⟨M', f', hs', h1, h2, h3, h4⟩ := h
  exact ⟨M', f', hs', k M' h1, h2, h3, hF.tr h4⟩
/-- a term of the law's own sum -/
def trm (f : Nat → Int32) (n k : Nat) : Int64 := (adjF f n k 0).toInt64 * (adjF f n (k + 1) 1).toInt64 - (adjF f n k 1).toInt64 * (adjF f n (k + 1) 0).toInt64
theorem trm_sum {f : Nat → Int32} (hB : BdF f) (h12 : fN f ≤ 12) : sumL (trm f (fN f)) (fN f) = sumL (crB (adB f (fN f)) (fN f)) (fN f) := sumL_congr (fun k hk => by
  have e : ∀ w, w < 2 → adjF f (fN f) (k + 1) w = adjF f (fN f) (nx (fN f) k) w := fun w hw => by
    unfold nx
    split
    · rfl
    · rw [show k + 1 = fN f by omega, adj_n hB h12 hw, adj_0]
  have e2 : crB (adB f (fN f)) (fN f) k = (bX (adB f (fN f)) k).toInt64 * (bY (adB f (fN f)) (nx (fN f) k)).toInt64 - (bY (adB f (fN f)) k).toInt64 * (bX (adB f (fN f)) (nx (fN f) k)).toInt64 := rfl
  unfold trm
  rw [e2, adB_X, adB_Y, adB_X, adB_Y, e 0 (by decide), e 1 (by decide)])
theorem r_351 {d L : Nat} {M : mM} {f t : Nat → Int32} {hs : List (Nat → Int32)} {sn : Option (Nat → Int32)} (hC : CR M f hs sn t L) (hI : Ip f hs sn) {a b : Int32} {x3 x5 x6 x7 : Option mAV} {x12 : Option mAV} (hcl : closeF f (fN f) = true) (h3n : 3 ≤ fN f) (h6 : fC f < 6) : RP d 351 [some (vR 5 0 0), some (vI a), some (vI b), x3, some (vI (nI (fN f))), x5, x6, x7, some (vI (nI (fC f))), some (vL (sumL (trm f (fN f)) (fN f))), none, some (vI (hashV (fun k => adjF f (fN f) k 0) (fun k => adjF f (fN f) k 1) (fN f))), x12, none, none] M sn t L := by
  have h12 := hI.1.1.2.1
  have hB := hI.1.2.1
  have e := trm_sum hB h12
  by_cases hq : sumL (trm f (fN f)) (fN f) = 0
  · refine ⟨M, f, hs, ?_, hC, hI, CFr.rf⟩
    have k1 := q_fields (d := d) hC
    refine aw_lload k100_351 rfl ?_
    refine aw_lconst (v := 0) k100_353 (by decide) ?_
    refine aw_lcmp_ne 373 k100_354 k100_355 (by decide) (fun c_354 => ?_) (fun c_354 => ?_)
    · exact absurd hq c_354
    · refine aw_aload_n k100_358 rfl ?_
      refine aw_callV0 k100_359 hC_L_rounds ok_A_fields sv_L_21 hH_A_fields ⟨rfl, rfl⟩ (by decide) hN_A_fields (by rw [hL_A_fields]; exact Nat.le_of_ble_eq_true rfl) (Nat.le_of_ble_eq_true rfl) k1 ?_
      refine aw_iload k100_362 rfl ?_
      refine aw_icmp_ne 371 k100_364 (by decide) (fun c_364 => ?_) (fun c_364 => ?_)
      · exact absurd rfl c_364
      · refine aw_iconst (v := 1) k100_367 (by decide) ?_
        refine aw_goto (t := 372) k100_368 (by decide) ?_
        refine aw_zreturn k100_372 hR_L_rounds ?_ ?_ ?_
        · exact Or.inr rfl
        · rfl
        · rfl
  · have hbd := su_bd (adB_bd hB h12) h12
    have hck : canKeepF f = true := by
      have htw : ¬ twB (adB f (fN f)) (fN f) = 0 := by
        intro q
        have q2 : (labs (sumL (crB (adB f (fN f)) (fN f)) (fN f))).toInt = (0 : Int64).toInt := congrArg Int64.toInt q
        have z : (0 : Int64).toInt = 0 := rfl
        rw [labs_bd hbd (by decide), z] at q2
        refine hq (Int64.toInt_inj.mp ?_)
        rw [e, z]
        omega
      unfold canKeepF
      rw [decide_eq_true h3n, hcl, decide_eq_true h6, decide_eq_false htw]
      rfl
    refine RP.go (r_373 (d := d) (a := a) (b := b) (x3 := x3) (x5 := x5) (x6 := x6) (x7 := x7) (x12 := x12) hC hI hck (congrArg labs e) rfl) CFr.rf (fun M' hA => ?_)
    refine aw_lload k100_351 rfl ?_
    refine aw_lconst (v := 0) k100_353 (by decide) ?_
    refine aw_lcmp_ne 373 k100_354 k100_355 (by decide) (fun c_354 => ?_) (fun c_354 => ?_)
    · exact hA
    · exact absurd c_354 hq
theorem r_274 {d L : Nat} {M : mM} {f t : Nat → Int32} {hs : List (Nat → Int32)} {sn : Option (Nat → Int32)} (hC : CR M f hs sn t L) (hI : Ip f hs sn) {a b : Int32} {x3 x5 x6 x7 : Option mAV} (hcl : closeF f (fN f) = true) (h3n : 3 ≤ fN f) (h6 : fC f < 6) : ∀ m k : Nat, k + m = fN f → RP d 274 [some (vR 5 0 0), some (vI a), some (vI b), x3, some (vI (nI (fN f))), x5, x6, x7, some (vI (nI (fC f))), some (vL (sumL (trm f (fN f)) k)), none, some (vI (hashV (fun k => adjF f (fN f) k 0) (fun k => adjF f (fN f) k 1) k)), some (vI (nI k)), none, none] M sn t L := by
  have h12 := hI.1.1.2.1
  intro m
  induction m with
  | zero =>
    intro k hk
    obtain rfl : k = fN f := by omega
    refine RP.go (r_351 (d := d) (a := a) (b := b) (x3 := x3) (x5 := x5) (x6 := x6) (x7 := x7) (x12 := some (vI (nI (fN f)))) hC hI hcl h3n h6) CFr.rf (fun M' hA => ?_)
    refine aw_iload k100_274 rfl ?_
    refine aw_iload k100_276 rfl ?_
    refine aw_icmp_ge 351 k100_278 (by decide) (fun c_278 => ?_) (fun c_278 => ?_)
    · exact hA
    · exact absurd (nI_leI (by omega) (by omega) |>.mpr (Nat.le_refl _)) c_278
  | succ m ih =>
    intro k hk
    have k1 := q_adjE (d := d) hC (c := k) (by omega)
    have k2 := q_adjN (d := d) hC (c := k) (by omega)
    have k3 := q_adjE (d := d) hC (c := k + 1) (by omega)
    have k4 := q_adjN (d := d) hC (c := k + 1) (by omega)
    refine RP.go (ih (k + 1) (by omega)) CFr.rf (fun M' hA => ?_)
    refine aw_iload k100_274 rfl ?_
    refine aw_iload k100_276 rfl ?_
    refine aw_icmp_ge 351 k100_278 (by decide) (fun c_278 => ?_) (fun c_278 => ?_)
    · exact absurd (nI_le_of c_278) (by omega)
    · refine aw_lload k100_281 rfl ?_
      refine aw_aload_n k100_283 rfl ?_
      refine aw_iload k100_284 rfl ?_
      refine aw_callV1 k100_286 hC_L_rounds ok_A_adjustedEast sv_L_40 hH_A_adjustedEast ⟨rfl, rfl⟩ (by decide) hN_A_adjustedEast (by rw [hL_A_adjustedEast]; exact Nat.le_of_ble_eq_true rfl) (Nat.le_of_ble_eq_true rfl) k1 ?_
      refine aw_i2l k100_289 ?_
      refine aw_aload_n k100_290 rfl ?_
      refine aw_iload k100_291 rfl ?_
      refine aw_iconst (v := 1) k100_293 (by decide) ?_
      refine aw_iadd k100_294 ?_
      rw [nI_1 k]
      refine aw_callV1 k100_295 hC_L_rounds ok_A_adjustedNorth sv_L_54 hH_A_adjustedNorth ⟨rfl, rfl⟩ (by decide) hN_A_adjustedNorth (by rw [hL_A_adjustedNorth]; exact Nat.le_of_ble_eq_true rfl) (Nat.le_of_ble_eq_true rfl) k4 ?_
      refine aw_i2l k100_298 ?_
      refine aw_lmul k100_299 ?_
      refine aw_aload_n k100_300 rfl ?_
      refine aw_iload k100_301 rfl ?_
      refine aw_callV1 k100_303 hC_L_rounds ok_A_adjustedNorth sv_L_54 hH_A_adjustedNorth ⟨rfl, rfl⟩ (by decide) hN_A_adjustedNorth (by rw [hL_A_adjustedNorth]; exact Nat.le_of_ble_eq_true rfl) (Nat.le_of_ble_eq_true rfl) k2 ?_
      refine aw_i2l k100_306 ?_
      refine aw_aload_n k100_307 rfl ?_
      refine aw_iload k100_308 rfl ?_
      refine aw_iconst (v := 1) k100_310 (by decide) ?_
      refine aw_iadd k100_311 ?_
      rw [nI_1 k]
      refine aw_callV1 k100_312 hC_L_rounds ok_A_adjustedEast sv_L_40 hH_A_adjustedEast ⟨rfl, rfl⟩ (by decide) hN_A_adjustedEast (by rw [hL_A_adjustedEast]; exact Nat.le_of_ble_eq_true rfl) (Nat.le_of_ble_eq_true rfl) k3 ?_
      refine aw_i2l k100_315 ?_
      refine aw_lmul k100_316 ?_
      refine aw_lsub k100_317 ?_
      refine aw_ladd k100_318 ?_
      refine aw_lstore k100_319 (Nat.le_of_ble_eq_true rfl) (st2_9 (by rfl)) ?_
      refine aw_bipush (v := 31) k100_321 (by decide) ?_
      refine aw_iload k100_323 rfl ?_
      refine aw_imul k100_325 ?_
      refine aw_aload_n k100_326 rfl ?_
      refine aw_iload k100_327 rfl ?_
      refine aw_callV1 k100_329 hC_L_rounds ok_A_adjustedEast sv_L_40 hH_A_adjustedEast ⟨rfl, rfl⟩ (by decide) hN_A_adjustedEast (by rw [hL_A_adjustedEast]; exact Nat.le_of_ble_eq_true rfl) (Nat.le_of_ble_eq_true rfl) k1 ?_
      refine aw_iadd k100_332 ?_
      refine aw_bipush (v := 7) k100_333 (by decide) ?_
      refine aw_aload_n k100_335 rfl ?_
      refine aw_iload k100_336 rfl ?_
      refine aw_callV1 k100_338 hC_L_rounds ok_A_adjustedNorth sv_L_54 hH_A_adjustedNorth ⟨rfl, rfl⟩ (by decide) hN_A_adjustedNorth (by rw [hL_A_adjustedNorth]; exact Nat.le_of_ble_eq_true rfl) (Nat.le_of_ble_eq_true rfl) k2 ?_
      refine aw_imul k100_341 ?_
      refine aw_iadd k100_342 ?_
      refine aw_istore k100_343 (Nat.le_of_ble_eq_true rfl) (st1_11 (by rfl)) ?_
      refine aw_iinc (y := 1) k100_345 rfl (by decide) (st1_12 (by rfl)) ?_
      rw [nI_1 k]
      refine aw_goto (t := 274) k100_348 (by decide) ?_
      exact hA
theorem r_224 {d L : Nat} {M : mM} {f t : Nat → Int32} {hs : List (Nat → Int32)} {sn : Option (Nat → Int32)} (hC : CR M f hs sn t L) (hI : Ip f hs sn) {a b no : Int32} {x3 x5 x6 x8 : Option mAV} : RP d 224 [some (vR 5 0 0), some (vI a), some (vI b), x3, some (vI (nI (fN f))), x5, x6, some (vI no), x8, none, none, none, none, none, none] M sn t L := by
  have h12 := hI.1.1.2.1
  have hc6 := hI.1.1.2.2.2.1
  have k1 := q_fields (d := d) hC
  have k2 := s_A_isClose (d := d) hC
  by_cases hq : closeF f (fN f) = true ∧ 3 ≤ fN f ∧ fC f < 6
  · obtain ⟨hcl, h3n, h6⟩ := hq
    rw [hcl] at k2
    refine RP.go (r_274 (d := d) (a := a) (b := b) (x3 := x3) (x5 := x5) (x6 := x6) (x7 := some (vI no)) hC hI hcl h3n h6 (fN f) 0 (by omega)) CFr.rf (fun M' hA => ?_)
    refine aw_aload_n k100_224 rfl ?_
    refine aw_callV0 k100_225 hC_L_rounds ok_A_fields sv_L_21 hH_A_fields ⟨rfl, rfl⟩ (by decide) hN_A_fields (by rw [hL_A_fields]; exact Nat.le_of_ble_eq_true rfl) (Nat.le_of_ble_eq_true rfl) k1 ?_
    refine aw_istore k100_228 (Nat.le_of_ble_eq_true rfl) (st1_8 (by rfl)) ?_
    refine aw_aload_n k100_230 rfl ?_
    refine aw_callV0 k100_231 hC_L_rounds ok_A_isClose sv_L_44 hH_A_isClose ⟨rfl, rfl⟩ (by decide) hN_A_isClose (by rw [hL_A_isClose]; exact Nat.le_of_ble_eq_true rfl) (Nat.le_of_ble_eq_true rfl) k2 ?_
    refine aw_if_eq 250 k100_234 (by decide) (fun c_234 => ?_) (fun c_234 => ?_)
    · exact absurd (show (1 : Int32) = 0 from c_234) (by decide)
    · refine aw_iload k100_237 rfl ?_
      refine aw_iconst (v := 3) k100_239 (by decide) ?_
      refine aw_icmp_lt 250 k100_240 (by decide) (fun c_240 => ?_) (fun c_240 => ?_)
      · exact absurd (nI_lt_of (b := 3) c_240) (by omega)
      · refine aw_iload k100_243 rfl ?_
        refine aw_bipush (v := 6) k100_245 (by decide) ?_
        refine aw_icmp_ne 265 k100_247 (by decide) (fun c_247 => ?_) (fun c_247 => ?_)
        · refine aw_lconst (v := 0) k100_265 (by decide) ?_
          refine aw_lstore k100_266 (Nat.le_of_ble_eq_true rfl) (st2_9 (by rfl)) ?_
          refine aw_iconst (v := 0) k100_268 (by decide) ?_
          refine aw_istore k100_269 (Nat.le_of_ble_eq_true rfl) (st1_11 (by rfl)) ?_
          refine aw_iconst (v := 0) k100_271 (by decide) ?_
          refine aw_istore k100_272 (Nat.le_of_ble_eq_true rfl) (st1_12 (by rfl)) ?_
          exact hA
        · exact absurd (nI_eq_of (b := 6) c_247) (by omega)
  · refine ⟨M, f, hs, ?_, hC, hI, CFr.rf⟩
    have t250 : AW iL_rounds (d + 9) 250 [some (vR 5 0 0), some (vI a), some (vI b), x3, some (vI (nI (fN f))), x5, x6, some (vI no), some (vI (nI (fC f))), none, none, none, none, none, none] [] M (.inl (some (vI 1))) M 0 := by
      refine aw_aload_n k100_250 rfl ?_
      refine aw_callV0 k100_251 hC_L_rounds ok_A_fields sv_L_21 hH_A_fields ⟨rfl, rfl⟩ (by decide) hN_A_fields (by rw [hL_A_fields]; exact Nat.le_of_ble_eq_true rfl) (Nat.le_of_ble_eq_true rfl) k1 ?_
      refine aw_iload k100_254 rfl ?_
      refine aw_icmp_ne 263 k100_256 (by decide) (fun c_256 => ?_) (fun c_256 => ?_)
      · exact absurd rfl c_256
      · refine aw_iconst (v := 1) k100_259 (by decide) ?_
        refine aw_goto (t := 264) k100_260 (by decide) ?_
        refine aw_zreturn k100_264 hR_L_rounds ?_ ?_ ?_
        · exact Or.inr rfl
        · rfl
        · rfl
    refine aw_aload_n k100_224 rfl ?_
    refine aw_callV0 k100_225 hC_L_rounds ok_A_fields sv_L_21 hH_A_fields ⟨rfl, rfl⟩ (by decide) hN_A_fields (by rw [hL_A_fields]; exact Nat.le_of_ble_eq_true rfl) (Nat.le_of_ble_eq_true rfl) k1 ?_
    refine aw_istore k100_228 (Nat.le_of_ble_eq_true rfl) (st1_8 (by rfl)) ?_
    refine aw_aload_n k100_230 rfl ?_
    refine aw_callV0 k100_231 hC_L_rounds ok_A_isClose sv_L_44 hH_A_isClose ⟨rfl, rfl⟩ (by decide) hN_A_isClose (by rw [hL_A_isClose]; exact Nat.le_of_ble_eq_true rfl) (Nat.le_of_ble_eq_true rfl) k2 ?_
    refine aw_if_eq 250 k100_234 (by decide) (fun c_234 => ?_) (fun c_234 => ?_)
    · exact t250
    · refine aw_iload k100_237 rfl ?_
      refine aw_iconst (v := 3) k100_239 (by decide) ?_
      refine aw_icmp_lt 250 k100_240 (by decide) (fun c_240 => ?_) (fun c_240 => ?_)
      · exact t250
      · refine aw_iload k100_243 rfl ?_
        refine aw_bipush (v := 6) k100_245 (by decide) ?_
        refine aw_icmp_ne 265 k100_247 (by decide) (fun c_247 => ?_) (fun c_247 => ?_)
        · exact absurd ⟨bI_1 c_234, nI_nlt_of (b := 3) c_240, by have := nI_ne_of (b := 6) c_247; omega⟩ hq
        · exact t250
theorem lg_10 {n : Nat} (h : n ≤ 10) : (10 : Int32) - nI n = nI (10 - n) := by
  have z : (10 : Int32).toInt = 10 := rfl
  refine i_eq ?_
  rw [i_sub (A := 10) (B := 10) ⟨by decide, by decide⟩ ⟨by rw [nI_i (by omega)]; omega, by rw [nI_i (by omega)]; omega⟩ (by decide), nI_i (by omega), nI_i (by omega), z]
  omega
/-- a leg back to near the origin -/
theorem r_126 {d L : Nat} {M : mM} {f t : Nat → Int32} {hs : List (Nat → Int32)} {sn : Option (Nat → Int32)} (hC : CR M f hs sn t L) (hI : Ip f hs sn) {a b n3 n5 : Int32} {x6 : Option mAV} (hn : fN f < 12) : RP d 126 [some (vR 5 0 0), some (vI a), some (vI b), some (vI n3), some (vI (nI (fN f))), some (vI n5), x6, none, none, none, none, none, none, none, none] M sn t L := by
  have h12 := hI.1.1.2.1
  have hB := hI.1.2.1
  have z5 : (5 : Int32).toInt = 5 := rfl
  have z1 : (1 : Int32).toInt = 1 := rfl
  have z2000 : (2000 : Int32).toInt = 2000 := rfl
  have k1 := s_A_errorEast (d := d) hC
  have k2 := s_A_errorNorth (d := d) hC
  have r1 := lowV_rng (v := b) (n := 2000) (by decide)
  rw [z2000] at r1
  have el : (1 + lowV b 2000).toInt = 1 + (lowV b 2000).toInt := by rw [i_add (A := 1) (B := 2000) ⟨by decide, by decide⟩ ⟨by omega, by omega⟩ (by decide), z1]
  generalize he : -bef f 0 (fN f) + lowV b 5 - 2 = east
  generalize hno : -bef f 1 (fN f) + lowV (b >>> ((3 : Int32) &&& 31)) 5 - 2 = north
  by_cases hq : inR east 9999 ∧ inR north 9999
  · obtain ⟨M2, kA, hC2, hF2⟩ := s_A_addLeg (d := d) hC (x := east) (y := north) (l := 1 + lowV b 2000) ⟨hq.1, hq.2, by rw [Int32.le_iff_toInt_le, z1]; omega, by rw [Int32.le_iff_toInt_le]; have z : (20000 : Int32).toInt = 20000 := rfl; omega⟩ hn
    have hG2 := fAdd_gp hI.1 hn (x := east) (y := north) (l := 1 + lowV b 2000) ⟨hq.1, hq.2, by rw [Int32.le_iff_toInt_le, z1]; omega, by rw [Int32.le_iff_toInt_le]; have z : (20000 : Int32).toInt = 20000 := rfl; omega⟩
    rw [hG2.1.1] at kA
    refine RP.go (r_224 (d := d) (a := a) (b := b) (no := north) (x3 := some (vI n3)) (x5 := some (vI n5)) (x6 := some (vI east)) (x8 := none) hC2 (hI.push hG2)) hF2 (fun M' hA => ?_)
    obtain ⟨⟨g1, g2⟩, g3, g4⟩ := hq
    refine aw_aload_n k100_126 rfl ?_
    refine aw_callV0 k100_127 hC_L_rounds ok_A_errorEast sv_L_33 hH_A_errorEast ⟨rfl, rfl⟩ (by decide) hN_A_errorEast (by rw [hL_A_errorEast]; exact Nat.le_of_ble_eq_true rfl) (Nat.le_of_ble_eq_true rfl) k1 ?_
    refine aw_ineg k100_130 ?_
    refine aw_iload_n k100_131 rfl ?_
    refine aw_iconst (v := 5) k100_132 (by decide) ?_
    refine aw_callS2 k100_133 hC_L_rounds ok_L_low ss_L_9 hH_L_low (by rw [hL_L_low]; exact Nat.le_of_ble_eq_true rfl) (Nat.le_of_ble_eq_true rfl) (c_low (by decide)) ?_
    refine aw_iadd k100_136 ?_
    refine aw_iconst (v := 2) k100_137 (by decide) ?_
    refine aw_isub k100_138 ?_
    rw [he]
    refine aw_istore k100_139 (Nat.le_of_ble_eq_true rfl) (st1_6 (by rfl)) ?_
    refine aw_aload_n k100_141 rfl ?_
    refine aw_callV0 k100_142 hC_L_rounds ok_A_errorNorth sv_L_48 hH_A_errorNorth ⟨rfl, rfl⟩ (by decide) hN_A_errorNorth (by rw [hL_A_errorNorth]; exact Nat.le_of_ble_eq_true rfl) (Nat.le_of_ble_eq_true rfl) k2 ?_
    refine aw_ineg k100_145 ?_
    refine aw_iload_n k100_146 rfl ?_
    refine aw_iconst (v := 3) k100_147 (by decide) ?_
    refine aw_ishr k100_148 ?_
    refine aw_iconst (v := 5) k100_149 (by decide) ?_
    refine aw_callS2 k100_150 hC_L_rounds ok_L_low ss_L_9 hH_L_low (by rw [hL_L_low]; exact Nat.le_of_ble_eq_true rfl) (Nat.le_of_ble_eq_true rfl) (c_low (by decide)) ?_
    refine aw_iadd k100_153 ?_
    refine aw_iconst (v := 2) k100_154 (by decide) ?_
    refine aw_isub k100_155 ?_
    rw [hno]
    refine aw_istore k100_156 (Nat.le_of_ble_eq_true rfl) (st1_7 (by rfl)) ?_
    refine aw_iload k100_158 rfl ?_
    refine aw_sipush (v := (-9999)) k100_160 (by decide) ?_
    refine aw_icmp_lt 190 k100_163 (by decide) (fun c_163 => ?_) (fun c_163 => ?_)
    · exact absurd g1 (Int32.not_le.mpr c_163)
    · refine aw_iload k100_166 rfl ?_
      refine aw_sipush (v := 9999) k100_168 (by decide) ?_
      refine aw_icmp_gt 190 k100_171 (by decide) (fun c_171 => ?_) (fun c_171 => ?_)
      · exact absurd g2 (Int32.not_le.mpr c_171)
      · refine aw_iload k100_174 rfl ?_
        refine aw_sipush (v := (-9999)) k100_176 (by decide) ?_
        refine aw_icmp_lt 190 k100_179 (by decide) (fun c_179 => ?_) (fun c_179 => ?_)
        · exact absurd g3 (Int32.not_le.mpr c_179)
        · refine aw_iload k100_182 rfl ?_
          refine aw_sipush (v := 9999) k100_184 (by decide) ?_
          refine aw_icmp_le 205 k100_187 (by decide) (fun c_187 => ?_) (fun c_187 => ?_)
          · refine aw_aload_n k100_205 rfl ?_
            refine aw_iload k100_206 rfl ?_
            refine aw_iload k100_208 rfl ?_
            refine aw_iconst (v := 1) k100_210 (by decide) ?_
            refine aw_iload_n k100_211 rfl ?_
            refine aw_sipush (v := 2000) k100_212 (by decide) ?_
            refine aw_callS2 k100_215 hC_L_rounds ok_L_low ss_L_9 hH_L_low (by rw [hL_L_low]; exact Nat.le_of_ble_eq_true rfl) (Nat.le_of_ble_eq_true rfl) (c_low (by decide)) ?_
            refine aw_iadd k100_218 ?_
            refine aw_callV3 k100_219 hC_L_rounds ok_A_addLeg sv_L_36 hH_A_addLeg ⟨rfl, rfl⟩ (by decide) hN_A_addLeg (by rw [hL_A_addLeg]; exact Nat.le_of_ble_eq_true rfl) (Nat.le_of_ble_eq_true rfl) kA ?_
            refine aw_istore k100_222 (Nat.le_of_ble_eq_true rfl) (st1_4 (by rfl)) ?_
            exact hA
          · exact absurd g4 c_187
  · refine ⟨M, f, hs, ?_, hC, hI, CFr.rf⟩
    have k3 := q_legs (d := d) hC
    have t190 : AW iL_rounds (d + 9) 190 [some (vR 5 0 0), some (vI a), some (vI b), some (vI n3), some (vI (nI (fN f))), some (vI n5), some (vI east), some (vI north), none, none, none, none, none, none, none] [] M (.inl (some (vI 1))) M 0 := by
      refine aw_aload_n k100_190 rfl ?_
      refine aw_callV0 k100_191 hC_L_rounds ok_A_legs sv_L_15 hH_A_legs ⟨rfl, rfl⟩ (by decide) hN_A_legs (by rw [hL_A_legs]; exact Nat.le_of_ble_eq_true rfl) (Nat.le_of_ble_eq_true rfl) k3 ?_
      refine aw_iload k100_194 rfl ?_
      refine aw_icmp_ne 203 k100_196 (by decide) (fun c_196 => ?_) (fun c_196 => ?_)
      · exact absurd rfl c_196
      · refine aw_iconst (v := 1) k100_199 (by decide) ?_
        refine aw_goto (t := 204) k100_200 (by decide) ?_
        refine aw_zreturn k100_204 hR_L_rounds ?_ ?_ ?_
        · exact Or.inr rfl
        · rfl
        · rfl
    refine aw_aload_n k100_126 rfl ?_
    refine aw_callV0 k100_127 hC_L_rounds ok_A_errorEast sv_L_33 hH_A_errorEast ⟨rfl, rfl⟩ (by decide) hN_A_errorEast (by rw [hL_A_errorEast]; exact Nat.le_of_ble_eq_true rfl) (Nat.le_of_ble_eq_true rfl) k1 ?_
    refine aw_ineg k100_130 ?_
    refine aw_iload_n k100_131 rfl ?_
    refine aw_iconst (v := 5) k100_132 (by decide) ?_
    refine aw_callS2 k100_133 hC_L_rounds ok_L_low ss_L_9 hH_L_low (by rw [hL_L_low]; exact Nat.le_of_ble_eq_true rfl) (Nat.le_of_ble_eq_true rfl) (c_low (by decide)) ?_
    refine aw_iadd k100_136 ?_
    refine aw_iconst (v := 2) k100_137 (by decide) ?_
    refine aw_isub k100_138 ?_
    rw [he]
    refine aw_istore k100_139 (Nat.le_of_ble_eq_true rfl) (st1_6 (by rfl)) ?_
    refine aw_aload_n k100_141 rfl ?_
    refine aw_callV0 k100_142 hC_L_rounds ok_A_errorNorth sv_L_48 hH_A_errorNorth ⟨rfl, rfl⟩ (by decide) hN_A_errorNorth (by rw [hL_A_errorNorth]; exact Nat.le_of_ble_eq_true rfl) (Nat.le_of_ble_eq_true rfl) k2 ?_
    refine aw_ineg k100_145 ?_
    refine aw_iload_n k100_146 rfl ?_
    refine aw_iconst (v := 3) k100_147 (by decide) ?_
    refine aw_ishr k100_148 ?_
    refine aw_iconst (v := 5) k100_149 (by decide) ?_
    refine aw_callS2 k100_150 hC_L_rounds ok_L_low ss_L_9 hH_L_low (by rw [hL_L_low]; exact Nat.le_of_ble_eq_true rfl) (Nat.le_of_ble_eq_true rfl) (c_low (by decide)) ?_
    refine aw_iadd k100_153 ?_
    refine aw_iconst (v := 2) k100_154 (by decide) ?_
    refine aw_isub k100_155 ?_
    rw [hno]
    refine aw_istore k100_156 (Nat.le_of_ble_eq_true rfl) (st1_7 (by rfl)) ?_
    refine aw_iload k100_158 rfl ?_
    refine aw_sipush (v := (-9999)) k100_160 (by decide) ?_
    refine aw_icmp_lt 190 k100_163 (by decide) (fun c_163 => ?_) (fun c_163 => ?_)
    · exact t190
    · refine aw_iload k100_166 rfl ?_
      refine aw_sipush (v := 9999) k100_168 (by decide) ?_
      refine aw_icmp_gt 190 k100_171 (by decide) (fun c_171 => ?_) (fun c_171 => ?_)
      · exact t190
      · refine aw_iload k100_174 rfl ?_
        refine aw_sipush (v := (-9999)) k100_176 (by decide) ?_
        refine aw_icmp_lt 190 k100_179 (by decide) (fun c_179 => ?_) (fun c_179 => ?_)
        · exact t190
        · refine aw_iload k100_182 rfl ?_
          refine aw_sipush (v := 9999) k100_184 (by decide) ?_
          refine aw_icmp_le 205 k100_187 (by decide) (fun c_187 => ?_) (fun c_187 => ?_)
          · exact absurd ⟨⟨Int32.not_lt.mp c_163, Int32.not_lt.mp c_171⟩, Int32.not_lt.mp c_179, c_187⟩ hq
          · exact t190
/-- some legs more -/
theorem r_62 {d L : Nat} {t : Nat → Int32} {sn : Option (Nat → Int32)} {a b n3 : Int32} {many : Nat} : ∀ (q k : Nat) (f : Nat → Int32) (hs : List (Nat → Int32)) (M : mM), k + q = many → many ≤ 12 → fN f + q < 12 → CR M f hs sn t L → Ip f hs sn → RP d 62 [some (vR 5 0 0), some (vI a), some (vI b), some (vI n3), some (vI (nI (fN f))), some (vI (nI many)), some (vI (nI k)), none, none, none, none, none, none, none, none] M sn t L := by
  intro q
  have z900 : (900 : Int32).toInt = 900 := rfl
  have z400 : (400 : Int32).toInt = 400 := rfl
  have z9 : (9999 : Int32).toInt = 9999 := rfl
  have z1 : (1 : Int32).toInt = 1 := rfl
  have z2 : (20000 : Int32).toInt = 20000 := rfl
  induction q with
  | zero =>
    intro k f hs M hk hm hn hC hI
    obtain rfl : k = many := by omega
    refine RP.go (r_126 (d := d) (a := a) (b := b) (n3 := n3) (n5 := nI k) (x6 := some (vI (nI k))) hC hI (by omega)) CFr.rf (fun M' hA => ?_)
    refine aw_iload k100_62 rfl ?_
    refine aw_iload k100_64 rfl ?_
    refine aw_icmp_ge 126 k100_66 (by decide) (fun c_66 => ?_) (fun c_66 => ?_)
    · exact hA
    · exact absurd (nI_leI (by omega) (by omega) |>.mpr (Nat.le_refl _)) c_66
  | succ q ih =>
    intro k f hs M hk hm hn hC hI
    have r1 := lowV_rng (v := a >>> (nI k &&& 31)) (n := 900) (by decide)
    rw [z900] at r1
    have el : (400 + lowV (a >>> (nI k &&& 31)) 900).toInt = 400 + (lowV (a >>> (nI k &&& 31)) 900).toInt := by rw [i_add (A := 400) (B := 900) ⟨by decide, by decide⟩ ⟨by omega, by omega⟩ (by decide), z400]
    have hx : inR (spanV (a >>> ((2 * nI k) &&& 31) ^^^ b) 900) 9999 ∧ inR (spanV (b >>> ((2 * nI k) &&& 31) ^^^ a <<< (nI k &&& 31)) 900) 9999 ∧ 1 ≤ 400 + lowV (a >>> (nI k &&& 31)) 900 ∧ 400 + lowV (a >>> (nI k &&& 31)) 900 ≤ 20000 :=
      ⟨spanV_in (by decide) (by decide) (by decide), spanV_in (by decide) (by decide) (by decide), by rw [Int32.le_iff_toInt_le, z1]; omega, by rw [Int32.le_iff_toInt_le, z2]; omega⟩
    obtain ⟨M2, kA, hC2, hF2⟩ := s_A_addLeg (d := d) hC hx (by omega)
    have hG2 := fAdd_gp hI.1 (by omega) hx
    have en := fAdd_n (x := spanV (a >>> ((2 * nI k) &&& 31) ^^^ b) 900) (y := spanV (b >>> ((2 * nI k) &&& 31) ^^^ a <<< (nI k &&& 31)) 900) (l := 400 + lowV (a >>> (nI k &&& 31)) 900) hI.1.1 (by omega)
    rw [hG2.1.1] at kA
    have hsp : (0 : Int) < (2 * 900 + 1 : Int32).toInt := by decide
    refine RP.go (ih (k + 1) _ _ M2 (by omega) hm (by rw [en]; omega) hC2 (hI.push hG2)) hF2 (fun M' hA => ?_)
    refine aw_iload k100_62 rfl ?_
    refine aw_iload k100_64 rfl ?_
    refine aw_icmp_ge 126 k100_66 (by decide) (fun c_66 => ?_) (fun c_66 => ?_)
    · exact absurd (nI_le_of c_66) (by omega)
    · refine aw_aload_n k100_69 rfl ?_
      refine aw_iload_n k100_70 rfl ?_
      refine aw_iconst (v := 2) k100_71 (by decide) ?_
      refine aw_iload k100_72 rfl ?_
      refine aw_imul k100_74 ?_
      refine aw_ishr k100_75 ?_
      refine aw_iload_n k100_76 rfl ?_
      refine aw_ixor k100_77 ?_
      refine aw_sipush (v := 900) k100_78 (by decide) ?_
      refine aw_callS2 k100_81 hC_L_rounds ok_L_span ss_L_27 hH_L_span (by rw [hL_L_span]; exact Nat.le_of_ble_eq_true rfl) (Nat.le_of_ble_eq_true rfl) (c_span hsp) ?_
      refine aw_iload_n k100_84 rfl ?_
      refine aw_iconst (v := 2) k100_85 (by decide) ?_
      refine aw_iload k100_86 rfl ?_
      refine aw_imul k100_88 ?_
      refine aw_ishr k100_89 ?_
      refine aw_iload_n k100_90 rfl ?_
      refine aw_iload k100_91 rfl ?_
      refine aw_ishl k100_93 ?_
      refine aw_ixor k100_94 ?_
      refine aw_sipush (v := 900) k100_95 (by decide) ?_
      refine aw_callS2 k100_98 hC_L_rounds ok_L_span ss_L_27 hH_L_span (by rw [hL_L_span]; exact Nat.le_of_ble_eq_true rfl) (Nat.le_of_ble_eq_true rfl) (c_span hsp) ?_
      refine aw_sipush (v := 400) k100_101 (by decide) ?_
      refine aw_iload_n k100_104 rfl ?_
      refine aw_iload k100_105 rfl ?_
      refine aw_ishr k100_107 ?_
      refine aw_sipush (v := 900) k100_108 (by decide) ?_
      refine aw_callS2 k100_111 hC_L_rounds ok_L_low ss_L_9 hH_L_low (by rw [hL_L_low]; exact Nat.le_of_ble_eq_true rfl) (Nat.le_of_ble_eq_true rfl) (c_low (by decide)) ?_
      refine aw_iadd k100_114 ?_
      refine aw_callV3 k100_115 hC_L_rounds ok_A_addLeg sv_L_36 hH_A_addLeg ⟨rfl, rfl⟩ (by decide) hN_A_addLeg (by rw [hL_A_addLeg]; exact Nat.le_of_ble_eq_true rfl) (Nat.le_of_ble_eq_true rfl) kA ?_
      refine aw_istore k100_118 (Nat.le_of_ble_eq_true rfl) (st1_4 (by rfl)) ?_
      refine aw_iinc (y := 1) k100_120 rfl (by decide) (st1_6 (by rfl)) ?_
      rw [nI_1 k]
      refine aw_goto (t := 62) k100_123 (by decide) ?_
      exact hA
theorem r_31 {d L : Nat} {M : mM} {f t : Nat → Int32} {hs : List (Nat → Int32)} {sn : Option (Nat → Int32)} (hC : CR M f hs sn t L) (hI : Ip f hs sn) {a b n3 : Int32} (hn : fN f ≤ 8) : RP d 31 [some (vR 5 0 0), some (vI a), some (vI b), some (vI n3), some (vI (nI (fN f))), none, none, none, none, none, none, none, none, none, none] M sn t L := by
  have e10 := lg_10 (n := fN f) (by omega)
  obtain ⟨r, hr, hr1, hr2, hr3⟩ : ∃ r : Nat, (¬ nI (10 - fN f) ≤ 6 → (6 : Int32) = nI r) ∧ (nI (10 - fN f) ≤ 6 → nI (10 - fN f) = nI r) ∧ 1 ≤ r ∧ r + fN f ≤ 10 := by
    by_cases h : 10 - fN f ≤ 6
    · exact ⟨10 - fN f, fun q => absurd ((nI_leI (b := 6) (by omega) (by omega)).mpr h) q, fun _ => rfl, by omega, by omega⟩
    · exact ⟨6, fun _ => rfl, fun q => absurd (nI_le_of (b := 6) q) h, by omega, by omega⟩
  have hpos : 0 < (nI r).toInt := by rw [nI_i (by omega)]; omega
  have rg := lowV_rng (v := a) (n := nI r) hpos
  rw [nI_i (by omega)] at rg
  have hm := i_nat rg.1
  have hm2 : (lowV a (nI r)).toInt.toNat < r := by omega
  generalize (lowV a (nI r)).toInt.toNat = m at hm hm2
  have hmany : (2 : Int32) + lowV a (nI r) = nI (2 + m) := by rw [hm, show (2 : Int32) = nI 2 from rfl, nI_add]
  refine RP.go (r_62 (d := d) (a := a) (b := b) (n3 := n3) (many := 2 + m) (2 + m) 0 f hs M (by omega) (by omega) (by omega) hC hI) CFr.rf (fun M' hA => ?_)
  have t53 : ∀ w, w = nI r → AW iL_rounds (d + 9) 53 [some (vR 5 0 0), some (vI a), some (vI b), some (vI n3), some (vI (nI (fN f))), none, none, none, none, none, none, none, none, none, none] [vI w, vI a, vI 2] M (.inl (some (vI 1))) M' 0 := by
    intro w e
    subst e
    refine aw_callS2 k100_53 hC_L_rounds ok_L_low ss_L_9 hH_L_low (by rw [hL_L_low]; exact Nat.le_of_ble_eq_true rfl) (Nat.le_of_ble_eq_true rfl) (c_low hpos) ?_
    refine aw_iadd k100_56 ?_
    rw [hmany]
    refine aw_istore k100_57 (Nat.le_of_ble_eq_true rfl) (st1_5 (by rfl)) ?_
    refine aw_iconst (v := 0) k100_59 (by decide) ?_
    refine aw_istore k100_60 (Nat.le_of_ble_eq_true rfl) (st1_6 (by rfl)) ?_
    exact hA
  refine aw_iconst (v := 2) k100_31 (by decide) ?_
  refine aw_iload_n k100_32 rfl ?_
  refine aw_bipush (v := 10) k100_33 (by decide) ?_
  refine aw_iload k100_35 rfl ?_
  refine aw_isub k100_37 ?_
  rw [e10]
  refine aw_bipush (v := 6) k100_38 (by decide) ?_
  refine aw_icmp_le 48 k100_40 (by decide) (fun c_40 => ?_) (fun c_40 => ?_)
  · have w1 := hr1 c_40
    refine aw_bipush (v := 10) k100_48 (by decide) ?_
    refine aw_iload k100_50 rfl ?_
    refine aw_isub k100_52 ?_
    first | exact t53 _ w1 | (rw [e10]; exact t53 _ w1)
  · have w1 := hr c_40
    refine aw_bipush (v := 6) k100_43 (by decide) ?_
    refine aw_goto (t := 53) k100_45 (by decide) ?_
    first | exact t53 _ w1 | (rw [e10]; exact t53 _ w1)
theorem fTake_n {f : Nat → Int32} (hS : ShF f) (hn : 0 < fN f) : fN (fTake f) = fN f - 1 := by
  have h12 := hS.2.1
  exact fN_of (by rw [fTake_0, hS.1]; exact nI_sub1 hn) (by omega)
theorem r_8 {d L : Nat} {t : Nat → Int32} {sn : Option (Nat → Int32)} {a b n3 : Int32} : ∀ (q : Nat) (f : Nat → Int32) (hs : List (Nat → Int32)) (M : mM), fN f ≤ 8 + q → CR M f hs sn t L → Ip f hs sn → RP d 8 [some (vR 5 0 0), some (vI a), some (vI b), some (vI n3), some (vI (nI (fN f))), none, none, none, none, none, none, none, none, none, none] M sn t L := by
  have e4 : ∀ n : Nat, nI n + 4 = nI (n + 4) := fun n => by rw [show (4 : Int32) = nI 4 from rfl, nI_add]
  intro q
  induction q with
  | zero =>
    intro f hs M hn hC hI
    refine RP.go (r_31 (d := d) (a := a) (b := b) (n3 := n3) hC hI hn) CFr.rf (fun M' hA => ?_)
    refine aw_iload k100_8 rfl ?_
    refine aw_if_le 31 k100_10 (by decide) (fun c_10 => ?_) (fun c_10 => ?_)
    · exact hA
    · refine aw_iload k100_13 rfl ?_
      refine aw_iconst (v := 4) k100_15 (by decide) ?_
      refine aw_iadd k100_16 ?_
      rw [e4 (fN f)]
      refine aw_bipush (v := 12) k100_17 (by decide) ?_
      refine aw_icmp_le 31 k100_19 (by decide) (fun c_19 => ?_) (fun c_19 => ?_)
      · exact hA
      · exact absurd ((nI_leI (b := 12) (by omega) (by omega)).mpr (by omega)) c_19
  | succ q ih =>
    intro f hs M hn hC hI
    by_cases h : fN f ≤ 8 + q
    · exact ih f hs M h hC hI
    · obtain ⟨M2, kT, hC2, hF2⟩ := s_A_takeBack (d := d) hC (by omega)
      have h12 := hI.1.1.2.1
      have hG2 := fTake_gp hI.1 (by omega)
      have en := fTake_n hI.1.1 (by omega)
      rw [hG2.1.1] at kT
      refine RP.go (ih (fTake f) _ M2 (by rw [en]; omega) hC2 (hI.push hG2)) hF2 (fun M' hA => ?_)
      refine aw_iload k100_8 rfl ?_
      refine aw_if_le 31 k100_10 (by decide) (fun c_10 => ?_) (fun c_10 => ?_)
      · exact absurd (nI_le_of (b := 0) c_10) (by omega)
      · refine aw_iload k100_13 rfl ?_
        refine aw_iconst (v := 4) k100_15 (by decide) ?_
        refine aw_iadd k100_16 ?_
        rw [e4 (fN f)]
        refine aw_bipush (v := 12) k100_17 (by decide) ?_
        refine aw_icmp_le 31 k100_19 (by decide) (fun c_19 => ?_) (fun c_19 => ?_)
        · exact absurd (nI_le_of (b := 12) c_19) (by omega)
        · refine aw_aload_n k100_22 rfl ?_
          refine aw_callV0 k100_23 hC_L_rounds ok_A_takeBack sv_L_51 hH_A_takeBack ⟨rfl, rfl⟩ (by decide) hN_A_takeBack (by rw [hL_A_takeBack]; exact Nat.le_of_ble_eq_true rfl) (Nat.le_of_ble_eq_true rfl) kT ?_
          refine aw_istore k100_26 (Nat.le_of_ble_eq_true rfl) (st1_4 (by rfl)) ?_
          refine aw_goto (t := 8) k100_28 (by decide) ?_
          exact hA
theorem c_rounds {d L : Nat} {M : mM} {f t : Nat → Int32} {hs : List (Nat → Int32)} {sn : Option (Nat → Int32)} (hC : CR M f hs sn t L) (hI : Ip f hs sn) {a b : Int32} : ∃ M' f' hs', CT iL_rounds (d + 9) [vR 5 0 0, vI a, vI b] M (.inl (some (vI 1))) M' 0 ∧ CR M' f' hs' sn t L ∧ Ip f' hs' sn ∧ CFr M M' := by
  have h12 := hI.1.1.2.1
  have k1 := q_legs (d := d) hC
  obtain ⟨M', f', hs', hA, h2, h3, h4⟩ := r_8 (d := d) (a := a) (b := b) (n3 := nI (fN f)) 4 f hs M (by omega) hC hI
  refine ⟨M', f', hs', ct_go hL_L_rounds rfl ?_, h2, h3, h4⟩
  refine aw_aload_n k100_0 rfl ?_
  refine aw_callV0 k100_1 hC_L_rounds ok_A_legs sv_L_15 hH_A_legs ⟨rfl, rfl⟩ (by decide) hN_A_legs (by rw [hL_A_legs]; exact Nat.le_of_ble_eq_true rfl) (Nat.le_of_ble_eq_true rfl) k1 ?_
  refine aw_istore_n k100_4 (Nat.le_of_ble_eq_true rfl) (st1_3 (by rfl)) ?_
  refine aw_iload_n k100_5 rfl ?_
  refine aw_istore k100_6 (Nat.le_of_ble_eq_true rfl) (st1_4 (by rfl)) ?_
  exact hA
