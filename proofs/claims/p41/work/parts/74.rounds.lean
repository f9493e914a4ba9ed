/-! THE LAW: rounds -/
theorem q_adjE {d L : Nat} {M : mM} {f t : Nat → Int32} {hs : List (Nat → Int32)} {sn : Option (Nat → Int32)} (hC : CR M f hs sn t L) {c : Nat} (hc : c ≤ fN f) : CT iA_adjustedEast (d + 8) [vR 5 0 0, vI (nI c)] M (.inl (some (vI (adjF f (fN f) c 0)))) M 0 := by
  have hS := hC.1.sh
  have h12 := hS.2.1
  have e : (nI c).toNatClampNeg = c := nI_clamp (by omega)
  have := s_A_adjustedEast (d := d) hC (x := nI c) ⟨i_ge0 (by rw [nI_i (by omega)]; omega), by rw [hS.1]; exact (nI_leI (by omega) (by omega)).mpr hc⟩
  rw [e] at this
  exact this
theorem q_adjN {d L : Nat} {M : mM} {f t : Nat → Int32} {hs : List (Nat → Int32)} {sn : Option (Nat → Int32)} (hC : CR M f hs sn t L) {c : Nat} (hc : c ≤ fN f) : CT iA_adjustedNorth (d + 8) [vR 5 0 0, vI (nI c)] M (.inl (some (vI (adjF f (fN f) c 1)))) M 0 := by
  have hS := hC.1.sh
  have h12 := hS.2.1
  have e : (nI c).toNatClampNeg = c := nI_clamp (by omega)
  have := s_A_adjustedNorth (d := d) hC (x := nI c) ⟨i_ge0 (by rw [nI_i (by omega)]; omega), by rw [hS.1]; exact (nI_leI (by omega) (by omega)).mpr hc⟩
  rw [e] at this
  exact this
theorem q_cE {d L : Nat} {M : mM} {f t : Nat → Int32} {hs : List (Nat → Int32)} {sn : Option (Nat → Int32)} (hC : CR M f hs sn t L) {j k : Nat} (hj : j < fC f) (hk : k < bN f j) : CT iA_cornerEast (d + 8) [vR 5 0 0, vI (nI j), vI (nI k)] M (.inl (some (vI (fX f j k)))) M 0 := by
  have hS := hC.1.sh
  have h6 := hS.2.2.2.1
  obtain ⟨e40, -, hb⟩ := hS.2.2.2.2 j hj
  have ej : (nI j).toNatClampNeg = j := nI_clamp (by omega)
  have ek : (nI k).toNatClampNeg = k := nI_clamp (by omega)
  have := s_A_cornerEast (d := d) (M := M) (x := nI j) (y := nI k) hC.1 (hasF_nI hS.2.2.1 h6 hj) ⟨i_ge0 (by rw [nI_i (by omega)]; omega), by rw [ej, e40]; exact (nI_ltI (by omega) (by omega)).mpr hk⟩
  rw [ej, ek] at this
  exact this
theorem q_cN {d L : Nat} {M : mM} {f t : Nat → Int32} {hs : List (Nat → Int32)} {sn : Option (Nat → Int32)} (hC : CR M f hs sn t L) {j k : Nat} (hj : j < fC f) (hk : k < bN f j) : CT iA_cornerNorth (d + 8) [vR 5 0 0, vI (nI j), vI (nI k)] M (.inl (some (vI (fY f j k)))) M 0 := by
  have hS := hC.1.sh
  have h6 := hS.2.2.2.1
  obtain ⟨e40, -, hb⟩ := hS.2.2.2.2 j hj
  have ej : (nI j).toNatClampNeg = j := nI_clamp (by omega)
  have ek : (nI k).toNatClampNeg = k := nI_clamp (by omega)
  have := s_A_cornerNorth (d := d) (M := M) (x := nI j) (y := nI k) hC.1 (hasF_nI hS.2.2.1 h6 hj) ⟨i_ge0 (by rw [nI_i (by omega)]; omega), by rw [ej, e40]; exact (nI_ltI (by omega) (by omega)).mpr hk⟩
  rw [ej, ek] at this
  exact this
theorem q_legs {d L : Nat} {M : mM} {f t : Nat → Int32} {hs : List (Nat → Int32)} {sn : Option (Nat → Int32)} (hC : CR M f hs sn t L) : CT iA_legs (d + 8) [vR 5 0 0] M (.inl (some (vI (nI (fN f))))) M 0 := by
  have := s_A_legs (d := d) hC
  rw [hC.1.sh.1] at this
  exact this
theorem q_fields {d L : Nat} {M : mM} {f t : Nat → Int32} {hs : List (Nat → Int32)} {sn : Option (Nat → Int32)} (hC : CR M f hs sn t L) : CT iA_fields (d + 8) [vR 5 0 0] M (.inl (some (vI (nI (fC f))))) M 0 := by
  have := s_A_fields (d := d) hC
  rw [hC.1.sh.2.2.1] at this
  exact this
def hashV (X Y : Nat → Int32) : Nat → Int32
  | 0 => 0
  | k + 1 => 31 * hashV X Y k + X k + 7 * Y k
theorem hash_c {X Y X' Y' : Nat → Int32} : ∀ {n : Nat}, (∀ k, k < n → X k = X' k ∧ Y k = Y' k) → hashV X Y n = hashV X' Y' n := by
  intro n
  induction n with
  | zero => intro _; rfl
  | succ n ih =>
    intro h
    show 31 * hashV X Y n + X n + 7 * Y n = 31 * hashV X' Y' n + X' n + 7 * Y' n
    rw [ih (fun k hk => h k (by omega)), (h n (by omega)).1, (h n (by omega)).2]
/-- the sum of the kept corners -/
theorem r_503 {d L : Nat} {M : mM} {f t : Nat → Int32} {hs : List (Nat → Int32)} {sn : Option (Nat → Int32)} (hC : CR M f hs sn t L) {a b h : Int32} {n j : Nat} {x3 x5 x6 x7 x9 x10 : Option mAV} (hj : j < fC f) (hn : bN f j = n) (hh : h = hashV (fX f j) (fY f j) n) : ∀ m k : Nat, k + m = n → AW iL_rounds (d + 9) 503 [some (vR 5 0 0), some (vI a), some (vI b), x3, some (vI (nI n)), x5, x6, x7, some (vI (nI j)), x9, x10, some (vI h), some (vI 1), some (vI (hashV (fX f j) (fY f j) k)), some (vI (nI k))] [] M (.inl (some (vI 1))) M 0 := by
  have hb := (hC.1.sh.2.2.2.2 j hj).2.2
  intro m
  induction m with
  | zero =>
    intro k hk
    obtain rfl : k = n := by omega
    subst hh
    refine aw_iload k100_503 rfl ?_
    refine aw_iload k100_505 rfl ?_
    refine aw_icmp_ge 544 k100_507 (by decide) (fun c_507 => ?_) (fun c_507 => ?_)
    · refine aw_iload k100_544 rfl ?_
      refine aw_if_eq 560 k100_546 (by decide) (fun c_546 => ?_) (fun c_546 => ?_)
      · exact absurd (show (1 : Int32) = 0 from c_546) (by decide)
      · refine aw_iload k100_549 rfl ?_
        refine aw_iload k100_551 rfl ?_
        refine aw_icmp_ne 560 k100_553 (by decide) (fun c_553 => ?_) (fun c_553 => ?_)
        · exact absurd rfl c_553
        · refine aw_iconst (v := 1) k100_556 (by decide) ?_
          refine aw_goto (t := 561) k100_557 (by decide) ?_
          refine aw_zreturn k100_561 hR_L_rounds ?_ ?_ ?_
          · exact Or.inr rfl
          · rfl
          · rfl
    · exact absurd (nI_leI (by omega) (by omega) |>.mpr (Nat.le_refl _)) c_507
  | succ m ih =>
    intro k hk
    have k1 := q_cE (d := d) hC hj (k := k) (by omega)
    have k2 := q_cN (d := d) hC hj (k := k) (by omega)
    have hn2 := ih (k + 1) (by omega)
    refine aw_iload k100_503 rfl ?_
    refine aw_iload k100_505 rfl ?_
    refine aw_icmp_ge 544 k100_507 (by decide) (fun c_507 => ?_) (fun c_507 => ?_)
    · exact absurd (nI_le_of c_507) (by omega)
    · refine aw_bipush (v := 31) k100_510 (by decide) ?_
      refine aw_iload k100_512 rfl ?_
      refine aw_imul k100_514 ?_
      refine aw_aload_n k100_515 rfl ?_
      refine aw_iload k100_516 rfl ?_
      refine aw_iload k100_518 rfl ?_
      refine aw_callV2 k100_520 hC_L_rounds ok_A_cornerEast sv_L_88 hH_A_cornerEast ⟨rfl, rfl⟩ (by decide) hN_A_cornerEast (by rw [hL_A_cornerEast]; exact Nat.le_of_ble_eq_true rfl) (Nat.le_of_ble_eq_true rfl) k1 ?_
      refine aw_iadd k100_523 ?_
      refine aw_bipush (v := 7) k100_524 (by decide) ?_
      refine aw_aload_n k100_526 rfl ?_
      refine aw_iload k100_527 rfl ?_
      refine aw_iload k100_529 rfl ?_
      refine aw_callV2 k100_531 hC_L_rounds ok_A_cornerNorth sv_L_92 hH_A_cornerNorth ⟨rfl, rfl⟩ (by decide) hN_A_cornerNorth (by rw [hL_A_cornerNorth]; exact Nat.le_of_ble_eq_true rfl) (Nat.le_of_ble_eq_true rfl) k2 ?_
      refine aw_imul k100_534 ?_
      refine aw_iadd k100_535 ?_
      refine aw_istore k100_536 (Nat.le_of_ble_eq_true rfl) (st1_13 (by rfl)) ?_
      refine aw_iinc (y := 1) k100_538 rfl (by decide) (st1_14 (by rfl)) ?_
      rw [nI_1 k]
      refine aw_goto (t := 503) k100_541 (by decide) ?_
      exact hn2
/-- each kept corner -/
theorem r_446 {d L : Nat} {M : mM} {f t : Nat → Int32} {hs : List (Nat → Int32)} {sn : Option (Nat → Int32)} (hC : CR M f hs sn t L) {a b h : Int32} {n j : Nat} {x3 x5 x6 x7 x9 x10 : Option mAV} (hj : j < fC f) (hn : bN f j = n) (hh : h = hashV (fX f j) (fY f j) n) (hbd : ∀ k, k < n → bi (fX f j k) 180000 ∧ bi (fY f j k) 180000) : ∀ m k : Nat, k + m = n → ∀ x14, AW iL_rounds (d + 9) 446 [some (vR 5 0 0), some (vI a), some (vI b), x3, some (vI (nI n)), x5, x6, x7, some (vI (nI j)), x9, x10, some (vI h), some (vI 1), some (vI (nI k)), x14] [] M (.inl (some (vI 1))) M 0 := by
  have hb := (hC.1.sh.2.2.2.2 j hj).2.2
  have z1 : (-200000 : Int32).toInt = -200000 := rfl
  have z2 : (200000 : Int32).toInt = 200000 := rfl
  intro m
  induction m with
  | zero =>
    intro k hk x14
    obtain rfl : k = n := by omega
    have t503 := r_503 (d := d) (a := a) (b := b) (x3 := x3) (x5 := x5) (x6 := x6) (x7 := x7) (x9 := x9) (x10 := x10) hC hj hn hh k 0 (by omega)
    refine aw_iload k100_446 rfl ?_
    refine aw_iload k100_448 rfl ?_
    refine aw_icmp_ge 497 k100_450 (by decide) (fun c_450 => ?_) (fun c_450 => ?_)
    · refine aw_iconst (v := 0) k100_497 (by decide) ?_
      refine aw_istore k100_498 (Nat.le_of_ble_eq_true rfl) (st1_13 (by rfl)) ?_
      refine aw_iconst (v := 0) k100_500 (by decide) ?_
      refine aw_istore k100_501 (Nat.le_of_ble_eq_true rfl) (st1_14 (by rfl)) ?_
      exact t503
    · exact absurd (nI_leI (by omega) (by omega) |>.mpr (Nat.le_refl _)) c_450
  | succ m ih =>
    intro k hk x14
    obtain ⟨b1, b2⟩ := hbd k (by omega)
    have k1 := q_cE (d := d) hC hj (k := k) (by omega)
    have k2 := q_cN (d := d) hC hj (k := k) (by omega)
    have hn2 := ih (k + 1) (by omega) x14
    have g1 : ¬ fX f j k < -200000 := by rw [Int32.lt_iff_toInt_lt, z1]; have := b1.1; omega
    have g2 : ¬ 200000 < fY f j k := by rw [Int32.lt_iff_toInt_lt, z2]; have := b2.2; omega
    refine aw_iload k100_446 rfl ?_
    refine aw_iload k100_448 rfl ?_
    refine aw_icmp_ge 497 k100_450 (by decide) (fun c_450 => ?_) (fun c_450 => ?_)
    · exact absurd (nI_le_of c_450) (by omega)
    · refine aw_iload k100_453 rfl ?_
      refine aw_if_eq 497 k100_455 (by decide) (fun c_455 => ?_) (fun c_455 => ?_)
      · exact absurd (show (1 : Int32) = 0 from c_455) (by decide)
      · refine aw_aload_n k100_458 rfl ?_
        refine aw_iload k100_459 rfl ?_
        refine aw_iload k100_461 rfl ?_
        refine aw_callV2 k100_463 hC_L_rounds ok_A_cornerEast sv_L_88 hH_A_cornerEast ⟨rfl, rfl⟩ (by decide) hN_A_cornerEast (by rw [hL_A_cornerEast]; exact Nat.le_of_ble_eq_true rfl) (Nat.le_of_ble_eq_true rfl) k1 ?_
        refine aw_ldc k100_466 hC_L_rounds ci_L_91 ?_
        refine aw_icmp_lt 488 k100_468 (by decide) (fun c_468 => ?_) (fun c_468 => ?_)
        · exact absurd c_468 g1
        · refine aw_aload_n k100_471 rfl ?_
          refine aw_iload k100_472 rfl ?_
          refine aw_iload k100_474 rfl ?_
          refine aw_callV2 k100_476 hC_L_rounds ok_A_cornerNorth sv_L_92 hH_A_cornerNorth ⟨rfl, rfl⟩ (by decide) hN_A_cornerNorth (by rw [hL_A_cornerNorth]; exact Nat.le_of_ble_eq_true rfl) (Nat.le_of_ble_eq_true rfl) k2 ?_
          refine aw_ldc k100_479 hC_L_rounds ci_L_95 ?_
          refine aw_icmp_gt 488 k100_481 (by decide) (fun c_481 => ?_) (fun c_481 => ?_)
          · exact absurd c_481 g2
          · refine aw_iconst (v := 1) k100_484 (by decide) ?_
            refine aw_goto (t := 489) k100_485 (by decide) ?_
            refine aw_istore k100_489 (Nat.le_of_ble_eq_true rfl) (st1_12 (by rfl)) ?_
            refine aw_iinc (y := 1) k100_491 rfl (by decide) (st1_13 (by rfl)) ?_
            rw [nI_1 k]
            refine aw_goto (t := 446) k100_494 (by decide) ?_
            exact hn2
/-- what a run of rounds leaves -/
def RP (d pc : Nat) (loc : List (Option mAV)) (M : mM) (sn : Option (Nat → Int32)) (t : Nat → Int32) (L : Nat) : Prop := ∃ M' f' hs', AW iL_rounds (d + 9) pc loc [] M (.inl (some (vI 1))) M' 0 ∧ CR M' f' hs' sn t L ∧ Ip f' hs' sn ∧ CFr M M'
theorem labs_p {x : Int64} (h : 0 ≤ x) : x = labs x := (if_pos h).symm
theorem labs_m {x : Int64} (h : ¬ 0 ≤ x) : -x = labs x := (if_neg h).symm
theorem r_373 {d L : Nat} {M : mM} {f t : Nat → Int32} {hs : List (Nat → Int32)} {sn : Option (Nat → Int32)} (hC : CR M f hs sn t L) (hI : Ip f hs sn) {a b : Int32} {x3 x5 x6 x7 : Option mAV} {S : Int64} {h : Int32} {x12 : Option mAV} (hck : canKeepF f = true) (hS : labs S = twB (adB f (fN f)) (fN f)) (hh : h = hashV (fun k => adjF f (fN f) k 0) (fun k => adjF f (fN f) k 1) (fN f)) : RP d 373 [some (vR 5 0 0), some (vI a), some (vI b), x3, some (vI (nI (fN f))), x5, x6, x7, some (vI (nI (fC f))), some (vL S), none, some (vI h), x12, none, none] M sn t L := by
  obtain ⟨h3n, hcl, h6, htw⟩ := can_all hck
  have h12 := hI.1.1.2.1
  obtain ⟨M', kK, hC', hF⟩ := s_A_keep (d := d) hC hck
  have hG' := fKeep_gp hI.1 hck
  refine ⟨M', fKeep f, _, ?_, hC', hI.push hG', hF⟩
  have eC := fKeep_C h12 h6
  have eB := fKeep_bN (f := f) h12
  rw [fKeep_39 h12, nI_sub1 (by omega), show fC f + 1 - 1 = fC f by omega] at kK
  have k1 := q_fields (d := d) hC'
  rw [eC] at k1
  have k2 := q_legs (d := d) hC'
  rw [fKeep_N] at k2
  have hj : fC f < fC (fKeep f) := by omega
  have hhF : hasF (fKeep f) (nI (fC f)) = true := hasF_nI hG'.1.2.2.1 hG'.1.2.2.2.1 hj
  have ej : (nI (fC f)).toNatClampNeg = fC f := nI_clamp (by omega)
  have k3 := s_A_cornersOf (d := d) hC' hhF
  rw [ej, fKeep_0 h12] at k3
  have k4 := s_A_twiceAreaByCorners (d := d) hC' hhF
  rw [ej, fKeep_tw h12, ← hS] at k4
  have hbd := (hG'.2.2 _ hj).2
  rw [eB] at hbd
  have hh2 : h = hashV (fX (fKeep f) (fC f)) (fY (fKeep f) (fC f)) (fN f) := hh.trans (hash_c (fun k hk => ⟨(fKeep_X h12 hk).symm, (fKeep_Y h12 hk).symm⟩))
  have t446 := r_446 (d := d) (a := a) (b := b) (x3 := x3) (x5 := x5) (x6 := x6) (x7 := x7) (x9 := some (vL S)) (x10 := none) hC' hj eB hh2 hbd (fN f) 0 (by omega) none
  have t432 : ∀ w, w = labs S → AW iL_rounds (d + 9) 432 [some (vR 5 0 0), some (vI a), some (vI b), x3, some (vI (nI (fN f))), x5, x6, x7, some (vI (nI (fC f))), some (vL S), none, some (vI h), x12, none, none] [vL w, vL (labs S)] M' (.inl (some (vI 1))) M' 0 := by
    intro w e
    subst e
    refine aw_lcmp_ne 440 k100_432 k100_433 (by decide) (fun c_432 => ?_) (fun c_432 => ?_)
    · exact absurd rfl c_432
    · refine aw_iconst (v := 1) k100_436 (by decide) ?_
      refine aw_goto (t := 441) k100_437 (by decide) ?_
      refine aw_istore k100_441 (Nat.le_of_ble_eq_true rfl) (st1_12 (by rfl)) ?_
      refine aw_iconst (v := 0) k100_443 (by decide) ?_
      refine aw_istore k100_444 (Nat.le_of_ble_eq_true rfl) (st1_13 (by rfl)) ?_
      exact t446
  refine aw_aload_n k100_373 rfl ?_
  refine aw_callV0 k100_374 hC_L_rounds ok_A_keep sv_L_79 hH_A_keep ⟨rfl, rfl⟩ (by decide) hN_A_keep (by rw [hL_A_keep]; exact Nat.le_of_ble_eq_true rfl) (Nat.le_of_ble_eq_true rfl) kK ?_
  refine aw_iload k100_377 rfl ?_
  refine aw_icmp_ne 440 k100_379 (by decide) (fun c_379 => ?_) (fun c_379 => ?_)
  · exact absurd rfl c_379
  · refine aw_aload_n k100_382 rfl ?_
    refine aw_callV0 k100_383 hC_L_rounds ok_A_fields sv_L_21 hH_A_fields ⟨rfl, rfl⟩ (by decide) hN_A_fields (by rw [hL_A_fields]; exact Nat.le_of_ble_eq_true rfl) (Nat.le_of_ble_eq_true rfl) k1 ?_
    refine aw_iload k100_386 rfl ?_
    refine aw_iconst (v := 1) k100_388 (by decide) ?_
    refine aw_iadd k100_389 ?_
    refine aw_icmp_ne 440 k100_390 (by decide) (fun c_390 => ?_) (fun c_390 => ?_)
    · exact absurd (nI_1 _).symm c_390
    · refine aw_aload_n k100_393 rfl ?_
      refine aw_callV0 k100_394 hC_L_rounds ok_A_legs sv_L_15 hH_A_legs ⟨rfl, rfl⟩ (by decide) hN_A_legs (by rw [hL_A_legs]; exact Nat.le_of_ble_eq_true rfl) (Nat.le_of_ble_eq_true rfl) k2 ?_
      refine aw_if_ne 440 k100_397 (by decide) (fun c_397 => ?_) (fun c_397 => ?_)
      · exact absurd rfl c_397
      · refine aw_aload_n k100_400 rfl ?_
        refine aw_iload k100_401 rfl ?_
        refine aw_callV1 k100_403 hC_L_rounds ok_A_cornersOf sv_L_82 hH_A_cornersOf ⟨rfl, rfl⟩ (by decide) hN_A_cornersOf (by rw [hL_A_cornersOf]; exact Nat.le_of_ble_eq_true rfl) (Nat.le_of_ble_eq_true rfl) k3 ?_
        refine aw_iload k100_406 rfl ?_
        refine aw_icmp_ne 440 k100_408 (by decide) (fun c_408 => ?_) (fun c_408 => ?_)
        · exact absurd rfl c_408
        · refine aw_aload_n k100_411 rfl ?_
          refine aw_iload k100_412 rfl ?_
          refine aw_callV1 k100_414 hC_L_rounds ok_A_twiceAreaByCorners sv_L_85 hH_A_twiceAreaByCorners ⟨rfl, rfl⟩ (by decide) hN_A_twiceAreaByCorners (by rw [hL_A_twiceAreaByCorners]; exact Nat.le_of_ble_eq_true rfl) (Nat.le_of_ble_eq_true rfl) k4 ?_
          refine aw_lload k100_417 rfl ?_
          refine aw_lconst (v := 0) k100_419 (by decide) ?_
          refine aw_lcmp_ge 430 k100_420 k100_421 (by decide) (fun c_420 => ?_) (fun c_420 => ?_)
          · have w1 := labs_p c_420
            refine aw_lload k100_430 rfl ?_
            exact t432 _ w1
          · have w1 := labs_m c_420
            refine aw_lload k100_424 rfl ?_
            refine aw_lneg k100_426 ?_
            refine aw_goto (t := 432) k100_427 (by decide) ?_
            exact t432 _ w1
