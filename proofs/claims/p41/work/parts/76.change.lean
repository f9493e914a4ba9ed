/-! THE LAW: change -/
/-- what a change leaves -/
def CP (d pc : Nat) (loc : List (Option mAV)) (M : mM) (f : Nat → Int32) (hs : List (Nat → Int32)) (sn : Option (Nat → Int32)) (t : Nat → Int32) (L : Nat) : Prop := ∃ M' f' hs', AW iL_change (d + 10) pc loc [] M (.inl (some (vI 1))) M' 0 ∧ CR M' f' hs' sn t L ∧ Ip f' hs' sn ∧ CFr M M' ∧ ((f' = f ∧ hs' = hs) ∨ hs' = (f :: hs).take 4)
theorem q_rec {d L : Nat} {M : mM} {f t : Nat → Int32} {hs : List (Nat → Int32)} {sn : Option (Nat → Int32)} (hC : CR M f hs sn t L) : CT iA_recordedStates (d + 8) [vR 5 0 0] M (.inl (some (vI (nI hs.length)))) M 0 ∧ hs.length ≤ 4 := by
  obtain ⟨-, ⟨-, -, -, -, h4, -⟩, -⟩ := id hC
  exact ⟨s_A_recordedStates hC, h4⟩
theorem rec_w {f : Nat → Int32} {hs : List (Nat → Int32)} (h : hs.length ≤ 4) : (nI hs.length = 4 → (4 : Int32) = nI ((f :: hs).take 4).length) ∧ (¬ nI hs.length = 4 → nI hs.length + 1 = nI ((f :: hs).take 4).length) := by
  have hl : ((f :: hs).take 4).length = min (hs.length + 1) 4 := by simp; omega
  rw [hl]
  refine ⟨fun q => ?_, fun q => ?_⟩
  · have := nI_eq_of (b := 4) q
    rw [this]
    rfl
  · have := nI_ne_of (b := 4) q
    rw [nI_1, show min (hs.length + 1) 4 = hs.length + 1 by omega]
/-- what is recorded goes up by one, to 4 -/
theorem ch_443 {d L : Nat} {M : mM} {f g t : Nat → Int32} {hs : List (Nat → Int32)} {sn : Option (Nat → Int32)} (hC : CR M g ((f :: hs).take 4) sn t L) (h4 : hs.length ≤ 4) (x1 x2 x3 x4 x5 x8 x9 x10 x11 x12 x13 x14 x15 x16 x17 x18 : Option mAV) : AW iL_change (d + 10) 443 [some (vR 5 0 0), x1, x2, x3, x4, x5, some (vI (nI hs.length)), some (vI 1), x8, x9, x10, x11, x12, x13, x14, x15, x16, x17, x18] [] M (.inl (some (vI 1))) M 0 := by
  have k1 := (q_rec (d := d + 1) hC).1
  obtain ⟨w1, w2⟩ := rec_w (f := f) h4
  have t466 : ∀ w, w = nI ((f :: hs).take 4).length → AW iL_change (d + 10) 466 [some (vR 5 0 0), x1, x2, x3, x4, x5, some (vI (nI hs.length)), some (vI 1), x8, x9, x10, x11, x12, x13, x14, x15, x16, x17, x18] [vI w, vI (nI ((f :: hs).take 4).length)] M (.inl (some (vI 1))) M 0 := by
    intro w e
    subst e
    refine aw_icmp_ne 473 k99_466 (by decide) (fun c_466 => ?_) (fun c_466 => ?_)
    · exact absurd rfl c_466
    · refine aw_iconst (v := 1) k99_469 (by decide) ?_
      refine aw_goto (t := 474) k99_470 (by decide) ?_
      refine aw_zreturn k99_474 hR_L_change ?_ ?_ ?_
      · exact Or.inr rfl
      · rfl
      · rfl
  refine aw_iload k99_443 rfl ?_
  refine aw_if_eq 473 k99_445 (by decide) (fun c_445 => ?_) (fun c_445 => ?_)
  · exact absurd (show (1 : Int32) = 0 from c_445) (by decide)
  · refine aw_aload_n k99_448 rfl ?_
    refine aw_callV0 k99_449 hC_L_change ok_A_recordedStates sv_L_24 hH_A_recordedStates ⟨rfl, rfl⟩ (by decide) hN_A_recordedStates (by rw [hL_A_recordedStates]; exact Nat.le_of_ble_eq_true rfl) (Nat.le_of_ble_eq_true rfl) k1 ?_
    refine aw_iload k99_452 rfl ?_
    refine aw_iconst (v := 4) k99_454 (by decide) ?_
    refine aw_icmp_ne 462 k99_455 (by decide) (fun c_455 => ?_) (fun c_455 => ?_)
    · have w := w2 c_455
      refine aw_iload k99_462 rfl ?_
      refine aw_iconst (v := 1) k99_464 (by decide) ?_
      refine aw_iadd k99_465 ?_
      exact t466 _ w
    · have w := w1 c_455
      refine aw_iconst (v := 4) k99_458 (by decide) ?_
      refine aw_goto (t := 466) k99_459 (by decide) ?_
      exact t466 _ w
theorem fAdd_bef {f : Nat → Int32} {x y l : Int32} : bef (fAdd f x y l) 0 (fN f + 1) = bef f 0 (fN f) + x ∧ bef (fAdd f x y l) 2 (fN f + 1) = bef f 2 (fN f) + l := by
  have hb : ∀ w, w < 3 → bef (fAdd f x y l) w (fN f) = bef f w (fN f) := fun w hw => bef_congr (fun i hi => fAdd_e (by omega) (by omega))
  have a1 : fAdd f x y l (1 + 3 * fN f + 0) = x := by unfold fAdd; rw [if_neg (by omega), if_pos (by omega)]
  have a3 : fAdd f x y l (1 + 3 * fN f + 2) = l := by unfold fAdd; rw [if_neg (by omega), if_neg (by omega), if_neg (by omega), if_pos (by omega)]
  refine ⟨?_, ?_⟩
  · show bef (fAdd f x y l) 0 (fN f) + fAdd f x y l (1 + 3 * fN f + 0) = _
    rw [hb 0 (by decide), a1]
  · show bef (fAdd f x y l) 2 (fN f) + fAdd f x y l (1 + 3 * fN f + 2) = _
    rw [hb 2 (by decide), a3]
theorem ch_103 {d L : Nat} {M : mM} {f t : Nat → Int32} {hs : List (Nat → Int32)} {sn : Option (Nat → Int32)} (hC : CR M f hs sn t L) (hI : Ip f hs sn) {a b : Int32} {x1 : Option mAV} {s : Int32} (hs9 : s = 9999 ∨ s = 400) (hn : fN f < 12) : CP d 103 [some (vR 5 0 0), x1, some (vI a), some (vI b), some (vI (nI (fN f))), some (vI (nI (fC f))), some (vI (nI hs.length)), some (vI 1), some (vI s), none, none, none, none, none, none, none, none, none, none] M f hs sn t L := by
  have z20000 : (20000 : Int32).toInt = 20000 := rfl
  have z9999 : (9999 : Int32).toInt = 9999 := rfl
  have z1 : (1 : Int32).toInt = 1 := rfl
  have h0 : 0 ≤ s.toInt ∧ s.toInt ≤ 9999 := by
    rcases hs9 with rfl | rfl
    · exact ⟨by decide, by decide⟩
    · exact ⟨by decide, by decide⟩
  have hsp : 0 < (2 * s + 1).toInt := by rw [span_n h0.1 (by omega)]; omega
  have r1 := lowV_rng (v := a >>> ((3 : Int32) &&& 31)) (n := 20000) (by decide)
  rw [z20000] at r1
  have el : (1 + lowV (a >>> ((3 : Int32) &&& 31)) 20000).toInt = 1 + (lowV (a >>> ((3 : Int32) &&& 31)) 20000).toInt := by rw [i_add (A := 1) (B := 20000) ⟨by decide, by decide⟩ ⟨by omega, by omega⟩ (by decide), z1]
  have hx : inR (spanV a s) 9999 ∧ inR (spanV b s) 9999 ∧ 1 ≤ 1 + lowV (a >>> ((3 : Int32) &&& 31)) 20000 ∧ 1 + lowV (a >>> ((3 : Int32) &&& 31)) 20000 ≤ 20000 := ⟨spanV_in h0.1 (by omega) (by omega), spanV_in h0.1 (by omega) (by omega), by rw [Int32.le_iff_toInt_le, z1]; omega, by rw [Int32.le_iff_toInt_le, z20000]; omega⟩
  obtain ⟨M2, kA, hC2, hF2⟩ := s_A_addLeg (d := d + 1) hC hx hn
  have hG2 := fAdd_gp hI.1 hn hx
  have en := fAdd_n (x := spanV a s) (y := spanV b s) (l := 1 + lowV (a >>> ((3 : Int32) &&& 31)) 20000) hI.1.1 hn
  have k1 := s_A_traverseLength (d := d + 1) hC
  have k2 := s_A_errorEast (d := d + 1) hC
  have k3 := s_A_traverseLength (d := d + 1) hC2
  have k4 := s_A_errorEast (d := d + 1) hC2
  have k5 := q_adjE (d := d + 1) hC2 (c := fN f + 1) (by omega)
  have k6 := q_adjE (d := d + 1) hC2 (c := 0) (by omega)
  have ea := adj_n (w := 0) hG2.2.1 hG2.1.2.1 (by decide)
  rw [en] at ea
  rw [en, ea] at k5
  rw [en, fAdd_bef.2] at k3
  rw [en, fAdd_bef.1] at k4
  rw [adj_0] at k6
  rw [hG2.1.1, en] at kA
  refine ⟨M2, _, _, ?_, hC2, hI.push hG2, hF2, Or.inr rfl⟩
  have t443 := ch_443 (d := d) hC2 (q_rec (d := d) hC).2
  refine aw_iload_n k99_103 rfl ?_
  refine aw_iload k99_104 rfl ?_
  refine aw_callS2 k99_106 hC_L_change ok_L_span ss_L_27 hH_L_span (by rw [hL_L_span]; exact Nat.le_of_ble_eq_true rfl) (Nat.le_of_ble_eq_true rfl) (c_span hsp) ?_
  refine aw_istore k99_109 (Nat.le_of_ble_eq_true rfl) (st1_9 (by rfl)) ?_
  refine aw_iload_n k99_111 rfl ?_
  refine aw_iload k99_112 rfl ?_
  refine aw_callS2 k99_114 hC_L_change ok_L_span ss_L_27 hH_L_span (by rw [hL_L_span]; exact Nat.le_of_ble_eq_true rfl) (Nat.le_of_ble_eq_true rfl) (c_span hsp) ?_
  refine aw_istore k99_117 (Nat.le_of_ble_eq_true rfl) (st1_10 (by rfl)) ?_
  refine aw_iconst (v := 1) k99_119 (by decide) ?_
  refine aw_iload_n k99_120 rfl ?_
  refine aw_iconst (v := 3) k99_121 (by decide) ?_
  refine aw_ishr k99_122 ?_
  refine aw_sipush (v := 20000) k99_123 (by decide) ?_
  refine aw_callS2 k99_126 hC_L_change ok_L_low ss_L_9 hH_L_low (by rw [hL_L_low]; exact Nat.le_of_ble_eq_true rfl) (Nat.le_of_ble_eq_true rfl) (c_low (by decide)) ?_
  refine aw_iadd k99_129 ?_
  refine aw_istore k99_130 (Nat.le_of_ble_eq_true rfl) (st1_11 (by rfl)) ?_
  refine aw_aload_n k99_132 rfl ?_
  refine aw_callV0 k99_133 hC_L_change ok_A_traverseLength sv_L_30 hH_A_traverseLength ⟨rfl, rfl⟩ (by decide) hN_A_traverseLength (by rw [hL_A_traverseLength]; exact Nat.le_of_ble_eq_true rfl) (Nat.le_of_ble_eq_true rfl) k1 ?_
  refine aw_istore k99_136 (Nat.le_of_ble_eq_true rfl) (st1_12 (by rfl)) ?_
  refine aw_aload_n k99_138 rfl ?_
  refine aw_callV0 k99_139 hC_L_change ok_A_errorEast sv_L_33 hH_A_errorEast ⟨rfl, rfl⟩ (by decide) hN_A_errorEast (by rw [hL_A_errorEast]; exact Nat.le_of_ble_eq_true rfl) (Nat.le_of_ble_eq_true rfl) k2 ?_
  refine aw_istore k99_142 (Nat.le_of_ble_eq_true rfl) (st1_13 (by rfl)) ?_
  refine aw_aload_n k99_144 rfl ?_
  refine aw_iload k99_145 rfl ?_
  refine aw_iload k99_147 rfl ?_
  refine aw_iload k99_149 rfl ?_
  refine aw_callV3 k99_151 hC_L_change ok_A_addLeg sv_L_36 hH_A_addLeg ⟨rfl, rfl⟩ (by decide) hN_A_addLeg (by rw [hL_A_addLeg]; exact Nat.le_of_ble_eq_true rfl) (Nat.le_of_ble_eq_true rfl) kA ?_
  refine aw_iload k99_154 rfl ?_
  refine aw_iconst (v := 1) k99_156 (by decide) ?_
  refine aw_iadd k99_157 ?_
  refine aw_icmp_ne 205 k99_158 (by decide) (fun c_158 => ?_) (fun c_158 => ?_)
  · exact absurd (nI_1 _).symm c_158
  · refine aw_aload_n k99_161 rfl ?_
    refine aw_callV0 k99_162 hC_L_change ok_A_traverseLength sv_L_30 hH_A_traverseLength ⟨rfl, rfl⟩ (by decide) hN_A_traverseLength (by rw [hL_A_traverseLength]; exact Nat.le_of_ble_eq_true rfl) (Nat.le_of_ble_eq_true rfl) k3 ?_
    refine aw_iload k99_165 rfl ?_
    refine aw_iload k99_167 rfl ?_
    refine aw_iadd k99_169 ?_
    refine aw_icmp_ne 205 k99_170 (by decide) (fun c_170 => ?_) (fun c_170 => ?_)
    · exact absurd rfl c_170
    · refine aw_aload_n k99_173 rfl ?_
      refine aw_callV0 k99_174 hC_L_change ok_A_errorEast sv_L_33 hH_A_errorEast ⟨rfl, rfl⟩ (by decide) hN_A_errorEast (by rw [hL_A_errorEast]; exact Nat.le_of_ble_eq_true rfl) (Nat.le_of_ble_eq_true rfl) k4 ?_
      refine aw_iload k99_177 rfl ?_
      refine aw_iload k99_179 rfl ?_
      refine aw_iadd k99_181 ?_
      refine aw_icmp_ne 205 k99_182 (by decide) (fun c_182 => ?_) (fun c_182 => ?_)
      · exact absurd rfl c_182
      · refine aw_aload_n k99_185 rfl ?_
        refine aw_iload k99_186 rfl ?_
        refine aw_iconst (v := 1) k99_188 (by decide) ?_
        refine aw_iadd k99_189 ?_
        rw [nI_1 (fN f)]
        refine aw_callV1 k99_190 hC_L_change ok_A_adjustedEast sv_L_40 hH_A_adjustedEast ⟨rfl, rfl⟩ (by decide) hN_A_adjustedEast (by rw [hL_A_adjustedEast]; exact Nat.le_of_ble_eq_true rfl) (Nat.le_of_ble_eq_true rfl) k5 ?_
        refine aw_aload_n k99_193 rfl ?_
        refine aw_iconst (v := 0) k99_194 (by decide) ?_
        refine aw_callV1 k99_195 hC_L_change ok_A_adjustedEast sv_L_40 hH_A_adjustedEast ⟨rfl, rfl⟩ (by decide) hN_A_adjustedEast (by rw [hL_A_adjustedEast]; exact Nat.le_of_ble_eq_true rfl) (Nat.le_of_ble_eq_true rfl) k6 ?_
        refine aw_icmp_ne 205 k99_198 (by decide) (fun c_198 => ?_) (fun c_198 => ?_)
        · exact absurd rfl c_198
        · refine aw_iconst (v := 1) k99_201 (by decide) ?_
          refine aw_goto (t := 206) k99_202 (by decide) ?_
          refine aw_istore k99_206 (Nat.le_of_ble_eq_true rfl) (st1_7 (by rfl)) ?_
          refine aw_goto (t := 443) k99_208 (by decide) ?_
          exact t443 _ _ _ _ _ _ _ _ _ _ _ _ _ _ _ _
theorem CP.go {d pc : Nat} {loc : List (Option mAV)} {M : mM} {f : Nat → Int32} {hs : List (Nat → Int32)} {sn : Option (Nat → Int32)} {t : Nat → Int32} {L pc2 : Nat} {loc2 : List (Option mAV)} (h : CP d pc2 loc2 M f hs sn t L) (k : ∀ M', AW iL_change (d + 10) pc2 loc2 [] M (.inl (some (vI 1))) M' 0 → AW iL_change (d + 10) pc loc [] M (.inl (some (vI 1))) M' 0) : CP d pc loc M f hs sn t L := by
  obtain ⟨M', f', hs', h1, h2⟩ := h
  exact ⟨M', f', hs', k M' h1, h2⟩
theorem ch_64 {d L : Nat} {M : mM} {f t : Nat → Int32} {hs : List (Nat → Int32)} {sn : Option (Nat → Int32)} (hC : CR M f hs sn t L) (hI : Ip f hs sn) {a b : Int32} {x1 : Option mAV} : CP d 64 [some (vR 5 0 0), x1, some (vI a), some (vI b), some (vI (nI (fN f))), some (vI (nI (fC f))), some (vI (nI hs.length)), some (vI 1), none, none, none, none, none, none, none, none, none, none, none] M f hs sn t L := by
  have h12 := hI.1.1.2.1
  have k1 := q_legs (d := d + 1) hC
  by_cases hq : fN f = 12
  · refine ⟨M, f, hs, ?_, hC, hI, CFr.rf, Or.inl ⟨rfl, rfl⟩⟩
    have hq2 : nI (fN f) = 12 := by rw [hq]; rfl
    refine aw_iload k99_64 rfl ?_
    refine aw_bipush (v := 12) k99_66 (by decide) ?_
    refine aw_icmp_ne 86 k99_68 (by decide) (fun c_68 => ?_) (fun c_68 => ?_)
    · exact absurd hq2 c_68
    · refine aw_aload_n k99_71 rfl ?_
      refine aw_callV0 k99_72 hC_L_change ok_A_legs sv_L_15 hH_A_legs ⟨rfl, rfl⟩ (by decide) hN_A_legs (by rw [hL_A_legs]; exact Nat.le_of_ble_eq_true rfl) (Nat.le_of_ble_eq_true rfl) k1 ?_
      refine aw_bipush (v := 12) k99_75 (by decide) ?_
      refine aw_icmp_ne 84 k99_77 (by decide) (fun c_77 => ?_) (fun c_77 => ?_)
      · exact absurd hq2 c_77
      · refine aw_iconst (v := 1) k99_80 (by decide) ?_
        refine aw_goto (t := 85) k99_81 (by decide) ?_
        refine aw_zreturn k99_85 hR_L_change ?_ ?_ ?_
        · exact Or.inr rfl
        · rfl
        · rfl
  · have hn : fN f < 12 := by omega
    by_cases hb : b &&& 3 = 0
    · refine CP.go (ch_103 (d := d) (a := a) (b := b) (x1 := x1) (s := 9999) hC hI (Or.inl rfl) hn) (fun M' hA => ?_)
      refine aw_iload k99_64 rfl ?_
      refine aw_bipush (v := 12) k99_66 (by decide) ?_
      refine aw_icmp_ne 86 k99_68 (by decide) (fun c_68 => ?_) (fun c_68 => ?_)
      · refine aw_iload_n k99_86 rfl ?_
        refine aw_iconst (v := 3) k99_87 (by decide) ?_
        refine aw_iand k99_88 ?_
        refine aw_if_ne 98 k99_89 (by decide) (fun c_89 => ?_) (fun c_89 => ?_)
        · exact absurd hb c_89
        · refine aw_sipush (v := 9999) k99_92 (by decide) ?_
          refine aw_goto (t := 101) k99_95 (by decide) ?_
          refine aw_istore k99_101 (Nat.le_of_ble_eq_true rfl) (st1_8 (by rfl)) ?_
          exact hA
      · exact absurd (nI_eq_of (b := 12) c_68) hq
    · refine CP.go (ch_103 (d := d) (a := a) (b := b) (x1 := x1) (s := 400) hC hI (Or.inr rfl) hn) (fun M' hA => ?_)
      refine aw_iload k99_64 rfl ?_
      refine aw_bipush (v := 12) k99_66 (by decide) ?_
      refine aw_icmp_ne 86 k99_68 (by decide) (fun c_68 => ?_) (fun c_68 => ?_)
      · refine aw_iload_n k99_86 rfl ?_
        refine aw_iconst (v := 3) k99_87 (by decide) ?_
        refine aw_iand k99_88 ?_
        refine aw_if_ne 98 k99_89 (by decide) (fun c_89 => ?_) (fun c_89 => ?_)
        · refine aw_sipush (v := 400) k99_98 (by decide) ?_
          refine aw_istore k99_101 (Nat.le_of_ble_eq_true rfl) (st1_8 (by rfl)) ?_
          exact hA
        · exact absurd c_89 hb
      · exact absurd (nI_eq_of (b := 12) c_68) hq
theorem ch_211 {d L : Nat} {M : mM} {f t : Nat → Int32} {hs : List (Nat → Int32)} {sn : Option (Nat → Int32)} (hC : CR M f hs sn t L) (hI : Ip f hs sn) {a b : Int32} {x1 : Option mAV} : CP d 211 [some (vR 5 0 0), x1, some (vI a), some (vI b), some (vI (nI (fN f))), some (vI (nI (fC f))), some (vI (nI hs.length)), some (vI 1), none, none, none, none, none, none, none, none, none, none, none] M f hs sn t L := by
  have h12 := hI.1.1.2.1
  by_cases hq : fN f = 0
  · refine ⟨M, f, hs, ?_, hC, hI, CFr.rf, Or.inl ⟨rfl, rfl⟩⟩
    have k1 := s_A_isClose (d := d + 1) hC
    have k2 := s_A_traverseLength (d := d + 1) hC
    have k3 := s_A_errorNorth (d := d + 1) hC
    have ec : closeF f 0 = true := by
      unfold closeF
      rw [bef_0, bef_0, bef_0]
      decide
    rw [hq, ec] at k1
    rw [hq, bef_0] at k2 k3
    have e0 : nI (fN f) = 0 := by rw [hq]; rfl
    refine aw_iload k99_211 rfl ?_
    refine aw_if_ne 243 k99_213 (by decide) (fun c_213 => ?_) (fun c_213 => ?_)
    · exact absurd e0 c_213
    · refine aw_aload_n k99_216 rfl ?_
      refine aw_callV0 k99_217 hC_L_change ok_A_isClose sv_L_44 hH_A_isClose ⟨rfl, rfl⟩ (by decide) hN_A_isClose (by rw [hL_A_isClose]; exact Nat.le_of_ble_eq_true rfl) (Nat.le_of_ble_eq_true rfl) k1 ?_
      refine aw_if_eq 241 k99_220 (by decide) (fun c_220 => ?_) (fun c_220 => ?_)
      · exact absurd (show (1 : Int32) = 0 from c_220) (by decide)
      · refine aw_aload_n k99_223 rfl ?_
        refine aw_callV0 k99_224 hC_L_change ok_A_traverseLength sv_L_30 hH_A_traverseLength ⟨rfl, rfl⟩ (by decide) hN_A_traverseLength (by rw [hL_A_traverseLength]; exact Nat.le_of_ble_eq_true rfl) (Nat.le_of_ble_eq_true rfl) k2 ?_
        refine aw_if_ne 241 k99_227 (by decide) (fun c_227 => ?_) (fun c_227 => ?_)
        · exact absurd rfl c_227
        · refine aw_aload_n k99_230 rfl ?_
          refine aw_callV0 k99_231 hC_L_change ok_A_errorNorth sv_L_48 hH_A_errorNorth ⟨rfl, rfl⟩ (by decide) hN_A_errorNorth (by rw [hL_A_errorNorth]; exact Nat.le_of_ble_eq_true rfl) (Nat.le_of_ble_eq_true rfl) k3 ?_
          refine aw_if_ne 241 k99_234 (by decide) (fun c_234 => ?_) (fun c_234 => ?_)
          · exact absurd rfl c_234
          · refine aw_iconst (v := 1) k99_237 (by decide) ?_
            refine aw_goto (t := 242) k99_238 (by decide) ?_
            refine aw_zreturn k99_242 hR_L_change ?_ ?_ ?_
            · exact Or.inr rfl
            · rfl
            · rfl
  · obtain ⟨M2, kT, hC2, hF2⟩ := s_A_takeBack (d := d + 1) hC (by omega)
    have hG2 := fTake_gp hI.1 (by omega)
    have en := fTake_n hI.1.1 (by omega)
    have k1 := q_legs (d := d + 1) hC2
    have es := nI_sub1 (a := fN f) (by omega)
    rw [hG2.1.1, en] at kT
    rw [en] at k1
    refine ⟨M2, _, _, ?_, hC2, hI.push hG2, hF2, Or.inr rfl⟩
    have t443 := ch_443 (d := d) hC2 (q_rec (d := d) hC).2
    refine aw_iload k99_211 rfl ?_
    refine aw_if_ne 243 k99_213 (by decide) (fun c_213 => ?_) (fun c_213 => ?_)
    · refine aw_aload_n k99_243 rfl ?_
      refine aw_callV0 k99_244 hC_L_change ok_A_takeBack sv_L_51 hH_A_takeBack ⟨rfl, rfl⟩ (by decide) hN_A_takeBack (by rw [hL_A_takeBack]; exact Nat.le_of_ble_eq_true rfl) (Nat.le_of_ble_eq_true rfl) kT ?_
      refine aw_iload k99_247 rfl ?_
      refine aw_iconst (v := 1) k99_249 (by decide) ?_
      refine aw_isub k99_250 ?_
      refine aw_icmp_ne 269 k99_251 (by decide) (fun c_251 => ?_) (fun c_251 => ?_)
      · exact absurd es.symm c_251
      · refine aw_aload_n k99_254 rfl ?_
        refine aw_callV0 k99_255 hC_L_change ok_A_legs sv_L_15 hH_A_legs ⟨rfl, rfl⟩ (by decide) hN_A_legs (by rw [hL_A_legs]; exact Nat.le_of_ble_eq_true rfl) (Nat.le_of_ble_eq_true rfl) k1 ?_
        refine aw_iload k99_258 rfl ?_
        refine aw_iconst (v := 1) k99_260 (by decide) ?_
        refine aw_isub k99_261 ?_
        refine aw_icmp_ne 269 k99_262 (by decide) (fun c_262 => ?_) (fun c_262 => ?_)
        · exact absurd es.symm c_262
        · refine aw_iconst (v := 1) k99_265 (by decide) ?_
          refine aw_goto (t := 270) k99_266 (by decide) ?_
          refine aw_istore k99_270 (Nat.le_of_ble_eq_true rfl) (st1_7 (by rfl)) ?_
          refine aw_goto (t := 443) k99_272 (by decide) ?_
          exact t443 _ _ _ _ _ _ _ _ _ _ _ _ _ _ _ _
    · exact absurd (nI_eq_of (b := 0) c_213) hq
theorem ch_275 {d L : Nat} {M : mM} {f t : Nat → Int32} {hs : List (Nat → Int32)} {sn : Option (Nat → Int32)} (hC : CR M f hs sn t L) (hI : Ip f hs sn) {a b : Int32} {x1 : Option mAV} : CP d 275 [some (vR 5 0 0), x1, some (vI a), some (vI b), some (vI (nI (fN f))), some (vI (nI (fC f))), some (vI (nI hs.length)), some (vI 1), none, none, none, none, none, none, none, none, none, none, none] M f hs sn t L := by
  have h12 := hI.1.1.2.1
  have z5 : (50000 : Int32).toInt = 50000 := rfl
  have hsp : 0 < (2 * 50000 + 1 : Int32).toInt := by decide
  have hx : inR (spanV a 50000) 50000 ∧ inR (spanV b 50000) 50000 := ⟨spanV_in (by decide) (by decide) (by decide), spanV_in (by decide) (by decide) (by decide)⟩
  obtain ⟨M2, kO, hC2, hF2⟩ := s_A_setOrigin (d := d + 1) hC hx
  have hG2 := fOrg_gp hI.1 hx
  have k1 := q_adjN (d := d + 1) hC (c := fN f) (Nat.le_refl _)
  rw [adj_n hI.1.2.1 h12 (by decide)] at k1
  have k2 := q_adjE (d := d + 1) hC2 (c := 0) (by omega)
  have k3 := q_adjN (d := d + 1) hC2 (c := fN f) (by rw [fOrg_n]; exact Nat.le_refl _)
  have e3 := adj_n (w := 1) hG2.2.1 hG2.1.2.1 (by decide)
  rw [fOrg_n] at e3
  rw [fOrg_n, e3, show fOrg f (spanV a 50000) (spanV b 50000) (37 + 1) = spanV b 50000 from rfl] at k3
  rw [adj_0, show fOrg f (spanV a 50000) (spanV b 50000) (37 + 0) = spanV a 50000 from rfl] at k2
  rw [hG2.1.1, fOrg_n] at kO
  refine ⟨M2, _, _, ?_, hC2, hI.push hG2, hF2, Or.inr rfl⟩
  have t443 := ch_443 (d := d) hC2 (q_rec (d := d) hC).2
  have hle : ¬ (50000 : Int32) < f (37 + 1) := by rw [Int32.lt_iff_toInt_lt, z5]; exact Int.not_lt.mpr hI.1.2.1.2.2.1.2
  refine aw_aload_n k99_275 rfl ?_
  refine aw_iload k99_276 rfl ?_
  refine aw_callV1 k99_278 hC_L_change ok_A_adjustedNorth sv_L_54 hH_A_adjustedNorth ⟨rfl, rfl⟩ (by decide) hN_A_adjustedNorth (by rw [hL_A_adjustedNorth]; exact Nat.le_of_ble_eq_true rfl) (Nat.le_of_ble_eq_true rfl) k1 ?_
  refine aw_istore k99_281 (Nat.le_of_ble_eq_true rfl) (st1_14 (by rfl)) ?_
  refine aw_aload_n k99_283 rfl ?_
  refine aw_iload_n k99_284 rfl ?_
  refine aw_ldc k99_285 hC_L_change ci_L_57 ?_
  refine aw_callS2 k99_287 hC_L_change ok_L_span ss_L_27 hH_L_span (by rw [hL_L_span]; exact Nat.le_of_ble_eq_true rfl) (Nat.le_of_ble_eq_true rfl) (c_span hsp) ?_
  refine aw_iload_n k99_290 rfl ?_
  refine aw_ldc k99_291 hC_L_change ci_L_57 ?_
  refine aw_callS2 k99_293 hC_L_change ok_L_span ss_L_27 hH_L_span (by rw [hL_L_span]; exact Nat.le_of_ble_eq_true rfl) (Nat.le_of_ble_eq_true rfl) (c_span hsp) ?_
  refine aw_callV2 k99_296 hC_L_change ok_A_setOrigin sv_L_58 hH_A_setOrigin ⟨rfl, rfl⟩ (by decide) hN_A_setOrigin (by rw [hL_A_setOrigin]; exact Nat.le_of_ble_eq_true rfl) (Nat.le_of_ble_eq_true rfl) kO ?_
  refine aw_iload k99_299 rfl ?_
  refine aw_icmp_ne 344 k99_301 (by decide) (fun c_301 => ?_) (fun c_301 => ?_)
  · exact absurd rfl c_301
  · refine aw_aload_n k99_304 rfl ?_
    refine aw_iconst (v := 0) k99_305 (by decide) ?_
    refine aw_callV1 k99_306 hC_L_change ok_A_adjustedEast sv_L_40 hH_A_adjustedEast ⟨rfl, rfl⟩ (by decide) hN_A_adjustedEast (by rw [hL_A_adjustedEast]; exact Nat.le_of_ble_eq_true rfl) (Nat.le_of_ble_eq_true rfl) k2 ?_
    refine aw_iload_n k99_309 rfl ?_
    refine aw_ldc k99_310 hC_L_change ci_L_57 ?_
    refine aw_callS2 k99_312 hC_L_change ok_L_span ss_L_27 hH_L_span (by rw [hL_L_span]; exact Nat.le_of_ble_eq_true rfl) (Nat.le_of_ble_eq_true rfl) (c_span hsp) ?_
    refine aw_icmp_ne 344 k99_315 (by decide) (fun c_315 => ?_) (fun c_315 => ?_)
    · exact absurd rfl c_315
    · refine aw_aload_n k99_318 rfl ?_
      refine aw_iload k99_319 rfl ?_
      refine aw_callV1 k99_321 hC_L_change ok_A_adjustedNorth sv_L_54 hH_A_adjustedNorth ⟨rfl, rfl⟩ (by decide) hN_A_adjustedNorth (by rw [hL_A_adjustedNorth]; exact Nat.le_of_ble_eq_true rfl) (Nat.le_of_ble_eq_true rfl) k3 ?_
      refine aw_iload_n k99_324 rfl ?_
      refine aw_ldc k99_325 hC_L_change ci_L_57 ?_
      refine aw_callS2 k99_327 hC_L_change ok_L_span ss_L_27 hH_L_span (by rw [hL_L_span]; exact Nat.le_of_ble_eq_true rfl) (Nat.le_of_ble_eq_true rfl) (c_span hsp) ?_
      refine aw_icmp_ne 344 k99_330 (by decide) (fun c_330 => ?_) (fun c_330 => ?_)
      · exact absurd rfl c_330
      · refine aw_iload k99_333 rfl ?_
        refine aw_ldc k99_335 hC_L_change ci_L_57 ?_
        refine aw_icmp_gt 344 k99_337 (by decide) (fun c_337 => ?_) (fun c_337 => ?_)
        · exact absurd c_337 hle
        · refine aw_iconst (v := 1) k99_340 (by decide) ?_
          refine aw_goto (t := 345) k99_341 (by decide) ?_
          refine aw_istore k99_345 (Nat.le_of_ble_eq_true rfl) (st1_7 (by rfl)) ?_
          refine aw_goto (t := 443) k99_347 (by decide) ?_
          exact t443 _ _ _ _ _ _ _ _ _ _ _ _ _ _ _ _
theorem ch_350 {d L : Nat} {M : mM} {f t : Nat → Int32} {hs : List (Nat → Int32)} {sn : Option (Nat → Int32)} (hC : CR M f hs sn t L) (hI : Ip f hs sn) {a b : Int32} {x1 : Option mAV} : CP d 350 [some (vR 5 0 0), x1, some (vI a), some (vI b), some (vI (nI (fN f))), some (vI (nI (fC f))), some (vI (nI hs.length)), some (vI 1), none, none, none, none, none, none, none, none, none, none, none] M f hs sn t L := by
  have h6 := hI.1.1.2.2.2.1
  by_cases hq : fC f = 0
  · refine ⟨M, f, hs, ?_, hC, hI, CFr.rf, Or.inl ⟨rfl, rfl⟩⟩
    have k1 := s_A_largestField (d := d + 1) hC
    have k2 := s_A_twiceAreaOfAll (d := d + 1) hC
    rw [hq] at k1 k2
    have e0 : nI (fC f) = 0 := by rw [hq]; rfl
    refine aw_iload k99_350 rfl ?_
    refine aw_if_ne 378 k99_352 (by decide) (fun c_352 => ?_) (fun c_352 => ?_)
    · exact absurd e0 c_352
    · refine aw_aload_n k99_355 rfl ?_
      refine aw_callV0 k99_356 hC_L_change ok_A_largestField sv_L_61 hH_A_largestField ⟨rfl, rfl⟩ (by decide) hN_A_largestField (by rw [hL_A_largestField]; exact Nat.le_of_ble_eq_true rfl) (Nat.le_of_ble_eq_true rfl) k1 ?_
      refine aw_iconst (v := (-1)) k99_359 (by decide) ?_
      refine aw_icmp_ne 376 k99_360 (by decide) (fun c_360 => ?_) (fun c_360 => ?_)
      · exact absurd rfl c_360
      · refine aw_aload_n k99_363 rfl ?_
        refine aw_callV0 k99_364 hC_L_change ok_A_twiceAreaOfAll sv_L_64 hH_A_twiceAreaOfAll ⟨rfl, rfl⟩ (by decide) hN_A_twiceAreaOfAll (by rw [hL_A_twiceAreaOfAll]; exact Nat.le_of_ble_eq_true rfl) (Nat.le_of_ble_eq_true rfl) k2 ?_
        refine aw_lconst (v := 0) k99_367 (by decide) ?_
        refine aw_lcmp_ne 376 k99_368 k99_369 (by decide) (fun c_368 => ?_) (fun c_368 => ?_)
        · exact absurd rfl c_368
        · refine aw_iconst (v := 1) k99_372 (by decide) ?_
          refine aw_goto (t := 377) k99_373 (by decide) ?_
          refine aw_zreturn k99_377 hR_L_change ?_ ?_ ?_
          · exact Or.inr rfl
          · rfl
          · rfl
  · have hpos : 0 < (nI (fC f)).toInt := by rw [nI_i (by omega)]; omega
    have rg := lowV_rng (v := a) (n := nI (fC f)) hpos
    rw [nI_i (by omega)] at rg
    have hm := i_nat rg.1
    have hj : (lowV a (nI (fC f))).toInt.toNat < fC f := by omega
    generalize (lowV a (nI (fC f))).toInt.toNat = j at hm hj
    have hF : hasF f (nI j) = true := hasF_nI hI.1.1.2.2.1 h6 hj
    have ej : (nI j).toNatClampNeg = j := nI_clamp (by omega)
    obtain ⟨M2, kG, hC2, hF2⟩ := s_A_giveUp (d := d + 1) hC hF
    rw [ej] at kG hC2
    have hG2 := fGive_gp hI.1 hj
    have k1 := s_A_twiceAreaByStrips (d := d + 1) hC hF
    rw [ej, hI.1.str hj] at k1
    have k2 := s_A_twiceAreaOfAll (d := d + 1) hC
    have k3 := s_A_twiceAreaOfAll (d := d + 1) hC2
    rw [fGive_c h6, give_sum hI.1.1 hj] at k3
    rw [show fGive f j 39 = nI (fC f - 1) from if_pos rfl] at kG
    have es := nI_sub1 (a := fC f) (by omega)
    refine ⟨M2, _, _, ?_, hC2, hI.push hG2, hF2, Or.inr rfl⟩
    have t443 := ch_443 (d := d) hC2 (q_rec (d := d) hC).2
    refine aw_iload k99_350 rfl ?_
    refine aw_if_ne 378 k99_352 (by decide) (fun c_352 => ?_) (fun c_352 => ?_)
    · refine aw_aload_n k99_378 rfl ?_
      refine aw_iload_n k99_379 rfl ?_
      refine aw_iload k99_380 rfl ?_
      refine aw_callS2 k99_382 hC_L_change ok_L_low ss_L_9 hH_L_low (by rw [hL_L_low]; exact Nat.le_of_ble_eq_true rfl) (Nat.le_of_ble_eq_true rfl) (c_low hpos) ?_
      rw [hm]
      refine aw_callV1 k99_385 hC_L_change ok_A_twiceAreaByStrips sv_L_68 hH_A_twiceAreaByStrips ⟨rfl, rfl⟩ (by decide) hN_A_twiceAreaByStrips (by rw [hL_A_twiceAreaByStrips]; exact Nat.le_of_ble_eq_true rfl) (Nat.le_of_ble_eq_true rfl) k1 ?_
      refine aw_lstore k99_388 (Nat.le_of_ble_eq_true rfl) (st2_15 (by rfl)) ?_
      refine aw_aload_n k99_390 rfl ?_
      refine aw_callV0 k99_391 hC_L_change ok_A_twiceAreaOfAll sv_L_64 hH_A_twiceAreaOfAll ⟨rfl, rfl⟩ (by decide) hN_A_twiceAreaOfAll (by rw [hL_A_twiceAreaOfAll]; exact Nat.le_of_ble_eq_true rfl) (Nat.le_of_ble_eq_true rfl) k2 ?_
      refine aw_lstore k99_394 (Nat.le_of_ble_eq_true rfl) (st2_17 (by rfl)) ?_
      refine aw_aload_n k99_396 rfl ?_
      refine aw_iload_n k99_397 rfl ?_
      refine aw_iload k99_398 rfl ?_
      refine aw_callS2 k99_400 hC_L_change ok_L_low ss_L_9 hH_L_low (by rw [hL_L_low]; exact Nat.le_of_ble_eq_true rfl) (Nat.le_of_ble_eq_true rfl) (c_low hpos) ?_
      rw [hm]
      refine aw_callV1 k99_403 hC_L_change ok_A_giveUp sv_L_72 hH_A_giveUp ⟨rfl, rfl⟩ (by decide) hN_A_giveUp (by rw [hL_A_giveUp]; exact Nat.le_of_ble_eq_true rfl) (Nat.le_of_ble_eq_true rfl) kG ?_
      refine aw_iload k99_406 rfl ?_
      refine aw_iconst (v := 1) k99_408 (by decide) ?_
      refine aw_isub k99_409 ?_
      refine aw_icmp_ne 430 k99_410 (by decide) (fun c_410 => ?_) (fun c_410 => ?_)
      · exact absurd es.symm c_410
      · refine aw_aload_n k99_413 rfl ?_
        refine aw_callV0 k99_414 hC_L_change ok_A_twiceAreaOfAll sv_L_64 hH_A_twiceAreaOfAll ⟨rfl, rfl⟩ (by decide) hN_A_twiceAreaOfAll (by rw [hL_A_twiceAreaOfAll]; exact Nat.le_of_ble_eq_true rfl) (Nat.le_of_ble_eq_true rfl) k3 ?_
        refine aw_lload k99_417 rfl ?_
        refine aw_lload k99_419 rfl ?_
        refine aw_lsub k99_421 ?_
        refine aw_lcmp_ne 430 k99_422 k99_423 (by decide) (fun c_422 => ?_) (fun c_422 => ?_)
        · exact absurd rfl c_422
        · refine aw_iconst (v := 1) k99_426 (by decide) ?_
          refine aw_goto (t := 431) k99_427 (by decide) ?_
          refine aw_istore k99_431 (Nat.le_of_ble_eq_true rfl) (st1_7 (by rfl)) ?_
          refine aw_goto (t := 443) k99_433 (by decide) ?_
          exact t443 _ _ _ _ _ _ _ _ _ _ _ _ _ _ _ _
    · exact absurd (nI_eq_of (b := 0) c_352) hq
theorem c_change {d L : Nat} {M : mM} {f t : Nat → Int32} {hs : List (Nat → Int32)} {sn : Option (Nat → Int32)} (hC : CR M f hs sn t L) (hI : Ip f hs sn) {a b : Int32} {κ : Nat} (hκ : κ ≤ 10) : ∃ M' f' hs', CT iL_change (d + 10) [vR 5 0 0, vI (nI κ), vI a, vI b] M (.inl (some (vI 1))) M' 0 ∧ CR M' f' hs' sn t L ∧ Ip f' hs' sn ∧ CFr M M' ∧ (κ < 7 → (f' = f ∧ hs' = hs) ∨ hs' = (f :: hs).take 4) := by
  have k1 := q_legs (d := d + 1) hC
  have k2 := q_fields (d := d + 1) hC
  have k3 := (q_rec (d := d + 1) hC).1
  by_cases h7 : κ < 7
  · have hk : κ = 0 ∨ κ = 1 ∨ κ = 2 ∨ κ = 3 ∨ κ = 4 ∨ κ = 5 ∨ κ = 6 := by omega
    rcases hk with rfl | rfl | rfl | rfl | rfl | rfl | rfl
    · obtain ⟨M', f', hs', hA, h2, h3, h4, h5⟩ := ch_64 (d := d) (a := a) (b := b) (x1 := some (vI (nI 0))) hC hI
      refine ⟨M', f', hs', ct_go hL_L_change rfl ?_, h2, h3, h4, fun _ => h5⟩
      refine aw_aload_n k99_0 rfl ?_
      refine aw_callV0 k99_1 hC_L_change ok_A_legs sv_L_15 hH_A_legs ⟨rfl, rfl⟩ (by decide) hN_A_legs (by rw [hL_A_legs]; exact Nat.le_of_ble_eq_true rfl) (Nat.le_of_ble_eq_true rfl) k1 ?_
      refine aw_istore k99_4 (Nat.le_of_ble_eq_true rfl) (st1_4 (by rfl)) ?_
      refine aw_aload_n k99_6 rfl ?_
      refine aw_callV0 k99_7 hC_L_change ok_A_fields sv_L_21 hH_A_fields ⟨rfl, rfl⟩ (by decide) hN_A_fields (by rw [hL_A_fields]; exact Nat.le_of_ble_eq_true rfl) (Nat.le_of_ble_eq_true rfl) k2 ?_
      refine aw_istore k99_10 (Nat.le_of_ble_eq_true rfl) (st1_5 (by rfl)) ?_
      refine aw_aload_n k99_12 rfl ?_
      refine aw_callV0 k99_13 hC_L_change ok_A_recordedStates sv_L_24 hH_A_recordedStates ⟨rfl, rfl⟩ (by decide) hN_A_recordedStates (by rw [hL_A_recordedStates]; exact Nat.le_of_ble_eq_true rfl) (Nat.le_of_ble_eq_true rfl) k3 ?_
      refine aw_istore k99_16 (Nat.le_of_ble_eq_true rfl) (st1_6 (by rfl)) ?_
      refine aw_iconst (v := 1) k99_18 (by decide) ?_
      refine aw_istore k99_19 (Nat.le_of_ble_eq_true rfl) (st1_7 (by rfl)) ?_
      refine aw_iload_n k99_21 rfl ?_
      refine aw_tableIn (t := 64) (off := 42) k99_22 (by decide) (by decide) (by decide) (by decide) ?_
      exact hA
    · obtain ⟨M', f', hs', hA, h2, h3, h4, h5⟩ := ch_64 (d := d) (a := a) (b := b) (x1 := some (vI (nI 1))) hC hI
      refine ⟨M', f', hs', ct_go hL_L_change rfl ?_, h2, h3, h4, fun _ => h5⟩
      refine aw_aload_n k99_0 rfl ?_
      refine aw_callV0 k99_1 hC_L_change ok_A_legs sv_L_15 hH_A_legs ⟨rfl, rfl⟩ (by decide) hN_A_legs (by rw [hL_A_legs]; exact Nat.le_of_ble_eq_true rfl) (Nat.le_of_ble_eq_true rfl) k1 ?_
      refine aw_istore k99_4 (Nat.le_of_ble_eq_true rfl) (st1_4 (by rfl)) ?_
      refine aw_aload_n k99_6 rfl ?_
      refine aw_callV0 k99_7 hC_L_change ok_A_fields sv_L_21 hH_A_fields ⟨rfl, rfl⟩ (by decide) hN_A_fields (by rw [hL_A_fields]; exact Nat.le_of_ble_eq_true rfl) (Nat.le_of_ble_eq_true rfl) k2 ?_
      refine aw_istore k99_10 (Nat.le_of_ble_eq_true rfl) (st1_5 (by rfl)) ?_
      refine aw_aload_n k99_12 rfl ?_
      refine aw_callV0 k99_13 hC_L_change ok_A_recordedStates sv_L_24 hH_A_recordedStates ⟨rfl, rfl⟩ (by decide) hN_A_recordedStates (by rw [hL_A_recordedStates]; exact Nat.le_of_ble_eq_true rfl) (Nat.le_of_ble_eq_true rfl) k3 ?_
      refine aw_istore k99_16 (Nat.le_of_ble_eq_true rfl) (st1_6 (by rfl)) ?_
      refine aw_iconst (v := 1) k99_18 (by decide) ?_
      refine aw_istore k99_19 (Nat.le_of_ble_eq_true rfl) (st1_7 (by rfl)) ?_
      refine aw_iload_n k99_21 rfl ?_
      refine aw_tableIn (t := 64) (off := 42) k99_22 (by decide) (by decide) (by decide) (by decide) ?_
      exact hA
    · obtain ⟨M', f', hs', hA, h2, h3, h4, h5⟩ := ch_64 (d := d) (a := a) (b := b) (x1 := some (vI (nI 2))) hC hI
      refine ⟨M', f', hs', ct_go hL_L_change rfl ?_, h2, h3, h4, fun _ => h5⟩
      refine aw_aload_n k99_0 rfl ?_
      refine aw_callV0 k99_1 hC_L_change ok_A_legs sv_L_15 hH_A_legs ⟨rfl, rfl⟩ (by decide) hN_A_legs (by rw [hL_A_legs]; exact Nat.le_of_ble_eq_true rfl) (Nat.le_of_ble_eq_true rfl) k1 ?_
      refine aw_istore k99_4 (Nat.le_of_ble_eq_true rfl) (st1_4 (by rfl)) ?_
      refine aw_aload_n k99_6 rfl ?_
      refine aw_callV0 k99_7 hC_L_change ok_A_fields sv_L_21 hH_A_fields ⟨rfl, rfl⟩ (by decide) hN_A_fields (by rw [hL_A_fields]; exact Nat.le_of_ble_eq_true rfl) (Nat.le_of_ble_eq_true rfl) k2 ?_
      refine aw_istore k99_10 (Nat.le_of_ble_eq_true rfl) (st1_5 (by rfl)) ?_
      refine aw_aload_n k99_12 rfl ?_
      refine aw_callV0 k99_13 hC_L_change ok_A_recordedStates sv_L_24 hH_A_recordedStates ⟨rfl, rfl⟩ (by decide) hN_A_recordedStates (by rw [hL_A_recordedStates]; exact Nat.le_of_ble_eq_true rfl) (Nat.le_of_ble_eq_true rfl) k3 ?_
      refine aw_istore k99_16 (Nat.le_of_ble_eq_true rfl) (st1_6 (by rfl)) ?_
      refine aw_iconst (v := 1) k99_18 (by decide) ?_
      refine aw_istore k99_19 (Nat.le_of_ble_eq_true rfl) (st1_7 (by rfl)) ?_
      refine aw_iload_n k99_21 rfl ?_
      refine aw_tableIn (t := 64) (off := 42) k99_22 (by decide) (by decide) (by decide) (by decide) ?_
      exact hA
    · obtain ⟨M', f', hs', hA, h2, h3, h4, h5⟩ := ch_64 (d := d) (a := a) (b := b) (x1 := some (vI (nI 3))) hC hI
      refine ⟨M', f', hs', ct_go hL_L_change rfl ?_, h2, h3, h4, fun _ => h5⟩
      refine aw_aload_n k99_0 rfl ?_
      refine aw_callV0 k99_1 hC_L_change ok_A_legs sv_L_15 hH_A_legs ⟨rfl, rfl⟩ (by decide) hN_A_legs (by rw [hL_A_legs]; exact Nat.le_of_ble_eq_true rfl) (Nat.le_of_ble_eq_true rfl) k1 ?_
      refine aw_istore k99_4 (Nat.le_of_ble_eq_true rfl) (st1_4 (by rfl)) ?_
      refine aw_aload_n k99_6 rfl ?_
      refine aw_callV0 k99_7 hC_L_change ok_A_fields sv_L_21 hH_A_fields ⟨rfl, rfl⟩ (by decide) hN_A_fields (by rw [hL_A_fields]; exact Nat.le_of_ble_eq_true rfl) (Nat.le_of_ble_eq_true rfl) k2 ?_
      refine aw_istore k99_10 (Nat.le_of_ble_eq_true rfl) (st1_5 (by rfl)) ?_
      refine aw_aload_n k99_12 rfl ?_
      refine aw_callV0 k99_13 hC_L_change ok_A_recordedStates sv_L_24 hH_A_recordedStates ⟨rfl, rfl⟩ (by decide) hN_A_recordedStates (by rw [hL_A_recordedStates]; exact Nat.le_of_ble_eq_true rfl) (Nat.le_of_ble_eq_true rfl) k3 ?_
      refine aw_istore k99_16 (Nat.le_of_ble_eq_true rfl) (st1_6 (by rfl)) ?_
      refine aw_iconst (v := 1) k99_18 (by decide) ?_
      refine aw_istore k99_19 (Nat.le_of_ble_eq_true rfl) (st1_7 (by rfl)) ?_
      refine aw_iload_n k99_21 rfl ?_
      refine aw_tableIn (t := 64) (off := 42) k99_22 (by decide) (by decide) (by decide) (by decide) ?_
      exact hA
    · obtain ⟨M', f', hs', hA, h2, h3, h4, h5⟩ := ch_211 (d := d) (a := a) (b := b) (x1 := some (vI (nI 4))) hC hI
      refine ⟨M', f', hs', ct_go hL_L_change rfl ?_, h2, h3, h4, fun _ => h5⟩
      refine aw_aload_n k99_0 rfl ?_
      refine aw_callV0 k99_1 hC_L_change ok_A_legs sv_L_15 hH_A_legs ⟨rfl, rfl⟩ (by decide) hN_A_legs (by rw [hL_A_legs]; exact Nat.le_of_ble_eq_true rfl) (Nat.le_of_ble_eq_true rfl) k1 ?_
      refine aw_istore k99_4 (Nat.le_of_ble_eq_true rfl) (st1_4 (by rfl)) ?_
      refine aw_aload_n k99_6 rfl ?_
      refine aw_callV0 k99_7 hC_L_change ok_A_fields sv_L_21 hH_A_fields ⟨rfl, rfl⟩ (by decide) hN_A_fields (by rw [hL_A_fields]; exact Nat.le_of_ble_eq_true rfl) (Nat.le_of_ble_eq_true rfl) k2 ?_
      refine aw_istore k99_10 (Nat.le_of_ble_eq_true rfl) (st1_5 (by rfl)) ?_
      refine aw_aload_n k99_12 rfl ?_
      refine aw_callV0 k99_13 hC_L_change ok_A_recordedStates sv_L_24 hH_A_recordedStates ⟨rfl, rfl⟩ (by decide) hN_A_recordedStates (by rw [hL_A_recordedStates]; exact Nat.le_of_ble_eq_true rfl) (Nat.le_of_ble_eq_true rfl) k3 ?_
      refine aw_istore k99_16 (Nat.le_of_ble_eq_true rfl) (st1_6 (by rfl)) ?_
      refine aw_iconst (v := 1) k99_18 (by decide) ?_
      refine aw_istore k99_19 (Nat.le_of_ble_eq_true rfl) (st1_7 (by rfl)) ?_
      refine aw_iload_n k99_21 rfl ?_
      refine aw_tableIn (t := 211) (off := 189) k99_22 (by decide) (by decide) (by decide) (by decide) ?_
      exact hA
    · obtain ⟨M', f', hs', hA, h2, h3, h4, h5⟩ := ch_275 (d := d) (a := a) (b := b) (x1 := some (vI (nI 5))) hC hI
      refine ⟨M', f', hs', ct_go hL_L_change rfl ?_, h2, h3, h4, fun _ => h5⟩
      refine aw_aload_n k99_0 rfl ?_
      refine aw_callV0 k99_1 hC_L_change ok_A_legs sv_L_15 hH_A_legs ⟨rfl, rfl⟩ (by decide) hN_A_legs (by rw [hL_A_legs]; exact Nat.le_of_ble_eq_true rfl) (Nat.le_of_ble_eq_true rfl) k1 ?_
      refine aw_istore k99_4 (Nat.le_of_ble_eq_true rfl) (st1_4 (by rfl)) ?_
      refine aw_aload_n k99_6 rfl ?_
      refine aw_callV0 k99_7 hC_L_change ok_A_fields sv_L_21 hH_A_fields ⟨rfl, rfl⟩ (by decide) hN_A_fields (by rw [hL_A_fields]; exact Nat.le_of_ble_eq_true rfl) (Nat.le_of_ble_eq_true rfl) k2 ?_
      refine aw_istore k99_10 (Nat.le_of_ble_eq_true rfl) (st1_5 (by rfl)) ?_
      refine aw_aload_n k99_12 rfl ?_
      refine aw_callV0 k99_13 hC_L_change ok_A_recordedStates sv_L_24 hH_A_recordedStates ⟨rfl, rfl⟩ (by decide) hN_A_recordedStates (by rw [hL_A_recordedStates]; exact Nat.le_of_ble_eq_true rfl) (Nat.le_of_ble_eq_true rfl) k3 ?_
      refine aw_istore k99_16 (Nat.le_of_ble_eq_true rfl) (st1_6 (by rfl)) ?_
      refine aw_iconst (v := 1) k99_18 (by decide) ?_
      refine aw_istore k99_19 (Nat.le_of_ble_eq_true rfl) (st1_7 (by rfl)) ?_
      refine aw_iload_n k99_21 rfl ?_
      refine aw_tableIn (t := 275) (off := 253) k99_22 (by decide) (by decide) (by decide) (by decide) ?_
      exact hA
    · obtain ⟨M', f', hs', hA, h2, h3, h4, h5⟩ := ch_350 (d := d) (a := a) (b := b) (x1 := some (vI (nI 6))) hC hI
      refine ⟨M', f', hs', ct_go hL_L_change rfl ?_, h2, h3, h4, fun _ => h5⟩
      refine aw_aload_n k99_0 rfl ?_
      refine aw_callV0 k99_1 hC_L_change ok_A_legs sv_L_15 hH_A_legs ⟨rfl, rfl⟩ (by decide) hN_A_legs (by rw [hL_A_legs]; exact Nat.le_of_ble_eq_true rfl) (Nat.le_of_ble_eq_true rfl) k1 ?_
      refine aw_istore k99_4 (Nat.le_of_ble_eq_true rfl) (st1_4 (by rfl)) ?_
      refine aw_aload_n k99_6 rfl ?_
      refine aw_callV0 k99_7 hC_L_change ok_A_fields sv_L_21 hH_A_fields ⟨rfl, rfl⟩ (by decide) hN_A_fields (by rw [hL_A_fields]; exact Nat.le_of_ble_eq_true rfl) (Nat.le_of_ble_eq_true rfl) k2 ?_
      refine aw_istore k99_10 (Nat.le_of_ble_eq_true rfl) (st1_5 (by rfl)) ?_
      refine aw_aload_n k99_12 rfl ?_
      refine aw_callV0 k99_13 hC_L_change ok_A_recordedStates sv_L_24 hH_A_recordedStates ⟨rfl, rfl⟩ (by decide) hN_A_recordedStates (by rw [hL_A_recordedStates]; exact Nat.le_of_ble_eq_true rfl) (Nat.le_of_ble_eq_true rfl) k3 ?_
      refine aw_istore k99_16 (Nat.le_of_ble_eq_true rfl) (st1_6 (by rfl)) ?_
      refine aw_iconst (v := 1) k99_18 (by decide) ?_
      refine aw_istore k99_19 (Nat.le_of_ble_eq_true rfl) (st1_7 (by rfl)) ?_
      refine aw_iload_n k99_21 rfl ?_
      refine aw_tableIn (t := 350) (off := 328) k99_22 (by decide) (by decide) (by decide) (by decide) ?_
      exact hA
  · obtain ⟨M', f', hs', hA, h2, h3, h4⟩ := c_rounds (d := d) (a := a) (b := b) hC hI
    refine ⟨M', f', hs', ct_go hL_L_change rfl ?_, h2, h3, h4, fun q => absurd q h7⟩
    have hsw : (nI κ).toInt < 0 ∨ 6 < (nI κ).toInt := Or.inr (by rw [nI_i (by omega)]; omega)
    refine aw_aload_n k99_0 rfl ?_
    refine aw_callV0 k99_1 hC_L_change ok_A_legs sv_L_15 hH_A_legs ⟨rfl, rfl⟩ (by decide) hN_A_legs (by rw [hL_A_legs]; exact Nat.le_of_ble_eq_true rfl) (Nat.le_of_ble_eq_true rfl) k1 ?_
    refine aw_istore k99_4 (Nat.le_of_ble_eq_true rfl) (st1_4 (by rfl)) ?_
    refine aw_aload_n k99_6 rfl ?_
    refine aw_callV0 k99_7 hC_L_change ok_A_fields sv_L_21 hH_A_fields ⟨rfl, rfl⟩ (by decide) hN_A_fields (by rw [hL_A_fields]; exact Nat.le_of_ble_eq_true rfl) (Nat.le_of_ble_eq_true rfl) k2 ?_
    refine aw_istore k99_10 (Nat.le_of_ble_eq_true rfl) (st1_5 (by rfl)) ?_
    refine aw_aload_n k99_12 rfl ?_
    refine aw_callV0 k99_13 hC_L_change ok_A_recordedStates sv_L_24 hH_A_recordedStates ⟨rfl, rfl⟩ (by decide) hN_A_recordedStates (by rw [hL_A_recordedStates]; exact Nat.le_of_ble_eq_true rfl) (Nat.le_of_ble_eq_true rfl) k3 ?_
    refine aw_istore k99_16 (Nat.le_of_ble_eq_true rfl) (st1_6 (by rfl)) ?_
    refine aw_iconst (v := 1) k99_18 (by decide) ?_
    refine aw_istore k99_19 (Nat.le_of_ble_eq_true rfl) (st1_7 (by rfl)) ?_
    refine aw_iload_n k99_21 rfl ?_
    refine aw_tableOut (t := 436) k99_22 hsw (by decide) ?_
    refine aw_aload_n k99_436 rfl ?_
    refine aw_iload_n k99_437 rfl ?_
    refine aw_iload_n k99_438 rfl ?_
    refine aw_callS3 k99_439 hC_L_change ok_L_rounds ss_L_75 hH_L_rounds (by rw [hL_L_rounds]; exact Nat.le_of_ble_eq_true rfl) (Nat.le_of_ble_eq_true rfl) hA ?_
    refine aw_zreturn k99_442 hR_L_change ?_ ?_ ?_
    · exact Or.inr rfl
    · rfl
    · rfl
