/-! THE LAW: holds, further -/
/-- a field's own answers -/
theorem h_check {d L : Nat} {M : mM} {f t : Nat → Int32} {hs : List (Nat → Int32)} {sn : Option (Nat → Int32)} {v : Int32} (hC : CR M f hs sn t L) (hG : Gp f) {i : Nat} (hi : i < fC f) (hk : ∀ x11 x12 x13 x14 x15 x16 x17 x18 : Option mAV, AW iL_holds (d + 10) 112 [some (vR 5 0 0), some (vI v), some (vI (f 0)), some (vI (bef f 0 (fN f))), some (vI (bef f 1 (fN f))), some (vL (sumL (twF f) (i + 1))), none, some (vI (grF f (i + 1)).1), some (vI (iabs (bef f 0 (fN f)) + iabs (bef f 1 (fN f)))), some (vI 1), some (vI (nI (i + 1))), x11, x12, x13, x14, x15, x16, x17, x18] [] M (.inl (some (vI 1))) M 0) : ∀ x11 x12 x13 x14 x15 x16 x17 x18 : Option mAV, AW iL_holds (d + 10) 112 [some (vR 5 0 0), some (vI v), some (vI (f 0)), some (vI (bef f 0 (fN f))), some (vI (bef f 1 (fN f))), some (vL (sumL (twF f) i)), none, some (vI (grF f i).1), some (vI (iabs (bef f 0 (fN f)) + iabs (bef f 1 (fN f)))), some (vI 1), some (vI (nI i)), x11, x12, x13, x14, x15, x16, x17, x18] [] M (.inl (some (vI 1))) M 0 := by
  intro x11 x12 x13 x14 x15 x16 x17 x18
  obtain ⟨hS, hB, hP⟩ := id hG
  have h6 := hS.2.2.2.1
  obtain ⟨e40, hm3, hm12⟩ := hS.2.2.2.2 i hi
  have hF : hasF f (nI i) = true := hasF_nI hS.2.2.1 h6 hi
  have ei : (nI i).toNatClampNeg = i := nI_clamp (by omega)
  have hT := hG.tw hi
  have hA := hG.half hi
  have z0 : (0 : Int64).toInt = 0 := rfl
  have hle : leF f i ≤ bN f i := cntB_le _ _
  have k1 : CT iA_fields (d + 9) [vR 5 0 0] M (.inl (some (vI (nI (fC f))))) M 0 := by
    have := s_A_fields (d := d + 1) hC
    rw [hS.2.2.1] at this
    exact this
  have k2 : CT iA_twiceAreaByCorners (d + 9) [vR 5 0 0, vI (nI i)] M (.inl (some (vL (twF f i)))) M 0 := by
    have := s_A_twiceAreaByCorners (d := d + 1) hC hF
    rw [ei] at this
    exact this
  have k3 : CT iA_leftTurns (d + 9) [vR 5 0 0, vI (nI i)] M (.inl (some (vI (nI (leF f i))))) M 0 := by
    have := s_A_leftTurns (d := d + 1) hC hF
    rw [ei] at this
    exact this
  have k4 : CT iA_cornersOf (d + 9) [vR 5 0 0, vI (nI i)] M (.inl (some (vI (nI (bN f i))))) M 0 := by
    have := s_A_cornersOf (d := d + 1) hC hF
    rw [ei, e40] at this
    exact this
  have k5 : CT iA_twiceAreaByStrips (d + 9) [vR 5 0 0, vI (nI i)] M (.inl (some (vL (twF f i)))) M 0 := by
    have := s_A_twiceAreaByStrips (d := d + 1) hC hF
    rw [ei, hG.str hi] at this
    exact this
  have k6 : CT iA_acresOf (d + 9) [vR 5 0 0, vI (nI i)] M (.inl (some (vI (twF f i / 2 / 100000).toInt32))) M 0 := by
    have := s_A_acresOf (d := d + 1) hC hF
    rw [ei] at this
    exact this
  have k7 : CT iA_roodsOf (d + 9) [vR 5 0 0, vI (nI i)] M (.inl (some (vI ((twF f i / 2 - twF f i / 2 / 100000 * 100000) / 25000).toInt32))) M 0 := by
    have := s_A_roodsOf (d := d + 1) hC hF
    rw [ei] at this
    exact this
  have k8 : CT iA_perchesOf (d + 9) [vR 5 0 0, vI (nI i)] M (.inl (some (vI ((twF f i / 2 - twF f i / 2 / 25000 * 25000) / 625).toInt32))) M 0 := by
    have := s_A_perchesOf (d := d + 1) hC hF
    rw [ei] at this
    exact this
  have k9 : leF f i = 0 → CT iA_turnsOneWay (d + 9) [vR 5 0 0, vI (nI i)] M (.inl (some (vI 1))) M 0 := fun q => by
    have := s_A_turnsOneWay (d := d + 1) hC hF
    rw [ei, q, decide_eq_true (show nI 0 = 0 from rfl)] at this
    exact this
  have k10 : CT iA_sharedSides (d + 9) [vR 5 0 0, vI (nI i), vI (nI i)] M (.inl (some (vI (nI (bN f i))))) M 0 := by
    have := s_A_sharedSides (d := d + 1) hC hF hF
    rw [ei, sha_self] at this
    exact this
  have k11 := c_fits (d := d) (v := v) hC hG hi
  have a1 := acres_i (a := twF f i / 2) ⟨by omega, by omega⟩
  have a2 := rem_i (a := twF f i / 2) (m := 100000) (d := 25000) (mi := 100000) (di := 25000) rfl rfl (by decide) (by decide) (by decide) (by omega)
  have a3 := rem_i (a := twF f i / 2) (m := 25000) (d := 625) (mi := 25000) (di := 625) rfl rfl (by decide) (by decide) (by decide) (by omega)
  have t299 := h_large (d := d) (v := v) hC hG hi hk
  have t269 : AW iL_holds (d + 10) 269 [some (vR 5 0 0), some (vI v), some (vI (f 0)), some (vI (bef f 0 (fN f))), some (vI (bef f 1 (fN f))), some (vL (sumL (twF f) (i + 1))), none, some (vI (grF f i).1), some (vI (iabs (bef f 0 (fN f)) + iabs (bef f 1 (fN f)))), some (vI 1), some (vI (nI i)), some (vL (twF f i)), none, some (vL (twF f i / 2)), none, some (vI (nI (leF f i))), some (vI (nI (bN f i))), x17, x18] [] M (.inl (some (vI 1))) M 0 := by
    refine aw_aload_n k104_269 rfl ?_
    refine aw_iload k104_270 rfl ?_
    refine aw_iload k104_272 rfl ?_
    refine aw_callV2 k104_274 hC_L_holds ok_A_sharedSides sv_L_137 hH_A_sharedSides ⟨rfl, rfl⟩ (by decide) hN_A_sharedSides (by rw [hL_A_sharedSides]; exact Nat.le_of_ble_eq_true rfl) (Nat.le_of_ble_eq_true rfl) k10 ?_
    refine aw_iload k104_277 rfl ?_
    refine aw_icmp_ne 296 k104_279 (by decide) (fun c_279 => ?_) (fun c_279 => ?_)
    · exact absurd rfl c_279
    · refine aw_aload_n k104_282 rfl ?_
      refine aw_iload k104_283 rfl ?_
      refine aw_iload_n k104_285 rfl ?_
      refine aw_callS3 k104_286 hC_L_holds ok_L_fits ss_L_140 hH_L_fits (by rw [hL_L_fits]; exact Nat.le_of_ble_eq_true rfl) (Nat.le_of_ble_eq_true rfl) k11 ?_
      refine aw_if_eq 296 k104_289 (by decide) (fun c_289 => ?_) (fun c_289 => ?_)
      · exact absurd (show (1 : Int32) = 0 from c_289) (by decide)
      · refine aw_iconst (v := 1) k104_292 (by decide) ?_
        refine aw_goto (t := 297) k104_293 (by decide) ?_
        refine aw_istore k104_297 (Nat.le_of_ble_eq_true rfl) (st1_9 (by rfl)) ?_
        exact t299 _ _
  have t165 : AW iL_holds (d + 10) 165 [some (vR 5 0 0), some (vI v), some (vI (f 0)), some (vI (bef f 0 (fN f))), some (vI (bef f 1 (fN f))), some (vL (sumL (twF f) (i + 1))), none, some (vI (grF f i).1), some (vI (iabs (bef f 0 (fN f)) + iabs (bef f 1 (fN f)))), some (vI 1), some (vI (nI i)), some (vL (twF f i)), none, some (vL (twF f i / 2)), none, some (vI (nI (leF f i))), some (vI (nI (bN f i))), x17, x18] [] M (.inl (some (vI 1))) M 0 := by
    have hpos : ¬ twF f i ≤ 0 := by rw [Int64.le_iff_toInt_le, z0]; omega
    have n0 : ¬ nI (leF f i) < 0 := fun q => absurd (nI_lt_of (b := 0) q) (by omega)
    refine aw_lload k104_165 rfl ?_
    refine aw_lconst (v := 0) k104_167 (by decide) ?_
    refine aw_lcmp_le 296 k104_168 k104_169 (by decide) (fun c_168 => ?_) (fun c_168 => ?_)
    · exact absurd c_168 hpos
    · refine aw_aload_n k104_172 rfl ?_
      refine aw_iload k104_173 rfl ?_
      refine aw_callV1 k104_175 hC_L_holds ok_A_twiceAreaByStrips sv_L_68 hH_A_twiceAreaByStrips ⟨rfl, rfl⟩ (by decide) hN_A_twiceAreaByStrips (by rw [hL_A_twiceAreaByStrips]; exact Nat.le_of_ble_eq_true rfl) (Nat.le_of_ble_eq_true rfl) k5 ?_
      refine aw_lload k104_178 rfl ?_
      refine aw_lcmp_ne 296 k104_180 k104_181 (by decide) (fun c_180 => ?_) (fun c_180 => ?_)
      · exact absurd rfl c_180
      · refine aw_aload_n k104_184 rfl ?_
        refine aw_iload k104_185 rfl ?_
        refine aw_callV1 k104_187 hC_L_holds ok_A_acresOf sv_L_118 hH_A_acresOf ⟨rfl, rfl⟩ (by decide) hN_A_acresOf (by rw [hL_A_acresOf]; exact Nat.le_of_ble_eq_true rfl) (Nat.le_of_ble_eq_true rfl) k6 ?_
        refine aw_i2l k104_190 ?_
        refine aw_lload k104_191 rfl ?_
        refine aw_ldc2_w k104_193 hC_L_holds cl_L_121 ?_
        refine aw_ldiv k104_196 (by decide) ?_
        refine aw_lcmp_ne 296 k104_197 k104_198 (by decide) (fun c_197 => ?_) (fun c_197 => ?_)
        · exact absurd a1 c_197
        · refine aw_aload_n k104_201 rfl ?_
          refine aw_iload k104_202 rfl ?_
          refine aw_callV1 k104_204 hC_L_holds ok_A_roodsOf sv_L_123 hH_A_roodsOf ⟨rfl, rfl⟩ (by decide) hN_A_roodsOf (by rw [hL_A_roodsOf]; exact Nat.le_of_ble_eq_true rfl) (Nat.le_of_ble_eq_true rfl) k7 ?_
          refine aw_i2l k104_207 ?_
          refine aw_lload k104_208 rfl ?_
          refine aw_ldc2_w k104_210 hC_L_holds cl_L_121 ?_
          refine aw_lrem k104_213 (by decide) ?_
          refine aw_ldc2_w k104_214 hC_L_holds cl_L_126 ?_
          refine aw_ldiv k104_217 (by decide) ?_
          refine aw_lcmp_ne 296 k104_218 k104_219 (by decide) (fun c_218 => ?_) (fun c_218 => ?_)
          · exact absurd a2 c_218
          · refine aw_aload_n k104_222 rfl ?_
            refine aw_iload k104_223 rfl ?_
            refine aw_callV1 k104_225 hC_L_holds ok_A_perchesOf sv_L_128 hH_A_perchesOf ⟨rfl, rfl⟩ (by decide) hN_A_perchesOf (by rw [hL_A_perchesOf]; exact Nat.le_of_ble_eq_true rfl) (Nat.le_of_ble_eq_true rfl) k8 ?_
            refine aw_i2l k104_228 ?_
            refine aw_lload k104_229 rfl ?_
            refine aw_ldc2_w k104_231 hC_L_holds cl_L_126 ?_
            refine aw_lrem k104_234 (by decide) ?_
            refine aw_ldc2_w k104_235 hC_L_holds cl_L_131 ?_
            refine aw_ldiv k104_238 (by decide) ?_
            refine aw_lcmp_ne 296 k104_239 k104_240 (by decide) (fun c_239 => ?_) (fun c_239 => ?_)
            · exact absurd a3 c_239
            · refine aw_iload k104_243 rfl ?_
              refine aw_if_lt 296 k104_245 (by decide) (fun c_245 => ?_) (fun c_245 => ?_)
              · exact absurd c_245 n0
              · refine aw_iload k104_248 rfl ?_
                refine aw_iload k104_250 rfl ?_
                refine aw_icmp_gt 296 k104_252 (by decide) (fun c_252 => ?_) (fun c_252 => ?_)
                · exact absurd (nI_lt_of c_252) (by omega)
                · refine aw_iload k104_255 rfl ?_
                  refine aw_if_gt 269 k104_257 (by decide) (fun c_257 => ?_) (fun c_257 => ?_)
                  · exact t269
                  · refine aw_aload_n k104_260 rfl ?_
                    refine aw_iload k104_261 rfl ?_
                    refine aw_callV1 k104_263 hC_L_holds ok_A_turnsOneWay sv_L_133 hH_A_turnsOneWay ⟨rfl, rfl⟩ (by decide) hN_A_turnsOneWay (by rw [hL_A_turnsOneWay]; exact Nat.le_of_ble_eq_true rfl) (Nat.le_of_ble_eq_true rfl) (k9 (by have := nI_nlt_of (a := 0) c_257; omega)) ?_
                    refine aw_if_eq 296 k104_266 (by decide) (fun c_266 => ?_) (fun c_266 => ?_)
                    · exact absurd (show (1 : Int32) = 0 from c_266) (by decide)
                    · exact t269
  refine aw_iload k104_112 rfl ?_
  refine aw_aload_n k104_114 rfl ?_
  refine aw_callV0 k104_115 hC_L_holds ok_A_fields sv_L_21 hH_A_fields ⟨rfl, rfl⟩ (by decide) hN_A_fields (by rw [hL_A_fields]; exact Nat.le_of_ble_eq_true rfl) (Nat.le_of_ble_eq_true rfl) k1 ?_
  refine aw_icmp_ge 410 k104_118 (by decide) (fun c_118 => ?_) (fun c_118 => ?_)
  · exact absurd (nI_le_of c_118) (by omega)
  · refine aw_iload k104_121 rfl ?_
    refine aw_if_eq 410 k104_123 (by decide) (fun c_123 => ?_) (fun c_123 => ?_)
    · exact absurd (show (1 : Int32) = 0 from c_123) (by decide)
    · refine aw_aload_n k104_126 rfl ?_
      refine aw_iload k104_127 rfl ?_
      refine aw_callV1 k104_129 hC_L_holds ok_A_twiceAreaByCorners sv_L_85 hH_A_twiceAreaByCorners ⟨rfl, rfl⟩ (by decide) hN_A_twiceAreaByCorners (by rw [hL_A_twiceAreaByCorners]; exact Nat.le_of_ble_eq_true rfl) (Nat.le_of_ble_eq_true rfl) k2 ?_
      refine aw_lstore k104_132 (Nat.le_of_ble_eq_true rfl) (st2_11 (by rfl)) ?_
      refine aw_lload k104_134 rfl ?_
      refine aw_ldc2_w k104_136 hC_L_holds cl_L_113 ?_
      refine aw_ldiv k104_139 (by decide) ?_
      refine aw_lstore k104_140 (Nat.le_of_ble_eq_true rfl) (st2_13 (by rfl)) ?_
      refine aw_aload_n k104_142 rfl ?_
      refine aw_iload k104_143 rfl ?_
      refine aw_callV1 k104_145 hC_L_holds ok_A_leftTurns sv_L_115 hH_A_leftTurns ⟨rfl, rfl⟩ (by decide) hN_A_leftTurns (by rw [hL_A_leftTurns]; exact Nat.le_of_ble_eq_true rfl) (Nat.le_of_ble_eq_true rfl) k3 ?_
      refine aw_istore k104_148 (Nat.le_of_ble_eq_true rfl) (st1_15 (by rfl)) ?_
      refine aw_aload_n k104_150 rfl ?_
      refine aw_iload k104_151 rfl ?_
      refine aw_callV1 k104_153 hC_L_holds ok_A_cornersOf sv_L_82 hH_A_cornersOf ⟨rfl, rfl⟩ (by decide) hN_A_cornersOf (by rw [hL_A_cornersOf]; exact Nat.le_of_ble_eq_true rfl) (Nat.le_of_ble_eq_true rfl) k4 ?_
      refine aw_istore k104_156 (Nat.le_of_ble_eq_true rfl) (st1_16 (by rfl)) ?_
      refine aw_lload k104_158 rfl ?_
      refine aw_lload k104_160 rfl ?_
      refine aw_ladd k104_162 ?_
      refine aw_lstore k104_163 (Nat.le_of_ble_eq_true rfl) (st2_5 (by rfl)) ?_
      exact t165
theorem h_loop {d L : Nat} {M : mM} {f t : Nat → Int32} {hs : List (Nat → Int32)} {sn : Option (Nat → Int32)} {v : Int32} (hC : CR M f hs sn t L) (hG : Gp f) : ∀ k i : Nat, i + k = fC f → ∀ x11 x12 x13 x14 x15 x16 x17 x18 : Option mAV, AW iL_holds (d + 10) 112 [some (vR 5 0 0), some (vI v), some (vI (f 0)), some (vI (bef f 0 (fN f))), some (vI (bef f 1 (fN f))), some (vL (sumL (twF f) i)), none, some (vI (grF f i).1), some (vI (iabs (bef f 0 (fN f)) + iabs (bef f 1 (fN f)))), some (vI 1), some (vI (nI i)), x11, x12, x13, x14, x15, x16, x17, x18] [] M (.inl (some (vI 1))) M 0 := by
  intro k
  have hS := hG.1
  have h6 := hS.2.2.2.1
  induction k with
  | zero =>
    intro i hi x11 x12 x13 x14 x15 x16 x17 x18
    obtain rfl : i = fC f := by omega
    have k1 : CT iA_fields (d + 9) [vR 5 0 0] M (.inl (some (vI (nI (fC f))))) M 0 := by
      have := s_A_fields (d := d + 1) hC
      rw [hS.2.2.1] at this
      exact this
    have t410 := h_410 (d := d) (v := v) hC hG
    refine aw_iload k104_112 rfl ?_
    refine aw_aload_n k104_114 rfl ?_
    refine aw_callV0 k104_115 hC_L_holds ok_A_fields sv_L_21 hH_A_fields ⟨rfl, rfl⟩ (by decide) hN_A_fields (by rw [hL_A_fields]; exact Nat.le_of_ble_eq_true rfl) (Nat.le_of_ble_eq_true rfl) k1 ?_
    refine aw_icmp_ge 410 k104_118 (by decide) (fun c_118 => ?_) (fun c_118 => ?_)
    · exact t410 _ _ _ _ _ _ _ _
    · exact absurd (nI_leI (by omega) (by omega) |>.mpr (Nat.le_refl _)) c_118
  | succ k ih =>
    intro i hi
    exact h_check hC hG (by omega) (ih (i + 1) (by omega))
theorem iabs_p {x : Int32} (h : 0 ≤ x) : x = iabs x := (if_pos h).symm
theorem iabs_m {x : Int32} (h : ¬ 0 ≤ x) : -x = iabs x := (if_neg h).symm
set_option maxHeartbeats 4000000 in
theorem c_holds {d L : Nat} {M : mM} {f t : Nat → Int32} {hs : List (Nat → Int32)} {sn : Option (Nat → Int32)} {v : Int32} (hC : CR M f hs sn t L) (hG : Gp f) : CT iL_holds (d + 10) [vR 5 0 0, vI v] M (.inl (some (vI 1))) M 0 := by
  obtain ⟨hS, hB, hP⟩ := id hG
  have h12 := hS.2.1
  have n0 : f 0 = nI (fN f) := hS.1
  have en : (nI (fN f)).toNatClampNeg = fN f := nI_clamp (by omega)
  have g0 : (0 : Int32) ≤ nI (fN f) := i_ge0 (by rw [nI_i (by omega)]; omega)
  have k1 := s_A_legs (d := d + 1) hC
  have k2 := s_A_errorEast (d := d + 1) hC
  have k3 := s_A_errorNorth (d := d + 1) hC
  have k4 := s_A_isClose (d := d + 1) hC
  have k5 := s_A_traverseLength (d := d + 1) hC
  have k6 : CT iA_adjustedEast (d + 9) [vR 5 0 0, vI (f 0)] M (.inl (some (vI (f 37)))) M 0 := by
    have := s_A_adjustedEast (d := d + 1) hC (x := f 0) ⟨by rw [n0]; exact g0, by rw [Int32.le_iff_toInt_le]; exact Int.le_refl _⟩
    rw [n0, en, adj_n hB h12 (by decide), ← n0] at this
    exact this
  have k7 : CT iA_adjustedEast (d + 9) [vR 5 0 0, vI 0] M (.inl (some (vI (f 37)))) M 0 := by
    have := s_A_adjustedEast (d := d + 1) hC (x := 0) ⟨by decide, by rw [n0]; exact g0⟩
    rw [tn0, adj_0] at this
    exact this
  have k8 : CT iA_adjustedNorth (d + 9) [vR 5 0 0, vI (f 0)] M (.inl (some (vI (f 38)))) M 0 := by
    have := s_A_adjustedNorth (d := d + 1) hC (x := f 0) ⟨by rw [n0]; exact g0, by rw [Int32.le_iff_toInt_le]; exact Int.le_refl _⟩
    rw [n0, en, adj_n hB h12 (by decide), ← n0] at this
    exact this
  have k9 : CT iA_adjustedNorth (d + 9) [vR 5 0 0, vI 0] M (.inl (some (vI (f 38)))) M 0 := by
    have := s_A_adjustedNorth (d := d + 1) hC (x := 0) ⟨by decide, by rw [n0]; exact g0⟩
    rw [tn0, adj_0] at this
    exact this
  have hcl := close_law hB h12
  have t112 := h_loop (d := d) (v := v) hC hG (fC f) 0 (by omega)
  have t48 : AW iL_holds (d + 10) 48 [some (vR 5 0 0), some (vI v), some (vI (f 0)), some (vI (bef f 0 (fN f))), some (vI (bef f 1 (fN f))), some (vL 0), none, some (vI (-1)), some (vI (iabs (bef f 0 (fN f)) + iabs (bef f 1 (fN f)))), none, none, none, none, none, none, none, none, none, none] [] M (.inl (some (vI 1))) M 0 := by
    by_cases hq : (200 : Int64) * (iabs (bef f 0 (fN f)) + iabs (bef f 1 (fN f))).toInt64 ≤ (bef f 2 (fN f)).toInt64
    · rw [hcl, decide_eq_true hq] at k4
      refine aw_aload_n k104_48 rfl ?_
      refine aw_callV0 k104_49 hC_L_holds ok_A_isClose sv_L_44 hH_A_isClose ⟨rfl, rfl⟩ (by decide) hN_A_isClose (by rw [hL_A_isClose]; exact Nat.le_of_ble_eq_true rfl) (Nat.le_of_ble_eq_true rfl) k4 ?_
      refine aw_ldc2_w k104_52 hC_L_holds cl_L_111 ?_
      refine aw_iload k104_55 rfl ?_
      refine aw_i2l k104_57 ?_
      refine aw_lmul k104_58 ?_
      refine aw_aload_n k104_59 rfl ?_
      refine aw_callV0 k104_60 hC_L_holds ok_A_traverseLength sv_L_30 hH_A_traverseLength ⟨rfl, rfl⟩ (by decide) hN_A_traverseLength (by rw [hL_A_traverseLength]; exact Nat.le_of_ble_eq_true rfl) (Nat.le_of_ble_eq_true rfl) k5 ?_
      refine aw_i2l k104_63 ?_
      refine aw_lcmp_gt 72 k104_64 k104_65 (by decide) (fun c_64 => ?_) (fun c_64 => ?_)
      · exact absurd hq (Int64.not_le.mpr c_64)
      · refine aw_iconst (v := 1) k104_68 (by decide) ?_
        refine aw_goto (t := 73) k104_69 (by decide) ?_
        refine aw_icmp_ne 106 k104_73 (by decide) (fun c_73 => ?_) (fun c_73 => ?_)
        · exact absurd rfl c_73
        · refine aw_aload_n k104_76 rfl ?_
          refine aw_iload_n k104_77 rfl ?_
          refine aw_callV1 k104_78 hC_L_holds ok_A_adjustedEast sv_L_40 hH_A_adjustedEast ⟨rfl, rfl⟩ (by decide) hN_A_adjustedEast (by rw [hL_A_adjustedEast]; exact Nat.le_of_ble_eq_true rfl) (Nat.le_of_ble_eq_true rfl) k6 ?_
          refine aw_aload_n k104_81 rfl ?_
          refine aw_iconst (v := 0) k104_82 (by decide) ?_
          refine aw_callV1 k104_83 hC_L_holds ok_A_adjustedEast sv_L_40 hH_A_adjustedEast ⟨rfl, rfl⟩ (by decide) hN_A_adjustedEast (by rw [hL_A_adjustedEast]; exact Nat.le_of_ble_eq_true rfl) (Nat.le_of_ble_eq_true rfl) k7 ?_
          refine aw_icmp_ne 106 k104_86 (by decide) (fun c_86 => ?_) (fun c_86 => ?_)
          · exact absurd rfl c_86
          · refine aw_aload_n k104_89 rfl ?_
            refine aw_iload_n k104_90 rfl ?_
            refine aw_callV1 k104_91 hC_L_holds ok_A_adjustedNorth sv_L_54 hH_A_adjustedNorth ⟨rfl, rfl⟩ (by decide) hN_A_adjustedNorth (by rw [hL_A_adjustedNorth]; exact Nat.le_of_ble_eq_true rfl) (Nat.le_of_ble_eq_true rfl) k8 ?_
            refine aw_aload_n k104_94 rfl ?_
            refine aw_iconst (v := 0) k104_95 (by decide) ?_
            refine aw_callV1 k104_96 hC_L_holds ok_A_adjustedNorth sv_L_54 hH_A_adjustedNorth ⟨rfl, rfl⟩ (by decide) hN_A_adjustedNorth (by rw [hL_A_adjustedNorth]; exact Nat.le_of_ble_eq_true rfl) (Nat.le_of_ble_eq_true rfl) k9 ?_
            refine aw_icmp_ne 106 k104_99 (by decide) (fun c_99 => ?_) (fun c_99 => ?_)
            · exact absurd rfl c_99
            · refine aw_iconst (v := 1) k104_102 (by decide) ?_
              refine aw_goto (t := 107) k104_103 (by decide) ?_
              refine aw_istore k104_107 (Nat.le_of_ble_eq_true rfl) (st1_9 (by rfl)) ?_
              refine aw_iconst (v := 0) k104_109 (by decide) ?_
              refine aw_istore k104_110 (Nat.le_of_ble_eq_true rfl) (st1_10 (by rfl)) ?_
              exact t112 _ _ _ _ _ _ _ _
    · rw [hcl, decide_eq_false hq] at k4
      refine aw_aload_n k104_48 rfl ?_
      refine aw_callV0 k104_49 hC_L_holds ok_A_isClose sv_L_44 hH_A_isClose ⟨rfl, rfl⟩ (by decide) hN_A_isClose (by rw [hL_A_isClose]; exact Nat.le_of_ble_eq_true rfl) (Nat.le_of_ble_eq_true rfl) k4 ?_
      refine aw_ldc2_w k104_52 hC_L_holds cl_L_111 ?_
      refine aw_iload k104_55 rfl ?_
      refine aw_i2l k104_57 ?_
      refine aw_lmul k104_58 ?_
      refine aw_aload_n k104_59 rfl ?_
      refine aw_callV0 k104_60 hC_L_holds ok_A_traverseLength sv_L_30 hH_A_traverseLength ⟨rfl, rfl⟩ (by decide) hN_A_traverseLength (by rw [hL_A_traverseLength]; exact Nat.le_of_ble_eq_true rfl) (Nat.le_of_ble_eq_true rfl) k5 ?_
      refine aw_i2l k104_63 ?_
      refine aw_lcmp_gt 72 k104_64 k104_65 (by decide) (fun c_64 => ?_) (fun c_64 => ?_)
      · refine aw_iconst (v := 0) k104_72 (by decide) ?_
        refine aw_icmp_ne 106 k104_73 (by decide) (fun c_73 => ?_) (fun c_73 => ?_)
        · exact absurd rfl c_73
        · refine aw_aload_n k104_76 rfl ?_
          refine aw_iload_n k104_77 rfl ?_
          refine aw_callV1 k104_78 hC_L_holds ok_A_adjustedEast sv_L_40 hH_A_adjustedEast ⟨rfl, rfl⟩ (by decide) hN_A_adjustedEast (by rw [hL_A_adjustedEast]; exact Nat.le_of_ble_eq_true rfl) (Nat.le_of_ble_eq_true rfl) k6 ?_
          refine aw_aload_n k104_81 rfl ?_
          refine aw_iconst (v := 0) k104_82 (by decide) ?_
          refine aw_callV1 k104_83 hC_L_holds ok_A_adjustedEast sv_L_40 hH_A_adjustedEast ⟨rfl, rfl⟩ (by decide) hN_A_adjustedEast (by rw [hL_A_adjustedEast]; exact Nat.le_of_ble_eq_true rfl) (Nat.le_of_ble_eq_true rfl) k7 ?_
          refine aw_icmp_ne 106 k104_86 (by decide) (fun c_86 => ?_) (fun c_86 => ?_)
          · exact absurd rfl c_86
          · refine aw_aload_n k104_89 rfl ?_
            refine aw_iload_n k104_90 rfl ?_
            refine aw_callV1 k104_91 hC_L_holds ok_A_adjustedNorth sv_L_54 hH_A_adjustedNorth ⟨rfl, rfl⟩ (by decide) hN_A_adjustedNorth (by rw [hL_A_adjustedNorth]; exact Nat.le_of_ble_eq_true rfl) (Nat.le_of_ble_eq_true rfl) k8 ?_
            refine aw_aload_n k104_94 rfl ?_
            refine aw_iconst (v := 0) k104_95 (by decide) ?_
            refine aw_callV1 k104_96 hC_L_holds ok_A_adjustedNorth sv_L_54 hH_A_adjustedNorth ⟨rfl, rfl⟩ (by decide) hN_A_adjustedNorth (by rw [hL_A_adjustedNorth]; exact Nat.le_of_ble_eq_true rfl) (Nat.le_of_ble_eq_true rfl) k9 ?_
            refine aw_icmp_ne 106 k104_99 (by decide) (fun c_99 => ?_) (fun c_99 => ?_)
            · exact absurd rfl c_99
            · refine aw_iconst (v := 1) k104_102 (by decide) ?_
              refine aw_goto (t := 107) k104_103 (by decide) ?_
              refine aw_istore k104_107 (Nat.le_of_ble_eq_true rfl) (st1_9 (by rfl)) ?_
              refine aw_iconst (v := 0) k104_109 (by decide) ?_
              refine aw_istore k104_110 (Nat.le_of_ble_eq_true rfl) (st1_10 (by rfl)) ?_
              exact t112 _ _ _ _ _ _ _ _
      · exact absurd (Int64.not_lt.mp c_64) hq
  have t45 : ∀ w, w = iabs (bef f 1 (fN f)) → AW iL_holds (d + 10) 45 [some (vR 5 0 0), some (vI v), some (vI (f 0)), some (vI (bef f 0 (fN f))), some (vI (bef f 1 (fN f))), some (vL 0), none, some (vI (-1)), none, none, none, none, none, none, none, none, none, none, none] [vI w, vI (iabs (bef f 0 (fN f)))] M (.inl (some (vI 1))) M 0 := by
    intro w e
    subst e
    refine aw_iadd k104_45 ?_
    refine aw_istore k104_46 (Nat.le_of_ble_eq_true rfl) (st1_8 (by rfl)) ?_
    exact t48
  have t32 : ∀ w, w = iabs (bef f 0 (fN f)) → AW iL_holds (d + 10) 32 [some (vR 5 0 0), some (vI v), some (vI (f 0)), some (vI (bef f 0 (fN f))), some (vI (bef f 1 (fN f))), some (vL 0), none, some (vI (-1)), none, none, none, none, none, none, none, none, none, none, none] [vI w] M (.inl (some (vI 1))) M 0 := by
    intro w e
    subst e
    refine aw_iload k104_32 rfl ?_
    refine aw_if_ge 43 k104_34 (by decide) (fun c_34 => ?_) (fun c_34 => ?_)
    · have w1 := iabs_p c_34
      refine aw_iload k104_43 rfl ?_
      exact t45 _ w1
    · have w1 := iabs_m c_34
      refine aw_iload k104_37 rfl ?_
      refine aw_ineg k104_39 ?_
      refine aw_goto (t := 45) k104_40 (by decide) ?_
      exact t45 _ w1
  refine ct_go hL_L_holds rfl ?_
  refine aw_aload_n k104_0 rfl ?_
  refine aw_callV0 k104_1 hC_L_holds ok_A_legs sv_L_15 hH_A_legs ⟨rfl, rfl⟩ (by decide) hN_A_legs (by rw [hL_A_legs]; exact Nat.le_of_ble_eq_true rfl) (Nat.le_of_ble_eq_true rfl) k1 ?_
  refine aw_istore_n k104_4 (Nat.le_of_ble_eq_true rfl) (st1_2 (by rfl)) ?_
  refine aw_aload_n k104_5 rfl ?_
  refine aw_callV0 k104_6 hC_L_holds ok_A_errorEast sv_L_33 hH_A_errorEast ⟨rfl, rfl⟩ (by decide) hN_A_errorEast (by rw [hL_A_errorEast]; exact Nat.le_of_ble_eq_true rfl) (Nat.le_of_ble_eq_true rfl) k2 ?_
  refine aw_istore_n k104_9 (Nat.le_of_ble_eq_true rfl) (st1_3 (by rfl)) ?_
  refine aw_aload_n k104_10 rfl ?_
  refine aw_callV0 k104_11 hC_L_holds ok_A_errorNorth sv_L_48 hH_A_errorNorth ⟨rfl, rfl⟩ (by decide) hN_A_errorNorth (by rw [hL_A_errorNorth]; exact Nat.le_of_ble_eq_true rfl) (Nat.le_of_ble_eq_true rfl) k3 ?_
  refine aw_istore k104_14 (Nat.le_of_ble_eq_true rfl) (st1_4 (by rfl)) ?_
  refine aw_lconst (v := 0) k104_16 (by decide) ?_
  refine aw_lstore k104_17 (Nat.le_of_ble_eq_true rfl) (st2_5 (by rfl)) ?_
  refine aw_iconst (v := (-1)) k104_19 (by decide) ?_
  refine aw_istore k104_20 (Nat.le_of_ble_eq_true rfl) (st1_7 (by rfl)) ?_
  refine aw_iload_n k104_22 rfl ?_
  refine aw_if_ge 31 k104_23 (by decide) (fun c_23 => ?_) (fun c_23 => ?_)
  · have w1 := iabs_p c_23
    refine aw_iload_n k104_31 rfl ?_
    exact t32 _ w1
  · have w1 := iabs_m c_23
    refine aw_iload_n k104_26 rfl ?_
    refine aw_ineg k104_27 ?_
    refine aw_goto (t := 32) k104_28 (by decide) ?_
    exact t32 _ w1
