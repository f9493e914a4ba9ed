/-! THE LAW, turn by turn -/
theorem hR_L_law : mR iL_law = some .boolean := by decide +kernel
def LSt (M : mM) : Prop := ∃ (f : Nat → Int32) (hs : List (Nat → Int32)) (sn : Option (Nat → Int32)) (t : Nat → Int32) (L : Nat), CR M f hs sn t L ∧ Ip f hs sn
def LG (d pc T i : Nat) (M : mM) : Prop := ∀ x5 x6 x7 x8 x9 x10 x11 : Option mAV, ∃ M3, AW iL_law (d + 11) pc [some (vR 15 0 0), some (vR 5 0 0), some (vI 1), some (vI (nI T)), some (vI (nI i)), x5, x6, x7, x8, x9, x10, x11] [] M (.inl (some (vI 1))) M3 0
theorem lg_252 {d T i : Nat} {M : mM} (h : LG d 51 T (i + 1) M) : LG d 252 T i M := by
  intro x5 x6 x7 x8 x9 x10 x11
  obtain ⟨M3, hA⟩ := h x5 x6 x7 x8 x9 x10 x11
  refine ⟨M3, ?_⟩
  refine aw_iinc (y := 1) k105_252 rfl (by decide) (st1_4 (by rfl)) ?_
  rw [nI_1 i]
  refine aw_goto (t := 51) k105_255 (by decide) ?_
  exact hA
set_option maxHeartbeats 4000000 in
theorem lg_turn {d T i LS : Nat} {M : mM} (hL : LS ≤ 260) (hT : T ≤ 26) (hi : i < T) (h : LSt M) (hM : M (16, 0, 0) 0 = nI LS) (hk : ∀ M', LSt M' → M' (16, 0, 0) 0 = nI LS → LG d 252 T i M') : LG d 51 T i M := by
  obtain ⟨f, hs, sn, t, L, hC, hI⟩ := h
  intro x5 x6 x7 x8 x9 x10 x11
  have e3 : (3 : Int32) * nI i = nI (3 * i) := by rw [show (3 : Int32) = nI 3 from rfl, nI_mul]
  obtain ⟨y0, hy0⟩ := c_cell (d := d + 10) (k := 3 * i) hM (by omega) (by omega)
  obtain ⟨y1, hy1⟩ := c_cell (d := d + 10) (k := 3 * i + 1) hM (by omega) (by omega)
  obtain ⟨y2, hy2⟩ := c_cell (d := d + 10) (k := 3 * i + 2) hM (by omega) (by omega)
  have z11 : (11 : Int32).toInt = 11 := rfl
  have rg := lowV_rng (v := y0) (n := 11) (by decide)
  rw [z11] at rg
  have hm := i_nat rg.1
  have hκ : (lowV y0 11).toInt.toNat ≤ 10 := by omega
  generalize (lowV y0 11).toInt.toNat = κ at hm hκ
  obtain ⟨M', f', hs', kC, hC', hI', hF', h5⟩ := c_change (d := d) (a := y1) (b := y2) hC hI hκ
  have hM' : M' (16, 0, 0) 0 = nI LS := by rw [hF' _ (Or.inr (by decide))]; exact hM
  obtain ⟨y3, hy3⟩ := c_cell (d := d + 10) (k := 3 * i + 2) hM' (by omega) (by omega)
  have kH := c_holds (d := d) (v := y3) hC' hI'.1
  have k1 := q_legs (d := d + 2) hC
  have k2 := q_fields (d := d + 2) hC
  have k3 := s_A_errorEast (d := d + 2) hC
  obtain ⟨k4, h4⟩ := q_rec (d := d + 2) hC
  obtain ⟨k5, h4'⟩ := q_rec (d := d + 2) hC'
  by_cases hU : κ < 7 ∧ nI i - nI i / 3 * 3 = 2 ∧ hs.length < hs'.length
  · obtain ⟨u1, u2, u3⟩ := hU
    have ehs : hs' = f :: hs := by
      rcases h5 u1 with ⟨-, e⟩ | e
      · rw [e] at u3; omega
      · rw [e] at u3 ⊢
        rw [List.length_take, List.length_cons] at u3
        exact List.take_of_length_le (by rw [List.length_cons]; omega)
    subst ehs
    have k6 := q_legs (d := d + 2) hC'
    obtain ⟨M4, kS, hC4, hF4⟩ := s_A_takeSnapshot (d := d + 2) hC'
    obtain ⟨M5, kU, hC5, hF5⟩ := s_A_undo (d := d + 2) hC4
    have k7 := q_legs (d := d + 2) hC5
    have k8 := q_fields (d := d + 2) hC5
    have k9 := s_A_errorEast (d := d + 2) hC5
    obtain ⟨M6, kR, hC6, hF6⟩ := s_A_restoreSnapshot (d := d + 2) (sn := none) hC5
    have k10 := q_legs (d := d + 2) hC6
    have hS6 : LSt M6 := ⟨_, _, _, _, _, hC6, hI'.1, fun g hg => hI'.2.1 g (List.mem_of_mem_take hg), fun g hg => by cases hg; exact hI'.1⟩
    have hM6 : M6 (16, 0, 0) 0 = nI LS := by
      have := (hF4.tr hF5).tr hF6 (16, 0, 0) (Or.inr (by decide))
      rw [this]
      exact hM'
    obtain ⟨M3, hA⟩ := hk M6 hS6 hM6 (some (vI (nI κ))) (some (vI (nI (fN f)))) (some (vI (nI (fC f)))) (some (vI (bef f 0 (fN f)))) (some (vI (nI hs.length))) (some (vI (nI (fN f')))) (some (vI (f' 39)))
    refine ⟨M3, ?_⟩
    refine aw_iload k105_51 rfl ?_
    refine aw_iload_n k105_53 rfl ?_
    refine aw_icmp_ge 258 k105_54 (by decide) (fun c_54 => ?_) (fun c_54 => ?_)
    · exact absurd (nI_le_of c_54) (by omega)
    · refine aw_iload_n k105_57 rfl ?_
      refine aw_if_eq 258 k105_58 (by decide) (fun c_58 => ?_) (fun c_58 => ?_)
      · exact absurd (show (1 : Int32) = 0 from c_58) (by decide)
      · refine aw_aload_n k105_61 rfl ?_
        refine aw_iconst (v := 3) k105_62 (by decide) ?_
        refine aw_iload k105_63 rfl ?_
        refine aw_imul k105_65 ?_
        rw [e3]
        refine aw_callS2 k105_66 hC_L_law ok_L_cell ss_L_148 hH_L_cell (by rw [hL_L_cell]; exact Nat.le_of_ble_eq_true rfl) (Nat.le_of_ble_eq_true rfl) hy0 ?_
        refine aw_bipush (v := 11) k105_69 (by decide) ?_
        refine aw_callS2 k105_71 hC_L_law ok_L_low ss_L_9 hH_L_low (by rw [hL_L_low]; exact Nat.le_of_ble_eq_true rfl) (Nat.le_of_ble_eq_true rfl) (c_low (by decide)) ?_
        rw [hm]
        refine aw_istore k105_74 (Nat.le_of_ble_eq_true rfl) (st1_5 (by rfl)) ?_
        refine aw_aload_n k105_76 rfl ?_
        refine aw_callV0 k105_77 hC_L_law ok_A_legs sv_L_15 hH_A_legs ⟨rfl, rfl⟩ (by decide) hN_A_legs (by rw [hL_A_legs]; exact Nat.le_of_ble_eq_true rfl) (Nat.le_of_ble_eq_true rfl) k1 ?_
        refine aw_istore k105_80 (Nat.le_of_ble_eq_true rfl) (st1_6 (by rfl)) ?_
        refine aw_aload_n k105_82 rfl ?_
        refine aw_callV0 k105_83 hC_L_law ok_A_fields sv_L_21 hH_A_fields ⟨rfl, rfl⟩ (by decide) hN_A_fields (by rw [hL_A_fields]; exact Nat.le_of_ble_eq_true rfl) (Nat.le_of_ble_eq_true rfl) k2 ?_
        refine aw_istore k105_86 (Nat.le_of_ble_eq_true rfl) (st1_7 (by rfl)) ?_
        refine aw_aload_n k105_88 rfl ?_
        refine aw_callV0 k105_89 hC_L_law ok_A_errorEast sv_L_33 hH_A_errorEast ⟨rfl, rfl⟩ (by decide) hN_A_errorEast (by rw [hL_A_errorEast]; exact Nat.le_of_ble_eq_true rfl) (Nat.le_of_ble_eq_true rfl) k3 ?_
        refine aw_istore k105_92 (Nat.le_of_ble_eq_true rfl) (st1_8 (by rfl)) ?_
        refine aw_aload_n k105_94 rfl ?_
        refine aw_callV0 k105_95 hC_L_law ok_A_recordedStates sv_L_24 hH_A_recordedStates ⟨rfl, rfl⟩ (by decide) hN_A_recordedStates (by rw [hL_A_recordedStates]; exact Nat.le_of_ble_eq_true rfl) (Nat.le_of_ble_eq_true rfl) k4 ?_
        refine aw_istore k105_98 (Nat.le_of_ble_eq_true rfl) (st1_9 (by rfl)) ?_
        refine aw_aload_n k105_100 rfl ?_
        refine aw_iload k105_101 rfl ?_
        refine aw_aload_n k105_103 rfl ?_
        refine aw_iconst (v := 3) k105_104 (by decide) ?_
        refine aw_iload k105_105 rfl ?_
        refine aw_imul k105_107 ?_
        rw [e3]
        refine aw_iconst (v := 1) k105_108 (by decide) ?_
        refine aw_iadd k105_109 ?_
        rw [nI_1 (3 * i)]
        refine aw_callS2 k105_110 hC_L_law ok_L_cell ss_L_148 hH_L_cell (by rw [hL_L_cell]; exact Nat.le_of_ble_eq_true rfl) (Nat.le_of_ble_eq_true rfl) hy1 ?_
        refine aw_aload_n k105_113 rfl ?_
        refine aw_iconst (v := 3) k105_114 (by decide) ?_
        refine aw_iload k105_115 rfl ?_
        refine aw_imul k105_117 ?_
        rw [e3]
        refine aw_iconst (v := 2) k105_118 (by decide) ?_
        refine aw_iadd k105_119 ?_
        rw [nI_2 (3 * i)]
        refine aw_callS2 k105_120 hC_L_law ok_L_cell ss_L_148 hH_L_cell (by rw [hL_L_cell]; exact Nat.le_of_ble_eq_true rfl) (Nat.le_of_ble_eq_true rfl) hy2 ?_
        refine aw_callS4 k105_123 hC_L_law ok_L_change ss_L_152 hH_L_change (by rw [hL_L_change]; exact Nat.le_of_ble_eq_true rfl) (Nat.le_of_ble_eq_true rfl) kC ?_
        refine aw_if_eq 150 k105_126 (by decide) (fun c_126 => ?_) (fun c_126 => ?_)
        · exact absurd (show (1 : Int32) = 0 from c_126) (by decide)
        · refine aw_aload_n k105_129 rfl ?_
          refine aw_aload_n k105_130 rfl ?_
          refine aw_iconst (v := 3) k105_131 (by decide) ?_
          refine aw_iload k105_132 rfl ?_
          refine aw_imul k105_134 ?_
          rw [e3]
          refine aw_iconst (v := 2) k105_135 (by decide) ?_
          refine aw_iadd k105_136 ?_
          rw [nI_2 (3 * i)]
          refine aw_callS2 k105_137 hC_L_law ok_L_cell ss_L_148 hH_L_cell (by rw [hL_L_cell]; exact Nat.le_of_ble_eq_true rfl) (Nat.le_of_ble_eq_true rfl) hy3 ?_
          refine aw_callS2 k105_140 hC_L_law ok_L_holds ss_L_144 hH_L_holds (by rw [hL_L_holds]; exact Nat.le_of_ble_eq_true rfl) (Nat.le_of_ble_eq_true rfl) kH ?_
          refine aw_if_eq 150 k105_143 (by decide) (fun c_143 => ?_) (fun c_143 => ?_)
          · exact absurd (show (1 : Int32) = 0 from c_143) (by decide)
          · refine aw_iconst (v := 1) k105_146 (by decide) ?_
            refine aw_goto (t := 151) k105_147 (by decide) ?_
            refine aw_istore_n k105_151 (Nat.le_of_ble_eq_true rfl) (st1_2 (by rfl)) ?_
            refine aw_iload_n k105_152 rfl ?_
            refine aw_if_eq 252 k105_153 (by decide) (fun c_153 => ?_) (fun c_153 => ?_)
            · exact absurd (show (1 : Int32) = 0 from c_153) (by decide)
            · refine aw_iload k105_156 rfl ?_
              refine aw_bipush (v := 7) k105_158 (by decide) ?_
              refine aw_icmp_ge 252 k105_160 (by decide) (fun c_160 => ?_) (fun c_160 => ?_)
              · exact absurd (nI_le_of (a := 7) c_160) (by omega)
              · refine aw_iload k105_163 rfl ?_
                refine aw_iconst (v := 3) k105_165 (by decide) ?_
                refine aw_irem k105_166 (by decide) ?_
                refine aw_iconst (v := 2) k105_167 (by decide) ?_
                refine aw_icmp_ne 252 k105_168 (by decide) (fun c_168 => ?_) (fun c_168 => ?_)
                · exact absurd u2 c_168
                · refine aw_aload_n k105_171 rfl ?_
                  refine aw_callV0 k105_172 hC_L_law ok_A_recordedStates sv_L_24 hH_A_recordedStates ⟨rfl, rfl⟩ (by decide) hN_A_recordedStates (by rw [hL_A_recordedStates]; exact Nat.le_of_ble_eq_true rfl) (Nat.le_of_ble_eq_true rfl) k5 ?_
                  refine aw_iload k105_175 rfl ?_
                  refine aw_icmp_le 252 k105_177 (by decide) (fun c_177 => ?_) (fun c_177 => ?_)
                  · exact absurd (nI_le_of c_177) (by omega)
                  · refine aw_aload_n k105_180 rfl ?_
                    refine aw_callV0 k105_181 hC_L_law ok_A_legs sv_L_15 hH_A_legs ⟨rfl, rfl⟩ (by decide) hN_A_legs (by rw [hL_A_legs]; exact Nat.le_of_ble_eq_true rfl) (Nat.le_of_ble_eq_true rfl) k6 ?_
                    refine aw_istore k105_184 (Nat.le_of_ble_eq_true rfl) (st1_10 (by rfl)) ?_
                    refine aw_aload_n k105_186 rfl ?_
                    refine aw_callV0 k105_187 hC_L_law ok_A_takeSnapshot sv_L_156 hH_A_takeSnapshot ⟨rfl, rfl⟩ (by decide) hN_A_takeSnapshot (by rw [hL_A_takeSnapshot]; exact Nat.le_of_ble_eq_true rfl) (Nat.le_of_ble_eq_true rfl) kS ?_
                    refine aw_istore k105_190 (Nat.le_of_ble_eq_true rfl) (st1_11 (by rfl)) ?_
                    refine aw_aload_n k105_192 rfl ?_
                    refine aw_callV0 k105_193 hC_L_law ok_A_undo sv_L_159 hH_A_undo ⟨rfl, rfl⟩ (by decide) hN_A_undo (by rw [hL_A_undo]; exact Nat.le_of_ble_eq_true rfl) (Nat.le_of_ble_eq_true rfl) kU ?_
                    refine aw_iload k105_196 rfl ?_
                    refine aw_icmp_ne 250 k105_198 (by decide) (fun c_198 => ?_) (fun c_198 => ?_)
                    · exact absurd rfl c_198
                    · refine aw_aload_n k105_201 rfl ?_
                      refine aw_callV0 k105_202 hC_L_law ok_A_legs sv_L_15 hH_A_legs ⟨rfl, rfl⟩ (by decide) hN_A_legs (by rw [hL_A_legs]; exact Nat.le_of_ble_eq_true rfl) (Nat.le_of_ble_eq_true rfl) k7 ?_
                      refine aw_iload k105_205 rfl ?_
                      refine aw_icmp_ne 250 k105_207 (by decide) (fun c_207 => ?_) (fun c_207 => ?_)
                      · exact absurd rfl c_207
                      · refine aw_aload_n k105_210 rfl ?_
                        refine aw_callV0 k105_211 hC_L_law ok_A_fields sv_L_21 hH_A_fields ⟨rfl, rfl⟩ (by decide) hN_A_fields (by rw [hL_A_fields]; exact Nat.le_of_ble_eq_true rfl) (Nat.le_of_ble_eq_true rfl) k8 ?_
                        refine aw_iload k105_214 rfl ?_
                        refine aw_icmp_ne 250 k105_216 (by decide) (fun c_216 => ?_) (fun c_216 => ?_)
                        · exact absurd rfl c_216
                        · refine aw_aload_n k105_219 rfl ?_
                          refine aw_callV0 k105_220 hC_L_law ok_A_errorEast sv_L_33 hH_A_errorEast ⟨rfl, rfl⟩ (by decide) hN_A_errorEast (by rw [hL_A_errorEast]; exact Nat.le_of_ble_eq_true rfl) (Nat.le_of_ble_eq_true rfl) k9 ?_
                          refine aw_iload k105_223 rfl ?_
                          refine aw_icmp_ne 250 k105_225 (by decide) (fun c_225 => ?_) (fun c_225 => ?_)
                          · exact absurd rfl c_225
                          · refine aw_aload_n k105_228 rfl ?_
                            refine aw_callV0 k105_229 hC_L_law ok_A_restoreSnapshot sv_L_162 hH_A_restoreSnapshot ⟨rfl, rfl⟩ (by decide) hN_A_restoreSnapshot (by rw [hL_A_restoreSnapshot]; exact Nat.le_of_ble_eq_true rfl) (Nat.le_of_ble_eq_true rfl) kR ?_
                            refine aw_iload k105_232 rfl ?_
                            refine aw_icmp_ne 250 k105_234 (by decide) (fun c_234 => ?_) (fun c_234 => ?_)
                            · exact absurd rfl c_234
                            · refine aw_aload_n k105_237 rfl ?_
                              refine aw_callV0 k105_238 hC_L_law ok_A_legs sv_L_15 hH_A_legs ⟨rfl, rfl⟩ (by decide) hN_A_legs (by rw [hL_A_legs]; exact Nat.le_of_ble_eq_true rfl) (Nat.le_of_ble_eq_true rfl) k10 ?_
                              refine aw_iload k105_241 rfl ?_
                              refine aw_icmp_ne 250 k105_243 (by decide) (fun c_243 => ?_) (fun c_243 => ?_)
                              · exact absurd rfl c_243
                              · refine aw_iconst (v := 1) k105_246 (by decide) ?_
                                refine aw_goto (t := 251) k105_247 (by decide) ?_
                                refine aw_istore_n k105_251 (Nat.le_of_ble_eq_true rfl) (st1_2 (by rfl)) ?_
                                exact hA
  · obtain ⟨M3, hA⟩ := hk M' ⟨_, _, _, _, _, hC', hI'⟩ hM' (some (vI (nI κ))) (some (vI (nI (fN f)))) (some (vI (nI (fC f)))) (some (vI (bef f 0 (fN f)))) (some (vI (nI hs.length))) x10 x11
    refine ⟨M3, ?_⟩
    refine aw_iload k105_51 rfl ?_
    refine aw_iload_n k105_53 rfl ?_
    refine aw_icmp_ge 258 k105_54 (by decide) (fun c_54 => ?_) (fun c_54 => ?_)
    · exact absurd (nI_le_of c_54) (by omega)
    · refine aw_iload_n k105_57 rfl ?_
      refine aw_if_eq 258 k105_58 (by decide) (fun c_58 => ?_) (fun c_58 => ?_)
      · exact absurd (show (1 : Int32) = 0 from c_58) (by decide)
      · refine aw_aload_n k105_61 rfl ?_
        refine aw_iconst (v := 3) k105_62 (by decide) ?_
        refine aw_iload k105_63 rfl ?_
        refine aw_imul k105_65 ?_
        rw [e3]
        refine aw_callS2 k105_66 hC_L_law ok_L_cell ss_L_148 hH_L_cell (by rw [hL_L_cell]; exact Nat.le_of_ble_eq_true rfl) (Nat.le_of_ble_eq_true rfl) hy0 ?_
        refine aw_bipush (v := 11) k105_69 (by decide) ?_
        refine aw_callS2 k105_71 hC_L_law ok_L_low ss_L_9 hH_L_low (by rw [hL_L_low]; exact Nat.le_of_ble_eq_true rfl) (Nat.le_of_ble_eq_true rfl) (c_low (by decide)) ?_
        rw [hm]
        refine aw_istore k105_74 (Nat.le_of_ble_eq_true rfl) (st1_5 (by rfl)) ?_
        refine aw_aload_n k105_76 rfl ?_
        refine aw_callV0 k105_77 hC_L_law ok_A_legs sv_L_15 hH_A_legs ⟨rfl, rfl⟩ (by decide) hN_A_legs (by rw [hL_A_legs]; exact Nat.le_of_ble_eq_true rfl) (Nat.le_of_ble_eq_true rfl) k1 ?_
        refine aw_istore k105_80 (Nat.le_of_ble_eq_true rfl) (st1_6 (by rfl)) ?_
        refine aw_aload_n k105_82 rfl ?_
        refine aw_callV0 k105_83 hC_L_law ok_A_fields sv_L_21 hH_A_fields ⟨rfl, rfl⟩ (by decide) hN_A_fields (by rw [hL_A_fields]; exact Nat.le_of_ble_eq_true rfl) (Nat.le_of_ble_eq_true rfl) k2 ?_
        refine aw_istore k105_86 (Nat.le_of_ble_eq_true rfl) (st1_7 (by rfl)) ?_
        refine aw_aload_n k105_88 rfl ?_
        refine aw_callV0 k105_89 hC_L_law ok_A_errorEast sv_L_33 hH_A_errorEast ⟨rfl, rfl⟩ (by decide) hN_A_errorEast (by rw [hL_A_errorEast]; exact Nat.le_of_ble_eq_true rfl) (Nat.le_of_ble_eq_true rfl) k3 ?_
        refine aw_istore k105_92 (Nat.le_of_ble_eq_true rfl) (st1_8 (by rfl)) ?_
        refine aw_aload_n k105_94 rfl ?_
        refine aw_callV0 k105_95 hC_L_law ok_A_recordedStates sv_L_24 hH_A_recordedStates ⟨rfl, rfl⟩ (by decide) hN_A_recordedStates (by rw [hL_A_recordedStates]; exact Nat.le_of_ble_eq_true rfl) (Nat.le_of_ble_eq_true rfl) k4 ?_
        refine aw_istore k105_98 (Nat.le_of_ble_eq_true rfl) (st1_9 (by rfl)) ?_
        refine aw_aload_n k105_100 rfl ?_
        refine aw_iload k105_101 rfl ?_
        refine aw_aload_n k105_103 rfl ?_
        refine aw_iconst (v := 3) k105_104 (by decide) ?_
        refine aw_iload k105_105 rfl ?_
        refine aw_imul k105_107 ?_
        rw [e3]
        refine aw_iconst (v := 1) k105_108 (by decide) ?_
        refine aw_iadd k105_109 ?_
        rw [nI_1 (3 * i)]
        refine aw_callS2 k105_110 hC_L_law ok_L_cell ss_L_148 hH_L_cell (by rw [hL_L_cell]; exact Nat.le_of_ble_eq_true rfl) (Nat.le_of_ble_eq_true rfl) hy1 ?_
        refine aw_aload_n k105_113 rfl ?_
        refine aw_iconst (v := 3) k105_114 (by decide) ?_
        refine aw_iload k105_115 rfl ?_
        refine aw_imul k105_117 ?_
        rw [e3]
        refine aw_iconst (v := 2) k105_118 (by decide) ?_
        refine aw_iadd k105_119 ?_
        rw [nI_2 (3 * i)]
        refine aw_callS2 k105_120 hC_L_law ok_L_cell ss_L_148 hH_L_cell (by rw [hL_L_cell]; exact Nat.le_of_ble_eq_true rfl) (Nat.le_of_ble_eq_true rfl) hy2 ?_
        refine aw_callS4 k105_123 hC_L_law ok_L_change ss_L_152 hH_L_change (by rw [hL_L_change]; exact Nat.le_of_ble_eq_true rfl) (Nat.le_of_ble_eq_true rfl) kC ?_
        refine aw_if_eq 150 k105_126 (by decide) (fun c_126 => ?_) (fun c_126 => ?_)
        · exact absurd (show (1 : Int32) = 0 from c_126) (by decide)
        · refine aw_aload_n k105_129 rfl ?_
          refine aw_aload_n k105_130 rfl ?_
          refine aw_iconst (v := 3) k105_131 (by decide) ?_
          refine aw_iload k105_132 rfl ?_
          refine aw_imul k105_134 ?_
          rw [e3]
          refine aw_iconst (v := 2) k105_135 (by decide) ?_
          refine aw_iadd k105_136 ?_
          rw [nI_2 (3 * i)]
          refine aw_callS2 k105_137 hC_L_law ok_L_cell ss_L_148 hH_L_cell (by rw [hL_L_cell]; exact Nat.le_of_ble_eq_true rfl) (Nat.le_of_ble_eq_true rfl) hy3 ?_
          refine aw_callS2 k105_140 hC_L_law ok_L_holds ss_L_144 hH_L_holds (by rw [hL_L_holds]; exact Nat.le_of_ble_eq_true rfl) (Nat.le_of_ble_eq_true rfl) kH ?_
          refine aw_if_eq 150 k105_143 (by decide) (fun c_143 => ?_) (fun c_143 => ?_)
          · exact absurd (show (1 : Int32) = 0 from c_143) (by decide)
          · refine aw_iconst (v := 1) k105_146 (by decide) ?_
            refine aw_goto (t := 151) k105_147 (by decide) ?_
            refine aw_istore_n k105_151 (Nat.le_of_ble_eq_true rfl) (st1_2 (by rfl)) ?_
            refine aw_iload_n k105_152 rfl ?_
            refine aw_if_eq 252 k105_153 (by decide) (fun c_153 => ?_) (fun c_153 => ?_)
            · exact absurd (show (1 : Int32) = 0 from c_153) (by decide)
            · refine aw_iload k105_156 rfl ?_
              refine aw_bipush (v := 7) k105_158 (by decide) ?_
              refine aw_icmp_ge 252 k105_160 (by decide) (fun c_160 => ?_) (fun c_160 => ?_)
              · exact hA
              · refine aw_iload k105_163 rfl ?_
                refine aw_iconst (v := 3) k105_165 (by decide) ?_
                refine aw_irem k105_166 (by decide) ?_
                refine aw_iconst (v := 2) k105_167 (by decide) ?_
                refine aw_icmp_ne 252 k105_168 (by decide) (fun c_168 => ?_) (fun c_168 => ?_)
                · exact hA
                · refine aw_aload_n k105_171 rfl ?_
                  refine aw_callV0 k105_172 hC_L_law ok_A_recordedStates sv_L_24 hH_A_recordedStates ⟨rfl, rfl⟩ (by decide) hN_A_recordedStates (by rw [hL_A_recordedStates]; exact Nat.le_of_ble_eq_true rfl) (Nat.le_of_ble_eq_true rfl) k5 ?_
                  refine aw_iload k105_175 rfl ?_
                  refine aw_icmp_le 252 k105_177 (by decide) (fun c_177 => ?_) (fun c_177 => ?_)
                  · exact hA
                  · exact absurd ⟨nI_nle_of (a := 7) c_160, c_168, nI_nle_of c_177⟩ hU
theorem lg_loop {d T LS : Nat} (hL : LS ≤ 260) (hT : T ≤ 26) : ∀ (m i : Nat) (M : mM), i + m = T → LSt M → M (16, 0, 0) 0 = nI LS → LG d 51 T i M := by
  intro m
  induction m with
  | zero =>
    intro i M hi hS hM
    obtain rfl : i = T := by omega
    intro x5 x6 x7 x8 x9 x10 x11
    refine ⟨M, ?_⟩
    refine aw_iload k105_51 rfl ?_
    refine aw_iload_n k105_53 rfl ?_
    refine aw_icmp_ge 258 k105_54 (by decide) (fun c_54 => ?_) (fun c_54 => ?_)
    · refine aw_iload_n k105_258 rfl ?_
      refine aw_zreturn k105_259 hR_L_law ?_ ?_ ?_
      · exact Or.inr rfl
      · rfl
      · rfl
    · exact absurd (nI_leI (by omega) (by omega) |>.mpr (Nat.le_refl _)) c_54
  | succ m ih =>
    intro i M hi hS hM
    exact lg_turn hL hT (by omega) hS hM (fun M' hS' hM' => lg_252 (ih (i + 1) M' (by omega) hS' hM'))
theorem lg_div {LS : Nat} (h : LS ≤ 260) : nI LS / 3 = nI (LS / 3) := by
  have z : (3 : Int32).toInt = 3 := rfl
  refine i_eq ?_
  rw [i_div (by decide) (by rw [nI_i (by omega)]; omega), nI_i (by omega), nI_i (by omega), z]
  omega
/-- the law behind the making of the office -/
theorem lg_main {d LS L : Nat} {M : mM} {f t : Nat → Int32} {sn : Option (Nat → Int32)} (hL : LS ≤ 260) (hC : CR M f [] sn t L) (hI : Ip f [] sn) (hM : M (16, 0, 0) 0 = nI LS) : ∃ M3, AW iL_law (d + 11) 8 [some (vR 15 0 0), some (vR 5 0 0), none, none, none, none, none, none, none, none, none, none] [] M (.inl (some (vI 1))) M3 0 := by
  have e := lg_div hL
  obtain ⟨T, hT, w1, w2⟩ : ∃ T : Nat, T ≤ 26 ∧ (¬ nI (LS / 3) ≤ 26 → (26 : Int32) = nI T) ∧ (nI (LS / 3) ≤ 26 → nI LS / 3 = nI T) := by
    by_cases h : LS / 3 ≤ 26
    · exact ⟨LS / 3, h, fun q => absurd ((nI_leI (b := 26) (by omega) (by omega)).mpr h) q, fun _ => e⟩
    · exact ⟨26, Nat.le_refl _, fun _ => rfl, fun q => absurd (nI_le_of (b := 26) q) h⟩
  obtain ⟨M3, hA⟩ := lg_loop (d := d) (T := T) hL hT T 0 M (by omega) ⟨_, _, _, _, _, hC, hI⟩ hM none none none none none none none
  refine ⟨M3, ?_⟩
  have kH := c_holds (d := d) (v := 5) hC hI.1
  have k1 := (q_rec (d := d + 2) hC).1
  have t47 : ∀ w, w = nI T → AW iL_law (d + 11) 47 [some (vR 15 0 0), some (vR 5 0 0), some (vI 1), none, none, none, none, none, none, none, none, none] [vI w] M (.inl (some (vI 1))) M3 0 := by
    intro w e
    subst e
    refine aw_istore_n k105_47 (Nat.le_of_ble_eq_true rfl) (st1_3 (by rfl)) ?_
    refine aw_iconst (v := 0) k105_48 (by decide) ?_
    refine aw_istore k105_49 (Nat.le_of_ble_eq_true rfl) (st1_4 (by rfl)) ?_
    exact hA
  refine aw_aload_n k105_8 rfl ?_
  refine aw_iconst (v := 5) k105_9 (by decide) ?_
  refine aw_callS2 k105_10 hC_L_law ok_L_holds ss_L_144 hH_L_holds (by rw [hL_L_holds]; exact Nat.le_of_ble_eq_true rfl) (Nat.le_of_ble_eq_true rfl) kH ?_
  refine aw_if_eq 27 k105_13 (by decide) (fun c_13 => ?_) (fun c_13 => ?_)
  · exact absurd (show (1 : Int32) = 0 from c_13) (by decide)
  · refine aw_aload_n k105_16 rfl ?_
    refine aw_callV0 k105_17 hC_L_law ok_A_recordedStates sv_L_24 hH_A_recordedStates ⟨rfl, rfl⟩ (by decide) hN_A_recordedStates (by rw [hL_A_recordedStates]; exact Nat.le_of_ble_eq_true rfl) (Nat.le_of_ble_eq_true rfl) k1 ?_
    refine aw_if_ne 27 k105_20 (by decide) (fun c_20 => ?_) (fun c_20 => ?_)
    · exact absurd rfl c_20
    · refine aw_iconst (v := 1) k105_23 (by decide) ?_
      refine aw_goto (t := 28) k105_24 (by decide) ?_
      refine aw_istore_n k105_28 (Nat.le_of_ble_eq_true rfl) (st1_2 (by rfl)) ?_
      refine aw_aload_n k105_29 rfl ?_
      refine aw_slen k105_30 ?_
      try simp only [hM]
      refine aw_iconst (v := 3) k105_31 (by decide) ?_
      refine aw_idiv k105_32 (by decide) ?_
      rw [e]
      refine aw_bipush (v := 26) k105_33 (by decide) ?_
      refine aw_icmp_le 43 k105_35 (by decide) (fun c_35 => ?_) (fun c_35 => ?_)
      · have w := w2 c_35
        refine aw_aload_n k105_43 rfl ?_
        refine aw_slen k105_44 ?_
        try simp only [hM]
        refine aw_iconst (v := 3) k105_45 (by decide) ?_
        refine aw_idiv k105_46 (by decide) ?_
        exact t47 _ w
      · have w := w1 c_35
        refine aw_bipush (v := 26) k105_38 (by decide) ?_
        refine aw_goto (t := 47) k105_40 (by decide) ?_
        exact t47 _ w
