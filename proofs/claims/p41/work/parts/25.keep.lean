/-! THE STATE'S OWN ACTIONS -/
theorem zF_eq (n : Nat) (h : n = 0) : nI n = 0 := by subst h; rfl
def Kp (M M1 : mM) (s c : Nat) : Prop := ∀ r, r ≠ (0, s, c) → r ≠ (8, s, c) → r ≠ (9, s, c) → M1 r = M r
theorem Kp.fr {M M1 : mM} {s c : Nat} (h : Kp M M1 s c) : Fr s M M1 := fun r hn => h r (fun q => hn (by rw [q]; exact ⟨rfl, by simp⟩)) (fun q => hn (by rw [q]; exact ⟨rfl, by simp⟩)) (fun q => hn (by rw [q]; exact ⟨rfl, by simp⟩))
theorem Kp.rel {M M1 : mM} {s : Nat} {f : Nat → Int32} (h : Kp M M1 s (fC f)) (hR : RelS M s f) : RelS M1 s f := by
  have hC := hR.c
  obtain ⟨hs, ⟨n, h1, h2, h3, h4, h5, h6⟩, -⟩ := hR
  obtain ⟨g1, g2, g3, g4⟩ := hC
  refine ⟨hs, ⟨n, h1, h2, by rw [h _ (by simp) (by simp) (by simp)]; exact h3, by rw [h _ (by simp) (by simp) (by simp)]; exact h4, by rw [h _ (by simp) (by simp) (by simp)]; exact h5, fun w hw j hj => by rw [h _ (by simp) (by simp) (by simp)]; exact h6 w hw j hj⟩, fC f, g1, g2, by rw [h _ (by simp) (by simp) (by simp)]; exact g3, fun i hi => ?_⟩
  have hi' : ¬ i = fC f := by omega
  obtain ⟨m, hm⟩ := g4 i hi
  exact ⟨m, hm.congr (fun k _ => rfl) (h _ (by simp [hi']) (by simp) (by simp)) (h _ (by simp) (by simp [hi']) (by simp)) (h _ (by simp) (by simp) (by simp [hi']))⟩
theorem fApp_kp {M M1 : mM} {s c m : Nat} {x y : Int32} (h : Kp M M1 s c) : Kp M (fApp M1 s c m x y) s c := fun r h0 h8 h9 => by
  unfold fApp
  rw [mUp_ne h0, mUp_ne h9, mUp_ne h8]
  exact h r h0 h8 h9
def Bd (M : mM) (s c : Nat) (f : Nat → Int32) (n i : Nat) : Prop := M (0, s, c) 2 = nI i ∧ ∀ k, k < i → M (8, s, c) k = adjF f n k 0 ∧ M (9, s, c) k = adjF f n k 1
theorem fApp_bd {M : mM} {s c n i : Nat} {f : Nat → Int32} (h : Bd M s c f n i) : Bd (fApp M s c i (adjF f n i 0) (adjF f n i 1)) s c f n (i + 1) := by
  refine ⟨by simp [fApp, mUp_at], fun k hk => ?_⟩
  by_cases e : k = i
  · subst e
    exact ⟨by simp [fApp, mUp_at], by simp [fApp, mUp_at]⟩
  · have := h.2 k (by omega)
    exact ⟨by rw [← this.1]; simp [fApp, mUp_at, e], by rw [← this.2]; simp [fApp, mUp_at, e]⟩
theorem Bd.tw {M : mM} {s c n : Nat} {f : Nat → Int32} (h : Bd M s c f n n) : twC M s c n = twB (adB f n) n := by
  refine twC_eq (fun k hk => ?_)
  have := h.2 k hk
  refine ⟨this.1.trans ?_, this.2.trans ?_⟩
  · unfold adB
    rw [if_neg (by omega), if_pos (by omega), show (1 + 2 * k - 1) / 2 = k by omega]
  · unfold adB
    rw [if_neg (by omega), if_neg (by omega), show (2 + 2 * k - 2) / 2 = k by omega]
theorem keep_rel {M M1 : mM} {s : Nat} {f : Nat → Int32} (hR : RelS M s f) (h3n : 3 ≤ fN f) (h6c : fC f < 6) (hk : Kp M M1 s (fC f)) (hb : Bd M1 s (fC f) f (fN f) (fN f)) : RelS (mUp (mUp M1 (3, s, 0) 2 (nI (fC f + 1))) (4, s, 0) 5 0) s (fKeep f) ∧ Fr s M (mUp (mUp M1 (3, s, 0) 2 (nI (fC f + 1))) (4, s, 0) 5 0) := by
  have hR1 := hk.rel hR
  have hT := hR1.n
  have hC := hR1.c
  obtain ⟨hs, -⟩ := hR1
  generalize hn : fN f = n at hT hb h3n
  generalize hc : fC f = c at hC hb h6c hk
  obtain ⟨h1, h2, h3, h4, h5, h6⟩ := hT
  obtain ⟨g1, g2, g3, g4⟩ := hC
  have hlo : ∀ j, 36 < j → j < 39 → fKeep f j = f j := fun j a b => by
    unfold fKeep
    rw [hn, hc, if_neg (by omega), if_neg (by omega), if_neg (by omega), if_neg (by omega)]
  have hbl : ∀ i, i < c → ∀ k, k < 25 → blk (fKeep f) i k = blk f i k := fun i hi k hk => by
    unfold blk fKeep
    rw [hn, hc, if_neg (by omega), if_neg (by omega), if_neg (by omega), if_neg (by omega)]
  have hbc : ∀ k, k ≤ 2 * n → blk (fKeep f) c k = adB f n k := fun k hk => by
    unfold blk fKeep
    rw [hn, hc, if_neg (by omega), if_neg (by omega), if_neg (by omega), if_pos (by omega), show 40 + 25 * c + k - (40 + 25 * c) = k by omega]
  have e9 : ∀ r q, r ≠ (3, s, 0) → r ≠ (4, s, 0) → mUp (mUp M1 (3, s, 0) 2 (nI (c + 1))) (4, s, 0) 5 0 r q = M1 r q := fun r q a b => by rw [mUp_ne b, mUp_ne a]
  refine ⟨⟨hs, ⟨0, rfl, by omega, ?_, ?_, ?_, fun w hw j hj => ?_⟩, c + 1, ?_, by omega, ?_, fun i hi => ?_⟩, ?_⟩
  · simp [mUp_at]; rfl
  · rw [hlo 37 (by omega) (by omega), ← h4]; simp [mUp_at]
  · rw [hlo 38 (by omega) (by omega), ← h5]; simp [mUp_at]
  · obtain rfl : j = 0 := by omega
    rw [e9 _ _ (by simp) (by simp), h6 w hw 0 (by omega)]
    rfl
  · unfold fKeep
    rw [hn, hc, if_neg (by omega), if_neg (by omega), if_pos rfl]
  · simp [mUp_at]
  · by_cases e : i = c
    · subst e
      refine ⟨n, (hbc 0 (by omega)).trans (by unfold adB; rw [if_pos rfl]), h2, h3n, by rw [e9 _ _ (by simp) (by simp)]; exact hb.1, fun k hk => ?_⟩
      have := hb.2 k hk
      rw [e9 _ _ (by simp) (by simp), e9 _ _ (by simp) (by simp), hbc _ (by omega), hbc _ (by omega)]
      refine ⟨this.1.trans ?_, this.2.trans ?_⟩
      · unfold adB
        rw [if_neg (by omega), if_pos (by omega), show (1 + 2 * k - 1) / 2 = k by omega]
      · unfold adB
        rw [if_neg (by omega), if_neg (by omega), show (2 + 2 * k - 2) / 2 = k by omega]
    · obtain ⟨m, hm⟩ := g4 i (by omega)
      refine ⟨m, hm.congr (fun k hk => hbl i (by omega) k hk) ?_ ?_ ?_⟩
      all_goals (rw [mUp_ne (by simp), mUp_ne (by simp)])
  · exact Fr.up (Fr.up hk.fr ⟨rfl, by simp⟩) ⟨rfl, by simp⟩
theorem s_S_keepTraverse {d s : Nat} {M : mM} {f : Nat → Int32} (hR : RelS M s f) : ∃ M', CT iS_keepTraverse (d + 5) [vR 3 s 0] M (.inl (some (vI (bI (canKeepF f))))) M' 0 ∧ RelS M' s (if canKeepF f = true then fKeep f else f) ∧ Fr s M M' := by
  have hT := hR.n
  have hC := hR.c
  obtain ⟨hs, -⟩ := id hR
  have h3 := hT.2.2.1
  have h12 := hT.2.1
  have g2 := hC.2.1
  have g3 := hC.2.2.1
  have hcl : CT iT_closesWell (d + 4) [vR 4 s 0] M (.inl (some (vI (bI (closeF f (fN f)))))) M 0 := by
    rw [← tCloses_eq hT]
    exact s_T_closesWell hs (by omega) h3
  by_cases hall : 3 ≤ fN f ∧ closeF f (fN f) = true ∧ fC f < 6
  · obtain ⟨a1, a2, a3⟩ := hall
    have fin : ∀ (M1 : mM), Kp M M1 s (fC f) → Bd M1 s (fC f) f (fN f) (fN f) → ∃ M', AW iS_keepTraverse (d + 5) 100 [some (vR 3 s 0), some (vR 0 s (fC f)), some (vI (nI (fN f)))] [] M1 (.inl (some (vI (bI (canKeepF f))))) M' 0 ∧ RelS M' s (if canKeepF f = true then fKeep f else f) ∧ Fr s M M' := by
      intro M1 hk hb
      have hfd : FdM M1 s (fC f) (fN f) := ⟨hs, a3, hb.1, h12⟩
      have htw : CT iF_twiceByCorners (d + 4) [vR 0 s (fC f)] M1 (.inl (some (vL (twB (adB f (fN f)) (fN f))))) M1 0 := by
        rw [← hb.tw]
        exact s_F_twiceByCorners hfd
      have e3 : M1 (3, s, 0) 2 = nI (fC f) := by rw [hk _ (by simp) (by simp) (by simp)]; exact g3
      by_cases htz : twB (adB f (fN f)) (fN f) = 0
      · have hck : canKeepF f = false := by
          unfold canKeepF
          rw [htz]
          simp
        rw [hck]
        refine ⟨M1, ?_, hk.rel hR, hk.fr⟩
        refine aw_aload_n k32_100 rfl ?_
        refine aw_callV0 k32_101 hC_S_keepTraverse ok_F_twiceByCorners sv_S_57 hH_F_twiceByCorners ⟨(by first | assumption | decide), (by first | assumption | decide)⟩ (by decide) hN_F_twiceByCorners (by rw [hL_F_twiceByCorners]; exact Nat.le_of_ble_eq_true rfl) (Nat.le_of_ble_eq_true rfl) htw ?_
        refine aw_lconst (v := 0) k32_104 (by decide) ?_
        refine aw_lcmp_ne 111 k32_105 k32_106 (by decide) (fun c_105 => ?_) (fun c_105 => ?_)
        · exact absurd htz c_105
        · refine aw_iconst (v := 0) k32_109 (by decide) ?_
          refine aw_zreturn k32_110 hR_S_keepTraverse ?_ ?_ ?_
          all_goals first | rfl | exact Or.inl rfl | exact Or.inr rfl | assumption | (simp_all; done) | ((repeat' split) <;> first | rfl | (simp only [Int32.lt_iff_toInt_lt, Int32.le_iff_toInt_le, Int64.lt_iff_toInt_lt, Int64.le_iff_toInt_le] at *; omega) | (simp_all; done))
      · have hck : canKeepF f = true := by
          unfold canKeepF
          rw [decide_eq_true a1, a2, decide_eq_true a3, decide_eq_false htz]
          rfl
        rw [hck]
        refine ⟨_, ?_, keep_rel hR a1 a3 hk hb⟩
        refine aw_aload_n k32_100 rfl ?_
        refine aw_callV0 k32_101 hC_S_keepTraverse ok_F_twiceByCorners sv_S_57 hH_F_twiceByCorners ⟨(by first | assumption | decide), (by first | assumption | decide)⟩ (by decide) hN_F_twiceByCorners (by rw [hL_F_twiceByCorners]; exact Nat.le_of_ble_eq_true rfl) (Nat.le_of_ble_eq_true rfl) htw ?_
        refine aw_lconst (v := 0) k32_104 (by decide) ?_
        refine aw_lcmp_ne 111 k32_105 k32_106 (by decide) (fun c_105 => ?_) (fun c_105 => ?_)
        · refine aw_aload_n k32_111 rfl ?_
          first | refine aw_dupI k32_112 ?_ | refine aw_dupR k32_112 ?_
          refine aw_getI k32_113 hC_S_keepTraverse fs_S_25 (by decide) ⟨(by first | assumption | decide), rfl⟩ rfl ?_
          try simp only [e3]
          refine aw_iconst (v := 1) k32_116 (by decide) ?_
          refine aw_iadd k32_117 ?_
          rw [nI_1]
          refine aw_putI k32_118 hC_S_keepTraverse fs_S_25 (by decide) ⟨(by first | assumption | decide), rfl⟩ rfl po_3_2 ?_
          try simp only [e3]
          refine aw_aload_n k32_121 rfl ?_
          refine aw_getR k32_122 hC_S_keepTraverse fs_S_12 (by decide) ⟨(by first | assumption | decide), rfl⟩ rfl ?_
          try simp only [e3]
          refine aw_callV0v k32_125 hC_S_keepTraverse ok_T_dropAllLegs sv_S_61 hH_T_dropAllLegs ⟨(by first | assumption | decide), rfl⟩ (by decide) hN_T_dropAllLegs (by rw [hL_T_dropAllLegs]; exact Nat.le_of_ble_eq_true rfl) (Nat.le_of_ble_eq_true rfl) (s_T_dropAllLegs hs) ?_
          refine aw_iconst (v := 1) k32_128 (by decide) ?_
          refine aw_zreturn k32_129 hR_S_keepTraverse ?_ ?_ ?_
          all_goals first | rfl | exact Or.inl rfl | exact Or.inr rfl | assumption | (simp_all; done) | ((repeat' split) <;> first | rfl | (simp only [Int32.lt_iff_toInt_lt, Int32.le_iff_toInt_le, Int64.lt_iff_toInt_lt, Int64.le_iff_toInt_le] at *; omega) | (simp_all; done))
        · exact absurd c_105 htz
    have loop : ∀ (k i : Nat) (M1 : mM), i + k = fN f → Kp M M1 s (fC f) → Bd M1 s (fC f) f (fN f) i → ∃ M', AW iS_keepTraverse (d + 5) 57 [some (vR 3 s 0), some (vR 0 s (fC f)), some (vI (nI i))] [] M1 (.inl (some (vI (bI (canKeepF f))))) M' 0 ∧ RelS M' s (if canKeepF f = true then fKeep f else f) ∧ Fr s M M' := by
      intro k
      induction k with
      | zero =>
        intro i M1 hi hk hb
        have e5 : M1 (4, s, 0) 5 = nI (fN f) := by rw [hk _ (by simp) (by simp) (by simp)]; exact h3
        obtain rfl : i = fN f := by omega
        obtain ⟨M', hA, hp⟩ := fin M1 hk hb
        refine ⟨M', ?_, hp⟩
        refine aw_iload_n k32_57 rfl ?_
        refine aw_aload_n k32_58 rfl ?_
        refine aw_getR k32_59 hC_S_keepTraverse fs_S_12 (by decide) ⟨(by first | assumption | decide), rfl⟩ rfl ?_
        try simp only [e5]
        refine aw_getI k32_62 hC_S_keepTraverse fs_S_36 (by decide) ⟨(by first | assumption | decide), rfl⟩ rfl ?_
        try simp only [e5]
        refine aw_icmp_ge 100 k32_65 (by decide) (fun c_65 => ?_) (fun c_65 => ?_)
        · exact hA
        · exact absurd (nI_leI (by omega) (by omega) |>.mpr (Nat.le_refl _)) c_65
      | succ k ih =>
        intro i M1 hi hk hb
        have e5 : M1 (4, s, 0) 5 = nI (fN f) := by rw [hk _ (by simp) (by simp) (by simp)]; exact h3
        have hT1 := (hk.rel hR).n
        have hae : CT iT_adjustedEastAt (d + 4) [vR 4 s 0, vI (nI i)] M1 (.inl (some (vI (adjF f (fN f) i 0)))) M1 0 := by
          rw [← tAdj_eq hT1 (by omega) (by omega)]
          exact s_T_adjustedEastAt hs (by omega) e5 (by omega)
        have han : CT iT_adjustedNorthAt (d + 4) [vR 4 s 0, vI (nI i)] M1 (.inl (some (vI (adjF f (fN f) i 1)))) M1 0 := by
          rw [← tAdj_eq hT1 (by omega) (by omega)]
          exact s_T_adjustedNorthAt hs (by omega) e5 (by omega)
        have hfd : FdM M1 s (fC f) i := ⟨hs, a3, hb.1, by omega⟩
        obtain ⟨M', hA, hp⟩ := ih (i + 1) _ (by omega) (fApp_kp hk) (fApp_bd hb)
        refine ⟨M', ?_, hp⟩
        refine aw_iload_n k32_57 rfl ?_
        refine aw_aload_n k32_58 rfl ?_
        refine aw_getR k32_59 hC_S_keepTraverse fs_S_12 (by decide) ⟨(by first | assumption | decide), rfl⟩ rfl ?_
        try simp only [e5]
        refine aw_getI k32_62 hC_S_keepTraverse fs_S_36 (by decide) ⟨(by first | assumption | decide), rfl⟩ rfl ?_
        try simp only [e5]
        refine aw_icmp_ge 100 k32_65 (by decide) (fun c_65 => ?_) (fun c_65 => ?_)
        · exact absurd (nI_le_of c_65) (by omega)
        · refine aw_iload_n k32_68 rfl ?_
          refine aw_bipush (v := 12) k32_69 (by decide) ?_
          refine aw_icmp_ge 100 k32_71 (by decide) (fun c_71 => ?_) (fun c_71 => ?_)
          · exact absurd (nI_le_of (a := 12) c_71) (by omega)
          · refine aw_aload_n k32_74 rfl ?_
            refine aw_aload_n k32_75 rfl ?_
            refine aw_getR k32_76 hC_S_keepTraverse fs_S_12 (by decide) ⟨(by first | assumption | decide), rfl⟩ rfl ?_
            try simp only [e5]
            refine aw_iload_n k32_79 rfl ?_
            refine aw_callV1 k32_80 hC_S_keepTraverse ok_T_adjustedEastAt sv_S_46 hH_T_adjustedEastAt ⟨(by first | assumption | decide), rfl⟩ (by decide) hN_T_adjustedEastAt (by rw [hL_T_adjustedEastAt]; exact Nat.le_of_ble_eq_true rfl) (Nat.le_of_ble_eq_true rfl) hae ?_
            refine aw_aload_n k32_83 rfl ?_
            refine aw_getR k32_84 hC_S_keepTraverse fs_S_12 (by decide) ⟨(by first | assumption | decide), rfl⟩ rfl ?_
            try simp only [e5]
            refine aw_iload_n k32_87 rfl ?_
            refine aw_callV1 k32_88 hC_S_keepTraverse ok_T_adjustedNorthAt sv_S_50 hH_T_adjustedNorthAt ⟨(by first | assumption | decide), rfl⟩ (by decide) hN_T_adjustedNorthAt (by rw [hL_T_adjustedNorthAt]; exact Nat.le_of_ble_eq_true rfl) (Nat.le_of_ble_eq_true rfl) han ?_
            refine aw_callV2v k32_91 hC_S_keepTraverse ok_F_appendCorner sv_S_53 hH_F_appendCorner ⟨(by first | assumption | decide), (by first | assumption | decide)⟩ (by decide) hN_F_appendCorner (by rw [hL_F_appendCorner]; exact Nat.le_of_ble_eq_true rfl) (Nat.le_of_ble_eq_true rfl) (s_F_appendCorner hfd (by omega)) ?_
            refine aw_iinc (y := 1) k32_94 rfl (by decide) rfl ?_
            try simp only [e5]
            rw [nI_1]
            refine aw_goto (t := 57) k32_97 (by decide) ?_
            exact hA
    obtain ⟨M', hA, hp⟩ := loop (fN f) 0 (mUp M (0, s, fC f) 2 0) (by omega) (fun r h0 h8 h9 => mUp_ne h0) ⟨by simp [mUp_at]; rfl, fun k hk => absurd hk (Nat.not_lt_zero _)⟩
    refine ⟨M', ct_go hL_S_keepTraverse rfl ?_, hp⟩
    have hcc : (nI (fC f)).toNatClampNeg = fC f := nI_clamp (by omega)
    refine aw_aload_n k32_0 rfl ?_
    refine aw_getR k32_1 hC_S_keepTraverse fs_S_12 (by decide) ⟨(by first | assumption | decide), rfl⟩ rfl ?_
    try simp only [h3, g3]
    refine aw_getI k32_4 hC_S_keepTraverse fs_S_36 (by decide) ⟨(by first | assumption | decide), rfl⟩ rfl ?_
    try simp only [h3, g3]
    refine aw_iconst (v := 3) k32_7 (by decide) ?_
    refine aw_icmp_lt 21 k32_8 (by decide) (fun c_8 => ?_) (fun c_8 => ?_)
    · exact absurd (nI_lt_of (b := 3) c_8) (by omega)
    · refine aw_aload_n k32_11 rfl ?_
      refine aw_getR k32_12 hC_S_keepTraverse fs_S_12 (by decide) ⟨(by first | assumption | decide), rfl⟩ rfl ?_
      try simp only [h3, g3]
      refine aw_callV0 k32_15 hC_S_keepTraverse ok_T_closesWell sv_S_39 hH_T_closesWell ⟨(by first | assumption | decide), rfl⟩ (by decide) hN_T_closesWell (by rw [hL_T_closesWell]; exact Nat.le_of_ble_eq_true rfl) (Nat.le_of_ble_eq_true rfl) hcl ?_
      refine aw_if_ne 23 k32_18 (by decide) (fun c_18 => ?_) (fun c_18 => ?_)
      · refine aw_aload_n k32_23 rfl ?_
        refine aw_getI k32_24 hC_S_keepTraverse fs_S_25 (by decide) ⟨(by first | assumption | decide), rfl⟩ rfl ?_
        try simp only [h3, g3]
        refine aw_if_lt 39 k32_27 (by decide) (fun c_27 => ?_) (fun c_27 => ?_)
        · exact absurd c_27 (nI_pos (by omega))
        · refine aw_aload_n k32_30 rfl ?_
          refine aw_getI k32_31 hC_S_keepTraverse fs_S_25 (by decide) ⟨(by first | assumption | decide), rfl⟩ rfl ?_
          try simp only [h3, g3]
          refine aw_bipush (v := 6) k32_34 (by decide) ?_
          refine aw_icmp_lt 41 k32_36 (by decide) (fun c_36 => ?_) (fun c_36 => ?_)
          · refine aw_aload_n k32_41 rfl ?_
            refine aw_getR k32_42 hC_S_keepTraverse fs_S_20 (by decide) ⟨(by first | assumption | decide), rfl⟩ rfl ?_
            try simp only [h3, g3]
            refine aw_aload_n k32_45 rfl ?_
            refine aw_getI k32_46 hC_S_keepTraverse fs_S_25 (by decide) ⟨(by first | assumption | decide), rfl⟩ rfl ?_
            try simp only [h3, g3]
            first | refine aw_aaloadF k32_49 (by first | assumption | decide) (vp_in_nI a3 (by decide)) ?_ | refine aw_aaloadS k32_49 (vp_in_nI a3 (by decide)) ?_
            rw [hcc]
            refine aw_astore_n k32_50 (Nat.le_of_ble_eq_true rfl) rfl ?_
            refine aw_aload_n k32_51 rfl ?_
            refine aw_callV0v k32_52 hC_S_keepTraverse ok_F_dropCorners sv_S_43 hH_F_dropCorners ⟨(by first | assumption | decide), (by first | assumption | decide)⟩ (by decide) hN_F_dropCorners (by rw [hL_F_dropCorners]; exact Nat.le_of_ble_eq_true rfl) (Nat.le_of_ble_eq_true rfl) (s_F_dropCorners hs a3) ?_
            refine aw_iconst (v := 0) k32_55 (by decide) ?_
            refine aw_istore_n k32_56 (Nat.le_of_ble_eq_true rfl) rfl ?_
            exact hA
          · exact absurd (nI_lt (a := fC f) (b := 6) a3 (by omega)) c_36
      · exact absurd c_18 (by rw [a2]; decide)
  · have hck : canKeepF f = false := by
      unfold canKeepF
      by_cases a1 : 3 ≤ fN f
      · by_cases a2 : closeF f (fN f) = true
        · rw [show decide (fC f < 6) = false from decide_eq_false (fun a3 => hall ⟨a1, a2, a3⟩)]
          simp
        · rw [Bool.eq_false_iff.mpr a2]
          simp
      · rw [decide_eq_false a1]
        rfl
    rw [hck]
    refine ⟨M, ct_go hL_S_keepTraverse rfl ?_, hR, Fr.rf⟩
    refine aw_aload_n k32_0 rfl ?_
    refine aw_getR k32_1 hC_S_keepTraverse fs_S_12 (by decide) ⟨(by first | assumption | decide), rfl⟩ rfl ?_
    try simp only [h3, g3]
    refine aw_getI k32_4 hC_S_keepTraverse fs_S_36 (by decide) ⟨(by first | assumption | decide), rfl⟩ rfl ?_
    try simp only [h3, g3]
    refine aw_iconst (v := 3) k32_7 (by decide) ?_
    refine aw_icmp_lt 21 k32_8 (by decide) (fun c_8 => ?_) (fun c_8 => ?_)
    · refine aw_iconst (v := 0) k32_21 (by decide) ?_
      refine aw_zreturn k32_22 hR_S_keepTraverse ?_ ?_ ?_
      all_goals first | rfl | exact Or.inl rfl | exact Or.inr rfl | assumption | (simp_all; done) | ((repeat' split) <;> first | rfl | (simp only [Int32.lt_iff_toInt_lt, Int32.le_iff_toInt_le, Int64.lt_iff_toInt_lt, Int64.le_iff_toInt_le] at *; omega) | (simp_all; done))
    · refine aw_aload_n k32_11 rfl ?_
      refine aw_getR k32_12 hC_S_keepTraverse fs_S_12 (by decide) ⟨(by first | assumption | decide), rfl⟩ rfl ?_
      try simp only [h3, g3]
      refine aw_callV0 k32_15 hC_S_keepTraverse ok_T_closesWell sv_S_39 hH_T_closesWell ⟨(by first | assumption | decide), rfl⟩ (by decide) hN_T_closesWell (by rw [hL_T_closesWell]; exact Nat.le_of_ble_eq_true rfl) (Nat.le_of_ble_eq_true rfl) hcl ?_
      refine aw_if_ne 23 k32_18 (by decide) (fun c_18 => ?_) (fun c_18 => ?_)
      · refine aw_aload_n k32_23 rfl ?_
        refine aw_getI k32_24 hC_S_keepTraverse fs_S_25 (by decide) ⟨(by first | assumption | decide), rfl⟩ rfl ?_
        try simp only [h3, g3]
        refine aw_if_lt 39 k32_27 (by decide) (fun c_27 => ?_) (fun c_27 => ?_)
        · refine aw_iconst (v := 0) k32_39 (by decide) ?_
          refine aw_zreturn k32_40 hR_S_keepTraverse ?_ ?_ ?_
          all_goals first | rfl | exact Or.inl rfl | exact Or.inr rfl | assumption | (simp_all; done) | ((repeat' split) <;> first | rfl | (simp only [Int32.lt_iff_toInt_lt, Int32.le_iff_toInt_le, Int64.lt_iff_toInt_lt, Int64.le_iff_toInt_le] at *; omega) | (simp_all; done))
        · refine aw_aload_n k32_30 rfl ?_
          refine aw_getI k32_31 hC_S_keepTraverse fs_S_25 (by decide) ⟨(by first | assumption | decide), rfl⟩ rfl ?_
          try simp only [h3, g3]
          refine aw_bipush (v := 6) k32_34 (by decide) ?_
          refine aw_icmp_lt 41 k32_36 (by decide) (fun c_36 => ?_) (fun c_36 => ?_)
          · exact absurd ⟨nI_nlt_of (b := 3) c_8, bI_1 c_18, nI_lt_of (b := 6) c_36⟩ hall
          · refine aw_iconst (v := 0) k32_39 (by decide) ?_
            refine aw_zreturn k32_40 hR_S_keepTraverse ?_ ?_ ?_
            all_goals first | rfl | exact Or.inl rfl | exact Or.inr rfl | assumption | (simp_all; done) | ((repeat' split) <;> first | rfl | (simp only [Int32.lt_iff_toInt_lt, Int32.le_iff_toInt_le, Int64.lt_iff_toInt_lt, Int64.le_iff_toInt_le] at *; omega) | (simp_all; done))
      · refine aw_iconst (v := 0) k32_21 (by decide) ?_
        refine aw_zreturn k32_22 hR_S_keepTraverse ?_ ?_ ?_
        all_goals first | rfl | exact Or.inl rfl | exact Or.inr rfl | assumption | (simp_all; done) | ((repeat' split) <;> first | rfl | (simp only [Int32.lt_iff_toInt_lt, Int32.le_iff_toInt_le, Int64.lt_iff_toInt_lt, Int64.le_iff_toInt_le] at *; omega) | (simp_all; done))
