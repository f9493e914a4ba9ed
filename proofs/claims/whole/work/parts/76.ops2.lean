/-! BOTH SIDES, call by call -/
theorem fOrg_sh {f : Nat → Int32} {x y : Int32} (hS : ShF f) : ShF (fOrg f x y) := by
  obtain ⟨h1, h2, h3, h4, h5⟩ := hS
  have e : ∀ j, j ≠ 37 → j ≠ 38 → fOrg f x y j = f j := fun j a b => by unfold fOrg; rw [if_neg a, if_neg b]
  have en : fN (fOrg f x y) = fN f := by unfold fN; rw [e _ (by decide) (by decide)]
  have ec : fC (fOrg f x y) = fC f := by unfold fC; rw [e _ (by decide) (by decide)]
  refine ⟨by rw [en, e _ (by decide) (by decide)]; exact h1, by rw [en]; exact h2, by rw [ec, e _ (by decide) (by decide)]; exact h3, by rw [ec]; exact h4, fun i hi => ?_⟩
  rw [ec] at hi
  have eb : bN (fOrg f x y) i = bN f i := by unfold bN; rw [e _ (by omega) (by omega)]
  rw [eb, e _ (by omega) (by omega)]
  exact h5 i hi
def mCh (v : Int32) : Int32 := (v.toUInt32 % 65536).toInt32
theorem mCh_nar (v : Int32) : vp_nar .char (mCh v) = mCh v := by
  have e : vp_nar .char (mCh v) = ((mCh v).toUInt32 % 65536).toInt32 := rfl
  rw [e]
  unfold mCh
  have h2 : (v.toUInt32 % 65536).toInt32.toUInt32 = v.toUInt32 % 65536 := rfl
  rw [h2]
  have h3 : v.toUInt32 % 65536 % 65536 = v.toUInt32 % 65536 := by
    apply UInt32.toNat_inj.mp
    simp
  rw [h3]
theorem o_cornersOf {d : Nat} {M : mM} (h : StW M) (x : Int32) : ResI iL_cornersOf iM_cornersOf d [vI x] Int32.toInt64 M := by
  obtain ⟨f, hs, sn, t, L, hC, hR, hI⟩ := h
  have hS := hI.1.1
  have hB := hI.1.2
  cases hx : hasF f x with
  | false =>
    exact ⟨1, _, 1, _, _, resV_ex (by decide) (by decide) (lx_cornersOf_1 (x_A_cornersOf (d := d) hC hx)) hC CFr.rf (mx_cornersOf (d := d + 1) hR hS hB hx) (mg hR) hI⟩
  | true =>
    exact ⟨0, _, 0, _, _, resV_ok (lo_cornersOf (s_A_cornersOf (d := d) hC hx)) hC CFr.rf (m_cornersOf (d := d + 1) hR.oo hS hB hx) (mg hR.oo) Ag.rf hI⟩
theorem o_leftTurns {d : Nat} {M : mM} (h : StW M) (x : Int32) : ResI iL_leftTurns iM_leftTurns d [vI x] Int32.toInt64 M := by
  obtain ⟨f, hs, sn, t, L, hC, hR, hI⟩ := h
  have hS := hI.1.1
  have hB := hI.1.2
  cases hx : hasF f x with
  | false =>
    exact ⟨1, _, 1, _, _, resV_ex (by decide) (by decide) (lx_leftTurns_1 (x_A_leftTurns (d := d) hC hx)) hC CFr.rf (mx_leftTurns (d := d + 1) hR hS hB hx) (mg hR) hI⟩
  | true =>
    exact ⟨0, _, 0, _, _, resV_ok (lo_leftTurns (s_A_leftTurns (d := d) hC hx)) hC CFr.rf (m_leftTurns (d := d + 1) hR.oo hS hB hx) (mg hR.oo) Ag.rf hI⟩
theorem o_turnsOneWay {d : Nat} {M : mM} (h : StW M) (x : Int32) : ResI iL_turnsOneWay iM_turnsOneWay d [vI x] (fun v => if v = 0 then 0 else 1) M := by
  obtain ⟨f, hs, sn, t, L, hC, hR, hI⟩ := h
  have hS := hI.1.1
  have hB := hI.1.2
  cases hx : hasF f x with
  | false =>
    exact ⟨1, _, 1, _, _, resV_ex (by decide) (by decide) (lx_turnsOneWay_1 (x_A_turnsOneWay (d := d) hC hx)) hC CFr.rf (mx_turnsOneWay (d := d + 1) hR hS hB hx) (mg hR) hI⟩
  | true =>
    exact ⟨0, _, 0, _, _, resV_ok (lo_turnsOneWay (s_A_turnsOneWay (d := d) hC hx)) hC CFr.rf (m_turnsOneWay (d := d + 1) hR.oo hS hB hx) (mg hR.oo) Ag.rf hI⟩
theorem o_twiceAreaByCorners {d : Nat} {M : mM} (h : StW M) (x : Int32) : ResL iL_twiceAreaByCorners iM_twiceAreaByCorners d [vI x] M := by
  obtain ⟨f, hs, sn, t, L, hC, hR, hI⟩ := h
  have hS := hI.1.1
  have hB := hI.1.2
  cases hx : hasF f x with
  | false =>
    exact ⟨1, _, 1, _, _, resV_ex (by decide) (by decide) (lx_twiceAreaByCorners_1 (x_A_twiceAreaByCorners (d := d) hC hx)) hC CFr.rf (mx_twiceAreaByCorners (d := d + 1) hR hS hB hx) (mg hR) hI⟩
  | true =>
    exact ⟨0, _, 0, _, _, resV_ok (lo_twiceAreaByCorners (s_A_twiceAreaByCorners (d := d) hC hx)) hC CFr.rf (m_twiceAreaByCorners (d := d + 1) hR.oo hS hB hx) (mg hR.oo) Ag.rf hI⟩
theorem o_twiceAreaByStrips {d : Nat} {M : mM} (h : StW M) (x : Int32) : ResL iL_twiceAreaByStrips iM_twiceAreaByStrips d [vI x] M := by
  obtain ⟨f, hs, sn, t, L, hC, hR, hI⟩ := h
  have hS := hI.1.1
  have hB := hI.1.2
  cases hx : hasF f x with
  | false =>
    exact ⟨1, _, 1, _, _, resV_ex (by decide) (by decide) (lx_twiceAreaByStrips_1 (x_A_twiceAreaByStrips (d := d) hC hx)) hC CFr.rf (mx_twiceAreaByStrips (d := d + 1) hR hS hB hx) (mg hR) hI⟩
  | true =>
    exact ⟨0, _, 0, _, _, resV_ok (lo_twiceAreaByStrips (s_A_twiceAreaByStrips (d := d) hC hx)) hC CFr.rf (m_twiceAreaByStrips (d := d + 1) hR.oo hS hB hx) (mg hR.oo) Ag.rf hI⟩
theorem o_acresOf {d : Nat} {M : mM} (h : StW M) (x : Int32) : ResI iL_acresOf iM_acresOf d [vI x] Int32.toInt64 M := by
  obtain ⟨f, hs, sn, t, L, hC, hR, hI⟩ := h
  have hS := hI.1.1
  have hB := hI.1.2
  cases hx : hasF f x with
  | false =>
    exact ⟨1, _, 1, _, _, resV_ex (by decide) (by decide) (lx_acresOf_1 (x_A_acresOf (d := d) hC hx)) hC CFr.rf (mx_acresOf (d := d + 1) hR hS hB hx) (mg hR) hI⟩
  | true =>
    exact ⟨0, _, 0, _, _, resV_ok (lo_acresOf (s_A_acresOf (d := d) hC hx)) hC CFr.rf (m_acresOf (d := d + 1) hR.oo hS hB hx) (mg hR.oo) Ag.rf hI⟩
theorem o_roodsOf {d : Nat} {M : mM} (h : StW M) (x : Int32) : ResI iL_roodsOf iM_roodsOf d [vI x] Int32.toInt64 M := by
  obtain ⟨f, hs, sn, t, L, hC, hR, hI⟩ := h
  have hS := hI.1.1
  have hB := hI.1.2
  cases hx : hasF f x with
  | false =>
    exact ⟨1, _, 1, _, _, resV_ex (by decide) (by decide) (lx_roodsOf_1 (x_A_roodsOf (d := d) hC hx)) hC CFr.rf (mx_roodsOf (d := d + 1) hR hS hB hx) (mg hR) hI⟩
  | true =>
    exact ⟨0, _, 0, _, _, resV_ok (lo_roodsOf (s_A_roodsOf (d := d) hC hx)) hC CFr.rf (m_roodsOf (d := d + 1) hR.oo hS hB hx) (mg hR.oo) Ag.rf hI⟩
theorem o_perchesOf {d : Nat} {M : mM} (h : StW M) (x : Int32) : ResI iL_perchesOf iM_perchesOf d [vI x] Int32.toInt64 M := by
  obtain ⟨f, hs, sn, t, L, hC, hR, hI⟩ := h
  have hS := hI.1.1
  have hB := hI.1.2
  cases hx : hasF f x with
  | false =>
    exact ⟨1, _, 1, _, _, resV_ex (by decide) (by decide) (lx_perchesOf_1 (x_A_perchesOf (d := d) hC hx)) hC CFr.rf (mx_perchesOf (d := d + 1) hR hS hB hx) (mg hR) hI⟩
  | true =>
    exact ⟨0, _, 0, _, _, resV_ok (lo_perchesOf (s_A_perchesOf (d := d) hC hx)) hC CFr.rf (m_perchesOf (d := d + 1) hR.oo hS hB hx) (mg hR.oo) Ag.rf hI⟩
theorem o_scaleFor {d : Nat} {M : mM} (h : StW M) (x : Int32) : ResI iL_scaleFor iM_scaleFor d [vI x] Int32.toInt64 M := by
  obtain ⟨f, hs, sn, t, L, hC, hR, hI⟩ := h
  have hS := hI.1.1
  have hB := hI.1.2
  cases hx : hasF f x with
  | false =>
    exact ⟨1, _, 1, _, _, resV_ex (by decide) (by decide) (lx_scaleFor_1 (x_A_scaleFor (d := d) hC hx)) hC CFr.rf (mx_scaleFor (d := d + 1) hR hS hB hx) (mg hR) hI⟩
  | true =>
    exact ⟨0, _, 0, _, _, resV_ok (lo_scaleFor (s_A_scaleFor (d := d) hC hx)) hC CFr.rf (m_scaleFor (d := d + 1) hR.oo hS hB hx) (mg hR.oo) Ag.rf hI⟩
theorem o_adjustedEast {d : Nat} {M : mM} (h : StW M) (x : Int32) : ResI iL_adjustedEast iM_adjustedEast d [vI x] Int32.toInt64 M := by
  obtain ⟨f, hs, sn, t, L, hC, hR, hI⟩ := h
  have hS := hI.1.1
  have hB := hI.1.2
  by_cases hx : 0 ≤ x ∧ x ≤ f 0
  · skip
    exact ⟨0, _, 0, _, _, resV_ok (lo_adjustedEast (s_A_adjustedEast (d := d) hC hx)) hC CFr.rf (m_adjustedEast (d := d + 1) hR.oo hS hB hx) (mg hR.oo) Ag.rf hI⟩
  · skip
    exact ⟨1, _, 1, _, _, resV_ex (by decide) (by decide) (lx_adjustedEast_1 (x_A_adjustedEast (d := d) hC hx)) hC CFr.rf (mx_adjustedEast (d := d + 1) hR hx) (mg hR) hI⟩
theorem o_adjustedNorth {d : Nat} {M : mM} (h : StW M) (x : Int32) : ResI iL_adjustedNorth iM_adjustedNorth d [vI x] Int32.toInt64 M := by
  obtain ⟨f, hs, sn, t, L, hC, hR, hI⟩ := h
  have hS := hI.1.1
  have hB := hI.1.2
  by_cases hx : 0 ≤ x ∧ x ≤ f 0
  · skip
    exact ⟨0, _, 0, _, _, resV_ok (lo_adjustedNorth (s_A_adjustedNorth (d := d) hC hx)) hC CFr.rf (m_adjustedNorth (d := d + 1) hR.oo hS hB hx) (mg hR.oo) Ag.rf hI⟩
  · skip
    exact ⟨1, _, 1, _, _, resV_ex (by decide) (by decide) (lx_adjustedNorth_1 (x_A_adjustedNorth (d := d) hC hx)) hC CFr.rf (mx_adjustedNorth (d := d + 1) hR hx) (mg hR) hI⟩
theorem o_cornerEast {d : Nat} {M : mM} (h : StW M) (x y : Int32) : ResI iL_cornerEast iM_cornerEast d [vI x, vI y] Int32.toInt64 M := by
  obtain ⟨f, hs, sn, t, L, hC, hR, hI⟩ := h
  have hS := hI.1.1
  have hB := hI.1.2
  by_cases hx : hasF f x = true ∧ hcF f x y
  · skip
    exact ⟨0, _, 0, _, _, resV_ok (lo_cornerEast (s_A_cornerEast (d := d) hC.1 hx.1 hx.2)) hC CFr.rf (m_cornerEast (d := d + 1) hR.oo hS hx.1 hx.2) (mg hR.oo) Ag.rf hI⟩
  · skip
    exact ⟨1, _, 1, _, _, resV_ex (by decide) (by decide) (lx_cornerEast_1 (x_A_cornerEast (d := d) hC.1 hx)) hC CFr.rf (mx_cornerEast (d := d + 1) hR hS hx) (mg hR) hI⟩
theorem o_cornerNorth {d : Nat} {M : mM} (h : StW M) (x y : Int32) : ResI iL_cornerNorth iM_cornerNorth d [vI x, vI y] Int32.toInt64 M := by
  obtain ⟨f, hs, sn, t, L, hC, hR, hI⟩ := h
  have hS := hI.1.1
  have hB := hI.1.2
  by_cases hx : hasF f x = true ∧ hcF f x y
  · skip
    exact ⟨0, _, 0, _, _, resV_ok (lo_cornerNorth (s_A_cornerNorth (d := d) hC.1 hx.1 hx.2)) hC CFr.rf (m_cornerNorth (d := d + 1) hR.oo hS hx.1 hx.2) (mg hR.oo) Ag.rf hI⟩
  · skip
    exact ⟨1, _, 1, _, _, resV_ex (by decide) (by decide) (lx_cornerNorth_1 (x_A_cornerNorth (d := d) hC.1 hx)) hC CFr.rf (mx_cornerNorth (d := d + 1) hR hS hx) (mg hR) hI⟩
theorem o_sidesEastOf {d : Nat} {M : mM} (h : StW M) (x y z : Int32) : ResI iL_sidesEastOf iM_sidesEastOf d [vI x, vI y, vI z] Int32.toInt64 M := by
  obtain ⟨f, hs, sn, t, L, hC, hR, hI⟩ := h
  have hS := hI.1.1
  have hB := hI.1.2
  cases hx : hasF f x with
  | false =>
    exact ⟨1, _, 1, _, _, resV_ex (by decide) (by decide) (lx_sidesEastOf_1 (x_A_sidesEastOf (d := d) hC hx)) hC CFr.rf (mx_sidesEastOf (d := d + 1) hR hS hB hx) (mg hR) hI⟩
  | true =>
    by_cases hy : inR y 200000 ∧ inR z 200000
    · skip
      exact ⟨0, _, 0, _, _, resV_ok (lo_sidesEastOf (s_A_sidesEastOf (d := d) hC hx hy.1 hy.2)) hC CFr.rf (m_sidesEastOf (d := d + 1) hR.oo hS hB hx hy.1 hy.2) (mg hR.oo) Ag.rf hI⟩
    · skip
      exact ⟨2, _, 1, _, _, resV_ex (by decide) (by decide) (lx_sidesEastOf_2 (y_A_sidesEastOf (d := d) hC hx hy)) hC CFr.rf (my_sidesEastOf (d := d + 1) hR hS hB hx hy) (mg hR) hI⟩
theorem o_sheetsFor {d : Nat} {M : mM} (h : StW M) (x y : Int32) : ResI iL_sheetsFor iM_sheetsFor d [vI x, vI y] Int32.toInt64 M := by
  obtain ⟨f, hs, sn, t, L, hC, hR, hI⟩ := h
  have hS := hI.1.1
  have hB := hI.1.2
  cases hx : hasF f x with
  | false =>
    exact ⟨1, _, 1, _, _, resV_ex (by decide) (by decide) (lx_sheetsFor_1 (x_A_sheetsFor (d := d) hC hx)) hC CFr.rf (mx_sheetsFor (d := d + 1) hR hS hB hx) (mg hR) hI⟩
  | true =>
    by_cases hy : 10 ≤ y ∧ y ≤ 1000
    · skip
      exact ⟨0, _, 0, _, _, resV_ok (lo_sheetsFor (s_A_sheetsFor (d := d) hC hx hy)) hC CFr.rf (m_sheetsFor (d := d + 1) hR.oo hS hB hx hy) (mg hR.oo) Ag.rf hI⟩
    · skip
      exact ⟨2, _, 1, _, _, resV_ex (by decide) (by decide) (lx_sheetsFor_2 (y_A_sheetsFor (d := d) hC hx hy)) hC CFr.rf (my_sheetsFor (d := d + 1) hR hS hB hx hy) (mg hR) hI⟩
theorem o_sharedSides {d : Nat} {M : mM} (h : StW M) (x y : Int32) : ResI iL_sharedSides iM_sharedSides d [vI x, vI y] Int32.toInt64 M := by
  obtain ⟨f, hs, sn, t, L, hC, hR, hI⟩ := h
  have hS := hI.1.1
  have hB := hI.1.2
  cases hx : hasF f x with
  | false =>
    exact ⟨1, _, 1, _, _, resV_ex (by decide) (by decide) (lx_sharedSides_1 (x_A_sharedSides (d := d) hC hx)) hC CFr.rf (mx_sharedSides (d := d + 1) hR hS hB (fun q => by rw [hx] at q; exact absurd q.1 (by decide))) (mg hR) hI⟩
  | true =>
    cases hy : hasF f y with
    | false =>
      exact ⟨1, _, 1, _, _, resV_ex (by decide) (by decide) (lx_sharedSides_1 (y_A_sharedSides (d := d) hC hx hy)) hC CFr.rf (mx_sharedSides (d := d + 1) hR hS hB (fun q => by rw [hy] at q; exact absurd q.2 (by decide))) (mg hR) hI⟩
    | true =>
      exact ⟨0, _, 0, _, _, resV_ok (lo_sharedSides (s_A_sharedSides (d := d) hC hx hy)) hC CFr.rf (m_sharedSides (d := d + 1) hR.oo hS hB hx hy) (mg hR.oo) Ag.rf hI⟩
theorem o_addLeg {d : Nat} {M : mM} (h : StW M) (x y z : Int32) : ResI iL_addLeg iM_addLeg d [vI x, vI y, vI z] Int32.toInt64 M := by
  obtain ⟨f, hs, sn, t, L, hC, hR, hI⟩ := h
  have hS := hI.1.1
  have hB := hI.1.2
  by_cases hx : inR x 9999 ∧ inR y 9999 ∧ 1 ≤ z ∧ z ≤ 20000
  · by_cases hn : fN f < 12
    · skip
      obtain ⟨M1, a1, c1, f1⟩ := s_A_addLeg (d := d) hC hx hn
      obtain ⟨M2, a2, g2⟩ := m_addLeg (d := d + 1) ((hR.co f1).oo (w := (fAdd f x y z 0).toInt64)) hS hx hn
      exact ⟨0, _, 0, _, _, resV_ok (lo_addLeg a1) c1 f1 a2 g2 Ag.rf (hI.push ⟨fAdd_sh hS hn, fAdd_bd hS hB hn hx⟩)⟩
    · obtain ⟨M1, a1, c1, f1⟩ := y_A_addLeg (d := d) hC hx hn
      have h12 : M1 (13, 0, 0) 0 = 12 := by rw [(hR.co f1).1, hS.1, show fN f = 12 by have := hS.2.1; omega]; rfl
      exact ⟨2, _, 1, _, _, resV_ex (by decide) (by decide) (lx_addLeg_2 a1) c1 f1 (m_addLegX (d := d + 1) (k := 2) (by decide) (wl_2 (d := d + 7) hx h12)) (mg (hR.co f1)) hI⟩
  · skip
    exact ⟨1, _, 1, _, _, resV_ex (by decide) (by decide) (lx_addLeg_1 (x_A_addLeg (d := d) hC hx)) hC CFr.rf (m_addLegX (d := d + 1) (k := 1) (by decide) (wl_1 (d := d + 7) hx)) (mg hR) hI⟩
theorem o_takeBack {d : Nat} {M : mM} (h : StW M) : ResI iL_takeBack iM_takeBack d [] Int32.toInt64 M := by
  obtain ⟨f, hs, sn, t, L, hC, hR, hI⟩ := h
  have hS := hI.1.1
  have hB := hI.1.2
  by_cases hn : 0 < fN f
  · skip
    obtain ⟨M1, a1, c1, f1⟩ := s_A_takeBack (d := d) hC hn
    obtain ⟨M2, a2, g2⟩ := m_takeBack (d := d + 1) ((hR.co f1).oo (w := (fTake f 0).toInt64)) hS hn
    exact ⟨0, _, 0, _, _, resV_ok (lo_takeBack a1) c1 f1 a2 g2 Ag.rf (hI.push ⟨fTake_sh hS hn, fTake_bd hS hB hn⟩)⟩
  · skip
    obtain ⟨M1, a1, c1, f1⟩ := x_A_takeBack (d := d) hC hn
    exact ⟨1, _, 1, _, _, resV_ex (by decide) (by decide) (lx_takeBack_1 a1) c1 f1 (m_takeBackX (d := d + 1) (by rw [(hR.co f1).1, hS.1, show fN f = 0 by omega]; rfl)) (mg (hR.co f1)) hI⟩
theorem o_setOrigin {d : Nat} {M : mM} (h : StW M) (x y : Int32) : ResI iL_setOrigin iM_setOrigin d [vI x, vI y] Int32.toInt64 M := by
  obtain ⟨f, hs, sn, t, L, hC, hR, hI⟩ := h
  have hS := hI.1.1
  have hB := hI.1.2
  by_cases hx : inR x 50000 ∧ inR y 50000
  · skip
    obtain ⟨M1, a1, c1, f1⟩ := s_A_setOrigin (d := d) hC hx
    obtain ⟨M2, a2, g2⟩ := m_setOrigin (d := d + 1) ((hR.co f1).oo (w := (fOrg f x y 0).toInt64)) hx
    exact ⟨0, _, 0, _, _, resV_ok (lo_setOrigin a1) c1 f1 a2 g2 Ag.rf (hI.push ⟨fOrg_sh hS, fOrg_bd hS hB hx⟩)⟩
  · skip
    exact ⟨1, _, 1, _, _, resV_ex (by decide) (by decide) (lx_setOrigin_1 (x_A_setOrigin (d := d) hC hx)) hC CFr.rf (m_setOriginX (d := d + 1) hx) (mg hR) hI⟩
theorem o_keep {d : Nat} {M : mM} (h : StW M) : ResI iL_keep iM_keep d [] Int32.toInt64 M := by
  obtain ⟨f, hs, sn, t, L, hC, hR, hI⟩ := h
  have hS := hI.1.1
  have hB := hI.1.2
  cases hn : canKeepF f with
  | false =>
    obtain ⟨M1, a1, c1, f1⟩ := x_A_keep (d := d) hC hn
    exact ⟨1, _, 1, _, _, resV_ex (by decide) (by decide) (lx_keep_1 a1) c1 f1 (m_keepX (d := d + 1) (hR.co f1) hS hB hn) (mg (hR.co f1)) hI⟩
  | true =>
    obtain ⟨M1, a1, c1, f1⟩ := s_A_keep (d := d) hC hn
    obtain ⟨M2, a2, g2⟩ := m_keep (d := d + 1) ((hR.co f1).oo (w := (fKeep f 39 - 1).toInt64)) hS hB hn
    exact ⟨0, _, 0, _, _, resV_ok (lo_keep a1) c1 f1 a2 g2 Ag.rf (hI.push ⟨fKeep_sh hS (can_3 hn) (can_c hn), fKeep_bd hS hB (can_c hn)⟩)⟩
theorem o_giveUp {d : Nat} {M : mM} (h : StW M) (x : Int32) : ResI iL_giveUp iM_giveUp d [vI x] Int32.toInt64 M := by
  obtain ⟨f, hs, sn, t, L, hC, hR, hI⟩ := h
  have hS := hI.1.1
  have hB := hI.1.2
  cases hn : hasF f x with
  | false =>
    obtain ⟨M1, a1, c1, f1⟩ := x_A_giveUp (d := d) hC hn
    exact ⟨1, _, 1, _, _, resV_ex (by decide) (by decide) (lx_giveUp_1 a1) c1 f1 (m_giveUpX (d := d + 1) (hR.co f1) hS hn) (mg (hR.co f1)) hI⟩
  | true =>
    have hlt := (hasF_at hn hS.2.2.1 hS.2.2.2.1).2
    obtain ⟨M1, a1, c1, f1⟩ := s_A_giveUp (d := d) hC hn
    obtain ⟨M2, a2, g2⟩ := m_giveUp (d := d + 1) ((hR.co f1).oo (w := (fGive f x.toNatClampNeg 39).toInt64)) hS hn
    exact ⟨0, _, 0, _, _, resV_ok (lo_giveUp a1) c1 f1 a2 g2 Ag.rf (hI.push ⟨fGive_sh hS hlt, fGive_bd hS hB hlt⟩)⟩
theorem o_type {d : Nat} {M : mM} (h : StW M) (v : Int32) : ResI iL_type iM_type d [vI (mCh v)] Int32.toInt64 M := by
  obtain ⟨f, hs, sn, t, L, hC, hR, hI⟩ := h
  by_cases hn : L < 80
  · obtain ⟨M1, a1, c1, f1⟩ := s_A_type (d := d) (x := mCh v) hC hn
    rw [mCh_nar] at c1
    obtain ⟨M2, a2, g2⟩ := m_type (d := d + 1) (x := mCh v) ((hR.co f1).oo (w := (nI (L + 1)).toInt64)) hn
    exact ⟨0, _, 0, _, _, resV_ok (lo_type a1) c1 f1 a2 g2 Ag.rf hI⟩
  · skip
    exact ⟨1, _, 1, _, _, resV_ex (by decide) (by decide) (lx_type_1 (x_A_type (d := d) hC hn)) hC CFr.rf (m_typeX (d := d + 1) hR hn) (mg hR) hI⟩
theorem o_impossibleOrder {d : Nat} {M : mM} (h : StW M) : ResI iL_impossibleOrder iM_impossibleOrder d [] Int32.toInt64 M := by
  obtain ⟨f, hs, sn, t, L, hC, hR, hI⟩ := h
  have hS := hI.1.1
  have hB := hI.1.2
  cases hp : pars t L with
  | inl e =>
    obtain ⟨M1, a1, c1, f1⟩ := x_A_impossibleOrder (d := d) hC hp
    exact ⟨1, _, 1, _, _, resV_ex (by decide) (by decide) (lx_impossibleOrder_1 a1) c1 f1 (m_impossibleOrderX (d := d + 1) (hR.co f1) hp) (mg (hR.co f1)) hI⟩
  | inr l =>
    obtain ⟨M1, a1, c1, f1⟩ := s_A_impossibleOrder (d := d) hC hp
    obtain ⟨M2, a2, g2⟩ := m_impossibleOrder (d := d + 1) ((hR.co f1).oo (w := ((runO f l 0).1).toInt64)) hS hB hp
    exact ⟨0, _, 0, _, _, resV_ok (lo_impossibleOrder a1) c1 f1 a2 g2 Ag.rf hI⟩
theorem o_carryOut {d : Nat} {M : mM} (h : StW M) : ResI iL_carryOut iM_carryOut d [] Int32.toInt64 M := by
  obtain ⟨f, hs, sn, t, L, hC, hR, hI⟩ := h
  have hS := hI.1.1
  have hB := hI.1.2
  cases hp : pars t L with
  | inl e =>
    obtain ⟨M1, a1, c1, f1⟩ := x_A_carryOut (d := d) hC hp
    exact ⟨1, _, 1, _, _, resV_ex (by decide) (by decide) (lx_carryOut_1 a1) c1 f1 (m_carryOutX (d := d + 1) (hR.co f1) hp) (mg (hR.co f1)) hI⟩
  | inr l =>
    by_cases hr : (runO f l 0).1 = -1
    · have hok := runO_ok (i := 0) (ords_okL hp) hS hB
      obtain ⟨M1, a1, c1, f1⟩ := s_A_carryOut (d := d) hC hp hr
      obtain ⟨M2, a2, g2⟩ := m_carryOut (d := d + 1) ((hR.co f1).oo (w := (nI l.length).toInt64)) hS hB hp hr
      exact ⟨0, _, 0, _, _, resV_ok (lo_carryOut a1) c1 f1 a2 g2 Ag.rf (hI.push ⟨hok.1, hok.2.1⟩)⟩
    · obtain ⟨M1, a1, c1, f1⟩ := y_A_carryOut (d := d) hC hp hr
      obtain ⟨M2, a2, g2⟩ := m_carryOutY (d := d + 1) (hR.co f1) hS hB hp hr
      exact ⟨1, _, 1, _, _, resV_ex (by decide) (by decide) (lx_carryOut_1 a1) c1 f1 a2 g2 hI⟩
theorem o_undo {d : Nat} {M : mM} (h : StW M) : ResI iL_undo iM_undo d [] Int32.toInt64 M := by
  obtain ⟨f, hs, sn, t, L, hC, hR, hI⟩ := h
  have hS := hI.1.1
  have hB := hI.1.2
  cases hs with
  | nil =>
    exact ⟨1, _, 1, _, _, resV_ex (by decide) (by decide) (lx_undo_1 (x_A_undo (d := d) (hs := []) hC)) hC CFr.rf (m_undoX (d := d + 1) hR) (mg hR) hI⟩
  | cons g hs =>
    obtain ⟨M1, a1, c1, f1⟩ := s_A_undo (d := d) hC
    obtain ⟨M2, f2, a2, g2, hag⟩ := m_undo (d := d + 1) ((hR.co f1).oo (w := (nI hs.length).toInt64))
    have hg := hI.2.1 g List.mem_cons_self
    exact ⟨0, _, 0, _, _, resV_ok (lo_undo a1) c1 f1 a2 g2 hag ⟨hg.ag hag, fun k hk => hI.2.1 k (List.mem_cons_of_mem _ hk), hI.2.2⟩⟩
theorem o_restoreSnapshot {d : Nat} {M : mM} (h : StW M) : ResI iL_restoreSnapshot iM_restoreSnapshot d [] Int32.toInt64 M := by
  obtain ⟨f, hs, sn, t, L, hC, hR, hI⟩ := h
  have hS := hI.1.1
  have hB := hI.1.2
  cases sn with
  | none =>
    exact ⟨1, _, 1, _, _, resV_ex (by decide) (by decide) (lx_restoreSnapshot_1 (x_A_restoreSnapshot (d := d) (sn := none) hC)) hC CFr.rf (m_restoreX (d := d + 1) hR) (mg hR) hI⟩
  | some g =>
    obtain ⟨M1, a1, c1, f1⟩ := s_A_restoreSnapshot (d := d) (sn := none) hC
    obtain ⟨M2, f2, a2, g2, hag⟩ := m_restore (d := d + 1) ((hR.co f1).oo (w := (g 39).toInt64))
    have hg := hI.2.2 g rfl
    exact ⟨0, _, 0, _, _, resV_ok (lo_restoreSnapshot a1) c1 f1 a2 g2 hag (hI.push (hg.ag hag))⟩
theorem o_legs {d : Nat} {M : mM} (h : StW M) : ResD iA_legs iM_legs d M := by
  obtain ⟨f, hs, sn, t, L, hC, hR, hI⟩ := h
  have hS := hI.1.1
  have hB := hI.1.2
  exact ⟨_, resD (s_A_legs (d := d + 1) hC) hC CFr.rf (m_legs (d := d + 1) hR hS hB) (mg hR) hI⟩
theorem o_traverseLength {d : Nat} {M : mM} (h : StW M) : ResD iA_traverseLength iM_traverseLength d M := by
  obtain ⟨f, hs, sn, t, L, hC, hR, hI⟩ := h
  have hS := hI.1.1
  have hB := hI.1.2
  exact ⟨_, resD (s_A_traverseLength (d := d + 1) hC) hC CFr.rf (m_traverseLength (d := d + 1) hR hS hB) (mg hR) hI⟩
theorem o_errorEast {d : Nat} {M : mM} (h : StW M) : ResD iA_errorEast iM_errorEast d M := by
  obtain ⟨f, hs, sn, t, L, hC, hR, hI⟩ := h
  have hS := hI.1.1
  have hB := hI.1.2
  exact ⟨_, resD (s_A_errorEast (d := d + 1) hC) hC CFr.rf (m_errorEast (d := d + 1) hR hS hB) (mg hR) hI⟩
theorem o_errorNorth {d : Nat} {M : mM} (h : StW M) : ResD iA_errorNorth iM_errorNorth d M := by
  obtain ⟨f, hs, sn, t, L, hC, hR, hI⟩ := h
  have hS := hI.1.1
  have hB := hI.1.2
  exact ⟨_, resD (s_A_errorNorth (d := d + 1) hC) hC CFr.rf (m_errorNorth (d := d + 1) hR hS hB) (mg hR) hI⟩
theorem o_isClose {d : Nat} {M : mM} (h : StW M) : ResD iA_isClose iM_isClose d M := by
  obtain ⟨f, hs, sn, t, L, hC, hR, hI⟩ := h
  have hS := hI.1.1
  have hB := hI.1.2
  exact ⟨_, resD (s_A_isClose (d := d + 1) hC) hC CFr.rf (m_isClose (d := d + 1) hR hS hB) (mg hR) hI⟩
theorem o_fields {d : Nat} {M : mM} (h : StW M) : ResD iA_fields iM_fields d M := by
  obtain ⟨f, hs, sn, t, L, hC, hR, hI⟩ := h
  have hS := hI.1.1
  have hB := hI.1.2
  exact ⟨_, resD (s_A_fields (d := d + 1) hC) hC CFr.rf (m_fields (d := d + 1) hR hS hB) (mg hR) hI⟩
theorem o_largestField {d : Nat} {M : mM} (h : StW M) : ResD iA_largestField iM_largestField d M := by
  obtain ⟨f, hs, sn, t, L, hC, hR, hI⟩ := h
  have hS := hI.1.1
  have hB := hI.1.2
  exact ⟨_, resD (s_A_largestField (d := d + 1) hC) hC CFr.rf (m_largestField (d := d + 1) hR hS hB) (mg hR) hI⟩
theorem o_twiceAreaOfAll {d : Nat} {M : mM} (h : StW M) : ResDL iA_twiceAreaOfAll iM_twiceAreaOfAll d M := by
  obtain ⟨f, hs, sn, t, L, hC, hR, hI⟩ := h
  have hS := hI.1.1
  have hB := hI.1.2
  exact ⟨_, resD (s_A_twiceAreaOfAll (d := d + 1) hC) hC CFr.rf (m_twiceAreaOfAll (d := d + 1) hR hS) (mg hR) hI⟩
theorem o_recordedStates {d : Nat} {M : mM} (h : StW M) : ResD iA_recordedStates iM_recordedStates d M := by
  obtain ⟨f, hs, sn, t, L, hC, hR, hI⟩ := h
  have hS := hI.1.1
  have hB := hI.1.2
  exact ⟨_, resD (s_A_recordedStates (d := d + 1) hC) hC CFr.rf (m_recordedStates (d := d + 1) hR hS hB) (mg hR) hI⟩
theorem o_clearText {d : Nat} {M : mM} (h : StW M) : ResD iA_clearText iM_clearText d M := by
  obtain ⟨f, hs, sn, t, L, hC, hR, hI⟩ := h
  obtain ⟨M1, a1, c1, f1⟩ := s_A_clearText (d := d + 1) hC
  obtain ⟨M2, a2, g2⟩ := m_clearText (d := d + 1) (hR.co f1)
  exact ⟨_, resD a1 c1 f1 a2 g2 hI⟩
theorem o_textError {d : Nat} {M : mM} (h : StW M) : ResD iA_textError iM_textError d M := by
  obtain ⟨f, hs, sn, t, L, hC, hR, hI⟩ := h
  obtain ⟨M1, a1, c1, f1⟩ := s_A_textError (d := d + 1) hC
  exact ⟨_, resD a1 c1 f1 (m_textError (d := d + 1) (hR.co f1)) (mg (hR.co f1)) hI⟩
theorem o_takeSnapshot {d : Nat} {M : mM} (h : StW M) : ResD iA_takeSnapshot iM_takeSnapshot d M := by
  obtain ⟨f, hs, sn, t, L, hC, hR, hI⟩ := h
  obtain ⟨M1, a1, c1, f1⟩ := s_A_takeSnapshot (d := d + 1) hC
  obtain ⟨M2, a2, g2⟩ := m_takeSnapshot (d := d + 1) (hR.co f1)
  exact ⟨_, resD a1 c1 f1 a2 g2 ⟨hI.1, hI.2.1, fun g hg => by cases hg; exact hI.1⟩⟩
