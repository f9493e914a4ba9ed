/-! THE BOUNDS are kept -/
theorem adB_bd {f : Nat → Int32} (hB : BdF f) (h12 : fN f ≤ 12) : ∀ k, k < fN f → bi (bX (adB f (fN f)) k) 400000 ∧ bi (bY (adB f (fN f)) k) 400000 := fun k hk => by
  have e1 : bX (adB f (fN f)) k = adjF f (fN f) k 0 := by
    unfold bX adB
    rw [if_neg (by omega), if_pos (by omega), show (1 + 2 * k - 1) / 2 = k by omega]
  have e2 : bY (adB f (fN f)) k = adjF f (fN f) k 1 := by
    unfold bY adB
    rw [if_neg (by omega), if_neg (by omega), show (2 + 2 * k - 2) / 2 = k by omega]
  rw [e1, e2]
  exact ⟨adj_bd hB h12 (by decide) (by omega), adj_bd hB h12 (by decide) (by omega)⟩
theorem inR_bi {x y : Int32} {B : Int} (hy : y.toInt = B) (hn : (-y).toInt = -B) (h : inR x y) : bi x B := by
  obtain ⟨h1, h2⟩ := h
  rw [Int32.le_iff_toInt_le] at h1 h2
  exact ⟨by omega, by omega⟩
theorem fAdd_n {f : Nat → Int32} {x y l : Int32} (hS : ShF f) (hn : fN f < 12) : fN (fAdd f x y l) = fN f + 1 := fN_of (by
  show f 0 + 1 = _
  rw [hS.1, nI_1]) (by omega)
theorem fAdd_e {f : Nat → Int32} {x y l : Int32} {j : Nat} (h0 : j ≠ 0) (h : j < 1 + 3 * fN f ∨ 3 + 3 * fN f < j) : fAdd f x y l j = f j := by
  unfold fAdd
  rw [if_neg h0, if_neg (by omega), if_neg (by omega), if_neg (by omega)]
theorem fAdd_c {f : Nat → Int32} {x y l : Int32} (hn : fN f < 12) : fC (fAdd f x y l) = fC f := by
  unfold fC
  rw [fAdd_e (by decide) (by omega)]
theorem fAdd_bd {f : Nat → Int32} {x y l : Int32} (hS : ShF f) (hB : BdF f) (hn : fN f < 12) (hx : inR x 9999 ∧ inR y 9999 ∧ 1 ≤ l ∧ l ≤ 20000) : BdF (fAdd f x y l) := by
  obtain ⟨h1, h2, h3, h4, h5⟩ := hB
  obtain ⟨x1, x2, x3, x4⟩ := hx
  refine ⟨fun i hi => ?_, by rw [fAdd_e (by decide) (by omega)]; exact h2, by rw [fAdd_e (by decide) (by omega)]; exact h3, fun i hi k hk => ?_, fun i h6 hi k hk => ?_⟩
  · rw [fAdd_n hS hn] at hi
    by_cases e : i = fN f
    · subst e
      have a1 : fAdd f x y l (1 + 3 * fN f + 0) = x := by unfold fAdd; rw [if_neg (by omega), if_pos (by omega)]
      have a2 : fAdd f x y l (1 + 3 * fN f + 1) = y := by unfold fAdd; rw [if_neg (by omega), if_neg (by omega), if_pos (by omega)]
      have a3 : fAdd f x y l (1 + 3 * fN f + 2) = l := by unfold fAdd; rw [if_neg (by omega), if_neg (by omega), if_neg (by omega), if_pos (by omega)]
      rw [a1, a2, a3]
      rw [Int32.le_iff_toInt_le] at x3 x4
      exact ⟨inR_bi rfl rfl x1, inR_bi rfl rfl x2, x3, x4⟩
    · rw [fAdd_e (by omega) (by omega), fAdd_e (by omega) (by omega), fAdd_e (by omega) (by omega)]
      exact h1 i (by omega)
  · rw [fAdd_c hn] at hi
    have eb : bN (fAdd f x y l) i = bN f i := by unfold bN; rw [fAdd_e (by omega) (by omega)]
    rw [eb] at hk
    have e1 : fX (fAdd f x y l) i k = fX f i k := fAdd_e (by omega) (by omega)
    have e2 : fY (fAdd f x y l) i k = fY f i k := fAdd_e (by omega) (by omega)
    rw [e1, e2]
    exact h4 i hi k hk
  · rw [fAdd_c hn] at h6
    rw [fAdd_e (by omega) (by omega)]
    exact h5 i h6 hi k hk
theorem fTake_e {f : Nat → Int32} {j : Nat} (h0 : j ≠ 0) (h : j + 2 < 3 * fN f ∨ 3 * fN f < j) : fTake f j = f j := by
  unfold fTake
  rw [if_neg h0, if_neg (by omega)]
theorem fTake_bd {f : Nat → Int32} (hS : ShF f) (hB : BdF f) (hn : 0 < fN f) : BdF (fTake f) := by
  obtain ⟨h1, h2, h3, h4, h5⟩ := hB
  have h12 := hS.2.1
  have en : fN (fTake f) = fN f - 1 := fN_of (by
    rw [fTake_0, hS.1]
    exact nI_sub1 hn) (by omega)
  have ec : fC (fTake f) = fC f := by unfold fC; rw [fTake_e (by decide) (by omega)]
  refine ⟨fun i hi => ?_, by rw [fTake_e (by decide) (by omega)]; exact h2, by rw [fTake_e (by decide) (by omega)]; exact h3, fun i hi k hk => ?_, fun i h6 hi k hk => ?_⟩
  · rw [en] at hi
    rw [fTake_e (by omega) (by omega), fTake_e (by omega) (by omega), fTake_e (by omega) (by omega)]
    exact h1 i (by omega)
  · rw [ec] at hi
    have eb : bN (fTake f) i = bN f i := by unfold bN; rw [fTake_e (by omega) (by omega)]
    rw [eb] at hk
    have e1 : fX (fTake f) i k = fX f i k := fTake_e (by omega) (by omega)
    have e2 : fY (fTake f) i k = fY f i k := fTake_e (by omega) (by omega)
    rw [e1, e2]
    exact h4 i hi k hk
  · rw [ec] at h6
    rw [fTake_e (by omega) (by omega)]
    exact h5 i h6 hi k hk
theorem fOrg_bd {f : Nat → Int32} {x y : Int32} (hS : ShF f) (hB : BdF f) (hx : inR x 50000 ∧ inR y 50000) : BdF (fOrg f x y) := by
  obtain ⟨h1, h2, h3, h4, h5⟩ := hB
  have h12 := hS.2.1
  have e : ∀ j, j ≠ 37 → j ≠ 38 → fOrg f x y j = f j := fun j a b => by unfold fOrg; rw [if_neg a, if_neg b]
  have en : fN (fOrg f x y) = fN f := by unfold fN; rw [e _ (by decide) (by decide)]
  have ec : fC (fOrg f x y) = fC f := by unfold fC; rw [e _ (by decide) (by decide)]
  have e37 : fOrg f x y 37 = x := if_pos rfl
  have e38 : fOrg f x y 38 = y := by unfold fOrg; rw [if_neg (by decide), if_pos rfl]
  refine ⟨fun i hi => ?_, by rw [e37]; exact inR_bi rfl rfl hx.1, by rw [e38]; exact inR_bi rfl rfl hx.2, fun i hi k hk => ?_, fun i h6 hi k hk => ?_⟩
  · rw [en] at hi
    rw [e _ (by omega) (by omega), e _ (by omega) (by omega), e _ (by omega) (by omega)]
    exact h1 i hi
  · rw [ec] at hi
    have eb : bN (fOrg f x y) i = bN f i := by unfold bN; rw [e _ (by omega) (by omega)]
    rw [eb] at hk
    have e1 : fX (fOrg f x y) i k = fX f i k := e _ (by omega) (by omega)
    have e2 : fY (fOrg f x y) i k = fY f i k := e _ (by omega) (by omega)
    rw [e1, e2]
    exact h4 i hi k hk
  · rw [ec] at h6
    rw [e _ (by omega) (by omega)]
    exact h5 i h6 hi k hk
