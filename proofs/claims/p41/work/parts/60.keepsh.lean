/-! THE SHAPE is kept -/
theorem fAdd_sh {f : Nat → Int32} {x y l : Int32} (hS : ShF f) (hn : fN f < 12) : ShF (fAdd f x y l) := by
  have en := fAdd_n (x := x) (y := y) (l := l) hS hn
  have ec := fAdd_c (f := f) (x := x) (y := y) (l := l) hn
  obtain ⟨h1, h2, h3, h4, h5⟩ := hS
  refine ⟨?_, by rw [en]; omega, by rw [ec, fAdd_e (by decide) (by omega)]; exact h3, by rw [ec]; exact h4, fun i hi => ?_⟩
  · rw [en]
    show f 0 + 1 = _
    rw [h1, nI_1]
  · rw [ec] at hi
    have eb : bN (fAdd f x y l) i = bN f i := by unfold bN; rw [fAdd_e (by omega) (by omega)]
    rw [eb, fAdd_e (by omega) (by omega)]
    exact h5 i hi
theorem fTake_sh {f : Nat → Int32} (hS : ShF f) (hn : 0 < fN f) : ShF (fTake f) := by
  obtain ⟨h1, h2, h3, h4, h5⟩ := hS
  have e0 : fTake f 0 = nI (fN f - 1) := by
    rw [fTake_0, h1]
    exact nI_sub1 hn
  have en : fN (fTake f) = fN f - 1 := fN_of e0 (by omega)
  have ec : fC (fTake f) = fC f := by unfold fC; rw [fTake_e (by decide) (by omega)]
  refine ⟨by rw [en]; exact e0, by rw [en]; omega, by rw [ec, fTake_e (by decide) (by omega)]; exact h3, by rw [ec]; exact h4, fun i hi => ?_⟩
  rw [ec] at hi
  have eb : bN (fTake f) i = bN f i := by unfold bN; rw [fTake_e (by omega) (by omega)]
  rw [eb, fTake_e (by omega) (by omega)]
  exact h5 i hi
theorem fKeep_sh {f : Nat → Int32} (hS : ShF f) (h3n : 3 ≤ fN f) (h6 : fC f < 6) : ShF (fKeep f) := by
  obtain ⟨h1, h12, h3, h4, h5⟩ := hS
  have e0 : fKeep f 0 = nI 0 := if_pos rfl
  have en : fN (fKeep f) = 0 := fN_of (n := 0) e0 (by omega)
  have e39 : fKeep f 39 = nI (fC f + 1) := by unfold fKeep; rw [if_neg (by decide), if_neg (by omega), if_pos rfl]
  have ec : fC (fKeep f) = fC f + 1 := fC_of e39 (by omega)
  refine ⟨by rw [en]; exact e0, by rw [en]; omega, by rw [ec]; exact e39, by rw [ec]; omega, fun i hi => ?_⟩
  rw [ec] at hi
  by_cases e : i = fC f
  · subst e
    have e1 := fKeep_b (f := f) (k := 0) h12 (by omega)
    rw [show 40 + 25 * fC f + 0 = 40 + 25 * fC f from rfl, show adB f (fN f) 0 = nI (fN f) from if_pos rfl] at e1
    have eb : bN (fKeep f) (fC f) = fN f := by
      unfold bN
      rw [e1]
      exact nI_clamp (by omega)
    rw [eb]
    exact ⟨e1, h3n, h12⟩
  · have eb : bN (fKeep f) i = bN f i := by unfold bN; rw [fKeep_e (by omega) (by omega) (by omega) (by omega)]
    rw [eb, fKeep_e (by omega) (by omega) (by omega) (by omega)]
    exact h5 i (by omega)
theorem fGive_sh {f : Nat → Int32} {x : Nat} (hS : ShF f) (hx : x < fC f) : ShF (fGive f x) := by
  obtain ⟨h1, h12, h3, h6, h5⟩ := hS
  have e : ∀ j, j ≠ 39 → (j < 40 + 25 * x ∨ 40 + 25 * fC f ≤ j) → fGive f x j = f j := fun j a b => by
    unfold fGive
    rw [if_neg a, if_neg (by omega), if_neg (by omega)]
  have en : fN (fGive f x) = fN f := by unfold fN; rw [e _ (by decide) (by omega)]
  have e39 : fGive f x 39 = nI (fC f - 1) := if_pos rfl
  have ec : fC (fGive f x) = fC f - 1 := fC_of e39 (by omega)
  refine ⟨by rw [en, e _ (by decide) (by omega)]; exact h1, by rw [en]; exact h12, by rw [ec]; exact e39, by rw [ec]; omega, fun i hi => ?_⟩
  rw [ec] at hi
  by_cases hix : i < x
  · have eb : bN (fGive f x) i = bN f i := by unfold bN; rw [e _ (by omega) (by omega)]
    rw [eb, e _ (by omega) (by omega)]
    exact h5 i (by omega)
  · have e3 : fGive f x (40 + 25 * i) = f (40 + 25 * (i + 1)) := by
      unfold fGive
      rw [if_neg (by omega), if_pos (by omega)]
      exact congrArg f (by omega)
    have eb : bN (fGive f x) i = bN f (i + 1) := by
      unfold bN
      rw [e3]
    rw [eb, e3]
    exact h5 (i + 1) (by omega)
theorem can_3 {f : Nat → Int32} (h : canKeepF f = true) : 3 ≤ fN f := by
  unfold canKeepF at h
  simp at h
  exact h.1
