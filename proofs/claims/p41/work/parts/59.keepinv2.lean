/-! THE BOUNDS are kept, further -/
theorem fKeep_e {f : Nat → Int32} {j : Nat} (h1 : 3 * fN f < j) (h0 : j ≠ 0) (h9 : j ≠ 39) (h : j < 40 + 25 * fC f ∨ 40 + 25 * fC f + 2 * fN f < j) : fKeep f j = f j := by
  unfold fKeep
  rw [if_neg h0, if_neg (by omega), if_neg h9, if_neg (by omega)]
theorem fKeep_b {f : Nat → Int32} {k : Nat} (h12 : fN f ≤ 12) (hk : k ≤ 2 * fN f) : fKeep f (40 + 25 * fC f + k) = adB f (fN f) k := by
  unfold fKeep
  rw [if_neg (by omega), if_neg (by omega), if_neg (by omega), if_pos (by omega), show 40 + 25 * fC f + k - (40 + 25 * fC f) = k by omega]
theorem fKeep_bd {f : Nat → Int32} (hS : ShF f) (hB : BdF f) (h6 : fC f < 6) : BdF (fKeep f) := by
  have hBB := hB
  obtain ⟨h1, h2, h3, h4, h5⟩ := hB
  have h12 := hS.2.1
  have en : fN (fKeep f) = 0 := fN_of (n := 0) (if_pos rfl) (by omega)
  have e39 : fKeep f 39 = nI (fC f + 1) := by unfold fKeep; rw [if_neg (by decide), if_neg (by omega), if_pos rfl]
  have ec : fC (fKeep f) = fC f + 1 := fC_of e39 (by omega)
  refine ⟨fun i hi => by rw [en] at hi; omega, by rw [fKeep_e (by omega) (by decide) (by decide) (by omega)]; exact h2, by rw [fKeep_e (by omega) (by decide) (by decide) (by omega)]; exact h3, fun i hi k hk => ?_, fun i h7 hi k hk => ?_⟩
  · rw [ec] at hi
    by_cases e : i = fC f
    · subst e
      have eb : bN (fKeep f) (fC f) = fN f := by
        unfold bN
        have e0 := fKeep_b (f := f) (k := 0) h12 (by omega)
        rw [show 40 + 25 * fC f + 0 = 40 + 25 * fC f from rfl] at e0
        rw [e0, show adB f (fN f) 0 = nI (fN f) from if_pos rfl]
        exact nI_clamp (by omega)
      rw [eb] at hk
      have hb := adB_bd hBB h12 k hk
      have e1 : fX (fKeep f) (fC f) k = bX (adB f (fN f)) k := fKeep_b h12 (by omega)
      have e2 : fY (fKeep f) (fC f) k = bY (adB f (fN f)) k := fKeep_b h12 (by omega)
      rw [e1, e2]
      exact hb
    · have hi' : i < fC f := by omega
      have hbi := (hS.2.2.2.2 i hi').2.2
      have eb : bN (fKeep f) i = bN f i := by unfold bN; rw [fKeep_e (by omega) (by omega) (by omega) (by omega)]
      rw [eb] at hk
      have e1 : fX (fKeep f) i k = fX f i k := fKeep_e (by omega) (by omega) (by omega) (by omega)
      have e2 : fY (fKeep f) i k = fY f i k := fKeep_e (by omega) (by omega) (by omega) (by omega)
      rw [e1, e2]
      exact h4 i hi' k hk
  · rw [ec] at h7
    rw [fKeep_e (by omega) (by omega) (by omega) (by omega)]
    exact h5 i (by omega) hi k hk
theorem fGive_bd {f : Nat → Int32} {x : Nat} (hS : ShF f) (hB : BdF f) (hx : x < fC f) : BdF (fGive f x) := by
  obtain ⟨h1, h2, h3, h4, h5⟩ := hB
  have h12 := hS.2.1
  have h6 := hS.2.2.2.1
  have e : ∀ j, j ≠ 39 → (j < 40 + 25 * x ∨ 40 + 25 * fC f ≤ j) → fGive f x j = f j := fun j a b => by
    unfold fGive
    rw [if_neg a, if_neg (by omega), if_neg (by omega)]
  have en : fN (fGive f x) = fN f := by unfold fN; rw [e _ (by decide) (by omega)]
  have e39 : fGive f x 39 = nI (fC f - 1) := if_pos rfl
  have ec : fC (fGive f x) = fC f - 1 := fC_of e39 (by omega)
  refine ⟨fun i hi => ?_, by rw [e _ (by decide) (by omega)]; exact h2, by rw [e _ (by decide) (by omega)]; exact h3, fun i hi k hk => ?_, fun i h7 hi k hk => ?_⟩
  · rw [en] at hi
    rw [e _ (by omega) (by omega), e _ (by omega) (by omega), e _ (by omega) (by omega)]
    exact h1 i hi
  · rw [ec] at hi
    by_cases hix : i < x
    · have hbi := (hS.2.2.2.2 i (by omega)).2.2
      have eb : bN (fGive f x) i = bN f i := by unfold bN; rw [e _ (by omega) (by omega)]
      rw [eb] at hk
      have e1 : fX (fGive f x) i k = fX f i k := e _ (by omega) (by omega)
      have e2 : fY (fGive f x) i k = fY f i k := e _ (by omega) (by omega)
      rw [e1, e2]
      exact h4 i (by omega) k hk
    · have hbi := (hS.2.2.2.2 (i + 1) (by omega)).2.2
      have e3 : ∀ q, q < 25 → fGive f x (40 + 25 * i + q) = f (40 + 25 * (i + 1) + q) := fun q hq => by
        unfold fGive
        rw [if_neg (by omega), if_pos (by omega)]
        exact congrArg f (by omega)
      have eb : bN (fGive f x) i = bN f (i + 1) := by
        unfold bN
        have := e3 0 (by decide)
        rw [show 40 + 25 * i + 0 = 40 + 25 * i from rfl] at this
        rw [this]
        rfl
      rw [eb] at hk
      have e1 : fX (fGive f x) i k = fX f (i + 1) k := e3 _ (by omega)
      have e2 : fY (fGive f x) i k = fY f (i + 1) k := e3 _ (by omega)
      rw [e1, e2]
      exact h4 (i + 1) (by omega) k hk
  · rw [ec] at h7
    by_cases q : i = fC f - 1
    · subst q
      unfold fGive
      rw [if_neg (by omega), if_neg (by omega), if_pos (by omega)]
    · rw [e _ (by omega) (by omega)]
      exact h5 i (by omega) hi k hk
