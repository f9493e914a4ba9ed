/-! ROWS that agree below 190 -/
def Ag (f g : Nat → Int32) : Prop := ∀ j, j < 190 → f j = g j
theorem Ag.n {f g : Nat → Int32} (h : Ag f g) : fN f = fN g := by unfold fN; rw [h 0 (by decide)]
theorem Ag.c {f g : Nat → Int32} (h : Ag f g) : fC f = fC g := by unfold fC; rw [h 39 (by decide)]
theorem Ag.b {f g : Nat → Int32} {i : Nat} (h : Ag f g) (hi : i < 6) : bN f i = bN g i := by unfold bN; rw [h _ (by omega)]
theorem ShF.ag {f g : Nat → Int32} (h : Ag f g) (hS : ShF g) : ShF f := by
  obtain ⟨h1, h2, h3, h4, h5⟩ := hS
  refine ⟨by rw [h 0 (by decide), h.n]; exact h1, by rw [h.n]; exact h2, by rw [h 39 (by decide), h.c]; exact h3, by rw [h.c]; exact h4, fun i hi => ?_⟩
  rw [h.c] at hi
  rw [h.b (by omega), h _ (by omega)]
  exact h5 i hi
theorem BdF.ag {f g : Nat → Int32} (h : Ag f g) (hS : ShF g) (hB : BdF g) : BdF f := by
  obtain ⟨h1, h2, h3, h4, h5⟩ := hB
  obtain ⟨-, s2, -, s4, s5⟩ := hS
  refine ⟨fun i hi => ?_, by rw [h 37 (by decide)]; exact h2, by rw [h 38 (by decide)]; exact h3, fun i hi k hk => ?_, fun i h6 hi k hk => ?_⟩
  · rw [h.n] at hi
    rw [h _ (by omega), h _ (by omega), h _ (by omega)]
    exact h1 i hi
  · rw [h.c] at hi
    rw [h.b (by omega)] at hk
    have := (s5 i hi).2.2
    have e1 : fX f i k = fX g i k := h _ (by omega)
    have e2 : fY f i k = fY g i k := h _ (by omega)
    rw [e1, e2]
    exact h4 i hi k hk
  · rw [h.c] at h6
    rw [h _ (by omega)]
    exact h5 i h6 hi k hk
theorem RelS.ag {M : mM} {s : Nat} {f g : Nat → Int32} (h : Ag f g) (hR : RelS M s g) : RelS M s f := by
  obtain ⟨hs, ⟨n, h1, h2, h3, h4, h5, h6⟩, c, g1, g2, g3, g4⟩ := hR
  refine ⟨hs, ⟨n, by rw [h 0 (by decide)]; exact h1, h2, h3, by rw [h 37 (by decide)]; exact h4, by rw [h 38 (by decide)]; exact h5, fun w hw j hj => ?_⟩, c, by rw [h 39 (by decide)]; exact g1, g2, g3, fun i hi => ?_⟩
  · rw [h6 w hw j hj]
    exact bef_congr (fun i hi => (h _ (by omega)).symm)
  · obtain ⟨m, hm⟩ := g4 i hi
    exact ⟨m, hm.congr (fun k hk => h _ (by omega)) rfl rfl rfl⟩
/-! WHAT AN ACTION KEEPS -/
theorem fKeep_hi {f : Nat → Int32} (h12 : fN f ≤ 12) (hc : fC f < 6) {j : Nat} (hj : 190 ≤ j) : fKeep f j = f j := by
  unfold fKeep
  rw [if_neg (by omega), if_neg (by omega), if_neg (by omega), if_neg (by omega)]
theorem fGive_hi {f : Nat → Int32} {x : Nat} (hc : fC f ≤ 6) {j : Nat} (hj : 190 ≤ j) : fGive f x j = f j := by
  unfold fGive
  rw [if_neg (by omega), if_neg (by omega), if_neg (by omega)]
theorem fTake_hi {f : Nat → Int32} (h12 : fN f ≤ 12) {j : Nat} (hj : 190 ≤ j) : fTake f j = f j := by
  unfold fTake
  rw [if_neg (by omega), if_neg (by omega)]
theorem fAdd_hi {f : Nat → Int32} {x y l : Int32} (h12 : fN f < 12) {j : Nat} (hj : 190 ≤ j) : fAdd f x y l j = f j := by
  unfold fAdd
  rw [if_neg (by omega), if_neg (by omega), if_neg (by omega), if_neg (by omega)]
