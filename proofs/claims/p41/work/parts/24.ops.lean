/-! WHAT THE ACTIONS DO to the row of 190 numbers -/
def fN (f : Nat → Int32) : Nat := (f 0).toNatClampNeg
def fC (f : Nat → Int32) : Nat := (f 39).toNatClampNeg
def fAdd (f : Nat → Int32) (e o l : Int32) : Nat → Int32 := fun j => if j = 0 then f 0 + 1 else if j = 1 + 3 * fN f then e else if j = 2 + 3 * fN f then o else if j = 3 + 3 * fN f then l else f j
def fTake (f : Nat → Int32) : Nat → Int32 := fun j => if j = 0 then f 0 - 1 else if 3 * fN f ≤ j + 2 ∧ j ≤ 3 * fN f then 0 else f j
def fOrg (f : Nat → Int32) (x y : Int32) : Nat → Int32 := fun j => if j = 37 then x else if j = 38 then y else f j
def shF (f : Nat → Int32) (n c : Nat) (err : Int32) : Int32 := if 0 < (bef f 2 n).toInt64 then (jfloor (err.toInt64 * (bef f 2 c).toInt64) (bef f 2 n).toInt64).toInt32 else 0
def adjF (f : Nat → Int32) (n c w : Nat) : Int32 := f (37 + w) + bef f w c - shF f n c (bef f w n)
def closeF (f : Nat → Int32) (n : Nat) : Bool := decide (200 * (iabs (bef f 0 n) + iabs (bef f 1 n)) ≤ bef f 2 n)
/-- the adjusted traverse, as a field's block -/
def adB (f : Nat → Int32) (n : Nat) : Nat → Int32 := fun k => if k = 0 then nI n else if k % 2 = 1 then adjF f n ((k - 1) / 2) 0 else adjF f n ((k - 2) / 2) 1
def crB (b : Nat → Int32) (m i : Nat) : Int64 := (b (1 + 2 * i)).toInt64 * (b (2 + 2 * nx m i)).toInt64 - (b (2 + 2 * i)).toInt64 * (b (1 + 2 * nx m i)).toInt64
def twB (b : Nat → Int32) (m : Nat) : Int64 := labs (sumL (crB b m) m)
def canKeepF (f : Nat → Int32) : Bool := decide (3 ≤ fN f) && (closeF f (fN f) && (decide (fC f < 6) && !decide (twB (adB f (fN f)) (fN f) = 0)))
def fKeep (f : Nat → Int32) : Nat → Int32 := fun j => if j = 0 then 0 else if j ≤ 3 * fN f then 0 else if j = 39 then nI (fC f + 1) else if 40 + 25 * fC f ≤ j ∧ j ≤ 40 + 25 * fC f + 2 * fN f then adB f (fN f) (j - (40 + 25 * fC f)) else f j
def fGive (f : Nat → Int32) (x : Nat) : Nat → Int32 := fun j => if j = 39 then nI (fC f - 1) else if 40 + 25 * x ≤ j ∧ j < 40 + 25 * (fC f - 1) then f (j + 25) else if 40 + 25 * (fC f - 1) ≤ j ∧ j < 40 + 25 * fC f then 0 else f j
theorem bef_congr {f g : Nat → Int32} {w : Nat} : ∀ {j : Nat}, (∀ i, i < j → g (1 + 3 * i + w) = f (1 + 3 * i + w)) → bef g w j = bef f w j := by
  intro j
  induction j with
  | zero => intro _; rfl
  | succ j ih =>
    intro h
    show bef g w j + g (1 + 3 * j + w) = bef f w j + f (1 + 3 * j + w)
    rw [ih (fun i hi => h i (by omega)), h j (by omega)]
theorem FdR.congr {M M' : mM} {s i m : Nat} {b b' : Nat → Int32} (hb : ∀ k, k < 25 → b' k = b k) (h0 : M' (0, s, i) = M (0, s, i)) (h8 : M' (8, s, i) = M (8, s, i)) (h9 : M' (9, s, i) = M (9, s, i)) (h : FdR M s i b m) : FdR M' s i b' m := by
  obtain ⟨a1, a2, a3, a4, a5⟩ := h
  refine ⟨(hb 0 (by omega)).trans a1, a2, a3, by rw [h0]; exact a4, fun k hk => ?_⟩
  rw [h8, h9, hb _ (by omega), hb _ (by omega)]
  exact a5 k hk
theorem RelS.n {M : mM} {s : Nat} {f : Nat → Int32} (h : RelS M s f) : TrR M s f (fN f) := by
  obtain ⟨-, ⟨n, hn⟩, -⟩ := h
  have e : fN f = n := by
    unfold fN
    rw [hn.1]
    exact nI_clamp (by have := hn.2.1; omega)
  rw [e]
  exact hn
theorem RelS.c {M : mM} {s : Nat} {f : Nat → Int32} (h : RelS M s f) : f 39 = nI (fC f) ∧ fC f ≤ 6 ∧ M (3, s, 0) 2 = nI (fC f) ∧ ∀ i, i < fC f → ∃ m, FdR M s i (blk f i) m := by
  obtain ⟨-, -, c, g1, g2, g3, g4⟩ := h
  have e : fC f = c := by
    unfold fC
    rw [g1]
    exact nI_clamp (by omega)
  rw [e]
  exact ⟨g1, g2, g3, g4⟩
theorem fN_of {f : Nat → Int32} {n : Nat} (h : f 0 = nI n) (hn : n < 2 ^ 31 := by omega) : fN f = n := by unfold fN; rw [h]; exact nI_clamp hn
theorem fC_of {f : Nat → Int32} {n : Nat} (h : f 39 = nI n) (hn : n < 2 ^ 31 := by omega) : fC f = n := by unfold fC; rw [h]; exact nI_clamp hn
/-- a leg more -/
theorem tApp_rel {M : mM} {s : Nat} {f : Nat → Int32} {e o l : Int32} (hR : RelS M s f) (hn : fN f < 12) : RelS (tApp M s (fN f) e o l) s (fAdd f e o l) ∧ Fr s M (tApp M s (fN f) e o l) := by
  have hT := hR.n
  obtain ⟨hs, -⟩ := id hR
  obtain ⟨c, hc⟩ : ∃ c, c = fC f := ⟨_, rfl⟩
  have hC := hR.c
  rw [← hc] at hC
  generalize hN : fN f = n at hT hn ⊢
  obtain ⟨h1, h2, h3, h4, h5, h6⟩ := hT
  obtain ⟨g1, g2, g3, g4⟩ := hC
  have hfr : Fr s M (tApp M s n e o l) := by
    unfold tApp
    refine Fr.up (Fr.up (Fr.up (Fr.up Fr.rf ?_) ?_) ?_) ?_ <;> exact ⟨rfl, by simp⟩
  have hb : ∀ w, w < 3 → ∀ j, j ≤ n → bef (fAdd f e o l) w j = bef f w j := fun w hw j hj => bef_congr (fun i hi => by
    unfold fAdd
    rw [hN, if_neg (by omega), if_neg (by omega), if_neg (by omega), if_neg (by omega)])
  refine ⟨⟨hs, ⟨n + 1, ?_, by omega, ?_, ?_, ?_, fun w hw j hj => ?_⟩, c, ?_, g2, ?_, fun i hi => ?_⟩, hfr⟩
  · show f 0 + 1 = nI (n + 1)
    rw [h1, nI_1]
  · simp [tApp, mUp_at]
  · rw [show tApp M s n e o l (4, s, 0) 3 = M (4, s, 0) 3 by simp [tApp, mUp_at], h4]
    unfold fAdd
    rw [hN, if_neg (by omega), if_neg (by omega), if_neg (by omega), if_neg (by omega)]
  · rw [show tApp M s n e o l (4, s, 0) 4 = M (4, s, 0) 4 by simp [tApp, mUp_at], h5]
    unfold fAdd
    rw [hN, if_neg (by omega), if_neg (by omega), if_neg (by omega), if_neg (by omega)]
  · by_cases hj2 : j ≤ n
    · have hne : ¬ j = n + 1 := by omega
      rw [hb w hw j hj2, ← h6 w hw j hj2]
      obtain rfl | rfl | rfl : w = 0 ∨ w = 1 ∨ w = 2 := by omega
      all_goals simp [tApp, mUp_at, hne]
    · obtain rfl : j = n + 1 := by omega
      show _ = bef (fAdd f e o l) w n + fAdd f e o l (1 + 3 * n + w)
      rw [hb w hw n (Nat.le_refl n), ← h6 w hw n (Nat.le_refl n)]
      obtain rfl | rfl | rfl : w = 0 ∨ w = 1 ∨ w = 2 := by omega
      · rw [show fAdd f e o l (1 + 3 * n + 0) = e by unfold fAdd; rw [hN, if_neg (by omega), if_pos (by omega)]]
        simp [tApp, mUp_at]
      · rw [show fAdd f e o l (1 + 3 * n + 1) = o by unfold fAdd; rw [hN, if_neg (by omega), if_neg (by omega), if_pos (by omega)]]
        simp [tApp, mUp_at]
      · rw [show fAdd f e o l (1 + 3 * n + 2) = l by unfold fAdd; rw [hN, if_neg (by omega), if_neg (by omega), if_neg (by omega), if_pos (by omega)]]
        simp [tApp, mUp_at]
  · unfold fAdd
    rw [hN, if_neg (by omega), if_neg (by omega), if_neg (by omega), if_neg (by omega)]
    exact g1
  · rw [show tApp M s n e o l (3, s, 0) 2 = M (3, s, 0) 2 by simp [tApp, mUp_at]]
    exact g3
  · obtain ⟨m, hm⟩ := g4 i hi
    refine ⟨m, hm.congr (fun k hk => ?_) ?_ ?_ ?_⟩
    · unfold blk fAdd
      rw [hN, if_neg (by omega), if_neg (by omega), if_neg (by omega), if_neg (by omega)]
    all_goals (funext q; simp [tApp, mUp_at])
/-- a leg less -/
theorem tDrop_rel {M : mM} {s : Nat} {f : Nat → Int32} (hR : RelS M s f) (hn : 0 < fN f) : RelS (mUp M (4, s, 0) 5 (nI (fN f - 1))) s (fTake f) ∧ Fr s M (mUp M (4, s, 0) 5 (nI (fN f - 1))) := by
  have hT := hR.n
  obtain ⟨hs, -⟩ := id hR
  obtain ⟨c, hc⟩ : ∃ c, c = fC f := ⟨_, rfl⟩
  have hC := hR.c
  rw [← hc] at hC
  generalize hN : fN f = n at hT hn ⊢
  obtain ⟨h1, h2, h3, h4, h5, h6⟩ := hT
  obtain ⟨g1, g2, g3, g4⟩ := hC
  obtain ⟨z, rfl⟩ : ∃ z, n = z + 1 := ⟨n - 1, by omega⟩
  have hfr : Fr s M (mUp M (4, s, 0) 5 (nI (z + 1 - 1))) := by
    refine Fr.up Fr.rf ?_ ; exact ⟨rfl, by simp⟩
  have ht : ∀ j, ¬ j = 0 → (j < 3 * z + 1 ∨ 3 * z + 3 < j) → fTake f j = f j := fun j h0 h => by
    unfold fTake
    rw [hN, if_neg h0, if_neg (by omega)]
  have e9 : ∀ r q, r ≠ (4, s, 0) → mUp M (4, s, 0) 5 (nI (z + 1 - 1)) r q = M r q := fun r q h => by rw [mUp_ne h]
  refine ⟨⟨hs, ⟨z, ?_, by omega, ?_, ?_, ?_, fun w hw j hj => ?_⟩, c, ?_, g2, ?_, fun i hi => ?_⟩, hfr⟩
  · show f 0 - 1 = nI z
    rw [h1, nI_pred]
  · simp [mUp_at]
  · rw [ht 37 (by omega) (by omega), ← h4]; simp [mUp_at]
  · rw [ht 38 (by omega) (by omega), ← h5]; simp [mUp_at]
  · rw [e9 _ _ (by simp), h6 w hw j (by omega)]
    exact (bef_congr (fun i hi => ht _ (by omega) (by omega))).symm
  · rw [ht 39 (by omega) (by omega)]; exact g1
  · rw [e9 _ _ (by simp)]; exact g3
  · obtain ⟨m, hm⟩ := g4 i hi
    refine ⟨m, hm.congr (fun k hk => ?_) ?_ ?_ ?_⟩
    · exact ht _ (by omega) (by omega)
    all_goals (rw [mUp_ne (by simp)])
theorem tOrg_rel {M : mM} {s : Nat} {f : Nat → Int32} {x y : Int32} (hR : RelS M s f) : RelS (mUp (mUp M (4, s, 0) 3 x) (4, s, 0) 4 y) s (fOrg f x y) ∧ Fr s M (mUp (mUp M (4, s, 0) 3 x) (4, s, 0) 4 y) := by
  obtain ⟨hs, ⟨n, h1, h2, h3, h4, h5, h6⟩, c, g1, g2, g3, g4⟩ := hR
  have ht : ∀ j, ¬ j = 37 → ¬ j = 38 → fOrg f x y j = f j := fun j a b => by unfold fOrg; rw [if_neg a, if_neg b]
  have e9 : ∀ r q, r ≠ (4, s, 0) → mUp (mUp M (4, s, 0) 3 x) (4, s, 0) 4 y r q = M r q := fun r q h => by rw [mUp_ne h, mUp_ne h]
  refine ⟨⟨hs, ⟨n, by rw [ht 0 (by omega) (by omega)]; exact h1, h2, ?_, ?_, ?_, fun w hw j hj => ?_⟩, c, by rw [ht 39 (by omega) (by omega)]; exact g1, g2, by rw [e9 _ _ (by simp)]; exact g3, fun i hi => ?_⟩, ?_⟩
  · rw [← h3]; simp [mUp_at]
  · simp [mUp_at, fOrg]
  · simp [mUp_at, fOrg]
  · rw [e9 _ _ (by simp), h6 w hw j hj]
    exact (bef_congr (fun i hi => ht _ (by omega) (by omega))).symm
  · obtain ⟨m, hm⟩ := g4 i hi
    refine ⟨m, hm.congr (fun k hk => ht _ (by omega) (by omega)) ?_ ?_ ?_⟩
    all_goals (rw [mUp_ne (by simp), mUp_ne (by simp)])
  · refine Fr.up (Fr.up Fr.rf ?_) ?_ <;> exact ⟨rfl, by simp⟩
theorem tAdj_eq {M : mM} {s n c w : Nat} {f : Nat → Int32} (h : TrR M s f n) (hc : c ≤ n) (hw : w < 2) : tAdj M s n c w = adjF f n c w := by
  obtain ⟨h1, h2, h3, h4, h5, h6⟩ := h
  unfold tAdj adjF tShare shF
  rw [h6 2 (by omega) n (Nat.le_refl n), h6 2 (by omega) c hc, h6 w (by omega) n (Nat.le_refl n), h6 w (by omega) c hc]
  obtain rfl | rfl : w = 0 ∨ w = 1 := by omega
  · rw [show (3 + 0) = 3 from rfl, h4]
  · rw [show (3 + 1) = 4 from rfl, h5]
theorem tCloses_eq {M : mM} {s n : Nat} {f : Nat → Int32} (h : TrR M s f n) : tCloses M s n = bI (closeF f n) := by
  obtain ⟨h1, h2, h3, h4, h5, h6⟩ := h
  unfold tCloses closeF bI
  rw [h6 2 (by omega) n (Nat.le_refl n), h6 0 (by omega) n (Nat.le_refl n), h6 1 (by omega) n (Nat.le_refl n)]
  simp
theorem nx_in {m i : Nat} (hi : i < m) : nx m i < m := by unfold nx; split <;> omega
theorem sumL_congr {t t' : Nat → Int64} : ∀ {n : Nat}, (∀ i, i < n → t i = t' i) → sumL t n = sumL t' n := by
  intro n
  induction n with
  | zero => intro _; rfl
  | succ n ih =>
    intro h
    show sumL t n + t n = sumL t' n + t' n
    rw [ih (fun i hi => h i (by omega)), h n (by omega)]
theorem twC_eq {M : mM} {s j m : Nat} {b : Nat → Int32} (h : ∀ k, k < m → M (8, s, j) k = b (1 + 2 * k) ∧ M (9, s, j) k = b (2 + 2 * k)) : twC M s j m = twB b m := by
  unfold twC twB
  rw [sumL_congr (t' := crB b m) (fun i hi => by
    unfold crs crB
    rw [(h i hi).1, (h i hi).2, (h _ (nx_in hi)).1, (h _ (nx_in hi)).2])]
