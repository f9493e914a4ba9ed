/-! WHAT EVERY STATE OF THE LAW KEEPS -/
def PdF (f : Nat → Int32) : Prop := ∀ i, i < fC f → 0 < (twF f i).toInt ∧ ∀ k, k < bN f i → bi (fX f i k) 180000 ∧ bi (fY f i k) 180000
def Gp (f : Nat → Int32) : Prop := ShF f ∧ BdF f ∧ PdF f
def Ip (f : Nat → Int32) (hs : List (Nat → Int32)) (sn : Option (Nat → Int32)) : Prop := Gp f ∧ (∀ g ∈ hs, Gp g) ∧ ∀ g, sn = some g → Gp g
theorem Ip.push {f g : Nat → Int32} {hs : List (Nat → Int32)} {sn : Option (Nat → Int32)} (h : Ip f hs sn) (hg : Gp g) : Ip g ((f :: hs).take 4) sn := by
  refine ⟨hg, fun k hk => ?_, h.2.2⟩
  rcases List.mem_cons.mp (List.mem_of_mem_take hk) with e | e
  · rw [e]; exact h.1
  · exact h.2.1 k e
/-- the same block -/
def SbF (g : Nat → Int32) (i : Nat) (f : Nat → Int32) (j : Nat) : Prop := bN g i = bN f j ∧ ∀ k, k < bN f j → fX g i k = fX f j k ∧ fY g i k = fY f j k
theorem twF_sum (f : Nat → Int32) (i : Nat) : twF f i = labs (sumL (fun k => (fX f i k).toInt64 * (fY f i (nx (bN f i) k)).toInt64 - (fY f i k).toInt64 * (fX f i (nx (bN f i) k)).toInt64) (bN f i)) := rfl
theorem SbF.tw {f g : Nat → Int32} {i j : Nat} (h : SbF g i f j) : twF g i = twF f j := by
  obtain ⟨hb, h⟩ := h
  rw [twF_sum, twF_sum, hb]
  refine congrArg labs (sumL_congr (fun k hk => ?_))
  have h2 := nx_in hk
  rw [(h k hk).1, (h k hk).2, (h _ h2).1, (h _ h2).2]
theorem PdF.at {f g : Nat → Int32} {i j : Nat} (hP : PdF f) (hj : j < fC f) (h : SbF g i f j) : 0 < (twF g i).toInt ∧ ∀ k, k < bN g i → bi (fX g i k) 180000 ∧ bi (fY g i k) 180000 := by
  obtain ⟨h1, h2⟩ := hP j hj
  refine ⟨by rw [h.tw]; exact h1, fun k hk => ?_⟩
  rw [h.1] at hk
  rw [(h.2 k hk).1, (h.2 k hk).2]
  exact h2 k hk
theorem fAdd_sb {f : Nat → Int32} {x y l : Int32} {i : Nat} (hn : fN f < 12) : SbF (fAdd f x y l) i f i := by
  have eb : bN (fAdd f x y l) i = bN f i := by unfold bN; rw [fAdd_e (by omega) (by omega)]
  exact ⟨eb, fun k hk => ⟨fAdd_e (by omega) (by omega), fAdd_e (by omega) (by omega)⟩⟩
theorem fAdd_gp {f : Nat → Int32} {x y l : Int32} (h : Gp f) (hn : fN f < 12) (hx : inR x 9999 ∧ inR y 9999 ∧ 1 ≤ l ∧ l ≤ 20000) : Gp (fAdd f x y l) :=
  ⟨fAdd_sh h.1 hn, fAdd_bd h.1 h.2.1 hn hx, fun i hi => by rw [fAdd_c hn] at hi; exact h.2.2.at hi (fAdd_sb hn)⟩
theorem fTake_c {f : Nat → Int32} (h12 : fN f ≤ 12) : fC (fTake f) = fC f := by unfold fC; rw [fTake_e (by decide) (by omega)]
theorem fTake_sb {f : Nat → Int32} {i : Nat} (h12 : fN f ≤ 12) : SbF (fTake f) i f i := by
  have eb : bN (fTake f) i = bN f i := by unfold bN; rw [fTake_e (by omega) (by omega)]
  exact ⟨eb, fun k hk => ⟨fTake_e (by omega) (by omega), fTake_e (by omega) (by omega)⟩⟩
theorem fTake_gp {f : Nat → Int32} (h : Gp f) (hn : 0 < fN f) : Gp (fTake f) :=
  ⟨fTake_sh h.1 hn, fTake_bd h.1 h.2.1 hn, fun i hi => by rw [fTake_c h.1.2.1] at hi; exact h.2.2.at hi (fTake_sb h.1.2.1)⟩
theorem fOrg_e {f : Nat → Int32} {x y : Int32} {j : Nat} (a : j ≠ 37) (b : j ≠ 38) : fOrg f x y j = f j := by unfold fOrg; rw [if_neg a, if_neg b]
theorem fOrg_n {f : Nat → Int32} {x y : Int32} : fN (fOrg f x y) = fN f := by unfold fN; rw [fOrg_e (by decide) (by decide)]
theorem fOrg_c {f : Nat → Int32} {x y : Int32} : fC (fOrg f x y) = fC f := by unfold fC; rw [fOrg_e (by decide) (by decide)]
theorem fOrg_sb {f : Nat → Int32} {x y : Int32} {i : Nat} : SbF (fOrg f x y) i f i := by
  have eb : bN (fOrg f x y) i = bN f i := by unfold bN; rw [fOrg_e (by omega) (by omega)]
  exact ⟨eb, fun k hk => ⟨fOrg_e (by omega) (by omega), fOrg_e (by omega) (by omega)⟩⟩
theorem fOrg_sh {f : Nat → Int32} {x y : Int32} (hS : ShF f) : ShF (fOrg f x y) := by
  obtain ⟨h1, h12, h3, h4, h5⟩ := hS
  refine ⟨by rw [fOrg_n, fOrg_e (by decide) (by decide)]; exact h1, by rw [fOrg_n]; exact h12, by rw [fOrg_c, fOrg_e (by decide) (by decide)]; exact h3, by rw [fOrg_c]; exact h4, fun i hi => ?_⟩
  rw [fOrg_c] at hi
  rw [fOrg_sb.1, fOrg_e (by omega) (by omega)]
  exact h5 i hi
theorem fOrg_gp {f : Nat → Int32} {x y : Int32} (h : Gp f) (hx : inR x 50000 ∧ inR y 50000) : Gp (fOrg f x y) :=
  ⟨fOrg_sh h.1, fOrg_bd h.1 h.2.1 hx, fun i hi => by rw [fOrg_c] at hi; exact h.2.2.at hi fOrg_sb⟩
theorem fGive_c {f : Nat → Int32} {x : Nat} (h6 : fC f ≤ 6) : fC (fGive f x) = fC f - 1 := fC_of (if_pos rfl) (by omega)
theorem fGive_n {f : Nat → Int32} {x : Nat} (hx : x < fC f) : fN (fGive f x) = fN f := by
  unfold fN fGive
  rw [if_neg (by decide), if_neg (by omega), if_neg (by omega)]
theorem fGive_lo {f : Nat → Int32} {x i : Nat} (hS : ShF f) (hx : x < fC f) (hi : i < x) : SbF (fGive f x) i f i := by
  have e : ∀ j, j ≠ 39 → (j < 40 + 25 * x ∨ 40 + 25 * fC f ≤ j) → fGive f x j = f j := fun j a b => by
    unfold fGive
    rw [if_neg a, if_neg (by omega), if_neg (by omega)]
  have hbi := (hS.2.2.2.2 i (by omega)).2.2
  have eb : bN (fGive f x) i = bN f i := by unfold bN; rw [e _ (by omega) (by omega)]
  exact ⟨eb, fun k hk => ⟨e _ (by omega) (by omega), e _ (by omega) (by omega)⟩⟩
theorem fGive_hi {f : Nat → Int32} {x i : Nat} (hS : ShF f) (hx : x ≤ i) (hi : i < fC f - 1) : SbF (fGive f x) i f (i + 1) := by
  have hbi := (hS.2.2.2.2 (i + 1) (by omega)).2.2
  have e3 : ∀ q, q < 25 → fGive f x (40 + 25 * i + q) = f (40 + 25 * (i + 1) + q) := fun q hq => by
    unfold fGive
    rw [if_neg (by omega), if_pos (by omega)]
    exact congrArg f (by omega)
  have eb : bN (fGive f x) i = bN f (i + 1) := by
    unfold bN
    have := e3 0 (by decide)
    rw [show 40 + 25 * i + 0 = 40 + 25 * i from rfl] at this
    rw [this]
    rfl
  exact ⟨eb, fun k hk => ⟨e3 _ (by omega), e3 _ (by omega)⟩⟩
theorem fGive_gp {f : Nat → Int32} {x : Nat} (h : Gp f) (hx : x < fC f) : Gp (fGive f x) := by
  refine ⟨fGive_sh h.1 hx, fGive_bd h.1 h.2.1 hx, fun i hi => ?_⟩
  rw [fGive_c h.1.2.2.2.1] at hi
  by_cases q : i < x
  · exact h.2.2.at (by omega) (fGive_lo h.1 hx q)
  · exact h.2.2.at (by omega) (fGive_hi h.1 (by omega) hi)
/-- what a field given up takes from the sum -/
theorem give_sum {f : Nat → Int32} {x : Nat} (hS : ShF f) (hx : x < fC f) : sumL (twF (fGive f x)) (fC f - 1) = sumL (twF f) (fC f) - twF f x := by
  have lo : ∀ n, n ≤ x → sumL (twF (fGive f x)) n = sumL (twF f) n := fun n hn => sumL_congr (fun i hi => (fGive_lo hS hx (by omega)).tw)
  have hi : ∀ k, x + k ≤ fC f - 1 → sumL (twF (fGive f x)) (x + k) = sumL (twF f) (x + k + 1) - twF f x := by
    intro k
    induction k with
    | zero =>
      intro h
      have e := lo x (Nat.le_refl x)
      show sumL (twF (fGive f x)) x = sumL (twF f) x + twF f x - twF f x
      rw [e]
      grind
    | succ k ih =>
      intro h
      have e1 := ih (by omega)
      have e2 := (fGive_hi (x := x) (i := x + k) hS (by omega) (by omega)).tw
      show sumL (twF (fGive f x)) (x + k) + twF (fGive f x) (x + k) = sumL (twF f) (x + k + 1) + twF f (x + k + 1) - twF f x
      rw [e1, e2]
      grind
  have := hi (fC f - 1 - x) (by omega)
  rw [show x + (fC f - 1 - x) = fC f - 1 by omega, show fC f - 1 + 1 = fC f by omega] at this
  exact this
/-- the kept field -/
theorem adB_X {f : Nat → Int32} {n k : Nat} : bX (adB f n) k = adjF f n k 0 := by
  unfold bX adB
  rw [if_neg (by omega), if_pos (by omega), show (1 + 2 * k - 1) / 2 = k by omega]
theorem adB_Y {f : Nat → Int32} {n k : Nat} : bY (adB f n) k = adjF f n k 1 := by
  unfold bY adB
  rw [if_neg (by omega), if_neg (by omega), show (2 + 2 * k - 2) / 2 = k by omega]
theorem fKeep_N {f : Nat → Int32} : fN (fKeep f) = 0 := fN_of (n := 0) (if_pos rfl) (by omega)
theorem fKeep_39 {f : Nat → Int32} (h12 : fN f ≤ 12) : fKeep f 39 = nI (fC f + 1) := by unfold fKeep; rw [if_neg (by decide), if_neg (by omega), if_pos rfl]
theorem fKeep_C {f : Nat → Int32} (h12 : fN f ≤ 12) (h6 : fC f < 6) : fC (fKeep f) = fC f + 1 := fC_of (fKeep_39 h12) (by omega)
theorem fKeep_0 {f : Nat → Int32} (h12 : fN f ≤ 12) : fKeep f (40 + 25 * fC f) = nI (fN f) := by
  have e0 := fKeep_b (f := f) (k := 0) h12 (by omega)
  rw [show 40 + 25 * fC f + 0 = 40 + 25 * fC f from rfl] at e0
  rw [e0]
  exact if_pos rfl
theorem fKeep_bN {f : Nat → Int32} (h12 : fN f ≤ 12) : bN (fKeep f) (fC f) = fN f := by
  unfold bN
  rw [fKeep_0 h12]
  exact nI_clamp (by omega)
theorem fKeep_X {f : Nat → Int32} {k : Nat} (h12 : fN f ≤ 12) (hk : k < fN f) : fX (fKeep f) (fC f) k = adjF f (fN f) k 0 := by
  have e1 : fX (fKeep f) (fC f) k = bX (adB f (fN f)) k := fKeep_b h12 (by omega)
  exact e1.trans adB_X
theorem fKeep_Y {f : Nat → Int32} {k : Nat} (h12 : fN f ≤ 12) (hk : k < fN f) : fY (fKeep f) (fC f) k = adjF f (fN f) k 1 := by
  have e2 : fY (fKeep f) (fC f) k = bY (adB f (fN f)) k := fKeep_b h12 (by omega)
  exact e2.trans adB_Y
theorem fKeep_tw {f : Nat → Int32} (h12 : fN f ≤ 12) : twF (fKeep f) (fC f) = twB (adB f (fN f)) (fN f) := by
  rw [twF_sum, fKeep_bN h12]
  unfold twB
  refine congrArg labs (sumL_congr (fun k hk => ?_))
  have h2 := nx_in hk
  rw [fKeep_X h12 hk, fKeep_Y h12 hk, fKeep_X h12 h2, fKeep_Y h12 h2, ← adB_X, ← adB_Y, ← adB_X, ← adB_Y]
  rfl
theorem fKeep_sb {f : Nat → Int32} {i : Nat} (hS : ShF f) (hi : i < fC f) : SbF (fKeep f) i f i := by
  have h12 := hS.2.1
  have hbi := (hS.2.2.2.2 i hi).2.2
  have eb : bN (fKeep f) i = bN f i := by unfold bN; rw [fKeep_e (by omega) (by omega) (by omega) (by omega)]
  exact ⟨eb, fun k hk => ⟨fKeep_e (by omega) (by omega) (by omega) (by omega), fKeep_e (by omega) (by omega) (by omega) (by omega)⟩⟩
theorem can_all {f : Nat → Int32} (h : canKeepF f = true) : 3 ≤ fN f ∧ closeF f (fN f) = true ∧ fC f < 6 ∧ ¬ twB (adB f (fN f)) (fN f) = 0 := by
  unfold canKeepF at h
  simp at h
  exact h
theorem fKeep_gp {f : Nat → Int32} (h : Gp f) (hc : canKeepF f = true) : Gp (fKeep f) := by
  obtain ⟨h3n, hcl, h6, htw⟩ := can_all hc
  have h12 := h.1.2.1
  refine ⟨fKeep_sh h.1 h3n h6, fKeep_bd h.1 h.2.1 h6, fun i hi => ?_⟩
  rw [fKeep_C h12 h6] at hi
  by_cases q : i = fC f
  · subst q
    refine ⟨?_, fun k hk => ?_⟩
    · rw [fKeep_tw h12]
      have := (tw_rng (adB_bd h.2.1 h12) h12).1
      have h0 : ¬ (twB (adB f (fN f)) (fN f)).toInt = 0 := fun e => htw (Int64.toInt_inj.mp e)
      omega
    · rw [fKeep_bN h12] at hk
      rw [fKeep_X h12 hk, fKeep_Y h12 hk]
      exact ⟨adj_bd2 h.2.1 h12 hcl (by decide) (by omega), adj_bd2 h.2.1 h12 hcl (by decide) (by omega)⟩
  · exact h.2.2.at (by omega) (fKeep_sb h.1 (by omega))
