/-! A FIELD'S ANSWERS, of its block of the row alone -/
def bX (b : Nat → Int32) (k : Nat) : Int32 := b (1 + 2 * k)
def bY (b : Nat → Int32) (k : Nat) : Int32 := b (2 + 2 * k)
def dX (X : Nat → Int32) (m i : Nat) : Int64 := (X (nx m i)).toInt64 - (X i).toInt64
def trG (X Y : Nat → Int32) (m i : Nat) : Int64 := dX X m (pv m i) * dX Y m i - dX Y m (pv m i) * dX X m i
def stG (X Y : Nat → Int32) (m i : Nat) : Int64 := dX X m i * ((Y i).toInt64 + (Y (nx m i)).toInt64)
def smG (X Y X' Y' : Nat → Int32) (i j : Nat) : Bool := decide (X i = X' j) && decide (Y i = Y' j)
def sdG (X Y X' Y' : Nat → Int32) (m a b i : Nat) : Bool := (smG X Y X' Y' i a && smG X Y X' Y' (nx m i) b) || (smG X Y X' Y' i b && smG X Y X' Y' (nx m i) a)
theorem pv_in {m i : Nat} (hi : i < m) : pv m i < m := by unfold pv; split <;> omega
theorem dX_c {X X' : Nat → Int32} {m i : Nat} (h : ∀ k, k < m → X k = X' k) (hi : i < m) : dX X m i = dX X' m i := by
  unfold dX
  rw [h _ (nx_in hi), h i hi]
theorem trG_c {X X' Y Y' : Nat → Int32} {m i : Nat} (h : ∀ k, k < m → X k = X' k) (h2 : ∀ k, k < m → Y k = Y' k) (hi : i < m) : trG X Y m i = trG X' Y' m i := by
  unfold trG
  rw [dX_c h hi, dX_c h2 hi, dX_c h (pv_in hi), dX_c h2 (pv_in hi)]
theorem stG_c {X X' Y Y' : Nat → Int32} {m i : Nat} (h : ∀ k, k < m → X k = X' k) (h2 : ∀ k, k < m → Y k = Y' k) (hi : i < m) : stG X Y m i = stG X' Y' m i := by
  unfold stG
  rw [dX_c h hi, h2 _ (nx_in hi), h2 i hi]
theorem metV_c {X X' Y Y' : Nat → Int32} {m a b : Nat} {x y : Int32} (h : ∀ k, k < m → X k = X' k) (h2 : ∀ k, k < m → Y k = Y' k) (ha : a < m) (hb : b < m) : metV X Y x y a b = metV X' Y' x y a b := by
  have hu : (if y < Y' a then a else b) < m := by split <;> assumption
  have hl : (if (if y < Y' a then a else b) = a then b else a) < m := by (repeat' split) <;> assumption
  unfold metV
  simp only [h2 a ha, h2 b hb, h _ hu, h2 _ hu, h _ hl, h2 _ hl]
theorem minV_c {X X' : Nat → Int32} : ∀ {n : Nat}, (∀ k, k ≤ n → X k = X' k) → minV X n = minV X' n := by
  intro n
  induction n with
  | zero => intro h; exact h 0 (Nat.le_refl 0)
  | succ n ih =>
    intro h
    show (if X (n + 1) < minV X n then X (n + 1) else minV X n) = if X' (n + 1) < minV X' n then X' (n + 1) else minV X' n
    rw [ih (fun k hk => h k (by omega)), h (n + 1) (Nat.le_refl _)]
theorem maxV_c {X X' : Nat → Int32} : ∀ {n : Nat}, (∀ k, k ≤ n → X k = X' k) → maxV X n = maxV X' n := by
  intro n
  induction n with
  | zero => intro h; exact h 0 (Nat.le_refl 0)
  | succ n ih =>
    intro h
    show (if maxV X n < X (n + 1) then X (n + 1) else maxV X n) = if maxV X' n < X' (n + 1) then X' (n + 1) else maxV X' n
    rw [ih (fun k hk => h k (by omega)), h (n + 1) (Nat.le_refl _)]
theorem cntB_c {p q : Nat → Bool} : ∀ {n : Nat}, (∀ i, i < n → p i = q i) → cntB p n = cntB q n := by
  intro n
  induction n with
  | zero => intro _; rfl
  | succ n ih =>
    intro h
    show cntB p n + (if p n = true then 1 else 0) = cntB q n + if q n = true then 1 else 0
    rw [ih (fun i hi => h i (by omega)), h n (by omega)]
theorem anyB_c {p q : Nat → Bool} : ∀ {n : Nat}, (∀ i, i < n → p i = q i) → anyB p n = anyB q n := by
  intro n
  induction n with
  | zero => intro _; rfl
  | succ n ih =>
    intro h
    show (anyB p n || p n) = (anyB q n || q n)
    rw [ih (fun i hi => h i (by omega)), h n (by omega)]
/-- the fields' answers -/
def fX (f : Nat → Int32) (j : Nat) : Nat → Int32 := bX (blk f j)
def fY (f : Nat → Int32) (j : Nat) : Nat → Int32 := bY (blk f j)
def leF (f : Nat → Int32) (j : Nat) : Nat := cntB (fun i => decide (0 < trG (fX f j) (fY f j) (bN f j) i)) (bN f j)
def riF (f : Nat → Int32) (j : Nat) : Nat := cntB (fun i => decide (trG (fX f j) (fY f j) (bN f j) i < 0)) (bN f j)
def meF (f : Nat → Int32) (j : Nat) (x y : Int32) : Nat := cntB (fun i => metV (fX f j) (fY f j) x y i (nx (bN f j) i)) (bN f j)
def shaF (f : Nat → Int32) (j j' : Nat) : Nat := cntB (fun i => anyB (sdG (fX f j') (fY f j') (fX f j) (fY f j) (bN f j') i (nx (bN f j) i)) (bN f j')) (bN f j)
def strF (f : Nat → Int32) (j : Nat) : Int64 := labs (sumL (stG (fX f j) (fY f j) (bN f j)) (bN f j))
def exX (f : Nat → Int32) (j : Nat) : Int32 := maxV (fX f j) (bN f j - 1) - minV (fX f j) (bN f j - 1)
def exY (f : Nat → Int32) (j : Nat) : Int32 := maxV (fY f j) (bN f j - 1) - minV (fY f j) (bN f j - 1)
theorem rX {M : mM} {s j : Nat} {f : Nat → Int32} (hR : RelS M s f) (hj : j < fC f) : ∀ k, k < bN f j → M (8, s, j) k = fX f j k := fun k hk => ((hR.fd hj).2.2.2.2 k hk).1
theorem rY {M : mM} {s j : Nat} {f : Nat → Int32} (hR : RelS M s f) (hj : j < fC f) : ∀ k, k < bN f j → M (9, s, j) k = fY f j k := fun k hk => ((hR.fd hj).2.2.2.2 k hk).2
theorem k_left {d s j : Nat} {M : mM} {f : Nat → Int32} (hR : RelS M s f) (hj : j < fC f) : CT iF_turnsToTheLeft (d + 4) [vR 0 s j] M (.inl (some (vI (nI (leF f j))))) M 0 := by
  have h := s_F_turnsToTheLeft (d := d) (hR.fdM hj)
  have e : cntB (fun i => decide (0 < trn M s j (bN f j) i)) (bN f j) = leF f j := cntB_c (fun i hi => by
    show decide (0 < trG (M (8, s, j)) (M (9, s, j)) (bN f j) i) = _
    rw [trG_c (rX hR hj) (rY hR hj) hi])
  rw [e] at h
  exact h
theorem k_right {d s j : Nat} {M : mM} {f : Nat → Int32} (hR : RelS M s f) (hj : j < fC f) : CT iF_turnsToTheRight (d + 4) [vR 0 s j] M (.inl (some (vI (nI (riF f j))))) M 0 := by
  have h := s_F_turnsToTheRight (d := d) (hR.fdM hj)
  have e : cntB (fun i => decide (trn M s j (bN f j) i < 0)) (bN f j) = riF f j := cntB_c (fun i hi => by
    show decide (trG (M (8, s, j)) (M (9, s, j)) (bN f j) i < 0) = _
    rw [trG_c (rX hR hj) (rY hR hj) hi])
  rw [e] at h
  exact h
theorem k_met {d s j : Nat} {M : mM} {f : Nat → Int32} {x y : Int32} (hR : RelS M s f) (hj : j < fC f) : CT iF_sidesMetFrom (d + 3) [vR 0 s j, vI x, vI y] M (.inl (some (vI (nI (meF f j x y))))) M 0 := by
  have h := s_F_sidesMetFrom (d := d) (x := x) (y := y) (hR.fdM hj)
  have e : cntB (fun i => metV (M (8, s, j)) (M (9, s, j)) x y i (nx (bN f j) i)) (bN f j) = meF f j x y := cntB_c (fun i hi => metV_c (rX hR hj) (rY hR hj) hi (nx_in hi))
  rw [e] at h
  exact h
theorem smG_c {X X' Y Y' Z Z' W W' : Nat → Int32} {m m' i j : Nat} (h : ∀ k, k < m → X k = X' k) (h2 : ∀ k, k < m → Y k = Y' k) (h3 : ∀ k, k < m' → Z k = Z' k) (h4 : ∀ k, k < m' → W k = W' k) (hi : i < m) (hj : j < m') : smG X Y Z W i j = smG X' Y' Z' W' i j := by
  unfold smG
  rw [h i hi, h2 i hi, h3 j hj, h4 j hj]
theorem sdG_c {X X' Y Y' Z Z' W W' : Nat → Int32} {m m' a b i : Nat} (h : ∀ k, k < m → X k = X' k) (h2 : ∀ k, k < m → Y k = Y' k) (h3 : ∀ k, k < m' → Z k = Z' k) (h4 : ∀ k, k < m' → W k = W' k) (hi : i < m) (ha : a < m') (hb : b < m') : sdG X Y Z W m a b i = sdG X' Y' Z' W' m a b i := by
  unfold sdG
  rw [smG_c h h2 h3 h4 hi ha, smG_c h h2 h3 h4 hi hb, smG_c h h2 h3 h4 (nx_in hi) ha, smG_c h h2 h3 h4 (nx_in hi) hb]
theorem k_share {d s j j' : Nat} {M : mM} {f : Nat → Int32} (hR : RelS M s f) (hj : j < fC f) (hj' : j' < fC f) : CT iF_sidesAlsoOf (d + 4) [vR 0 s j, vR 0 s j'] M (.inl (some (vI (nI (shaF f j j'))))) M 0 := by
  have h := s_F_sidesAlsoOf (d := d) (hR.fdM hj) (hR.fdM hj')
  have e : cntB (fun i => anyB (hasSd M s j' (bN f j') s j i (nx (bN f j) i)) (bN f j')) (bN f j) = shaF f j j' := cntB_c (fun i hi => anyB_c (fun k hk => by
    show sdG (M (8, s, j')) (M (9, s, j')) (M (8, s, j)) (M (9, s, j)) (bN f j') i (nx (bN f j) i) k = _
    exact sdG_c (rX hR hj') (rY hR hj') (rX hR hj) (rY hR hj) hk hi (nx_in hi)))
  rw [e] at h
  exact h
theorem k_strips {d s j : Nat} {M : mM} {f : Nat → Int32} (hR : RelS M s f) (hj : j < fC f) : CT iF_twiceByStrips (d + 3) [vR 0 s j] M (.inl (some (vL (strF f j)))) M 0 := by
  have h := s_F_twiceByStrips (d := d) (hR.fdM hj)
  have e : twS M s j (bN f j) = strF f j := by
    unfold twS strF
    exact congrArg labs (sumL_congr (fun i hi => by
      show stG (M (8, s, j)) (M (9, s, j)) (bN f j) i = _
      exact stG_c (rX hR hj) (rY hR hj) hi))
  rw [e] at h
  exact h
theorem k_corners {d s j : Nat} {M : mM} {f : Nat → Int32} (hR : RelS M s f) (hj : j < fC f) : CT iF_twiceByCorners (d + 2) [vR 0 s j] M (.inl (some (vL (twF f j)))) M 0 := by
  rw [← hR.tw hj]
  exact s_F_twiceByCorners (hR.fdM hj)
theorem k_area {d s j : Nat} {M : mM} {f : Nat → Int32} (hR : RelS M s f) (hj : j < fC f) : CT iF_area (d + 3) [vR 0 s j] M (.inl (some (vL (twF f j / 2)))) M 0 := by
  rw [← hR.tw hj]
  exact s_F_area (hR.fdM hj)
theorem k_exX {d s j : Nat} {M : mM} {f : Nat → Int32} (hR : RelS M s f) (hj : j < fC f) : CT iF_extentEast (d + 2) [vR 0 s j] M (.inl (some (vI (exX f j)))) M 0 := by
  have h3 := (hR.fd hj).2.2.1
  have hF := hR.fdM hj
  have hx := rX hR hj
  unfold exX
  obtain ⟨z, hz⟩ : ∃ z, bN f j = z + 1 := ⟨bN f j - 1, by omega⟩
  rw [hz] at hF hx ⊢
  have h := s_F_extentEast (d := d) hF
  rw [minV_c (fun k hk => hx k (by omega)), maxV_c (fun k hk => hx k (by omega))] at h
  exact h
theorem k_exY {d s j : Nat} {M : mM} {f : Nat → Int32} (hR : RelS M s f) (hj : j < fC f) : CT iF_extentNorth (d + 2) [vR 0 s j] M (.inl (some (vI (exY f j)))) M 0 := by
  have h3 := (hR.fd hj).2.2.1
  have hF := hR.fdM hj
  have hx := rY hR hj
  unfold exY
  obtain ⟨z, hz⟩ : ∃ z, bN f j = z + 1 := ⟨bN f j - 1, by omega⟩
  rw [hz] at hF hx ⊢
  have h := s_F_extentNorth (d := d) hF
  rw [minV_c (fun k hk => hx k (by omega)), maxV_c (fun k hk => hx k (by omega))] at h
  exact h
