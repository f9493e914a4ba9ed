/-! SIDES THAT A LINE MEETS -/
theorem cnt_alt (h : Nat → Bool) : ∀ n, cntB (fun i => h i != h (i + 1)) n % 2 = if h 0 = h n then 0 else 1 := by
  intro n
  induction n with
  | zero => rw [if_pos rfl]; rfl
  | succ n ih =>
    show (cntB (fun i => h i != h (i + 1)) n + (if (h n != h (n + 1)) = true then 1 else 0)) % 2 = _
    cases h0 : h 0 <;> cases h1 : h n <;> cases h2 : h (n + 1) <;> rw [h0, h1] at ih <;> simp at ih ⊢ <;> omega
theorem cnt_cyc (h : Nat → Bool) {m : Nat} (hm : 0 < m) : cntB (fun i => h i != h (nx m i)) m % 2 = 0 := by
  obtain ⟨k, rfl⟩ : ∃ k, m = k + 1 := ⟨m - 1, by omega⟩
  have e1 : cntB (fun i => h i != h (nx (k + 1) i)) k = cntB (fun i => h i != h (i + 1)) k := cntB_c (fun i hi => by
    have : nx (k + 1) i = i + 1 := if_pos (by omega)
    show (h i != h (nx (k + 1) i)) = _
    rw [this])
  have e2 : nx (k + 1) k = 0 := if_neg (by omega)
  have e3 := cnt_alt h k
  show (cntB (fun i => h i != h (nx (k + 1) i)) k + (if (h k != h (nx (k + 1) k)) = true then 1 else 0)) % 2 = 0
  rw [e1, e2]
  cases h0 : h 0 <;> cases h1 : h k <;> rw [h0, h1] at e3 <;> simp at e3 ⊢ <;> omega
theorem cnt_mono {p q : Nat → Bool} : ∀ {n : Nat}, (∀ i, i < n → p i = true → q i = true) → cntB p n ≤ cntB q n := by
  intro n
  induction n with
  | zero => intro _; exact Nat.le_refl 0
  | succ n ih =>
    intro h
    have h1 := ih (fun i hi => h i (by omega))
    have h2 := h n (by omega)
    show cntB p n + (if p n = true then 1 else 0) ≤ cntB q n + (if q n = true then 1 else 0)
    by_cases hp : p n = true
    · rw [if_pos hp, if_pos (h2 hp)]; omega
    · rw [if_neg hp]; omega
theorem cnt_0 {p : Nat → Bool} : ∀ {n : Nat}, (∀ i, i < n → p i = false) → cntB p n = 0 := by
  intro n
  induction n with
  | zero => intro _; rfl
  | succ n ih =>
    intro h
    show cntB p n + (if p n = true then 1 else 0) = 0
    rw [ih (fun i hi => h i (by omega)), h n (by omega)]
    rfl
theorem cnt_0' {p : Nat → Bool} : ∀ {n : Nat}, cntB p n = 0 → ∀ i, i < n → p i = false := by
  intro n
  induction n with
  | zero => intro _ i hi; omega
  | succ n ih =>
    intro h i hi
    have h1 : cntB p n + (if p n = true then 1 else 0) = 0 := h
    have h2 : p n = false := by
      cases e : p n with
      | false => rfl
      | true => rw [e] at h1; simp at h1
    by_cases e : i = n
    · subst e; exact h2
    · exact ih (by omega) i (by omega)
theorem cnt_full {p : Nat → Bool} : ∀ {n : Nat}, (∀ i, i < n → p i = true) → cntB p n = n := by
  intro n
  induction n with
  | zero => intro _; rfl
  | succ n ih =>
    intro h
    show cntB p n + (if p n = true then 1 else 0) = n + 1
    rw [ih (fun i hi => h i (by omega)), if_pos (h n (by omega))]
theorem met_D {xl xu yl yu x y : Int32} (h1 : bi xl 400000) (h2 : bi xu 400000) (h3 : bi yl 400000) (h4 : bi yu 400000) (h5 : bi x 400000) (h6 : bi y 400000) : ((xl.toInt64 - x.toInt64) * (yu.toInt64 - yl.toInt64) + (xu.toInt64 - xl.toInt64) * (y.toInt64 - yl.toInt64)).toInt = (xl.toInt - x.toInt) * (yu.toInt - yl.toInt) + (xu.toInt - xl.toInt) * (y.toInt - yl.toInt) := by
  have s : ∀ {a b : Int32}, bi a 400000 → bi b 400000 → bd (a.toInt64 - b.toInt64) 800000 ∧ (a.toInt64 - b.toInt64).toInt = a.toInt - b.toInt := fun {a b} ha hb =>
    ⟨bd_le (bd_sub (bi_l ha) (bi_l hb) (by decide)) (by decide), by rw [l_sub (bi_l ha) (bi_l hb) (by decide), Int32.toInt_toInt64, Int32.toInt_toInt64]⟩
  obtain ⟨a1, b1⟩ := s h1 h5
  obtain ⟨a2, b2⟩ := s h4 h3
  obtain ⟨a3, b3⟩ := s h2 h1
  obtain ⟨a4, b4⟩ := s h6 h3
  rw [l_add (bd_mul a1 a2 (by decide)) (bd_mul a3 a4 (by decide)) (by decide), l_mul a1 a2 (by decide), l_mul a3 a4 (by decide), b1, b2, b3, b4]
theorem met_alg (xl xu x p q : Int) : (xl - x) * p + (xu - xl) * q = (xl - x) * (p - q) + (xu - x) * q := by grind
theorem met_cr {X Y : Nat → Int32} {x y : Int32} {a b : Nat} (h : metV X Y x y a b = true) : (decide (y < Y a) != decide (y < Y b)) = true := by
  unfold metV at h
  split at h
  · exact absurd h (by decide)
  · rename_i g
    cases e1 : decide (y < Y a) <;> cases e2 : decide (y < Y b) <;> rw [e1, e2] at g <;> simp at g ⊢
/-- a side that crosses the height: its upper and its lower end -/
theorem met_ul {X Y : Nat → Int32} {x y : Int32} {a b : Nat} (h : (decide (y < Y a) != decide (y < Y b)) = true) : ∃ u l, ((u = a ∧ l = b) ∨ (u = b ∧ l = a)) ∧ y < Y u ∧ ¬ y < Y l ∧ metV X Y x y a b = decide (0 < ((X l).toInt64 - x.toInt64) * ((Y u).toInt64 - (Y l).toInt64) + ((X u).toInt64 - (X l).toInt64) * (y.toInt64 - (Y l).toInt64)) := by
  by_cases ha : y < Y a
  · have hb : ¬ y < Y b := fun q => by rw [decide_eq_true ha, decide_eq_true q] at h; exact absurd h (by decide)
    refine ⟨a, b, Or.inl ⟨rfl, rfl⟩, ha, hb, ?_⟩
    unfold metV
    rw [if_neg (by rw [decide_eq_true ha, decide_eq_false hb]; decide), if_pos ha]
    simp
  · have hb : y < Y b := by
      refine Decidable.byContradiction (fun q => ?_)
      rw [decide_eq_false ha, decide_eq_false q] at h
      exact absurd h (by decide)
    have hab : ¬ b = a := fun e => ha (by rw [← e]; exact hb)
    refine ⟨b, a, Or.inr ⟨rfl, rfl⟩, hb, ha, ?_⟩
    unfold metV
    rw [if_neg (by rw [decide_eq_true hb, decide_eq_false ha]; decide), if_neg ha]
    simp [hab]
theorem met_far {X Y : Nat → Int32} {x y : Int32} {a b : Nat} (ha : bi (X a) 400000 ∧ bi (Y a) 400000) (hb : bi (X b) 400000 ∧ bi (Y b) 400000) (hx : bi x 400000) (hy : bi y 400000) (h : (decide (y < Y a) != decide (y < Y b)) = true) (hxa : x.toInt < (X a).toInt) (hxb : x.toInt < (X b).toInt) : metV X Y x y a b = true := by
  obtain ⟨u, l, hul, h1, h2, e⟩ := met_ul (X := X) (x := x) h
  have hu : bi (X u) 400000 ∧ bi (Y u) 400000 ∧ x.toInt < (X u).toInt := by
    rcases hul with ⟨rfl, rfl⟩ | ⟨rfl, rfl⟩
    · exact ⟨ha.1, ha.2, hxa⟩
    · exact ⟨hb.1, hb.2, hxb⟩
  have hl : bi (X l) 400000 ∧ bi (Y l) 400000 ∧ x.toInt < (X l).toInt := by
    rcases hul with ⟨rfl, rfl⟩ | ⟨rfl, rfl⟩
    · exact ⟨hb.1, hb.2, hxb⟩
    · exact ⟨ha.1, ha.2, hxa⟩
  rw [Int32.lt_iff_toInt_lt] at h1 h2
  rw [e]
  refine decide_eq_true ?_
  have z : (0 : Int64).toInt = 0 := rfl
  rw [Int64.lt_iff_toInt_lt, z, met_D hl.1 hu.1 hl.2.1 hu.2.1 hx hy, met_alg]
  have m1 : 0 < ((X l).toInt - x.toInt) * ((Y u).toInt - (Y l).toInt - (y.toInt - (Y l).toInt)) := Int.mul_pos (by omega) (by omega)
  have m2 : 0 ≤ ((X u).toInt - x.toInt) * (y.toInt - (Y l).toInt) := Int.mul_nonneg (by omega) (by omega)
  omega
theorem met_near {X Y : Nat → Int32} {x y : Int32} {a b : Nat} (ha : bi (X a) 400000 ∧ bi (Y a) 400000) (hb : bi (X b) 400000 ∧ bi (Y b) 400000) (hx : bi x 400000) (hy : bi y 400000) (hxa : (X a).toInt ≤ x.toInt) (hxb : (X b).toInt ≤ x.toInt) : metV X Y x y a b = false := by
  by_cases h : (decide (y < Y a) != decide (y < Y b)) = true
  · obtain ⟨u, l, hul, h1, h2, e⟩ := met_ul (X := X) (x := x) h
    have hu : bi (X u) 400000 ∧ bi (Y u) 400000 ∧ (X u).toInt ≤ x.toInt := by
      rcases hul with ⟨rfl, rfl⟩ | ⟨rfl, rfl⟩
      · exact ⟨ha.1, ha.2, hxa⟩
      · exact ⟨hb.1, hb.2, hxb⟩
    have hl : bi (X l) 400000 ∧ bi (Y l) 400000 ∧ (X l).toInt ≤ x.toInt := by
      rcases hul with ⟨rfl, rfl⟩ | ⟨rfl, rfl⟩
      · exact ⟨hb.1, hb.2, hxb⟩
      · exact ⟨ha.1, ha.2, hxa⟩
    rw [Int32.lt_iff_toInt_lt] at h1 h2
    rw [e]
    refine decide_eq_false ?_
    have z : (0 : Int64).toInt = 0 := rfl
    rw [Int64.lt_iff_toInt_lt, z, met_D hl.1 hu.1 hl.2.1 hu.2.1 hx hy, met_alg]
    have m1 : 0 ≤ (x.toInt - (X l).toInt) * ((Y u).toInt - (Y l).toInt - (y.toInt - (Y l).toInt)) := Int.mul_nonneg (by omega) (by omega)
    have m2 : 0 ≤ (x.toInt - (X u).toInt) * (y.toInt - (Y l).toInt) := Int.mul_nonneg (by omega) (by omega)
    have n1 : ((X l).toInt - x.toInt) * ((Y u).toInt - (Y l).toInt - (y.toInt - (Y l).toInt)) = -((x.toInt - (X l).toInt) * ((Y u).toInt - (Y l).toInt - (y.toInt - (Y l).toInt))) := by rw [← Int.neg_mul]; congr 1; omega
    have n2 : ((X u).toInt - x.toInt) * (y.toInt - (Y l).toInt) = -((x.toInt - (X u).toInt) * (y.toInt - (Y l).toInt)) := by rw [← Int.neg_mul]; congr 1; omega
    omega
  · cases e : metV X Y x y a b with
    | false => rfl
    | true => exact absurd (met_cr e) h
/-- of a field -/
def crN (f : Nat → Int32) (j : Nat) (y : Int32) : Nat := cntB (fun i => decide (y < fY f j i) != decide (y < fY f j (nx (bN f j) i))) (bN f j)
theorem crN_even {f : Nat → Int32} {j : Nat} {y : Int32} (h : 0 < bN f j) : crN f j y % 2 = 0 := cnt_cyc (fun i => decide (y < fY f j i)) h
theorem me_le {f : Nat → Int32} {j : Nat} {x y : Int32} : meF f j x y ≤ crN f j y := cnt_mono (fun i hi h => met_cr h)
theorem me_far {f : Nat → Int32} {j : Nat} {x y : Int32} (hb : ∀ k, k < bN f j → bi (fX f j k) 180000 ∧ bi (fY f j k) 180000) (hx : bi x 400000) (hy : bi y 400000) (h : ∀ k, k < bN f j → x.toInt < (fX f j k).toInt) : meF f j x y = crN f j y := by
  refine Nat.le_antisymm me_le (cnt_mono (fun i hi hc => ?_))
  have h2 := nx_in hi
  exact met_far ⟨bi_le (hb i hi).1 (by decide), bi_le (hb i hi).2 (by decide)⟩ ⟨bi_le (hb _ h2).1 (by decide), bi_le (hb _ h2).2 (by decide)⟩ hx hy hc (h i hi) (h _ h2)
theorem me_near {f : Nat → Int32} {j : Nat} {x y : Int32} (hb : ∀ k, k < bN f j → bi (fX f j k) 180000 ∧ bi (fY f j k) 180000) (hx : bi x 400000) (hy : bi y 400000) (h : ∀ k, k < bN f j → (fX f j k).toInt ≤ x.toInt) : meF f j x y = 0 := by
  refine cnt_0 (fun i hi => ?_)
  have h2 := nx_in hi
  exact met_near ⟨bi_le (hb i hi).1 (by decide), bi_le (hb i hi).2 (by decide)⟩ ⟨bi_le (hb _ h2).1 (by decide), bi_le (hb _ h2).2 (by decide)⟩ hx hy (h i hi) (h _ h2)
theorem me_none {f : Nat → Int32} {j : Nat} {x y : Int32} (c : Bool) (h : ∀ k, k < bN f j → decide (y < fY f j k) = c) : meF f j x y = 0 := by
  have h0 : crN f j y = 0 := cnt_0 (fun i hi => by
    show (decide (y < fY f j i) != decide (y < fY f j (nx (bN f j) i))) = false
    rw [h i hi, h _ (nx_in hi)]
    cases c <;> rfl)
  have := me_le (f := f) (j := j) (x := x) (y := y)
  omega
/-- the least and the greatest -/
theorem min_le {X : Nat → Int32} : ∀ n, ∀ k, k ≤ n → (minV X n).toInt ≤ (X k).toInt ∧ (X k).toInt ≤ (maxV X n).toInt := by
  intro n
  induction n with
  | zero =>
    intro k hk
    obtain rfl : k = 0 := by omega
    exact ⟨Int.le_refl _, Int.le_refl _⟩
  | succ n ih =>
    intro k hk
    show (if X (n + 1) < minV X n then X (n + 1) else minV X n).toInt ≤ _ ∧ _ ≤ (if maxV X n < X (n + 1) then X (n + 1) else maxV X n).toInt
    by_cases e : k = n + 1
    · subst e
      refine ⟨?_, ?_⟩
      · split
        · exact Int.le_refl _
        · rename_i g; rw [Int32.lt_iff_toInt_lt] at g; omega
      · split
        · exact Int.le_refl _
        · rename_i g; rw [Int32.lt_iff_toInt_lt] at g; omega
    · obtain ⟨h1, h2⟩ := ih k (by omega)
      refine ⟨?_, ?_⟩
      · split
        · rename_i g; rw [Int32.lt_iff_toInt_lt] at g; omega
        · exact h1
      · split
        · rename_i g; rw [Int32.lt_iff_toInt_lt] at g; omega
        · exact h2
