/-! THE NUMBERS that one reads are in range -/
theorem dig_rng {c : Int32} (h : 48 ≤ c ∧ c ≤ 57) : (c - 48).toInt = c.toInt - 48 ∧ 0 ≤ c.toInt - 48 ∧ c.toInt - 48 ≤ 9 := by
  obtain ⟨h1, h2⟩ := h
  rw [Int32.le_iff_toInt_le] at h1 h2
  have z1 : (48 : Int32).toInt = 48 := rfl
  have z2 : (57 : Int32).toInt = 57 := rfl
  refine ⟨?_, by omega, by omega⟩
  rw [i_sub (A := 57) (B := 48) ⟨by omega, by omega⟩ ⟨by decide, by decide⟩ (by decide), z1]
theorem numG_rng {T : Nat → Int32} {most : Int32} {lo : Int} (hm : most.toInt ≤ 20000) (hlo : 0 ≤ lo) : ∀ {k a : Nat} {v : Int32}, lo ≤ v.toInt → v.toInt ≤ most.toInt → lo ≤ (numG T most k a v).2.toInt ∧ (numG T most k a v).2.toInt ≤ most.toInt := by
  intro k
  induction k with
  | zero => intro a v h1 h2; exact ⟨h1, h2⟩
  | succ k ih =>
    intro a v h1 h2
    unfold numG
    by_cases g : grows (T a) v most
    · rw [if_pos g]
      obtain ⟨d1, d2, d3⟩ := dig_rng g.1
      have z : (10 : Int32).toInt = 10 := rfl
      have e1 : (v * 10).toInt = v.toInt * 10 := by rw [Int32.toInt_mul, z, bm32 (by omega) (by omega)]
      have e2 : (v * 10 + (T a - 48)).toInt = v.toInt * 10 + ((T a).toInt - 48) := by
        rw [i_add (A := 200000) (B := 9) ⟨by omega, by omega⟩ ⟨by omega, by omega⟩ (by decide), e1, d1]
      have g3 := g.2.2
      rw [Int32.le_iff_toInt_le] at g3
      exact ih (by omega) g3
    · rw [if_neg g]
      exact ⟨h1, h2⟩
theorem num_rng {T : Nat → Int32} {most least : Int32} {p : Nat} {lo : Int} (hm : most.toInt ≤ 20000) (hm9 : 9 ≤ most.toInt) (hl : least.toInt = 48 + lo) (hlo : 0 ≤ lo) (h : ¬ (num T most least p).1 = p) : lo ≤ (num T most least p).2.toInt ∧ (num T most least p).2.toInt ≤ most.toInt := by
  unfold num at h ⊢
  by_cases g : least ≤ T p ∧ T p ≤ 57
  · rw [if_pos g]
    have g1 := g.1
    rw [Int32.le_iff_toInt_le] at g1
    obtain ⟨d1, d2, d3⟩ := dig_rng (c := T p) ⟨by
      rw [Int32.le_iff_toInt_le]
      have z : (48 : Int32).toInt = 48 := rfl
      omega, g.2⟩
    exact numG_rng hm hlo (by omega) (by omega)
  · rw [if_neg g] at h
    exact absurd rfl h
theorem sg_rng {s v : Int32} (hs : s = 1 ∨ s = -1) (h1 : 0 ≤ v.toInt) (h2 : v.toInt ≤ 9999) : inR (s * v) 9999 := by
  have z : (-9999 : Int32).toInt = -9999 := rfl
  have z2 : (9999 : Int32).toInt = 9999 := rfl
  have e : (s * v).toInt = v.toInt ∨ (s * v).toInt = -v.toInt := by
    obtain rfl | rfl := hs
    · rw [Int32.one_mul]
      exact Or.inl rfl
    · right
      have zz : (-1 : Int32).toInt = -1 := rfl
      rw [Int32.toInt_mul, zz, bm32 (by omega) (by omega)]
      omega
  refine ⟨?_, ?_⟩
  · rw [Int32.le_iff_toInt_le, z]
    omega
  · rw [Int32.le_iff_toInt_le, z2]
    omega
