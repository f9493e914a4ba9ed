theorem i_div {x y : Int32} (hy : 0 < y.toInt) (hx : 0 ≤ x.toInt) : (x / y).toInt = x.toInt / y.toInt := by
  have h2 := x.toInt_lt
  have h3 : (x.toInt.tdiv y.toInt).natAbs ≤ x.toInt.natAbs := Int.natAbs_tdiv_le_natAbs _ _
  rw [Int32.toInt_div, bm32 (by omega) (by omega), Int.tdiv_eq_ediv_of_nonneg hx]
theorem min_bd {X : Nat → Int32} {A : Int} : ∀ n, (∀ k, k ≤ n → bi (X k) A) → bi (minV X n) A ∧ bi (maxV X n) A ∧ (minV X n).toInt ≤ (maxV X n).toInt := by
  intro n
  induction n with
  | zero => intro h; exact ⟨h 0 (Nat.le_refl 0), h 0 (Nat.le_refl 0), Int.le_refl _⟩
  | succ n ih =>
    intro h
    obtain ⟨h1, h2, h3⟩ := ih (fun k hk => h k (by omega))
    have hn := h (n + 1) (Nat.le_refl _)
    show bi (if X (n + 1) < minV X n then X (n + 1) else minV X n) A ∧ bi (if maxV X n < X (n + 1) then X (n + 1) else maxV X n) A ∧ (if X (n + 1) < minV X n then X (n + 1) else minV X n).toInt ≤ (if maxV X n < X (n + 1) then X (n + 1) else maxV X n).toInt
    refine ⟨by split <;> assumption, by split <;> assumption, ?_⟩
    split
    · rename_i g1
      rw [Int32.lt_iff_toInt_lt] at g1
      split
      · exact Int.le_refl _
      · omega
    · split
      · rename_i g2
        rw [Int32.lt_iff_toInt_lt] at g2
        omega
      · exact h3
theorem ex_bd {X : Nat → Int32} {n : Nat} (h : ∀ k, k ≤ n → bi (X k) 400000) : 0 ≤ (maxV X n - minV X n).toInt ∧ (maxV X n - minV X n).toInt ≤ 800000 := by
  obtain ⟨h1, h2, h3⟩ := min_bd n h
  rw [i_sub h2 h1 (by decide)]
  obtain ⟨a, b⟩ := h1
  obtain ⟨c, d⟩ := h2
  omega
theorem l_dive {x y : Int64} (hy : 0 < y.toInt) (hx : 0 ≤ x.toInt) : (x / y).toInt = x.toInt / y.toInt := by
  rw [l_div hy, Int.tdiv_eq_ediv_of_nonneg hx]
theorem roods_eq {a : Int64} (h : 0 ≤ a.toInt) : a / 25000 - a / 25000 / 4 * 4 = (a - a / 100000 * 100000) / 25000 := by
  have z1 : (25000 : Int64).toInt = 25000 := rfl
  have z2 : (100000 : Int64).toInt = 100000 := rfl
  have z4 : (4 : Int64).toInt = 4 := rfl
  have d1 := l_dive (x := a) (y := 25000) (by decide) h
  have h1 := (l_rem (x := a / 25000) (y := 4) (by decide)).2
  have h2 := (l_rem (x := a) (y := 100000) (by decide)).2
  rw [z1] at d1
  rw [d1, z4, Int.tmod_eq_emod_of_nonneg (by omega)] at h1
  rw [z2, Int.tmod_eq_emod_of_nonneg h] at h2
  refine Int64.toInt_inj.mp ?_
  rw [h1, l_dive (by decide) (by omega), h2, z1]
  omega
