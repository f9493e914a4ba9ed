/-! SHARED SIDES, SHEETS AND SCALES -/
theorem any_iff {p : Nat → Bool} : ∀ {n : Nat}, anyB p n = true ↔ ∃ i, i < n ∧ p i = true := by
  intro n
  induction n with
  | zero => exact ⟨fun h => absurd (show false = true from h) (by decide), fun ⟨i, h, _⟩ => absurd h (Nat.not_lt_zero i)⟩
  | succ n ih =>
    show (anyB p n || p n) = true ↔ _
    rw [Bool.or_eq_true, ih]
    constructor
    · rintro (⟨i, h1, h2⟩ | h)
      · exact ⟨i, by omega, h2⟩
      · exact ⟨n, by omega, h⟩
    · rintro ⟨i, h1, h2⟩
      by_cases e : i = n
      · subst e; exact Or.inr h2
      · exact Or.inl ⟨i, by omega, h2⟩
theorem smG_self {X Y : Nat → Int32} {i : Nat} : smG X Y X Y i i = true := by
  unfold smG
  rw [decide_eq_true rfl, decide_eq_true rfl]
  rfl
theorem smG_sym {X Y X' Y' : Nat → Int32} {i j : Nat} : smG X Y X' Y' i j = smG X' Y' X Y j i := by
  unfold smG
  congr 1
  · exact decide_eq_decide.mpr ⟨Eq.symm, Eq.symm⟩
  · exact decide_eq_decide.mpr ⟨Eq.symm, Eq.symm⟩
theorem sha_self {f : Nat → Int32} {j : Nat} : shaF f j j = bN f j := cnt_full (fun i hi => any_iff.mpr ⟨i, hi, by
  unfold sdG
  rw [smG_self, smG_self]
  rfl⟩)
theorem sd_sym {X Y X' Y' : Nat → Int32} {m m' i i' : Nat} : sdG X' Y' X Y m' i (nx m i) i' = sdG X Y X' Y' m i' (nx m' i') i := by
  unfold sdG
  rw [smG_sym (X := X') (Y := Y') (i := i') (j := i), smG_sym (X := X') (Y := Y') (i := nx m' i') (j := nx m i), smG_sym (X := X') (Y := Y') (i := i') (j := nx m i), smG_sym (X := X') (Y := Y') (i := nx m' i') (j := i)]
  rw [Bool.and_comm (smG X Y X' Y' (nx m i) i')]
theorem sha_0 {f : Nat → Int32} {j j' : Nat} (h : shaF f j j' = 0) : shaF f j' j = 0 := by
  refine cnt_0 (fun i' hi' => ?_)
  refine Bool.eq_false_iff.mpr (fun q => ?_)
  obtain ⟨i, hi, hs⟩ := any_iff.mp q
  have h1 := cnt_0' h i hi
  rw [sd_sym] at hs
  have h2 := any_iff.mpr ⟨i', hi', hs⟩
  have h3 : anyB (sdG (fX f j') (fY f j') (fX f j) (fY f j) (bN f j') i (nx (bN f j) i)) (bN f j') = false := h1
  rw [h2] at h3
  exact absurd h3 (by decide)
/-! sheets -/
theorem pcs_i {v b : Int32} (hv : 0 ≤ v.toInt ∧ v.toInt ≤ 400000) (hb : 1 ≤ b.toInt ∧ b.toInt ≤ 20000) : (pcs v b).toInt = if v.toInt ≤ 0 then 1 else (v.toInt - 1) / b.toInt + 1 := by
  have z : (0 : Int32).toInt = 0 := rfl
  have z1 : (1 : Int32).toInt = 1 := rfl
  unfold pcs
  by_cases h : v.toInt ≤ 0
  · rw [if_pos (Or.inl (by rw [Int32.le_iff_toInt_le, z]; exact h)), if_pos h, z1]
  · rw [if_neg (by rw [Int32.le_iff_toInt_le, Int32.le_iff_toInt_le, z]; omega), if_neg h]
    have e1 : (v - 1).toInt = v.toInt - 1 := by rw [i_sub (A := 400000) (B := 1) ⟨by omega, hv.2⟩ ⟨by decide, by decide⟩ (by decide), z1]
    have e2 : ((v - 1) / b).toInt = (v.toInt - 1) / b.toInt := by rw [i_div (by omega) (by omega), e1]
    have b1 : 0 ≤ (v.toInt - 1) / b.toInt := Int.ediv_nonneg (by omega) (by omega)
    have b2 : (v.toInt - 1) / b.toInt ≤ v.toInt - 1 := Int.ediv_le_self _ (by omega)
    rw [i_add (A := 400000) (B := 1) ⟨by omega, by omega⟩ ⟨by decide, by decide⟩ (by decide), e2, z1]
theorem pcs_1 {v b : Int32} (hv : 0 ≤ v.toInt ∧ v.toInt ≤ 400000) (hb : 200 ≤ b.toInt ∧ b.toInt ≤ 20000) : 1 ≤ (pcs v b).toInt ∧ (pcs v b).toInt ≤ 2001 ∧ ((pcs v b).toInt = 1 ↔ v.toInt ≤ b.toInt) := by
  have e := pcs_i hv (b := b) (by omega)
  by_cases h : v.toInt ≤ 0
  · rw [if_pos h] at e
    omega
  · rw [if_neg h] at e
    have b1 : 0 ≤ (v.toInt - 1) / b.toInt := Int.ediv_nonneg (by omega) (by omega)
    have b2 : (v.toInt - 1) / b.toInt < 2000 := (Int.ediv_lt_iff_lt_mul (by omega)).mpr (by omega)
    have b3 : (v.toInt - 1) / b.toInt < 1 ↔ v.toInt - 1 < 1 * b.toInt := Int.ediv_lt_iff_lt_mul (by omega)
    omega
theorem mul_1 {p q : Int} (hp : 1 ≤ p) (hq : 1 ≤ q) : p * q = 1 ↔ p = 1 ∧ q = 1 := by
  constructor
  · intro h
    have h1 : p * 1 ≤ p * q := Int.mul_le_mul_of_nonneg_left hq (by omega)
    have h2 : 1 * q ≤ p * q := Int.mul_le_mul_of_nonneg_right hp (by omega)
    omega
  · rintro ⟨rfl, rfl⟩
    rfl
theorem sheet_1 {x y b : Int32} (hx : 0 ≤ x.toInt ∧ x.toInt ≤ 400000) (hy : 0 ≤ y.toInt ∧ y.toInt ≤ 400000) (hb : 200 ≤ b.toInt ∧ b.toInt ≤ 20000) : pcs x b * pcs y b = 1 ↔ x.toInt ≤ b.toInt ∧ y.toInt ≤ b.toInt := by
  obtain ⟨a1, a2, a3⟩ := pcs_1 hx hb
  obtain ⟨c1, c2, c3⟩ := pcs_1 hy hb
  have z1 : (1 : Int32).toInt = 1 := rfl
  have e : (pcs x b * pcs y b).toInt = (pcs x b).toInt * (pcs y b).toInt := i_mul (A := 2001) (B := 2001) ⟨by omega, a2⟩ ⟨by omega, c2⟩ (by decide)
  rw [← Int32.toInt_inj, e, z1, mul_1 a1 c1, a3, c3]
/-- the law's widest -/
def wid (x y : Int32) : Int32 := if y < x then x else y
theorem wid_i {x y : Int32} : x.toInt ≤ (wid x y).toInt ∧ y.toInt ≤ (wid x y).toInt ∧ ((wid x y).toInt = x.toInt ∨ (wid x y).toInt = y.toInt) := by
  unfold wid
  split
  · rename_i g; rw [Int32.lt_iff_toInt_lt] at g; omega
  · rename_i g; rw [Int32.lt_iff_toInt_lt] at g; omega
theorem m20 {y : Int32} (h : 0 ≤ y.toInt ∧ y.toInt ≤ 1000) : (20 * y).toInt = 20 * y.toInt := by
  have z : (20 : Int32).toInt = 20 := rfl
  rw [i_mul (A := 20) (B := 1000) ⟨by decide, by decide⟩ ⟨by omega, h.2⟩ (by decide), z]
theorem sheet_w {x y l : Int32} (hx : 0 ≤ x.toInt ∧ x.toInt ≤ 400000) (hy : 0 ≤ y.toInt ∧ y.toInt ≤ 400000) (hl : 10 ≤ l.toInt ∧ l.toInt ≤ 1000) : pcs x (20 * l) * pcs y (20 * l) = 1 ↔ wid x y ≤ 20 * l := by
  have e := m20 (y := l) (by omega)
  have hw := wid_i (x := x) (y := y)
  rw [sheet_1 hx hy (by omega), Int32.le_iff_toInt_le]
  omega
theorem sc_law {x y : Int32} (hx : 0 ≤ x.toInt ∧ x.toInt ≤ 400000) (hy : 0 ≤ y.toInt ∧ y.toInt ≤ 400000) : (scF x y = -1 ∧ 20000 < (wid x y).toInt) ∨ (10 ≤ (scF x y).toInt ∧ (scF x y).toInt ≤ 1000 ∧ (wid x y).toInt ≤ 20 * (scF x y).toInt ∧ ((scF x y).toInt = 10 ∨ 20 * ((scF x y).toInt - 1) < (wid x y).toInt)) := by
  have hw := wid_i (x := x) (y := y)
  have he : (if x < y then y else x).toInt = (wid x y).toInt := by
    unfold wid
    split
    · rename_i g; rw [Int32.lt_iff_toInt_lt] at g; rw [if_neg (by rw [Int32.lt_iff_toInt_lt]; omega)]
    · rename_i g
      rw [Int32.lt_iff_toInt_lt] at g
      split
      · rfl
      · rename_i g2; rw [Int32.lt_iff_toInt_lt] at g2; omega
  have ew : (if x < y then y else x) = wid x y := i_eq he
  have z10 : (10 : Int32).toInt = 10 := rfl
  have z1000 : (1000 : Int32).toInt = 1000 := rfl
  have hp := pcs_i (v := wid x y) (b := 20) (by omega) ⟨by decide, by decide⟩
  have z20 : (20 : Int32).toInt = 20 := rfl
  rw [z20] at hp
  unfold scF
  simp only [ew]
  by_cases h1 : 10 < pcs (wid x y) 20
  · rw [if_pos h1]
    by_cases h2 : pcs (wid x y) 20 ≤ 1000
    · rw [if_pos h2]
      rw [Int32.le_iff_toInt_le, z1000] at h2
      rw [Int32.lt_iff_toInt_lt, z10] at h1
      right
      split at hp <;> omega
    · rw [if_neg h2]
      rw [Int32.le_iff_toInt_le, z1000] at h2
      left
      refine ⟨rfl, ?_⟩
      split at hp <;> omega
  · rw [if_neg h1, if_pos (by decide)]
    rw [Int32.lt_iff_toInt_lt, z10] at h1
    right
    rw [z10]
    split at hp <;> omega
