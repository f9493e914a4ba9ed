/-! NUMBERS: where nothing runs over -/
theorem bm64 {x : Int} (h1 : -9223372036854775808 ≤ x) (h2 : x < 9223372036854775808) : x.bmod (2 ^ 64) = x := by
  rw [Int.bmod_def]
  split <;> omega
theorem bm32 {x : Int} (h1 : -2147483648 ≤ x) (h2 : x < 2147483648) : x.bmod (2 ^ 32) = x := by
  rw [Int.bmod_def]
  split <;> omega
def bd (x : Int64) (B : Int) : Prop := -B ≤ x.toInt ∧ x.toInt ≤ B
theorem l_add {x y : Int64} {A B : Int} (hx : bd x A) (hy : bd y B) (h : A + B < 9223372036854775808) : (x + y).toInt = x.toInt + y.toInt := by
  obtain ⟨a1, a2⟩ := hx
  obtain ⟨b1, b2⟩ := hy
  rw [Int64.toInt_add, bm64 (by omega) (by omega)]
theorem l_sub {x y : Int64} {A B : Int} (hx : bd x A) (hy : bd y B) (h : A + B < 9223372036854775808) : (x - y).toInt = x.toInt - y.toInt := by
  obtain ⟨a1, a2⟩ := hx
  obtain ⟨b1, b2⟩ := hy
  rw [Int64.toInt_sub, bm64 (by omega) (by omega)]
theorem mul_bd {x y A B : Int} (h1 : -A ≤ x) (h2 : x ≤ A) (h3 : -B ≤ y) (h4 : y ≤ B) : -(A * B) ≤ x * y ∧ x * y ≤ A * B := by
  have a0 : 0 ≤ A := by omega
  have b0 : 0 ≤ B := by omega
  have e1 : (x.natAbs : Int) ≤ A := by omega
  have e2 : (y.natAbs : Int) ≤ B := by omega
  have e3 : ((x * y).natAbs : Int) ≤ A * B := by
    rw [Int.natAbs_mul, Int.natCast_mul]
    exact Int.mul_le_mul e1 e2 (by omega) a0
  omega
theorem l_mul {x y : Int64} {A B : Int} (hx : bd x A) (hy : bd y B) (h : A * B < 9223372036854775808) : (x * y).toInt = x.toInt * y.toInt := by
  have := mul_bd hx.1 hx.2 hy.1 hy.2
  rw [Int64.toInt_mul, bm64 (by omega) (by omega)]
theorem bd_add {x y : Int64} {A B : Int} (hx : bd x A) (hy : bd y B) (h : A + B < 9223372036854775808) : bd (x + y) (A + B) := by
  have e := l_add hx hy h
  obtain ⟨a1, a2⟩ := hx
  obtain ⟨b1, b2⟩ := hy
  unfold bd
  rw [e]
  omega
theorem bd_sub {x y : Int64} {A B : Int} (hx : bd x A) (hy : bd y B) (h : A + B < 9223372036854775808) : bd (x - y) (A + B) := by
  have e := l_sub hx hy h
  obtain ⟨a1, a2⟩ := hx
  obtain ⟨b1, b2⟩ := hy
  unfold bd
  rw [e]
  omega
theorem bd_mul {x y : Int64} {A B : Int} (hx : bd x A) (hy : bd y B) (h : A * B < 9223372036854775808) : bd (x * y) (A * B) := by
  have e := l_mul hx hy h
  unfold bd
  rw [e]
  exact mul_bd hx.1 hx.2 hy.1 hy.2
theorem bd_le {x : Int64} {A B : Int} (hx : bd x A) (h : A ≤ B) : bd x B := ⟨by have := hx.1; omega, by have := hx.2; omega⟩
theorem bd_i {x : Int32} {A : Int} (h1 : -A ≤ x.toInt) (h2 : x.toInt ≤ A) : bd x.toInt64 A := by
  unfold bd
  rw [Int32.toInt_toInt64]
  exact ⟨h1, h2⟩
theorem l_neg {x : Int64} {A : Int} (hx : bd x A) (h : A < 9223372036854775808) : (-x).toInt = -x.toInt := by
  obtain ⟨a1, a2⟩ := hx
  rw [Int64.toInt_neg, bm64 (by omega) (by omega)]
theorem neg_lt {x : Int64} {A : Int} (hx : bd x A) (h : A < 9223372036854775808) : (0 < -x) = (x < 0) := by
  have e := l_neg hx h
  have z : (0 : Int64).toInt = 0 := rfl
  rw [Int64.lt_iff_toInt_lt, Int64.lt_iff_toInt_lt, e, z]
  exact propext ⟨fun q => by omega, fun q => by omega⟩
theorem labs_bd {x : Int64} {A : Int} (hx : bd x A) (h : A < 9223372036854775808) : (labs x).toInt = (x.toInt.natAbs : Int) := by
  have z : (0 : Int64).toInt = 0 := rfl
  unfold labs
  split
  · rename_i g
    rw [Int64.le_iff_toInt_le, z] at g
    omega
  · rename_i g
    rw [Int64.le_iff_toInt_le, z] at g
    rw [l_neg hx h]
    omega
theorem labs_pos {x : Int64} {A : Int} (hx : bd x A) (h : A < 9223372036854775808) : decide (0 < labs x) = !decide (labs x = 0) := by
  have e := labs_bd hx h
  have z : (0 : Int64).toInt = 0 := rfl
  by_cases g : labs x = 0
  · rw [decide_eq_true g, g]
    rfl
  · rw [decide_eq_false g]
    refine decide_eq_true ?_
    rw [Int64.lt_iff_toInt_lt, z]
    have : ¬ (labs x).toInt = 0 := fun q => g (Int64.toInt_inj.mp (q.trans z.symm))
    omega
theorem labs_neg {x : Int64} {A : Int} (hx : bd x A) (h : A < 9223372036854775808) : labs (-x) = labs x := by
  have e := l_neg hx h
  have hn : bd (-x) A := by
    obtain ⟨a1, a2⟩ := hx
    unfold bd
    rw [e]
    omega
  refine Int64.toInt_inj.mp ?_
  rw [labs_bd hn h, labs_bd hx h, e]
  omega
theorem sumL_bd {t : Nat → Int64} {A : Int} {m : Nat} (hA : 0 ≤ A) (h2 : A * 12 < 9223372036854775808) (h : ∀ i, i < m → bd (t i) A) : ∀ n, n ≤ m → n ≤ 12 → bd (sumL t n) (A * n) := by
  intro n
  induction n with
  | zero =>
    intro h1 h3
    have z : (sumL t 0).toInt = 0 := rfl
    unfold bd
    rw [z]
    omega
  | succ n ih =>
    intro h1 h3
    have e := ih (by omega) (by omega)
    have hle : A * (n : Int) ≤ A * 11 := Int.mul_le_mul_of_nonneg_left (by omega) hA
    have := bd_add e (h n (by omega)) (by omega)
    show bd (sumL t n + t n) _
    rw [show A * ((n + 1 : Nat) : Int) = A * (n : Int) + A by rw [Int.natCast_add, Int.mul_add]; simp]
    exact this
/-! the shares -/
theorem l_div {x y : Int64} (hy : 0 < y.toInt) : (x / y).toInt = x.toInt.tdiv y.toInt := by
  have h1 := x.le_toInt
  have h2 := x.toInt_lt
  have h3 : (x.toInt.tdiv y.toInt).natAbs ≤ x.toInt.natAbs := Int.natAbs_tdiv_le_natAbs _ _
  have hm : (x.toInt.tdiv y.toInt) < 9223372036854775808 := by
    by_cases e : 0 ≤ x.toInt
    · omega
    · have h9 : 0 ≤ (-x.toInt).tdiv y.toInt := Int.tdiv_nonneg (by omega) (by omega)
      rw [Int.neg_tdiv] at h9
      omega
  rw [Int64.toInt_div, bm64 (by omega) hm]
theorem l_rem {x y : Int64} (hy : 0 < y.toInt) : (x / y * y).toInt = x.toInt.tdiv y.toInt * y.toInt ∧ (x - x / y * y).toInt = x.toInt.tmod y.toInt := by
  have h1 := x.le_toInt
  have h2 := x.toInt_lt
  have e : x.toInt.tdiv y.toInt * y.toInt = x.toInt - x.toInt.tmod y.toInt := by
    have := Int.tmod_add_tdiv_mul x.toInt y.toInt
    omega
  have hs : (0 ≤ x.toInt → 0 ≤ x.toInt.tmod y.toInt ∧ x.toInt.tmod y.toInt ≤ x.toInt) ∧ (x.toInt < 0 → x.toInt.tmod y.toInt ≤ 0 ∧ x.toInt ≤ x.toInt.tmod y.toInt) := by
    have ha : (x.toInt.tmod y.toInt).natAbs ≤ x.toInt.natAbs := by
      rw [Int.natAbs_tmod]
      exact Nat.mod_le _ _
    constructor
    · intro h
      have := Int.tmod_nonneg y.toInt h
      omega
    · intro h
      have h3 : 0 ≤ (-x.toInt).tmod y.toInt := Int.tmod_nonneg y.toInt (by omega)
      rw [Int.neg_tmod] at h3
      omega
  have e1 : (x / y * y).toInt = x.toInt.tdiv y.toInt * y.toInt := by
    rw [Int64.toInt_mul, l_div hy, e, bm64 (by omega) (by omega)]
  refine ⟨e1, ?_⟩
  rw [Int64.toInt_sub, e1, e, bm64 (by omega) (by omega)]
  omega
theorem xor_neg {x y : Int64} (hy : 0 < y.toInt) : (x ^^^ y) < 0 ↔ x < 0 := by
  have hb : ∀ z : Int64, z < 0 ↔ z.toBitVec.msb = true := fun z => by
    rw [Int64.lt_iff_toInt_lt]
    have : (0 : Int64).toInt = 0 := rfl
    rw [this]
    show z.toBitVec.toInt < 0 ↔ _
    rw [BitVec.toInt_neg_iff, BitVec.msb_eq_decide]
    simp
    omega
  have hy2 : y.toBitVec.msb = false := by
    refine Bool.eq_false_iff.mpr (fun q => ?_)
    have := (hb y).mpr q
    rw [Int64.lt_iff_toInt_lt] at this
    have z : (0 : Int64).toInt = 0 := rfl
    omega
  rw [hb, hb, Int64.toBitVec_xor, BitVec.msb_xor, hy2]
  simp
