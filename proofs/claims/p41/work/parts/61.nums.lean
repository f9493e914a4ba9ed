/-! NUMBERS OF THE LAW -/
theorem i_mul {x y : Int32} {A B : Int} (hx : bi x A) (hy : bi y B) (h : A * B < 2147483648) : (x * y).toInt = x.toInt * y.toInt := by
  have := mul_bd hx.1 hx.2 hy.1 hy.2
  rw [Int32.toInt_mul, bm32 (by omega) (by omega)]
theorem i_neg {x : Int32} {A : Int} (hx : bi x A) (h : A < 2147483648) : (-x).toInt = -x.toInt := by
  obtain ⟨a1, a2⟩ := hx
  rw [Int32.toInt_neg, bm32 (by omega) (by omega)]
theorem l2i_i {x : Int64} {A : Int} (hx : bd x A) (h : A < 2147483648) : x.toInt32.toInt = x.toInt := by
  obtain ⟨a1, a2⟩ := hx
  rw [Int64.toInt_toInt32, bm32 (by omega) (by omega)]
theorem l2i_back {x : Int64} {A : Int} (hx : bd x A) (h : A < 2147483648) : x.toInt32.toInt64 = x := by
  refine Int64.toInt_inj.mp ?_
  rw [Int32.toInt_toInt64, l2i_i hx h]
/-- the floor -/
theorem jfloor_i {x y : Int64} (hy : 0 < y.toInt) (hx : bd x 4611686018427387904) : (jfloor x y).toInt = x.toInt / y.toInt := by
  have hd := l_div (x := x) hy
  have hr := (l_rem (x := x) hy).1
  have z : (0 : Int64).toInt = 0 := rfl
  have hs : y.toInt.sign = 1 := Int.sign_eq_one_of_pos hy
  have e := Int.tdiv_eq_ediv (a := x.toInt) (b := y.toInt)
  rw [hs] at e
  have hdv : x / y * y = x ↔ y.toInt ∣ x.toInt := by
    rw [← Int64.toInt_inj, hr]
    constructor
    · intro h; exact ⟨x.toInt.tdiv y.toInt, by rw [Int.mul_comm]; exact h.symm⟩
    · intro h; exact Int.tdiv_mul_cancel h
  have hn : (x.toInt.tdiv y.toInt).natAbs ≤ x.toInt.natAbs := Int.natAbs_tdiv_le_natAbs _ _
  obtain ⟨a1, a2⟩ := hx
  unfold jfloor
  by_cases hx0 : x < 0
  · by_cases hq : x / y * y = x
    · rw [if_neg (fun q => q.2 hq), hd, e, if_pos (Or.inr (hdv.mp hq))]
      omega
    · rw [if_pos ⟨(xor_neg hy).mpr hx0, hq⟩]
      rw [Int64.lt_iff_toInt_lt, z] at hx0
      have hne : ¬ (0 ≤ x.toInt ∨ y.toInt ∣ x.toInt) := fun q => q.elim (fun w => by omega) (fun w => hq (hdv.mpr w))
      rw [if_neg hne] at e
      have z1 : (1 : Int64).toInt = 1 := rfl
      rw [l_sub (A := 4611686018427387904) (B := 1) ⟨by rw [hd]; omega, by rw [hd]; omega⟩ ⟨by decide, by decide⟩ (by decide), hd, e, z1]
      omega
  · rw [if_neg (fun q => hx0 ((xor_neg hy).mp q.1)), hd, e]
    rw [Int64.lt_iff_toInt_lt, z] at hx0
    rw [if_pos (Or.inl (by omega))]
    omega
theorem and_pos (v : Int32) : 0 ≤ (v &&& 2147483647).toInt := by
  have h : (v.toBitVec &&& (2147483647 : Int32).toBitVec).msb = false := by
    rw [BitVec.msb_and]
    have h9 : (2147483647 : Int32).toBitVec.msb = false := by decide
    rw [h9, Bool.and_false]
  refine Int.not_lt.mp (fun q => ?_)
  have q2 : (v &&& 2147483647).toBitVec.toInt < 0 := q
  rw [Int32.toBitVec_and, BitVec.toInt_neg_iff] at q2
  rw [BitVec.msb_eq_decide] at h
  have h2 := of_decide_eq_false h
  simp at h2
  simp at q2
  omega
def lowV (v n : Int32) : Int32 := (v &&& 2147483647) - (v &&& 2147483647) / n * n
theorem lowV_i {v n : Int32} (hn : 0 < n.toInt) : (lowV v n).toInt = (v &&& 2147483647).toInt % n.toInt := by
  unfold lowV
  have hp := and_pos v
  have hl := (v &&& 2147483647).toInt_lt
  generalize v &&& 2147483647 = x at hp hl
  have e1 := i_div hn hp
  have h1 : 0 ≤ x.toInt / n.toInt * n.toInt := Int.mul_nonneg (Int.ediv_nonneg hp (by omega)) (by omega)
  have h2 : x.toInt / n.toInt * n.toInt ≤ x.toInt := Int.ediv_mul_le _ (by omega)
  have e2 : (x / n * n).toInt = x.toInt / n.toInt * n.toInt := by
    rw [Int32.toInt_mul, e1, bm32 (by omega) (by omega)]
  rw [Int32.toInt_sub, e2, bm32 (by omega) (by omega), Int.emod_def, Int.mul_comm n.toInt]
theorem lowV_rng {v n : Int32} (hn : 0 < n.toInt) : 0 ≤ (lowV v n).toInt ∧ (lowV v n).toInt < n.toInt := by
  rw [lowV_i hn]
  exact ⟨Int.emod_nonneg _ (by omega), Int.emod_lt_of_pos _ hn⟩
def spanV (v s : Int32) : Int32 := lowV v (2 * s + 1) - s
theorem span_n {s : Int32} (h0 : 0 ≤ s.toInt) (h1 : s.toInt ≤ 100000) : (2 * s + 1).toInt = 2 * s.toInt + 1 := by
  have z2 : (2 : Int32).toInt = 2 := rfl
  have z1 : (1 : Int32).toInt = 1 := rfl
  have e : (2 * s).toInt = 2 * s.toInt := by rw [i_mul (A := 2) (B := 100000) ⟨by decide, by decide⟩ ⟨by omega, by omega⟩ (by decide), z2]
  rw [i_add (A := 200000) (B := 1) ⟨by omega, by omega⟩ ⟨by decide, by decide⟩ (by decide), e, z1]
theorem spanV_rng {v s : Int32} (h0 : 0 ≤ s.toInt) (h1 : s.toInt ≤ 100000) : -s.toInt ≤ (spanV v s).toInt ∧ (spanV v s).toInt ≤ s.toInt := by
  have en := span_n h0 h1
  have hr := lowV_rng (v := v) (n := 2 * s + 1) (by omega)
  unfold spanV
  rw [i_sub (A := 200001) (B := 100000) ⟨by omega, by omega⟩ ⟨by omega, by omega⟩ (by decide)]
  omega
theorem inR_i {x y : Int32} (hy : 0 ≤ y.toInt) : inR x y ↔ -y.toInt ≤ x.toInt ∧ x.toInt ≤ y.toInt := by
  have hl := y.toInt_lt
  have e : (-y).toInt = -y.toInt := by rw [Int32.toInt_neg, bm32 (by omega) (by omega)]
  unfold inR
  rw [Int32.le_iff_toInt_le, Int32.le_iff_toInt_le, e]
theorem spanV_in {v s y : Int32} (h0 : 0 ≤ s.toInt) (h1 : s.toInt ≤ y.toInt) (h2 : y.toInt ≤ 100000) : inR (spanV v s) y := by
  have := spanV_rng (v := v) h0 (by omega)
  exact (inR_i (by omega)).mpr ⟨by omega, by omega⟩
theorem nI_i {a : Nat} (h : a < 2 ^ 31) : (nI a).toInt = (a : Int) := nI_toInt h
theorem i_eq {x y : Int32} (h : x.toInt = y.toInt) : x = y := Int32.toInt_inj.mp h
theorem i_nat {x : Int32} (h : 0 ≤ x.toInt) : x = nI x.toInt.toNat := by
  have hl := x.toInt_lt
  refine i_eq ?_
  rw [nI_i (by omega)]
  omega
theorem i_clamp (x : Int32) : x.toNatClampNeg = x.toInt.toNat := rfl
theorem i_ge0 {x : Int32} (h : 0 ≤ x.toInt) : 0 ≤ x := by rw [Int32.le_iff_toInt_le]; exact h
