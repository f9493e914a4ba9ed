/-! WHAT THE ROW OF NUMBERS KEEPS, and why both sides say the same -/
def bi (x : Int32) (B : Int) : Prop := -B ≤ x.toInt ∧ x.toInt ≤ B
theorem i_add {x y : Int32} {A B : Int} (hx : bi x A) (hy : bi y B) (h : A + B < 2147483648) : (x + y).toInt = x.toInt + y.toInt := by
  obtain ⟨a1, a2⟩ := hx
  obtain ⟨b1, b2⟩ := hy
  rw [Int32.toInt_add, bm32 (by omega) (by omega)]
theorem i_sub {x y : Int32} {A B : Int} (hx : bi x A) (hy : bi y B) (h : A + B < 2147483648) : (x - y).toInt = x.toInt - y.toInt := by
  obtain ⟨a1, a2⟩ := hx
  obtain ⟨b1, b2⟩ := hy
  rw [Int32.toInt_sub, bm32 (by omega) (by omega)]
theorem bi_add {x y : Int32} {A B : Int} (hx : bi x A) (hy : bi y B) (h : A + B < 2147483648) : bi (x + y) (A + B) := by
  have e := i_add hx hy h
  obtain ⟨a1, a2⟩ := hx
  obtain ⟨b1, b2⟩ := hy
  unfold bi
  rw [e]
  omega
theorem bi_sub {x y : Int32} {A B : Int} (hx : bi x A) (hy : bi y B) (h : A + B < 2147483648) : bi (x - y) (A + B) := by
  have e := i_sub hx hy h
  obtain ⟨a1, a2⟩ := hx
  obtain ⟨b1, b2⟩ := hy
  unfold bi
  rw [e]
  omega
theorem bi_le {x : Int32} {A B : Int} (hx : bi x A) (h : A ≤ B) : bi x B := ⟨by have := hx.1; omega, by have := hx.2; omega⟩
theorem bi_l {x : Int32} {A : Int} (h : bi x A) : bd x.toInt64 A := bd_i h.1 h.2
def BdF (f : Nat → Int32) : Prop :=
  (∀ i, i < fN f → bi (f (1 + 3 * i + 0)) 9999 ∧ bi (f (1 + 3 * i + 1)) 9999 ∧ 1 ≤ (f (1 + 3 * i + 2)).toInt ∧ (f (1 + 3 * i + 2)).toInt ≤ 20000) ∧
  bi (f 37) 50000 ∧ bi (f 38) 50000 ∧ (∀ i, i < fC f → ∀ k, k < bN f i → bi (fX f i k) 400000 ∧ bi (fY f i k) 400000) ∧
  ∀ i, fC f ≤ i → i < 6 → ∀ k, k < 25 → f (40 + 25 * i + k) = 0
theorem befw {f : Nat → Int32} {w : Nat} (h : BdF f) (h12 : fN f ≤ 12) (hw : w < 2) : ∀ j, j ≤ fN f → bi (bef f w j) (9999 * j) := by
  intro j
  induction j with
  | zero =>
    intro _
    show -(9999 * ((0 : Nat) : Int)) ≤ (0 : Int32).toInt ∧ (0 : Int32).toInt ≤ 9999 * ((0 : Nat) : Int)
    exact ⟨by decide, by decide⟩
  | succ j ih =>
    intro hj
    have h1 := ih (by omega)
    have h2 : bi (f (1 + 3 * j + w)) 9999 := by
      obtain ⟨a, b, -⟩ := h.1 j (by omega)
      obtain rfl | rfl : w = 0 ∨ w = 1 := by omega
      · exact a
      · exact b
    have h3 := bi_add h1 h2 (by omega)
    exact bi_le h3 (by omega)
theorem befw_b {f : Nat → Int32} {w j : Nat} (h : BdF f) (h12 : fN f ≤ 12) (hw : w < 2) (hj : j ≤ fN f) : bi (bef f w j) 119988 := bi_le (befw h h12 hw j hj) (by omega)
theorem bef2 {f : Nat → Int32} (h : BdF f) (h12 : fN f ≤ 12) : ∀ j, j ≤ fN f → (j : Int) ≤ (bef f 2 j).toInt ∧ (bef f 2 j).toInt ≤ 20000 * j := by
  intro j
  induction j with
  | zero =>
    intro _
    show ((0 : Nat) : Int) ≤ (0 : Int32).toInt ∧ (0 : Int32).toInt ≤ 20000 * ((0 : Nat) : Int)
    exact ⟨by decide, by decide⟩
  | succ j ih =>
    intro hj
    have h1 := ih (by omega)
    obtain ⟨-, -, h2, h3⟩ := h.1 j (by omega)
    have e : (bef f 2 j + f (1 + 3 * j + 2)).toInt = (bef f 2 j).toInt + (f (1 + 3 * j + 2)).toInt := i_add (A := 240000) (B := 20000) ⟨by omega, by omega⟩ ⟨by omega, by omega⟩ (by omega)
    show _ ≤ (bef f 2 j + f (1 + 3 * j + 2)).toInt ∧ (bef f 2 j + f (1 + 3 * j + 2)).toInt ≤ _
    rw [e]
    omega
theorem bef2_mono {f : Nat → Int32} (h : BdF f) (h12 : fN f ≤ 12) {c : Nat} : ∀ j, c ≤ j → j ≤ fN f → (bef f 2 c).toInt ≤ (bef f 2 j).toInt := by
  intro j
  induction j with
  | zero =>
    intro hc _
    obtain rfl : c = 0 := by omega
    exact Int.le_refl _
  | succ j ih =>
    intro hc hj
    by_cases e : c = j + 1
    · subst e; exact Int.le_refl _
    · have h1 := ih (by omega) (by omega)
      have h2 := bef2 h h12 j (by omega)
      obtain ⟨-, -, h4, h3⟩ := h.1 j (by omega)
      have e : (bef f 2 j + f (1 + 3 * j + 2)).toInt = (bef f 2 j).toInt + (f (1 + 3 * j + 2)).toInt := i_add (A := 240000) (B := 20000) ⟨by omega, by omega⟩ ⟨by omega, by omega⟩ (by omega)
      show _ ≤ (bef f 2 j + f (1 + 3 * j + 2)).toInt
      rw [e]
      omega
theorem iabs_n {x : Int32} {A : Int} (h : bi x A) (hA : A < 2147483648) : (iabs x).toInt = (x.toInt.natAbs : Int) := by
  have z : (0 : Int32).toInt = 0 := rfl
  obtain ⟨a1, a2⟩ := h
  unfold iabs
  split
  · rename_i g
    rw [Int32.le_iff_toInt_le, z] at g
    omega
  · rename_i g
    rw [Int32.le_iff_toInt_le, z] at g
    rw [Int32.toInt_neg, bm32 (by omega) (by omega)]
    omega
theorem l_zero_div {y : Int64} (hy : 0 < y.toInt) : (0 : Int64) / y = 0 := by
  refine Int64.toInt_inj.mp ?_
  rw [l_div hy]
  have z : (0 : Int64).toInt = 0 := rfl
  rw [z, Int.zero_tdiv]
theorem tdiv_le {P T A : Int} (hT : 0 < T) (h1 : -(A * T) ≤ P) (h2 : P ≤ A * T) (hA : 0 ≤ A) : -A ≤ P.tdiv T ∧ P.tdiv T ≤ A := by
  have hn : (P.tdiv T).natAbs ≤ A.toNat := by
    rw [Int.natAbs_tdiv]
    have e : P.natAbs ≤ A.toNat * T.natAbs := by
      have : ((A.toNat * T.natAbs : Nat) : Int) = A * T := by
        rw [Int.natCast_mul]
        rw [show ((A.toNat : Nat) : Int) = A by omega, show ((T.natAbs : Nat) : Int) = T by omega]
      omega
    exact Nat.div_le_of_le_mul (by rw [Nat.mul_comm]; exact e)
  omega
theorem sh_bd {f : Nat → Int32} {c w : Nat} (h : BdF f) (h12 : fN f ≤ 12) (hw : w < 2) (hc : c ≤ fN f) : bi (shF f (fN f) c (bef f w (fN f))) 119989 := by
  have hl := bef2 h h12 _ (Nat.le_refl (fN f))
  have hcl := bef2 h h12 c hc
  have hm := bef2_mono h h12 (c := c) _ hc (Nat.le_refl _)
  have ha := befw_b (w := w) h h12 hw (Nat.le_refl _)
  have z : (0 : Int64).toInt = 0 := rfl
  unfold shF
  split
  · rename_i g
    have hT : 0 < (bef f 2 (fN f)).toInt64.toInt := by rw [Int64.lt_iff_toInt_lt, z] at g; exact g
    have hP : ((bef f w (fN f)).toInt64 * (bef f 2 c).toInt64).toInt = (bef f w (fN f)).toInt * (bef f 2 c).toInt := by
      rw [l_mul (A := 119988) (B := 240000) (bi_l ha) (bd_i (by omega) (by omega)) (by decide), Int32.toInt_toInt64, Int32.toInt_toInt64]
    generalize (bef f w (fN f)).toInt64 * (bef f 2 c).toInt64 = P at hP
    have hq := l_div (x := P) hT
    rw [hP] at hq
    rw [Int32.toInt_toInt64] at hT hq
    unfold bi at ha
    generalize (bef f w (fN f)).toInt = A at ha hq
    have hb : -119988 ≤ (P / (bef f 2 (fN f)).toInt64).toInt ∧ (P / (bef f 2 (fN f)).toInt64).toInt ≤ 119988 := by
      rw [hq]
      have m1 := mul_bd (x := A) (y := (bef f 2 c).toInt) (A := 119988) (B := (bef f 2 (fN f)).toInt) ha.1 ha.2 (by omega) (by omega)
      exact tdiv_le hT m1.1 m1.2 (by decide)
    have hj : -119989 ≤ (jfloor P (bef f 2 (fN f)).toInt64).toInt ∧ (jfloor P (bef f 2 (fN f)).toInt64).toInt ≤ 119989 := by
      unfold jfloor
      split
      · rw [l_sub (A := 119988) (B := 1) hb ⟨by decide, by decide⟩ (by decide)]
        have z1 : (1 : Int64).toInt = 1 := rfl
        rw [z1]
        omega
      · omega
    unfold bi
    rw [Int64.toInt_toInt32, bm32 (by omega) (by omega)]
    exact hj
  · exact ⟨by decide, by decide⟩
theorem adj_bd {f : Nat → Int32} {c w : Nat} (h : BdF f) (h12 : fN f ≤ 12) (hw : w < 2) (hc : c ≤ fN f) : bi (adjF f (fN f) c w) 400000 := by
  have h1 : bi (f (37 + w)) 50000 := by
    obtain rfl | rfl : w = 0 ∨ w = 1 := by omega
    · exact h.2.1
    · exact h.2.2.1
  exact bi_le (bi_sub (bi_add h1 (befw_b h h12 hw hc) (by decide)) (sh_bd h h12 hw hc) (by decide)) (by decide)
/-! the areas -/
theorem cr_bd {b : Nat → Int32} {m i : Nat} (h : ∀ k, k < m → bi (bX b k) 400000 ∧ bi (bY b k) 400000) (hi : i < m) : bd (crB b m i) 320000000000 := by
  have h1 := h i hi
  have h2 := h _ (nx_in hi)
  have a1 := bd_mul (bi_l h1.1) (bi_l h2.2) (by decide)
  have a2 := bd_mul (bi_l h1.2) (bi_l h2.1) (by decide)
  exact bd_le (bd_sub a1 a2 (by decide)) (by decide)
theorem su_bd {b : Nat → Int32} {m : Nat} (h : ∀ k, k < m → bi (bX b k) 400000 ∧ bi (bY b k) 400000) (h12 : m ≤ 12) : bd (sumL (crB b m) m) 3840000000000 :=
  bd_le (sumL_bd (A := 320000000000) (by decide) (by decide) (fun i hi => cr_bd h hi) m (Nat.le_refl m) h12) (by omega)
theorem tw_pos {b : Nat → Int32} {m : Nat} (h : ∀ k, k < m → bi (bX b k) 400000 ∧ bi (bY b k) 400000) (h12 : m ≤ 12) : decide (0 < twB b m) = !decide (twB b m = 0) := labs_pos (su_bd h h12) (by decide)
theorem tw_rng {b : Nat → Int32} {m : Nat} (h : ∀ k, k < m → bi (bX b k) 400000 ∧ bi (bY b k) 400000) (h12 : m ≤ 12) : 0 ≤ (twB b m).toInt ∧ (twB b m).toInt ≤ 3840000000000 := by
  have e := su_bd h h12
  unfold twB
  rw [labs_bd e (by decide)]
  obtain ⟨a, b⟩ := e
  omega
theorem st_ring (x y x' y' S T z w : Int64) (h : S = -T + (x * y - z * w)) : S + (x' - x) * (y + y') = -(T + (x * y' - y * x')) + (x' * y' - z * w) := by
  subst h
  grind
theorem st_sum {X Y : Nat → Int32} {m : Nat} : ∀ n, n ≤ m → 0 < m → sumL (stG X Y m) n = -(sumL (fun i => (X i).toInt64 * (Y (nx m i)).toInt64 - (Y i).toInt64 * (X (nx m i)).toInt64) n) + ((X (if n < m then n else 0)).toInt64 * (Y (if n < m then n else 0)).toInt64 - (X 0).toInt64 * (Y 0).toInt64) := by
  intro n
  induction n with
  | zero =>
    intro h1 h2
    rw [if_pos h2]
    show (0 : Int64) = -0 + _
    grind
  | succ n ih =>
    intro h1 h2
    have h := ih (by omega) h2
    rw [if_pos (by omega)] at h
    have e : nx m n = if n + 1 < m then n + 1 else 0 := rfl
    show sumL (stG X Y m) n + stG X Y m n = -(sumL _ n + ((X n).toInt64 * (Y (nx m n)).toInt64 - (Y n).toInt64 * (X (nx m n)).toInt64)) + _
    rw [← e]
    unfold stG dX
    exact st_ring (X n).toInt64 (Y n).toInt64 (X (nx m n)).toInt64 (Y (nx m n)).toInt64 _ _ (X 0).toInt64 (Y 0).toInt64 h
theorem st_eq {b : Nat → Int32} {m : Nat} (h : ∀ k, k < m → bi (bX b k) 400000 ∧ bi (bY b k) 400000) (h12 : m ≤ 12) (h0 : 0 < m) : labs (sumL (stG (bX b) (bY b) m) m) = twB b m := by
  rw [st_sum m (Nat.le_refl m) h0, if_neg (Nat.lt_irrefl m)]
  have e : -(sumL (fun i => (bX b i).toInt64 * (bY b (nx m i)).toInt64 - (bY b i).toInt64 * (bX b (nx m i)).toInt64) m) + ((bX b 0).toInt64 * (bY b 0).toInt64 - (bX b 0).toInt64 * (bY b 0).toInt64) = -(sumL (crB b m) m) := by
    rw [Int64.sub_self, Int64.add_zero]
    rfl
  rw [e]
  exact labs_neg (su_bd h h12) (by decide)
