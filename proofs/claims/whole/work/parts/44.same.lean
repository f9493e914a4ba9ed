/-! BOTH SIDES SAY THE SAME of a field -/
theorem met_eq {X Y : Nat → Int32} {m k : Nat} {x y : Int32} (hX : bi (X k) 400000 ∧ bi (X (nx m k)) 400000) (hY : bi (Y k) 400000 ∧ bi (Y (nx m k)) 400000) (hx : bi x 200000) (hy : bi y 200000) : metM X Y m x y k = metV X Y x y k (nx m k) := by
  have z : (0 : Int64).toInt = 0 := rfl
  have hd : (dX Y m k).toInt = (Y (nx m k)).toInt - (Y k).toInt := by
    unfold dX
    rw [l_sub (bi_l hY.2) (bi_l hY.1) (by decide), Int32.toInt_toInt64, Int32.toInt_toInt64]
  unfold metM metV
  by_cases e : decide (y < Y (nx m k)) = decide (y < Y k)
  · rw [if_pos e, if_pos e.symm]
  · have e' : ¬ (decide (y < Y k) = decide (y < Y (nx m k))) := fun q => e q.symm
    rw [if_neg e, if_neg e']
    by_cases g : y < Y k
    · have g2 : ¬ y < Y (nx m k) := fun q => e (by rw [decide_eq_true q, decide_eq_true g])
      have hlt : ¬ 0 < dX Y m k := by
        rw [Int64.lt_iff_toInt_lt, z, hd]
        rw [Int32.lt_iff_toInt_lt] at g g2
        omega
      rw [if_neg hlt]
      dsimp only
      rw [if_pos g, if_pos rfl]
      have b1 := bd_mul (bd_sub (bi_l hX.1) (bi_l hx) (by decide)) (bd_sub (bi_l hY.2) (bi_l hY.1) (by decide)) (by decide)
      have b2 := bd_mul (bd_sub (bi_l hy) (bi_l hY.1) (by decide)) (bd_sub (bi_l hX.2) (bi_l hX.1) (by decide)) (by decide)
      have b3 := bd_add b1 b2 (by decide)
      have er : ((X (nx m k)).toInt64 - x.toInt64) * ((Y k).toInt64 - (Y (nx m k)).toInt64) + ((X k).toInt64 - (X (nx m k)).toInt64) * (y.toInt64 - (Y (nx m k)).toInt64) = -(((X k).toInt64 - x.toInt64) * ((Y (nx m k)).toInt64 - (Y k).toInt64) + (y.toInt64 - (Y k).toInt64) * ((X (nx m k)).toInt64 - (X k).toInt64)) := by
        grind
      rw [er]
      unfold dX
      exact decide_eq_decide.mpr (iff_of_eq (neg_lt b3 (by decide)).symm)
    · have g2 : y < Y (nx m k) := Classical.byContradiction (fun q => e (by rw [decide_eq_false q, decide_eq_false g]))
      have hlt : 0 < dX Y m k := by
        rw [Int64.lt_iff_toInt_lt, z, hd]
        rw [Int32.lt_iff_toInt_lt] at g g2
        omega
      have hne : ¬ nx m k = k := fun q => by rw [q] at g2; exact g g2
      rw [if_pos hlt]
      dsimp only
      rw [if_neg g, if_neg hne]
      have er : ((X k).toInt64 - x.toInt64) * ((Y (nx m k)).toInt64 - (Y k).toInt64) + ((X (nx m k)).toInt64 - (X k).toInt64) * (y.toInt64 - (Y k).toInt64) = ((X k).toInt64 - x.toInt64) * dX Y m k + (y.toInt64 - (Y k).toInt64) * dX X m k := by
        unfold dX
        grind
      rw [er]
theorem i_div {x y : Int32} (hy : 0 < y.toInt) (hx : 0 ≤ x.toInt) : (x / y).toInt = x.toInt / y.toInt := by
  have h2 := x.toInt_lt
  have h3 : (x.toInt.tdiv y.toInt).natAbs ≤ x.toInt.natAbs := Int.natAbs_tdiv_le_natAbs _ _
  rw [Int32.toInt_div, bm32 (by omega) (by omega), Int.tdiv_eq_ediv_of_nonneg hx]
theorem up_eq {v b : Int32} (hv : 0 ≤ v.toInt ∧ v.toInt ≤ 800000) (hb : 1 ≤ b.toInt ∧ b.toInt ≤ 20000) : upM v b = pcs v b := by
  have z0 : (0 : Int32).toInt = 0 := rfl
  have z1 : (1 : Int32).toInt = 1 := rfl
  have s1 : (v + b).toInt = v.toInt + b.toInt := i_add (A := 800000) (B := 20000) ⟨by omega, by omega⟩ ⟨by omega, by omega⟩ (by decide)
  have s2 : (v + b - 1).toInt = v.toInt + b.toInt - 1 := by rw [i_sub (A := 820000) (B := 1) ⟨by omega, by omega⟩ ⟨by decide, by decide⟩ (by decide), s1, z1]
  have s3 : ((v + b - 1) / b).toInt = (v.toInt + b.toInt - 1) / b.toInt := by rw [i_div (by omega) (by omega), s2]
  unfold upM pcs
  by_cases h : v ≤ 0
  · rw [if_pos (Or.inl h)]
    rw [Int32.le_iff_toInt_le, z0] at h
    have e0 : (v.toInt + b.toInt - 1) / b.toInt = 0 := by
      rw [show v.toInt + b.toInt - 1 = b.toInt - 1 by omega]
      exact Int.ediv_eq_zero_of_lt (by omega) (by omega)
    rw [if_pos (by rw [Int32.lt_iff_toInt_lt, s3, e0, z1]; omega)]
  · rw [Int32.le_iff_toInt_le, z0] at h
    have hb0 : ¬ b ≤ 0 := by rw [Int32.le_iff_toInt_le, z0]; omega
    have hn9 : ¬ (v ≤ 0 ∨ b ≤ 0) := fun q => q.elim (fun q => by rw [Int32.le_iff_toInt_le, z0] at q; omega) hb0
    rw [if_neg hn9]
    have e0 : (v.toInt + b.toInt - 1) / b.toInt = (v.toInt - 1) / b.toInt + 1 := by
      rw [show v.toInt + b.toInt - 1 = (v.toInt - 1) + 1 * b.toInt by omega, Int.add_mul_ediv_right _ _ (by omega)]
    have hnn : 0 ≤ (v.toInt - 1) / b.toInt := Int.ediv_nonneg (by omega) (by omega)
    have hn8 : ¬ ((v + b - 1) / b < 1) := by rw [Int32.lt_iff_toInt_lt, s3, e0, z1]; omega
    rw [if_neg hn8]
    refine Int32.toInt_inj.mp ?_
    have s4 : (v - 1).toInt = v.toInt - 1 := by rw [i_sub (A := 800000) (B := 1) ⟨by omega, by omega⟩ ⟨by decide, by decide⟩ (by decide), z1]
    have s5 : ((v - 1) / b).toInt = (v.toInt - 1) / b.toInt := by rw [i_div (by omega) (by omega), s4]
    have hle : (v.toInt - 1) / b.toInt ≤ v.toInt - 1 := Int.ediv_le_self _ (by omega)
    rw [s3, e0, i_add (A := 800000) (B := 1) ⟨by omega, by omega⟩ ⟨by decide, by decide⟩ (by decide), s5, z1]
theorem min_bd {X : Nat → Int32} {A : Int} : ∀ n, (∀ k, k ≤ n → bi (X k) A) → bi (minV X n) A ∧ bi (maxV X n) A ∧ (minV X n).toInt ≤ (maxV X n).toInt := by
  intro n
  induction n with
  | zero => intro h; exact ⟨h 0 (Nat.le_refl 0), h 0 (Nat.le_refl 0), Int.le_refl _⟩
  | succ n ih =>
    intro h
    obtain ⟨h1, h2, h3⟩ := ih (fun k hk => h k (by omega))
    have hn := h (n + 1) (Nat.le_refl _)
    show bi (if X (n + 1) < minV X n then X (n + 1) else minV X n) A ∧ bi (if maxV X n < X (n + 1) then X (n + 1) else maxV X n) A ∧ (if X (n + 1) < minV X n then X (n + 1) else minV X n).toInt ≤ (if maxV X n < X (n + 1) then X (n + 1) else maxV X n).toInt
    refine ⟨by split <;> assumption, by split <;> assumption, ?_⟩
    split
    · rename_i g1
      rw [Int32.lt_iff_toInt_lt] at g1
      split
      · exact Int.le_refl _
      · omega
    · split
      · rename_i g2
        rw [Int32.lt_iff_toInt_lt] at g2
        omega
      · exact h3
theorem ex_bd {X : Nat → Int32} {n : Nat} (h : ∀ k, k ≤ n → bi (X k) 400000) : 0 ≤ (maxV X n - minV X n).toInt ∧ (maxV X n - minV X n).toInt ≤ 800000 := by
  obtain ⟨h1, h2, h3⟩ := min_bd n h
  rw [i_sub h2 h1 (by decide)]
  obtain ⟨a, b⟩ := h1
  obtain ⟨c, d⟩ := h2
  omega
def scM (x y : Int32) : Int32 :=
  let l := upM (if y < x then x else y) 20
  if 1000 < l then -1 else if l < 10 then 10 else l
theorem scl_eq {x y : Int32} (hx : 0 ≤ x.toInt ∧ x.toInt ≤ 800000) (hy : 0 ≤ y.toInt ∧ y.toInt ≤ 800000) : scM x y = scF x y := by
  have e : (if y < x then x else y) = if x < y then y else x := by
    by_cases h1 : y < x
    · by_cases h2 : x < y
      · rw [Int32.lt_iff_toInt_lt] at h1 h2
        omega
      · rw [if_pos h1, if_neg h2]
    · by_cases h2 : x < y
      · rw [if_neg h1, if_pos h2]
      · rw [if_neg h1, if_neg h2]
        refine Int32.toInt_inj.mp ?_
        rw [Int32.lt_iff_toInt_lt] at h1 h2
        omega
  have hm : 0 ≤ (if x < y then y else x).toInt ∧ (if x < y then y else x).toInt ≤ 800000 := by split <;> assumption
  unfold scM scF
  rw [e]
  dsimp only
  rw [up_eq hm (by decide)]
  generalize pcs (if x < y then y else x) 20 = p
  have z10 : (10 : Int32).toInt = 10 := rfl
  have z1000 : (1000 : Int32).toInt = 1000 := rfl
  by_cases h1 : 1000 < p
  · have h3 : 10 < p := by rw [Int32.lt_iff_toInt_lt] at h1 ⊢; omega
    rw [if_pos h1, if_pos h3, if_neg (Int32.not_le.mpr h1)]
  · rw [if_neg h1]
    by_cases h2 : 10 < p
    · rw [if_pos h2, if_pos (Int32.not_lt.mp h1), if_neg (by rw [Int32.lt_iff_toInt_lt] at h2 ⊢; omega)]
    · have hd9 : (10 : Int32) ≤ 1000 := by decide
      rw [if_neg h2, if_pos hd9]
      by_cases h4 : p < 10
      · rw [if_pos h4]
      · rw [if_neg h4]
        refine Int32.toInt_inj.mp ?_
        rw [Int32.lt_iff_toInt_lt] at h2 h4
        omega
theorem l_dive {x y : Int64} (hy : 0 < y.toInt) (hx : 0 ≤ x.toInt) : (x / y).toInt = x.toInt / y.toInt := by
  rw [l_div hy, Int.tdiv_eq_ediv_of_nonneg hx]
theorem roods_eq {a : Int64} (h : 0 ≤ a.toInt) : a / 25000 - a / 25000 / 4 * 4 = (a - a / 100000 * 100000) / 25000 := by
  have z1 : (25000 : Int64).toInt = 25000 := rfl
  have z2 : (100000 : Int64).toInt = 100000 := rfl
  have z4 : (4 : Int64).toInt = 4 := rfl
  have d1 := l_dive (x := a) (y := 25000) (by decide) h
  have h1 := (l_rem (x := a / 25000) (y := 4) (by decide)).2
  have h2 := (l_rem (x := a) (y := 100000) (by decide)).2
  rw [z1] at d1
  rw [d1, z4, Int.tmod_eq_emod_of_nonneg (by omega)] at h1
  rw [z2, Int.tmod_eq_emod_of_nonneg h] at h2
  refine Int64.toInt_inj.mp ?_
  rw [h1, l_dive (by decide) (by omega), h2, z1]
  omega
/-! the greatest area -/
def grM (f : Nat → Int32) : Nat → Int32
  | 0 => 0
  | n + 1 => if twF f (grM f n).toNatClampNeg / 2 < twF f (n + 1) / 2 then nI (n + 1) else grM f n
theorem gr_eq {f : Nat → Int32} (h : 0 ≤ (twF f 0).toInt) : ∀ n, n < 6 → grM f n = (grF f (n + 1)).1 ∧ (grF f (n + 1)).2 = twF f (grM f n).toNatClampNeg / 2 ∧ ∃ j, j ≤ n ∧ grM f n = nI j := by
  intro n
  induction n with
  | zero =>
    intro _
    have z : (-1 : Int64).toInt = -1 := rfl
    have z2 : (2 : Int64).toInt = 2 := rfl
    have hlt : (grF f 0).2 < twF f 0 / 2 := by
      show (-1 : Int64) < _
      rw [Int64.lt_iff_toInt_lt, z, l_dive (by decide) h, z2]
      omega
    rw [grF_t hlt]
    exact ⟨rfl, rfl, 0, Nat.le_refl 0, rfl⟩
  | succ n ih =>
    intro h6
    obtain ⟨h1, h2, j, hj, h3⟩ := ih (by omega)
    by_cases g : twF f (grM f n).toNatClampNeg / 2 < twF f (n + 1) / 2
    · have e : grM f (n + 1) = nI (n + 1) := if_pos g
      have g2 : (grF f (n + 1)).2 < twF f (n + 1) / 2 := by rw [h2]; exact g
      rw [e, grF_t g2]
      exact ⟨rfl, by rw [nI_clamp (by omega)], n + 1, Nat.le_refl _, rfl⟩
    · have e : grM f (n + 1) = grM f n := if_neg g
      have g2 : ¬ (grF f (n + 1)).2 < twF f (n + 1) / 2 := by rw [h2]; exact g
      rw [e, grF_f g2]
      exact ⟨h1, h2, j, by omega, h3⟩
