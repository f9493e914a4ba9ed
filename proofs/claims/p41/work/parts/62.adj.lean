/-! ADJUSTED CORNERS, AND WHAT IS CLOSE -/
theorem bef_0 (f : Nat → Int32) (w : Nat) : bef f w 0 = 0 := rfl
theorem adj_0 {f : Nat → Int32} {n w : Nat} : adjF f n 0 w = f (37 + w) := by
  unfold adjF shF
  rw [bef_0, bef_0]
  have z : (0 : Int64).toInt = 0 := rfl
  split
  · rename_i g
    rw [Int64.lt_iff_toInt_lt, z] at g
    have e0 : (bef f w n).toInt64 * (0 : Int32).toInt64 = 0 := by
      have : (0 : Int32).toInt64 = 0 := rfl
      rw [this]
      exact Int64.mul_zero
    have e : (jfloor ((bef f w n).toInt64 * (0 : Int32).toInt64) (bef f 2 n).toInt64) = 0 := by
      refine Int64.toInt_inj.mp ?_
      rw [e0, jfloor_i g ⟨by decide, by decide⟩, z, Int.zero_ediv]
    rw [e]
    have : (0 : Int64).toInt32 = 0 := rfl
    rw [this]
    grind
  · grind
theorem tot_pos {f : Nat → Int32} (hB : BdF f) (h12 : fN f ≤ 12) (h : ¬ 0 < (bef f 2 (fN f)).toInt64) : fN f = 0 := by
  have z : (0 : Int64).toInt = 0 := rfl
  rw [Int64.lt_iff_toInt_lt, z, Int32.toInt_toInt64] at h
  have := bef2 hB h12 _ (Nat.le_refl (fN f))
  omega
theorem adj_n {f : Nat → Int32} {w : Nat} (hB : BdF f) (h12 : fN f ≤ 12) (hw : w < 2) : adjF f (fN f) (fN f) w = f (37 + w) := by
  have z : (0 : Int64).toInt = 0 := rfl
  by_cases g : 0 < (bef f 2 (fN f)).toInt64
  · unfold adjF shF
    rw [if_pos g]
    rw [Int64.lt_iff_toInt_lt, z] at g
    have hl := bef2 hB h12 _ (Nat.le_refl (fN f))
    have ha := befw_b (w := w) hB h12 hw (Nat.le_refl _)
    have hm := bd_mul (bi_l ha) (bd_i (A := 240000) (x := bef f 2 (fN f)) (by omega) (by omega)) (by decide)
    have hP : ((bef f w (fN f)).toInt64 * (bef f 2 (fN f)).toInt64).toInt = (bef f w (fN f)).toInt * (bef f 2 (fN f)).toInt := by
      rw [l_mul (A := 119988) (B := 240000) (bi_l ha) (bd_i (by omega) (by omega)) (by decide), Int32.toInt_toInt64, Int32.toInt_toInt64]
    have hj := jfloor_i (x := (bef f w (fN f)).toInt64 * (bef f 2 (fN f)).toInt64) g (bd_le hm (by decide))
    rw [hP, Int32.toInt_toInt64] at hj
    rw [Int32.toInt_toInt64] at g
    rw [Int.mul_ediv_cancel _ (by omega)] at hj
    have e : (jfloor ((bef f w (fN f)).toInt64 * (bef f 2 (fN f)).toInt64) (bef f 2 (fN f)).toInt64).toInt32 = bef f w (fN f) := by
      refine i_eq ?_
      rw [l2i_i (A := 119988) ⟨by rw [hj]; exact ha.1, by rw [hj]; exact ha.2⟩ (by decide), hj]
    rw [e]
    grind
  · have e := tot_pos hB h12 g
    rw [e]
    exact adj_0
/-- the closing error, where it is close -/
theorem close_b {f : Nat → Int32} (hB : BdF f) (h12 : fN f ≤ 12) (hc : closeF f (fN f) = true) : ((bef f 0 (fN f)).toInt.natAbs : Int) + ((bef f 1 (fN f)).toInt.natAbs : Int) ≤ 1200 := by
  have h0 := befw_b (w := 0) hB h12 (by decide) (Nat.le_refl _)
  have h1 := befw_b (w := 1) hB h12 (by decide) (Nat.le_refl _)
  have hl := bef2 hB h12 _ (Nat.le_refl (fN f))
  have e0 := iabs_n h0 (by decide)
  have e1 := iabs_n h1 (by decide)
  unfold closeF at hc
  have hc := of_decide_eq_true hc
  unfold bi at h0 h1
  have es : (iabs (bef f 0 (fN f)) + iabs (bef f 1 (fN f))).toInt = ((bef f 0 (fN f)).toInt.natAbs : Int) + ((bef f 1 (fN f)).toInt.natAbs : Int) := by
    rw [i_add (A := 119988) (B := 119988) ⟨by omega, by omega⟩ ⟨by omega, by omega⟩ (by decide), e0, e1]
  have z : (200 : Int32).toInt = 200 := rfl
  rw [Int32.le_iff_toInt_le, i_mul (A := 200) (B := 239976) ⟨by decide, by decide⟩ ⟨by omega, by omega⟩ (by decide), es, z] at hc
  omega
theorem close_law {f : Nat → Int32} (hB : BdF f) (h12 : fN f ≤ 12) : closeF f (fN f) = decide ((200 : Int64) * (iabs (bef f 0 (fN f)) + iabs (bef f 1 (fN f))).toInt64 ≤ (bef f 2 (fN f)).toInt64) := by
  have h0 := befw_b (w := 0) hB h12 (by decide) (Nat.le_refl _)
  have h1 := befw_b (w := 1) hB h12 (by decide) (Nat.le_refl _)
  have hl := bef2 hB h12 _ (Nat.le_refl (fN f))
  have e0 := iabs_n h0 (by decide)
  have e1 := iabs_n h1 (by decide)
  unfold bi at h0 h1
  have es : (iabs (bef f 0 (fN f)) + iabs (bef f 1 (fN f))).toInt = ((bef f 0 (fN f)).toInt.natAbs : Int) + ((bef f 1 (fN f)).toInt.natAbs : Int) := by
    rw [i_add (A := 119988) (B := 119988) ⟨by omega, by omega⟩ ⟨by omega, by omega⟩ (by decide), e0, e1]
  have z : (200 : Int32).toInt = 200 := rfl
  have z6 : (200 : Int64).toInt = 200 := rfl
  have a1 : (200 * (iabs (bef f 0 (fN f)) + iabs (bef f 1 (fN f)))).toInt = 200 * (((bef f 0 (fN f)).toInt.natAbs : Int) + ((bef f 1 (fN f)).toInt.natAbs : Int)) := by
    rw [i_mul (A := 200) (B := 239976) ⟨by decide, by decide⟩ ⟨by omega, by omega⟩ (by decide), es, z]
  have a2 : ((200 : Int64) * (iabs (bef f 0 (fN f)) + iabs (bef f 1 (fN f))).toInt64).toInt = 200 * (((bef f 0 (fN f)).toInt.natAbs : Int) + ((bef f 1 (fN f)).toInt.natAbs : Int)) := by
    rw [l_mul (A := 200) (B := 239976) ⟨by decide, by decide⟩ (bd_i (by omega) (by omega)) (by decide), Int32.toInt_toInt64, es, z6]
  unfold closeF
  refine decide_eq_decide.mpr ?_
  rw [Int32.le_iff_toInt_le, Int64.le_iff_toInt_le, a1, a2, Int32.toInt_toInt64]
theorem adj_bd2 {f : Nat → Int32} {c w : Nat} (hB : BdF f) (h12 : fN f ≤ 12) (hcl : closeF f (fN f) = true) (hw : w < 2) (hc : c ≤ fN f) : bi (adjF f (fN f) c w) 180000 := by
  have h1 : bi (f (37 + w)) 50000 := by
    obtain rfl | rfl : w = 0 ∨ w = 1 := by omega
    · exact hB.2.1
    · exact hB.2.2.1
  have hE := close_b hB h12 hcl
  have ha : -1200 ≤ (bef f w (fN f)).toInt ∧ (bef f w (fN f)).toInt ≤ 1200 := by
    obtain rfl | rfl : w = 0 ∨ w = 1 := by omega
    · omega
    · omega
  have hl := bef2 hB h12 _ (Nat.le_refl (fN f))
  have hcl2 := bef2 hB h12 c hc
  have hm := bef2_mono hB h12 (c := c) _ hc (Nat.le_refl _)
  have hs : bi (shF f (fN f) c (bef f w (fN f))) 1200 := by
    have z : (0 : Int64).toInt = 0 := rfl
    unfold shF
    split
    · rename_i g
      rw [Int64.lt_iff_toInt_lt, z] at g
      have hab : bi (bef f w (fN f)) 1200 := ha
      have hmb := bd_mul (bi_l hab) (bd_i (A := 240000) (x := bef f 2 c) (by omega) (by omega)) (by decide)
      have hP : ((bef f w (fN f)).toInt64 * (bef f 2 c).toInt64).toInt = (bef f w (fN f)).toInt * (bef f 2 c).toInt := by
        rw [l_mul (A := 1200) (B := 240000) (bi_l hab) (bd_i (by omega) (by omega)) (by decide), Int32.toInt_toInt64, Int32.toInt_toInt64]
      have hj := jfloor_i (x := (bef f w (fN f)).toInt64 * (bef f 2 c).toInt64) g (bd_le hmb (by decide))
      rw [hP, Int32.toInt_toInt64] at hj
      rw [Int32.toInt_toInt64] at g
      have m1 := mul_bd (x := (bef f w (fN f)).toInt) (y := (bef f 2 c).toInt) (A := 1200) (B := (bef f 2 (fN f)).toInt) ha.1 ha.2 (by omega) (by omega)
      have b1 : -1200 ≤ (bef f w (fN f)).toInt * (bef f 2 c).toInt / (bef f 2 (fN f)).toInt := (Int.le_ediv_iff_mul_le g).mpr (by omega)
      have b2 : (bef f w (fN f)).toInt * (bef f 2 c).toInt / (bef f 2 (fN f)).toInt < 1201 := (Int.ediv_lt_iff_lt_mul g).mpr (by omega)
      unfold bi
      rw [l2i_i (A := 1200) ⟨by rw [hj]; exact b1, by rw [hj]; omega⟩ (by decide), hj]
      exact ⟨b1, by omega⟩
    · exact ⟨by decide, by decide⟩
  exact bi_le (bi_sub (bi_add h1 (befw_b hB h12 hw hc) (by decide)) hs (by decide)) (by decide)
