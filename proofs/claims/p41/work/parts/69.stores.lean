/-! A STORE INTO A LIST OF LOCALS, said as a list again (else every later reading walks through all stores before) -/
theorem st1_0 {x : Option mAV} {tl : List (Option mAV)} {v : mAV} : mSt1 (x :: tl) 0 v = some v :: tl := by
  unfold mSt1 mKill
  rfl
theorem st2_0 {x y : Option mAV} {tl : List (Option mAV)} {v : mAV} : mSt2 (x :: y :: tl) 0 v = some v :: none :: tl := by
  unfold mSt2 mKill
  rfl
theorem st1_1 {a0 x : Option mAV} {tl : List (Option mAV)} {v : mAV} (h : mLong (some a0) = false) : mSt1 (a0 :: x :: tl) 1 v = a0 :: some v :: tl := by
  unfold mSt1 mKill
  simp [h]
theorem st2_1 {a0 x y : Option mAV} {tl : List (Option mAV)} {v : mAV} (h : mLong (some a0) = false) : mSt2 (a0 :: x :: y :: tl) 1 v = a0 :: some v :: none :: tl := by
  unfold mSt2 mKill
  simp [h]
theorem st1_2 {a0 a1 x : Option mAV} {tl : List (Option mAV)} {v : mAV} (h : mLong (some a1) = false) : mSt1 (a0 :: a1 :: x :: tl) 2 v = a0 :: a1 :: some v :: tl := by
  unfold mSt1 mKill
  simp [h]
theorem st2_2 {a0 a1 x y : Option mAV} {tl : List (Option mAV)} {v : mAV} (h : mLong (some a1) = false) : mSt2 (a0 :: a1 :: x :: y :: tl) 2 v = a0 :: a1 :: some v :: none :: tl := by
  unfold mSt2 mKill
  simp [h]
theorem st1_3 {a0 a1 a2 x : Option mAV} {tl : List (Option mAV)} {v : mAV} (h : mLong (some a2) = false) : mSt1 (a0 :: a1 :: a2 :: x :: tl) 3 v = a0 :: a1 :: a2 :: some v :: tl := by
  unfold mSt1 mKill
  simp [h]
theorem st2_3 {a0 a1 a2 x y : Option mAV} {tl : List (Option mAV)} {v : mAV} (h : mLong (some a2) = false) : mSt2 (a0 :: a1 :: a2 :: x :: y :: tl) 3 v = a0 :: a1 :: a2 :: some v :: none :: tl := by
  unfold mSt2 mKill
  simp [h]
theorem st1_4 {a0 a1 a2 a3 x : Option mAV} {tl : List (Option mAV)} {v : mAV} (h : mLong (some a3) = false) : mSt1 (a0 :: a1 :: a2 :: a3 :: x :: tl) 4 v = a0 :: a1 :: a2 :: a3 :: some v :: tl := by
  unfold mSt1 mKill
  simp [h]
theorem st2_4 {a0 a1 a2 a3 x y : Option mAV} {tl : List (Option mAV)} {v : mAV} (h : mLong (some a3) = false) : mSt2 (a0 :: a1 :: a2 :: a3 :: x :: y :: tl) 4 v = a0 :: a1 :: a2 :: a3 :: some v :: none :: tl := by
  unfold mSt2 mKill
  simp [h]
theorem st1_5 {a0 a1 a2 a3 a4 x : Option mAV} {tl : List (Option mAV)} {v : mAV} (h : mLong (some a4) = false) : mSt1 (a0 :: a1 :: a2 :: a3 :: a4 :: x :: tl) 5 v = a0 :: a1 :: a2 :: a3 :: a4 :: some v :: tl := by
  unfold mSt1 mKill
  simp [h]
theorem st2_5 {a0 a1 a2 a3 a4 x y : Option mAV} {tl : List (Option mAV)} {v : mAV} (h : mLong (some a4) = false) : mSt2 (a0 :: a1 :: a2 :: a3 :: a4 :: x :: y :: tl) 5 v = a0 :: a1 :: a2 :: a3 :: a4 :: some v :: none :: tl := by
  unfold mSt2 mKill
  simp [h]
theorem st1_6 {a0 a1 a2 a3 a4 a5 x : Option mAV} {tl : List (Option mAV)} {v : mAV} (h : mLong (some a5) = false) : mSt1 (a0 :: a1 :: a2 :: a3 :: a4 :: a5 :: x :: tl) 6 v = a0 :: a1 :: a2 :: a3 :: a4 :: a5 :: some v :: tl := by
  unfold mSt1 mKill
  simp [h]
theorem st2_6 {a0 a1 a2 a3 a4 a5 x y : Option mAV} {tl : List (Option mAV)} {v : mAV} (h : mLong (some a5) = false) : mSt2 (a0 :: a1 :: a2 :: a3 :: a4 :: a5 :: x :: y :: tl) 6 v = a0 :: a1 :: a2 :: a3 :: a4 :: a5 :: some v :: none :: tl := by
  unfold mSt2 mKill
  simp [h]
theorem st1_7 {a0 a1 a2 a3 a4 a5 a6 x : Option mAV} {tl : List (Option mAV)} {v : mAV} (h : mLong (some a6) = false) : mSt1 (a0 :: a1 :: a2 :: a3 :: a4 :: a5 :: a6 :: x :: tl) 7 v = a0 :: a1 :: a2 :: a3 :: a4 :: a5 :: a6 :: some v :: tl := by
  unfold mSt1 mKill
  simp [h]
theorem st2_7 {a0 a1 a2 a3 a4 a5 a6 x y : Option mAV} {tl : List (Option mAV)} {v : mAV} (h : mLong (some a6) = false) : mSt2 (a0 :: a1 :: a2 :: a3 :: a4 :: a5 :: a6 :: x :: y :: tl) 7 v = a0 :: a1 :: a2 :: a3 :: a4 :: a5 :: a6 :: some v :: none :: tl := by
  unfold mSt2 mKill
  simp [h]
theorem st1_8 {a0 a1 a2 a3 a4 a5 a6 a7 x : Option mAV} {tl : List (Option mAV)} {v : mAV} (h : mLong (some a7) = false) : mSt1 (a0 :: a1 :: a2 :: a3 :: a4 :: a5 :: a6 :: a7 :: x :: tl) 8 v = a0 :: a1 :: a2 :: a3 :: a4 :: a5 :: a6 :: a7 :: some v :: tl := by
  unfold mSt1 mKill
  simp [h]
theorem st2_8 {a0 a1 a2 a3 a4 a5 a6 a7 x y : Option mAV} {tl : List (Option mAV)} {v : mAV} (h : mLong (some a7) = false) : mSt2 (a0 :: a1 :: a2 :: a3 :: a4 :: a5 :: a6 :: a7 :: x :: y :: tl) 8 v = a0 :: a1 :: a2 :: a3 :: a4 :: a5 :: a6 :: a7 :: some v :: none :: tl := by
  unfold mSt2 mKill
  simp [h]
theorem st1_9 {a0 a1 a2 a3 a4 a5 a6 a7 a8 x : Option mAV} {tl : List (Option mAV)} {v : mAV} (h : mLong (some a8) = false) : mSt1 (a0 :: a1 :: a2 :: a3 :: a4 :: a5 :: a6 :: a7 :: a8 :: x :: tl) 9 v = a0 :: a1 :: a2 :: a3 :: a4 :: a5 :: a6 :: a7 :: a8 :: some v :: tl := by
  unfold mSt1 mKill
  simp [h]
theorem st2_9 {a0 a1 a2 a3 a4 a5 a6 a7 a8 x y : Option mAV} {tl : List (Option mAV)} {v : mAV} (h : mLong (some a8) = false) : mSt2 (a0 :: a1 :: a2 :: a3 :: a4 :: a5 :: a6 :: a7 :: a8 :: x :: y :: tl) 9 v = a0 :: a1 :: a2 :: a3 :: a4 :: a5 :: a6 :: a7 :: a8 :: some v :: none :: tl := by
  unfold mSt2 mKill
  simp [h]
theorem st1_10 {a0 a1 a2 a3 a4 a5 a6 a7 a8 a9 x : Option mAV} {tl : List (Option mAV)} {v : mAV} (h : mLong (some a9) = false) : mSt1 (a0 :: a1 :: a2 :: a3 :: a4 :: a5 :: a6 :: a7 :: a8 :: a9 :: x :: tl) 10 v = a0 :: a1 :: a2 :: a3 :: a4 :: a5 :: a6 :: a7 :: a8 :: a9 :: some v :: tl := by
  unfold mSt1 mKill
  simp [h]
theorem st2_10 {a0 a1 a2 a3 a4 a5 a6 a7 a8 a9 x y : Option mAV} {tl : List (Option mAV)} {v : mAV} (h : mLong (some a9) = false) : mSt2 (a0 :: a1 :: a2 :: a3 :: a4 :: a5 :: a6 :: a7 :: a8 :: a9 :: x :: y :: tl) 10 v = a0 :: a1 :: a2 :: a3 :: a4 :: a5 :: a6 :: a7 :: a8 :: a9 :: some v :: none :: tl := by
  unfold mSt2 mKill
  simp [h]
theorem st1_11 {a0 a1 a2 a3 a4 a5 a6 a7 a8 a9 a10 x : Option mAV} {tl : List (Option mAV)} {v : mAV} (h : mLong (some a10) = false) : mSt1 (a0 :: a1 :: a2 :: a3 :: a4 :: a5 :: a6 :: a7 :: a8 :: a9 :: a10 :: x :: tl) 11 v = a0 :: a1 :: a2 :: a3 :: a4 :: a5 :: a6 :: a7 :: a8 :: a9 :: a10 :: some v :: tl := by
  unfold mSt1 mKill
  simp [h]
theorem st2_11 {a0 a1 a2 a3 a4 a5 a6 a7 a8 a9 a10 x y : Option mAV} {tl : List (Option mAV)} {v : mAV} (h : mLong (some a10) = false) : mSt2 (a0 :: a1 :: a2 :: a3 :: a4 :: a5 :: a6 :: a7 :: a8 :: a9 :: a10 :: x :: y :: tl) 11 v = a0 :: a1 :: a2 :: a3 :: a4 :: a5 :: a6 :: a7 :: a8 :: a9 :: a10 :: some v :: none :: tl := by
  unfold mSt2 mKill
  simp [h]
theorem st1_12 {a0 a1 a2 a3 a4 a5 a6 a7 a8 a9 a10 a11 x : Option mAV} {tl : List (Option mAV)} {v : mAV} (h : mLong (some a11) = false) : mSt1 (a0 :: a1 :: a2 :: a3 :: a4 :: a5 :: a6 :: a7 :: a8 :: a9 :: a10 :: a11 :: x :: tl) 12 v = a0 :: a1 :: a2 :: a3 :: a4 :: a5 :: a6 :: a7 :: a8 :: a9 :: a10 :: a11 :: some v :: tl := by
  unfold mSt1 mKill
  simp [h]
theorem st2_12 {a0 a1 a2 a3 a4 a5 a6 a7 a8 a9 a10 a11 x y : Option mAV} {tl : List (Option mAV)} {v : mAV} (h : mLong (some a11) = false) : mSt2 (a0 :: a1 :: a2 :: a3 :: a4 :: a5 :: a6 :: a7 :: a8 :: a9 :: a10 :: a11 :: x :: y :: tl) 12 v = a0 :: a1 :: a2 :: a3 :: a4 :: a5 :: a6 :: a7 :: a8 :: a9 :: a10 :: a11 :: some v :: none :: tl := by
  unfold mSt2 mKill
  simp [h]
theorem st1_13 {a0 a1 a2 a3 a4 a5 a6 a7 a8 a9 a10 a11 a12 x : Option mAV} {tl : List (Option mAV)} {v : mAV} (h : mLong (some a12) = false) : mSt1 (a0 :: a1 :: a2 :: a3 :: a4 :: a5 :: a6 :: a7 :: a8 :: a9 :: a10 :: a11 :: a12 :: x :: tl) 13 v = a0 :: a1 :: a2 :: a3 :: a4 :: a5 :: a6 :: a7 :: a8 :: a9 :: a10 :: a11 :: a12 :: some v :: tl := by
  unfold mSt1 mKill
  simp [h]
theorem st2_13 {a0 a1 a2 a3 a4 a5 a6 a7 a8 a9 a10 a11 a12 x y : Option mAV} {tl : List (Option mAV)} {v : mAV} (h : mLong (some a12) = false) : mSt2 (a0 :: a1 :: a2 :: a3 :: a4 :: a5 :: a6 :: a7 :: a8 :: a9 :: a10 :: a11 :: a12 :: x :: y :: tl) 13 v = a0 :: a1 :: a2 :: a3 :: a4 :: a5 :: a6 :: a7 :: a8 :: a9 :: a10 :: a11 :: a12 :: some v :: none :: tl := by
  unfold mSt2 mKill
  simp [h]
theorem st1_14 {a0 a1 a2 a3 a4 a5 a6 a7 a8 a9 a10 a11 a12 a13 x : Option mAV} {tl : List (Option mAV)} {v : mAV} (h : mLong (some a13) = false) : mSt1 (a0 :: a1 :: a2 :: a3 :: a4 :: a5 :: a6 :: a7 :: a8 :: a9 :: a10 :: a11 :: a12 :: a13 :: x :: tl) 14 v = a0 :: a1 :: a2 :: a3 :: a4 :: a5 :: a6 :: a7 :: a8 :: a9 :: a10 :: a11 :: a12 :: a13 :: some v :: tl := by
  unfold mSt1 mKill
  simp [h]
theorem st2_14 {a0 a1 a2 a3 a4 a5 a6 a7 a8 a9 a10 a11 a12 a13 x y : Option mAV} {tl : List (Option mAV)} {v : mAV} (h : mLong (some a13) = false) : mSt2 (a0 :: a1 :: a2 :: a3 :: a4 :: a5 :: a6 :: a7 :: a8 :: a9 :: a10 :: a11 :: a12 :: a13 :: x :: y :: tl) 14 v = a0 :: a1 :: a2 :: a3 :: a4 :: a5 :: a6 :: a7 :: a8 :: a9 :: a10 :: a11 :: a12 :: a13 :: some v :: none :: tl := by
  unfold mSt2 mKill
  simp [h]
theorem st1_15 {a0 a1 a2 a3 a4 a5 a6 a7 a8 a9 a10 a11 a12 a13 a14 x : Option mAV} {tl : List (Option mAV)} {v : mAV} (h : mLong (some a14) = false) : mSt1 (a0 :: a1 :: a2 :: a3 :: a4 :: a5 :: a6 :: a7 :: a8 :: a9 :: a10 :: a11 :: a12 :: a13 :: a14 :: x :: tl) 15 v = a0 :: a1 :: a2 :: a3 :: a4 :: a5 :: a6 :: a7 :: a8 :: a9 :: a10 :: a11 :: a12 :: a13 :: a14 :: some v :: tl := by
  unfold mSt1 mKill
  simp [h]
theorem st2_15 {a0 a1 a2 a3 a4 a5 a6 a7 a8 a9 a10 a11 a12 a13 a14 x y : Option mAV} {tl : List (Option mAV)} {v : mAV} (h : mLong (some a14) = false) : mSt2 (a0 :: a1 :: a2 :: a3 :: a4 :: a5 :: a6 :: a7 :: a8 :: a9 :: a10 :: a11 :: a12 :: a13 :: a14 :: x :: y :: tl) 15 v = a0 :: a1 :: a2 :: a3 :: a4 :: a5 :: a6 :: a7 :: a8 :: a9 :: a10 :: a11 :: a12 :: a13 :: a14 :: some v :: none :: tl := by
  unfold mSt2 mKill
  simp [h]
theorem st1_16 {a0 a1 a2 a3 a4 a5 a6 a7 a8 a9 a10 a11 a12 a13 a14 a15 x : Option mAV} {tl : List (Option mAV)} {v : mAV} (h : mLong (some a15) = false) : mSt1 (a0 :: a1 :: a2 :: a3 :: a4 :: a5 :: a6 :: a7 :: a8 :: a9 :: a10 :: a11 :: a12 :: a13 :: a14 :: a15 :: x :: tl) 16 v = a0 :: a1 :: a2 :: a3 :: a4 :: a5 :: a6 :: a7 :: a8 :: a9 :: a10 :: a11 :: a12 :: a13 :: a14 :: a15 :: some v :: tl := by
  unfold mSt1 mKill
  simp [h]
theorem st2_16 {a0 a1 a2 a3 a4 a5 a6 a7 a8 a9 a10 a11 a12 a13 a14 a15 x y : Option mAV} {tl : List (Option mAV)} {v : mAV} (h : mLong (some a15) = false) : mSt2 (a0 :: a1 :: a2 :: a3 :: a4 :: a5 :: a6 :: a7 :: a8 :: a9 :: a10 :: a11 :: a12 :: a13 :: a14 :: a15 :: x :: y :: tl) 16 v = a0 :: a1 :: a2 :: a3 :: a4 :: a5 :: a6 :: a7 :: a8 :: a9 :: a10 :: a11 :: a12 :: a13 :: a14 :: a15 :: some v :: none :: tl := by
  unfold mSt2 mKill
  simp [h]
theorem st1_17 {a0 a1 a2 a3 a4 a5 a6 a7 a8 a9 a10 a11 a12 a13 a14 a15 a16 x : Option mAV} {tl : List (Option mAV)} {v : mAV} (h : mLong (some a16) = false) : mSt1 (a0 :: a1 :: a2 :: a3 :: a4 :: a5 :: a6 :: a7 :: a8 :: a9 :: a10 :: a11 :: a12 :: a13 :: a14 :: a15 :: a16 :: x :: tl) 17 v = a0 :: a1 :: a2 :: a3 :: a4 :: a5 :: a6 :: a7 :: a8 :: a9 :: a10 :: a11 :: a12 :: a13 :: a14 :: a15 :: a16 :: some v :: tl := by
  unfold mSt1 mKill
  simp [h]
theorem st2_17 {a0 a1 a2 a3 a4 a5 a6 a7 a8 a9 a10 a11 a12 a13 a14 a15 a16 x y : Option mAV} {tl : List (Option mAV)} {v : mAV} (h : mLong (some a16) = false) : mSt2 (a0 :: a1 :: a2 :: a3 :: a4 :: a5 :: a6 :: a7 :: a8 :: a9 :: a10 :: a11 :: a12 :: a13 :: a14 :: a15 :: a16 :: x :: y :: tl) 17 v = a0 :: a1 :: a2 :: a3 :: a4 :: a5 :: a6 :: a7 :: a8 :: a9 :: a10 :: a11 :: a12 :: a13 :: a14 :: a15 :: a16 :: some v :: none :: tl := by
  unfold mSt2 mKill
  simp [h]
theorem st1_18 {a0 a1 a2 a3 a4 a5 a6 a7 a8 a9 a10 a11 a12 a13 a14 a15 a16 a17 x : Option mAV} {tl : List (Option mAV)} {v : mAV} (h : mLong (some a17) = false) : mSt1 (a0 :: a1 :: a2 :: a3 :: a4 :: a5 :: a6 :: a7 :: a8 :: a9 :: a10 :: a11 :: a12 :: a13 :: a14 :: a15 :: a16 :: a17 :: x :: tl) 18 v = a0 :: a1 :: a2 :: a3 :: a4 :: a5 :: a6 :: a7 :: a8 :: a9 :: a10 :: a11 :: a12 :: a13 :: a14 :: a15 :: a16 :: a17 :: some v :: tl := by
  unfold mSt1 mKill
  simp [h]
theorem st2_18 {a0 a1 a2 a3 a4 a5 a6 a7 a8 a9 a10 a11 a12 a13 a14 a15 a16 a17 x y : Option mAV} {tl : List (Option mAV)} {v : mAV} (h : mLong (some a17) = false) : mSt2 (a0 :: a1 :: a2 :: a3 :: a4 :: a5 :: a6 :: a7 :: a8 :: a9 :: a10 :: a11 :: a12 :: a13 :: a14 :: a15 :: a16 :: a17 :: x :: y :: tl) 18 v = a0 :: a1 :: a2 :: a3 :: a4 :: a5 :: a6 :: a7 :: a8 :: a9 :: a10 :: a11 :: a12 :: a13 :: a14 :: a15 :: a16 :: a17 :: some v :: none :: tl := by
  unfold mSt2 mKill
  simp [h]
