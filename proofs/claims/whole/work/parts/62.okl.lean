/-! EVERY ORDER that the text says is in range -/
theorem sg1 {c : Prop} [Decidable c] : (if c then (1 : Int32) else -1) = 1 ∨ (if c then (1 : Int32) else -1) = -1 := by
  split
  · exact Or.inl rfl
  · exact Or.inr rfl
theorem one_okL {t : Nat → Int32} {L p q : Nat} {o : mOrd} (h : one (tx t L) p = .inr (q, o)) : okL o := by
  refine ⟨(one_ok h).1, fun h0 => ?_⟩
  unfold one at h
  split at h
  · unfold oneLeg at h
    split at h
    · exact absurd h (by simp)
    · rename_i g1
      split at h
      · exact absurd h (by simp)
      · rename_i g2
        split at h
        · exact absurd h (by simp)
        · rename_i g3
          simp at h
          have r1 := num_rng (T := tx t L) (most := 9999) (least := 48) (p := p + 1) (lo := 0) (by decide) (by decide) (by decide) (by decide) (fun e => g1 (Or.inl e))
          have r2 := num_rng (T := tx t L) (most := 9999) (least := 48) (p := (legE (tx t L) p).1 + 1) (lo := 0) (by decide) (by decide) (by decide) (by decide) (fun e => g2 (Or.inl e))
          have r3 := num_rng (T := tx t L) (most := 20000) (least := 49) (p := (legN (tx t L) p).1 + 1) (lo := 1) (by decide) (by decide) (by decide) (by decide) g3
          have z : (9999 : Int32).toInt = 9999 := rfl
          rw [z] at r1 r2
          rw [← h.2]
          refine ⟨sg_rng sg1 r1.1 r1.2, sg_rng sg1 r2.1 r2.2, ?_, ?_⟩
          · rw [Int32.le_iff_toInt_le]
            exact r3.1
          · rw [Int32.le_iff_toInt_le]
            exact r3.2
  · split at h
    · split at h
      · simp at h
        rw [← h.2] at h0
        exact absurd (show (3 : Int32) = 0 from h0) (by decide)
      · exact absurd h (by simp)
    · split at h
      · simp at h
        rw [← h.2] at h0
        exact absurd (show (1 : Int32) = 0 from h0) (by decide)
      · split at h
        · simp at h
          rw [← h.2] at h0
          exact absurd (show (2 : Int32) = 0 from h0) (by decide)
        · exact absurd h (by simp)
