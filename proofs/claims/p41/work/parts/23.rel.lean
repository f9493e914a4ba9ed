/-! WHAT A STATE OF THE COMPONENT IS, beside the model's row of 190 numbers f -/
def InS (s : Nat) (r : mRef) : Prop := r.2.1 = s ∧ (r.1 = 0 ∨ r.1 = 3 ∨ r.1 = 4 ∨ r.1 = 7 ∨ r.1 = 8 ∨ r.1 = 9)
/-- nothing outside the state s has changed -/
def Fr (s : Nat) (M M' : mM) : Prop := ∀ r, ¬ InS s r → M' r = M r
theorem Fr.rf {s : Nat} {M : mM} : Fr s M M := fun _ _ => rfl
theorem Fr.tr {s : Nat} {M M1 M2 : mM} (h1 : Fr s M M1) (h2 : Fr s M1 M2) : Fr s M M2 := fun r h => (h2 r h).trans (h1 r h)
theorem Fr.up {s k i j n : Nat} {v : Int32} {M M' : mM} (h : Fr s M M') (hr : InS s (k, i, j)) : Fr s M (mUp M' (k, i, j) n v) := fun r hn => by
  rw [mUp_ne (fun q => hn (by rw [q]; exact hr))]
  exact h r hn
theorem Fr.cp {s k i j n : Nat} {a : mRef} {M M' : mM} (h : Fr s M M') (hr : InS s (k, i, j)) : Fr s M (mCpy M' a (k, i, j) n) := fun r hn => by
  rw [mCpy_ne (fun q => hn (by rw [q]; exact hr))]
  exact h r hn
def bef (f : Nat → Int32) (w : Nat) : Nat → Int32
  | 0 => 0
  | j + 1 => bef f w j + f (1 + 3 * j + w)
def TrR (M : mM) (s : Nat) (f : Nat → Int32) (n : Nat) : Prop := f 0 = nI n ∧ n ≤ 12 ∧ M (4, s, 0) 5 = nI n ∧ M (4, s, 0) 3 = f 37 ∧ M (4, s, 0) 4 = f 38 ∧ ∀ w, w < 3 → ∀ j, j ≤ n → M (7, s, w) j = bef f w j
def blk (f : Nat → Int32) (i : Nat) : Nat → Int32 := fun k => f (40 + 25 * i + k)
def FdR (M : mM) (s i : Nat) (b : Nat → Int32) (m : Nat) : Prop := b 0 = nI m ∧ m ≤ 12 ∧ 3 ≤ m ∧ M (0, s, i) 2 = nI m ∧ ∀ k, k < m → M (8, s, i) k = b (1 + 2 * k) ∧ M (9, s, i) k = b (2 + 2 * k)
def RelS (M : mM) (s : Nat) (f : Nat → Int32) : Prop := s < 7 ∧ (∃ n, TrR M s f n) ∧ ∃ c, f 39 = nI c ∧ c ≤ 6 ∧ M (3, s, 0) 2 = nI c ∧ ∀ i, i < c → ∃ m, FdR M s i (blk f i) m
theorem nI_inj {a b : Nat} (h : nI a = nI b) (ha : a < 2 ^ 31 := by omega) (hb : b < 2 ^ 31 := by omega) : a = b := nI_eq_of h ha hb
/-- it depends on the state's own objects alone -/
theorem RelS.congr {M M' : mM} {s : Nat} {f : Nat → Int32} (h : ∀ r, InS s r → M' r = M r) (hR : RelS M s f) : RelS M' s f := by
  obtain ⟨hs, ⟨n, h1, h2, h3, h4, h5, h6⟩, c, g1, g2, g3, g4⟩ := hR
  have e4 : M' (4, s, 0) = M (4, s, 0) := h _ ⟨rfl, by simp⟩
  have e3 : M' (3, s, 0) = M (3, s, 0) := h _ ⟨rfl, by simp⟩
  refine ⟨hs, ⟨n, h1, h2, by rw [e4]; exact h3, by rw [e4]; exact h4, by rw [e4]; exact h5, fun w hw j hj => ?_⟩, c, g1, g2, by rw [e3]; exact g3, fun i hi => ?_⟩
  · rw [h (7, s, w) ⟨rfl, by simp⟩]
    exact h6 w hw j hj
  · obtain ⟨m, a1, a2, a3, a4, a5⟩ := g4 i hi
    refine ⟨m, a1, a2, a3, by rw [h (0, s, i) ⟨rfl, by simp⟩]; exact a4, fun k hk => ?_⟩
    rw [h (8, s, i) ⟨rfl, by simp⟩, h (9, s, i) ⟨rfl, by simp⟩]
    exact a5 k hk
theorem RelS.fr {M M' : mM} {s t : Nat} {f : Nat → Int32} (h : Fr t M M') (hst : s ≠ t) (hR : RelS M s f) : RelS M' s f :=
  hR.congr (fun r hr => h r (fun q => hst (hr.1.symm.trans q.1)))
/-- of a copy -/
def CpT (M M1 : mM) (s s' : Nat) : Prop := (∀ k, 3 ≤ k → k ≤ 5 → M1 (4, s, 0) k = M (4, s', 0) k) ∧ ∀ w, w < 3 → ∀ j, j < 13 → M1 (7, s, w) j = M (7, s', w) j
def CpF (M M1 : mM) (s s' i : Nat) : Prop := M1 (0, s, i) 2 = M (0, s', i) 2 ∧ ∀ k, k < 12 → M1 (8, s, i) k = M (8, s', i) k ∧ M1 (9, s, i) k = M (9, s', i) k
theorem tCopy_fr {M : mM} {s s' : Nat} : Fr s M (tCopy M s s') := by
  unfold tCopy
  refine Fr.up (Fr.up (Fr.up (Fr.cp (Fr.cp (Fr.cp Fr.rf ?_) ?_) ?_) ?_) ?_) ?_ <;> exact ⟨rfl, by simp⟩
theorem tCopy_cp {M : mM} {s s' : Nat} (hs : s ≠ s') : CpT M (tCopy M s s') s s' := by
  have hs' : ¬ s' = s := fun q => hs q.symm
  refine ⟨fun k h1 h2 => ?_, fun w hw j hj => ?_⟩
  · obtain rfl | rfl | rfl : k = 3 ∨ k = 4 ∨ k = 5 := by omega
    all_goals simp [tCopy, mUp_at, mCpy_at, hs, hs']
  · obtain rfl | rfl | rfl : w = 0 ∨ w = 1 ∨ w = 2 := by omega
    all_goals simp [tCopy, mUp_at, mCpy_at, hs, hs', hj]
theorem fCopy_fr {M : mM} {s s' i i' : Nat} : Fr s M (fCopy M s i s' i') := by
  unfold fCopy
  refine Fr.up (Fr.cp (Fr.cp Fr.rf ?_) ?_) ?_ <;> exact ⟨rfl, by simp⟩
theorem fCopy_ne {M : mM} {s s' i i' : Nat} {r : mRef} (h0 : r ≠ (0, s, i)) (h8 : r ≠ (8, s, i)) (h9 : r ≠ (9, s, i)) : fCopy M s i s' i' r = M r := by
  unfold fCopy
  rw [mUp_ne h0, mCpy_ne h9, mCpy_ne h8]
theorem fCopy_at {M : mM} {s s' i i' : Nat} (h : ¬ (s' = s ∧ i' = i)) : fCopy M s i s' i' (0, s, i) 2 = M (0, s', i') 2 ∧ ∀ k, k < 12 → fCopy M s i s' i' (8, s, i) k = M (8, s', i') k ∧ fCopy M s i s' i' (9, s, i) k = M (9, s', i') k := by
  refine ⟨?_, fun k hk => ⟨?_, ?_⟩⟩
  · simp [fCopy, mUp_at, mCpy_at]
  · simp [fCopy, mUp_at, mCpy_at, hk]
  · simp [fCopy, mUp_at, mCpy_at, hk]
theorem s_S_copyFrom {d s s' : Nat} {M : mM} {f : Nat → Int32} (hs : s < 7) (hR : RelS M s' f) (hne : s ≠ s') : ∃ M', CT iS_copyFrom (d + 2) [vR 3 s 0, vR 3 s' 0] M (.inl none) M' 0 ∧ RelS M' s f ∧ Fr s M M' := by
  obtain ⟨hs', ⟨n, h1, h2, h3, h4, h5, h6⟩, c, g1, g2, g3, g4⟩ := id hR
  have hne' : s' ≠ s := fun q => hne q.symm
  have loop : ∀ (k i : Nat) (M1 : mM), i + k = c → Fr s M M1 → CpT M M1 s s' → (∀ i', i' < i → CpF M M1 s s' i') → ∃ M', AW iS_copyFrom (d + 2) 13 [some (vR 3 s 0), some (vR 3 s' 0), some (vI (nI i))] [] M1 (.inl none) M' 0 ∧ Fr s M M' ∧ CpT M M' s s' ∧ (∀ i', i' < c → CpF M M' s s' i') ∧ M' (3, s, 0) 2 = nI c := by
    intro k
    induction k with
    | zero =>
      intro i M1 hi hf ht hc
      obtain rfl : i = c := by omega
      have e3 : M1 (3, s', 0) 2 = nI i := by rw [hf _ (fun q => hne' q.1)]; exact g3
      refine ⟨mUp M1 (3, s, 0) 2 (nI i), ?_, hf.up ⟨rfl, by simp⟩, ⟨fun k a b => by rw [mUp_ne (by simp)]; exact ht.1 k a b, fun w hw j hj => by rw [mUp_ne (by simp)]; exact ht.2 w hw j hj⟩, fun i' hi' => ⟨by rw [mUp_ne (by simp)]; exact (hc i' hi').1, fun k hk => by rw [mUp_ne (by simp), mUp_ne (by simp)]; exact (hc i' hi').2 k hk⟩, by simp [mUp_at]⟩
      refine aw_iload_n k30_13 rfl ?_
      refine aw_aload_n k30_14 rfl ?_
      refine aw_getI k30_15 hC_S_copyFrom fs_S_25 (by decide) ⟨(by first | assumption | decide), rfl⟩ rfl ?_
      try simp only [e3]
      refine aw_icmp_ge 48 k30_18 (by decide) (fun c_18 => ?_) (fun c_18 => ?_)
      · refine aw_aload_n k30_48 rfl ?_
        refine aw_aload_n k30_49 rfl ?_
        refine aw_getI k30_50 hC_S_copyFrom fs_S_25 (by decide) ⟨(by first | assumption | decide), rfl⟩ rfl ?_
        try simp only [e3]
        refine aw_putI k30_53 hC_S_copyFrom fs_S_25 (by decide) ⟨(by first | assumption | decide), rfl⟩ rfl po_3_2 ?_
        try simp only [e3]
        refine aw_return k30_56 hR_S_copyFrom ?_
        all_goals first | rfl | exact Or.inl rfl | exact Or.inr rfl | assumption | (simp_all; done) | ((repeat' split) <;> first | rfl | (simp only [Int32.lt_iff_toInt_lt, Int32.le_iff_toInt_le, Int64.lt_iff_toInt_lt, Int64.le_iff_toInt_le] at *; omega) | (simp_all; done))
      · exact absurd (nI_leI (by omega) (by omega) |>.mpr (Nat.le_refl i)) c_18
    | succ k ih =>
      intro i M1 hi hf ht hc
      have e3 : M1 (3, s', 0) 2 = nI c := by rw [hf _ (fun q => hne' q.1)]; exact g3
      have hcl : (nI i).toNatClampNeg = i := nI_clamp (by omega)
      have hi6 : i < 6 := by omega
      have fa := fCopy_at (M := M1) (s := s) (s' := s') (i := i) (i' := i) (fun q => hne' q.1)
      obtain ⟨M', hA, hp⟩ := ih (i + 1) (fCopy M1 s i s' i) (by omega) (hf.tr fCopy_fr) ⟨fun k a b => by rw [fCopy_ne (by simp) (by simp) (by simp)]; exact ht.1 k a b, fun w hw j hj => by rw [fCopy_ne (by simp) (by simp) (by simp)]; exact ht.2 w hw j hj⟩ (fun i' hi' => by
        by_cases e : i' = i
        · subst e
          refine ⟨fa.1.trans (by rw [hf _ (fun q => hne' q.1)]), fun k hk => ⟨(fa.2 k hk).1.trans (by rw [hf _ (fun q => hne' q.1)]), (fa.2 k hk).2.trans (by rw [hf _ (fun q => hne' q.1)])⟩⟩
        · have := hc i' (by omega)
          refine ⟨?_, fun k hk => ?_⟩
          · rw [fCopy_ne (by simp [e]) (by simp) (by simp)]; exact this.1
          · rw [fCopy_ne (by simp) (by simp [e]) (by simp), fCopy_ne (by simp) (by simp) (by simp [e])]; exact this.2 k hk)
      refine ⟨M', ?_, hp⟩
      refine aw_iload_n k30_13 rfl ?_
      refine aw_aload_n k30_14 rfl ?_
      refine aw_getI k30_15 hC_S_copyFrom fs_S_25 (by decide) ⟨(by first | assumption | decide), rfl⟩ rfl ?_
      try simp only [e3]
      refine aw_icmp_ge 48 k30_18 (by decide) (fun c_18 => ?_) (fun c_18 => ?_)
      · exact absurd (nI_le_of c_18) (by omega)
      · refine aw_iload_n k30_21 rfl ?_
        refine aw_bipush (v := 6) k30_22 (by decide) ?_
        refine aw_icmp_ge 48 k30_24 (by decide) (fun c_24 => ?_) (fun c_24 => ?_)
        · exact absurd (nI_le_of (a := 6) c_24) (by omega)
        · refine aw_aload_n k30_27 rfl ?_
          refine aw_getR k30_28 hC_S_copyFrom fs_S_20 (by decide) ⟨(by first | assumption | decide), rfl⟩ rfl ?_
          try simp only [e3]
          refine aw_iload_n k30_31 rfl ?_
          first | refine aw_aaloadF k30_32 (by first | assumption | decide) (vp_in_nI hi6 (by decide)) ?_ | refine aw_aaloadS k30_32 (vp_in_nI hi6 (by decide)) ?_
          rw [hcl]
          refine aw_aload_n k30_33 rfl ?_
          refine aw_getR k30_34 hC_S_copyFrom fs_S_20 (by decide) ⟨(by first | assumption | decide), rfl⟩ rfl ?_
          try simp only [e3]
          refine aw_iload_n k30_37 rfl ?_
          first | refine aw_aaloadF k30_38 (by first | assumption | decide) (vp_in_nI hi6 (by decide)) ?_ | refine aw_aaloadS k30_38 (vp_in_nI hi6 (by decide)) ?_
          rw [hcl]
          refine aw_callV1v k30_39 hC_S_copyFrom ok_F_copyFrom sv_S_33 hH_F_copyFrom ⟨(by first | assumption | decide), (by first | assumption | decide)⟩ (by decide) hN_F_copyFrom (by rw [hL_F_copyFrom]; exact Nat.le_of_ble_eq_true rfl) (Nat.le_of_ble_eq_true rfl) (s_F_copyFrom hs hi6 hs' hi6) ?_
          refine aw_iinc (y := 1) k30_42 rfl (by decide) rfl ?_
          try simp only [e3]
          rw [nI_1]
          refine aw_goto (t := 13) k30_45 (by decide) ?_
          exact hA
  obtain ⟨M', hA, hf, ht, hc, h3'⟩ := loop c 0 (tCopy M s s') (by omega) tCopy_fr (tCopy_cp hne) (fun i' hi' => absurd hi' (Nat.not_lt_zero _))
  refine ⟨M', ?_, ⟨hs, ⟨n, h1, h2, by rw [ht.1 5 (by omega) (by omega)]; exact h3, by rw [ht.1 3 (by omega) (by omega)]; exact h4, by rw [ht.1 4 (by omega) (by omega)]; exact h5, fun w hw j hj => by rw [ht.2 w hw j (by omega)]; exact h6 w hw j hj⟩, c, g1, g2, h3', fun i hi => ?_⟩, hf⟩
  · refine ct_go hL_S_copyFrom rfl ?_
    refine aw_aload_n k30_0 rfl ?_
    refine aw_getR k30_1 hC_S_copyFrom fs_S_12 (by decide) ⟨(by first | assumption | decide), rfl⟩ rfl ?_
    refine aw_aload_n k30_4 rfl ?_
    refine aw_getR k30_5 hC_S_copyFrom fs_S_12 (by decide) ⟨(by first | assumption | decide), rfl⟩ rfl ?_
    refine aw_callV1v k30_8 hC_S_copyFrom ok_T_copyFrom sv_S_29 hH_T_copyFrom ⟨(by first | assumption | decide), rfl⟩ (by decide) hN_T_copyFrom (by rw [hL_T_copyFrom]; exact Nat.le_of_ble_eq_true rfl) (Nat.le_of_ble_eq_true rfl) (s_T_copyFrom hs hs') ?_
    refine aw_iconst (v := 0) k30_11 (by decide) ?_
    refine aw_istore_n k30_12 (Nat.le_of_ble_eq_true rfl) rfl ?_
    exact hA
  · obtain ⟨m, a1, a2, a3, a4, a5⟩ := g4 i hi
    have := hc i hi
    exact ⟨m, a1, a2, a3, this.1.trans a4, fun k hk => ⟨(this.2 k (by omega)).1.trans (a5 k hk).1, (this.2 k (by omega)).2.trans (a5 k hk).2⟩⟩
theorem s_S_hasField {d s : Nat} {M : mM} {x : Int32} (hs : s < 7) : CT iS_hasField d [vR 3 s 0, vI x] M (.inl (some (vI (bI (decide (0 ≤ x) && (decide (x < M (3, s, 0) 2) && decide (x < 6))))))) M 0 := by
  refine ct_go hL_S_hasField rfl ?_
  refine aw_iload_n k31_0 rfl ?_
  refine aw_if_lt 22 k31_1 (by decide) (fun c_1 => ?_) (fun c_1 => ?_)
  · refine aw_iconst (v := 0) k31_22 (by decide) ?_
    refine aw_zreturn k31_23 hR_S_hasField ?_ ?_ ?_
    · first | exact Or.inl rfl | exact Or.inr rfl
    · first | exact bI_t (and_t (decide_eq_true (Int32.not_lt.mp c_1)) (and_t (decide_eq_true (Int32.not_le.mp c_9)) (decide_eq_true (Int32.not_le.mp c_15)))) | exact bI_f (and_f2 (and_f2 (decide_eq_false (Int32.not_lt.mpr c_15)))) | exact bI_f (and_f2 (and_f1 (decide_eq_false (Int32.not_lt.mpr c_9)))) | exact bI_f (and_f1 (decide_eq_false (Int32.not_le.mpr c_1)))
    · rfl
  · refine aw_iload_n k31_4 rfl ?_
    refine aw_aload_n k31_5 rfl ?_
    refine aw_getI k31_6 hC_S_hasField fs_S_25 (by decide) ⟨(by first | assumption | decide), rfl⟩ rfl ?_
    refine aw_icmp_ge 22 k31_9 (by decide) (fun c_9 => ?_) (fun c_9 => ?_)
    · refine aw_iconst (v := 0) k31_22 (by decide) ?_
      refine aw_zreturn k31_23 hR_S_hasField ?_ ?_ ?_
      · first | exact Or.inl rfl | exact Or.inr rfl
      · first | exact bI_t (and_t (decide_eq_true (Int32.not_lt.mp c_1)) (and_t (decide_eq_true (Int32.not_le.mp c_9)) (decide_eq_true (Int32.not_le.mp c_15)))) | exact bI_f (and_f2 (and_f2 (decide_eq_false (Int32.not_lt.mpr c_15)))) | exact bI_f (and_f2 (and_f1 (decide_eq_false (Int32.not_lt.mpr c_9)))) | exact bI_f (and_f1 (decide_eq_false (Int32.not_le.mpr c_1)))
      · rfl
    · refine aw_iload_n k31_12 rfl ?_
      refine aw_bipush (v := 6) k31_13 (by decide) ?_
      refine aw_icmp_ge 22 k31_15 (by decide) (fun c_15 => ?_) (fun c_15 => ?_)
      · refine aw_iconst (v := 0) k31_22 (by decide) ?_
        refine aw_zreturn k31_23 hR_S_hasField ?_ ?_ ?_
        · first | exact Or.inl rfl | exact Or.inr rfl
        · first | exact bI_t (and_t (decide_eq_true (Int32.not_lt.mp c_1)) (and_t (decide_eq_true (Int32.not_le.mp c_9)) (decide_eq_true (Int32.not_le.mp c_15)))) | exact bI_f (and_f2 (and_f2 (decide_eq_false (Int32.not_lt.mpr c_15)))) | exact bI_f (and_f2 (and_f1 (decide_eq_false (Int32.not_lt.mpr c_9)))) | exact bI_f (and_f1 (decide_eq_false (Int32.not_le.mpr c_1)))
        · rfl
      · refine aw_iconst (v := 1) k31_18 (by decide) ?_
        refine aw_goto (t := 23) k31_19 (by decide) ?_
        refine aw_zreturn k31_23 hR_S_hasField ?_ ?_ ?_
        · first | exact Or.inl rfl | exact Or.inr rfl
        · first | exact bI_t (and_t (decide_eq_true (Int32.not_lt.mp c_1)) (and_t (decide_eq_true (Int32.not_le.mp c_9)) (decide_eq_true (Int32.not_le.mp c_15)))) | exact bI_f (and_f2 (and_f2 (decide_eq_false (Int32.not_lt.mpr c_15)))) | exact bI_f (and_f2 (and_f1 (decide_eq_false (Int32.not_lt.mpr c_9)))) | exact bI_f (and_f1 (decide_eq_false (Int32.not_le.mpr c_1)))
        · rfl
