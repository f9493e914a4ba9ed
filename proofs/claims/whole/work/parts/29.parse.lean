/-! THE ORDER TEXT: what it says -/
def tx (t : Nat → Int32) (L : Nat) (p : Nat) : Int32 := if p < L then t p else 0
def numG (T : Nat → Int32) (most : Int32) : Nat → Nat → Int32 → Nat × Int32
  | 0, a, v => (a, v)
  | k + 1, a, v => if grows (T a) v most then numG T most k (a + 1) (v * 10 + (T a - 48)) else (a, v)
def num (T : Nat → Int32) (most least : Int32) (p : Nat) : Nat × Int32 := if least ≤ T p ∧ T p ≤ 57 then numG T most 80 (p + 1) (T p - 48) else (p, 0)
abbrev mOrd : Type := Int32 × Int32 × Int32 × Int32
def legE (T : Nat → Int32) (p : Nat) : Nat × Int32 := num T 9999 48 (p + 1)
def legN (T : Nat → Int32) (p : Nat) : Nat × Int32 := num T 9999 48 ((legE T p).1 + 1)
def legL (T : Nat → Int32) (p : Nat) : Nat × Int32 := num T 20000 49 ((legN T p).1 + 1)
def oneLeg (T : Nat → Int32) (p : Nat) : Nat ⊕ (Nat × mOrd) :=
  if (legE T p).1 = p + 1 ∨ ¬ (T (legE T p).1 = 110 ∨ T (legE T p).1 = 115) then .inl (legE T p).1
  else if (legN T p).1 = (legE T p).1 + 1 ∨ ¬ T (legN T p).1 = 108 then .inl (legN T p).1
  else if (legL T p).1 = (legN T p).1 + 1 then .inl (legL T p).1
  else .inr ((legL T p).1, 0, (if T p = 101 then 1 else -1) * (legE T p).2, (if T (legE T p).1 = 110 then 1 else -1) * (legN T p).2, (legL T p).2)
def one (T : Nat → Int32) (p : Nat) : Nat ⊕ (Nat × mOrd) :=
  if T p = 101 ∨ T p = 119 then oneLeg T p
  else if T p = 103 then (if 48 ≤ T (p + 1) ∧ T (p + 1) ≤ 53 then .inr (p + 2, 3, T (p + 1) - 48, 0, 0) else .inl (p + 1))
  else if T p = 98 then .inr (p + 1, 1, 0, 0, 0)
  else if T p = 107 then .inr (p + 1, 2, 0, 0, 0)
  else .inl p
def ords (T : Nat → Int32) (L : Nat) : Nat → Nat → Nat ⊕ List mOrd
  | 0, p => .inl p
  | k + 1, p => match one T p with
    | .inl e => .inl e
    | .inr (q, o) => if q < L then (if T q = 59 then (match ords T L k (q + 1) with | .inl e => .inl e | .inr os => .inr (o :: os)) else .inl q) else .inr [o]
theorem tx_at {t : Nat → Int32} {L p : Nat} (h : p < L) : tx t L p = t p := if_pos h
theorem tx_end {t : Nat → Int32} {L p : Nat} (h : L ≤ p) : tx t L p = 0 := if_neg (by omega)
theorem tx_lt {t : Nat → Int32} {L p : Nat} (h : ¬ tx t L p = 0) : p < L := by
  by_cases e : p < L
  · exact e
  · exact absurd (tx_end (by omega)) h
theorem ge_ne0 {c a : Int32} (h : a ≤ c) (ha : 0 < a := by decide) : ¬ c = 0 := fun e => by
  subst e
  exact absurd h (Int32.not_le.mpr ha)
theorem numG_le {t : Nat → Int32} {L : Nat} {most : Int32} : ∀ {k a : Nat} {v : Int32}, a ≤ L → (numG (tx t L) most k a v).1 ≤ L := by
  intro k
  induction k with
  | zero => intro a v h; exact h
  | succ k ih =>
    intro a v h
    unfold numG
    by_cases g : grows (tx t L a) v most
    · rw [if_pos g]
      exact ih (tx_lt (ge_ne0 g.1.1))
    · rw [if_neg g]
      exact h
theorem numG_ge {T : Nat → Int32} {most : Int32} : ∀ {k a : Nat} {v : Int32}, a ≤ (numG T most k a v).1 := by
  intro k
  induction k with
  | zero => intro a v; exact Nat.le_refl a
  | succ k ih =>
    intro a v
    unfold numG
    by_cases g : grows (T a) v most
    · rw [if_pos g]
      exact Nat.le_trans (Nat.le_succ a) ih
    · rw [if_neg g]
      exact Nat.le_refl a
theorem numG_stop {t : Nat → Int32} {L : Nat} {most : Int32} : ∀ {k a : Nat} {v : Int32}, L < a + k → ¬ grows (tx t L (numG (tx t L) most k a v).1) (numG (tx t L) most k a v).2 most := by
  intro k
  induction k with
  | zero =>
    intro a v h g
    exact ge_ne0 g.1.1 (by decide) (tx_end (show L ≤ a by omega))
  | succ k ih =>
    intro a v h
    unfold numG
    by_cases g : grows (tx t L a) v most
    · rw [if_pos g]
      exact ih (by omega)
    · rw [if_neg g]
      exact g
/-! the component's reading of it -/
def rowO (M : mM) (i : Nat) (o : mOrd) : Prop := M (12, 0, 1) i = o.1 ∧ (o.1 = 0 → M (12, 0, 2) i = o.2.1 ∧ M (12, 0, 3) i = o.2.2.1 ∧ M (12, 0, 4) i = o.2.2.2) ∧ (o.1 = 3 → M (12, 0, 5) i = o.2.1)
def OFr (M0 M : mM) : Prop := (∀ r, r ≠ (2, 0, 0) → ¬ (r.1 = 12 ∧ 0 < r.2.2) → M r = M0 r) ∧ M (2, 0, 0) 1 = M0 (2, 0, 0) 1
def St (M0 : mM) (os : List mOrd) (M : mM) : Prop := OFr M0 M ∧ ∀ i o, os[i]? = some o → rowO M i o
theorem St.row {M0 M : mM} {os : List mOrd} {j k : Nat} {v : Int32} (h : St M0 os M) (hj : 0 < j) (hk : k = os.length) : St M0 os (mUp M (12, 0, j) k v) := by
  subst hk
  obtain ⟨⟨h1, h2⟩, h3⟩ := h
  refine ⟨⟨fun r a b => ?_, ?_⟩, fun i o ho => ?_⟩
  · rw [mUp_ne (fun e => b (by rw [e]; exact ⟨rfl, hj⟩))]
    exact h1 r a b
  · rw [mUp_ne (by simp)]
    exact h2
  · have hi : i < os.length := (List.getElem?_eq_some_iff.mp ho).1
    have hi' : ¬ i = os.length := by omega
    have e : ∀ w, mUp M (12, 0, j) os.length v (12, 0, w) i = M (12, 0, w) i := fun w => by simp [mUp_at, hi']
    unfold rowO
    simp only [e]
    exact h3 i o ho
theorem St.o {M0 M : mM} {os : List mOrd} {q : Nat} {v : Int32} (h : St M0 os M) (hq : ¬ q = 1) : St M0 os (mUp M (2, 0, 0) q v) := by
  have hq' : ¬ 1 = q := fun e => hq e.symm
  obtain ⟨⟨h1, h2⟩, h3⟩ := h
  refine ⟨⟨fun r a b => ?_, ?_⟩, fun i o ho => ?_⟩
  · rw [mUp_ne a]
    exact h1 r a b
  · simp [mUp_at, hq']
    exact h2
  · unfold rowO
    simp only [mUp_ne (M := M) (r := (2, 0, 0)) (r' := (12, 0, 1)) (by simp), mUp_ne (M := M) (r := (2, 0, 0)) (r' := (12, 0, 2)) (by simp), mUp_ne (M := M) (r := (2, 0, 0)) (r' := (12, 0, 3)) (by simp), mUp_ne (M := M) (r := (2, 0, 0)) (r' := (12, 0, 4)) (by simp), mUp_ne (M := M) (r := (2, 0, 0)) (r' := (12, 0, 5)) (by simp)]
    exact h3 i o ho
theorem St.snoc {M0 M : mM} {os : List mOrd} {o : mOrd} (h : St M0 os M) (ho : rowO M os.length o) : St M0 (os ++ [o]) M := by
  refine ⟨h.1, fun i o' hi => ?_⟩
  by_cases e : i < os.length
  · rw [List.getElem?_append_left e] at hi
    exact h.2 i o' hi
  · rw [List.getElem?_append_right (by omega)] at hi
    have e2 : i = os.length := by
      have := (List.getElem?_eq_some_iff.mp hi).1
      simp at this
      omega
    subst e2
    simp at hi
    rw [← hi]
    exact ho
def GO (d : Nat) (res : Int32) (Post : mM → Prop) (M : mM) (i : Nat) : Prop := ∃ M', AW iO_firstError (d + 4) 12 [some (vR 2 0 0), some (vI (nI i))] [] M (.inl (some (vI res))) M' 0 ∧ Post M'
theorem go_step {d L : Nat} {res : Int32} {Post : mM → Prop} {M0 : mM} {t : Nat → Int32} (hL80 : L ≤ 80) (hL : M0 (2, 0, 0) 1 = nI L) (ht : M0 (12, 0, 0) = t) {M M2 : mM} {i : Nat} {c : Int32} (hf : OFr M0 M) (hi : i < L) (hc : tx t L i = c) (hA : iacc d c M 1 M2) (h : GO d res Post M2 (i + 1)) : GO d res Post M i := by
  obtain ⟨M', hG, hP⟩ := h
  refine ⟨M', ?_, hP⟩
  have e1 : M (2, 0, 0) 1 = nI L := hf.2.trans hL
  have e0 : M (12, 0, 0) i = c := by rw [hf.1 _ (by simp) (by simp), ht, ← hc, tx_at hi]
  have hcc : (nI i).toNatClampNeg = i := nI_clamp (by omega)
  have hi80 : i < 80 := by omega
  refine aw_iload_n k31_12 rfl ?_
  refine aw_aload_n k31_13 rfl ?_
  refine aw_getI k31_14 hC_O_firstError fs_O_31 (by decide) ⟨rfl, rfl⟩ rfl ?_
  try simp only [e1, hcc, e0]
  refine aw_icmp_ge 47 k31_17 (by decide) (fun c_17 => ?_) (fun c_17 => ?_)
  · exact absurd (nI_le_of c_17) (by omega)
  · refine aw_iload_n k31_20 rfl ?_
    refine aw_bipush (v := 80) k31_21 (by decide) ?_
    refine aw_icmp_ge 47 k31_23 (by decide) (fun c_23 => ?_) (fun c_23 => ?_)
    · exact absurd (nI_le_of (a := 80) c_23) (by omega)
    · refine aw_aload_n k31_26 rfl ?_
      refine aw_aload_n k31_27 rfl ?_
      refine aw_getR k31_28 hC_O_firstError fs_O_9 (by decide) ⟨rfl, rfl⟩ rfl ?_
      try simp only [e1, hcc, e0]
      refine aw_iload_n k31_31 rfl ?_
      refine aw_caload k31_32 (by first | exact ⟨rfl, rfl⟩ | exact ⟨by assumption, rfl⟩ | exact ⟨by assumption, by assumption⟩ | exact ⟨rfl, by decide⟩ | exact ⟨by assumption, by decide⟩ | exact ⟨by decide, rfl⟩ | exact ⟨by decide, by decide⟩ | exact ⟨by decide, by assumption⟩ | assumption) (by first | rfl | assumption) (by first | rfl | assumption) (vp_in_nI hi80 (by decide)) ?_
      try simp only [e1, hcc, e0]
      refine aw_callV1 k31_33 hC_O_firstError ok_O_accepts sv_O_41 hH_O_accepts ⟨rfl, rfl⟩ (by decide) hN_O_accepts (by rw [hL_O_accepts]; exact Nat.le_of_ble_eq_true rfl) (Nat.le_of_ble_eq_true rfl) hA ?_
      refine aw_if_ne 41 k31_36 (by decide) (fun c_36 => ?_) (fun c_36 => ?_)
      · refine aw_iinc (y := 1) k31_41 rfl (by decide) rfl ?_
        try simp only [e1, hcc, e0]
        rw [nI_1]
        refine aw_goto (t := 12) k31_44 (by decide) ?_
        exact hG
      · exact absurd c_36 (by decide)
theorem go_fail {d L : Nat} {res : Int32} {Post : mM → Prop} {M0 : mM} {t : Nat → Int32} (hL80 : L ≤ 80) (hL : M0 (2, 0, 0) 1 = nI L) (ht : M0 (12, 0, 0) = t) {M : mM} {i : Nat} {c : Int32} (hf : OFr M0 M) (hi : i < L) (hc : tx t L i = c) (hA : iacc d c M 0 M) (hr : res = nI i) (hP : Post M) : GO d res Post M i := by
  refine ⟨M, ?_, hP⟩
  subst hr
  have e1 : M (2, 0, 0) 1 = nI L := hf.2.trans hL
  have e0 : M (12, 0, 0) i = c := by rw [hf.1 _ (by simp) (by simp), ht, ← hc, tx_at hi]
  have hcc : (nI i).toNatClampNeg = i := nI_clamp (by omega)
  have hi80 : i < 80 := by omega
  refine aw_iload_n k31_12 rfl ?_
  refine aw_aload_n k31_13 rfl ?_
  refine aw_getI k31_14 hC_O_firstError fs_O_31 (by decide) ⟨rfl, rfl⟩ rfl ?_
  try simp only [e1, hcc, e0]
  refine aw_icmp_ge 47 k31_17 (by decide) (fun c_17 => ?_) (fun c_17 => ?_)
  · exact absurd (nI_le_of c_17) (by omega)
  · refine aw_iload_n k31_20 rfl ?_
    refine aw_bipush (v := 80) k31_21 (by decide) ?_
    refine aw_icmp_ge 47 k31_23 (by decide) (fun c_23 => ?_) (fun c_23 => ?_)
    · exact absurd (nI_le_of (a := 80) c_23) (by omega)
    · refine aw_aload_n k31_26 rfl ?_
      refine aw_aload_n k31_27 rfl ?_
      refine aw_getR k31_28 hC_O_firstError fs_O_9 (by decide) ⟨rfl, rfl⟩ rfl ?_
      try simp only [e1, hcc, e0]
      refine aw_iload_n k31_31 rfl ?_
      refine aw_caload k31_32 (by first | exact ⟨rfl, rfl⟩ | exact ⟨by assumption, rfl⟩ | exact ⟨by assumption, by assumption⟩ | exact ⟨rfl, by decide⟩ | exact ⟨by assumption, by decide⟩ | exact ⟨by decide, rfl⟩ | exact ⟨by decide, by decide⟩ | exact ⟨by decide, by assumption⟩ | assumption) (by first | rfl | assumption) (by first | rfl | assumption) (vp_in_nI hi80 (by decide)) ?_
      try simp only [e1, hcc, e0]
      refine aw_callV1 k31_33 hC_O_firstError ok_O_accepts sv_O_41 hH_O_accepts ⟨rfl, rfl⟩ (by decide) hN_O_accepts (by rw [hL_O_accepts]; exact Nat.le_of_ble_eq_true rfl) (Nat.le_of_ble_eq_true rfl) hA ?_
      refine aw_if_ne 41 k31_36 (by decide) (fun c_36 => ?_) (fun c_36 => ?_)
      · exact absurd rfl c_36
      · refine aw_iload_n k31_39 rfl ?_
        refine aw_ireturn k31_40 hR_O_firstError ?_ ?_
        all_goals first | rfl | exact Or.inl rfl | exact Or.inr rfl | assumption | (simp_all; done) | ((repeat' split) <;> first | rfl | (simp only [Int32.lt_iff_toInt_lt, Int32.le_iff_toInt_le, Int64.lt_iff_toInt_lt, Int64.le_iff_toInt_le] at *; omega) | (simp_all; done))
theorem go_end {d L : Nat} {res : Int32} {Post : mM → Prop} {M0 : mM} {t : Nat → Int32} (hL80 : L ≤ 80) (hL : M0 (2, 0, 0) 1 = nI L) (ht : M0 (12, 0, 0) = t) {M : mM} (hf : OFr M0 M) (hr : res = if M (2, 0, 0) 8 = 1 ∨ M (2, 0, 0) 8 = 8 then -1 else nI L) (hP : Post M) : GO d res Post M L := by
  refine ⟨M, ?_, hP⟩
  have e1 : M (2, 0, 0) 1 = nI L := hf.2.trans hL
  subst hr
  have hd : AW iO_firstError (d + 4) 47 [some (vR 2 0 0), some (vI (nI L))] [] M (.inl (some (vI (if M (2, 0, 0) 8 = 1 ∨ M (2, 0, 0) 8 = 8 then -1 else nI L)))) M 0 := by
    refine aw_aload_n k31_47 rfl ?_
    refine aw_getI k31_48 hC_O_firstError fs_O_35 (by decide) ⟨rfl, rfl⟩ rfl ?_
    try simp only [e1]
    refine aw_iconst (v := 1) k31_51 (by decide) ?_
    refine aw_icmp_eq 64 k31_52 (by decide) (fun c_52 => ?_) (fun c_52 => ?_)
    · refine aw_iconst (v := (-1)) k31_64 (by decide) ?_
      refine aw_goto (t := 72) k31_65 (by decide) ?_
      refine aw_ireturn k31_72 hR_O_firstError ?_ ?_
      · first | exact congrArg vI (if_neg (fun q => q.elim c_52 c_61)).symm | exact congrArg vI (if_pos (Or.inl c_52)).symm | exact congrArg vI (if_pos (Or.inr c_61)).symm | exact (if_neg (fun q => q.elim c_52 c_61)).symm | exact (if_pos (Or.inl c_52)).symm | exact (if_pos (Or.inr c_61)).symm
      · rfl
    · refine aw_aload_n k31_55 rfl ?_
      refine aw_getI k31_56 hC_O_firstError fs_O_35 (by decide) ⟨rfl, rfl⟩ rfl ?_
      try simp only [e1]
      refine aw_bipush (v := 8) k31_59 (by decide) ?_
      refine aw_icmp_ne 68 k31_61 (by decide) (fun c_61 => ?_) (fun c_61 => ?_)
      · refine aw_aload_n k31_68 rfl ?_
        refine aw_getI k31_69 hC_O_firstError fs_O_31 (by decide) ⟨rfl, rfl⟩ rfl ?_
        try simp only [e1]
        refine aw_ireturn k31_72 hR_O_firstError ?_ ?_
        · first | exact congrArg vI (if_neg (fun q => q.elim c_52 c_61)).symm | exact congrArg vI (if_pos (Or.inl c_52)).symm | exact congrArg vI (if_pos (Or.inr c_61)).symm | exact (if_neg (fun q => q.elim c_52 c_61)).symm | exact (if_pos (Or.inl c_52)).symm | exact (if_pos (Or.inr c_61)).symm
        · rfl
      · refine aw_iconst (v := (-1)) k31_64 (by decide) ?_
        refine aw_goto (t := 72) k31_65 (by decide) ?_
        refine aw_ireturn k31_72 hR_O_firstError ?_ ?_
        · first | exact congrArg vI (if_neg (fun q => q.elim c_52 c_61)).symm | exact congrArg vI (if_pos (Or.inl c_52)).symm | exact congrArg vI (if_pos (Or.inr c_61)).symm | exact (if_neg (fun q => q.elim c_52 c_61)).symm | exact (if_pos (Or.inl c_52)).symm | exact (if_pos (Or.inr c_61)).symm
        · rfl
  refine aw_iload_n k31_12 rfl ?_
  refine aw_aload_n k31_13 rfl ?_
  refine aw_getI k31_14 hC_O_firstError fs_O_31 (by decide) ⟨rfl, rfl⟩ rfl ?_
  try simp only [e1]
  refine aw_icmp_ge 47 k31_17 (by decide) (fun c_17 => ?_) (fun c_17 => ?_)
  · exact hd
  · exact absurd (nI_leI (by omega) (by omega) |>.mpr (Nat.le_refl _)) c_17
/-- a sign that cannot stand here, or the text's end -/
theorem go_bad {d L : Nat} {res : Int32} {Post : mM → Prop} {M0 : mM} {t : Nat → Int32} (hL80 : L ≤ 80) (hL : M0 (2, 0, 0) 1 = nI L) (ht : M0 (12, 0, 0) = t) {M : mM} {i : Nat} (hf : OFr M0 M) (hi : i ≤ L) (hA : iacc d (tx t L i) M 0 M) (hE : ¬ (M (2, 0, 0) 8 = 1 ∨ M (2, 0, 0) 8 = 8)) (hr : res = nI i) (hP : Post M) : GO d res Post M i := by
  by_cases e : i < L
  · exact go_fail hL80 hL ht hf e rfl hA hr hP
  · obtain rfl : i = L := by omega
    exact go_end hL80 hL ht hf (by rw [if_neg hE]; exact hr) hP
/-- a number's further signs -/
theorem go_num {d L : Nat} {res : Int32} {Post : mM → Prop} {M0 : mM} {t : Nat → Int32} (hL80 : L ≤ 80) (hL : M0 (2, 0, 0) 1 = nI L) (ht : M0 (12, 0, 0) = t) {most : Int32} {I : Int32 → mM → Prop} (hI : ∀ v M i, I v M → i < L → grows (tx t L i) v most → ∃ M2, iacc d (tx t L i) M 1 M2 ∧ I (v * 10 + (tx t L i - 48)) M2) (hf : ∀ v M, I v M → OFr M0 M) : ∀ (k i : Nat) (v : Int32) (M : mM), i ≤ L → I v M → (∀ M2, I (numG (tx t L) most k i v).2 M2 → GO d res Post M2 (numG (tx t L) most k i v).1) → GO d res Post M i := by
  intro k
  induction k with
  | zero => intro i v M hi hIv h; exact h M hIv
  | succ k ih =>
    intro i v M hi hIv h
    unfold numG at h
    by_cases g : grows (tx t L i) v most
    · rw [if_pos g] at h
      have hiL : i < L := tx_lt (ge_ne0 g.1.1)
      obtain ⟨M2, hA, hI2⟩ := hI v M i hIv hiL g
      exact go_step hL80 hL ht (hf v M hIv) hiL rfl hA (ih (i + 1) _ M2 hiL hI2 h)
    · rw [if_neg g] at h
      exact h M hIv
