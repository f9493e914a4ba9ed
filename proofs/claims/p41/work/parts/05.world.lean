/-! THE WORLD: what the objects of the two classes hold, as one memory of ints; refs by kind and numbers -/
abbrev mRef : Type := Nat × Nat × Nat
abbrev mAV : Type := Int32 ⊕ (Int64 ⊕ mRef)
abbrev mM : Type := mRef → Nat → Int32
abbrev mOut : Type := Option mAV ⊕ String
abbrev vI (x : Int32) : mAV := Sum.inl x
abbrev vL (x : Int64) : mAV := Sum.inr (Sum.inl x)
abbrev vR (k i j : Nat) : mAV := Sum.inr (Sum.inr (k, i, j))
def mUp (M : mM) (r : mRef) (k : Nat) (v : Int32) : mM := fun r' k' => if r' = r ∧ k' = k then v else M r' k'
/-- n places of the row a laid into the row b -/
def mCpy (M : mM) (a b : mRef) (n : Nat) : mM := fun r k => if r = b ∧ k < n then M a k else M r k
def cv (ρ : mRef → Nat) (a : mAV) : Value := match a with
  | .inl x => .int x
  | .inr (.inl x) => .long x
  | .inr (.inr r) => .ref (ρ r)
/-- the two halves of a long, and the long out of them -/
def mLo (x : Int64) : Int32 := ⟨⟨x.toBitVec.setWidth 32⟩⟩
def mHi (x : Int64) : Int32 := ⟨⟨x.toBitVec.extractLsb' 32 32⟩⟩
def mJ (lo hi : Int32) : Int64 := ⟨⟨hi.toBitVec ++ lo.toBitVec⟩⟩
theorem mJ_lh (x : Int64) : mJ (mLo x) (mHi x) = x := by
  have h : (x.toBitVec.extractLsb' 32 32 ++ x.toBitVec.setWidth 32 : BitVec 64) = x.toBitVec := by
    apply BitVec.eq_of_getLsbD_eq
    intro i hi
    rw [BitVec.getLsbD_append, BitVec.getLsbD_setWidth, BitVec.getLsbD_extractLsb']
    by_cases h : i < 32
    · simp [h]
    · have e : 32 + (i - 32) = i := by omega
      have e2 : i - 32 < 32 := by omega
      simp [h, e, e2]
  have h2 : (mJ (mLo x) (mHi x)).toBitVec = x.toBitVec := h
  exact Int64.toBitVec_inj.mp h2
/-- what a ref field of an object holds: always the same -/
def mRf (r : mRef) (k : Nat) : Option mRef := match r with
  | (0, s, j) => (match k with | 0 => some (8, s, j) | 1 => some (9, s, j) | _ => none)
  | (1, _, _) => (match k with | 0 => some (11, 0, 0) | _ => none)
  | (2, _, _) => (match k with | 0 => some (12, 0, 0) | 2 => some (12, 0, 1) | 3 => some (12, 0, 2) | 4 => some (12, 0, 3) | 5 => some (12, 0, 4) | 6 => some (12, 0, 5) | _ => none)
  | (3, s, _) => (match k with | 0 => some (4, s, 0) | 1 => some (10, s, 0) | _ => none)
  | (4, s, _) => (match k with | 0 => some (7, s, 0) | 1 => some (7, s, 1) | 2 => some (7, s, 2) | _ => none)
  | (5, _, _) => (match k with | 0 => some (3, 0, 0) | 1 => some (3, 1, 0) | 2 => some (3, 2, 0) | 3 => some (1, 0, 0) | 4 => some (2, 0, 0) | _ => none)
  | _ => none
def mN (c : Nat) : Nat := match c with | 0 => 3 | 1 => 3 | 2 => 11 | 3 => 3 | 4 => 6 | 5 => 6 | 6 => 3 | _ => 0
/-- how long a row is -/
def mLen (r : mRef) : Nat := match r with
  | (7, _, _) => 13
  | (8, _, _) => 12
  | (9, _, _) => 12
  | (10, _, _) => 6
  | (11, _, _) => 4
  | (12, _, _) => 80
  | _ => 0
/-- of what a row is -/
def mTy (r : mRef) : FieldType := match r with
  | (10, _, _) => .object "AcreOffice$Field"
  | (11, _, _) => .object "AcreOffice$State"
  | (12, _, 0) => .char
  | _ => .int
def mFv (ρ : mRef → Nat) (M : mM) (r : mRef) (k : Nat) : Value := match mRf r k with
  | some r' => .ref (ρ r')
  | none => .int (M r k)
def mCell (ρ : mRef → Nat) (cA : mRef → ClassId) (M : mM) (r : mRef) : va_E :=
  if r.1 < 7 then .inr (r.1, (List.range (mN r.1)).map (mFv ρ M r))
  else if r.1 = 10 then .inl (cA r, 6, .inr (.inr (.inr (.inr (fun a => some (ρ (0, r.2.1, a)))))))
  else if r.1 = 11 then .inl (cA r, 4, .inr (.inr (.inr (.inr (fun a => some (ρ (3, 3 + a, 0)))))))
  else .inl (cA r, mLen r, .inl (M r))
def mAll : List mRef :=
  [(5, 0, 0), (1, 0, 0), (2, 0, 0), (11, 0, 0)] ++ ((List.range 6).map (fun j => (12, 0, j)) ++ (
  ((List.range 7).flatMap (fun s => [(3, s, 0), (4, s, 0), (7, s, 0), (7, s, 1), (7, s, 2), (10, s, 0)]) ++ (List.range 7).flatMap (fun s => (List.range 6).flatMap (fun j => [(0, s, j), (8, s, j), (9, s, j)])))))
def mOk (r : mRef) : Prop := match r with
  | (0, s, j) => s < 7 ∧ j < 6
  | (1, s, j) => s = 0 ∧ j = 0
  | (2, s, j) => s = 0 ∧ j = 0
  | (3, s, j) => s < 7 ∧ j = 0
  | (4, s, j) => s < 7 ∧ j = 0
  | (5, s, j) => s = 0 ∧ j = 0
  | (7, s, j) => s < 7 ∧ j < 3
  | (8, s, j) => s < 7 ∧ j < 6
  | (9, s, j) => s < 7 ∧ j < 6
  | (10, s, j) => s < 7 ∧ j = 0
  | (11, s, j) => s = 0 ∧ j = 0
  | (12, s, j) => s = 0 ∧ j < 6
  | _ => False
theorem mIn_0 : ∀ s < 7, ∀ j < 6, (0, s, j) ∈ mAll := by decide +kernel
theorem mIn_3 : ∀ s < 7, (3, s, 0) ∈ mAll := by decide +kernel
theorem mIn_4 : ∀ s < 7, (4, s, 0) ∈ mAll := by decide +kernel
theorem mIn_7 : ∀ s < 7, ∀ j < 3, (7, s, j) ∈ mAll := by decide +kernel
theorem mIn_8 : ∀ s < 7, ∀ j < 6, (8, s, j) ∈ mAll := by decide +kernel
theorem mIn_9 : ∀ s < 7, ∀ j < 6, (9, s, j) ∈ mAll := by decide +kernel
theorem mIn_10 : ∀ s < 7, (10, s, 0) ∈ mAll := by decide +kernel
theorem mIn_12 : ∀ j < 6, (12, 0, j) ∈ mAll := by decide +kernel
theorem mIn_1 : (1, 0, 0) ∈ mAll ∧ (2, 0, 0) ∈ mAll ∧ (5, 0, 0) ∈ mAll ∧ (11, 0, 0) ∈ mAll := by decide +kernel
theorem mOk_mem {r : mRef} (h : mOk r) : r ∈ mAll := by
  obtain ⟨k, s, j⟩ := r
  obtain ⟨g1, g2, g5, g11⟩ := mIn_1
  unfold mOk at h
  split at h
  · rename_i e; cases e; exact mIn_0 _ h.1 _ h.2
  · rename_i e; cases e; obtain ⟨rfl, rfl⟩ := h; exact g1
  · rename_i e; cases e; obtain ⟨rfl, rfl⟩ := h; exact g2
  · rename_i e; cases e; obtain ⟨h, rfl⟩ := h; exact mIn_3 _ h
  · rename_i e; cases e; obtain ⟨h, rfl⟩ := h; exact mIn_4 _ h
  · rename_i e; cases e; obtain ⟨rfl, rfl⟩ := h; exact g5
  · rename_i e; cases e; exact mIn_7 _ h.1 _ h.2
  · rename_i e; cases e; exact mIn_8 _ h.1 _ h.2
  · rename_i e; cases e; exact mIn_9 _ h.1 _ h.2
  · rename_i e; cases e; obtain ⟨h, rfl⟩ := h; exact mIn_10 _ h
  · rename_i e; cases e; obtain ⟨rfl, rfl⟩ := h; exact g11
  · rename_i e; cases e; obtain ⟨rfl, h⟩ := h; exact mIn_12 _ h
  · exact h.elim
theorem mAll_nodup : mAll.Nodup := by decide +kernel
theorem mAll_15 : ∀ r ∈ mAll, r ≠ (15, 0, 0) := by decide +kernel
def mWs (ρ : mRef → Nat) (cA : mRef → ClassId) (M : mM) : va_W := mAll.map (fun r => (ρ r, mCell ρ cA M r))
theorem mWs_at {ρ : mRef → Nat} {cA : mRef → ClassId} (M : mM) {r : mRef} (h : r ∈ mAll) : ∃ q0 : Nat, mAll[q0]? = some r ∧ (mWs ρ cA M)[q0]? = some (ρ r, mCell ρ cA M r) := by
  obtain ⟨q0, hq⟩ := List.getElem?_of_mem h
  exact ⟨q0, hq, by unfold mWs; rw [List.getElem?_map, hq]; rfl⟩
theorem mCell_congr {ρ : mRef → Nat} {cA : mRef → ClassId} {M M' : mM} {r : mRef} (h : M' r = M r) : mCell ρ cA M' r = mCell ρ cA M r := by
  have hf : mFv ρ M' r = mFv ρ M r := by funext k; unfold mFv; rw [h]
  unfold mCell
  rw [h, hf]
theorem mSet_gen {α β : Type} {L : List α} (nd : L.Nodup) {f g : α → β} {q0 : Nat} {r : α} (hq : L[q0]? = some r) (h : ∀ r', r' ≠ r → f r' = g r') : (L.map f).set q0 (g r) = L.map g := by
  refine List.ext_getElem? fun i => ?_
  have hl : q0 < L.length := (List.getElem?_eq_some_iff.mp hq).1
  by_cases hi : q0 = i
  · subst hi
    rw [List.getElem?_set_self (by rw [List.length_map]; exact hl), List.getElem?_map, hq]
    rfl
  · rw [List.getElem?_set_ne hi, List.getElem?_map, List.getElem?_map]
    cases hx : L[i]? with
    | none => rfl
    | some r' =>
      have hne : r' ≠ r := by
        intro e
        subst e
        obtain ⟨l1, e1⟩ := List.getElem?_eq_some_iff.mp hq
        obtain ⟨l2, e2⟩ := List.getElem?_eq_some_iff.mp hx
        have hp := List.pairwise_iff_getElem.mp nd
        rcases Nat.lt_or_gt_of_ne hi with g | g
        · exact hp _ _ l1 l2 g (e1.trans e2.symm)
        · exact hp _ _ l2 l1 g (e2.trans e1.symm)
      show some (f r') = some (g r')
      rw [h r' hne]
theorem mWs_set {ρ : mRef → Nat} {cA : mRef → ClassId} {M M' : mM} {r : mRef} {q0 : Nat} (hq : mAll[q0]? = some r) (hM : ∀ r', r' ≠ r → M' r' = M r') : (mWs ρ cA M).set q0 (ρ r, mCell ρ cA M' r) = mWs ρ cA M' :=
  mSet_gen (f := fun r => (ρ r, mCell ρ cA M r)) (g := fun r => (ρ r, mCell ρ cA M' r)) mAll_nodup hq (fun r' hr => by rw [mCell_congr (hM r' hr)])
theorem mUp_ne {M : mM} {r r' : mRef} {k : Nat} {v : Int32} (h : r' ≠ r) : mUp M r k v r' = M r' := by
  funext k'
  unfold mUp
  rw [if_neg (fun q => h q.1)]
theorem mCpy_ne {M : mM} {a b r' : mRef} {n : Nat} (h : r' ≠ b) : mCpy M a b n r' = M r' := by
  funext k'
  unfold mCpy
  rw [if_neg (fun q => h q.1)]
/-- the strings that the class throws with: their places in its pool -/
def mStr : List (Nat × String) := [(46, "a part of the leg is out of range"), (51, "the measured length is out of range"), (68, "the traverse has no room for a leg"), (82, "the traverse has no legs"), (85, "a part of the origin is out of range"), (94, "the traverse cannot be kept"), (105, "no such field"), (138, "no state is recorded"), (147, "there is no snapshot"), (164, "no such corner of the traverse"), (258, "no such corner of the field"), (199, "a part of the point is out of range"), (231, "the links to an inch are out of range")]
def mNcs : List (String × String) := []
def mA0 (bs : Nat) : Nat → Prop := fun q => bs ≤ q
def mRep (D : va_G) (ρ : mRef → Nat) (cA : mRef → ClassId) (bs : Nat) (xs : Nat → Int32) (M : mM) (H : Heap) : Prop :=
  va_P D mCl (mWs ρ cA M) H ∧ va_D (mA0 bs) (mWs ρ cA M) ∧ M (15, 0, 0) = xs
/-- what the tables say, of any state of this run -/
def mVF (D : va_G) (cA : mRef → ClassId) (sa : Nat → Nat) (U : State) : Prop :=
  (∀ w ∈ lw_tbl, mWarm w = true → w.before #[] U = true) ∧ (∀ (c : Nat) (q : vw_C), mCl[c]? = some q → u_Kn U q.1 q.2.1 q.2.2 (D.1 c) (D.2 c)) ∧
  (∀ r ∈ mAll, 7 ≤ r.1 → ArrOfT U (cA r) (mTy r) ∧ va_RA U (cA r) (mTy r)) ∧ (∀ (i : Nat) (q : Nat × String), mStr[i]? = some q → vk_R "AcreOffice" q.1 q.2 (sa i) U) ∧ (∀ q ∈ mNcs, va_Nc q.1 q.2 U)
/-- what the heap holds beside the world -/
def mHF (ρ : mRef → Nat) (bs LS : Nat) (xs : Nat → Int32) (U : State) (H : Heap) : Prop :=
  vx_Zq Bundle.tN "UNASSIGNED_STACK" Bundle.steD (mA0 bs) U H ∧ vx_Zq Bundle.tN "SUPPRESSED_SENTINEL" Bundle.listD (mA0 bs) U H ∧ bs ≤ H.size ∧ va_X (ρ (15, 0, 0)) LS xs U H ∧ ρ (15, 0, 0) < bs
theorem mw_keep {w : Cond} {a a' : Array Value} {s U : State} (hW : s.WarmedH U.vm) (hw : mWarm w = true) (h : w.before a s = true) : w.before a' U = true := by
  unfold mWarm at hw
  rcases Bool.or_eq_true_iff.mp hw with g | g
  · exact word_at hW (good_of_word g) h
  · cases w <;> first
      | exact (Bool.false_ne_true g).elim
      | exact va_Nw.use rfl (va_Nw.warmF hW (va_Nw.of rfl h))
      | exact va_Nw.use rfl (va_Nw.warmM hW (va_Nw.of rfl h))
      | exact va_Nw.use rfl (va_Nw.warmD hW (va_Nw.of rfl h))
      | exact va_Nw.use rfl (va_Nw.warmC hW (va_Nw.of rfl h))
theorem mVF.warm {D : va_G} {cA : mRef → ClassId} {sa : Nat → Nat} {s U : State} (hW : s.WarmedH U.vm) (h : mVF D cA sa s) : mVF D cA sa U := by
  obtain ⟨h1, h2, h3, h4, h5⟩ := h
  exact ⟨fun w hw hm => mw_keep hW hm (h1 w hw hm), fun c q hq => u_Kn_moved hW.alike (h2 c q hq), fun r hr hk => ⟨arrOfT_moved hW.alike (h3 r hr hk).1, (h3 r hr hk).2.moved hW.alike⟩, fun i q hq => vk_R.warm hW (h4 i q hq), fun q hq => va_Nc.moved hW.alike (h5 q hq)⟩
theorem mX_moved {b L : Nat} {xs : Nat → Int32} {u U : State} {H H1 : Heap} (hvm : u.vm.Alike U.vm) (hq : H1[b]? = H[b]?) (h : va_X b L xs u H) : va_X b L xs U H1 := by
  obtain ⟨scr, h1, h2, h3, h4, h5⟩ := h
  exact ⟨scr, hq.trans h1, State.isArrayOf_alike hvm h2, h3, h4, h5⟩
theorem mHF.go {ρ : mRef → Nat} {bs LS : Nat} {xs : Nat → Int32} {u U : State} {H H1 : Heap} {locs : List Loc} (hvm : u.vm.Alike U.vm) (hS : va_S (mA0 bs) H H1 locs) (h : mHF ρ bs LS xs u H) : mHF ρ bs LS xs U H1 := by
  obtain ⟨h1, h2, h3, h4, h5⟩ := h
  exact ⟨vx_Zq.moved hvm (h1.kept hS.2.1), vx_Zq.moved hvm (h2.kept hS.2.1), Nat.le_trans h3 hS.1, mX_moved hvm (hS.2.1 _ (Nat.lt_of_lt_of_le h5 h3) (Nat.not_le.mpr h5)) h4, h5⟩
/-- the locals -/
def lR (ρ : mRef → Nat) (n : Nat) (loc : List (Option mAV)) (ls : Array Slot) : Prop := ls.size = n ∧ lv_wf ls ∧ loc.length = n ∧ ∀ (i : Nat) (a : mAV), loc[i]? = some (some a) → ls[i]? = some (.val (cv ρ a))
def mkL (ρ : mRef → Nat) (loc : List (Option mAV)) : List (Nat × Value) := loc.zipIdx.filterMap (fun q => q.1.map (fun a => (q.2, cv ρ a)))
theorem mkL_mem {ρ : mRef → Nat} {loc : List (Option mAV)} {q : Nat × Value} : q ∈ mkL ρ loc ↔ ∃ a, loc[q.1]? = some (some a) ∧ q.2 = cv ρ a := by
  unfold mkL
  rw [List.mem_filterMap]
  constructor
  · rintro ⟨⟨o, i⟩, h1, h2⟩
    cases o with
    | none => simp at h2
    | some a =>
      simp at h2
      subst h2
      exact ⟨a, List.mem_zipIdx_iff_getElem?.mp h1, rfl⟩
  · rintro ⟨a, h1, h2⟩
    refine ⟨(some a, q.1), List.mem_zipIdx_iff_getElem?.mpr h1, ?_⟩
    simp only [Option.map_some, Option.some.injEq]
    rw [← h2]
theorem lR.has {ρ : mRef → Nat} {n : Nat} {loc : List (Option mAV)} {ls : Array Slot} (h : lR ρ n loc ls) : lv_has ls n (mkL ρ loc) :=
  ⟨h.1, h.2.1, fun q hq => by obtain ⟨a, h1, h2⟩ := mkL_mem.mp hq; rw [h2]; exact h.2.2.2 _ a h1⟩
def mLong (o : Option (Option mAV)) : Bool := match o with | some (some (.inr (.inl _))) => true | _ => false
/-- a store of one place, of two -/
def mKill (loc : List (Option mAV)) (i : Nat) : List (Option mAV) := match i with | 0 => loc | j + 1 => if mLong loc[j]? = true then loc.set j none else loc
def mSt1 (loc : List (Option mAV)) (i : Nat) (a : mAV) : List (Option mAV) := (mKill loc i).set i (some a)
def mSt2 (loc : List (Option mAV)) (i : Nat) (a : mAV) : List (Option mAV) := ((mKill loc i).set i (some a)).set (i + 1) none
theorem mKill_len (loc : List (Option mAV)) (i : Nat) : (mKill loc i).length = loc.length := by
  unfold mKill
  split
  · rfl
  · split <;> simp
theorem mKill_get {loc : List (Option mAV)} {i j : Nat} {a : mAV} (h : (mKill loc i)[j]? = some (some a)) (hj : j ≠ i) : loc[j]? = some (some a) ∧ ¬ (j + 1 = i ∧ (∃ x, a = Sum.inr (Sum.inl x))) := by
  unfold mKill at h
  cases i with
  | zero => exact ⟨h, fun q => by omega⟩
  | succ i =>
    simp only at h
    by_cases hk : mLong loc[i]? = true
    · rw [if_pos hk] at h
      by_cases e : j = i
      · subst e
        rw [List.getElem?_set] at h
        simp at h
      · rw [List.getElem?_set_ne (fun q => e q.symm)] at h
        exact ⟨h, fun q => e (by omega)⟩
    · rw [if_neg hk] at h
      refine ⟨h, fun q => ?_⟩
      obtain ⟨q1, x, rfl⟩ := q
      have e : j = i := by omega
      subst e
      rw [h] at hk
      exact hk rfl
theorem cv_cat2 {ρ : mRef → Nat} {a : mAV} : (cv ρ a).category = 2 ↔ ∃ x, a = Sum.inr (Sum.inl x) := by
  match a with
  | .inl x => simp [cv, Value.category]
  | .inr (.inl x) => simp [cv, Value.category]
  | .inr (.inr r) => simp [cv, Value.category]
theorem lR.st1 {ρ : mRef → Nat} {n i : Nat} {loc : List (Option mAV)} {ls ls' : Array Slot} {a : mAV} (h : lR ρ n loc ls) (h' : lv_has ls' n ((i, cv ρ a) :: (mkL ρ loc).filter (fun q => !(q.1 == i) && !(q.1 + 1 == i && q.2.category == 2)))) : lR ρ n (mSt1 loc i a) ls' := by
  refine ⟨h'.1, h'.2.1, by unfold mSt1; rw [List.length_set, mKill_len]; exact h.2.2.1, fun j b hb => ?_⟩
  unfold mSt1 at hb
  by_cases e : j = i
  · subst e
    rw [List.getElem?_set] at hb
    have hb2 : b = a := by
      by_cases hl : j < (mKill loc j).length
      · simp [hl] at hb; exact hb.symm
      · simp [hl] at hb
    subst hb2
    exact h'.2.2 (j, cv ρ b) List.mem_cons_self
  · rw [List.getElem?_set_ne (fun q => e q.symm)] at hb
    obtain ⟨h1, h2⟩ := mKill_get hb e
    refine h'.2.2 (j, cv ρ b) (List.mem_cons_of_mem _ (List.mem_filter.mpr ⟨mkL_mem.mpr ⟨b, h1, rfl⟩, ?_⟩))
    by_cases h3 : j + 1 = i
    · have h4 : ¬ (cv ρ b).category = 2 := fun q => h2 ⟨h3, cv_cat2.mp q⟩
      simp [e, h4]
    · simp [e, h3]
theorem lR.st2 {ρ : mRef → Nat} {n i : Nat} {loc : List (Option mAV)} {ls ls' : Array Slot} {a : mAV} (h : lR ρ n loc ls) (h' : lv_has ls' n ((i, cv ρ a) :: (mkL ρ loc).filter (fun q => !(q.1 == i) && (!(q.1 == i + 1) && !(q.1 + 1 == i && q.2.category == 2))))) : lR ρ n (mSt2 loc i a) ls' := by
  refine ⟨h'.1, h'.2.1, by unfold mSt2; rw [List.length_set, List.length_set, mKill_len]; exact h.2.2.1, fun j b hb => ?_⟩
  unfold mSt2 at hb
  by_cases e2 : j = i + 1
  · subst e2
    rw [List.getElem?_set] at hb
    simp at hb
  rw [List.getElem?_set_ne (fun q => e2 q.symm)] at hb
  by_cases e : j = i
  · subst e
    rw [List.getElem?_set] at hb
    have hb2 : b = a := by
      by_cases hl : j < (mKill loc j).length
      · simp [hl] at hb; exact hb.symm
      · simp [hl] at hb
    subst hb2
    exact h'.2.2 (j, cv ρ b) List.mem_cons_self
  · rw [List.getElem?_set_ne (fun q => e q.symm)] at hb
    obtain ⟨h1, h2⟩ := mKill_get hb e
    refine h'.2.2 (j, cv ρ b) (List.mem_cons_of_mem _ (List.mem_filter.mpr ⟨mkL_mem.mpr ⟨b, h1, rfl⟩, ?_⟩))
    by_cases h3 : j + 1 = i
    · have h4 : ¬ (cv ρ b).category = 2 := fun q => h2 ⟨h3, cv_cat2.mp q⟩
      simp [e, e2, h4]
    · simp [e, e2, h3]
/-- the locals at a method's entry -/
def mEntL : List mAV → List (Option mAV)
  | [] => []
  | .inr (.inl x) :: as => some (.inr (.inl x)) :: none :: mEntL as
  | a :: as => some a :: mEntL as
def mEntry (n : Nat) (as : List mAV) : List (Option mAV) := mEntL as ++ List.replicate (n - (mEntL as).length) none
