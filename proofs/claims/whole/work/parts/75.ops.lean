/-! BOTH SIDES AT ONE CALL -/
def Gd (f : Nat → Int32) : Prop := ShF f ∧ BdF f
def Inv (f : Nat → Int32) (hs : List (Nat → Int32)) (sn : Option (Nat → Int32)) : Prop := Gd f ∧ (∀ g ∈ hs, Gd g) ∧ ∀ g, sn = some g → Gd g
/-- both hold the same state -/
def StW (M : mM) : Prop := ∃ (f : Nat → Int32) (hs : List (Nat → Int32)) (sn : Option (Nat → Int32)) (t : Nat → Int32) (L : Nat), CR M f hs sn t L ∧ MR M f hs sn t L ∧ Inv f hs sn
/-- the script is the same -/
def Wd (M M' : mM) : Prop := M' (15, 0, 0) = M (15, 0, 0) ∧ M' (16, 0, 0) = M (16, 0, 0)
theorem Gd.ag {f g : Nat → Int32} (h : Ag f g) (hg : Gd g) : Gd f := ⟨hg.1.ag h, hg.2.ag h hg.1⟩
theorem Inv.push {f g : Nat → Int32} {hs : List (Nat → Int32)} {sn : Option (Nat → Int32)} (h : Inv f hs sn) (hg : Gd g) : Inv g ((f :: hs).take 4) sn := by
  refine ⟨hg, fun k hk => ?_, h.2.2⟩
  rcases List.mem_cons.mp (List.mem_of_mem_take hk) with e | e
  · rw [e]; exact h.1
  · exact h.2.1 k e
theorem CR.ag {M : mM} {f g t : Nat → Int32} {hs : List (Nat → Int32)} {sn : Option (Nat → Int32)} {L : Nat} (ha : Ag g f) (h : CR M f hs sn t L) : CR M g hs sn t L := ⟨h.1.ag ha, h.2⟩
theorem CR.out {M M' : mM} {f t : Nat → Int32} {hs : List (Nat → Int32)} {sn : Option (Nat → Int32)} {L : Nat} (h : CR M f hs sn t L) (hF : ∀ r : mRef, r.1 ≠ 6 → r.1 ≠ 13 → r.1 ≠ 14 → M' r = M r) : CR M' f hs sn t L := by
  obtain ⟨h1, ⟨a, a1, a2, a3, a4, a5⟩, ⟨b1, b2⟩, c1, c2, c3⟩ := h
  have hin : ∀ s r, InS s r → M' r = M r := fun s r hr => hF r (fun q => by have := hr.2; omega) (fun q => by have := hr.2; omega) (fun q => by have := hr.2; omega)
  have e1 : M' (1, 0, 0) = M (1, 0, 0) := hF _ (by decide) (by decide) (by decide)
  have e5 : M' (5, 0, 0) = M (5, 0, 0) := hF _ (by decide) (by decide) (by decide)
  have e2 : M' (2, 0, 0) = M (2, 0, 0) := hF _ (by decide) (by decide) (by decide)
  have e12 : M' (12, 0, 0) = M (12, 0, 0) := hF _ (by decide) (by decide) (by decide)
  exact ⟨h1.congr (hin _), ⟨a, a1, by rw [e1]; exact a2, by rw [e1]; exact a3, a4, fun i g hg => (a5 i g hg).congr (hin _)⟩, ⟨by rw [e5]; exact b1, fun g hg => (b2 g hg).congr (hin _)⟩, c1, by rw [e2]; exact c2, fun j hj => by rw [e12]; exact c3 j hj⟩
theorem MR.eqs {M M' : mM} {f t : Nat → Int32} {hs : List (Nat → Int32)} {sn : Option (Nat → Int32)} {L : Nat} (h : MR M f hs sn t L) (hF : ∀ r : mRef, r.1 = 6 ∨ r.1 = 13 → M' r = M r) : MR M' f hs sn t L := by
  obtain ⟨h1, ⟨a1, a2, a3⟩, ⟨b1, b2⟩, c1, c2, c3⟩ := h
  have e6 : M' (6, 0, 0) = M (6, 0, 0) := hF _ (Or.inl rfl)
  have e : ∀ j, M' (13, 0, j) = M (13, 0, j) := fun j => hF _ (Or.inr rfl)
  exact ⟨by rw [e]; exact h1, ⟨by rw [e6]; exact a1, a2, by simp only [e]; exact a3⟩, ⟨by rw [e6]; exact b1, by simp only [e]; exact b2⟩, c1, by rw [e6]; exact c2, by simp only [e]; exact c3⟩
theorem mO_ne {M : mM} {w : Int64} {r : mRef} (h : r.1 ≠ 14) : mO M w r = M r := by
  unfold mO
  rw [mUp_ne (fun e => h (by rw [e])), mUp_ne (fun e => h (by rw [e]))]
theorem mO_at {M : mM} {w : Int64} : mJ (mO M w (14, 0, 0) 0) (mO M w (14, 0, 0) 1) = w := by
  have e0 : mO M w (14, 0, 0) 0 = mLo w := by unfold mO; simp [mUp_at]
  have e1 : mO M w (14, 0, 0) 1 = mHi w := by unfold mO; simp [mUp_at]
  rw [e0, e1]
  exact mJ_lh w
theorem MR.co {M M1 : mM} {f t : Nat → Int32} {hs : List (Nat → Int32)} {sn : Option (Nat → Int32)} {L : Nat} (h : MR M f hs sn t L) (hF : CFr M M1) : MR M1 f hs sn t L := h.eqs (fun r hr => hF r (by omega))
theorem MR.oo {M : mM} {f t : Nat → Int32} {hs : List (Nat → Int32)} {sn : Option (Nat → Int32)} {L : Nat} {w : Int64} (h : MR M f hs sn t L) : MR (mO M w) f hs sn t L := h.eqs (fun r hr => mO_ne (by omega))
/-- a call by a wrapper, both sides, with an int told (tv: as a long) or a long -/
def ResV (iL iM d : Nat) (as : List mAV) (bv : mAV) (w : Int64) (k : Int32) (n : Nat) (M M1 M2 : mM) : Prop :=
  n ≤ 1 ∧ CT iL (d + 9) (vR 5 0 0 :: (as ++ [vR 14 0 0])) M (.inl (some (vI k))) M1 n ∧ CT iM (d + 9) (vR 6 0 0 :: as) M1 (.inl (some bv)) M2 0 ∧ M2 (6, 0, 0) 0 = k ∧ (k = 0 → mJ (M2 (14, 0, 0) 0) (M2 (14, 0, 0) 1) = w) ∧ StW M2 ∧ Wd M M1 ∧ Wd M M2
def ResI (iL iM d : Nat) (as : List mAV) (tv : Int32 → Int64) (M : mM) : Prop := ∃ k b n M1 M2, ResV iL iM d as (vI b) (tv b) k n M M1 M2
def ResL (iL iM d : Nat) (as : List mAV) (M : mM) : Prop := ∃ k b n M1 M2, ResV iL iM d as (vL b) b k n M M1 M2
theorem resV_ok {iL iM d : Nat} {as : List mAV} {bv : mAV} {w : Int64} {M M1 M2 : mM} {f g t : Nat → Int32} {hs : List (Nat → Int32)} {sn : Option (Nat → Int32)} {L : Nat} (l1 : CT iL (d + 9) (vR 5 0 0 :: (as ++ [vR 14 0 0])) M (.inl (some (vI 0))) (mO M1 w) 0) (hC : CR M1 f hs sn t L) (hF : CFr M M1) (l2 : CT iM (d + 9) (vR 6 0 0 :: as) (mO M1 w) (.inl (some bv)) M2 0) (hG : MR M2 g hs sn t L ∧ MFr (mO M1 w) M2 ∧ M2 (6, 0, 0) 0 = 0) (ha : Ag g f) (hI : Inv g hs sn) : ResV iL iM d as bv w 0 0 M (mO M1 w) M2 := by
  obtain ⟨g1, g2, g3⟩ := hG
  have e14 : M2 (14, 0, 0) = mO M1 w (14, 0, 0) := g2 _ (by decide) (by decide)
  have wd : Wd M (mO M1 w) := ⟨(mO_ne (by decide)).trans (hF _ (Or.inr (by decide))), (mO_ne (by decide)).trans (hF _ (Or.inr (by decide)))⟩
  refine ⟨by omega, l1, l2, g3, fun _ => by rw [e14]; exact mO_at, ⟨g, hs, sn, t, L, ?_, g1, hI⟩, wd, (g2 _ (by decide) (by decide)).trans wd.1, (g2 _ (by decide) (by decide)).trans wd.2⟩
  exact (hC.ag ha).out (fun r p q s => (g2 r p q).trans (mO_ne s))
theorem resV_ex {iL iM d n : Nat} {as : List mAV} {bv : mAV} {w : Int64} {k : Int32} {M M1 M2 : mM} {f t : Nat → Int32} {hs : List (Nat → Int32)} {sn : Option (Nat → Int32)} {L : Nat} (hk : ¬ k = 0) (hn : n ≤ 1) (l1 : CT iL (d + 9) (vR 5 0 0 :: (as ++ [vR 14 0 0])) M (.inl (some (vI k))) M1 n) (hC : CR M1 f hs sn t L) (hF : CFr M M1) (l2 : CT iM (d + 9) (vR 6 0 0 :: as) M1 (.inl (some bv)) M2 0) (hG : MR M2 f hs sn t L ∧ MFr M1 M2 ∧ M2 (6, 0, 0) 0 = k) (hI : Inv f hs sn) : ResV iL iM d as bv w k n M M1 M2 := by
  obtain ⟨g1, g2, g3⟩ := hG
  have wd : Wd M M1 := ⟨hF _ (Or.inr (by decide)), hF _ (Or.inr (by decide))⟩
  refine ⟨hn, l1, l2, g3, fun e => absurd e hk, ⟨f, hs, sn, t, L, ?_, g1, hI⟩, wd, (g2 _ (by decide) (by decide)).trans wd.1, (g2 _ (by decide) (by decide)).trans wd.2⟩
  exact hC.out (fun r p q _ => g2 r p q)
/-- what the model has told with 'thrown' set alone -/
theorem mg {M : mM} {f t : Nat → Int32} {hs : List (Nat → Int32)} {sn : Option (Nat → Int32)} {L : Nat} {k : Int32} (h : MR M f hs sn t L) : MR (mUp M (6, 0, 0) 0 k) f hs sn t L ∧ MFr M (mUp M (6, 0, 0) 0 k) ∧ mUp M (6, 0, 0) 0 k (6, 0, 0) 0 = k := ⟨h.thr, MFr.u6, by simp [mUp_at]⟩
theorem Ag.rf {f : Nat → Int32} : Ag f f := fun _ _ => rfl
/-- a direct call of both sides -/
def ResDv (iA iM d : Nat) (v : mAV) (M : mM) : Prop := ∃ M1 M2, CT iA (d + 9) [vR 5 0 0] M (.inl (some v)) M1 0 ∧ CT iM (d + 9) [vR 6 0 0] M1 (.inl (some v)) M2 0 ∧ StW M2 ∧ Wd M M2
def ResD (iA iM d : Nat) (M : mM) : Prop := ∃ v, ResDv iA iM d (vI v) M
def ResDL (iA iM d : Nat) (M : mM) : Prop := ∃ v, ResDv iA iM d (vL v) M
theorem resD {iA iM d : Nat} {v : mAV} {M M1 M2 : mM} {f t : Nat → Int32} {hs : List (Nat → Int32)} {sn : Option (Nat → Int32)} {L : Nat} (l1 : CT iA (d + 9) [vR 5 0 0] M (.inl (some v)) M1 0) (hC : CR M1 f hs sn t L) (hF : CFr M M1) (l2 : CT iM (d + 9) [vR 6 0 0] M1 (.inl (some v)) M2 0) (hG : MR M2 f hs sn t L ∧ MFr M1 M2 ∧ M2 (6, 0, 0) 0 = 0) (hI : Inv f hs sn) : ResDv iA iM d v M := by
  obtain ⟨g1, g2, -⟩ := hG
  have wd : Wd M M1 := ⟨hF _ (Or.inr (by decide)), hF _ (Or.inr (by decide))⟩
  exact ⟨M1, M2, l1, l2, ⟨f, hs, sn, t, L, hC.out (fun r p q _ => g2 r p q), g1, hI⟩, (g2 _ (by decide) (by decide)).trans wd.1, (g2 _ (by decide) (by decide)).trans wd.2⟩
