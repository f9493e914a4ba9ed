/-! NEW CELLS: the worlds that the constructors make -/
def kV (D : va_G) (U : State) : Prop := (∀ w ∈ lw_tbl, mWarm w = true → w.before #[] U = true) ∧ (∀ (c : Nat) (q : vw_C), mCl[c]? = some q → u_Kn U q.1 q.2.1 q.2.2 (D.1 c) (D.2 c)) ∧ va_AO "AcreOffice$Field" U ∧ va_AO "AcreOffice$State" U
theorem kV.w {D : va_G} {U : State} (h : kV D U) {w : Cond} {a : Array Value} (hw : w ∈ lw_tbl) (hm : mWarm w = true) : w.before a U = true := mw_keep (State.WarmedH.refl U) hm (h.1 w hw hm)
theorem kV.warm {D : va_G} {s U : State} (hW : s.WarmedH U.vm) (h : kV D s) : kV D U :=
  ⟨fun w hw hm => mw_keep hW hm (h.1 w hw hm), fun c q hq => u_Kn_moved hW.alike (h.2.1 c q hq), va_AO.moved hW.alike h.2.2.1, va_AO.moved hW.alike h.2.2.2⟩
theorem kV.K {D : va_G} {U : State} (h : kV D U) : va_K D mCl [] U := ⟨h.2.1, fun k q hq => by simp at hq⟩
abbrev nAr (U : State) (cA : ClassId) (ty : FieldType) : Prop := ArrOfT U cA ty ∧ va_RA U cA ty
theorem kV.KA {D : va_G} {U : State} (h : kV D U) {cA : ClassId} {ty : FieldType} (ha : nAr U cA ty) : va_K D mCl [(cA, ty)] U := ⟨h.2.1, fun k q hq => by
  match k with
  | 0 => cases hq; exact ha
  | k + 1 => simp at hq⟩
theorem nAr.moved {u U : State} (hvm : u.vm.Alike U.vm) {cA : ClassId} {ty : FieldType} (h : nAr u cA ty) : nAr U cA ty := ⟨arrOfT_moved hvm h.1, h.2.moved hvm⟩
def mZ : mM := fun _ _ => 0
def nW (ρ : mRef → Nat) (cA : mRef → ClassId) (L : List mRef) : va_W := L.map (fun r => (ρ r, mCell ρ cA mZ r))
def nT (U : State) (cA : mRef → ClassId) (L : List mRef) : Prop := ∀ r ∈ L, 7 ≤ r.1 → nAr U (cA r) (mTy r)
theorem nT.moved {u U : State} (hvm : u.vm.Alike U.vm) {cA : mRef → ClassId} {L : List mRef} (h : nT u cA L) : nT U cA L := fun r hr hk => (h r hr hk).moved hvm
/-- the world ws in the heap H -/
def nS (D : va_G) (A : Nat → Prop) (H0 H : Heap) (locs : List Loc) (ws : va_W) : Prop := va_P D mCl ws H ∧ va_D A ws ∧ va_S A H0 H locs
theorem va_P_iff {D : va_G} {cl : List vw_C} {ws : va_W} {H : Heap} : va_P D cl ws H ↔ ∀ q ∈ ws, va_at D cl q H := by
  constructor
  · intro h q hq
    obtain ⟨k, hk⟩ := List.getElem?_of_mem hq
    exact h k q hk
  · intro h k q hk
    exact h q (List.mem_of_getElem? hk)
theorem va_D_iff {A : Nat → Prop} {ws : va_W} : va_D A ws ↔ (ws.map Prod.fst).Nodup ∧ ∀ q ∈ ws, A q.1 := by
  constructor
  · intro h
    refine ⟨?_, fun q hq => ?_⟩
    · rw [List.nodup_iff_pairwise_ne, List.pairwise_iff_getElem]
      intro i j hi hj hij e
      rw [List.length_map] at hi hj
      have e1 : ws[i]? = some ws[i] := List.getElem?_eq_getElem hi
      have e2 : ws[j]? = some ws[j] := List.getElem?_eq_getElem hj
      simp only [List.getElem_map] at e
      have := h.1 i j _ _ e1 e2 e
      omega
    · obtain ⟨k, hk⟩ := List.getElem?_of_mem hq
      exact h.2 k q hk
  · rintro ⟨h1, h2⟩
    refine ⟨fun i j p q hp hq e => ?_, fun k q hk => h2 q (List.mem_of_getElem? hk)⟩
    obtain ⟨li, ei⟩ := List.getElem?_eq_some_iff.mp hp
    obtain ⟨lj, ej⟩ := List.getElem?_eq_some_iff.mp hq
    rw [List.nodup_iff_pairwise_ne, List.pairwise_iff_getElem] at h1
    rcases Nat.lt_trichotomy i j with g | g | g
    · have h9 := h1 i j (by rw [List.length_map]; exact li) (by rw [List.length_map]; exact lj) g
      simp only [List.getElem_map, ei, ej] at h9
      exact absurd e h9
    · exact g
    · have h9 := h1 j i (by rw [List.length_map]; exact lj) (by rw [List.length_map]; exact li) g
      simp only [List.getElem_map, ei, ej] at h9
      exact absurd e.symm h9
theorem nS.perm {D : va_G} {A : Nat → Prop} {H0 H : Heap} {locs : List Loc} {ws ws' : va_W} (h : nS D A H0 H locs ws) (hp : ws.Perm ws') : nS D A H0 H locs ws' := by
  obtain ⟨h1, h2, h3⟩ := h
  rw [va_P_iff] at h1
  rw [va_D_iff] at h2
  refine ⟨va_P_iff.mpr (fun q hq => h1 q (hp.mem_iff.mpr hq)), va_D_iff.mpr ⟨(hp.map Prod.fst).nodup_iff.mp h2.1, fun q hq => h2.2 q (hp.mem_iff.mpr hq)⟩, h3⟩
/-- the same cells, said otherwise -/
def sameC (q q' : Nat × va_E) : Prop := q.1 = q'.1 ∧ ∀ (D : va_G) (H : Heap), va_at D mCl q H → va_at D mCl q' H
theorem nS.same {D : va_G} {A : Nat → Prop} {H0 H : Heap} {locs : List Loc} {w1 w2 : va_W} {q q' : Nat × va_E} (h : nS D A H0 H locs (w1 ++ q :: w2)) (hq : sameC q q') : nS D A H0 H locs (w1 ++ q' :: w2) := by
  obtain ⟨h1, h2, h3⟩ := h
  rw [va_P_iff] at h1
  rw [va_D_iff] at h2
  refine ⟨va_P_iff.mpr (fun x hx => ?_), va_D_iff.mpr ⟨?_, fun x hx => ?_⟩, h3⟩
  · rcases List.mem_append.mp hx with g | g
    · exact h1 x (List.mem_append_left _ g)
    · rcases List.mem_cons.mp g with g | g
      · rw [g]
        exact hq.2 D H (h1 q (List.mem_append_right _ List.mem_cons_self))
      · exact h1 x (List.mem_append_right _ (List.mem_cons_of_mem _ g))
  · have e : (w1 ++ q' :: w2).map Prod.fst = (w1 ++ q :: w2).map Prod.fst := by simp [hq.1]
    rw [e]
    exact h2.1
  · rcases List.mem_append.mp hx with g | g
    · exact h2.2 x (List.mem_append_left _ g)
    · rcases List.mem_cons.mp g with g | g
      · rw [g, ← hq.1]
        exact h2.2 q (List.mem_append_right _ List.mem_cons_self)
      · exact h2.2 x (List.mem_append_right _ (List.mem_cons_of_mem _ g))
theorem sameC_q {a : Nat} {cA : ClassId} {n : Nat} {f g : Nat → Option Nat} (h : ∀ j, j < n → f j = g j) : sameC (a, .inl (cA, n, .inr (.inr (.inr (.inr f))))) (a, .inl (cA, n, .inr (.inr (.inr (.inr g))))) := by
  refine ⟨rfl, fun D H hat => ?_⟩
  have e : vp_cell cA (n, .inr (.inr (.inr (.inr f)))) = vp_cell cA (n, .inr (.inr (.inr (.inr g)))) := by
    rw [vp_cell_q, vp_cell_q]
    unfold arrV
    congr 1
    apply Array.ext
    · simp
    · intro i h1 h2
      simp at h1
      simp [h i h1]
  have hat' : H[a]? = some (vp_cell cA (n, .inr (.inr (.inr (.inr f))))) := hat
  rw [e] at hat'
  exact hat'
theorem mCell_cg {ρ ρ' : mRef → Nat} {cA cA' : mRef → ClassId} {M : mM} {r : mRef} (h1 : cA r = cA' r) (h2 : ∀ k r', mRf r k = some r' → ρ r' = ρ' r') (h3 : r.1 = 10 → ∀ a, ρ (0, r.2.1, a) = ρ' (0, r.2.1, a)) (h4 : r.1 = 11 → ∀ a, ρ (3, 3 + a, 0) = ρ' (3, 3 + a, 0)) : mCell ρ cA M r = mCell ρ' cA' M r := by
  have hf : mFv ρ M r = mFv ρ' M r := by
    funext k
    unfold mFv
    cases h : mRf r k with
    | none => rfl
    | some r' => simp only [h2 k r' h]
  unfold mCell
  rw [hf, h1]
  by_cases e0 : r.1 < 7
  · rw [if_pos e0, if_pos e0]
  · rw [if_neg e0, if_neg e0]
    by_cases e1 : r.1 = 10
    · rw [if_pos e1, if_pos e1]
      have : (fun a => some (ρ (0, r.2.1, a))) = (fun a => some (ρ' (0, r.2.1, a))) := by funext a; rw [h3 e1 a]
      rw [this]
    · rw [if_neg e1, if_neg e1]
      by_cases e2 : r.1 = 11
      · rw [if_pos e2, if_pos e2]
        have : (fun a => some (ρ (3, 3 + a, 0))) = (fun a => some (ρ' (3, 3 + a, 0))) := by funext a; rw [h4 e2 a]
        rw [this]
      · rw [if_neg e2, if_neg e2]
theorem nW_cg {ρ ρ' : mRef → Nat} {cA cA' : mRef → ClassId} {L : List mRef} (h : ∀ r ∈ L, ρ r = ρ' r ∧ mCell ρ cA mZ r = mCell ρ' cA' mZ r) : nW ρ cA L = nW ρ' cA' L := by
  unfold nW
  refine List.map_congr_left (fun r hr => ?_)
  rw [(h r hr).1, (h r hr).2]
theorem nW_app {ρ : mRef → Nat} {cA : mRef → ClassId} {L1 L2 : List mRef} : nW ρ cA (L1 ++ L2) = nW ρ cA L1 ++ nW ρ cA L2 := by unfold nW; rw [List.map_append]
/-- a set of refs that holds what its cells name -/
def dCl (d : mRef → Bool) : Prop := (∀ r, d r = true → ∀ k r', mRf r k = some r' → d r' = true) ∧ (∀ r, d r = true → r.1 = 10 → ∀ a, d (0, r.2.1, a) = true) ∧ ∀ r, d r = true → r.1 = 11 → ∀ a, d (3, 3 + a, 0) = true
def pick {α : Type} (d : mRef → Bool) (f g : mRef → α) : mRef → α := fun r => if d r = true then f r else g r
theorem nW_pick {d : mRef → Bool} {ρ ρ' : mRef → Nat} {cA cA' : mRef → ClassId} {L : List mRef} (hd : dCl d) (hL : ∀ r ∈ L, d r = true) : nW ρ cA L = nW (pick d ρ ρ') (pick d cA cA') L := by
  have e : ∀ r, d r = true → pick d ρ ρ' r = ρ r := fun r h => if_pos h
  refine nW_cg (fun r hr => ⟨(e r (hL r hr)).symm, ?_⟩)
  have hdr := hL r hr
  exact mCell_cg (if_pos hdr).symm (fun k r' h => (e r' (hd.1 r hdr k r' h)).symm) (fun h a => (e _ (hd.2.1 r hdr h a)).symm) (fun h a => (e _ (hd.2.2 r hdr h a)).symm)
/-- .. and what others name, that lie outside it -/
theorem nW_pick2 {d : mRef → Bool} {ρ ρ' : mRef → Nat} {cA cA' : mRef → ClassId} {L : List mRef} (hd : ∀ r ∈ L, d r = false ∧ (∀ k r', mRf r k = some r' → d r' = false) ∧ (r.1 = 10 → ∀ a, d (0, r.2.1, a) = false) ∧ (r.1 = 11 → ∀ a, d (3, 3 + a, 0) = false)) : nW ρ' cA' L = nW (pick d ρ ρ') (pick d cA cA') L := by
  have e : ∀ r, d r = false → pick d ρ ρ' r = ρ' r := fun r h => if_neg (by rw [h]; decide)
  refine nW_cg (fun r hr => ?_)
  obtain ⟨h1, h2, h3, h4⟩ := hd r hr
  exact ⟨(e r h1).symm, mCell_cg (if_neg (by rw [h1]; decide)).symm (fun k r' h => (e r' (h2 k r' h)).symm) (fun h a => (e _ (h3 h a)).symm) (fun h a => (e _ (h4 h a)).symm)⟩
theorem nT_pick {U : State} {d : mRef → Bool} {cA cA' : mRef → ClassId} {L : List mRef} (hL : ∀ r ∈ L, d r = true) (h : nT U cA L) : nT U (pick d cA cA') L := fun r hr hk => by
  rw [show pick d cA cA' r = cA r from if_pos (hL r hr)]
  exact h r hr hk
theorem nT_pick2 {U : State} {d : mRef → Bool} {cA cA' : mRef → ClassId} {L : List mRef} (hL : ∀ r ∈ L, d r = false) (h : nT U cA' L) : nT U (pick d cA cA') L := fun r hr hk => by
  rw [show pick d cA cA' r = cA' r from if_neg (by rw [hL r hr]; decide)]
  exact h r hr hk
theorem nT.app {U : State} {cA : mRef → ClassId} {L1 L2 : List mRef} (h1 : nT U cA L1) (h2 : nT U cA L2) : nT U cA (L1 ++ L2) := fun r hr hk => by
  rcases List.mem_append.mp hr with g | g
  · exact h1 r g hk
  · exact h2 r g hk
