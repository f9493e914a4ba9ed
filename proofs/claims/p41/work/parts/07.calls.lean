/-! CALLS: a method's contract out of its run, and a call out of the contract -/
def CT (mi d : Nat) (as : List mAV) (M : mM) (o : mOut) (M' : mM) (n : Nat) : Prop := AW mi d 0 (mEntry (mL mi) as) [] M o M' n
def mCodeW (j : Nat) : Cond := if mHH j = [] then Cond.code (mY j) (mB j) (mL j) (mR j) else Cond.codeWith (mY j) (mB j) (mL j) (mR j) (mHH j)
theorem mCodeW_spec {j : Nat} {args : Array Value} {s : State} {m : MethodId} (hn : s.methodNamed? (mY j) = some m) (h : (mCodeW j).before args s = true) :
    ∃ meth c, s.vm.method? m = some meth ∧ meth.code = some c ∧ c.code = mB j ∧ c.maxLocals = mL j ∧ meth.sig.returnType = mR j ∧ meth.locks = false ∧ c.exceptionTable.toList = tableOf (mHH j) := by
  unfold mCodeW at h
  by_cases e : mHH j = []
  · rw [if_pos e] at h
    obtain ⟨meth, c, h1, h2, h3, h4, h5, h6, h7, -⟩ := Cond.code_spec hn h
    refine ⟨meth, c, h1, h2, h3, h4, h5, h6, ?_⟩
    rw [e, Array.isEmpty_iff.mp h7]
    rfl
  · rw [if_neg e] at h
    obtain ⟨m9, meth, c, hn9, h1, h2, h3, h4, h5, h6, h7, -⟩ := Cond.codeWith_spec h
    cases hn.symm.trans hn9
    refine ⟨meth, c, h1, h2, h3, h4, h6, h7, ?_⟩
    rw [← h5, table_eq]
theorem mCodeW_keeps (j : Nat) : goodWord (mCodeW j) = true := by
  unfold mCodeW
  split <;> rfl
def mPc (D : va_G) (ρ : mRef → Nat) (cA : mRef → ClassId) (bs LS : Nat) (sa : Nat → Nat) (xs : Nat → Int32) (as : List mAV) (M : mM) : Array Value → State → Prop := fun args U =>
  args = (as.map (cv ρ)).toArray ∧ mVF D cA sa U ∧ mHF ρ bs LS xs U U.heap ∧ mRp D ρ cA bs LS xs M U.heap
def mQc (D : va_G) (ρ : mRef → Nat) (cA : mRef → ClassId) (bs LS : Nat) (xs : Nat → Int32) (o : mOut) (M : mM) : Array Value → State → Outcome → State → Prop := fun _ st oc t =>
  (∃ v, o = .inl v ∧ oc = .returned (v.map (cv ρ))) ∧ mRp D ρ cA bs LS xs M t.heap ∧ va_F (mA0 bs) st t
def mXC (D : va_G) (ρ : mRef → Nat) (cA : mRef → ClassId) (bs LS : Nat) (xs : Nat → Int32) (o : mOut) (M : mM) : String → State → State → Prop := fun E st t =>
  o = .inr E ∧ mRp D ρ cA bs LS xs M t.heap ∧ va_F (mA0 bs) st t
theorem mPc_blind {D : va_G} {ρ : mRef → Nat} {cA : mRef → ClassId} {bs LS : Nat} {sa : Nat → Nat} {xs : Nat → Int32} {as : List mAV} {M : mM} : FrameBlind (mPc D ρ cA bs LS sa xs as M) := by
  intro a U g mk h
  obtain ⟨h1, h2, h3, h4⟩ := h
  exact ⟨h1, mVF.warm (U := U.calling g mk a) (State.WarmedH.refl U) h2, mHF.go (U := U.calling g mk a) (locs := []) (Vm.Alike.refl U.vm) va_S.rf h3, h4⟩
theorem mEntL_len (ρ : mRef → Nat) (as : List mAV) : (lg_sl (as.map (cv ρ))).length = (mEntL as).length := by
  induction as with
  | nil => rfl
  | cons a as ih =>
    have hc : ∀ v : Value, ∀ vs : List Value, lg_sl (v :: vs) = (if v.category = 2 then [.val v, .second] else [.val v]) ++ lg_sl vs := fun v vs => rfl
    rw [List.map_cons, hc]
    match a with
    | .inl x => simp [mEntL, cv, Value.category, ih]
    | .inr (.inl x) => simp [mEntL, cv, Value.category, ih]
    | .inr (.inr r) => simp [mEntL, cv, Value.category, ih]
theorem mEntL_at (ρ : mRef → Nat) (as : List mAV) : ∀ (k i : Nat) (a : mAV), (mEntL as)[i]? = some (some a) → (i + k, cv ρ a) ∈ lv_args k (as.map (cv ρ)) := by
  induction as with
  | nil => intro k i a h; simp [mEntL] at h
  | cons b as ih =>
    intro k i a h
    have hs : ∀ (v : Value) (vs : List Value), lv_args k (v :: vs) = (k, v) :: lv_args (if v.category = 2 then k + 2 else k + 1) vs := fun v vs => rfl
    rw [List.map_cons, hs]
    match b with
    | .inl x =>
      cases i with
      | zero =>
        simp [mEntL] at h
        subst h
        simp
      | succ i =>
        simp [mEntL] at h
        have := ih (k + 1) i a h
        refine List.mem_cons_of_mem _ ?_
        rw [show i + 1 + k = i + (k + 1) by omega]
        exact this
    | .inr (.inl x) =>
      cases i with
      | zero =>
        simp [mEntL] at h
        subst h
        simp
      | succ i =>
        cases i with
        | zero => simp [mEntL] at h
        | succ i =>
          simp [mEntL] at h
          have := ih (k + 2) i a h
          refine List.mem_cons_of_mem _ ?_
          rw [show i + 1 + 1 + k = i + (k + 2) by omega]
          exact this
    | .inr (.inr r) =>
      cases i with
      | zero =>
        simp [mEntL] at h
        subst h
        simp
      | succ i =>
        simp [mEntL] at h
        have := ih (k + 1) i a h
        refine List.mem_cons_of_mem _ ?_
        rw [show i + 1 + k = i + (k + 1) by omega]
        exact this
theorem mEntry_lR (ρ : mRef → Nat) {n : Nat} {as : List mAV} (h : (mEntL as).length ≤ n) : lR ρ n (mEntry n as) ((lg_sl (as.map (cv ρ)) ++ List.replicate (n - (lg_sl (as.map (cv ρ))).length) Slot.unset).toArray) := by
  have hh := lv_entry (as.map (cv ρ)) (n := n) (by rw [mEntL_len]; exact h)
  refine ⟨hh.1, hh.2.1, by unfold mEntry; simp; omega, fun i a hi => ?_⟩
  unfold mEntry at hi
  by_cases hl : i < (mEntL as).length
  · rw [List.getElem?_append_left hl] at hi
    exact hh.2.2 (i, cv ρ a) (by have := mEntL_at ρ as 0 i a hi; simpa using this)
  · rw [List.getElem?_append_right (by omega)] at hi
    have := List.eq_of_mem_replicate (List.mem_of_getElem? hi)
    cases this
set_option maxHeartbeats 4000000 in
theorem ct_met {l : Launch} {D : va_G} {ρ : mRef → Nat} {cA : mRef → ClassId} {bs LS : Nat} {sa : Nat → Nat} {xs : Nat → Int32} {mi d nA : Nat} {as : List mAV} {M M' : mM} {o : mOut} {n : Nat} (hl0 : l.stackTraces = false) (hLS : LS < 2 ^ 31) (hok : mCodeOk mi nA) (hlen : (mEntL as).length ≤ mL mi) (h : CT mi d as M o M' n) :
    vx_Met l (mY mi) [mCodeW mi] { frames := d, cells := n, slots := 6 * n, locals := 40 * d } (mPc D ρ cA bs LS sa xs as M) (mQc D ρ cA bs LS xs o M') (mXC D ρ cA bs LS xs o M') n (6 * n) (mA0 bs) := by
  refine MetFree.of_bodySF (code := mB mi) (maxLocals := mL mi) (ret := mR mi) hok.2.2.1 ?_ ?_
  · intro args s m h hn
    obtain ⟨meth, c, h1, h2, h3, h4, h5, h6, -⟩ := mCodeW_spec hn (atoms_spec (ws := [mCodeW mi]) h _ List.mem_cons_self)
    exact ⟨meth, c, h1, h2, h3, h4, h5, h6⟩
  · intro p e s m args below meth c s₁ B hml hP _
    have hh0 : s₁.heap = s.heap := by rw [B.state]; rfl
    obtain ⟨rfl, hV, hH, hR⟩ := hP
    have htab : c.exceptionTable.toList = tableOf (mHH mi) := by
      obtain ⟨meth9, c9, h1, h2, -, -, -, -, h7⟩ := mCodeW_spec B.named (atoms_spec (ws := [mCodeW mi]) B.pre _ List.mem_cons_self)
      cases Option.some.inj (h1.symm.trans B.method)
      cases Option.some.inj (h2.symm.trans (Stand.of_body B).code)
      exact h7
    have hown : s.vm.findClass (mC mi) = some m.cls := findClass_of_methodNamed B.named
    have hF : mFR D ρ cA bs LS sa xs p l e (headSpec [mCodeW mi] { frames := d, cells := n, slots := 6 * n, locals := 40 * d }).room s m (as.map (cv ρ)).toArray below meth c mi d :=
      ⟨B.exec, B.bytes, hml, hown, htab, B.notSynchronized, B.returns, hl0, Nat.le_refl _, Nat.le_refl _, hV, hH, hLS⟩
    have hFin : mFin D ρ cA bs LS xs p l e (headSpec [mCodeW mi] { frames := d, cells := n, slots := 6 * n, locals := 40 * d }).room s m (as.map (cv ρ)).toArray below meth c mi o M' n (6 * n) (vx_MQ below (mQc D ρ cA bs LS xs o M') (mXC D ρ cA bs LS xs o M') (as.map (cv ρ)).toArray s n (6 * n) (mA0 bs)) := by
      cases o with
      | inl v =>
        intro H locs ls pc ins hret hdg hR9 hS9
        refine vx_ret ?_
        have hq : ∀ t : State, t.heap = H → s.WarmedH t.vm → mQc D ρ cA bs LS xs (.inl v) M' (as.map (cv ρ)).toArray s (.returned (v.map (cv ρ))) t := fun t ht hW => ⟨⟨v, rfl, rfl⟩, by rw [ht]; exact hR9, hS9.F ht⟩
        match v, hret, hq with
        | none, hret, hq =>
          obtain ⟨rfl, hr⟩ := hret
          exact W.vret B.exec B.bytes (B.returns.trans hr) hq hS9.2.2 hdg
        | some (.inl x), hret, hq =>
          obtain ⟨rfl, ty, hr, hn⟩ := hret
          exact W.zret B.exec B.bytes (B.returns.trans hr) hn hq hS9.2.2 hdg
        | some (.inr (.inl x)), hret, hq =>
          obtain ⟨rfl, hr⟩ := hret
          exact W.lret B.exec B.bytes (B.returns.trans hr) hq hS9.2.2 hdg
        | some (.inr (.inr r)), hret, hq =>
          obtain ⟨rfl, C, hr⟩ := hret
          exact W.aret B.exec B.bytes (B.returns.trans hr) (Or.inl ⟨C, rfl⟩) (Or.inr ⟨_, rfl⟩) hq hS9.2.2 hdg
      | inr E =>
        intro H locs ls pc rest q ce hcov hR9 hS9 hcell hv hcl
        exact vx_out hcov B.notSynchronized hcell hv hcl (fun t ht hvm => ⟨rfl, by rw [ht]; exact hR9, hS9.F ht⟩) hS9.2.2 (Nat.le_refl _) (Nat.le_refl _)
    have K := h D ρ cA bs LS sa xs p l e _ s m _ below meth c _ n (6 * n) hF (Nat.le_refl _) (Nat.le_refl _) hFin s.heap [] _ 0 0 (by omega) (by omega) hR va_S.rf (mEntry_lR ρ hlen)
    have K2 : W p l e (headSpec [mCodeW mi] { frames := d, cells := n, slots := 6 * n, locals := 40 * d }).room s m (as.map (cv ρ)).toArray below meth c s.heap [] 0 0 (vx_MQ below (mQc D ρ cA bs LS xs o M') (mXC D ρ cA bs LS xs o M') (as.map (cv ρ)).toArray s n (6 * n) (mA0 bs)) (entryFrame m (as.map (cv ρ)).toArray (mL mi)) := by
      rw [lg_entry_eq]
      exact K
    obtain ⟨t, a1, o9, b1, b2, b3⟩ := K2 s₁ hh0 (Stand.of_body B)
    exact ⟨t, o9, a1, b1, b2, b3⟩
theorem mPc_at {D : va_G} {ρ : mRef → Nat} {cA : mRef → ClassId} {bs LS : Nat} {sa : Nat → Nat} {xs : Nat → Int32} {as : List mAV} {M : mM} {s : State} {H : Heap} {locs : List Loc} (hV : mVF D cA sa s) (hH : mHF ρ bs LS xs s s.heap) (hS : va_S (mA0 bs) s.heap H locs) (hR : mRp D ρ cA bs LS xs M H) : ∀ U : State, U.heap = H → s.WarmedH U.vm → mPc D ρ cA bs LS sa xs as M (as.map (cv ρ)).toArray U := by
  intro U hU hW
  exact ⟨rfl, hV.warm hW, by rw [hU]; exact hH.go hW.alike hS, by rw [hU]; exact hR⟩
theorem mCodeOk.callB {own : String} {ix mj nA d n : Nat} {s : State} {args : Array Value} {R : Room} {D : va_G} {cA : mRef → ClassId} {sa : Nat → Nat} (hok : mCodeOk mj nA) (hV : mVF D cA sa s) (hh : mHH mj = []) (hl : (Cond.methodLink own ix (mY mj)) ∈ lw_tbl) (hfr : d + 1 ≤ R.frames) (hlo : 40 * (d + 1) ≤ R.locals) :
    CallB R s args own ix (mY mj) (mB mj) (mL mj) (mR mj) [mCodeW mj] { frames := d, cells := n, slots := 6 * n, locals := 40 * d } n (6 * n) nA := by
  obtain ⟨h1, h2, h3, h4, h5, h6⟩ := hok
  have hw : mCodeW mj = Cond.code (mY mj) (mB mj) (mL mj) (mR mj) := by unfold mCodeW; rw [if_pos hh]
  rw [if_pos hh] at h1
  have hb : (Cond.code (mY mj) (mB mj) (mL mj) (mR mj)).before args s = true := hV.w h1 rfl
  refine ⟨rfl, rfl, hfr, ?_, ?_, by rw [hw]; exact List.mem_cons_self, hb, hV.w h2 rfl, h4, ?_, hV.w hl rfl⟩
  · show 8 + (mL mj + 11) + 40 * d ≤ R.locals
    omega
  · intro w hw9 a' U hW
    rw [List.mem_singleton.mp hw9, hw]
    exact word_at hW (Or.inl rfl) hb
  · intro sig hs
    rw [hs] at h5
    exact (Option.some.inj h5).symm
theorem mCl_name : ∀ ci < 7, ∀ q ∈ mCl[ci]?, q.1 = [RX0, RX1, RX2, RX3, RX4, RX5, RX6].getD ci "" := by
  intro ci h q hq
  match ci, h with
  | 0, _ => cases hq; rfl
  | 1, _ => cases hq; rfl
  | 2, _ => cases hq; rfl
  | 3, _ => cases hq; rfl
  | 4, _ => cases hq; rfl
  | 5, _ => cases hq; rfl
  | 6, _ => cases hq; rfl
theorem m_recv {D : va_G} {ρ : mRef → Nat} {cA : mRef → ClassId} {bs LS : Nat} {sa : Nat → Nat} {xs : Nat → Int32} {M : mM} {s : State} {H : Heap} {a b c0 : Nat} {C : String} (hV : mVF D cA sa s) (hR : mRp D ρ cA bs LS xs M H) (ho : mOk (a, b, c0)) (ha : a < 7) (hC : [RX0, RX1, RX2, RX3, RX4, RX5, RX6].getD a "" = C) : ∃ cell : Cell, H[ρ (a, b, c0)]? = some cell ∧ cell.vm.isStatics = false ∧ s.vm.findClass C = some cell.cls := by
  obtain ⟨q0, -, hw⟩ := mWs_at (ρ := ρ) (cA := cA) M (mOk_mem ho)
  rw [mCell_obj ha] at hw
  have hq : ∃ q, mCl[a]? = some q := by
    match a, ha with
    | 0, _ => exact ⟨_, rfl⟩
    | 1, _ => exact ⟨_, rfl⟩
    | 2, _ => exact ⟨_, rfl⟩
    | 3, _ => exact ⟨_, rfl⟩
    | 4, _ => exact ⟨_, rfl⟩
    | 5, _ => exact ⟨_, rfl⟩
    | 6, _ => exact ⟨_, rfl⟩
  obtain ⟨q, hq⟩ := hq
  have h := va_recv hV.K hR.1.1 hq hw
  rw [mCl_name a ha q hq, hC] at h
  exact h
theorem cv_sum8 {ρ : mRef → Nat} {stk : List mAV} (h : (stk.map (fun a => match a with | .inr (.inl _) => 2 | _ => 1)).sum ≤ 8) : ((stk.map (cv ρ)).map fun v => v.category).sum ≤ 8 := by
  have e : (stk.map (cv ρ)).map (fun v => v.category) = stk.map (fun a => match a with | .inr (.inl _) => 2 | _ => 1) := by
    rw [List.map_map]
    refine List.map_congr_left fun a _ => ?_
    match a with
    | .inl x => rfl
    | .inr (.inl x) => rfl
    | .inr (.inr r) => rfl
  rw [e]
  exact h
theorem aw_mono {mi d pc : Nat} {loc : List (Option mAV)} {stk : List mAV} {M : mM} {o : mOut} {M1 : mM} {n n' : Nat} (hn : n ≤ n') (h : AW mi d pc loc stk M o M1 n) : AW mi d pc loc stk M o M1 n' :=
  fun D ρ cA bs LS sa xs p l e R s m args below meth c Q cE sE hF hcE hsE hFin H locs ls cells slots hc hs hRep hS hl => h D ρ cA bs LS sa xs p l e R s m args below meth c Q cE sE hF hcE hsE hFin H locs ls cells slots (by omega) (by omega) hRep hS hl
theorem ct_go {mi d L : Nat} {as : List mAV} {loc : List (Option mAV)} {M : mM} {o : mOut} {M1 : mM} {n : Nat} (hL : mL mi = L) (he : mEntry L as = loc) (h : AW mi d 0 loc [] M o M1 n) : CT mi d as M o M1 n := by
  unfold CT
  rw [hL, he]
  exact h
abbrev mW8 (stk : List mAV) : Nat := (stk.map (fun a => match a with | .inr (.inl _) => 2 | _ => 1)).sum
set_option maxHeartbeats 4000000 in
theorem aw_callV {mi d pc nx : Nat} {loc : List (Option mAV)} {stk : List mAV} {M : mM} {own : String} {ix mj nA : Nat} {as : List mAV} {a b c0 : Nat} {o : mOut} {v : Option mAV} {M1 M2 : mM} {n1 n2 : Nat} (hd : mD mi pc 3 nx (.invokevirtual ix)) (hC : mC mi = own) (hok : mCodeOk mj nA) (hs9 : mSiteV own ix mj) (hh : mHH mj = []) (ho : mOk (a, b, c0)) (ha : a < 7) (hCn : [RX0, RX1, RX2, RX3, RX4, RX5, RX6].getD a "" = (mY mj).cls) (hn : as.length = nA) (hlen : (mEntL (vR a b c0 :: as)).length ≤ mL mj) (h8 : mW8 stk ≤ 8) (hcall : CT mj d (vR a b c0 :: as) M (.inl v) M1 n1) (kk : AW mi (d + 1) nx loc (v.toList ++ stk) M1 o M2 n2) : AW mi (d + 1) pc loc (as.reverse ++ vR a b c0 :: stk) M o M2 (n1 + n2) := by
  intro D ρ cA bs LS sa xs p l e R s m args below meth c Q cE sE hF hcE hsE hFin H locs ls cells slots hc hs hRep hS hl
  obtain ⟨hdg, rfl⟩ := hd
  obtain ⟨hx, hb, hml, hown, htab, hlocks, hr, hl0, hfr, hlo, hV, hH, hLS⟩ := id hF
  rw [hC] at hown
  have hM := ct_met (l := l) (D := D) (ρ := ρ) (cA := cA) (bs := bs) (LS := LS) (sa := sa) (xs := xs) hl0 hLS hok hlen hcall
  have hRun : vx_Run p l e R s m args below meth c H locs cells slots n1 (6 * n1) (F0 m pc ls ((as.reverse ++ vR a b c0 :: stk).map (cv ρ))) (stk.map (cv ρ)) (mQc D ρ cA bs LS xs (.inl v) M1 (Value.ref (ρ (a, b, c0)) :: as.map (cv ρ)).toArray) (mXC D ρ cA bs LS xs (.inl v) M1) (mA0 bs) := vx_runV (As := as.map (cv ρ)) (rest := stk.map (cv ρ)) (H := H) (locs := locs) (cells := cells) (slots := slots) (g := F0 m pc ls ((as.reverse ++ vR a b c0 :: stk).map (cv ρ))) (Ts := []) ⟨hx, hb, hml, hown, fun _ h => nomatch h⟩ hM ⟨hok.callB hV hh hs9.1 hfr hlo, hV.w hs9.2.1 rfl, hV.w hs9.2.2 rfl⟩ ⟨mPc_blind, m_recv hV hRep ho ha hCn, mPc_at (as := vR a b c0 :: as) hV hH hS hRep⟩ rfl (by rw [List.length_map]; exact hn) hl.1 (by simp; try rfl) (lv_room (cv_sum8 h8)) hdg ⟨by omega, by omega⟩
  intro T hT X
  rcases hRun T hT X with ⟨v9, st₀, t, T', L, h0, X', hL, e1, e2, ⟨⟨v8, hv8, hv9⟩, hR9, hF9⟩, st⟩ | ⟨q, st₀, t, T', L, E, ce, h0, X', hL, e1, e2, ⟨hoE, -⟩, -⟩
  · cases hv8
    cases hv9
    obtain ⟨k1, k2, k3⟩ := vx_keep h0 e1 hS (fun _ _ h => h) (fun _ h => h) hL hF9
    have K := kk D ρ cA bs LS sa xs p l e R s m args below meth c Q cE sE hF hcE hsE hFin T'.heap (locs ++ L) ls (cells + n1) (slots + 6 * n1) (by omega) (by omega) (by rw [e1]; exact hR9) k3 hl
    rw [List.map_append] at K
    obtain ⟨t2, a1, b1⟩ := K T' rfl X'
    have e5 : (v.map (cv ρ)).toList = v.toList.map (cv ρ) := by cases v <;> rfl
    rw [← e5] at a1
    exact ⟨t2, st t2 a1, b1⟩
  · cases hoE
set_option maxHeartbeats 4000000 in
theorem aw_callVX {mi d pc nx : Nat} {loc : List (Option mAV)} {stk : List mAV} {M : mM} {own : String} {ix mj nA : Nat} {as : List mAV} {a b c0 : Nat} {E : String} {M1 : mM} {n1 : Nat} (hd : mD mi pc 3 nx (.invokevirtual ix)) (hC : mC mi = own) (hok : mCodeOk mj nA) (hs9 : mSiteV own ix mj) (hh : mHH mj = []) (ho : mOk (a, b, c0)) (ha : a < 7) (hCn : [RX0, RX1, RX2, RX3, RX4, RX5, RX6].getD a "" = (mY mj).cls) (hn : as.length = nA) (hlen : (mEntL (vR a b c0 :: as)).length ≤ mL mj) (h8 : mW8 stk ≤ 8) (hhi : mHH mi = []) (hcall : CT mj d (vR a b c0 :: as) M (.inr E) M1 n1) : AW mi (d + 1) pc loc (as.reverse ++ vR a b c0 :: stk) M (.inr E) M1 n1 := by
  intro D ρ cA bs LS sa xs p l e R s m args below meth c Q cE sE hF hcE hsE hFin H locs ls cells slots hc hs hRep hS hl
  obtain ⟨hdg, rfl⟩ := hd
  obtain ⟨hx, hb, hml, hown, htab, hlocks, hr, hl0, hfr, hlo, hV, hH, hLS⟩ := id hF
  rw [hC] at hown
  have hM := ct_met (l := l) (D := D) (ρ := ρ) (cA := cA) (bs := bs) (LS := LS) (sa := sa) (xs := xs) hl0 hLS hok hlen hcall
  have hRun : vx_Run p l e R s m args below meth c H locs cells slots n1 (6 * n1) (F0 m pc ls ((as.reverse ++ vR a b c0 :: stk).map (cv ρ))) (stk.map (cv ρ)) (mQc D ρ cA bs LS xs (.inr E) M1 (Value.ref (ρ (a, b, c0)) :: as.map (cv ρ)).toArray) (mXC D ρ cA bs LS xs (.inr E) M1) (mA0 bs) := vx_runV (As := as.map (cv ρ)) (rest := stk.map (cv ρ)) (H := H) (locs := locs) (cells := cells) (slots := slots) (g := F0 m pc ls ((as.reverse ++ vR a b c0 :: stk).map (cv ρ))) (Ts := []) ⟨hx, hb, hml, hown, fun _ h => nomatch h⟩ hM ⟨hok.callB hV hh hs9.1 hfr hlo, hV.w hs9.2.1 rfl, hV.w hs9.2.2 rfl⟩ ⟨mPc_blind, m_recv hV hRep ho ha hCn, mPc_at (as := vR a b c0 :: as) hV hH hS hRep⟩ rfl (by rw [List.length_map]; exact hn) hl.1 (by simp; try rfl) (lv_room (cv_sum8 h8)) hdg ⟨by omega, by omega⟩
  intro T hT X
  rcases hRun T hT X with ⟨v9, st₀, t, T', L, h0, X', hL, e1, e2, ⟨⟨v8, hv8, hv9⟩, hR9, hF9⟩, st⟩ | ⟨q, st₀, t, T', L, E9, ce, h0, X', hL, e1, e2, ⟨hoE, hR9, hF9⟩, hce, hcv, hcl, st⟩
  · cases hv8
  · cases hoE
    obtain ⟨k1, k2, k3⟩ := vx_keep h0 e1 hS (fun _ _ h => h) (fun _ h => h) hL hF9
    have K := hFin T'.heap (locs ++ L) ls pc (stk.map (cv ρ)) q ce (by rw [htab, hhi]; intro x hx9; cases hx9) (by rw [e1]; exact hR9) k3 (by rw [e1]; exact hce) hcv hcl
    obtain ⟨t2, a1, b1⟩ := (vx_widen (by omega) (by omega) K) T' rfl X'
    exact ⟨t2, st.trans a1, b1⟩
set_option maxHeartbeats 4000000 in
theorem aw_callS {mi d pc nx : Nat} {loc : List (Option mAV)} {stk : List mAV} {M : mM} {own : String} {ix mj nA : Nat} {as : List mAV} {o : mOut} {v : Option mAV} {M1 M2 : mM} {n1 n2 : Nat} (hd : mD mi pc 3 nx (.invokestatic ix)) (hC : mC mi = own) (hok : mCodeOk mj nA) (hs9 : mSiteS own ix mj) (hh : mHH mj = []) (hn : as.length = nA) (hlen : (mEntL as).length ≤ mL mj) (h8 : mW8 stk ≤ 8) (hcall : CT mj d as M (.inl v) M1 n1) (kk : AW mi (d + 1) nx loc (v.toList ++ stk) M1 o M2 n2) : AW mi (d + 1) pc loc (as.reverse ++ stk) M o M2 (n1 + n2) := by
  intro D ρ cA bs LS sa xs p l e R s m args below meth c Q cE sE hF hcE hsE hFin H locs ls cells slots hc hs hRep hS hl
  obtain ⟨hdg, rfl⟩ := hd
  obtain ⟨hx, hb, hml, hown, htab, hlocks, hr, hl0, hfr, hlo, hV, hH, hLS⟩ := id hF
  rw [hC] at hown
  have hM := ct_met (l := l) (D := D) (ρ := ρ) (cA := cA) (bs := bs) (LS := LS) (sa := sa) (xs := xs) hl0 hLS hok hlen hcall
  have hRun : vx_Run p l e R s m args below meth c H locs cells slots n1 (6 * n1) (F0 m pc ls ((as.reverse ++ stk).map (cv ρ))) (stk.map (cv ρ)) (mQc D ρ cA bs LS xs (.inl v) M1 (as.map (cv ρ)).toArray) (mXC D ρ cA bs LS xs (.inl v) M1) (mA0 bs) := vx_runS (As := as.map (cv ρ)) (rest := stk.map (cv ρ)) (H := H) (locs := locs) (cells := cells) (slots := slots) (g := F0 m pc ls ((as.reverse ++ stk).map (cv ρ))) (Ts := []) ⟨hx, hb, hml, hown, fun _ h => nomatch h⟩ hM ⟨hok.callB hV hh hs9.1 hfr hlo, hV.w hs9.2 rfl⟩ ⟨mPc_blind, mPc_at (as := as) hV hH hS hRep⟩ rfl (by rw [List.length_map]; exact hn) hl.1 (by simp; try rfl) (lv_room (cv_sum8 h8)) hdg ⟨by omega, by omega⟩
  intro T hT X
  rcases hRun T hT X with ⟨v9, st₀, t, T', L, h0, X', hL, e1, e2, ⟨⟨v8, hv8, hv9⟩, hR9, hF9⟩, st⟩ | ⟨q, st₀, t, T', L, E, ce, h0, X', hL, e1, e2, ⟨hoE, -⟩, -⟩
  · cases hv8
    cases hv9
    obtain ⟨k1, k2, k3⟩ := vx_keep h0 e1 hS (fun _ _ h => h) (fun _ h => h) hL hF9
    have K := kk D ρ cA bs LS sa xs p l e R s m args below meth c Q cE sE hF hcE hsE hFin T'.heap (locs ++ L) ls (cells + n1) (slots + 6 * n1) (by omega) (by omega) (by rw [e1]; exact hR9) k3 hl
    rw [List.map_append] at K
    obtain ⟨t2, a1, b1⟩ := K T' rfl X'
    have e5 : (v.map (cv ρ)).toList = v.toList.map (cv ρ) := by cases v <;> rfl
    rw [← e5] at a1
    exact ⟨t2, st t2 a1, b1⟩
  · cases hoE
set_option maxHeartbeats 4000000 in
theorem aw_callSX {mi d pc nx : Nat} {loc : List (Option mAV)} {stk : List mAV} {M : mM} {own : String} {ix mj nA : Nat} {as : List mAV} {E : String} {M1 : mM} {n1 : Nat} (hd : mD mi pc 3 nx (.invokestatic ix)) (hC : mC mi = own) (hok : mCodeOk mj nA) (hs9 : mSiteS own ix mj) (hh : mHH mj = []) (hn : as.length = nA) (hlen : (mEntL as).length ≤ mL mj) (h8 : mW8 stk ≤ 8) (hhi : mHH mi = []) (hcall : CT mj d as M (.inr E) M1 n1) : AW mi (d + 1) pc loc (as.reverse ++ stk) M (.inr E) M1 n1 := by
  intro D ρ cA bs LS sa xs p l e R s m args below meth c Q cE sE hF hcE hsE hFin H locs ls cells slots hc hs hRep hS hl
  obtain ⟨hdg, rfl⟩ := hd
  obtain ⟨hx, hb, hml, hown, htab, hlocks, hr, hl0, hfr, hlo, hV, hH, hLS⟩ := id hF
  rw [hC] at hown
  have hM := ct_met (l := l) (D := D) (ρ := ρ) (cA := cA) (bs := bs) (LS := LS) (sa := sa) (xs := xs) hl0 hLS hok hlen hcall
  have hRun : vx_Run p l e R s m args below meth c H locs cells slots n1 (6 * n1) (F0 m pc ls ((as.reverse ++ stk).map (cv ρ))) (stk.map (cv ρ)) (mQc D ρ cA bs LS xs (.inr E) M1 (as.map (cv ρ)).toArray) (mXC D ρ cA bs LS xs (.inr E) M1) (mA0 bs) := vx_runS (As := as.map (cv ρ)) (rest := stk.map (cv ρ)) (H := H) (locs := locs) (cells := cells) (slots := slots) (g := F0 m pc ls ((as.reverse ++ stk).map (cv ρ))) (Ts := []) ⟨hx, hb, hml, hown, fun _ h => nomatch h⟩ hM ⟨hok.callB hV hh hs9.1 hfr hlo, hV.w hs9.2 rfl⟩ ⟨mPc_blind, mPc_at (as := as) hV hH hS hRep⟩ rfl (by rw [List.length_map]; exact hn) hl.1 (by simp; try rfl) (lv_room (cv_sum8 h8)) hdg ⟨by omega, by omega⟩
  intro T hT X
  rcases hRun T hT X with ⟨v9, st₀, t, T', L, h0, X', hL, e1, e2, ⟨⟨v8, hv8, hv9⟩, hR9, hF9⟩, st⟩ | ⟨q, st₀, t, T', L, E9, ce, h0, X', hL, e1, e2, ⟨hoE, hR9, hF9⟩, hce, hcv, hcl, st⟩
  · cases hv8
  · cases hoE
    obtain ⟨k1, k2, k3⟩ := vx_keep h0 e1 hS (fun _ _ h => h) (fun _ h => h) hL hF9
    have K := hFin T'.heap (locs ++ L) ls pc (stk.map (cv ρ)) q ce (by rw [htab, hhi]; intro x hx9; cases hx9) (by rw [e1]; exact hR9) k3 (by rw [e1]; exact hce) hcv hcl
    obtain ⟨t2, a1, b1⟩ := (vx_widen (by omega) (by omega) K) T' rfl X'
    exact ⟨t2, st.trans a1, b1⟩
set_option maxHeartbeats 4000000 in
theorem aw_callN {mi d pc nx : Nat} {loc : List (Option mAV)} {stk : List mAV} {M : mM} {own : String} {ix mj nA : Nat} {as : List mAV} {host : String} {o : mOut} {v : Option mAV} {M1 M2 : mM} {n1 n2 : Nat} (hd : mD mi pc 3 nx (.invokestatic ix)) (hC : mC mi = own) (hok : mCodeOk mj nA) (hs9 : mSiteN own ix mj host) (hh : mHH mj = []) (hn : as.length = nA) (hlen : (mEntL as).length ≤ mL mj) (h8 : mW8 stk ≤ 8) (hcall : CT mj d as M (.inl v) M1 n1) (kk : AW mi (d + 1) nx loc (v.toList ++ stk) M1 o M2 n2) : AW mi (d + 1) pc loc (as.reverse ++ stk) M o M2 (n1 + n2) := by
  intro D ρ cA bs LS sa xs p l e R s m args below meth c Q cE sE hF hcE hsE hFin H locs ls cells slots hc hs hRep hS hl
  obtain ⟨hdg, rfl⟩ := hd
  obtain ⟨hx, hb, hml, hown, htab, hlocks, hr, hl0, hfr, hlo, hV, hH, hLS⟩ := id hF
  rw [hC] at hown
  have hM := ct_met (l := l) (D := D) (ρ := ρ) (cA := cA) (bs := bs) (LS := LS) (sa := sa) (xs := xs) hl0 hLS hok hlen hcall
  have hw : mCodeW mj = Cond.code (mY mj) (mB mj) (mL mj) (mR mj) := by unfold mCodeW; rw [if_pos hh]
  have hcb : (Cond.code (mY mj) (mB mj) (mL mj) (mR mj)).before args s = true := by
    have h1 := hok.1
    rw [if_pos hh] at h1
    exact hV.w h1 rfl
  have hRun : vx_Run p l e R s m args below meth c H locs cells slots n1 (6 * n1) (F0 m pc ls ((as.reverse ++ stk).map (cv ρ))) (stk.map (cv ρ)) (mQc D ρ cA bs LS xs (.inl v) M1 (as.map (cv ρ)).toArray) (mXC D ρ cA bs LS xs (.inl v) M1) (mA0 bs) := vx_runSN (host := host) (As := as.map (cv ρ)) (rest := stk.map (cv ρ)) (H := H) (locs := locs) (cells := cells) (slots := slots) (g := F0 m pc ls ((as.reverse ++ stk).map (cv ρ))) (Ts := []) (index := ix) (n := nA) ⟨hx, hb, hml, hown, fun _ h => nomatch h⟩ hM ⟨⟨⟨rfl, rfl, hfr, by show 8 + (mL mj + 11) + 40 * d ≤ R.locals; have := hok.2.2.2.2.2; omega, fun w hw9 a' U hW => by rw [List.mem_singleton.mp hw9, hw]; exact word_at hW (Or.inl rfl) hcb, by rw [hw]; exact List.mem_cons_self⟩, hcb, hV.w hok.2.1 rfl, hok.2.2.2.1, fun sig hs => by have h5 := hok.2.2.2.2.1; rw [hs] at h5; exact (Option.some.inj h5).symm, hV.w hs9.1 rfl⟩, hV.w hs9.2 rfl, trivial⟩ ⟨mPc_blind, mPc_at (as := as) hV hH hS hRep⟩ rfl (by rw [List.length_map]; exact hn) hl.1 (by simp; try rfl) (lv_room (cv_sum8 h8)) hdg ⟨by omega, by omega⟩
  intro T hT X
  rcases hRun T hT X with ⟨v9, st₀, t, T', L, h0, X', hL, e1, e2, ⟨⟨v8, hv8, hv9⟩, hR9, hF9⟩, st⟩ | ⟨q, st₀, t, T', L, E, ce, h0, X', hL, e1, e2, ⟨hoE, -⟩, -⟩
  · cases hv8
    cases hv9
    obtain ⟨k1, k2, k3⟩ := vx_keep h0 e1 hS (fun _ _ h => h) (fun _ h => h) hL hF9
    have K := kk D ρ cA bs LS sa xs p l e R s m args below meth c Q cE sE hF hcE hsE hFin T'.heap (locs ++ L) ls (cells + n1) (slots + 6 * n1) (by omega) (by omega) (by rw [e1]; exact hR9) k3 hl
    rw [List.map_append] at K
    obtain ⟨t2, a1, b1⟩ := K T' rfl X'
    have e5 : (v.map (cv ρ)).toList = v.toList.map (cv ρ) := by cases v <;> rfl
    rw [← e5] at a1
    exact ⟨t2, st t2 a1, b1⟩
  · cases hoE
set_option maxHeartbeats 4000000 in
theorem aw_callNX {mi d pc nx : Nat} {loc : List (Option mAV)} {stk : List mAV} {M : mM} {own : String} {ix mj nA : Nat} {as : List mAV} {host : String} {E : String} {M1 : mM} {n1 : Nat} (hd : mD mi pc 3 nx (.invokestatic ix)) (hC : mC mi = own) (hok : mCodeOk mj nA) (hs9 : mSiteN own ix mj host) (hh : mHH mj = []) (hn : as.length = nA) (hlen : (mEntL as).length ≤ mL mj) (h8 : mW8 stk ≤ 8) (hhi : mHH mi = []) (hcall : CT mj d as M (.inr E) M1 n1) : AW mi (d + 1) pc loc (as.reverse ++ stk) M (.inr E) M1 n1 := by
  intro D ρ cA bs LS sa xs p l e R s m args below meth c Q cE sE hF hcE hsE hFin H locs ls cells slots hc hs hRep hS hl
  obtain ⟨hdg, rfl⟩ := hd
  obtain ⟨hx, hb, hml, hown, htab, hlocks, hr, hl0, hfr, hlo, hV, hH, hLS⟩ := id hF
  rw [hC] at hown
  have hM := ct_met (l := l) (D := D) (ρ := ρ) (cA := cA) (bs := bs) (LS := LS) (sa := sa) (xs := xs) hl0 hLS hok hlen hcall
  have hw : mCodeW mj = Cond.code (mY mj) (mB mj) (mL mj) (mR mj) := by unfold mCodeW; rw [if_pos hh]
  have hcb : (Cond.code (mY mj) (mB mj) (mL mj) (mR mj)).before args s = true := by
    have h1 := hok.1
    rw [if_pos hh] at h1
    exact hV.w h1 rfl
  have hRun : vx_Run p l e R s m args below meth c H locs cells slots n1 (6 * n1) (F0 m pc ls ((as.reverse ++ stk).map (cv ρ))) (stk.map (cv ρ)) (mQc D ρ cA bs LS xs (.inr E) M1 (as.map (cv ρ)).toArray) (mXC D ρ cA bs LS xs (.inr E) M1) (mA0 bs) := vx_runSN (host := host) (As := as.map (cv ρ)) (rest := stk.map (cv ρ)) (H := H) (locs := locs) (cells := cells) (slots := slots) (g := F0 m pc ls ((as.reverse ++ stk).map (cv ρ))) (Ts := []) (index := ix) (n := nA) ⟨hx, hb, hml, hown, fun _ h => nomatch h⟩ hM ⟨⟨⟨rfl, rfl, hfr, by show 8 + (mL mj + 11) + 40 * d ≤ R.locals; have := hok.2.2.2.2.2; omega, fun w hw9 a' U hW => by rw [List.mem_singleton.mp hw9, hw]; exact word_at hW (Or.inl rfl) hcb, by rw [hw]; exact List.mem_cons_self⟩, hcb, hV.w hok.2.1 rfl, hok.2.2.2.1, fun sig hs => by have h5 := hok.2.2.2.2.1; rw [hs] at h5; exact (Option.some.inj h5).symm, hV.w hs9.1 rfl⟩, hV.w hs9.2 rfl, trivial⟩ ⟨mPc_blind, mPc_at (as := as) hV hH hS hRep⟩ rfl (by rw [List.length_map]; exact hn) hl.1 (by simp; try rfl) (lv_room (cv_sum8 h8)) hdg ⟨by omega, by omega⟩
  intro T hT X
  rcases hRun T hT X with ⟨v9, st₀, t, T', L, h0, X', hL, e1, e2, ⟨⟨v8, hv8, hv9⟩, hR9, hF9⟩, st⟩ | ⟨q, st₀, t, T', L, E9, ce, h0, X', hL, e1, e2, ⟨hoE, hR9, hF9⟩, hce, hcv, hcl, st⟩
  · cases hv8
  · cases hoE
    obtain ⟨k1, k2, k3⟩ := vx_keep h0 e1 hS (fun _ _ h => h) (fun _ h => h) hL hF9
    have K := hFin T'.heap (locs ++ L) ls pc (stk.map (cv ρ)) q ce (by rw [htab, hhi]; intro x hx9; cases hx9) (by rw [e1]; exact hR9) k3 (by rw [e1]; exact hce) hcv hcl
    obtain ⟨t2, a1, b1⟩ := (vx_widen (by omega) (by omega) K) T' rfl X'
    exact ⟨t2, st.trans a1, b1⟩
theorem aw_callVg0 {mi d pc nx : Nat} {loc : List (Option mAV)} {stk : List mAV} {M : mM} {own : String} {ix mj : Nat} {a b c0 : Nat} {o : mOut} {v : Option mAV} {M1 M2 : mM} {n1 n2 : Nat} (hd : mD mi pc 3 nx (.invokevirtual ix)) (hC : mC mi = own) (hok : mCodeOk mj 0) (hs9 : mSiteV own ix mj) (hh : mHH mj = []) (ho : mOk (a, b, c0)) (ha : a < 7) (hCn : [RX0, RX1, RX2, RX3, RX4, RX5, RX6].getD a "" = (mY mj).cls) (hlen : (mEntL [vR a b c0]).length ≤ mL mj) (h8 : mW8 stk ≤ 8) (hcall : CT mj d [vR a b c0] M (.inl v) M1 n1) (kk : AW mi (d + 1) nx loc (v.toList ++ stk) M1 o M2 n2) : AW mi (d + 1) pc loc (vR a b c0 :: stk) M o M2 (n1 + n2) := aw_callV (as := []) hd hC hok hs9 hh ho ha hCn rfl hlen h8 hcall kk
theorem aw_callV0 {mi d pc nx : Nat} {loc : List (Option mAV)} {stk : List mAV} {M : mM} {own : String} {ix mj : Nat} {a b c0 : Nat} {o : mOut} {v : mAV} {M1 M2 : mM} {n2 : Nat} (hd : mD mi pc 3 nx (.invokevirtual ix)) (hC : mC mi = own) (hok : mCodeOk mj 0) (hs9 : mSiteV own ix mj) (hh : mHH mj = []) (ho : mOk (a, b, c0)) (ha : a < 7) (hCn : [RX0, RX1, RX2, RX3, RX4, RX5, RX6].getD a "" = (mY mj).cls) (hlen : (mEntL [vR a b c0]).length ≤ mL mj) (h8 : mW8 stk ≤ 8) (hcall : CT mj d [vR a b c0] M (.inl (some v)) M1 0) (kk : AW mi (d + 1) nx loc (v :: stk) M1 o M2 n2) : AW mi (d + 1) pc loc (vR a b c0 :: stk) M o M2 n2 := Nat.zero_add n2 ▸ aw_callVg0 hd hC hok hs9 hh ho ha hCn hlen h8 hcall kk
theorem aw_callV0v {mi d pc nx : Nat} {loc : List (Option mAV)} {stk : List mAV} {M : mM} {own : String} {ix mj : Nat} {a b c0 : Nat} {o : mOut} {M1 M2 : mM} {n2 : Nat} (hd : mD mi pc 3 nx (.invokevirtual ix)) (hC : mC mi = own) (hok : mCodeOk mj 0) (hs9 : mSiteV own ix mj) (hh : mHH mj = []) (ho : mOk (a, b, c0)) (ha : a < 7) (hCn : [RX0, RX1, RX2, RX3, RX4, RX5, RX6].getD a "" = (mY mj).cls) (hlen : (mEntL [vR a b c0]).length ≤ mL mj) (h8 : mW8 stk ≤ 8) (hcall : CT mj d [vR a b c0] M (.inl none) M1 0) (kk : AW mi (d + 1) nx loc stk M1 o M2 n2) : AW mi (d + 1) pc loc (vR a b c0 :: stk) M o M2 n2 := Nat.zero_add n2 ▸ aw_callVg0 hd hC hok hs9 hh ho ha hCn hlen h8 hcall kk
theorem aw_callVX0 {mi d pc nx : Nat} {loc : List (Option mAV)} {stk : List mAV} {M : mM} {own : String} {ix mj : Nat} {a b c0 : Nat} {E : String} {M1 : mM} {n1 : Nat} (hd : mD mi pc 3 nx (.invokevirtual ix)) (hC : mC mi = own) (hok : mCodeOk mj 0) (hs9 : mSiteV own ix mj) (hh : mHH mj = []) (ho : mOk (a, b, c0)) (ha : a < 7) (hCn : [RX0, RX1, RX2, RX3, RX4, RX5, RX6].getD a "" = (mY mj).cls) (hlen : (mEntL [vR a b c0]).length ≤ mL mj) (h8 : mW8 stk ≤ 8) (hhi : mHH mi = []) (hcall : CT mj d [vR a b c0] M (.inr E) M1 n1) : AW mi (d + 1) pc loc (vR a b c0 :: stk) M (.inr E) M1 n1 := aw_callVX (as := []) hd hC hok hs9 hh ho ha hCn rfl hlen h8 hhi hcall
theorem aw_callVg1 {mi d pc nx : Nat} {loc : List (Option mAV)} {stk : List mAV} {M : mM} {own : String} {ix mj : Nat} {a b c0 : Nat} {x1 : mAV} {o : mOut} {v : Option mAV} {M1 M2 : mM} {n1 n2 : Nat} (hd : mD mi pc 3 nx (.invokevirtual ix)) (hC : mC mi = own) (hok : mCodeOk mj 1) (hs9 : mSiteV own ix mj) (hh : mHH mj = []) (ho : mOk (a, b, c0)) (ha : a < 7) (hCn : [RX0, RX1, RX2, RX3, RX4, RX5, RX6].getD a "" = (mY mj).cls) (hlen : (mEntL [vR a b c0, x1]).length ≤ mL mj) (h8 : mW8 stk ≤ 8) (hcall : CT mj d [vR a b c0, x1] M (.inl v) M1 n1) (kk : AW mi (d + 1) nx loc (v.toList ++ stk) M1 o M2 n2) : AW mi (d + 1) pc loc (x1 :: vR a b c0 :: stk) M o M2 (n1 + n2) := aw_callV (as := [x1]) hd hC hok hs9 hh ho ha hCn rfl hlen h8 hcall kk
theorem aw_callV1 {mi d pc nx : Nat} {loc : List (Option mAV)} {stk : List mAV} {M : mM} {own : String} {ix mj : Nat} {a b c0 : Nat} {x1 : mAV} {o : mOut} {v : mAV} {M1 M2 : mM} {n2 : Nat} (hd : mD mi pc 3 nx (.invokevirtual ix)) (hC : mC mi = own) (hok : mCodeOk mj 1) (hs9 : mSiteV own ix mj) (hh : mHH mj = []) (ho : mOk (a, b, c0)) (ha : a < 7) (hCn : [RX0, RX1, RX2, RX3, RX4, RX5, RX6].getD a "" = (mY mj).cls) (hlen : (mEntL [vR a b c0, x1]).length ≤ mL mj) (h8 : mW8 stk ≤ 8) (hcall : CT mj d [vR a b c0, x1] M (.inl (some v)) M1 0) (kk : AW mi (d + 1) nx loc (v :: stk) M1 o M2 n2) : AW mi (d + 1) pc loc (x1 :: vR a b c0 :: stk) M o M2 n2 := Nat.zero_add n2 ▸ aw_callVg1 hd hC hok hs9 hh ho ha hCn hlen h8 hcall kk
theorem aw_callV1v {mi d pc nx : Nat} {loc : List (Option mAV)} {stk : List mAV} {M : mM} {own : String} {ix mj : Nat} {a b c0 : Nat} {x1 : mAV} {o : mOut} {M1 M2 : mM} {n2 : Nat} (hd : mD mi pc 3 nx (.invokevirtual ix)) (hC : mC mi = own) (hok : mCodeOk mj 1) (hs9 : mSiteV own ix mj) (hh : mHH mj = []) (ho : mOk (a, b, c0)) (ha : a < 7) (hCn : [RX0, RX1, RX2, RX3, RX4, RX5, RX6].getD a "" = (mY mj).cls) (hlen : (mEntL [vR a b c0, x1]).length ≤ mL mj) (h8 : mW8 stk ≤ 8) (hcall : CT mj d [vR a b c0, x1] M (.inl none) M1 0) (kk : AW mi (d + 1) nx loc stk M1 o M2 n2) : AW mi (d + 1) pc loc (x1 :: vR a b c0 :: stk) M o M2 n2 := Nat.zero_add n2 ▸ aw_callVg1 hd hC hok hs9 hh ho ha hCn hlen h8 hcall kk
theorem aw_callVX1 {mi d pc nx : Nat} {loc : List (Option mAV)} {stk : List mAV} {M : mM} {own : String} {ix mj : Nat} {a b c0 : Nat} {x1 : mAV} {E : String} {M1 : mM} {n1 : Nat} (hd : mD mi pc 3 nx (.invokevirtual ix)) (hC : mC mi = own) (hok : mCodeOk mj 1) (hs9 : mSiteV own ix mj) (hh : mHH mj = []) (ho : mOk (a, b, c0)) (ha : a < 7) (hCn : [RX0, RX1, RX2, RX3, RX4, RX5, RX6].getD a "" = (mY mj).cls) (hlen : (mEntL [vR a b c0, x1]).length ≤ mL mj) (h8 : mW8 stk ≤ 8) (hhi : mHH mi = []) (hcall : CT mj d [vR a b c0, x1] M (.inr E) M1 n1) : AW mi (d + 1) pc loc (x1 :: vR a b c0 :: stk) M (.inr E) M1 n1 := aw_callVX (as := [x1]) hd hC hok hs9 hh ho ha hCn rfl hlen h8 hhi hcall
theorem aw_callVg2 {mi d pc nx : Nat} {loc : List (Option mAV)} {stk : List mAV} {M : mM} {own : String} {ix mj : Nat} {a b c0 : Nat} {x1 x2 : mAV} {o : mOut} {v : Option mAV} {M1 M2 : mM} {n1 n2 : Nat} (hd : mD mi pc 3 nx (.invokevirtual ix)) (hC : mC mi = own) (hok : mCodeOk mj 2) (hs9 : mSiteV own ix mj) (hh : mHH mj = []) (ho : mOk (a, b, c0)) (ha : a < 7) (hCn : [RX0, RX1, RX2, RX3, RX4, RX5, RX6].getD a "" = (mY mj).cls) (hlen : (mEntL [vR a b c0, x1, x2]).length ≤ mL mj) (h8 : mW8 stk ≤ 8) (hcall : CT mj d [vR a b c0, x1, x2] M (.inl v) M1 n1) (kk : AW mi (d + 1) nx loc (v.toList ++ stk) M1 o M2 n2) : AW mi (d + 1) pc loc (x2 :: x1 :: vR a b c0 :: stk) M o M2 (n1 + n2) := aw_callV (as := [x1, x2]) hd hC hok hs9 hh ho ha hCn rfl hlen h8 hcall kk
theorem aw_callV2 {mi d pc nx : Nat} {loc : List (Option mAV)} {stk : List mAV} {M : mM} {own : String} {ix mj : Nat} {a b c0 : Nat} {x1 x2 : mAV} {o : mOut} {v : mAV} {M1 M2 : mM} {n2 : Nat} (hd : mD mi pc 3 nx (.invokevirtual ix)) (hC : mC mi = own) (hok : mCodeOk mj 2) (hs9 : mSiteV own ix mj) (hh : mHH mj = []) (ho : mOk (a, b, c0)) (ha : a < 7) (hCn : [RX0, RX1, RX2, RX3, RX4, RX5, RX6].getD a "" = (mY mj).cls) (hlen : (mEntL [vR a b c0, x1, x2]).length ≤ mL mj) (h8 : mW8 stk ≤ 8) (hcall : CT mj d [vR a b c0, x1, x2] M (.inl (some v)) M1 0) (kk : AW mi (d + 1) nx loc (v :: stk) M1 o M2 n2) : AW mi (d + 1) pc loc (x2 :: x1 :: vR a b c0 :: stk) M o M2 n2 := Nat.zero_add n2 ▸ aw_callVg2 hd hC hok hs9 hh ho ha hCn hlen h8 hcall kk
theorem aw_callV2v {mi d pc nx : Nat} {loc : List (Option mAV)} {stk : List mAV} {M : mM} {own : String} {ix mj : Nat} {a b c0 : Nat} {x1 x2 : mAV} {o : mOut} {M1 M2 : mM} {n2 : Nat} (hd : mD mi pc 3 nx (.invokevirtual ix)) (hC : mC mi = own) (hok : mCodeOk mj 2) (hs9 : mSiteV own ix mj) (hh : mHH mj = []) (ho : mOk (a, b, c0)) (ha : a < 7) (hCn : [RX0, RX1, RX2, RX3, RX4, RX5, RX6].getD a "" = (mY mj).cls) (hlen : (mEntL [vR a b c0, x1, x2]).length ≤ mL mj) (h8 : mW8 stk ≤ 8) (hcall : CT mj d [vR a b c0, x1, x2] M (.inl none) M1 0) (kk : AW mi (d + 1) nx loc stk M1 o M2 n2) : AW mi (d + 1) pc loc (x2 :: x1 :: vR a b c0 :: stk) M o M2 n2 := Nat.zero_add n2 ▸ aw_callVg2 hd hC hok hs9 hh ho ha hCn hlen h8 hcall kk
theorem aw_callVX2 {mi d pc nx : Nat} {loc : List (Option mAV)} {stk : List mAV} {M : mM} {own : String} {ix mj : Nat} {a b c0 : Nat} {x1 x2 : mAV} {E : String} {M1 : mM} {n1 : Nat} (hd : mD mi pc 3 nx (.invokevirtual ix)) (hC : mC mi = own) (hok : mCodeOk mj 2) (hs9 : mSiteV own ix mj) (hh : mHH mj = []) (ho : mOk (a, b, c0)) (ha : a < 7) (hCn : [RX0, RX1, RX2, RX3, RX4, RX5, RX6].getD a "" = (mY mj).cls) (hlen : (mEntL [vR a b c0, x1, x2]).length ≤ mL mj) (h8 : mW8 stk ≤ 8) (hhi : mHH mi = []) (hcall : CT mj d [vR a b c0, x1, x2] M (.inr E) M1 n1) : AW mi (d + 1) pc loc (x2 :: x1 :: vR a b c0 :: stk) M (.inr E) M1 n1 := aw_callVX (as := [x1, x2]) hd hC hok hs9 hh ho ha hCn rfl hlen h8 hhi hcall
theorem aw_callVg3 {mi d pc nx : Nat} {loc : List (Option mAV)} {stk : List mAV} {M : mM} {own : String} {ix mj : Nat} {a b c0 : Nat} {x1 x2 x3 : mAV} {o : mOut} {v : Option mAV} {M1 M2 : mM} {n1 n2 : Nat} (hd : mD mi pc 3 nx (.invokevirtual ix)) (hC : mC mi = own) (hok : mCodeOk mj 3) (hs9 : mSiteV own ix mj) (hh : mHH mj = []) (ho : mOk (a, b, c0)) (ha : a < 7) (hCn : [RX0, RX1, RX2, RX3, RX4, RX5, RX6].getD a "" = (mY mj).cls) (hlen : (mEntL [vR a b c0, x1, x2, x3]).length ≤ mL mj) (h8 : mW8 stk ≤ 8) (hcall : CT mj d [vR a b c0, x1, x2, x3] M (.inl v) M1 n1) (kk : AW mi (d + 1) nx loc (v.toList ++ stk) M1 o M2 n2) : AW mi (d + 1) pc loc (x3 :: x2 :: x1 :: vR a b c0 :: stk) M o M2 (n1 + n2) := aw_callV (as := [x1, x2, x3]) hd hC hok hs9 hh ho ha hCn rfl hlen h8 hcall kk
theorem aw_callV3 {mi d pc nx : Nat} {loc : List (Option mAV)} {stk : List mAV} {M : mM} {own : String} {ix mj : Nat} {a b c0 : Nat} {x1 x2 x3 : mAV} {o : mOut} {v : mAV} {M1 M2 : mM} {n2 : Nat} (hd : mD mi pc 3 nx (.invokevirtual ix)) (hC : mC mi = own) (hok : mCodeOk mj 3) (hs9 : mSiteV own ix mj) (hh : mHH mj = []) (ho : mOk (a, b, c0)) (ha : a < 7) (hCn : [RX0, RX1, RX2, RX3, RX4, RX5, RX6].getD a "" = (mY mj).cls) (hlen : (mEntL [vR a b c0, x1, x2, x3]).length ≤ mL mj) (h8 : mW8 stk ≤ 8) (hcall : CT mj d [vR a b c0, x1, x2, x3] M (.inl (some v)) M1 0) (kk : AW mi (d + 1) nx loc (v :: stk) M1 o M2 n2) : AW mi (d + 1) pc loc (x3 :: x2 :: x1 :: vR a b c0 :: stk) M o M2 n2 := Nat.zero_add n2 ▸ aw_callVg3 hd hC hok hs9 hh ho ha hCn hlen h8 hcall kk
theorem aw_callV3v {mi d pc nx : Nat} {loc : List (Option mAV)} {stk : List mAV} {M : mM} {own : String} {ix mj : Nat} {a b c0 : Nat} {x1 x2 x3 : mAV} {o : mOut} {M1 M2 : mM} {n2 : Nat} (hd : mD mi pc 3 nx (.invokevirtual ix)) (hC : mC mi = own) (hok : mCodeOk mj 3) (hs9 : mSiteV own ix mj) (hh : mHH mj = []) (ho : mOk (a, b, c0)) (ha : a < 7) (hCn : [RX0, RX1, RX2, RX3, RX4, RX5, RX6].getD a "" = (mY mj).cls) (hlen : (mEntL [vR a b c0, x1, x2, x3]).length ≤ mL mj) (h8 : mW8 stk ≤ 8) (hcall : CT mj d [vR a b c0, x1, x2, x3] M (.inl none) M1 0) (kk : AW mi (d + 1) nx loc stk M1 o M2 n2) : AW mi (d + 1) pc loc (x3 :: x2 :: x1 :: vR a b c0 :: stk) M o M2 n2 := Nat.zero_add n2 ▸ aw_callVg3 hd hC hok hs9 hh ho ha hCn hlen h8 hcall kk
theorem aw_callVX3 {mi d pc nx : Nat} {loc : List (Option mAV)} {stk : List mAV} {M : mM} {own : String} {ix mj : Nat} {a b c0 : Nat} {x1 x2 x3 : mAV} {E : String} {M1 : mM} {n1 : Nat} (hd : mD mi pc 3 nx (.invokevirtual ix)) (hC : mC mi = own) (hok : mCodeOk mj 3) (hs9 : mSiteV own ix mj) (hh : mHH mj = []) (ho : mOk (a, b, c0)) (ha : a < 7) (hCn : [RX0, RX1, RX2, RX3, RX4, RX5, RX6].getD a "" = (mY mj).cls) (hlen : (mEntL [vR a b c0, x1, x2, x3]).length ≤ mL mj) (h8 : mW8 stk ≤ 8) (hhi : mHH mi = []) (hcall : CT mj d [vR a b c0, x1, x2, x3] M (.inr E) M1 n1) : AW mi (d + 1) pc loc (x3 :: x2 :: x1 :: vR a b c0 :: stk) M (.inr E) M1 n1 := aw_callVX (as := [x1, x2, x3]) hd hC hok hs9 hh ho ha hCn rfl hlen h8 hhi hcall
theorem aw_callVg4 {mi d pc nx : Nat} {loc : List (Option mAV)} {stk : List mAV} {M : mM} {own : String} {ix mj : Nat} {a b c0 : Nat} {x1 x2 x3 x4 : mAV} {o : mOut} {v : Option mAV} {M1 M2 : mM} {n1 n2 : Nat} (hd : mD mi pc 3 nx (.invokevirtual ix)) (hC : mC mi = own) (hok : mCodeOk mj 4) (hs9 : mSiteV own ix mj) (hh : mHH mj = []) (ho : mOk (a, b, c0)) (ha : a < 7) (hCn : [RX0, RX1, RX2, RX3, RX4, RX5, RX6].getD a "" = (mY mj).cls) (hlen : (mEntL [vR a b c0, x1, x2, x3, x4]).length ≤ mL mj) (h8 : mW8 stk ≤ 8) (hcall : CT mj d [vR a b c0, x1, x2, x3, x4] M (.inl v) M1 n1) (kk : AW mi (d + 1) nx loc (v.toList ++ stk) M1 o M2 n2) : AW mi (d + 1) pc loc (x4 :: x3 :: x2 :: x1 :: vR a b c0 :: stk) M o M2 (n1 + n2) := aw_callV (as := [x1, x2, x3, x4]) hd hC hok hs9 hh ho ha hCn rfl hlen h8 hcall kk
theorem aw_callV4 {mi d pc nx : Nat} {loc : List (Option mAV)} {stk : List mAV} {M : mM} {own : String} {ix mj : Nat} {a b c0 : Nat} {x1 x2 x3 x4 : mAV} {o : mOut} {v : mAV} {M1 M2 : mM} {n2 : Nat} (hd : mD mi pc 3 nx (.invokevirtual ix)) (hC : mC mi = own) (hok : mCodeOk mj 4) (hs9 : mSiteV own ix mj) (hh : mHH mj = []) (ho : mOk (a, b, c0)) (ha : a < 7) (hCn : [RX0, RX1, RX2, RX3, RX4, RX5, RX6].getD a "" = (mY mj).cls) (hlen : (mEntL [vR a b c0, x1, x2, x3, x4]).length ≤ mL mj) (h8 : mW8 stk ≤ 8) (hcall : CT mj d [vR a b c0, x1, x2, x3, x4] M (.inl (some v)) M1 0) (kk : AW mi (d + 1) nx loc (v :: stk) M1 o M2 n2) : AW mi (d + 1) pc loc (x4 :: x3 :: x2 :: x1 :: vR a b c0 :: stk) M o M2 n2 := Nat.zero_add n2 ▸ aw_callVg4 hd hC hok hs9 hh ho ha hCn hlen h8 hcall kk
theorem aw_callV4v {mi d pc nx : Nat} {loc : List (Option mAV)} {stk : List mAV} {M : mM} {own : String} {ix mj : Nat} {a b c0 : Nat} {x1 x2 x3 x4 : mAV} {o : mOut} {M1 M2 : mM} {n2 : Nat} (hd : mD mi pc 3 nx (.invokevirtual ix)) (hC : mC mi = own) (hok : mCodeOk mj 4) (hs9 : mSiteV own ix mj) (hh : mHH mj = []) (ho : mOk (a, b, c0)) (ha : a < 7) (hCn : [RX0, RX1, RX2, RX3, RX4, RX5, RX6].getD a "" = (mY mj).cls) (hlen : (mEntL [vR a b c0, x1, x2, x3, x4]).length ≤ mL mj) (h8 : mW8 stk ≤ 8) (hcall : CT mj d [vR a b c0, x1, x2, x3, x4] M (.inl none) M1 0) (kk : AW mi (d + 1) nx loc stk M1 o M2 n2) : AW mi (d + 1) pc loc (x4 :: x3 :: x2 :: x1 :: vR a b c0 :: stk) M o M2 n2 := Nat.zero_add n2 ▸ aw_callVg4 hd hC hok hs9 hh ho ha hCn hlen h8 hcall kk
theorem aw_callVX4 {mi d pc nx : Nat} {loc : List (Option mAV)} {stk : List mAV} {M : mM} {own : String} {ix mj : Nat} {a b c0 : Nat} {x1 x2 x3 x4 : mAV} {E : String} {M1 : mM} {n1 : Nat} (hd : mD mi pc 3 nx (.invokevirtual ix)) (hC : mC mi = own) (hok : mCodeOk mj 4) (hs9 : mSiteV own ix mj) (hh : mHH mj = []) (ho : mOk (a, b, c0)) (ha : a < 7) (hCn : [RX0, RX1, RX2, RX3, RX4, RX5, RX6].getD a "" = (mY mj).cls) (hlen : (mEntL [vR a b c0, x1, x2, x3, x4]).length ≤ mL mj) (h8 : mW8 stk ≤ 8) (hhi : mHH mi = []) (hcall : CT mj d [vR a b c0, x1, x2, x3, x4] M (.inr E) M1 n1) : AW mi (d + 1) pc loc (x4 :: x3 :: x2 :: x1 :: vR a b c0 :: stk) M (.inr E) M1 n1 := aw_callVX (as := [x1, x2, x3, x4]) hd hC hok hs9 hh ho ha hCn rfl hlen h8 hhi hcall
theorem aw_callVg5 {mi d pc nx : Nat} {loc : List (Option mAV)} {stk : List mAV} {M : mM} {own : String} {ix mj : Nat} {a b c0 : Nat} {x1 x2 x3 x4 x5 : mAV} {o : mOut} {v : Option mAV} {M1 M2 : mM} {n1 n2 : Nat} (hd : mD mi pc 3 nx (.invokevirtual ix)) (hC : mC mi = own) (hok : mCodeOk mj 5) (hs9 : mSiteV own ix mj) (hh : mHH mj = []) (ho : mOk (a, b, c0)) (ha : a < 7) (hCn : [RX0, RX1, RX2, RX3, RX4, RX5, RX6].getD a "" = (mY mj).cls) (hlen : (mEntL [vR a b c0, x1, x2, x3, x4, x5]).length ≤ mL mj) (h8 : mW8 stk ≤ 8) (hcall : CT mj d [vR a b c0, x1, x2, x3, x4, x5] M (.inl v) M1 n1) (kk : AW mi (d + 1) nx loc (v.toList ++ stk) M1 o M2 n2) : AW mi (d + 1) pc loc (x5 :: x4 :: x3 :: x2 :: x1 :: vR a b c0 :: stk) M o M2 (n1 + n2) := aw_callV (as := [x1, x2, x3, x4, x5]) hd hC hok hs9 hh ho ha hCn rfl hlen h8 hcall kk
theorem aw_callV5 {mi d pc nx : Nat} {loc : List (Option mAV)} {stk : List mAV} {M : mM} {own : String} {ix mj : Nat} {a b c0 : Nat} {x1 x2 x3 x4 x5 : mAV} {o : mOut} {v : mAV} {M1 M2 : mM} {n2 : Nat} (hd : mD mi pc 3 nx (.invokevirtual ix)) (hC : mC mi = own) (hok : mCodeOk mj 5) (hs9 : mSiteV own ix mj) (hh : mHH mj = []) (ho : mOk (a, b, c0)) (ha : a < 7) (hCn : [RX0, RX1, RX2, RX3, RX4, RX5, RX6].getD a "" = (mY mj).cls) (hlen : (mEntL [vR a b c0, x1, x2, x3, x4, x5]).length ≤ mL mj) (h8 : mW8 stk ≤ 8) (hcall : CT mj d [vR a b c0, x1, x2, x3, x4, x5] M (.inl (some v)) M1 0) (kk : AW mi (d + 1) nx loc (v :: stk) M1 o M2 n2) : AW mi (d + 1) pc loc (x5 :: x4 :: x3 :: x2 :: x1 :: vR a b c0 :: stk) M o M2 n2 := Nat.zero_add n2 ▸ aw_callVg5 hd hC hok hs9 hh ho ha hCn hlen h8 hcall kk
theorem aw_callV5v {mi d pc nx : Nat} {loc : List (Option mAV)} {stk : List mAV} {M : mM} {own : String} {ix mj : Nat} {a b c0 : Nat} {x1 x2 x3 x4 x5 : mAV} {o : mOut} {M1 M2 : mM} {n2 : Nat} (hd : mD mi pc 3 nx (.invokevirtual ix)) (hC : mC mi = own) (hok : mCodeOk mj 5) (hs9 : mSiteV own ix mj) (hh : mHH mj = []) (ho : mOk (a, b, c0)) (ha : a < 7) (hCn : [RX0, RX1, RX2, RX3, RX4, RX5, RX6].getD a "" = (mY mj).cls) (hlen : (mEntL [vR a b c0, x1, x2, x3, x4, x5]).length ≤ mL mj) (h8 : mW8 stk ≤ 8) (hcall : CT mj d [vR a b c0, x1, x2, x3, x4, x5] M (.inl none) M1 0) (kk : AW mi (d + 1) nx loc stk M1 o M2 n2) : AW mi (d + 1) pc loc (x5 :: x4 :: x3 :: x2 :: x1 :: vR a b c0 :: stk) M o M2 n2 := Nat.zero_add n2 ▸ aw_callVg5 hd hC hok hs9 hh ho ha hCn hlen h8 hcall kk
theorem aw_callVX5 {mi d pc nx : Nat} {loc : List (Option mAV)} {stk : List mAV} {M : mM} {own : String} {ix mj : Nat} {a b c0 : Nat} {x1 x2 x3 x4 x5 : mAV} {E : String} {M1 : mM} {n1 : Nat} (hd : mD mi pc 3 nx (.invokevirtual ix)) (hC : mC mi = own) (hok : mCodeOk mj 5) (hs9 : mSiteV own ix mj) (hh : mHH mj = []) (ho : mOk (a, b, c0)) (ha : a < 7) (hCn : [RX0, RX1, RX2, RX3, RX4, RX5, RX6].getD a "" = (mY mj).cls) (hlen : (mEntL [vR a b c0, x1, x2, x3, x4, x5]).length ≤ mL mj) (h8 : mW8 stk ≤ 8) (hhi : mHH mi = []) (hcall : CT mj d [vR a b c0, x1, x2, x3, x4, x5] M (.inr E) M1 n1) : AW mi (d + 1) pc loc (x5 :: x4 :: x3 :: x2 :: x1 :: vR a b c0 :: stk) M (.inr E) M1 n1 := aw_callVX (as := [x1, x2, x3, x4, x5]) hd hC hok hs9 hh ho ha hCn rfl hlen h8 hhi hcall
theorem aw_callSg0 {mi d pc nx : Nat} {loc : List (Option mAV)} {stk : List mAV} {M : mM} {own : String} {ix mj : Nat} {o : mOut} {v : Option mAV} {M1 M2 : mM} {n1 n2 : Nat} (hd : mD mi pc 3 nx (.invokestatic ix)) (hC : mC mi = own) (hok : mCodeOk mj 0) (hs9 : mSiteS own ix mj) (hh : mHH mj = []) (hlen : (mEntL []).length ≤ mL mj) (h8 : mW8 stk ≤ 8) (hcall : CT mj d [] M (.inl v) M1 n1) (kk : AW mi (d + 1) nx loc (v.toList ++ stk) M1 o M2 n2) : AW mi (d + 1) pc loc (stk) M o M2 (n1 + n2) := aw_callS (as := []) hd hC hok hs9 hh rfl hlen h8 hcall kk
theorem aw_callS0 {mi d pc nx : Nat} {loc : List (Option mAV)} {stk : List mAV} {M : mM} {own : String} {ix mj : Nat} {o : mOut} {v : mAV} {M1 M2 : mM} {n2 : Nat} (hd : mD mi pc 3 nx (.invokestatic ix)) (hC : mC mi = own) (hok : mCodeOk mj 0) (hs9 : mSiteS own ix mj) (hh : mHH mj = []) (hlen : (mEntL []).length ≤ mL mj) (h8 : mW8 stk ≤ 8) (hcall : CT mj d [] M (.inl (some v)) M1 0) (kk : AW mi (d + 1) nx loc (v :: stk) M1 o M2 n2) : AW mi (d + 1) pc loc (stk) M o M2 n2 := Nat.zero_add n2 ▸ aw_callSg0 hd hC hok hs9 hh hlen h8 hcall kk
theorem aw_callS0v {mi d pc nx : Nat} {loc : List (Option mAV)} {stk : List mAV} {M : mM} {own : String} {ix mj : Nat} {o : mOut} {M1 M2 : mM} {n2 : Nat} (hd : mD mi pc 3 nx (.invokestatic ix)) (hC : mC mi = own) (hok : mCodeOk mj 0) (hs9 : mSiteS own ix mj) (hh : mHH mj = []) (hlen : (mEntL []).length ≤ mL mj) (h8 : mW8 stk ≤ 8) (hcall : CT mj d [] M (.inl none) M1 0) (kk : AW mi (d + 1) nx loc stk M1 o M2 n2) : AW mi (d + 1) pc loc (stk) M o M2 n2 := Nat.zero_add n2 ▸ aw_callSg0 hd hC hok hs9 hh hlen h8 hcall kk
theorem aw_callSX0 {mi d pc nx : Nat} {loc : List (Option mAV)} {stk : List mAV} {M : mM} {own : String} {ix mj : Nat} {E : String} {M1 : mM} {n1 : Nat} (hd : mD mi pc 3 nx (.invokestatic ix)) (hC : mC mi = own) (hok : mCodeOk mj 0) (hs9 : mSiteS own ix mj) (hh : mHH mj = []) (hlen : (mEntL []).length ≤ mL mj) (h8 : mW8 stk ≤ 8) (hhi : mHH mi = []) (hcall : CT mj d [] M (.inr E) M1 n1) : AW mi (d + 1) pc loc (stk) M (.inr E) M1 n1 := aw_callSX (as := []) hd hC hok hs9 hh rfl hlen h8 hhi hcall
theorem aw_callSg1 {mi d pc nx : Nat} {loc : List (Option mAV)} {stk : List mAV} {M : mM} {own : String} {ix mj : Nat} {x1 : mAV} {o : mOut} {v : Option mAV} {M1 M2 : mM} {n1 n2 : Nat} (hd : mD mi pc 3 nx (.invokestatic ix)) (hC : mC mi = own) (hok : mCodeOk mj 1) (hs9 : mSiteS own ix mj) (hh : mHH mj = []) (hlen : (mEntL [x1]).length ≤ mL mj) (h8 : mW8 stk ≤ 8) (hcall : CT mj d [x1] M (.inl v) M1 n1) (kk : AW mi (d + 1) nx loc (v.toList ++ stk) M1 o M2 n2) : AW mi (d + 1) pc loc (x1 :: stk) M o M2 (n1 + n2) := aw_callS (as := [x1]) hd hC hok hs9 hh rfl hlen h8 hcall kk
theorem aw_callS1 {mi d pc nx : Nat} {loc : List (Option mAV)} {stk : List mAV} {M : mM} {own : String} {ix mj : Nat} {x1 : mAV} {o : mOut} {v : mAV} {M1 M2 : mM} {n2 : Nat} (hd : mD mi pc 3 nx (.invokestatic ix)) (hC : mC mi = own) (hok : mCodeOk mj 1) (hs9 : mSiteS own ix mj) (hh : mHH mj = []) (hlen : (mEntL [x1]).length ≤ mL mj) (h8 : mW8 stk ≤ 8) (hcall : CT mj d [x1] M (.inl (some v)) M1 0) (kk : AW mi (d + 1) nx loc (v :: stk) M1 o M2 n2) : AW mi (d + 1) pc loc (x1 :: stk) M o M2 n2 := Nat.zero_add n2 ▸ aw_callSg1 hd hC hok hs9 hh hlen h8 hcall kk
theorem aw_callS1v {mi d pc nx : Nat} {loc : List (Option mAV)} {stk : List mAV} {M : mM} {own : String} {ix mj : Nat} {x1 : mAV} {o : mOut} {M1 M2 : mM} {n2 : Nat} (hd : mD mi pc 3 nx (.invokestatic ix)) (hC : mC mi = own) (hok : mCodeOk mj 1) (hs9 : mSiteS own ix mj) (hh : mHH mj = []) (hlen : (mEntL [x1]).length ≤ mL mj) (h8 : mW8 stk ≤ 8) (hcall : CT mj d [x1] M (.inl none) M1 0) (kk : AW mi (d + 1) nx loc stk M1 o M2 n2) : AW mi (d + 1) pc loc (x1 :: stk) M o M2 n2 := Nat.zero_add n2 ▸ aw_callSg1 hd hC hok hs9 hh hlen h8 hcall kk
theorem aw_callSX1 {mi d pc nx : Nat} {loc : List (Option mAV)} {stk : List mAV} {M : mM} {own : String} {ix mj : Nat} {x1 : mAV} {E : String} {M1 : mM} {n1 : Nat} (hd : mD mi pc 3 nx (.invokestatic ix)) (hC : mC mi = own) (hok : mCodeOk mj 1) (hs9 : mSiteS own ix mj) (hh : mHH mj = []) (hlen : (mEntL [x1]).length ≤ mL mj) (h8 : mW8 stk ≤ 8) (hhi : mHH mi = []) (hcall : CT mj d [x1] M (.inr E) M1 n1) : AW mi (d + 1) pc loc (x1 :: stk) M (.inr E) M1 n1 := aw_callSX (as := [x1]) hd hC hok hs9 hh rfl hlen h8 hhi hcall
theorem aw_callSg2 {mi d pc nx : Nat} {loc : List (Option mAV)} {stk : List mAV} {M : mM} {own : String} {ix mj : Nat} {x1 x2 : mAV} {o : mOut} {v : Option mAV} {M1 M2 : mM} {n1 n2 : Nat} (hd : mD mi pc 3 nx (.invokestatic ix)) (hC : mC mi = own) (hok : mCodeOk mj 2) (hs9 : mSiteS own ix mj) (hh : mHH mj = []) (hlen : (mEntL [x1, x2]).length ≤ mL mj) (h8 : mW8 stk ≤ 8) (hcall : CT mj d [x1, x2] M (.inl v) M1 n1) (kk : AW mi (d + 1) nx loc (v.toList ++ stk) M1 o M2 n2) : AW mi (d + 1) pc loc (x2 :: x1 :: stk) M o M2 (n1 + n2) := aw_callS (as := [x1, x2]) hd hC hok hs9 hh rfl hlen h8 hcall kk
theorem aw_callS2 {mi d pc nx : Nat} {loc : List (Option mAV)} {stk : List mAV} {M : mM} {own : String} {ix mj : Nat} {x1 x2 : mAV} {o : mOut} {v : mAV} {M1 M2 : mM} {n2 : Nat} (hd : mD mi pc 3 nx (.invokestatic ix)) (hC : mC mi = own) (hok : mCodeOk mj 2) (hs9 : mSiteS own ix mj) (hh : mHH mj = []) (hlen : (mEntL [x1, x2]).length ≤ mL mj) (h8 : mW8 stk ≤ 8) (hcall : CT mj d [x1, x2] M (.inl (some v)) M1 0) (kk : AW mi (d + 1) nx loc (v :: stk) M1 o M2 n2) : AW mi (d + 1) pc loc (x2 :: x1 :: stk) M o M2 n2 := Nat.zero_add n2 ▸ aw_callSg2 hd hC hok hs9 hh hlen h8 hcall kk
theorem aw_callS2v {mi d pc nx : Nat} {loc : List (Option mAV)} {stk : List mAV} {M : mM} {own : String} {ix mj : Nat} {x1 x2 : mAV} {o : mOut} {M1 M2 : mM} {n2 : Nat} (hd : mD mi pc 3 nx (.invokestatic ix)) (hC : mC mi = own) (hok : mCodeOk mj 2) (hs9 : mSiteS own ix mj) (hh : mHH mj = []) (hlen : (mEntL [x1, x2]).length ≤ mL mj) (h8 : mW8 stk ≤ 8) (hcall : CT mj d [x1, x2] M (.inl none) M1 0) (kk : AW mi (d + 1) nx loc stk M1 o M2 n2) : AW mi (d + 1) pc loc (x2 :: x1 :: stk) M o M2 n2 := Nat.zero_add n2 ▸ aw_callSg2 hd hC hok hs9 hh hlen h8 hcall kk
theorem aw_callSX2 {mi d pc nx : Nat} {loc : List (Option mAV)} {stk : List mAV} {M : mM} {own : String} {ix mj : Nat} {x1 x2 : mAV} {E : String} {M1 : mM} {n1 : Nat} (hd : mD mi pc 3 nx (.invokestatic ix)) (hC : mC mi = own) (hok : mCodeOk mj 2) (hs9 : mSiteS own ix mj) (hh : mHH mj = []) (hlen : (mEntL [x1, x2]).length ≤ mL mj) (h8 : mW8 stk ≤ 8) (hhi : mHH mi = []) (hcall : CT mj d [x1, x2] M (.inr E) M1 n1) : AW mi (d + 1) pc loc (x2 :: x1 :: stk) M (.inr E) M1 n1 := aw_callSX (as := [x1, x2]) hd hC hok hs9 hh rfl hlen h8 hhi hcall
theorem aw_callSg3 {mi d pc nx : Nat} {loc : List (Option mAV)} {stk : List mAV} {M : mM} {own : String} {ix mj : Nat} {x1 x2 x3 : mAV} {o : mOut} {v : Option mAV} {M1 M2 : mM} {n1 n2 : Nat} (hd : mD mi pc 3 nx (.invokestatic ix)) (hC : mC mi = own) (hok : mCodeOk mj 3) (hs9 : mSiteS own ix mj) (hh : mHH mj = []) (hlen : (mEntL [x1, x2, x3]).length ≤ mL mj) (h8 : mW8 stk ≤ 8) (hcall : CT mj d [x1, x2, x3] M (.inl v) M1 n1) (kk : AW mi (d + 1) nx loc (v.toList ++ stk) M1 o M2 n2) : AW mi (d + 1) pc loc (x3 :: x2 :: x1 :: stk) M o M2 (n1 + n2) := aw_callS (as := [x1, x2, x3]) hd hC hok hs9 hh rfl hlen h8 hcall kk
theorem aw_callS3 {mi d pc nx : Nat} {loc : List (Option mAV)} {stk : List mAV} {M : mM} {own : String} {ix mj : Nat} {x1 x2 x3 : mAV} {o : mOut} {v : mAV} {M1 M2 : mM} {n2 : Nat} (hd : mD mi pc 3 nx (.invokestatic ix)) (hC : mC mi = own) (hok : mCodeOk mj 3) (hs9 : mSiteS own ix mj) (hh : mHH mj = []) (hlen : (mEntL [x1, x2, x3]).length ≤ mL mj) (h8 : mW8 stk ≤ 8) (hcall : CT mj d [x1, x2, x3] M (.inl (some v)) M1 0) (kk : AW mi (d + 1) nx loc (v :: stk) M1 o M2 n2) : AW mi (d + 1) pc loc (x3 :: x2 :: x1 :: stk) M o M2 n2 := Nat.zero_add n2 ▸ aw_callSg3 hd hC hok hs9 hh hlen h8 hcall kk
theorem aw_callS3v {mi d pc nx : Nat} {loc : List (Option mAV)} {stk : List mAV} {M : mM} {own : String} {ix mj : Nat} {x1 x2 x3 : mAV} {o : mOut} {M1 M2 : mM} {n2 : Nat} (hd : mD mi pc 3 nx (.invokestatic ix)) (hC : mC mi = own) (hok : mCodeOk mj 3) (hs9 : mSiteS own ix mj) (hh : mHH mj = []) (hlen : (mEntL [x1, x2, x3]).length ≤ mL mj) (h8 : mW8 stk ≤ 8) (hcall : CT mj d [x1, x2, x3] M (.inl none) M1 0) (kk : AW mi (d + 1) nx loc stk M1 o M2 n2) : AW mi (d + 1) pc loc (x3 :: x2 :: x1 :: stk) M o M2 n2 := Nat.zero_add n2 ▸ aw_callSg3 hd hC hok hs9 hh hlen h8 hcall kk
theorem aw_callSX3 {mi d pc nx : Nat} {loc : List (Option mAV)} {stk : List mAV} {M : mM} {own : String} {ix mj : Nat} {x1 x2 x3 : mAV} {E : String} {M1 : mM} {n1 : Nat} (hd : mD mi pc 3 nx (.invokestatic ix)) (hC : mC mi = own) (hok : mCodeOk mj 3) (hs9 : mSiteS own ix mj) (hh : mHH mj = []) (hlen : (mEntL [x1, x2, x3]).length ≤ mL mj) (h8 : mW8 stk ≤ 8) (hhi : mHH mi = []) (hcall : CT mj d [x1, x2, x3] M (.inr E) M1 n1) : AW mi (d + 1) pc loc (x3 :: x2 :: x1 :: stk) M (.inr E) M1 n1 := aw_callSX (as := [x1, x2, x3]) hd hC hok hs9 hh rfl hlen h8 hhi hcall
theorem aw_callSg4 {mi d pc nx : Nat} {loc : List (Option mAV)} {stk : List mAV} {M : mM} {own : String} {ix mj : Nat} {x1 x2 x3 x4 : mAV} {o : mOut} {v : Option mAV} {M1 M2 : mM} {n1 n2 : Nat} (hd : mD mi pc 3 nx (.invokestatic ix)) (hC : mC mi = own) (hok : mCodeOk mj 4) (hs9 : mSiteS own ix mj) (hh : mHH mj = []) (hlen : (mEntL [x1, x2, x3, x4]).length ≤ mL mj) (h8 : mW8 stk ≤ 8) (hcall : CT mj d [x1, x2, x3, x4] M (.inl v) M1 n1) (kk : AW mi (d + 1) nx loc (v.toList ++ stk) M1 o M2 n2) : AW mi (d + 1) pc loc (x4 :: x3 :: x2 :: x1 :: stk) M o M2 (n1 + n2) := aw_callS (as := [x1, x2, x3, x4]) hd hC hok hs9 hh rfl hlen h8 hcall kk
theorem aw_callS4 {mi d pc nx : Nat} {loc : List (Option mAV)} {stk : List mAV} {M : mM} {own : String} {ix mj : Nat} {x1 x2 x3 x4 : mAV} {o : mOut} {v : mAV} {M1 M2 : mM} {n2 : Nat} (hd : mD mi pc 3 nx (.invokestatic ix)) (hC : mC mi = own) (hok : mCodeOk mj 4) (hs9 : mSiteS own ix mj) (hh : mHH mj = []) (hlen : (mEntL [x1, x2, x3, x4]).length ≤ mL mj) (h8 : mW8 stk ≤ 8) (hcall : CT mj d [x1, x2, x3, x4] M (.inl (some v)) M1 0) (kk : AW mi (d + 1) nx loc (v :: stk) M1 o M2 n2) : AW mi (d + 1) pc loc (x4 :: x3 :: x2 :: x1 :: stk) M o M2 n2 := Nat.zero_add n2 ▸ aw_callSg4 hd hC hok hs9 hh hlen h8 hcall kk
theorem aw_callS4v {mi d pc nx : Nat} {loc : List (Option mAV)} {stk : List mAV} {M : mM} {own : String} {ix mj : Nat} {x1 x2 x3 x4 : mAV} {o : mOut} {M1 M2 : mM} {n2 : Nat} (hd : mD mi pc 3 nx (.invokestatic ix)) (hC : mC mi = own) (hok : mCodeOk mj 4) (hs9 : mSiteS own ix mj) (hh : mHH mj = []) (hlen : (mEntL [x1, x2, x3, x4]).length ≤ mL mj) (h8 : mW8 stk ≤ 8) (hcall : CT mj d [x1, x2, x3, x4] M (.inl none) M1 0) (kk : AW mi (d + 1) nx loc stk M1 o M2 n2) : AW mi (d + 1) pc loc (x4 :: x3 :: x2 :: x1 :: stk) M o M2 n2 := Nat.zero_add n2 ▸ aw_callSg4 hd hC hok hs9 hh hlen h8 hcall kk
theorem aw_callSX4 {mi d pc nx : Nat} {loc : List (Option mAV)} {stk : List mAV} {M : mM} {own : String} {ix mj : Nat} {x1 x2 x3 x4 : mAV} {E : String} {M1 : mM} {n1 : Nat} (hd : mD mi pc 3 nx (.invokestatic ix)) (hC : mC mi = own) (hok : mCodeOk mj 4) (hs9 : mSiteS own ix mj) (hh : mHH mj = []) (hlen : (mEntL [x1, x2, x3, x4]).length ≤ mL mj) (h8 : mW8 stk ≤ 8) (hhi : mHH mi = []) (hcall : CT mj d [x1, x2, x3, x4] M (.inr E) M1 n1) : AW mi (d + 1) pc loc (x4 :: x3 :: x2 :: x1 :: stk) M (.inr E) M1 n1 := aw_callSX (as := [x1, x2, x3, x4]) hd hC hok hs9 hh rfl hlen h8 hhi hcall
theorem aw_callSg5 {mi d pc nx : Nat} {loc : List (Option mAV)} {stk : List mAV} {M : mM} {own : String} {ix mj : Nat} {x1 x2 x3 x4 x5 : mAV} {o : mOut} {v : Option mAV} {M1 M2 : mM} {n1 n2 : Nat} (hd : mD mi pc 3 nx (.invokestatic ix)) (hC : mC mi = own) (hok : mCodeOk mj 5) (hs9 : mSiteS own ix mj) (hh : mHH mj = []) (hlen : (mEntL [x1, x2, x3, x4, x5]).length ≤ mL mj) (h8 : mW8 stk ≤ 8) (hcall : CT mj d [x1, x2, x3, x4, x5] M (.inl v) M1 n1) (kk : AW mi (d + 1) nx loc (v.toList ++ stk) M1 o M2 n2) : AW mi (d + 1) pc loc (x5 :: x4 :: x3 :: x2 :: x1 :: stk) M o M2 (n1 + n2) := aw_callS (as := [x1, x2, x3, x4, x5]) hd hC hok hs9 hh rfl hlen h8 hcall kk
theorem aw_callS5 {mi d pc nx : Nat} {loc : List (Option mAV)} {stk : List mAV} {M : mM} {own : String} {ix mj : Nat} {x1 x2 x3 x4 x5 : mAV} {o : mOut} {v : mAV} {M1 M2 : mM} {n2 : Nat} (hd : mD mi pc 3 nx (.invokestatic ix)) (hC : mC mi = own) (hok : mCodeOk mj 5) (hs9 : mSiteS own ix mj) (hh : mHH mj = []) (hlen : (mEntL [x1, x2, x3, x4, x5]).length ≤ mL mj) (h8 : mW8 stk ≤ 8) (hcall : CT mj d [x1, x2, x3, x4, x5] M (.inl (some v)) M1 0) (kk : AW mi (d + 1) nx loc (v :: stk) M1 o M2 n2) : AW mi (d + 1) pc loc (x5 :: x4 :: x3 :: x2 :: x1 :: stk) M o M2 n2 := Nat.zero_add n2 ▸ aw_callSg5 hd hC hok hs9 hh hlen h8 hcall kk
theorem aw_callS5v {mi d pc nx : Nat} {loc : List (Option mAV)} {stk : List mAV} {M : mM} {own : String} {ix mj : Nat} {x1 x2 x3 x4 x5 : mAV} {o : mOut} {M1 M2 : mM} {n2 : Nat} (hd : mD mi pc 3 nx (.invokestatic ix)) (hC : mC mi = own) (hok : mCodeOk mj 5) (hs9 : mSiteS own ix mj) (hh : mHH mj = []) (hlen : (mEntL [x1, x2, x3, x4, x5]).length ≤ mL mj) (h8 : mW8 stk ≤ 8) (hcall : CT mj d [x1, x2, x3, x4, x5] M (.inl none) M1 0) (kk : AW mi (d + 1) nx loc stk M1 o M2 n2) : AW mi (d + 1) pc loc (x5 :: x4 :: x3 :: x2 :: x1 :: stk) M o M2 n2 := Nat.zero_add n2 ▸ aw_callSg5 hd hC hok hs9 hh hlen h8 hcall kk
theorem aw_callSX5 {mi d pc nx : Nat} {loc : List (Option mAV)} {stk : List mAV} {M : mM} {own : String} {ix mj : Nat} {x1 x2 x3 x4 x5 : mAV} {E : String} {M1 : mM} {n1 : Nat} (hd : mD mi pc 3 nx (.invokestatic ix)) (hC : mC mi = own) (hok : mCodeOk mj 5) (hs9 : mSiteS own ix mj) (hh : mHH mj = []) (hlen : (mEntL [x1, x2, x3, x4, x5]).length ≤ mL mj) (h8 : mW8 stk ≤ 8) (hhi : mHH mi = []) (hcall : CT mj d [x1, x2, x3, x4, x5] M (.inr E) M1 n1) : AW mi (d + 1) pc loc (x5 :: x4 :: x3 :: x2 :: x1 :: stk) M (.inr E) M1 n1 := aw_callSX (as := [x1, x2, x3, x4, x5]) hd hC hok hs9 hh rfl hlen h8 hhi hcall
theorem aw_callNg0 {mi d pc nx : Nat} {loc : List (Option mAV)} {stk : List mAV} {M : mM} {own : String} {ix mj : Nat} {host : String} {o : mOut} {v : Option mAV} {M1 M2 : mM} {n1 n2 : Nat} (hd : mD mi pc 3 nx (.invokestatic ix)) (hC : mC mi = own) (hok : mCodeOk mj 0) (hs9 : mSiteN own ix mj host) (hh : mHH mj = []) (hlen : (mEntL []).length ≤ mL mj) (h8 : mW8 stk ≤ 8) (hcall : CT mj d [] M (.inl v) M1 n1) (kk : AW mi (d + 1) nx loc (v.toList ++ stk) M1 o M2 n2) : AW mi (d + 1) pc loc (stk) M o M2 (n1 + n2) := aw_callN (as := []) hd hC hok hs9 hh rfl hlen h8 hcall kk
theorem aw_callN0 {mi d pc nx : Nat} {loc : List (Option mAV)} {stk : List mAV} {M : mM} {own : String} {ix mj : Nat} {host : String} {o : mOut} {v : mAV} {M1 M2 : mM} {n2 : Nat} (hd : mD mi pc 3 nx (.invokestatic ix)) (hC : mC mi = own) (hok : mCodeOk mj 0) (hs9 : mSiteN own ix mj host) (hh : mHH mj = []) (hlen : (mEntL []).length ≤ mL mj) (h8 : mW8 stk ≤ 8) (hcall : CT mj d [] M (.inl (some v)) M1 0) (kk : AW mi (d + 1) nx loc (v :: stk) M1 o M2 n2) : AW mi (d + 1) pc loc (stk) M o M2 n2 := Nat.zero_add n2 ▸ aw_callNg0 hd hC hok hs9 hh hlen h8 hcall kk
theorem aw_callN0v {mi d pc nx : Nat} {loc : List (Option mAV)} {stk : List mAV} {M : mM} {own : String} {ix mj : Nat} {host : String} {o : mOut} {M1 M2 : mM} {n2 : Nat} (hd : mD mi pc 3 nx (.invokestatic ix)) (hC : mC mi = own) (hok : mCodeOk mj 0) (hs9 : mSiteN own ix mj host) (hh : mHH mj = []) (hlen : (mEntL []).length ≤ mL mj) (h8 : mW8 stk ≤ 8) (hcall : CT mj d [] M (.inl none) M1 0) (kk : AW mi (d + 1) nx loc stk M1 o M2 n2) : AW mi (d + 1) pc loc (stk) M o M2 n2 := Nat.zero_add n2 ▸ aw_callNg0 hd hC hok hs9 hh hlen h8 hcall kk
theorem aw_callNX0 {mi d pc nx : Nat} {loc : List (Option mAV)} {stk : List mAV} {M : mM} {own : String} {ix mj : Nat} {host : String} {E : String} {M1 : mM} {n1 : Nat} (hd : mD mi pc 3 nx (.invokestatic ix)) (hC : mC mi = own) (hok : mCodeOk mj 0) (hs9 : mSiteN own ix mj host) (hh : mHH mj = []) (hlen : (mEntL []).length ≤ mL mj) (h8 : mW8 stk ≤ 8) (hhi : mHH mi = []) (hcall : CT mj d [] M (.inr E) M1 n1) : AW mi (d + 1) pc loc (stk) M (.inr E) M1 n1 := aw_callNX (as := []) hd hC hok hs9 hh rfl hlen h8 hhi hcall
theorem aw_callNg1 {mi d pc nx : Nat} {loc : List (Option mAV)} {stk : List mAV} {M : mM} {own : String} {ix mj : Nat} {host : String} {x1 : mAV} {o : mOut} {v : Option mAV} {M1 M2 : mM} {n1 n2 : Nat} (hd : mD mi pc 3 nx (.invokestatic ix)) (hC : mC mi = own) (hok : mCodeOk mj 1) (hs9 : mSiteN own ix mj host) (hh : mHH mj = []) (hlen : (mEntL [x1]).length ≤ mL mj) (h8 : mW8 stk ≤ 8) (hcall : CT mj d [x1] M (.inl v) M1 n1) (kk : AW mi (d + 1) nx loc (v.toList ++ stk) M1 o M2 n2) : AW mi (d + 1) pc loc (x1 :: stk) M o M2 (n1 + n2) := aw_callN (as := [x1]) hd hC hok hs9 hh rfl hlen h8 hcall kk
theorem aw_callN1 {mi d pc nx : Nat} {loc : List (Option mAV)} {stk : List mAV} {M : mM} {own : String} {ix mj : Nat} {host : String} {x1 : mAV} {o : mOut} {v : mAV} {M1 M2 : mM} {n2 : Nat} (hd : mD mi pc 3 nx (.invokestatic ix)) (hC : mC mi = own) (hok : mCodeOk mj 1) (hs9 : mSiteN own ix mj host) (hh : mHH mj = []) (hlen : (mEntL [x1]).length ≤ mL mj) (h8 : mW8 stk ≤ 8) (hcall : CT mj d [x1] M (.inl (some v)) M1 0) (kk : AW mi (d + 1) nx loc (v :: stk) M1 o M2 n2) : AW mi (d + 1) pc loc (x1 :: stk) M o M2 n2 := Nat.zero_add n2 ▸ aw_callNg1 hd hC hok hs9 hh hlen h8 hcall kk
theorem aw_callN1v {mi d pc nx : Nat} {loc : List (Option mAV)} {stk : List mAV} {M : mM} {own : String} {ix mj : Nat} {host : String} {x1 : mAV} {o : mOut} {M1 M2 : mM} {n2 : Nat} (hd : mD mi pc 3 nx (.invokestatic ix)) (hC : mC mi = own) (hok : mCodeOk mj 1) (hs9 : mSiteN own ix mj host) (hh : mHH mj = []) (hlen : (mEntL [x1]).length ≤ mL mj) (h8 : mW8 stk ≤ 8) (hcall : CT mj d [x1] M (.inl none) M1 0) (kk : AW mi (d + 1) nx loc stk M1 o M2 n2) : AW mi (d + 1) pc loc (x1 :: stk) M o M2 n2 := Nat.zero_add n2 ▸ aw_callNg1 hd hC hok hs9 hh hlen h8 hcall kk
theorem aw_callNX1 {mi d pc nx : Nat} {loc : List (Option mAV)} {stk : List mAV} {M : mM} {own : String} {ix mj : Nat} {host : String} {x1 : mAV} {E : String} {M1 : mM} {n1 : Nat} (hd : mD mi pc 3 nx (.invokestatic ix)) (hC : mC mi = own) (hok : mCodeOk mj 1) (hs9 : mSiteN own ix mj host) (hh : mHH mj = []) (hlen : (mEntL [x1]).length ≤ mL mj) (h8 : mW8 stk ≤ 8) (hhi : mHH mi = []) (hcall : CT mj d [x1] M (.inr E) M1 n1) : AW mi (d + 1) pc loc (x1 :: stk) M (.inr E) M1 n1 := aw_callNX (as := [x1]) hd hC hok hs9 hh rfl hlen h8 hhi hcall
theorem aw_callNg2 {mi d pc nx : Nat} {loc : List (Option mAV)} {stk : List mAV} {M : mM} {own : String} {ix mj : Nat} {host : String} {x1 x2 : mAV} {o : mOut} {v : Option mAV} {M1 M2 : mM} {n1 n2 : Nat} (hd : mD mi pc 3 nx (.invokestatic ix)) (hC : mC mi = own) (hok : mCodeOk mj 2) (hs9 : mSiteN own ix mj host) (hh : mHH mj = []) (hlen : (mEntL [x1, x2]).length ≤ mL mj) (h8 : mW8 stk ≤ 8) (hcall : CT mj d [x1, x2] M (.inl v) M1 n1) (kk : AW mi (d + 1) nx loc (v.toList ++ stk) M1 o M2 n2) : AW mi (d + 1) pc loc (x2 :: x1 :: stk) M o M2 (n1 + n2) := aw_callN (as := [x1, x2]) hd hC hok hs9 hh rfl hlen h8 hcall kk
theorem aw_callN2 {mi d pc nx : Nat} {loc : List (Option mAV)} {stk : List mAV} {M : mM} {own : String} {ix mj : Nat} {host : String} {x1 x2 : mAV} {o : mOut} {v : mAV} {M1 M2 : mM} {n2 : Nat} (hd : mD mi pc 3 nx (.invokestatic ix)) (hC : mC mi = own) (hok : mCodeOk mj 2) (hs9 : mSiteN own ix mj host) (hh : mHH mj = []) (hlen : (mEntL [x1, x2]).length ≤ mL mj) (h8 : mW8 stk ≤ 8) (hcall : CT mj d [x1, x2] M (.inl (some v)) M1 0) (kk : AW mi (d + 1) nx loc (v :: stk) M1 o M2 n2) : AW mi (d + 1) pc loc (x2 :: x1 :: stk) M o M2 n2 := Nat.zero_add n2 ▸ aw_callNg2 hd hC hok hs9 hh hlen h8 hcall kk
theorem aw_callN2v {mi d pc nx : Nat} {loc : List (Option mAV)} {stk : List mAV} {M : mM} {own : String} {ix mj : Nat} {host : String} {x1 x2 : mAV} {o : mOut} {M1 M2 : mM} {n2 : Nat} (hd : mD mi pc 3 nx (.invokestatic ix)) (hC : mC mi = own) (hok : mCodeOk mj 2) (hs9 : mSiteN own ix mj host) (hh : mHH mj = []) (hlen : (mEntL [x1, x2]).length ≤ mL mj) (h8 : mW8 stk ≤ 8) (hcall : CT mj d [x1, x2] M (.inl none) M1 0) (kk : AW mi (d + 1) nx loc stk M1 o M2 n2) : AW mi (d + 1) pc loc (x2 :: x1 :: stk) M o M2 n2 := Nat.zero_add n2 ▸ aw_callNg2 hd hC hok hs9 hh hlen h8 hcall kk
theorem aw_callNX2 {mi d pc nx : Nat} {loc : List (Option mAV)} {stk : List mAV} {M : mM} {own : String} {ix mj : Nat} {host : String} {x1 x2 : mAV} {E : String} {M1 : mM} {n1 : Nat} (hd : mD mi pc 3 nx (.invokestatic ix)) (hC : mC mi = own) (hok : mCodeOk mj 2) (hs9 : mSiteN own ix mj host) (hh : mHH mj = []) (hlen : (mEntL [x1, x2]).length ≤ mL mj) (h8 : mW8 stk ≤ 8) (hhi : mHH mi = []) (hcall : CT mj d [x1, x2] M (.inr E) M1 n1) : AW mi (d + 1) pc loc (x2 :: x1 :: stk) M (.inr E) M1 n1 := aw_callNX (as := [x1, x2]) hd hC hok hs9 hh rfl hlen h8 hhi hcall
theorem aw_callNg3 {mi d pc nx : Nat} {loc : List (Option mAV)} {stk : List mAV} {M : mM} {own : String} {ix mj : Nat} {host : String} {x1 x2 x3 : mAV} {o : mOut} {v : Option mAV} {M1 M2 : mM} {n1 n2 : Nat} (hd : mD mi pc 3 nx (.invokestatic ix)) (hC : mC mi = own) (hok : mCodeOk mj 3) (hs9 : mSiteN own ix mj host) (hh : mHH mj = []) (hlen : (mEntL [x1, x2, x3]).length ≤ mL mj) (h8 : mW8 stk ≤ 8) (hcall : CT mj d [x1, x2, x3] M (.inl v) M1 n1) (kk : AW mi (d + 1) nx loc (v.toList ++ stk) M1 o M2 n2) : AW mi (d + 1) pc loc (x3 :: x2 :: x1 :: stk) M o M2 (n1 + n2) := aw_callN (as := [x1, x2, x3]) hd hC hok hs9 hh rfl hlen h8 hcall kk
theorem aw_callN3 {mi d pc nx : Nat} {loc : List (Option mAV)} {stk : List mAV} {M : mM} {own : String} {ix mj : Nat} {host : String} {x1 x2 x3 : mAV} {o : mOut} {v : mAV} {M1 M2 : mM} {n2 : Nat} (hd : mD mi pc 3 nx (.invokestatic ix)) (hC : mC mi = own) (hok : mCodeOk mj 3) (hs9 : mSiteN own ix mj host) (hh : mHH mj = []) (hlen : (mEntL [x1, x2, x3]).length ≤ mL mj) (h8 : mW8 stk ≤ 8) (hcall : CT mj d [x1, x2, x3] M (.inl (some v)) M1 0) (kk : AW mi (d + 1) nx loc (v :: stk) M1 o M2 n2) : AW mi (d + 1) pc loc (x3 :: x2 :: x1 :: stk) M o M2 n2 := Nat.zero_add n2 ▸ aw_callNg3 hd hC hok hs9 hh hlen h8 hcall kk
theorem aw_callN3v {mi d pc nx : Nat} {loc : List (Option mAV)} {stk : List mAV} {M : mM} {own : String} {ix mj : Nat} {host : String} {x1 x2 x3 : mAV} {o : mOut} {M1 M2 : mM} {n2 : Nat} (hd : mD mi pc 3 nx (.invokestatic ix)) (hC : mC mi = own) (hok : mCodeOk mj 3) (hs9 : mSiteN own ix mj host) (hh : mHH mj = []) (hlen : (mEntL [x1, x2, x3]).length ≤ mL mj) (h8 : mW8 stk ≤ 8) (hcall : CT mj d [x1, x2, x3] M (.inl none) M1 0) (kk : AW mi (d + 1) nx loc stk M1 o M2 n2) : AW mi (d + 1) pc loc (x3 :: x2 :: x1 :: stk) M o M2 n2 := Nat.zero_add n2 ▸ aw_callNg3 hd hC hok hs9 hh hlen h8 hcall kk
theorem aw_callNX3 {mi d pc nx : Nat} {loc : List (Option mAV)} {stk : List mAV} {M : mM} {own : String} {ix mj : Nat} {host : String} {x1 x2 x3 : mAV} {E : String} {M1 : mM} {n1 : Nat} (hd : mD mi pc 3 nx (.invokestatic ix)) (hC : mC mi = own) (hok : mCodeOk mj 3) (hs9 : mSiteN own ix mj host) (hh : mHH mj = []) (hlen : (mEntL [x1, x2, x3]).length ≤ mL mj) (h8 : mW8 stk ≤ 8) (hhi : mHH mi = []) (hcall : CT mj d [x1, x2, x3] M (.inr E) M1 n1) : AW mi (d + 1) pc loc (x3 :: x2 :: x1 :: stk) M (.inr E) M1 n1 := aw_callNX (as := [x1, x2, x3]) hd hC hok hs9 hh rfl hlen h8 hhi hcall
theorem aw_callNg4 {mi d pc nx : Nat} {loc : List (Option mAV)} {stk : List mAV} {M : mM} {own : String} {ix mj : Nat} {host : String} {x1 x2 x3 x4 : mAV} {o : mOut} {v : Option mAV} {M1 M2 : mM} {n1 n2 : Nat} (hd : mD mi pc 3 nx (.invokestatic ix)) (hC : mC mi = own) (hok : mCodeOk mj 4) (hs9 : mSiteN own ix mj host) (hh : mHH mj = []) (hlen : (mEntL [x1, x2, x3, x4]).length ≤ mL mj) (h8 : mW8 stk ≤ 8) (hcall : CT mj d [x1, x2, x3, x4] M (.inl v) M1 n1) (kk : AW mi (d + 1) nx loc (v.toList ++ stk) M1 o M2 n2) : AW mi (d + 1) pc loc (x4 :: x3 :: x2 :: x1 :: stk) M o M2 (n1 + n2) := aw_callN (as := [x1, x2, x3, x4]) hd hC hok hs9 hh rfl hlen h8 hcall kk
theorem aw_callN4 {mi d pc nx : Nat} {loc : List (Option mAV)} {stk : List mAV} {M : mM} {own : String} {ix mj : Nat} {host : String} {x1 x2 x3 x4 : mAV} {o : mOut} {v : mAV} {M1 M2 : mM} {n2 : Nat} (hd : mD mi pc 3 nx (.invokestatic ix)) (hC : mC mi = own) (hok : mCodeOk mj 4) (hs9 : mSiteN own ix mj host) (hh : mHH mj = []) (hlen : (mEntL [x1, x2, x3, x4]).length ≤ mL mj) (h8 : mW8 stk ≤ 8) (hcall : CT mj d [x1, x2, x3, x4] M (.inl (some v)) M1 0) (kk : AW mi (d + 1) nx loc (v :: stk) M1 o M2 n2) : AW mi (d + 1) pc loc (x4 :: x3 :: x2 :: x1 :: stk) M o M2 n2 := Nat.zero_add n2 ▸ aw_callNg4 hd hC hok hs9 hh hlen h8 hcall kk
theorem aw_callN4v {mi d pc nx : Nat} {loc : List (Option mAV)} {stk : List mAV} {M : mM} {own : String} {ix mj : Nat} {host : String} {x1 x2 x3 x4 : mAV} {o : mOut} {M1 M2 : mM} {n2 : Nat} (hd : mD mi pc 3 nx (.invokestatic ix)) (hC : mC mi = own) (hok : mCodeOk mj 4) (hs9 : mSiteN own ix mj host) (hh : mHH mj = []) (hlen : (mEntL [x1, x2, x3, x4]).length ≤ mL mj) (h8 : mW8 stk ≤ 8) (hcall : CT mj d [x1, x2, x3, x4] M (.inl none) M1 0) (kk : AW mi (d + 1) nx loc stk M1 o M2 n2) : AW mi (d + 1) pc loc (x4 :: x3 :: x2 :: x1 :: stk) M o M2 n2 := Nat.zero_add n2 ▸ aw_callNg4 hd hC hok hs9 hh hlen h8 hcall kk
theorem aw_callNX4 {mi d pc nx : Nat} {loc : List (Option mAV)} {stk : List mAV} {M : mM} {own : String} {ix mj : Nat} {host : String} {x1 x2 x3 x4 : mAV} {E : String} {M1 : mM} {n1 : Nat} (hd : mD mi pc 3 nx (.invokestatic ix)) (hC : mC mi = own) (hok : mCodeOk mj 4) (hs9 : mSiteN own ix mj host) (hh : mHH mj = []) (hlen : (mEntL [x1, x2, x3, x4]).length ≤ mL mj) (h8 : mW8 stk ≤ 8) (hhi : mHH mi = []) (hcall : CT mj d [x1, x2, x3, x4] M (.inr E) M1 n1) : AW mi (d + 1) pc loc (x4 :: x3 :: x2 :: x1 :: stk) M (.inr E) M1 n1 := aw_callNX (as := [x1, x2, x3, x4]) hd hC hok hs9 hh rfl hlen h8 hhi hcall
theorem aw_callNg5 {mi d pc nx : Nat} {loc : List (Option mAV)} {stk : List mAV} {M : mM} {own : String} {ix mj : Nat} {host : String} {x1 x2 x3 x4 x5 : mAV} {o : mOut} {v : Option mAV} {M1 M2 : mM} {n1 n2 : Nat} (hd : mD mi pc 3 nx (.invokestatic ix)) (hC : mC mi = own) (hok : mCodeOk mj 5) (hs9 : mSiteN own ix mj host) (hh : mHH mj = []) (hlen : (mEntL [x1, x2, x3, x4, x5]).length ≤ mL mj) (h8 : mW8 stk ≤ 8) (hcall : CT mj d [x1, x2, x3, x4, x5] M (.inl v) M1 n1) (kk : AW mi (d + 1) nx loc (v.toList ++ stk) M1 o M2 n2) : AW mi (d + 1) pc loc (x5 :: x4 :: x3 :: x2 :: x1 :: stk) M o M2 (n1 + n2) := aw_callN (as := [x1, x2, x3, x4, x5]) hd hC hok hs9 hh rfl hlen h8 hcall kk
theorem aw_callN5 {mi d pc nx : Nat} {loc : List (Option mAV)} {stk : List mAV} {M : mM} {own : String} {ix mj : Nat} {host : String} {x1 x2 x3 x4 x5 : mAV} {o : mOut} {v : mAV} {M1 M2 : mM} {n2 : Nat} (hd : mD mi pc 3 nx (.invokestatic ix)) (hC : mC mi = own) (hok : mCodeOk mj 5) (hs9 : mSiteN own ix mj host) (hh : mHH mj = []) (hlen : (mEntL [x1, x2, x3, x4, x5]).length ≤ mL mj) (h8 : mW8 stk ≤ 8) (hcall : CT mj d [x1, x2, x3, x4, x5] M (.inl (some v)) M1 0) (kk : AW mi (d + 1) nx loc (v :: stk) M1 o M2 n2) : AW mi (d + 1) pc loc (x5 :: x4 :: x3 :: x2 :: x1 :: stk) M o M2 n2 := Nat.zero_add n2 ▸ aw_callNg5 hd hC hok hs9 hh hlen h8 hcall kk
theorem aw_callN5v {mi d pc nx : Nat} {loc : List (Option mAV)} {stk : List mAV} {M : mM} {own : String} {ix mj : Nat} {host : String} {x1 x2 x3 x4 x5 : mAV} {o : mOut} {M1 M2 : mM} {n2 : Nat} (hd : mD mi pc 3 nx (.invokestatic ix)) (hC : mC mi = own) (hok : mCodeOk mj 5) (hs9 : mSiteN own ix mj host) (hh : mHH mj = []) (hlen : (mEntL [x1, x2, x3, x4, x5]).length ≤ mL mj) (h8 : mW8 stk ≤ 8) (hcall : CT mj d [x1, x2, x3, x4, x5] M (.inl none) M1 0) (kk : AW mi (d + 1) nx loc stk M1 o M2 n2) : AW mi (d + 1) pc loc (x5 :: x4 :: x3 :: x2 :: x1 :: stk) M o M2 n2 := Nat.zero_add n2 ▸ aw_callNg5 hd hC hok hs9 hh hlen h8 hcall kk
theorem aw_callNX5 {mi d pc nx : Nat} {loc : List (Option mAV)} {stk : List mAV} {M : mM} {own : String} {ix mj : Nat} {host : String} {x1 x2 x3 x4 x5 : mAV} {E : String} {M1 : mM} {n1 : Nat} (hd : mD mi pc 3 nx (.invokestatic ix)) (hC : mC mi = own) (hok : mCodeOk mj 5) (hs9 : mSiteN own ix mj host) (hh : mHH mj = []) (hlen : (mEntL [x1, x2, x3, x4, x5]).length ≤ mL mj) (h8 : mW8 stk ≤ 8) (hhi : mHH mi = []) (hcall : CT mj d [x1, x2, x3, x4, x5] M (.inr E) M1 n1) : AW mi (d + 1) pc loc (x5 :: x4 :: x3 :: x2 :: x1 :: stk) M (.inr E) M1 n1 := aw_callNX (as := [x1, x2, x3, x4, x5]) hd hC hok hs9 hh rfl hlen h8 hhi hcall
