/-! ONE METHOD'S RUN, over the memory of ints: AW mi d pc loc stk M o M' n: from pc on, with these locals and this stack, method mi ends with o and the memory M', n exceptions made on the way; d calls deep at most -/
def mRetI (mi : Nat) (v : Option mAV) (ins : Instr) : Prop := match v with
  | none => ins = .return_ ∧ mR mi = none
  | some (.inl x) => ins = .ireturn ∧ ∃ ty, mR mi = some ty ∧ narrow ty (.int x) = .int x
  | some (.inr (.inl _)) => ins = .lreturn ∧ mR mi = some .long
  | some (.inr (.inr _)) => ins = .areturn ∧ ∃ C, mR mi = some (.object C)
def mFR (D : va_G) (ρ : mRef → Nat) (cA : mRef → ClassId) (bs LS : Nat) (sa : Nat → Nat) (xs : Nat → Int32) (p : Program) (l : Launch) (e : Env) (R : Room) (s : State) (m : MethodId) (args : Array Value) (below : List Frame) (meth : Method) (c : Code) (mi d : Nat) : Prop :=
  p.tables.exec = Jvm.exec ∧ c.code = mB mi ∧ c.maxLocals = mL mi ∧ s.vm.findClass (mC mi) = some m.cls ∧ c.exceptionTable.toList = tableOf (mHH mi) ∧ meth.locks = false ∧ meth.sig.returnType = mR mi ∧ l.stackTraces = false ∧ d ≤ R.frames ∧ 40 * d ≤ R.locals ∧ mVF D cA sa s ∧ mHF ρ bs LS xs s s.heap ∧ LS < 2 ^ 31
def mRp (D : va_G) (ρ : mRef → Nat) (cA : mRef → ClassId) (bs LS : Nat) (xs : Nat → Int32) (M : mM) (H : Heap) : Prop := mRep D ρ cA bs xs M H ∧ M (16, 0, 0) 0 = Int32.ofNat LS
def mFin (D : va_G) (ρ : mRef → Nat) (cA : mRef → ClassId) (bs LS : Nat) (xs : Nat → Int32) (p : Program) (l : Launch) (e : Env) (R : Room) (s : State) (m : MethodId) (args : Array Value) (below : List Frame) (meth : Method) (c : Code) (mi : Nat) (o : mOut) (M' : mM) (cE sE : Nat) (Q : State → Prop) : Prop := match o with
  | .inl v => ∀ (H : Heap) (locs : List Loc) (ls : Array Slot) (pc : Nat) (ins : Instr), mRetI mi v ins → decode (mB mi) pc = .ok (ins, 1) → mRp D ρ cA bs LS xs M' H → va_S (mA0 bs) s.heap H locs → W p l e R s m args below meth c H locs cE sE Q (F0 m pc ls (v.toList.map (cv ρ)))
  | .inr E => ∀ (H : Heap) (locs : List Loc) (ls : Array Slot) (pc : Nat) (rest : List Value) (q : Addr) (ce : Cell), (∀ x ∈ c.exceptionTable.toList, covers x pc = false) → mRp D ρ cA bs LS xs M' H → va_S (mA0 bs) s.heap H locs → H[q]? = some ce → ce.vm = .none → s.vm.findClass E = some ce.cls → vx_W p l e R s m args below meth c H locs cE sE Q (F0 m pc ls rest) q
def AW (mi d pc : Nat) (loc : List (Option mAV)) (stk : List mAV) (M : mM) (o : mOut) (M' : mM) (n : Nat) : Prop :=
  ∀ (D : va_G) (ρ : mRef → Nat) (cA : mRef → ClassId) (bs LS : Nat) (sa : Nat → Nat) (xs : Nat → Int32) (p : Program) (l : Launch) (e : Env) (R : Room) (s : State) (m : MethodId) (args : Array Value) (below : List Frame) (meth : Method) (c : Code) (Q : State → Prop) (cE sE : Nat),
    mFR D ρ cA bs LS sa xs p l e R s m args below meth c mi d → cE ≤ R.cells → sE ≤ R.slots → mFin D ρ cA bs LS xs p l e R s m args below meth c mi o M' cE sE Q →
    ∀ (H : Heap) (locs : List Loc) (ls : Array Slot) (cells slots : Nat), cells + n ≤ cE → slots + 6 * n ≤ sE → mRp D ρ cA bs LS xs M H → va_S (mA0 bs) s.heap H locs → lR ρ (mL mi) loc ls → W p l e R s m args below meth c H locs cells slots Q (F0 m pc ls (stk.map (cv ρ)))
theorem mCl_N : ∀ ci < 7, ∀ q ∈ mCl[ci]?, q.2.2 = mN ci := by
  intro ci h q hq
  match ci, h with
  | 0, _ => cases hq; rfl
  | 1, _ => cases hq; rfl
  | 2, _ => cases hq; rfl
  | 3, _ => cases hq; rfl
  | 4, _ => cases hq; rfl
  | 5, _ => cases hq; rfl
  | 6, _ => cases hq; rfl
theorem mCl_in : ∀ ci < 7, ∀ q ∈ mCl[ci]?, ∀ w ∈ u_ws q.1 q.2.1 q.2.2, w ∈ lw_tbl := by
  intro ci h q hq
  match ci, h with
  | 0, _ => cases hq; exact inw_0
  | 1, _ => cases hq; exact inw_1
  | 2, _ => cases hq; exact inw_2
  | 3, _ => cases hq; exact inw_3
  | 4, _ => cases hq; exact inw_4
  | 5, _ => cases hq; exact inw_5
  | 6, _ => cases hq; exact inw_6
theorem u_ws_warm {C : String} {T : u_T} {N : Nat} {w : Cond} (h : w ∈ u_ws C T N) : mWarm w = true := by
  obtain ⟨k, -, rfl⟩ := List.mem_map.mp h
  unfold u_lay
  split <;> rfl
theorem mVF.w {D : va_G} {cA : mRef → ClassId} {sa : Nat → Nat} {U : State} (h : mVF D cA sa U) {w : Cond} {a : Array Value} (hw : w ∈ lw_tbl) (hm : mWarm w = true) : w.before a U = true :=
  mw_keep (State.WarmedH.refl U) hm (h.1 w hw hm)
theorem mVF.K {D : va_G} {cA : mRef → ClassId} {sa : Nat → Nat} {U : State} (h : mVF D cA sa U) : va_K D mCl [] U := ⟨h.2.1, fun k q hq => by simp at hq⟩
theorem mVF.KA {D : va_G} {cA : mRef → ClassId} {sa : Nat → Nat} {U : State} (h : mVF D cA sa U) {r : mRef} (hr : r ∈ mAll) (hk : 7 ≤ r.1) : va_K D mCl [(cA r, mTy r)] U := ⟨h.2.1, fun k q hq => by
  match k with
  | 0 => cases hq; exact h.2.2.1 r hr hk
  | k + 1 => simp at hq⟩
theorem mVF.KA2 {D : va_G} {cA : mRef → ClassId} {sa : Nat → Nat} {U : State} (h : mVF D cA sa U) {r r' : mRef} (hr : r ∈ mAll) (hk : 7 ≤ r.1) (hr' : r' ∈ mAll) (hk' : 7 ≤ r'.1) : va_K D mCl [(cA r, mTy r), (cA r', mTy r')] U := ⟨h.2.1, fun k q hq => by
  match k with
  | 0 => cases hq; exact h.2.2.1 r hr hk
  | 1 => cases hq; exact h.2.2.1 r' hr' hk'
  | k + 2 => simp at hq⟩
theorem mCell_obj {ρ : mRef → Nat} {cA : mRef → ClassId} {M : mM} {r : mRef} (h : r.1 < 7) : mCell ρ cA M r = .inr (r.1, (List.range (mN r.1)).map (mFv ρ M r)) := by unfold mCell; rw [if_pos h]
def mIsI (r : mRef) : Bool := r.1 == 7 || r.1 == 8 || r.1 == 9 || r.1 == 12 || r.1 == 13
theorem mCell_arr {ρ : mRef → Nat} {cA : mRef → ClassId} {M : mM} {r : mRef} (h : mIsI r = true) : mCell ρ cA M r = .inl (cA r, mLen r, .inl (M r)) ∧ 7 ≤ r.1 := by
  unfold mIsI at h
  simp only [Bool.or_eq_true, beq_iff_eq] at h
  unfold mCell
  refine ⟨?_, by omega⟩
  rw [if_neg (by omega), if_neg (by omega), if_neg (by omega)]
/-- the world's cells, one of them changed -/
theorem mRp.set {D : va_G} {ρ : mRef → Nat} {cA : mRef → ClassId} {bs LS : Nat} {xs : Nat → Int32} {M M' : mM} {H H1 : Heap} {r : mRef} {q0 : Nat} (h : mRp D ρ cA bs LS xs M H) (hr : r ∈ mAll) (hq : mAll[q0]? = some r) (hM : ∀ r', r' ≠ r → M' r' = M r')
    (hP : va_P D mCl ((mWs ρ cA M).set q0 (ρ r, mCell ρ cA M' r)) H1) (hD : va_D (mA0 bs) ((mWs ρ cA M).set q0 (ρ r, mCell ρ cA M' r))) : mRp D ρ cA bs LS xs M' H1 := by
  rw [mWs_set hq hM] at hP hD
  refine ⟨⟨hP, hD, ?_⟩, ?_⟩
  · rw [hM _ (fun e => mAll_15 r hr e.symm)]
    exact h.1.2.2
  · rw [hM (16, 0, 0) (fun e => by rw [← e] at hr; exact absurd hr (by decide +kernel))]
    exact h.2
section WR
variable {D : va_G} {ρ : mRef → Nat} {cA : mRef → ClassId} {bs LS : Nat} {sa : Nat → Nat} {xs : Nat → Int32} {p : Program} {l : Launch} {e : Env} {R : Room} {s : State} {m : MethodId} {args : Array Value} {below : List Frame} {meth : Method} {c : Code} {Q : State → Prop} {H : Heap} {locs : List Loc} {ls : Array Slot} {cells slots : Nat} {M : mM} {pc : Nat} {rest : List Value} {cc : ByteArray}
theorem w_get {own : String} {ix ci k i j : Nat} (hx : p.tables.exec = Jvm.exec) (hb : c.code = cc) (hown : s.vm.findClass own = some m.cls) (hV : mVF D cA sa s) (hR : mRp D ρ cA bs LS xs M H) (hf : mFS own ix ci k) (hci : ci < 7) (hk : k < mN ci) (ho : mOk (ci, i, j)) (hdg : decode cc pc = .ok (.getfield ix, 3))
    (kk : W p l e R s m args below meth c H locs cells slots Q (F0 m (pc + 3) ls (mFv ρ M (ci, i, j) k :: rest))) : W p l e R s m args below meth c H locs cells slots Q (F0 m pc ls (.ref (ρ (ci, i, j)) :: rest)) := by
  obtain ⟨⟨C, T, N⟩, hq, hsm, hlk⟩ := hf
  have hN : N = mN ci := mCl_N ci hci _ hq
  have hin := mCl_in ci hci _ hq
  obtain ⟨q0, -, hw⟩ := mWs_at (ρ := ρ) (cA := cA) M (mOk_mem ho)
  rw [mCell_obj hci] at hw
  have hts : ∀ w ∈ u_ws C T N, w.before args s = true := fun w h => hV.w (hin w h) (u_ws_warm h)
  have hv : ((List.range (mN ci)).map (mFv ρ M (ci, i, j)))[k]? = some (mFv ρ M (ci, i, j) k) := by
    rw [List.getElem?_map, List.getElem?_range hk]
    rfl
  dsimp only at hsm hlk
  rcases hlk with hl | ⟨host, hl⟩
  · exact va_get hx hb hts (fun w h => h) hown hV.K hR.1.1 q0 hw hq k (by rw [hN]; exact hk) (hV.w hl rfl) (fun x h => by rw [hsm] at h; exact h) hv hdg kk
  · exact va_getN hx hb hts (fun w h => h) hown hV.K hR.1.1 q0 hw hq k (by rw [hN]; exact hk) (hV.w hl rfl) (fun x h => by rw [hsm] at h; exact h) hv hdg kk
def mPo (ci k : Nat) (ty : FieldType) : Prop := ∃ q : vw_C, mCl[ci]? = some q ∧ (q.2.1 k).2.2.2 = false ∧ parseFieldDescriptor (q.2.1 k).2.2.1 = some ty
theorem mCl_ty : ∀ ci < 7, ∀ q ∈ mCl[ci]?, (∃ ty : Nat → FieldType, ∀ k, k < q.2.2 → parseFieldDescriptor (q.2.1 k).2.2.1 = some (ty k)) ∧ ∀ a, a < q.2.2 → ∀ b, b < q.2.2 → a ≠ b → (q.2.1 a).2.1 ≠ (q.2.1 b).2.1 := by
  intro ci h q hq
  match ci, h with
  | 0, _ => cases hq; exact ⟨⟨_, tyX0_ok⟩, nmX0⟩
  | 1, _ => cases hq; exact ⟨⟨_, tyX1_ok⟩, nmX1⟩
  | 2, _ => cases hq; exact ⟨⟨_, tyX2_ok⟩, nmX2⟩
  | 3, _ => cases hq; exact ⟨⟨_, tyX3_ok⟩, nmX3⟩
  | 4, _ => cases hq; exact ⟨⟨_, tyX4_ok⟩, nmX4⟩
  | 5, _ => cases hq; exact ⟨⟨_, tyX5_ok⟩, nmX5⟩
  | 6, _ => cases hq; exact ⟨⟨_, tyX6_ok⟩, nmX6⟩
theorem mCell_put {ρ : mRef → Nat} {cA : mRef → ClassId} {M : mM} {r : mRef} {k : Nat} {v : Int32} (h : r.1 < 7) (hr : mRf r k = none) : mCell ρ cA (mUp M r k v) r = .inr (r.1, ((List.range (mN r.1)).map (mFv ρ M r)).set k (.int v)) := by
  rw [mCell_obj h]
  congr 2
  refine List.ext_getElem? fun i => ?_
  by_cases hi : k = i
  · subst hi
    by_cases hl : k < mN r.1
    · rw [List.getElem?_set_self (by simp [hl]), List.getElem?_map, List.getElem?_range hl]
      show some (mFv ρ (mUp M r k v) r k) = _
      unfold mFv
      rw [hr]
      simp [mUp]
    · rw [List.getElem?_eq_none (by simp; omega), List.getElem?_eq_none (by simp; omega)]
  · rw [List.getElem?_set_ne hi, List.getElem?_map, List.getElem?_map]
    cases hx : (List.range (mN r.1))[i]? with
    | none => rfl
    | some i' =>
      have e : i = i' := by
        have h1 := List.getElem?_eq_some_iff.mp hx
        obtain ⟨l1, e1⟩ := h1
        rw [List.getElem_range] at e1
        exact e1
      subst e
      show some (mFv ρ (mUp M r k v) r i) = some (mFv ρ M r i)
      unfold mFv
      cases mRf r i with
      | none => simp [mUp, Ne.symm hi]
      | some _ => rfl
theorem w_put {own : String} {ix ci k i j : Nat} {v : Int32} {ty : FieldType} (hx : p.tables.exec = Jvm.exec) (hb : c.code = cc) (hown : s.vm.findClass own = some m.cls) (hV : mVF D cA sa s) (hR : mRp D ρ cA bs LS xs M H) (hS : va_S (mA0 bs) s.heap H locs) (hf : mFS own ix ci k) (hci : ci < 7) (hk : k < mN ci) (ho : mOk (ci, i, j)) (hr : mRf (ci, i, j) k = none) (hpo : mPo ci k ty) (hn : narrow ty (.int v) = .int v) (hfit : fits ty (.int v) = true) (hdg : decode cc pc = .ok (.putfield ix, 3))
    (kk : ∀ (H1 : Heap) (locs1 : List Loc), mRp D ρ cA bs LS xs (mUp M (ci, i, j) k v) H1 → va_S (mA0 bs) s.heap H1 locs1 → W p l e R s m args below meth c H1 locs1 cells slots Q (F0 m (pc + 3) ls rest)) : W p l e R s m args below meth c H locs cells slots Q (F0 m pc ls (.int v :: .ref (ρ (ci, i, j)) :: rest)) := by
  obtain ⟨⟨C, T, N⟩, hq, hsm, hlk⟩ := hf
  obtain ⟨q9, hq9, hfin, hpd⟩ := hpo
  cases Option.some.inj (hq9.symm.trans hq)
  have hN : N = mN ci := mCl_N ci hci _ hq
  have hin := mCl_in ci hci _ hq
  obtain ⟨⟨ty0, hty⟩, hnm⟩ := mCl_ty ci hci _ hq
  obtain ⟨q0, hq0, hw⟩ := mWs_at (ρ := ρ) (cA := cA) M (mOk_mem ho)
  have hw' := hw
  rw [mCell_obj hci] at hw
  have hts : ∀ w ∈ u_ws C T N, w.before args s = true := fun w h => hV.w (hin w h) (u_ws_warm h)
  dsimp only at hsm hlk hfin hpd hty hnm
  have fin : ∀ (H1 : Heap) (locs1 : List Loc), va_P D mCl ((mWs ρ cA M).set q0 (ρ (ci, i, j), .inr (ci, ((List.range (mN ci)).map (mFv ρ M (ci, i, j))).set k (.int v)))) H1 → va_D (mA0 bs) ((mWs ρ cA M).set q0 (ρ (ci, i, j), .inr (ci, ((List.range (mN ci)).map (mFv ρ M (ci, i, j))).set k (.int v)))) → va_S (mA0 bs) s.heap H1 locs1 → W p l e R s m args below meth c H1 locs1 cells slots Q (F0 m (pc + 3) ls rest) := by
    intro H1 locs1 a1 a2 a3
    have ec := mCell_put (ρ := ρ) (cA := cA) (M := M) (r := (ci, i, j)) (k := k) (v := v) hci hr
    dsimp only at ec
    rw [← ec] at a1 a2
    exact kk H1 locs1 (hR.set (mOk_mem ho) hq0 (fun r' h => mUp_ne h) a1 a2) a3
  rcases hlk with hl | ⟨host, hl⟩
  · exact va_put hx hb hts (fun w h => h) ty0 hty hnm hown hV.K hR.1.1 hR.1.2.1 hS q0 hw hq k (by rw [hN]; exact hk) (hV.w hl rfl) (fun x h => by rw [hsm] at h; exact h) hfin hpd hn hfit (by simp [hk]) hdg fin
  · exact va_putN hx hb hts (fun w h => h) ty0 hty hnm hown hV.K hR.1.1 hR.1.2.1 hS q0 hw hq k (by rw [hN]; exact hk) (hV.w hl rfl) (fun x h => by rw [hsm] at h; exact h) hfin hpd hn hfit (by simp [hk]) hdg fin
end WR
theorem aw_iload {mi d pc nx : Nat} {loc : List (Option mAV)} {stk : List mAV} {M : mM} {o : mOut} {M1 : mM} {n : Nat} {i : Nat} {x : Int32} (hd : mD mi pc 2 nx (.iload i)) (hv : loc[i]? = some (some (vI x))) (kk : AW mi d nx loc (vI x :: stk) M o M1 n) : AW mi d pc loc stk M o M1 n := by
  intro D ρ cA bs LS sa xs p l e R s m args below meth c Q cE sE hF hcE hsE hFin H locs ls cells slots hc hs hRep hS hl
  obtain ⟨hdg, rfl⟩ := hd
  have k := kk D ρ cA bs LS sa xs p l e R s m args below meth c Q cE sE hF hcE hsE hFin H locs ls cells slots hc hs hRep hS hl
  obtain ⟨hx, hb, hml, hown, htab, hlocks, hr, hl0, hfr, hlo, hV, hH, hLS⟩ := hF
  exact lv_iload hx hb hdg (hl.2.2.2 _ _ hv) k
theorem aw_iload_n {mi d pc nx : Nat} {loc : List (Option mAV)} {stk : List mAV} {M : mM} {o : mOut} {M1 : mM} {n : Nat} {i : Fin 4} {x : Int32} (hd : mD mi pc 1 nx (.iload_n i)) (hv : loc[(i : Nat)]? = some (some (vI x))) (kk : AW mi d nx loc (vI x :: stk) M o M1 n) : AW mi d pc loc stk M o M1 n := by
  intro D ρ cA bs LS sa xs p l e R s m args below meth c Q cE sE hF hcE hsE hFin H locs ls cells slots hc hs hRep hS hl
  obtain ⟨hdg, rfl⟩ := hd
  have k := kk D ρ cA bs LS sa xs p l e R s m args below meth c Q cE sE hF hcE hsE hFin H locs ls cells slots hc hs hRep hS hl
  obtain ⟨hx, hb, hml, hown, htab, hlocks, hr, hl0, hfr, hlo, hV, hH, hLS⟩ := hF
  exact lv_iload_n hx hb hdg rfl (hl.2.2.2 _ _ hv) k
theorem aw_lload {mi d pc nx : Nat} {loc : List (Option mAV)} {stk : List mAV} {M : mM} {o : mOut} {M1 : mM} {n : Nat} {i : Nat} {x : Int64} (hd : mD mi pc 2 nx (.lload i)) (hv : loc[i]? = some (some (vL x))) (kk : AW mi d nx loc (vL x :: stk) M o M1 n) : AW mi d pc loc stk M o M1 n := by
  intro D ρ cA bs LS sa xs p l e R s m args below meth c Q cE sE hF hcE hsE hFin H locs ls cells slots hc hs hRep hS hl
  obtain ⟨hdg, rfl⟩ := hd
  have k := kk D ρ cA bs LS sa xs p l e R s m args below meth c Q cE sE hF hcE hsE hFin H locs ls cells slots hc hs hRep hS hl
  obtain ⟨hx, hb, hml, hown, htab, hlocks, hr, hl0, hfr, hlo, hV, hH, hLS⟩ := hF
  exact lv_lload hx hb hdg (hl.2.2.2 _ _ hv) k
theorem aw_lload_n {mi d pc nx : Nat} {loc : List (Option mAV)} {stk : List mAV} {M : mM} {o : mOut} {M1 : mM} {n : Nat} {i : Fin 4} {x : Int64} (hd : mD mi pc 1 nx (.lload_n i)) (hv : loc[(i : Nat)]? = some (some (vL x))) (kk : AW mi d nx loc (vL x :: stk) M o M1 n) : AW mi d pc loc stk M o M1 n := by
  intro D ρ cA bs LS sa xs p l e R s m args below meth c Q cE sE hF hcE hsE hFin H locs ls cells slots hc hs hRep hS hl
  obtain ⟨hdg, rfl⟩ := hd
  have k := kk D ρ cA bs LS sa xs p l e R s m args below meth c Q cE sE hF hcE hsE hFin H locs ls cells slots hc hs hRep hS hl
  obtain ⟨hx, hb, hml, hown, htab, hlocks, hr, hl0, hfr, hlo, hV, hH, hLS⟩ := hF
  exact lv_lload_n hx hb hdg rfl (hl.2.2.2 _ _ hv) k
theorem aw_aload {mi d pc nx : Nat} {loc : List (Option mAV)} {stk : List mAV} {M : mM} {o : mOut} {M1 : mM} {n : Nat} {i : Nat} {a b c0 : Nat} (hd : mD mi pc 2 nx (.aload i)) (hv : loc[i]? = some (some (vR a b c0))) (kk : AW mi d nx loc (vR a b c0 :: stk) M o M1 n) : AW mi d pc loc stk M o M1 n := by
  intro D ρ cA bs LS sa xs p l e R s m args below meth c Q cE sE hF hcE hsE hFin H locs ls cells slots hc hs hRep hS hl
  obtain ⟨hdg, rfl⟩ := hd
  have k := kk D ρ cA bs LS sa xs p l e R s m args below meth c Q cE sE hF hcE hsE hFin H locs ls cells slots hc hs hRep hS hl
  obtain ⟨hx, hb, hml, hown, htab, hlocks, hr, hl0, hfr, hlo, hV, hH, hLS⟩ := hF
  exact lv_aload hx hb hdg (hl.2.2.2 _ _ hv) k
theorem aw_aload_n {mi d pc nx : Nat} {loc : List (Option mAV)} {stk : List mAV} {M : mM} {o : mOut} {M1 : mM} {n : Nat} {i : Fin 4} {a b c0 : Nat} (hd : mD mi pc 1 nx (.aload_n i)) (hv : loc[(i : Nat)]? = some (some (vR a b c0))) (kk : AW mi d nx loc (vR a b c0 :: stk) M o M1 n) : AW mi d pc loc stk M o M1 n := by
  intro D ρ cA bs LS sa xs p l e R s m args below meth c Q cE sE hF hcE hsE hFin H locs ls cells slots hc hs hRep hS hl
  obtain ⟨hdg, rfl⟩ := hd
  have k := kk D ρ cA bs LS sa xs p l e R s m args below meth c Q cE sE hF hcE hsE hFin H locs ls cells slots hc hs hRep hS hl
  obtain ⟨hx, hb, hml, hown, htab, hlocks, hr, hl0, hfr, hlo, hV, hH, hLS⟩ := hF
  exact lv_aload_n hx hb hdg rfl (hl.2.2.2 _ _ hv) k
theorem aw_iconst {mi d pc nx : Nat} {loc : List (Option mAV)} {stk : List mAV} {M : mM} {o : mOut} {M1 : mM} {n : Nat} {i : Int} {v : Int32} (hd : mD mi pc 1 nx (.iconst i)) (hv : Int32.ofInt i = v) (kk : AW mi d nx loc (vI v :: stk) M o M1 n) : AW mi d pc loc stk M o M1 n := by
  intro D ρ cA bs LS sa xs p l e R s m args below meth c Q cE sE hF hcE hsE hFin H locs ls cells slots hc hs hRep hS hl
  obtain ⟨hdg, rfl⟩ := hd
  have k := kk D ρ cA bs LS sa xs p l e R s m args below meth c Q cE sE hF hcE hsE hFin H locs ls cells slots hc hs hRep hS hl
  obtain ⟨hx, hb, hml, hown, htab, hlocks, hr, hl0, hfr, hlo, hV, hH, hLS⟩ := hF
  exact lv_iconst hx hb hdg hv k
theorem aw_lconst {mi d pc nx : Nat} {loc : List (Option mAV)} {stk : List mAV} {M : mM} {o : mOut} {M1 : mM} {n : Nat} {i : Fin 2} {v : Int64} (hd : mD mi pc 1 nx (.lconst i)) (hv : Int64.ofNat (i : Nat) = v) (kk : AW mi d nx loc (vL v :: stk) M o M1 n) : AW mi d pc loc stk M o M1 n := by
  intro D ρ cA bs LS sa xs p l e R s m args below meth c Q cE sE hF hcE hsE hFin H locs ls cells slots hc hs hRep hS hl
  obtain ⟨hdg, rfl⟩ := hd
  have k := kk D ρ cA bs LS sa xs p l e R s m args below meth c Q cE sE hF hcE hsE hFin H locs ls cells slots hc hs hRep hS hl
  obtain ⟨hx, hb, hml, hown, htab, hlocks, hr, hl0, hfr, hlo, hV, hH, hLS⟩ := hF
  exact lv_lconst hx hb hdg hv k
theorem aw_bipush {mi d pc nx : Nat} {loc : List (Option mAV)} {stk : List mAV} {M : mM} {o : mOut} {M1 : mM} {n : Nat} {i : Int} {v : Int32} (hd : mD mi pc 2 nx (.bipush i)) (hv : (Int8.ofInt i).toInt32 = v) (kk : AW mi d nx loc (vI v :: stk) M o M1 n) : AW mi d pc loc stk M o M1 n := by
  intro D ρ cA bs LS sa xs p l e R s m args below meth c Q cE sE hF hcE hsE hFin H locs ls cells slots hc hs hRep hS hl
  obtain ⟨hdg, rfl⟩ := hd
  have k := kk D ρ cA bs LS sa xs p l e R s m args below meth c Q cE sE hF hcE hsE hFin H locs ls cells slots hc hs hRep hS hl
  obtain ⟨hx, hb, hml, hown, htab, hlocks, hr, hl0, hfr, hlo, hV, hH, hLS⟩ := hF
  exact lv_bipush hx hb hdg hv k
theorem aw_sipush {mi d pc nx : Nat} {loc : List (Option mAV)} {stk : List mAV} {M : mM} {o : mOut} {M1 : mM} {n : Nat} {i : Int} {v : Int32} (hd : mD mi pc 3 nx (.sipush i)) (hv : (Int16.ofInt i).toInt32 = v) (kk : AW mi d nx loc (vI v :: stk) M o M1 n) : AW mi d pc loc stk M o M1 n := by
  intro D ρ cA bs LS sa xs p l e R s m args below meth c Q cE sE hF hcE hsE hFin H locs ls cells slots hc hs hRep hS hl
  obtain ⟨hdg, rfl⟩ := hd
  have k := kk D ρ cA bs LS sa xs p l e R s m args below meth c Q cE sE hF hcE hsE hFin H locs ls cells slots hc hs hRep hS hl
  obtain ⟨hx, hb, hml, hown, htab, hlocks, hr, hl0, hfr, hlo, hV, hH, hLS⟩ := hF
  exact lv_sipush hx hb hdg hv k
theorem aw_ldc {mi d pc nx : Nat} {loc : List (Option mAV)} {stk : List mAV} {M : mM} {o : mOut} {M1 : mM} {n : Nat} {own : String} {i : Nat} {v : Int32} (hd : mD mi pc 2 nx (.ldc i)) (hC : mC mi = own) (hv : Cond.constant own i v ∈ lw_tbl) (kk : AW mi d nx loc (vI v :: stk) M o M1 n) : AW mi d pc loc stk M o M1 n := by
  intro D ρ cA bs LS sa xs p l e R s m args below meth c Q cE sE hF hcE hsE hFin H locs ls cells slots hc hs hRep hS hl
  obtain ⟨hdg, rfl⟩ := hd
  have k := kk D ρ cA bs LS sa xs p l e R s m args below meth c Q cE sE hF hcE hsE hFin H locs ls cells slots hc hs hRep hS hl
  obtain ⟨hx, hb, hml, hown, htab, hlocks, hr, hl0, hfr, hlo, hV, hH, hLS⟩ := hF
  exact lv_ldc hx hb (by rw [hC] at hown; exact hown) (hV.w hv rfl) hdg k
theorem aw_ldc_w {mi d pc nx : Nat} {loc : List (Option mAV)} {stk : List mAV} {M : mM} {o : mOut} {M1 : mM} {n : Nat} {own : String} {i : Nat} {v : Int32} (hd : mD mi pc 3 nx (.ldc_w i)) (hC : mC mi = own) (hv : Cond.constant own i v ∈ lw_tbl) (kk : AW mi d nx loc (vI v :: stk) M o M1 n) : AW mi d pc loc stk M o M1 n := by
  intro D ρ cA bs LS sa xs p l e R s m args below meth c Q cE sE hF hcE hsE hFin H locs ls cells slots hc hs hRep hS hl
  obtain ⟨hdg, rfl⟩ := hd
  have k := kk D ρ cA bs LS sa xs p l e R s m args below meth c Q cE sE hF hcE hsE hFin H locs ls cells slots hc hs hRep hS hl
  obtain ⟨hx, hb, hml, hown, htab, hlocks, hr, hl0, hfr, hlo, hV, hH, hLS⟩ := hF
  exact lv_ldcw hx hb (by rw [hC] at hown; exact hown) (hV.w hv rfl) hdg k
theorem aw_ldc2_w {mi d pc nx : Nat} {loc : List (Option mAV)} {stk : List mAV} {M : mM} {o : mOut} {M1 : mM} {n : Nat} {own : String} {i : Nat} {v : Int64} (hd : mD mi pc 3 nx (.ldc2_w i)) (hC : mC mi = own) (hv : Cond.constantLong own i v ∈ lw_tbl) (kk : AW mi d nx loc (vL v :: stk) M o M1 n) : AW mi d pc loc stk M o M1 n := by
  intro D ρ cA bs LS sa xs p l e R s m args below meth c Q cE sE hF hcE hsE hFin H locs ls cells slots hc hs hRep hS hl
  obtain ⟨hdg, rfl⟩ := hd
  have k := kk D ρ cA bs LS sa xs p l e R s m args below meth c Q cE sE hF hcE hsE hFin H locs ls cells slots hc hs hRep hS hl
  obtain ⟨hx, hb, hml, hown, htab, hlocks, hr, hl0, hfr, hlo, hV, hH, hLS⟩ := hF
  exact lv_ldc2 hx hb (by rw [hC] at hown; exact hown) (hV.w hv rfl) hdg k
theorem aw_iadd {mi d pc nx : Nat} {loc : List (Option mAV)} {stk : List mAV} {M : mM} {o : mOut} {M1 : mM} {n : Nat} {x y : Int32} (hd : mD mi pc 1 nx (.iadd)) (kk : AW mi d nx loc (vI (x + y) :: stk) M o M1 n) : AW mi d pc loc (vI y :: vI x :: stk) M o M1 n := by
  intro D ρ cA bs LS sa xs p l e R s m args below meth c Q cE sE hF hcE hsE hFin H locs ls cells slots hc hs hRep hS hl
  obtain ⟨hdg, rfl⟩ := hd
  have k := kk D ρ cA bs LS sa xs p l e R s m args below meth c Q cE sE hF hcE hsE hFin H locs ls cells slots hc hs hRep hS hl
  obtain ⟨hx, hb, hml, hown, htab, hlocks, hr, hl0, hfr, hlo, hV, hH, hLS⟩ := hF
  exact lv_iadd hx hb hdg k
theorem aw_isub {mi d pc nx : Nat} {loc : List (Option mAV)} {stk : List mAV} {M : mM} {o : mOut} {M1 : mM} {n : Nat} {x y : Int32} (hd : mD mi pc 1 nx (.isub)) (kk : AW mi d nx loc (vI (x - y) :: stk) M o M1 n) : AW mi d pc loc (vI y :: vI x :: stk) M o M1 n := by
  intro D ρ cA bs LS sa xs p l e R s m args below meth c Q cE sE hF hcE hsE hFin H locs ls cells slots hc hs hRep hS hl
  obtain ⟨hdg, rfl⟩ := hd
  have k := kk D ρ cA bs LS sa xs p l e R s m args below meth c Q cE sE hF hcE hsE hFin H locs ls cells slots hc hs hRep hS hl
  obtain ⟨hx, hb, hml, hown, htab, hlocks, hr, hl0, hfr, hlo, hV, hH, hLS⟩ := hF
  exact lv_isub hx hb hdg k
theorem aw_imul {mi d pc nx : Nat} {loc : List (Option mAV)} {stk : List mAV} {M : mM} {o : mOut} {M1 : mM} {n : Nat} {x y : Int32} (hd : mD mi pc 1 nx (.imul)) (kk : AW mi d nx loc (vI (x * y) :: stk) M o M1 n) : AW mi d pc loc (vI y :: vI x :: stk) M o M1 n := by
  intro D ρ cA bs LS sa xs p l e R s m args below meth c Q cE sE hF hcE hsE hFin H locs ls cells slots hc hs hRep hS hl
  obtain ⟨hdg, rfl⟩ := hd
  have k := kk D ρ cA bs LS sa xs p l e R s m args below meth c Q cE sE hF hcE hsE hFin H locs ls cells slots hc hs hRep hS hl
  obtain ⟨hx, hb, hml, hown, htab, hlocks, hr, hl0, hfr, hlo, hV, hH, hLS⟩ := hF
  exact lv_imul hx hb hdg k
theorem aw_iand {mi d pc nx : Nat} {loc : List (Option mAV)} {stk : List mAV} {M : mM} {o : mOut} {M1 : mM} {n : Nat} {x y : Int32} (hd : mD mi pc 1 nx (.iand)) (kk : AW mi d nx loc (vI (x &&& y) :: stk) M o M1 n) : AW mi d pc loc (vI y :: vI x :: stk) M o M1 n := by
  intro D ρ cA bs LS sa xs p l e R s m args below meth c Q cE sE hF hcE hsE hFin H locs ls cells slots hc hs hRep hS hl
  obtain ⟨hdg, rfl⟩ := hd
  have k := kk D ρ cA bs LS sa xs p l e R s m args below meth c Q cE sE hF hcE hsE hFin H locs ls cells slots hc hs hRep hS hl
  obtain ⟨hx, hb, hml, hown, htab, hlocks, hr, hl0, hfr, hlo, hV, hH, hLS⟩ := hF
  exact lv_iand hx hb hdg k
theorem aw_ixor {mi d pc nx : Nat} {loc : List (Option mAV)} {stk : List mAV} {M : mM} {o : mOut} {M1 : mM} {n : Nat} {x y : Int32} (hd : mD mi pc 1 nx (.ixor)) (kk : AW mi d nx loc (vI (x ^^^ y) :: stk) M o M1 n) : AW mi d pc loc (vI y :: vI x :: stk) M o M1 n := by
  intro D ρ cA bs LS sa xs p l e R s m args below meth c Q cE sE hF hcE hsE hFin H locs ls cells slots hc hs hRep hS hl
  obtain ⟨hdg, rfl⟩ := hd
  have k := kk D ρ cA bs LS sa xs p l e R s m args below meth c Q cE sE hF hcE hsE hFin H locs ls cells slots hc hs hRep hS hl
  obtain ⟨hx, hb, hml, hown, htab, hlocks, hr, hl0, hfr, hlo, hV, hH, hLS⟩ := hF
  exact lv_ixor hx hb hdg k
theorem aw_ishl {mi d pc nx : Nat} {loc : List (Option mAV)} {stk : List mAV} {M : mM} {o : mOut} {M1 : mM} {n : Nat} {x y : Int32} (hd : mD mi pc 1 nx (.ishl)) (kk : AW mi d nx loc (vI (x <<< (y &&& 31)) :: stk) M o M1 n) : AW mi d pc loc (vI y :: vI x :: stk) M o M1 n := by
  intro D ρ cA bs LS sa xs p l e R s m args below meth c Q cE sE hF hcE hsE hFin H locs ls cells slots hc hs hRep hS hl
  obtain ⟨hdg, rfl⟩ := hd
  have k := kk D ρ cA bs LS sa xs p l e R s m args below meth c Q cE sE hF hcE hsE hFin H locs ls cells slots hc hs hRep hS hl
  obtain ⟨hx, hb, hml, hown, htab, hlocks, hr, hl0, hfr, hlo, hV, hH, hLS⟩ := hF
  exact lv_ishl hx hb hdg k
theorem aw_ishr {mi d pc nx : Nat} {loc : List (Option mAV)} {stk : List mAV} {M : mM} {o : mOut} {M1 : mM} {n : Nat} {x y : Int32} (hd : mD mi pc 1 nx (.ishr)) (kk : AW mi d nx loc (vI (x >>> (y &&& 31)) :: stk) M o M1 n) : AW mi d pc loc (vI y :: vI x :: stk) M o M1 n := by
  intro D ρ cA bs LS sa xs p l e R s m args below meth c Q cE sE hF hcE hsE hFin H locs ls cells slots hc hs hRep hS hl
  obtain ⟨hdg, rfl⟩ := hd
  have k := kk D ρ cA bs LS sa xs p l e R s m args below meth c Q cE sE hF hcE hsE hFin H locs ls cells slots hc hs hRep hS hl
  obtain ⟨hx, hb, hml, hown, htab, hlocks, hr, hl0, hfr, hlo, hV, hH, hLS⟩ := hF
  exact lv_ishr hx hb hdg k
theorem aw_idiv {mi d pc nx : Nat} {loc : List (Option mAV)} {stk : List mAV} {M : mM} {o : mOut} {M1 : mM} {n : Nat} {x y : Int32} (hd : mD mi pc 1 nx (.idiv)) (hne : ¬ y = 0) (kk : AW mi d nx loc (vI (x / y) :: stk) M o M1 n) : AW mi d pc loc (vI y :: vI x :: stk) M o M1 n := by
  intro D ρ cA bs LS sa xs p l e R s m args below meth c Q cE sE hF hcE hsE hFin H locs ls cells slots hc hs hRep hS hl
  obtain ⟨hdg, rfl⟩ := hd
  have k := kk D ρ cA bs LS sa xs p l e R s m args below meth c Q cE sE hF hcE hsE hFin H locs ls cells slots hc hs hRep hS hl
  obtain ⟨hx, hb, hml, hown, htab, hlocks, hr, hl0, hfr, hlo, hV, hH, hLS⟩ := hF
  exact lv_idiv hx hb hdg hne k
theorem aw_irem {mi d pc nx : Nat} {loc : List (Option mAV)} {stk : List mAV} {M : mM} {o : mOut} {M1 : mM} {n : Nat} {x y : Int32} (hd : mD mi pc 1 nx (.irem)) (hne : ¬ y = 0) (kk : AW mi d nx loc (vI (x - x / y * y) :: stk) M o M1 n) : AW mi d pc loc (vI y :: vI x :: stk) M o M1 n := by
  intro D ρ cA bs LS sa xs p l e R s m args below meth c Q cE sE hF hcE hsE hFin H locs ls cells slots hc hs hRep hS hl
  obtain ⟨hdg, rfl⟩ := hd
  have k := kk D ρ cA bs LS sa xs p l e R s m args below meth c Q cE sE hF hcE hsE hFin H locs ls cells slots hc hs hRep hS hl
  obtain ⟨hx, hb, hml, hown, htab, hlocks, hr, hl0, hfr, hlo, hV, hH, hLS⟩ := hF
  exact lv_irem hx hb hdg hne k
theorem aw_ladd {mi d pc nx : Nat} {loc : List (Option mAV)} {stk : List mAV} {M : mM} {o : mOut} {M1 : mM} {n : Nat} {x y : Int64} (hd : mD mi pc 1 nx (.ladd)) (kk : AW mi d nx loc (vL (x + y) :: stk) M o M1 n) : AW mi d pc loc (vL y :: vL x :: stk) M o M1 n := by
  intro D ρ cA bs LS sa xs p l e R s m args below meth c Q cE sE hF hcE hsE hFin H locs ls cells slots hc hs hRep hS hl
  obtain ⟨hdg, rfl⟩ := hd
  have k := kk D ρ cA bs LS sa xs p l e R s m args below meth c Q cE sE hF hcE hsE hFin H locs ls cells slots hc hs hRep hS hl
  obtain ⟨hx, hb, hml, hown, htab, hlocks, hr, hl0, hfr, hlo, hV, hH, hLS⟩ := hF
  exact lv_ladd hx hb hdg k
theorem aw_lsub {mi d pc nx : Nat} {loc : List (Option mAV)} {stk : List mAV} {M : mM} {o : mOut} {M1 : mM} {n : Nat} {x y : Int64} (hd : mD mi pc 1 nx (.lsub)) (kk : AW mi d nx loc (vL (x - y) :: stk) M o M1 n) : AW mi d pc loc (vL y :: vL x :: stk) M o M1 n := by
  intro D ρ cA bs LS sa xs p l e R s m args below meth c Q cE sE hF hcE hsE hFin H locs ls cells slots hc hs hRep hS hl
  obtain ⟨hdg, rfl⟩ := hd
  have k := kk D ρ cA bs LS sa xs p l e R s m args below meth c Q cE sE hF hcE hsE hFin H locs ls cells slots hc hs hRep hS hl
  obtain ⟨hx, hb, hml, hown, htab, hlocks, hr, hl0, hfr, hlo, hV, hH, hLS⟩ := hF
  exact lv_lsub hx hb hdg k
theorem aw_lmul {mi d pc nx : Nat} {loc : List (Option mAV)} {stk : List mAV} {M : mM} {o : mOut} {M1 : mM} {n : Nat} {x y : Int64} (hd : mD mi pc 1 nx (.lmul)) (kk : AW mi d nx loc (vL (x * y) :: stk) M o M1 n) : AW mi d pc loc (vL y :: vL x :: stk) M o M1 n := by
  intro D ρ cA bs LS sa xs p l e R s m args below meth c Q cE sE hF hcE hsE hFin H locs ls cells slots hc hs hRep hS hl
  obtain ⟨hdg, rfl⟩ := hd
  have k := kk D ρ cA bs LS sa xs p l e R s m args below meth c Q cE sE hF hcE hsE hFin H locs ls cells slots hc hs hRep hS hl
  obtain ⟨hx, hb, hml, hown, htab, hlocks, hr, hl0, hfr, hlo, hV, hH, hLS⟩ := hF
  exact lv_lmul hx hb hdg k
theorem aw_lxor {mi d pc nx : Nat} {loc : List (Option mAV)} {stk : List mAV} {M : mM} {o : mOut} {M1 : mM} {n : Nat} {x y : Int64} (hd : mD mi pc 1 nx (.lxor)) (kk : AW mi d nx loc (vL (x ^^^ y) :: stk) M o M1 n) : AW mi d pc loc (vL y :: vL x :: stk) M o M1 n := by
  intro D ρ cA bs LS sa xs p l e R s m args below meth c Q cE sE hF hcE hsE hFin H locs ls cells slots hc hs hRep hS hl
  obtain ⟨hdg, rfl⟩ := hd
  have k := kk D ρ cA bs LS sa xs p l e R s m args below meth c Q cE sE hF hcE hsE hFin H locs ls cells slots hc hs hRep hS hl
  obtain ⟨hx, hb, hml, hown, htab, hlocks, hr, hl0, hfr, hlo, hV, hH, hLS⟩ := hF
  exact lv_lxor hx hb hdg k
theorem aw_ldiv {mi d pc nx : Nat} {loc : List (Option mAV)} {stk : List mAV} {M : mM} {o : mOut} {M1 : mM} {n : Nat} {x y : Int64} (hd : mD mi pc 1 nx (.ldiv)) (hne : ¬ y = 0) (kk : AW mi d nx loc (vL (x / y) :: stk) M o M1 n) : AW mi d pc loc (vL y :: vL x :: stk) M o M1 n := by
  intro D ρ cA bs LS sa xs p l e R s m args below meth c Q cE sE hF hcE hsE hFin H locs ls cells slots hc hs hRep hS hl
  obtain ⟨hdg, rfl⟩ := hd
  have k := kk D ρ cA bs LS sa xs p l e R s m args below meth c Q cE sE hF hcE hsE hFin H locs ls cells slots hc hs hRep hS hl
  obtain ⟨hx, hb, hml, hown, htab, hlocks, hr, hl0, hfr, hlo, hV, hH, hLS⟩ := hF
  exact lv_ldiv hx hb hdg hne k
theorem aw_lrem {mi d pc nx : Nat} {loc : List (Option mAV)} {stk : List mAV} {M : mM} {o : mOut} {M1 : mM} {n : Nat} {x y : Int64} (hd : mD mi pc 1 nx (.lrem)) (hne : ¬ y = 0) (kk : AW mi d nx loc (vL (x - x / y * y) :: stk) M o M1 n) : AW mi d pc loc (vL y :: vL x :: stk) M o M1 n := by
  intro D ρ cA bs LS sa xs p l e R s m args below meth c Q cE sE hF hcE hsE hFin H locs ls cells slots hc hs hRep hS hl
  obtain ⟨hdg, rfl⟩ := hd
  have k := kk D ρ cA bs LS sa xs p l e R s m args below meth c Q cE sE hF hcE hsE hFin H locs ls cells slots hc hs hRep hS hl
  obtain ⟨hx, hb, hml, hown, htab, hlocks, hr, hl0, hfr, hlo, hV, hH, hLS⟩ := hF
  exact lv_lrem hx hb hdg hne k
theorem aw_ineg {mi d pc nx : Nat} {loc : List (Option mAV)} {stk : List mAV} {M : mM} {o : mOut} {M1 : mM} {n : Nat} {x : Int32} (hd : mD mi pc 1 nx (.ineg)) (kk : AW mi d nx loc (vI (-x) :: stk) M o M1 n) : AW mi d pc loc (vI x :: stk) M o M1 n := by
  intro D ρ cA bs LS sa xs p l e R s m args below meth c Q cE sE hF hcE hsE hFin H locs ls cells slots hc hs hRep hS hl
  obtain ⟨hdg, rfl⟩ := hd
  have k := kk D ρ cA bs LS sa xs p l e R s m args below meth c Q cE sE hF hcE hsE hFin H locs ls cells slots hc hs hRep hS hl
  obtain ⟨hx, hb, hml, hown, htab, hlocks, hr, hl0, hfr, hlo, hV, hH, hLS⟩ := hF
  exact lv_ineg hx hb hdg k
theorem aw_lneg {mi d pc nx : Nat} {loc : List (Option mAV)} {stk : List mAV} {M : mM} {o : mOut} {M1 : mM} {n : Nat} {x : Int64} (hd : mD mi pc 1 nx (.lneg)) (kk : AW mi d nx loc (vL (-x) :: stk) M o M1 n) : AW mi d pc loc (vL x :: stk) M o M1 n := by
  intro D ρ cA bs LS sa xs p l e R s m args below meth c Q cE sE hF hcE hsE hFin H locs ls cells slots hc hs hRep hS hl
  obtain ⟨hdg, rfl⟩ := hd
  have k := kk D ρ cA bs LS sa xs p l e R s m args below meth c Q cE sE hF hcE hsE hFin H locs ls cells slots hc hs hRep hS hl
  obtain ⟨hx, hb, hml, hown, htab, hlocks, hr, hl0, hfr, hlo, hV, hH, hLS⟩ := hF
  exact lv_lneg hx hb hdg k
theorem aw_i2l {mi d pc nx : Nat} {loc : List (Option mAV)} {stk : List mAV} {M : mM} {o : mOut} {M1 : mM} {n : Nat} {x : Int32} (hd : mD mi pc 1 nx (.i2l)) (kk : AW mi d nx loc (vL x.toInt64 :: stk) M o M1 n) : AW mi d pc loc (vI x :: stk) M o M1 n := by
  intro D ρ cA bs LS sa xs p l e R s m args below meth c Q cE sE hF hcE hsE hFin H locs ls cells slots hc hs hRep hS hl
  obtain ⟨hdg, rfl⟩ := hd
  have k := kk D ρ cA bs LS sa xs p l e R s m args below meth c Q cE sE hF hcE hsE hFin H locs ls cells slots hc hs hRep hS hl
  obtain ⟨hx, hb, hml, hown, htab, hlocks, hr, hl0, hfr, hlo, hV, hH, hLS⟩ := hF
  exact lv_i2l hx hb hdg rfl k
theorem aw_l2i {mi d pc nx : Nat} {loc : List (Option mAV)} {stk : List mAV} {M : mM} {o : mOut} {M1 : mM} {n : Nat} {x : Int64} (hd : mD mi pc 1 nx (.l2i)) (kk : AW mi d nx loc (vI x.toInt32 :: stk) M o M1 n) : AW mi d pc loc (vL x :: stk) M o M1 n := by
  intro D ρ cA bs LS sa xs p l e R s m args below meth c Q cE sE hF hcE hsE hFin H locs ls cells slots hc hs hRep hS hl
  obtain ⟨hdg, rfl⟩ := hd
  have k := kk D ρ cA bs LS sa xs p l e R s m args below meth c Q cE sE hF hcE hsE hFin H locs ls cells slots hc hs hRep hS hl
  obtain ⟨hx, hb, hml, hown, htab, hlocks, hr, hl0, hfr, hlo, hV, hH, hLS⟩ := hF
  exact lv_l2i hx hb hdg rfl k
theorem aw_i2c {mi d pc nx : Nat} {loc : List (Option mAV)} {stk : List mAV} {M : mM} {o : mOut} {M1 : mM} {n : Nat} {x : Int32} (hd : mD mi pc 1 nx (.i2c)) (kk : AW mi d nx loc (vI (x.toUInt32 % 65536).toInt32 :: stk) M o M1 n) : AW mi d pc loc (vI x :: stk) M o M1 n := by
  intro D ρ cA bs LS sa xs p l e R s m args below meth c Q cE sE hF hcE hsE hFin H locs ls cells slots hc hs hRep hS hl
  obtain ⟨hdg, rfl⟩ := hd
  have k := kk D ρ cA bs LS sa xs p l e R s m args below meth c Q cE sE hF hcE hsE hFin H locs ls cells slots hc hs hRep hS hl
  obtain ⟨hx, hb, hml, hown, htab, hlocks, hr, hl0, hfr, hlo, hV, hH, hLS⟩ := hF
  exact lv_i2c hx hb hdg rfl k
theorem aw_lcmp {mi d pc nx : Nat} {loc : List (Option mAV)} {stk : List mAV} {M : mM} {o : mOut} {M1 : mM} {n : Nat} {x y : Int64} (hd : mD mi pc 1 nx (.lcmp)) (kk : AW mi d nx loc (vI (lg_cmp x y) :: stk) M o M1 n) : AW mi d pc loc (vL y :: vL x :: stk) M o M1 n := by
  intro D ρ cA bs LS sa xs p l e R s m args below meth c Q cE sE hF hcE hsE hFin H locs ls cells slots hc hs hRep hS hl
  obtain ⟨hdg, rfl⟩ := hd
  have k := kk D ρ cA bs LS sa xs p l e R s m args below meth c Q cE sE hF hcE hsE hFin H locs ls cells slots hc hs hRep hS hl
  obtain ⟨hx, hb, hml, hown, htab, hlocks, hr, hl0, hfr, hlo, hV, hH, hLS⟩ := hF
  exact W.lcmp hx hb hdg k
theorem aw_dupI {mi d pc nx : Nat} {loc : List (Option mAV)} {stk : List mAV} {M : mM} {o : mOut} {M1 : mM} {n : Nat} {x : Int32} (hd : mD mi pc 1 nx (.dup)) (kk : AW mi d nx loc (vI x :: vI x :: stk) M o M1 n) : AW mi d pc loc (vI x :: stk) M o M1 n := by
  intro D ρ cA bs LS sa xs p l e R s m args below meth c Q cE sE hF hcE hsE hFin H locs ls cells slots hc hs hRep hS hl
  obtain ⟨hdg, rfl⟩ := hd
  have k := kk D ρ cA bs LS sa xs p l e R s m args below meth c Q cE sE hF hcE hsE hFin H locs ls cells slots hc hs hRep hS hl
  obtain ⟨hx, hb, hml, hown, htab, hlocks, hr, hl0, hfr, hlo, hV, hH, hLS⟩ := hF
  exact lv_dup hx hb hdg rfl k
theorem aw_dupR {mi d pc nx : Nat} {loc : List (Option mAV)} {stk : List mAV} {M : mM} {o : mOut} {M1 : mM} {n : Nat} {a b c0 : Nat} (hd : mD mi pc 1 nx (.dup)) (kk : AW mi d nx loc (vR a b c0 :: vR a b c0 :: stk) M o M1 n) : AW mi d pc loc (vR a b c0 :: stk) M o M1 n := by
  intro D ρ cA bs LS sa xs p l e R s m args below meth c Q cE sE hF hcE hsE hFin H locs ls cells slots hc hs hRep hS hl
  obtain ⟨hdg, rfl⟩ := hd
  have k := kk D ρ cA bs LS sa xs p l e R s m args below meth c Q cE sE hF hcE hsE hFin H locs ls cells slots hc hs hRep hS hl
  obtain ⟨hx, hb, hml, hown, htab, hlocks, hr, hl0, hfr, hlo, hV, hH, hLS⟩ := hF
  exact lv_dup hx hb hdg rfl k
theorem aw_dup2IR {mi d pc nx : Nat} {loc : List (Option mAV)} {stk : List mAV} {M : mM} {o : mOut} {M1 : mM} {n : Nat} {x : Int32} {a b c0 : Nat} (hd : mD mi pc 1 nx (.dup2)) (kk : AW mi d nx loc (vI x :: vR a b c0 :: vI x :: vR a b c0 :: stk) M o M1 n) : AW mi d pc loc (vI x :: vR a b c0 :: stk) M o M1 n := by
  intro D ρ cA bs LS sa xs p l e R s m args below meth c Q cE sE hF hcE hsE hFin H locs ls cells slots hc hs hRep hS hl
  obtain ⟨hdg, rfl⟩ := hd
  have k := kk D ρ cA bs LS sa xs p l e R s m args below meth c Q cE sE hF hcE hsE hFin H locs ls cells slots hc hs hRep hS hl
  obtain ⟨hx, hb, hml, hown, htab, hlocks, hr, hl0, hfr, hlo, hV, hH, hLS⟩ := hF
  exact lv_dup2_11 hx hb hdg rfl rfl k
theorem aw_popI {mi d pc nx : Nat} {loc : List (Option mAV)} {stk : List mAV} {M : mM} {o : mOut} {M1 : mM} {n : Nat} {x : Int32} (hd : mD mi pc 1 nx (.pop)) (kk : AW mi d nx loc stk M o M1 n) : AW mi d pc loc (vI x :: stk) M o M1 n := by
  intro D ρ cA bs LS sa xs p l e R s m args below meth c Q cE sE hF hcE hsE hFin H locs ls cells slots hc hs hRep hS hl
  obtain ⟨hdg, rfl⟩ := hd
  have k := kk D ρ cA bs LS sa xs p l e R s m args below meth c Q cE sE hF hcE hsE hFin H locs ls cells slots hc hs hRep hS hl
  obtain ⟨hx, hb, hml, hown, htab, hlocks, hr, hl0, hfr, hlo, hV, hH, hLS⟩ := hF
  exact lv_pop hx hb hdg rfl k
theorem aw_goto {mi d pc nx : Nat} {loc : List (Option mAV)} {stk : List mAV} {M : mM} {o : mOut} {M1 : mM} {n : Nat} {off : Int} {t : Nat} (hd : mD mi pc 3 nx (.goto off)) (ht : (pc : Int) + off = (t : Int)) (kk : AW mi d t loc stk M o M1 n) : AW mi d pc loc stk M o M1 n := by
  intro D ρ cA bs LS sa xs p l e R s m args below meth c Q cE sE hF hcE hsE hFin H locs ls cells slots hc hs hRep hS hl
  obtain ⟨hdg, rfl⟩ := hd
  have k := kk D ρ cA bs LS sa xs p l e R s m args below meth c Q cE sE hF hcE hsE hFin H locs ls cells slots hc hs hRep hS hl
  obtain ⟨hx, hb, hml, hown, htab, hlocks, hr, hl0, hfr, hlo, hV, hH, hLS⟩ := hF
  exact lv_goto hx hb hdg ht k
theorem aw_if_eq {mi d pc nx : Nat} {loc : List (Option mAV)} {stk : List mAV} {M : mM} {o : mOut} {M1 : mM} {n : Nat} {x : Int32} {off : Int} (t : Nat) (hd : mD mi pc 3 nx (.ifCond .eq off)) (ht : (pc : Int) + off = (t : Int)) (kt : x = 0 → AW mi d t loc stk M o M1 n) (kf : ¬ x = 0 → AW mi d nx loc stk M o M1 n) : AW mi d pc loc (vI x :: stk) M o M1 n := by
  intro D ρ cA bs LS sa xs p l e R s m args below meth c Q cE sE hF hcE hsE hFin H locs ls cells slots hc hs hRep hS hl
  obtain ⟨hdg, rfl⟩ := hd
  have k1 := fun q => kt q D ρ cA bs LS sa xs p l e R s m args below meth c Q cE sE hF hcE hsE hFin H locs ls cells slots hc hs hRep hS hl
  have k2 := fun q => kf q D ρ cA bs LS sa xs p l e R s m args below meth c Q cE sE hF hcE hsE hFin H locs ls cells slots hc hs hRep hS hl
  obtain ⟨hx, hb, hml, hown, htab, hlocks, hr, hl0, hfr, hlo, hV, hH, hLS⟩ := hF
  exact lv_if_eq hx hb hdg ht k1 k2
theorem aw_icmp_eq {mi d pc nx : Nat} {loc : List (Option mAV)} {stk : List mAV} {M : mM} {o : mOut} {M1 : mM} {n : Nat} {x y : Int32} {off : Int} (t : Nat) (hd : mD mi pc 3 nx (.if_icmp .eq off)) (ht : (pc : Int) + off = (t : Int)) (kt : x = y → AW mi d t loc stk M o M1 n) (kf : ¬ x = y → AW mi d nx loc stk M o M1 n) : AW mi d pc loc (vI y :: vI x :: stk) M o M1 n := by
  intro D ρ cA bs LS sa xs p l e R s m args below meth c Q cE sE hF hcE hsE hFin H locs ls cells slots hc hs hRep hS hl
  obtain ⟨hdg, rfl⟩ := hd
  have k1 := fun q => kt q D ρ cA bs LS sa xs p l e R s m args below meth c Q cE sE hF hcE hsE hFin H locs ls cells slots hc hs hRep hS hl
  have k2 := fun q => kf q D ρ cA bs LS sa xs p l e R s m args below meth c Q cE sE hF hcE hsE hFin H locs ls cells slots hc hs hRep hS hl
  obtain ⟨hx, hb, hml, hown, htab, hlocks, hr, hl0, hfr, hlo, hV, hH, hLS⟩ := hF
  exact lv_icmp_eq hx hb hdg ht k1 k2
theorem aw_if_ne {mi d pc nx : Nat} {loc : List (Option mAV)} {stk : List mAV} {M : mM} {o : mOut} {M1 : mM} {n : Nat} {x : Int32} {off : Int} (t : Nat) (hd : mD mi pc 3 nx (.ifCond .ne off)) (ht : (pc : Int) + off = (t : Int)) (kt : ¬ x = 0 → AW mi d t loc stk M o M1 n) (kf : x = 0 → AW mi d nx loc stk M o M1 n) : AW mi d pc loc (vI x :: stk) M o M1 n := by
  intro D ρ cA bs LS sa xs p l e R s m args below meth c Q cE sE hF hcE hsE hFin H locs ls cells slots hc hs hRep hS hl
  obtain ⟨hdg, rfl⟩ := hd
  have k1 := fun q => kt q D ρ cA bs LS sa xs p l e R s m args below meth c Q cE sE hF hcE hsE hFin H locs ls cells slots hc hs hRep hS hl
  have k2 := fun q => kf q D ρ cA bs LS sa xs p l e R s m args below meth c Q cE sE hF hcE hsE hFin H locs ls cells slots hc hs hRep hS hl
  obtain ⟨hx, hb, hml, hown, htab, hlocks, hr, hl0, hfr, hlo, hV, hH, hLS⟩ := hF
  exact lv_if_ne hx hb hdg ht k1 k2
theorem aw_icmp_ne {mi d pc nx : Nat} {loc : List (Option mAV)} {stk : List mAV} {M : mM} {o : mOut} {M1 : mM} {n : Nat} {x y : Int32} {off : Int} (t : Nat) (hd : mD mi pc 3 nx (.if_icmp .ne off)) (ht : (pc : Int) + off = (t : Int)) (kt : ¬ x = y → AW mi d t loc stk M o M1 n) (kf : x = y → AW mi d nx loc stk M o M1 n) : AW mi d pc loc (vI y :: vI x :: stk) M o M1 n := by
  intro D ρ cA bs LS sa xs p l e R s m args below meth c Q cE sE hF hcE hsE hFin H locs ls cells slots hc hs hRep hS hl
  obtain ⟨hdg, rfl⟩ := hd
  have k1 := fun q => kt q D ρ cA bs LS sa xs p l e R s m args below meth c Q cE sE hF hcE hsE hFin H locs ls cells slots hc hs hRep hS hl
  have k2 := fun q => kf q D ρ cA bs LS sa xs p l e R s m args below meth c Q cE sE hF hcE hsE hFin H locs ls cells slots hc hs hRep hS hl
  obtain ⟨hx, hb, hml, hown, htab, hlocks, hr, hl0, hfr, hlo, hV, hH, hLS⟩ := hF
  exact lv_icmp_ne hx hb hdg ht k1 k2
theorem aw_if_lt {mi d pc nx : Nat} {loc : List (Option mAV)} {stk : List mAV} {M : mM} {o : mOut} {M1 : mM} {n : Nat} {x : Int32} {off : Int} (t : Nat) (hd : mD mi pc 3 nx (.ifCond .lt off)) (ht : (pc : Int) + off = (t : Int)) (kt : x < 0 → AW mi d t loc stk M o M1 n) (kf : ¬ x < 0 → AW mi d nx loc stk M o M1 n) : AW mi d pc loc (vI x :: stk) M o M1 n := by
  intro D ρ cA bs LS sa xs p l e R s m args below meth c Q cE sE hF hcE hsE hFin H locs ls cells slots hc hs hRep hS hl
  obtain ⟨hdg, rfl⟩ := hd
  have k1 := fun q => kt q D ρ cA bs LS sa xs p l e R s m args below meth c Q cE sE hF hcE hsE hFin H locs ls cells slots hc hs hRep hS hl
  have k2 := fun q => kf q D ρ cA bs LS sa xs p l e R s m args below meth c Q cE sE hF hcE hsE hFin H locs ls cells slots hc hs hRep hS hl
  obtain ⟨hx, hb, hml, hown, htab, hlocks, hr, hl0, hfr, hlo, hV, hH, hLS⟩ := hF
  exact lv_if_lt hx hb hdg ht k1 k2
theorem aw_icmp_lt {mi d pc nx : Nat} {loc : List (Option mAV)} {stk : List mAV} {M : mM} {o : mOut} {M1 : mM} {n : Nat} {x y : Int32} {off : Int} (t : Nat) (hd : mD mi pc 3 nx (.if_icmp .lt off)) (ht : (pc : Int) + off = (t : Int)) (kt : x < y → AW mi d t loc stk M o M1 n) (kf : ¬ x < y → AW mi d nx loc stk M o M1 n) : AW mi d pc loc (vI y :: vI x :: stk) M o M1 n := by
  intro D ρ cA bs LS sa xs p l e R s m args below meth c Q cE sE hF hcE hsE hFin H locs ls cells slots hc hs hRep hS hl
  obtain ⟨hdg, rfl⟩ := hd
  have k1 := fun q => kt q D ρ cA bs LS sa xs p l e R s m args below meth c Q cE sE hF hcE hsE hFin H locs ls cells slots hc hs hRep hS hl
  have k2 := fun q => kf q D ρ cA bs LS sa xs p l e R s m args below meth c Q cE sE hF hcE hsE hFin H locs ls cells slots hc hs hRep hS hl
  obtain ⟨hx, hb, hml, hown, htab, hlocks, hr, hl0, hfr, hlo, hV, hH, hLS⟩ := hF
  exact lv_icmp_lt hx hb hdg ht k1 k2
theorem aw_if_ge {mi d pc nx : Nat} {loc : List (Option mAV)} {stk : List mAV} {M : mM} {o : mOut} {M1 : mM} {n : Nat} {x : Int32} {off : Int} (t : Nat) (hd : mD mi pc 3 nx (.ifCond .ge off)) (ht : (pc : Int) + off = (t : Int)) (kt : 0 ≤ x → AW mi d t loc stk M o M1 n) (kf : ¬ 0 ≤ x → AW mi d nx loc stk M o M1 n) : AW mi d pc loc (vI x :: stk) M o M1 n := by
  intro D ρ cA bs LS sa xs p l e R s m args below meth c Q cE sE hF hcE hsE hFin H locs ls cells slots hc hs hRep hS hl
  obtain ⟨hdg, rfl⟩ := hd
  have k1 := fun q => kt q D ρ cA bs LS sa xs p l e R s m args below meth c Q cE sE hF hcE hsE hFin H locs ls cells slots hc hs hRep hS hl
  have k2 := fun q => kf q D ρ cA bs LS sa xs p l e R s m args below meth c Q cE sE hF hcE hsE hFin H locs ls cells slots hc hs hRep hS hl
  obtain ⟨hx, hb, hml, hown, htab, hlocks, hr, hl0, hfr, hlo, hV, hH, hLS⟩ := hF
  exact lv_if_ge hx hb hdg ht k1 k2
theorem aw_icmp_ge {mi d pc nx : Nat} {loc : List (Option mAV)} {stk : List mAV} {M : mM} {o : mOut} {M1 : mM} {n : Nat} {x y : Int32} {off : Int} (t : Nat) (hd : mD mi pc 3 nx (.if_icmp .ge off)) (ht : (pc : Int) + off = (t : Int)) (kt : y ≤ x → AW mi d t loc stk M o M1 n) (kf : ¬ y ≤ x → AW mi d nx loc stk M o M1 n) : AW mi d pc loc (vI y :: vI x :: stk) M o M1 n := by
  intro D ρ cA bs LS sa xs p l e R s m args below meth c Q cE sE hF hcE hsE hFin H locs ls cells slots hc hs hRep hS hl
  obtain ⟨hdg, rfl⟩ := hd
  have k1 := fun q => kt q D ρ cA bs LS sa xs p l e R s m args below meth c Q cE sE hF hcE hsE hFin H locs ls cells slots hc hs hRep hS hl
  have k2 := fun q => kf q D ρ cA bs LS sa xs p l e R s m args below meth c Q cE sE hF hcE hsE hFin H locs ls cells slots hc hs hRep hS hl
  obtain ⟨hx, hb, hml, hown, htab, hlocks, hr, hl0, hfr, hlo, hV, hH, hLS⟩ := hF
  exact lv_icmp_ge hx hb hdg ht k1 k2
theorem aw_if_gt {mi d pc nx : Nat} {loc : List (Option mAV)} {stk : List mAV} {M : mM} {o : mOut} {M1 : mM} {n : Nat} {x : Int32} {off : Int} (t : Nat) (hd : mD mi pc 3 nx (.ifCond .gt off)) (ht : (pc : Int) + off = (t : Int)) (kt : 0 < x → AW mi d t loc stk M o M1 n) (kf : ¬ 0 < x → AW mi d nx loc stk M o M1 n) : AW mi d pc loc (vI x :: stk) M o M1 n := by
  intro D ρ cA bs LS sa xs p l e R s m args below meth c Q cE sE hF hcE hsE hFin H locs ls cells slots hc hs hRep hS hl
  obtain ⟨hdg, rfl⟩ := hd
  have k1 := fun q => kt q D ρ cA bs LS sa xs p l e R s m args below meth c Q cE sE hF hcE hsE hFin H locs ls cells slots hc hs hRep hS hl
  have k2 := fun q => kf q D ρ cA bs LS sa xs p l e R s m args below meth c Q cE sE hF hcE hsE hFin H locs ls cells slots hc hs hRep hS hl
  obtain ⟨hx, hb, hml, hown, htab, hlocks, hr, hl0, hfr, hlo, hV, hH, hLS⟩ := hF
  exact lv_if_gt hx hb hdg ht k1 k2
theorem aw_icmp_gt {mi d pc nx : Nat} {loc : List (Option mAV)} {stk : List mAV} {M : mM} {o : mOut} {M1 : mM} {n : Nat} {x y : Int32} {off : Int} (t : Nat) (hd : mD mi pc 3 nx (.if_icmp .gt off)) (ht : (pc : Int) + off = (t : Int)) (kt : y < x → AW mi d t loc stk M o M1 n) (kf : ¬ y < x → AW mi d nx loc stk M o M1 n) : AW mi d pc loc (vI y :: vI x :: stk) M o M1 n := by
  intro D ρ cA bs LS sa xs p l e R s m args below meth c Q cE sE hF hcE hsE hFin H locs ls cells slots hc hs hRep hS hl
  obtain ⟨hdg, rfl⟩ := hd
  have k1 := fun q => kt q D ρ cA bs LS sa xs p l e R s m args below meth c Q cE sE hF hcE hsE hFin H locs ls cells slots hc hs hRep hS hl
  have k2 := fun q => kf q D ρ cA bs LS sa xs p l e R s m args below meth c Q cE sE hF hcE hsE hFin H locs ls cells slots hc hs hRep hS hl
  obtain ⟨hx, hb, hml, hown, htab, hlocks, hr, hl0, hfr, hlo, hV, hH, hLS⟩ := hF
  exact lv_icmp_gt hx hb hdg ht k1 k2
theorem aw_if_le {mi d pc nx : Nat} {loc : List (Option mAV)} {stk : List mAV} {M : mM} {o : mOut} {M1 : mM} {n : Nat} {x : Int32} {off : Int} (t : Nat) (hd : mD mi pc 3 nx (.ifCond .le off)) (ht : (pc : Int) + off = (t : Int)) (kt : x ≤ 0 → AW mi d t loc stk M o M1 n) (kf : ¬ x ≤ 0 → AW mi d nx loc stk M o M1 n) : AW mi d pc loc (vI x :: stk) M o M1 n := by
  intro D ρ cA bs LS sa xs p l e R s m args below meth c Q cE sE hF hcE hsE hFin H locs ls cells slots hc hs hRep hS hl
  obtain ⟨hdg, rfl⟩ := hd
  have k1 := fun q => kt q D ρ cA bs LS sa xs p l e R s m args below meth c Q cE sE hF hcE hsE hFin H locs ls cells slots hc hs hRep hS hl
  have k2 := fun q => kf q D ρ cA bs LS sa xs p l e R s m args below meth c Q cE sE hF hcE hsE hFin H locs ls cells slots hc hs hRep hS hl
  obtain ⟨hx, hb, hml, hown, htab, hlocks, hr, hl0, hfr, hlo, hV, hH, hLS⟩ := hF
  exact lv_if_le hx hb hdg ht k1 k2
theorem aw_icmp_le {mi d pc nx : Nat} {loc : List (Option mAV)} {stk : List mAV} {M : mM} {o : mOut} {M1 : mM} {n : Nat} {x y : Int32} {off : Int} (t : Nat) (hd : mD mi pc 3 nx (.if_icmp .le off)) (ht : (pc : Int) + off = (t : Int)) (kt : x ≤ y → AW mi d t loc stk M o M1 n) (kf : ¬ x ≤ y → AW mi d nx loc stk M o M1 n) : AW mi d pc loc (vI y :: vI x :: stk) M o M1 n := by
  intro D ρ cA bs LS sa xs p l e R s m args below meth c Q cE sE hF hcE hsE hFin H locs ls cells slots hc hs hRep hS hl
  obtain ⟨hdg, rfl⟩ := hd
  have k1 := fun q => kt q D ρ cA bs LS sa xs p l e R s m args below meth c Q cE sE hF hcE hsE hFin H locs ls cells slots hc hs hRep hS hl
  have k2 := fun q => kf q D ρ cA bs LS sa xs p l e R s m args below meth c Q cE sE hF hcE hsE hFin H locs ls cells slots hc hs hRep hS hl
  obtain ⟨hx, hb, hml, hown, htab, hlocks, hr, hl0, hfr, hlo, hV, hH, hLS⟩ := hF
  exact lv_icmp_le hx hb hdg ht k1 k2
theorem aw_lcmp_eq {mi d pc nx : Nat} {loc : List (Option mAV)} {stk : List mAV} {M : mM} {o : mOut} {M1 : mM} {n : Nat} {x y : Int64} {off : Int} {nx2 : Nat} (t : Nat) (hd0 : mD mi pc 1 nx .lcmp) (hd : mD mi nx 3 nx2 (.ifCond .eq off)) (ht : (nx : Int) + off = (t : Int)) (kt : x = y → AW mi d t loc stk M o M1 n) (kf : ¬ x = y → AW mi d nx2 loc stk M o M1 n) : AW mi d pc loc (vL y :: vL x :: stk) M o M1 n :=
  aw_lcmp hd0 (aw_if_eq t hd ht (fun q => kt ((lg_cmp_eq x y).mp q)) (fun q => kf (fun w => q ((lg_cmp_eq x y).mpr w))))
theorem aw_lcmp_ne {mi d pc nx : Nat} {loc : List (Option mAV)} {stk : List mAV} {M : mM} {o : mOut} {M1 : mM} {n : Nat} {x y : Int64} {off : Int} {nx2 : Nat} (t : Nat) (hd0 : mD mi pc 1 nx .lcmp) (hd : mD mi nx 3 nx2 (.ifCond .ne off)) (ht : (nx : Int) + off = (t : Int)) (kt : ¬ x = y → AW mi d t loc stk M o M1 n) (kf : x = y → AW mi d nx2 loc stk M o M1 n) : AW mi d pc loc (vL y :: vL x :: stk) M o M1 n :=
  aw_lcmp hd0 (aw_if_ne t hd ht (fun q => kt (fun w => q ((lg_cmp_eq x y).mpr w))) (fun q => kf ((lg_cmp_eq x y).mp q)))
theorem aw_lcmp_lt {mi d pc nx : Nat} {loc : List (Option mAV)} {stk : List mAV} {M : mM} {o : mOut} {M1 : mM} {n : Nat} {x y : Int64} {off : Int} {nx2 : Nat} (t : Nat) (hd0 : mD mi pc 1 nx .lcmp) (hd : mD mi nx 3 nx2 (.ifCond .lt off)) (ht : (nx : Int) + off = (t : Int)) (kt : x < y → AW mi d t loc stk M o M1 n) (kf : ¬ x < y → AW mi d nx2 loc stk M o M1 n) : AW mi d pc loc (vL y :: vL x :: stk) M o M1 n :=
  aw_lcmp hd0 (aw_if_lt t hd ht (fun q => kt ((lg_cmp_lt x y).mp q)) (fun q => kf (fun w => q ((lg_cmp_lt x y).mpr w))))
theorem aw_lcmp_ge {mi d pc nx : Nat} {loc : List (Option mAV)} {stk : List mAV} {M : mM} {o : mOut} {M1 : mM} {n : Nat} {x y : Int64} {off : Int} {nx2 : Nat} (t : Nat) (hd0 : mD mi pc 1 nx .lcmp) (hd : mD mi nx 3 nx2 (.ifCond .ge off)) (ht : (nx : Int) + off = (t : Int)) (kt : y ≤ x → AW mi d t loc stk M o M1 n) (kf : ¬ y ≤ x → AW mi d nx2 loc stk M o M1 n) : AW mi d pc loc (vL y :: vL x :: stk) M o M1 n :=
  aw_lcmp hd0 (aw_if_ge t hd ht (fun q => kt ((lg_cmp_ge x y).mp q)) (fun q => kf (fun w => q ((lg_cmp_ge x y).mpr w))))
theorem aw_lcmp_gt {mi d pc nx : Nat} {loc : List (Option mAV)} {stk : List mAV} {M : mM} {o : mOut} {M1 : mM} {n : Nat} {x y : Int64} {off : Int} {nx2 : Nat} (t : Nat) (hd0 : mD mi pc 1 nx .lcmp) (hd : mD mi nx 3 nx2 (.ifCond .gt off)) (ht : (nx : Int) + off = (t : Int)) (kt : y < x → AW mi d t loc stk M o M1 n) (kf : ¬ y < x → AW mi d nx2 loc stk M o M1 n) : AW mi d pc loc (vL y :: vL x :: stk) M o M1 n :=
  aw_lcmp hd0 (aw_if_gt t hd ht (fun q => kt ((lg_cmp_gt x y).mp q)) (fun q => kf (fun w => q ((lg_cmp_gt x y).mpr w))))
theorem aw_lcmp_le {mi d pc nx : Nat} {loc : List (Option mAV)} {stk : List mAV} {M : mM} {o : mOut} {M1 : mM} {n : Nat} {x y : Int64} {off : Int} {nx2 : Nat} (t : Nat) (hd0 : mD mi pc 1 nx .lcmp) (hd : mD mi nx 3 nx2 (.ifCond .le off)) (ht : (nx : Int) + off = (t : Int)) (kt : x ≤ y → AW mi d t loc stk M o M1 n) (kf : ¬ x ≤ y → AW mi d nx2 loc stk M o M1 n) : AW mi d pc loc (vL y :: vL x :: stk) M o M1 n :=
  aw_lcmp hd0 (aw_if_le t hd ht (fun q => kt ((lg_cmp_le x y).mp q)) (fun q => kf (fun w => q ((lg_cmp_le x y).mpr w))))
theorem aw_istore {mi d pc nx : Nat} {loc : List (Option mAV)} {stk : List mAV} {M : mM} {o : mOut} {M1 : mM} {n : Nat} {i : Nat} {x : Int32} {loc2 : List (Option mAV)} (hd : mD mi pc 2 nx (.istore i)) (hi : i < loc.length) (hq : mSt1 loc i (vI x) = loc2) (kk : AW mi d nx loc2 stk M o M1 n) : AW mi d pc loc (vI x :: stk) M o M1 n := by
  intro D ρ cA bs LS sa xs p l e R s m args below meth c Q cE sE hF hcE hsE hFin H locs ls cells slots hc hs hRep hS hl
  obtain ⟨hdg, rfl⟩ := hd
  subst hq
  have k := fun ls9 (h9 : lR ρ (mL mi) (mSt1 loc i (vI x)) ls9) => kk D ρ cA bs LS sa xs p l e R s m args below meth c Q cE sE hF hcE hsE hFin H locs ls9 cells slots hc hs hRep hS h9
  obtain ⟨hx, hb, hml, hown, htab, hlocks, hr, hl0, hfr, hlo, hV, hH, hLS⟩ := hF
  exact lv_istore hx hb hdg hl.has (by rw [← hl.2.2.1]; exact hi) rfl (fun ls9 h9 => k ls9 (hl.st1 h9))
theorem aw_istore_n {mi d pc nx : Nat} {loc : List (Option mAV)} {stk : List mAV} {M : mM} {o : mOut} {M1 : mM} {n : Nat} {i : Fin 4} {x : Int32} {loc2 : List (Option mAV)} (hd : mD mi pc 1 nx (.istore_n i)) (hi : (i : Nat) < loc.length) (hq : mSt1 loc (i : Nat) (vI x) = loc2) (kk : AW mi d nx loc2 stk M o M1 n) : AW mi d pc loc (vI x :: stk) M o M1 n := by
  intro D ρ cA bs LS sa xs p l e R s m args below meth c Q cE sE hF hcE hsE hFin H locs ls cells slots hc hs hRep hS hl
  obtain ⟨hdg, rfl⟩ := hd
  subst hq
  have k := fun ls9 (h9 : lR ρ (mL mi) (mSt1 loc (i : Nat) (vI x)) ls9) => kk D ρ cA bs LS sa xs p l e R s m args below meth c Q cE sE hF hcE hsE hFin H locs ls9 cells slots hc hs hRep hS h9
  obtain ⟨hx, hb, hml, hown, htab, hlocks, hr, hl0, hfr, hlo, hV, hH, hLS⟩ := hF
  exact lv_istore_n hx hb hdg rfl hl.has (by rw [← hl.2.2.1]; exact hi) rfl (fun ls9 h9 => k ls9 (hl.st1 h9))
theorem aw_lstore {mi d pc nx : Nat} {loc : List (Option mAV)} {stk : List mAV} {M : mM} {o : mOut} {M1 : mM} {n : Nat} {i : Nat} {x : Int64} {loc2 : List (Option mAV)} (hd : mD mi pc 2 nx (.lstore i)) (hi : i + 1 < loc.length) (hq : mSt2 loc i (vL x) = loc2) (kk : AW mi d nx loc2 stk M o M1 n) : AW mi d pc loc (vL x :: stk) M o M1 n := by
  intro D ρ cA bs LS sa xs p l e R s m args below meth c Q cE sE hF hcE hsE hFin H locs ls cells slots hc hs hRep hS hl
  obtain ⟨hdg, rfl⟩ := hd
  subst hq
  have k := fun ls9 (h9 : lR ρ (mL mi) (mSt2 loc i (vL x)) ls9) => kk D ρ cA bs LS sa xs p l e R s m args below meth c Q cE sE hF hcE hsE hFin H locs ls9 cells slots hc hs hRep hS h9
  obtain ⟨hx, hb, hml, hown, htab, hlocks, hr, hl0, hfr, hlo, hV, hH, hLS⟩ := hF
  exact lv_lstore hx hb hdg hl.has (by rw [← hl.2.2.1]; exact hi) rfl (fun ls9 h9 => k ls9 (hl.st2 h9))
theorem aw_lstore_n {mi d pc nx : Nat} {loc : List (Option mAV)} {stk : List mAV} {M : mM} {o : mOut} {M1 : mM} {n : Nat} {i : Fin 4} {x : Int64} {loc2 : List (Option mAV)} (hd : mD mi pc 1 nx (.lstore_n i)) (hi : (i : Nat) + 1 < loc.length) (hq : mSt2 loc (i : Nat) (vL x) = loc2) (kk : AW mi d nx loc2 stk M o M1 n) : AW mi d pc loc (vL x :: stk) M o M1 n := by
  intro D ρ cA bs LS sa xs p l e R s m args below meth c Q cE sE hF hcE hsE hFin H locs ls cells slots hc hs hRep hS hl
  obtain ⟨hdg, rfl⟩ := hd
  subst hq
  have k := fun ls9 (h9 : lR ρ (mL mi) (mSt2 loc (i : Nat) (vL x)) ls9) => kk D ρ cA bs LS sa xs p l e R s m args below meth c Q cE sE hF hcE hsE hFin H locs ls9 cells slots hc hs hRep hS h9
  obtain ⟨hx, hb, hml, hown, htab, hlocks, hr, hl0, hfr, hlo, hV, hH, hLS⟩ := hF
  exact lv_lstore_n hx hb hdg rfl hl.has (by rw [← hl.2.2.1]; exact hi) rfl (fun ls9 h9 => k ls9 (hl.st2 h9))
theorem aw_astore {mi d pc nx : Nat} {loc : List (Option mAV)} {stk : List mAV} {M : mM} {o : mOut} {M1 : mM} {n : Nat} {i : Nat} {a b c0 : Nat} {loc2 : List (Option mAV)} (hd : mD mi pc 2 nx (.astore i)) (hi : i < loc.length) (hq : mSt1 loc i (vR a b c0) = loc2) (kk : AW mi d nx loc2 stk M o M1 n) : AW mi d pc loc (vR a b c0 :: stk) M o M1 n := by
  intro D ρ cA bs LS sa xs p l e R s m args below meth c Q cE sE hF hcE hsE hFin H locs ls cells slots hc hs hRep hS hl
  obtain ⟨hdg, rfl⟩ := hd
  subst hq
  have k := fun ls9 (h9 : lR ρ (mL mi) (mSt1 loc i (vR a b c0)) ls9) => kk D ρ cA bs LS sa xs p l e R s m args below meth c Q cE sE hF hcE hsE hFin H locs ls9 cells slots hc hs hRep hS h9
  obtain ⟨hx, hb, hml, hown, htab, hlocks, hr, hl0, hfr, hlo, hV, hH, hLS⟩ := hF
  exact lv_astore hx hb hdg hl.has (by rw [← hl.2.2.1]; exact hi) rfl (fun ls9 h9 => k ls9 (hl.st1 h9))
theorem aw_astore_n {mi d pc nx : Nat} {loc : List (Option mAV)} {stk : List mAV} {M : mM} {o : mOut} {M1 : mM} {n : Nat} {i : Fin 4} {a b c0 : Nat} {loc2 : List (Option mAV)} (hd : mD mi pc 1 nx (.astore_n i)) (hi : (i : Nat) < loc.length) (hq : mSt1 loc (i : Nat) (vR a b c0) = loc2) (kk : AW mi d nx loc2 stk M o M1 n) : AW mi d pc loc (vR a b c0 :: stk) M o M1 n := by
  intro D ρ cA bs LS sa xs p l e R s m args below meth c Q cE sE hF hcE hsE hFin H locs ls cells slots hc hs hRep hS hl
  obtain ⟨hdg, rfl⟩ := hd
  subst hq
  have k := fun ls9 (h9 : lR ρ (mL mi) (mSt1 loc (i : Nat) (vR a b c0)) ls9) => kk D ρ cA bs LS sa xs p l e R s m args below meth c Q cE sE hF hcE hsE hFin H locs ls9 cells slots hc hs hRep hS h9
  obtain ⟨hx, hb, hml, hown, htab, hlocks, hr, hl0, hfr, hlo, hV, hH, hLS⟩ := hF
  exact lv_astore_n hx hb hdg rfl hl.has (by rw [← hl.2.2.1]; exact hi) rfl (fun ls9 h9 => k ls9 (hl.st1 h9))
theorem mkL_at {ρ : mRef → Nat} {loc : List (Option mAV)} {i : Nat} {a : mAV} (h : loc[i]? = some (some a)) : ∃ k : Nat, (mkL ρ loc)[k]? = some (i, cv ρ a) := List.getElem?_of_mem (mkL_mem.mpr ⟨a, h, rfl⟩)
theorem aw_iinc {mi d pc nx : Nat} {loc : List (Option mAV)} {stk : List mAV} {M : mM} {o : mOut} {M1 : mM} {n : Nat} {i : Nat} {v : Int} {x y : Int32} {loc2 : List (Option mAV)} (hd : mD mi pc 3 nx (.iinc i v)) (hv : loc[i]? = some (some (vI x))) (hy : Int32.ofInt v = y) (hq : mSt1 loc i (vI (x + y)) = loc2) (kk : AW mi d nx loc2 stk M o M1 n) : AW mi d pc loc stk M o M1 n := by
  intro D ρ cA bs LS sa xs p l e R s m args below meth c Q cE sE hF hcE hsE hFin H locs ls cells slots hc hs hRep hS hl
  obtain ⟨hdg, rfl⟩ := hd
  subst hq
  subst hy
  have k := fun ls9 (h9 : lR ρ (mL mi) (mSt1 loc i (vI (x + Int32.ofInt v))) ls9) => kk D ρ cA bs LS sa xs p l e R s m args below meth c Q cE sE hF hcE hsE hFin H locs ls9 cells slots hc hs hRep hS h9
  obtain ⟨hx, hb, hml, hown, htab, hlocks, hr, hl0, hfr, hlo, hV, hH, hLS⟩ := hF
  obtain ⟨k9, hk9⟩ := mkL_at (ρ := ρ) hv
  exact lv_iinc hx hb hdg hl.has (k := k9) hk9 rfl (by rw [← hl.2.2.1]; exact (List.getElem?_eq_some_iff.mp hv).1) rfl (fun ls9 h9 => k ls9 (hl.st1 h9))
theorem aw_ireturn {mi d pc nx : Nat} {loc : List (Option mAV)} {M : mM} {M1 : mM} {n : Nat} {x y : Int32} (hd : mD mi pc 1 nx .ireturn) (hr9 : mR mi = some .int) (h1 : x = y) (h2 : M = M1) : AW mi d pc loc [vI x] M (.inl (some (vI y))) M1 n := by
  intro D ρ cA bs LS sa xs p l e R s m args below meth c Q cE sE hF hcE hsE hFin H locs ls cells slots hc hs hRep hS hl
  obtain ⟨hdg, rfl⟩ := hd
  subst h2
  subst h1
  exact W.widen (by omega) (by omega) (hFin H locs ls pc _ ⟨rfl, _, hr9, rfl⟩ hdg hRep hS)
theorem aw_zreturn {mi d pc nx : Nat} {loc : List (Option mAV)} {M : mM} {M1 : mM} {n : Nat} {x y : Int32} (hd : mD mi pc 1 nx .ireturn) (hr9 : mR mi = some .boolean) (hz : x = 0 ∨ x = 1) (h1 : x = y) (h2 : M = M1) : AW mi d pc loc [vI x] M (.inl (some (vI y))) M1 n := by
  intro D ρ cA bs LS sa xs p l e R s m args below meth c Q cE sE hF hcE hsE hFin H locs ls cells slots hc hs hRep hS hl
  obtain ⟨hdg, rfl⟩ := hd
  subst h2
  subst h1
  exact W.widen (by omega) (by omega) (hFin H locs ls pc _ ⟨rfl, _, hr9, by rcases hz with rfl | rfl <;> rfl⟩ hdg hRep hS)
theorem aw_lreturn {mi d pc nx : Nat} {loc : List (Option mAV)} {M : mM} {M1 : mM} {n : Nat} {x y : Int64} (hd : mD mi pc 1 nx .lreturn) (hr9 : mR mi = some .long) (h1 : x = y) (h2 : M = M1) : AW mi d pc loc [vL x] M (.inl (some (vL y))) M1 n := by
  intro D ρ cA bs LS sa xs p l e R s m args below meth c Q cE sE hF hcE hsE hFin H locs ls cells slots hc hs hRep hS hl
  obtain ⟨hdg, rfl⟩ := hd
  subst h2
  subst h1
  exact W.widen (by omega) (by omega) (hFin H locs ls pc _ ⟨rfl, hr9⟩ hdg hRep hS)
theorem aw_areturn {mi d pc nx : Nat} {loc : List (Option mAV)} {M : mM} {M1 : mM} {n : Nat} {a b c0 : Nat} (hd : mD mi pc 1 nx .areturn) (hr9 : ∃ C, mR mi = some (.object C)) (h2 : M = M1) : AW mi d pc loc [vR a b c0] M (.inl (some (vR a b c0))) M1 n := by
  intro D ρ cA bs LS sa xs p l e R s m args below meth c Q cE sE hF hcE hsE hFin H locs ls cells slots hc hs hRep hS hl
  obtain ⟨hdg, rfl⟩ := hd
  subst h2
  exact W.widen (by omega) (by omega) (hFin H locs ls pc _ ⟨rfl, hr9⟩ hdg hRep hS)
theorem aw_return {mi d pc nx : Nat} {loc : List (Option mAV)} {M : mM} {M1 : mM} {n : Nat} (hd : mD mi pc 1 nx .return_) (hr9 : mR mi = none) (h2 : M = M1) : AW mi d pc loc [] M (.inl none) M1 n := by
  intro D ρ cA bs LS sa xs p l e R s m args below meth c Q cE sE hF hcE hsE hFin H locs ls cells slots hc hs hRep hS hl
  obtain ⟨hdg, rfl⟩ := hd
  subst h2
  exact W.widen (by omega) (by omega) (hFin H locs ls pc _ ⟨rfl, hr9⟩ hdg hRep hS)
theorem aw_getI {mi d pc nx : Nat} {loc : List (Option mAV)} {stk : List mAV} {M : mM} {o : mOut} {M1 : mM} {n : Nat} {own : String} {ix ci k i j : Nat} (hd : mD mi pc 3 nx (.getfield ix)) (hC : mC mi = own) (hf : mFS own ix ci k) (hk : ci < 7 ∧ k < mN ci) (ho : mOk (ci, i, j)) (hr9 : mRf (ci, i, j) k = none) (kk : AW mi d nx loc (vI (M (ci, i, j) k) :: stk) M o M1 n) : AW mi d pc loc (vR ci i j :: stk) M o M1 n := by
  intro D ρ cA bs LS sa xs p l e R s m args below meth c Q cE sE hF hcE hsE hFin H locs ls cells slots hc hs hRep hS hl
  obtain ⟨hdg, rfl⟩ := hd
  have k9 := kk D ρ cA bs LS sa xs p l e R s m args below meth c Q cE sE hF hcE hsE hFin H locs ls cells slots hc hs hRep hS hl
  obtain ⟨hx, hb, hml, hown, htab, hlocks, hr, hl0, hfr, hlo, hV, hH, hLS⟩ := hF
  refine w_get hx hb (by rw [hC] at hown; exact hown) hV hRep hf hk.1 hk.2 ho hdg ?_
  unfold mFv
  rw [hr9]
  exact k9
theorem aw_getR {mi d pc nx : Nat} {loc : List (Option mAV)} {stk : List mAV} {M : mM} {o : mOut} {M1 : mM} {n : Nat} {own : String} {ix ci k i j a b c0 : Nat} (hd : mD mi pc 3 nx (.getfield ix)) (hC : mC mi = own) (hf : mFS own ix ci k) (hk : ci < 7 ∧ k < mN ci) (ho : mOk (ci, i, j)) (hr9 : mRf (ci, i, j) k = some (a, b, c0)) (kk : AW mi d nx loc (vR a b c0 :: stk) M o M1 n) : AW mi d pc loc (vR ci i j :: stk) M o M1 n := by
  intro D ρ cA bs LS sa xs p l e R s m args below meth c Q cE sE hF hcE hsE hFin H locs ls cells slots hc hs hRep hS hl
  obtain ⟨hdg, rfl⟩ := hd
  have k9 := kk D ρ cA bs LS sa xs p l e R s m args below meth c Q cE sE hF hcE hsE hFin H locs ls cells slots hc hs hRep hS hl
  obtain ⟨hx, hb, hml, hown, htab, hlocks, hr, hl0, hfr, hlo, hV, hH, hLS⟩ := hF
  refine w_get hx hb (by rw [hC] at hown; exact hown) hV hRep hf hk.1 hk.2 ho hdg ?_
  unfold mFv
  rw [hr9]
  exact k9
theorem aw_putI {mi d pc nx : Nat} {loc : List (Option mAV)} {stk : List mAV} {M : mM} {o : mOut} {M1 : mM} {n : Nat} {own : String} {ix ci k i j : Nat} {v : Int32} (hd : mD mi pc 3 nx (.putfield ix)) (hC : mC mi = own) (hf : mFS own ix ci k) (hk : ci < 7 ∧ k < mN ci) (ho : mOk (ci, i, j)) (hr9 : mRf (ci, i, j) k = none) (hpo : mPo ci k .int) (kk : AW mi d nx loc stk (mUp M (ci, i, j) k v) o M1 n) : AW mi d pc loc (vI v :: vR ci i j :: stk) M o M1 n := by
  intro D ρ cA bs LS sa xs p l e R s m args below meth c Q cE sE hF hcE hsE hFin H locs ls cells slots hc hs hRep hS hl
  obtain ⟨hdg, rfl⟩ := hd
  have k9 := fun H9 locs9 hR9 hS9 => kk D ρ cA bs LS sa xs p l e R s m args below meth c Q cE sE hF hcE hsE hFin H9 locs9 ls cells slots hc hs hR9 hS9 hl
  obtain ⟨hx, hb, hml, hown, htab, hlocks, hr, hl0, hfr, hlo, hV, hH, hLS⟩ := hF
  exact w_put hx hb (by rw [hC] at hown; exact hown) hV hRep hS hf hk.1 hk.2 ho hr9 hpo rfl rfl hdg k9
theorem aw_putZ {mi d pc nx : Nat} {loc : List (Option mAV)} {stk : List mAV} {M : mM} {o : mOut} {M1 : mM} {n : Nat} {own : String} {ix ci k i j : Nat} {v : Int32} (hd : mD mi pc 3 nx (.putfield ix)) (hC : mC mi = own) (hf : mFS own ix ci k) (hk : ci < 7 ∧ k < mN ci) (ho : mOk (ci, i, j)) (hr9 : mRf (ci, i, j) k = none) (hpo : mPo ci k .boolean) (hz : v = 0 ∨ v = 1) (kk : AW mi d nx loc stk (mUp M (ci, i, j) k v) o M1 n) : AW mi d pc loc (vI v :: vR ci i j :: stk) M o M1 n := by
  intro D ρ cA bs LS sa xs p l e R s m args below meth c Q cE sE hF hcE hsE hFin H locs ls cells slots hc hs hRep hS hl
  obtain ⟨hdg, rfl⟩ := hd
  have k9 := fun H9 locs9 hR9 hS9 => kk D ρ cA bs LS sa xs p l e R s m args below meth c Q cE sE hF hcE hsE hFin H9 locs9 ls cells slots hc hs hR9 hS9 hl
  obtain ⟨hx, hb, hml, hown, htab, hlocks, hr, hl0, hfr, hlo, hV, hH, hLS⟩ := hF
  exact w_put hx hb (by rw [hC] at hown; exact hown) hV hRep hS hf hk.1 hk.2 ho hr9 hpo (by rcases hz with rfl | rfl <;> rfl) (by rcases hz with rfl | rfl <;> rfl) hdg k9
theorem aw_iaload {mi d pc nx : Nat} {loc : List (Option mAV)} {stk : List mAV} {M : mM} {o : mOut} {M1 : mM} {n : Nat} {a b c0 : Nat} {i : Int32} (hd : mD mi pc 1 nx .iaload) (ho : mOk (a, b, c0)) (hk : mIsI (a, b, c0) = true) (ht : mTy (a, b, c0) = .int) (hin : vp_in i (mLen (a, b, c0))) (kk : AW mi d nx loc (vI (M (a, b, c0) i.toNatClampNeg) :: stk) M o M1 n) : AW mi d pc loc (vI i :: vR a b c0 :: stk) M o M1 n := by
  intro D ρ cA bs LS sa xs p l e R s m args below meth c Q cE sE hF hcE hsE hFin H locs ls cells slots hc hs hRep hS hl
  obtain ⟨hdg, rfl⟩ := hd
  have k9 := kk D ρ cA bs LS sa xs p l e R s m args below meth c Q cE sE hF hcE hsE hFin H locs ls cells slots hc hs hRep hS hl
  obtain ⟨hx, hb, hml, hown, htab, hlocks, hr, hl0, hfr, hlo, hV, hH, hLS⟩ := hF
  obtain ⟨q0, -, hw⟩ := mWs_at (ρ := ρ) (cA := cA) M (mOk_mem ho)
  obtain ⟨e1, e2⟩ := mCell_arr (ρ := ρ) (cA := cA) (M := M) hk
  rw [e1] at hw
  have hK := hV.KA (mOk_mem ho) e2
  exact va_iald hx hb hK hRep.1.1 q0 0 hw (by rw [ht]; rfl) hin hdg k9
theorem aw_caload {mi d pc nx : Nat} {loc : List (Option mAV)} {stk : List mAV} {M : mM} {o : mOut} {M1 : mM} {n : Nat} {a b c0 : Nat} {i : Int32} (hd : mD mi pc 1 nx .caload) (ho : mOk (a, b, c0)) (hk : mIsI (a, b, c0) = true) (ht : mTy (a, b, c0) = .char) (hin : vp_in i (mLen (a, b, c0))) (kk : AW mi d nx loc (vI (M (a, b, c0) i.toNatClampNeg) :: stk) M o M1 n) : AW mi d pc loc (vI i :: vR a b c0 :: stk) M o M1 n := by
  intro D ρ cA bs LS sa xs p l e R s m args below meth c Q cE sE hF hcE hsE hFin H locs ls cells slots hc hs hRep hS hl
  obtain ⟨hdg, rfl⟩ := hd
  have k9 := kk D ρ cA bs LS sa xs p l e R s m args below meth c Q cE sE hF hcE hsE hFin H locs ls cells slots hc hs hRep hS hl
  obtain ⟨hx, hb, hml, hown, htab, hlocks, hr, hl0, hfr, hlo, hV, hH, hLS⟩ := hF
  obtain ⟨q0, -, hw⟩ := mWs_at (ρ := ρ) (cA := cA) M (mOk_mem ho)
  obtain ⟨e1, e2⟩ := mCell_arr (ρ := ρ) (cA := cA) (M := M) hk
  rw [e1] at hw
  have hK := hV.KA (mOk_mem ho) e2
  exact va_cald hx hb hK hRep.1.1 q0 0 hw (by rw [ht]; rfl) hin hdg k9
theorem mCell_up {ρ : mRef → Nat} {cA : mRef → ClassId} {M : mM} {r : mRef} {k : Nat} {v : Int32} (h : mIsI r = true) : mCell ρ cA (mUp M r k v) r = .inl (cA r, mLen r, .inl (upd (M r) k v)) := by
  rw [(mCell_arr (ρ := ρ) (cA := cA) (M := mUp M r k v) h).1]
  have e : mUp M r k v r = upd (M r) k v := by
    funext q
    unfold mUp upd
    simp
  rw [e]
theorem aw_iastore {mi d pc nx : Nat} {loc : List (Option mAV)} {stk : List mAV} {M : mM} {o : mOut} {M1 : mM} {n : Nat} {a b c0 : Nat} {i v : Int32} (hd : mD mi pc 1 nx .iastore) (ho : mOk (a, b, c0)) (hk : mIsI (a, b, c0) = true) (ht : mTy (a, b, c0) = .int) (hin : vp_in i (mLen (a, b, c0))) (kk : AW mi d nx loc stk (mUp M (a, b, c0) i.toNatClampNeg v) o M1 n) : AW mi d pc loc (vI v :: vI i :: vR a b c0 :: stk) M o M1 n := by
  intro D ρ cA bs LS sa xs p l e R s m args below meth c Q cE sE hF hcE hsE hFin H locs ls cells slots hc hs hRep hS hl
  obtain ⟨hdg, rfl⟩ := hd
  have k9 := fun H9 locs9 hR9 hS9 => kk D ρ cA bs LS sa xs p l e R s m args below meth c Q cE sE hF hcE hsE hFin H9 locs9 ls cells slots hc hs hR9 hS9 hl
  obtain ⟨hx, hb, hml, hown, htab, hlocks, hr, hl0, hfr, hlo, hV, hH, hLS⟩ := hF
  obtain ⟨q0, hq0, hw⟩ := mWs_at (ρ := ρ) (cA := cA) M (mOk_mem ho)
  obtain ⟨e1, e2⟩ := mCell_arr (ρ := ρ) (cA := cA) (M := M) hk
  rw [e1] at hw
  have hK := hV.KA (mOk_mem ho) e2
  refine va_iast hx hb hK hRep.1.1 hRep.1.2.1 hS q0 0 hw (by rw [ht]; rfl) hin hdg (fun H1 locs1 a1 a2 a3 => ?_)
  have e3 : upd (M (a, b, c0)) i.toNatClampNeg (vp_nar .int v) = upd (M (a, b, c0)) i.toNatClampNeg v := rfl
  try rw [e3] at a1 a2
  rw [← mCell_up (ρ := ρ) (cA := cA) hk] at a1 a2
  exact k9 H1 locs1 (hRep.set (mOk_mem ho) hq0 (fun r' h => mUp_ne h) a1 a2) a3
theorem aw_castore {mi d pc nx : Nat} {loc : List (Option mAV)} {stk : List mAV} {M : mM} {o : mOut} {M1 : mM} {n : Nat} {a b c0 : Nat} {i v : Int32} (hd : mD mi pc 1 nx .castore) (ho : mOk (a, b, c0)) (hk : mIsI (a, b, c0) = true) (ht : mTy (a, b, c0) = .char) (hin : vp_in i (mLen (a, b, c0))) (kk : AW mi d nx loc stk (mUp M (a, b, c0) i.toNatClampNeg (vp_nar .char v)) o M1 n) : AW mi d pc loc (vI v :: vI i :: vR a b c0 :: stk) M o M1 n := by
  intro D ρ cA bs LS sa xs p l e R s m args below meth c Q cE sE hF hcE hsE hFin H locs ls cells slots hc hs hRep hS hl
  obtain ⟨hdg, rfl⟩ := hd
  have k9 := fun H9 locs9 hR9 hS9 => kk D ρ cA bs LS sa xs p l e R s m args below meth c Q cE sE hF hcE hsE hFin H9 locs9 ls cells slots hc hs hR9 hS9 hl
  obtain ⟨hx, hb, hml, hown, htab, hlocks, hr, hl0, hfr, hlo, hV, hH, hLS⟩ := hF
  obtain ⟨q0, hq0, hw⟩ := mWs_at (ρ := ρ) (cA := cA) M (mOk_mem ho)
  obtain ⟨e1, e2⟩ := mCell_arr (ρ := ρ) (cA := cA) (M := M) hk
  rw [e1] at hw
  have hK := hV.KA (mOk_mem ho) e2
  refine va_cast hx hb hK hRep.1.1 hRep.1.2.1 hS q0 0 hw (by rw [ht]; rfl) hin hdg (fun H1 locs1 a1 a2 a3 => ?_)
  rw [← mCell_up (ρ := ρ) (cA := cA) hk] at a1 a2
  exact k9 H1 locs1 (hRep.set (mOk_mem ho) hq0 (fun r' h => mUp_ne h) a1 a2) a3
theorem aw_alen {mi d pc nx : Nat} {loc : List (Option mAV)} {stk : List mAV} {M : mM} {o : mOut} {M1 : mM} {n : Nat} {a b c0 : Nat} (hd : mD mi pc 1 nx .arraylength) (ho : mOk (a, b, c0)) (hk : mIsI (a, b, c0) = true) (kk : AW mi d nx loc (vI (nI (mLen (a, b, c0))) :: stk) M o M1 n) : AW mi d pc loc (vR a b c0 :: stk) M o M1 n := by
  intro D ρ cA bs LS sa xs p l e R s m args below meth c Q cE sE hF hcE hsE hFin H locs ls cells slots hc hs hRep hS hl
  obtain ⟨hdg, rfl⟩ := hd
  have k9 := kk D ρ cA bs LS sa xs p l e R s m args below meth c Q cE sE hF hcE hsE hFin H locs ls cells slots hc hs hRep hS hl
  obtain ⟨hx, hb, hml, hown, htab, hlocks, hr, hl0, hfr, hlo, hV, hH, hLS⟩ := hF
  obtain ⟨q0, -, hw⟩ := mWs_at (ρ := ρ) (cA := cA) M (mOk_mem ho)
  obtain ⟨e1, e2⟩ := mCell_arr (ρ := ρ) (cA := cA) (M := M) hk
  rw [e1] at hw
  have hK := hV.KA (mOk_mem ho) e2
  exact va_alen hx hb hK hRep.1.1 q0 0 hw rfl rfl hdg k9
theorem aw_aaloadF {mi d pc nx : Nat} {loc : List (Option mAV)} {stk : List mAV} {M : mM} {o : mOut} {M1 : mM} {n : Nat} {b : Nat} {i : Int32} (hd : mD mi pc 1 nx .aaload) (ho : b < 7) (hin : vp_in i 6) (kk : AW mi d nx loc (vR 0 b i.toNatClampNeg :: stk) M o M1 n) : AW mi d pc loc (vI i :: vR 10 b 0 :: stk) M o M1 n := by
  intro D ρ cA bs LS sa xs p l e R s m args below meth c Q cE sE hF hcE hsE hFin H locs ls cells slots hc hs hRep hS hl
  obtain ⟨hdg, rfl⟩ := hd
  have k9 := kk D ρ cA bs LS sa xs p l e R s m args below meth c Q cE sE hF hcE hsE hFin H locs ls cells slots hc hs hRep hS hl
  obtain ⟨hx, hb, hml, hown, htab, hlocks, hr, hl0, hfr, hlo, hV, hH, hLS⟩ := hF
  have hm : ((10, b, 0) : mRef) ∈ mAll := mOk_mem (show mOk (10, b, 0) from ⟨ho, rfl⟩)
  obtain ⟨q0, -, hw⟩ := mWs_at (ρ := ρ) (cA := cA) M hm
  have hK := hV.KA hm (show 7 ≤ 10 by decide)
  exact va_aldq hx hb hK hRep.1.1 q0 0 hw rfl hin hdg k9
theorem aw_aaloadS {mi d pc nx : Nat} {loc : List (Option mAV)} {stk : List mAV} {M : mM} {o : mOut} {M1 : mM} {n : Nat} {i : Int32} (hd : mD mi pc 1 nx .aaload) (hin : vp_in i 4) (kk : AW mi d nx loc (vR 3 (3 + i.toNatClampNeg) 0 :: stk) M o M1 n) : AW mi d pc loc (vI i :: vR 11 0 0 :: stk) M o M1 n := by
  intro D ρ cA bs LS sa xs p l e R s m args below meth c Q cE sE hF hcE hsE hFin H locs ls cells slots hc hs hRep hS hl
  obtain ⟨hdg, rfl⟩ := hd
  have k9 := kk D ρ cA bs LS sa xs p l e R s m args below meth c Q cE sE hF hcE hsE hFin H locs ls cells slots hc hs hRep hS hl
  obtain ⟨hx, hb, hml, hown, htab, hlocks, hr, hl0, hfr, hlo, hV, hH, hLS⟩ := hF
  have hm : ((11, 0, 0) : mRef) ∈ mAll := mIn_1.2.2.2
  obtain ⟨q0, -, hw⟩ := mWs_at (ρ := ρ) (cA := cA) M hm
  have hK := hV.KA hm (by decide)
  exact va_aldq hx hb hK hRep.1.1 q0 0 hw rfl hin hdg k9
