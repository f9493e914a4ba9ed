/-! A CONSTRUCTOR'S CONTRACT -/
def nPc (D : va_G) (ci h0 sz : Nat) (fs : List Value) : Array Value → State → Prop := va_Pc [.ref h0] (fun U => U.heap.size = sz ∧ va_P D mCl [(h0, .inr (ci, fs))] U.heap ∧ kV D U ∧ va_D (fun _ => True) [(h0, .inr (ci, fs))])
abbrev nQ (D : va_G) (r0 : mRef) (h0 : Nat) (A : Nat → Prop) (L : List mRef) : Array Value → State → Outcome → State → Prop := va_Qv (fun u : (mRef → Nat) × (mRef → ClassId) => u.1 r0 = h0) (fun u t => va_P D mCl (nW u.1 u.2 L) t.heap ∧ nT t u.2 L ∧ va_D A (nW u.1 u.2 L)) A
def nMet (l : Launch) (D : va_G) (j dd ci : Nat) (fs : List Value) (r0 : mRef) (L : List mRef) (mc ms : Nat) : Prop :=
  ∀ h0 sz : Nat, Met l (mY j) [mCodeW j] { frames := dd, cells := mc, slots := ms, locals := 40 * dd } (nPc D ci h0 sz fs) (nQ D r0 h0 (va_A [(h0, .inr (ci, fs))] sz) L) mc ms (va_A [(h0, .inr (ci, fs))] sz)
theorem nPc_blind {D : va_G} {ci h0 sz : Nat} {fs : List Value} : FrameBlind (nPc D ci h0 sz fs) := by
  intro a U g mk h
  obtain ⟨h1, h2, h3, h4, h5⟩ := h
  exact ⟨h1, h2, h3, kV.warm (U := U.calling g mk a) (State.WarmedH.refl U) h4, h5⟩
theorem nMet_of {l : Launch} {D : va_G} {j dd ci mc ms : Nat} {fs : List Value} {r0 : mRef} {L : List mRef} (hpl : plainName (mY j).cls = true) (hh : mHH j = []) (hr : mR j = none) (hnm : (mY j).name = "<init>")
    (body : ∀ (p : Program) (e : Env) (R : Room) (s : State) (m : MethodId) (args : Array Value) (below : List Frame) (meth : Method) (c : Code) (h0 : Nat) (A : Nat → Prop) (Q : State → Prop), nF D j dd p R s m c → meth.name = "<init>" → R.cells = mc → R.slots = ms → (∀ q, s.heap.size ≤ q → A q) →
      (∀ (ρ : mRef → Nat) (cA : mRef → ClassId) (H : Heap) (locs : List Loc) (ls : Array Slot) (pc nx : Nat), ρ r0 = h0 → nT s cA L → nS D A s.heap H locs (nW ρ cA L) → mD j pc 1 nx .return_ → W p l e R s m args below meth c H locs mc ms Q (F0 m pc ls [])) →
      nS D A s.heap s.heap [] [(h0, .inr (ci, fs))] → ∀ ls, lv_has ls (mL j) [(0, .ref h0)] → W p l e R s m args below meth c s.heap [] 0 0 Q (F0 m 0 ls [])) (hL1 : 1 ≤ mL j) : nMet l D j dd ci fs r0 L mc ms := by
  intro h0 sz
  refine Met.ofW (cc := mB j) (maxL := mL j) (ret := mR j) (ws' := []) hpl (by unfold mCodeW; rw [if_pos hh]) ?_
  intro p e s m args below meth c s₁ B hml hv
  obtain ⟨rfl, hsz, hP, hK, hD0⟩ := hv
  have hx := B.exec
  have hb := B.bytes
  have hret : meth.sig.returnType = none := B.returns.trans hr
  have hown : s.vm.findClass (mC j) = some m.cls := findClass_of_methodNamed B.named
  have hlocks := B.notSynchronized
  have hin : meth.name = "<init>" := (name_of_methodNamed B.named B.method).1.trans hnm
  subst hsz
  have hD := hD0.self (sz := s.heap.size)
  have hl := lv_entry ([.ref h0]) (n := mL j) hL1
  rw [lg_entry_eq]
  generalize (lg_sl ([.ref h0]) ++ List.replicate (mL j - (lg_sl ([.ref h0])).length) Slot.unset).toArray = ls at hl ⊢
  have hl : lv_has ls (mL j) [(0, .ref h0)] := hl
  refine body p e _ s m _ below meth c h0 (va_A [(h0, .inr (ci, fs))] s.heap.size) _ ⟨hx, hb, hml, hown, Nat.le_refl _, Nat.le_refl _, hK⟩ hin rfl rfl (fun q h => Or.inr h) ?_ ⟨hP, hD, va_S.rf⟩ ls hl
  intro ρ cA H locs ls pc nx hρ hT hS hdg
  obtain ⟨hP9, hD9, hS9⟩ := hS
  exact W.vret hx hb hret (fun t ht hW => ⟨⟨(ρ, cA), rfl, hρ, by rw [ht]; exact hP9, hT.moved hW.alike, hD9⟩, hS9.F ht⟩) hS9.2.2 hdg.1
theorem nS_join {D : va_G} {A : Nat → Prop} {H0 H H1 : Heap} {locs locs1 : List Loc} {wr wc w1 : va_W} (hS : nS D A H0 H locs (wr ++ wc)) (hk : ∀ q : Nat, q < H.size → ¬ va_A wc H.size q → H1[q]? = H[q]?) (hF : ∀ q, va_A wc H.size q → A q) (hP1 : va_P D mCl w1 H1) (hD1 : va_D (va_A wc H.size) w1) (hS1 : va_S A H0 H1 locs1) : nS D A H0 H1 locs1 (wr ++ w1) := by
  obtain ⟨hP, hD, -⟩ := hS
  rw [va_P_iff] at hP hP1
  rw [va_D_iff] at hD hD1
  obtain ⟨d1, d2⟩ := hD
  obtain ⟨e1, e2⟩ := hD1
  rw [List.map_append, List.nodup_append] at d1
  obtain ⟨n1, n2, n3⟩ := d1
  have apart : ∀ x ∈ wr, x.1 < H.size ∧ ¬ va_A wc H.size x.1 := by
    intro x hx
    have hl := (hP x (List.mem_append_left _ hx)).lt
    refine ⟨hl, fun h => ?_⟩
    rcases h with ⟨k, e, h⟩ | h
    · exact n3 x.1 (List.mem_map_of_mem hx) x.1 (by have := List.mem_map_of_mem (f := Prod.fst) (List.mem_of_getElem? h); exact this) rfl
    · omega
  refine ⟨va_P_iff.mpr (fun x hx => ?_), va_D_iff.mpr ⟨?_, fun x hx => ?_⟩, hS1⟩
  · rcases List.mem_append.mp hx with g | g
    · obtain ⟨a1, a2⟩ := apart x g
      exact (hP x (List.mem_append_left _ g)).kept (hk x.1 a1 a2)
    · exact hP1 x g
  · rw [List.map_append, List.nodup_append]
    refine ⟨n1, e1, fun a ha b hb hab => ?_⟩
    obtain ⟨x, hx, rfl⟩ := List.mem_map.mp ha
    obtain ⟨y, hy, rfl⟩ := List.mem_map.mp hb
    exact (apart x hx).2 (by rw [hab]; exact e2 y hy)
  · rcases List.mem_append.mp hx with g | g
    · exact d2 x (List.mem_append_left _ g)
    · exact hF _ (e2 x g)
theorem nCallB {own : String} {ix j dd mc ms : Nat} {s : State} {args : Array Value} {R : Room} {D : va_G} (hok : mCodeOk j 0) (hV : kV D s) (hh : mHH j = []) (hr : mR j = none) (hl : (Cond.methodLink own ix (mY j)) ∈ lw_tbl) (hfr : dd + 1 ≤ R.frames) (hlo : 40 * (dd + 1) ≤ R.locals) :
    CallB R s args own ix (mY j) (mB j) (mL j) none [mCodeW j] { frames := dd, cells := mc, slots := ms, locals := 40 * dd } mc ms 0 := by
  obtain ⟨h1, h2, h3, h4, h5, h6⟩ := hok
  have hw : mCodeW j = Cond.code (mY j) (mB j) (mL j) (mR j) := by unfold mCodeW; rw [if_pos hh]
  rw [if_pos hh] at h1
  rw [hr] at h1 hw
  have hb : (Cond.code (mY j) (mB j) (mL j) none).before args s = true := hV.w h1 rfl
  refine ⟨rfl, rfl, hfr, ?_, ?_, by rw [hw]; exact List.mem_cons_self, hb, hV.w h2 rfl, h4, ?_, hV.w hl rfl⟩
  · show 8 + (mL j + 11) + 40 * dd ≤ R.locals
    omega
  · intro w hw9 a' U hW
    rw [List.mem_singleton.mp hw9, hw]
    exact word_at hW (Or.inl rfl) hb
  · intro sig hs
    rw [hs] at h5
    exact (Option.some.inj h5).symm
theorem nCallN {own host : String} {ix j dd mc ms : Nat} {s : State} {args : Array Value} {R : Room} {D : va_G} (hok : mCodeOk j 0) (hV : kV D s) (hh : mHH j = []) (hr : mR j = none) (hl : (Cond.methodLinkNest own ix (mY j) host) ∈ lw_tbl) (hfr : dd + 1 ≤ R.frames) (hlo : 40 * (dd + 1) ≤ R.locals) :
    va_CN R s args own ix (mY j) host (mB j) (mL j) none [mCodeW j] { frames := dd, cells := mc, slots := ms, locals := 40 * dd } mc ms 0 := by
  obtain ⟨h1, h2, h3, h4, h5, h6⟩ := hok
  have hw : mCodeW j = Cond.code (mY j) (mB j) (mL j) (mR j) := by unfold mCodeW; rw [if_pos hh]
  rw [if_pos hh] at h1
  rw [hr] at h1 hw
  have hb : (Cond.code (mY j) (mB j) (mL j) none).before args s = true := hV.w h1 rfl
  refine ⟨⟨rfl, rfl, hfr, ?_, ?_, by rw [hw]; exact List.mem_cons_self⟩, hb, hV.w h2 rfl, h4, ?_, hV.w hl rfl⟩
  · show 8 + (mL j + 11) + 40 * dd ≤ R.locals
    omega
  · intro w hw9 a' U hW
    rw [List.mem_singleton.mp hw9, hw]
    exact word_at hW (Or.inl rfl) hb
  · intro sig hs
    rw [hs] at h5
    exact (Option.some.inj h5).symm
section NI
variable {D : va_G} {mi dd : Nat} {A : Nat → Prop} {p : Program} {l : Launch} {e : Env} {R : Room} {s : State} {m : MethodId} {args : Array Value} {below : List Frame} {meth : Method} {c : Code} {Q : State → Prop} {H : Heap} {locs : List Loc} {ls : Array Slot} {cells slots : Nat} {pc nx : Nat} {rest : List Value} {ws : va_W}
theorem n_init {own : String} {ix j ci q mc ms : Nat} {r0 : mRef} {L : List mRef} {fs : List Value} {wr : va_W} (hM : nMet l D j dd ci fs r0 L mc ms) (hF : nF D mi (dd + 1) p R s m c) (hC : mC mi = own) (hok : mCodeOk j 0) (hh : mHH j = []) (hr : mR j = none) (hnm : (mY j).name = "<init>") (hl : Cond.methodLink own ix (mY j) ∈ lw_tbl) (hin : Cond.instanceMethod (mY j) ∈ lw_tbl) (hls : ls.size = mL mi) (hrest : (rest.map fun v => v.category).sum ≤ 8)
    (hS : nS D A s.heap H locs (wr ++ [(q, .inr (ci, fs))])) (hA : ∀ q, s.heap.size ≤ q → A q) (hcells : cells + mc ≤ R.cells) (hslots : slots + ms ≤ R.slots) (hdg : mD mi pc 3 nx (.invokespecial ix))
    (kk : ∀ (ρ : mRef → Nat) (cA : mRef → ClassId) (H1 : Heap) (locs1 : List Loc), ρ r0 = q → nT s cA L → nS D A s.heap H1 locs1 (wr ++ nW ρ cA L) → W p l e R s m args below meth c H1 locs1 (cells + mc) (slots + ms) Q (F0 m nx ls rest)) : W p l e R s m args below meth c H locs cells slots Q (F0 m pc ls (.ref q :: rest)) := by
  obtain ⟨hdg, rfl⟩ := hdg
  obtain ⟨hx, hb, hml, hown, hfr, hlo, hV⟩ := hF
  rw [hC] at hown
  have hPc : va_P D mCl [(q, .inr (ci, fs))] H := va_P_iff.mpr (fun x hx9 => va_P_iff.mp hS.1 x (List.mem_append_right _ hx9))
  have hDc : va_D (fun _ => True) [(q, .inr (ci, fs))] := va_D_iff.mpr ⟨by simp, fun _ _ => trivial⟩
  have hFc : ∀ q9, va_A [(q, .inr (ci, fs))] H.size q9 → A q9 := by
    intro q9 h
    rcases h with ⟨k, e9, h⟩ | h
    · exact (va_D_iff.mp hS.2.1).2 (q9, e9) (List.mem_append_right _ (List.mem_of_getElem? h))
    · exact hA q9 (Nat.le_trans hS.2.2.1 h)
  refine va_callv (va_runI (As := []) (rest := rest) (Ts := []) ⟨hx, hb, hml, hown, fun _ h => nomatch h⟩ (hM q H.size) ⟨nCallB hok hV hh hr hl hfr hlo, hnm, hV.w hin rfl⟩ ⟨nPc_blind, fun U hU hW => ⟨rfl, by rw [hU], by rw [hU]; exact hPc, hV.warm hW, hDc⟩⟩ rfl rfl hls rfl (lv_room hrest) hdg ⟨hcells, hslots⟩) hS.2.2 (fun q9 _ h => hFc q9 h) hFc (fun u t H1 locs1 ht hvm hw hB hz1 hk1 hS1 => ?_)
  obtain ⟨hP1, hT1, hD1⟩ := hB
  rw [ht] at hP1
  exact kk u.1 u.2 H1 locs1 hw (hT1.moved hvm.symm) (nS_join hS hk1 hFc hP1 hD1 hS1)
theorem n_initN {own host : String} {ix j ci q mc ms : Nat} {r0 : mRef} {L : List mRef} {fs : List Value} {wr : va_W} (hM : nMet l D j dd ci fs r0 L mc ms) (hF : nF D mi (dd + 1) p R s m c) (hC : mC mi = own) (hok : mCodeOk j 0) (hh : mHH j = []) (hr : mR j = none) (hnm : (mY j).name = "<init>") (hl : Cond.methodLinkNest own ix (mY j) host ∈ lw_tbl) (hin : Cond.instanceMethod (mY j) ∈ lw_tbl) (hls : ls.size = mL mi) (hrest : (rest.map fun v => v.category).sum ≤ 8)
    (hS : nS D A s.heap H locs (wr ++ [(q, .inr (ci, fs))])) (hA : ∀ q, s.heap.size ≤ q → A q) (hcells : cells + mc ≤ R.cells) (hslots : slots + ms ≤ R.slots) (hdg : mD mi pc 3 nx (.invokespecial ix))
    (kk : ∀ (ρ : mRef → Nat) (cA : mRef → ClassId) (H1 : Heap) (locs1 : List Loc), ρ r0 = q → nT s cA L → nS D A s.heap H1 locs1 (wr ++ nW ρ cA L) → W p l e R s m args below meth c H1 locs1 (cells + mc) (slots + ms) Q (F0 m nx ls rest)) : W p l e R s m args below meth c H locs cells slots Q (F0 m pc ls (.ref q :: rest)) := by
  obtain ⟨hdg, rfl⟩ := hdg
  obtain ⟨hx, hb, hml, hown, hfr, hlo, hV⟩ := hF
  rw [hC] at hown
  have hPc : va_P D mCl [(q, .inr (ci, fs))] H := va_P_iff.mpr (fun x hx9 => va_P_iff.mp hS.1 x (List.mem_append_right _ hx9))
  have hDc : va_D (fun _ => True) [(q, .inr (ci, fs))] := va_D_iff.mpr ⟨by simp, fun _ _ => trivial⟩
  have hFc : ∀ q9, va_A [(q, .inr (ci, fs))] H.size q9 → A q9 := by
    intro q9 h
    rcases h with ⟨k, e9, h⟩ | h
    · exact (va_D_iff.mp hS.2.1).2 (q9, e9) (List.mem_append_right _ (List.mem_of_getElem? h))
    · exact hA q9 (Nat.le_trans hS.2.2.1 h)
  refine va_callv (va_runIN (As := []) (rest := rest) (Ts := []) ⟨hx, hb, hml, hown, fun _ h => nomatch h⟩ (hM q H.size) ⟨nCallN hok hV hh hr hl hfr hlo, hnm, hV.w hin rfl⟩ ⟨nPc_blind, fun U hU hW => ⟨rfl, by rw [hU], by rw [hU]; exact hPc, hV.warm hW, hDc⟩⟩ rfl rfl hls rfl (lv_room hrest) hdg ⟨hcells, hslots⟩) hS.2.2 (fun q9 _ h => hFc q9 h) hFc (fun u t H1 locs1 ht hvm hw hB hz1 hk1 hS1 => ?_)
  obtain ⟨hP1, hT1, hD1⟩ := hB
  rw [ht] at hP1
  exact kk u.1 u.2 H1 locs1 hw (hT1.moved hvm.symm) (nS_join hS hk1 hFc hP1 hD1 hS1)
end NI
