section
/-! ===== BEGIN words of one list among another's, by their places ===== -/
theorem goodIn_r {big : List Cond} (ws : List Cond) (ps : List Nat) (hp : ws = ps.filterMap (fun i => big[i]?)) (h : ws.all goodWord = true) : GoodIn big ws := by
  intro w hw
  have h1 := List.all_eq_true.mp h w hw
  rw [hp] at hw
  obtain ⟨i, -, hi⟩ := List.mem_filterMap.mp hw
  have hm : w ∈ big := by first | exact List.mem_of_getElem? hi | exact List.getElem?_mem hi
  exact ⟨hm, good_of_word h1⟩
theorem goodIn_app {big a b : List Cond} (ha : GoodIn big a) (hb : GoodIn big b) : GoodIn big (a ++ b) := fun w h => (List.mem_append.mp h).elim (ha w) (hb w)
theorem goodIn_ca {big a b : List Cond} {c : Cond} (ha : GoodIn big (c :: a)) (hb : GoodIn big b) : GoodIn big (c :: (a ++ b)) := fun w h => (List.mem_cons.mp h).elim (fun e => ha w (List.mem_cons.mpr (Or.inl e))) (fun h => (List.mem_append.mp h).elim (fun h => ha w (List.mem_cons.mpr (Or.inr h))) (hb w))
theorem goodIn_sub {big ws : List Cond} (hm : ∀ w ∈ ws, w ∈ big) (h : ws.all goodWord = true) : GoodIn big ws := fun w hw => ⟨hm w hw, good_of_word (List.all_eq_true.mp h w hw)⟩
/-! ===== END ===== -/
/-! ===== BEGIN exceptions that leave a method, and their catching by the caller (launches without stack traces) ===== -/
section VXA
/-! The laws vx_back, vx_callV, vx_callS, vx_callSW, vx_throw0, vx_throwS follow proofs of the library, with one case more: JvmDerived/Free/Laws.lean (Back.of_free), Shelf42/LK1.lean (callV, callS), Shelf/KitTraced.lean (throwNew0V, throwNewS). -/
/-- where a method has thrown q: the class by its name, the cell, what was written, the world -/
def vx_T (XC : String → State → State → Prop) (st : State) (q : Addr) (t : State) (mc ms : Nat) (free : Addr → Prop) : Prop :=
  ∃ (E : String) (ce : Cell) (L : List Loc), XC E st t ∧ t.heap[q]? = some ce ∧ ce.vm = .none ∧ st.vm.findClass E = some ce.cls ∧ st.WarmedH t.vm ∧ st.sameButNew ({ t with vm := st.vm } : State) L mc ms ∧ ∀ z ∈ L, free z.base
def vx_Q (Qc : Array Value → State → Outcome → State → Prop) (XC : String → State → State → Prop) (mc ms : Nat) (free : Addr → Prop) : Array Value → State → Outcome → State → Prop := fun a st o t =>
  (Qc a st o t ∧ ∃ L, FrameEnd st o t L mc ms ∧ ∀ q ∈ L, free q.base) ∨ ∃ q, o = .threw q ∧ vx_T XC st q t mc ms free
/-- a callee that returns or throws -/
def vx_Met (l : Launch) (y : MethodName) (ws : List Cond) (rm : Room) (Pc : Array Value → State → Prop) (Qc : Array Value → State → Outcome → State → Prop) (XC : String → State → State → Prop) (mc ms : Nat) (free : Addr → Prop) : Prop :=
  MetFree l y (headSpec ws rm) Pc (fun _ _ _ _ _ => True) (vx_Q Qc XC mc ms free)
def vx_Post (XC : String → State → State → Prop) (mc ms : Nat) (free : Addr → Prop) : Pt → Array Value → Addr → Pt → Prop := fun A a q B =>
  ∃ (g : JFrame) (mk : MethodId) (t : State) (L : List Loc) (E : String) (ce : Cell), B.U.heap = t.heap ∧ B.U.vm = t.vm ∧ XC E (A.U.calling g mk a) t ∧ t.heap[q]? = some ce ∧ ce.vm = .none ∧ A.U.vm.findClass E = some ce.cls ∧ B.locs = A.locs ++ L ∧ (∀ z ∈ L, free z.base) ∧ B.cells = A.cells + mc ∧ B.slots = A.slots + ms
def vx_Back (l : Launch) (R : Room) (p : Program) (e : Env) (below : List Frame) (s : State) (sargs : Array Value) (y : MethodName) (len W9 : Nat)
    (Pre : Pt → Array Value → Prop) (Post : Pt → Array Value → Option Value → Pt → Prop) (PostX : Pt → Array Value → Addr → Pt → Prop) : Prop :=
  ∀ (m : MethodId) (meth : Method) (c : Code) (A : Pt) (g : JFrame) (ig : Instr) (mk : MethodId) (a : Array Value),
    Stand p l e R s m sargs below meth c A.U A.locs A.cells A.slots → g.method = m → g.locals.size = c.maxLocals → decode c.code g.pc = .ok (ig, len) →
    2 * g.monitorRoom + (g.stack.map fun v => v.category).sum ≤ W9 → A.U.methodNamed? y = some mk → Pre A a →
    (∃ (v : Option Value) (B : Pt), Stand p l e R s m sargs below meth c B.U B.locs B.cells B.slots ∧ Post A a v B ∧
      Steps p.tables e below (doInvoke e (A.U.setTop g) [] mk a).1 (B.U.setTop { g with pc := g.pc + len, stack := v.toList ++ g.stack })) ∨
    (∃ (q : Addr) (B : Pt), Stand p l e R s m sargs below meth c B.U B.locs B.cells B.slots ∧ PostX A a q B ∧
      Steps p.tables e below (doInvoke e (A.U.setTop g) [] mk a).1 ((B.U.setTop g).pushFrame (.throwing q)))
section Payer
variable {l : Launch} {R : Room} {p : Program} {e : Env} {below : List Frame} {s : State} {sargs : Array Value} {y : MethodName} {len W9 : Nat}
theorem vx_back {ws : List Cond} {rm : Room} {Pc : Array Value → State → Prop} {Qc : Array Value → State → Outcome → State → Prop} {XC : String → State → State → Prop} {mc ms : Nat} {free : Addr → Prop} {bytes : ByteArray} {maxL : Nat} {ret : Option FieldType}
    (hM : vx_Met l y ws rm Pc Qc XC mc ms free) (hblind : FrameBlind Pc) (hrc : rm.cells = mc) (hrs : rm.slots = ms)
    (hframes : rm.frames + 1 ≤ R.frames) (hlocals : W9 + (maxL + 11) + rm.locals ≤ R.locals)
    (hws : ∀ w ∈ ws, ∀ a' U, s.WarmedH U.vm → w.before a' U = true) (hcode : Cond.code y bytes maxL ret ∈ ws) (hinit : ∀ a' U, s.WarmedH U.vm → (Cond.initialized y.cls).before a' U = true) :
    vx_Back l R p e below s sargs y len W9 (PreOf R mc ms Pc) (PostOf Qc mc ms free) (vx_Post XC mc ms free) := by
  intro m meth c A g ig mk a X hg hsize hdg hW hn hp
  have h1 : (headSpec ws rm).pre.before a A.U = true := atoms_intro fun w hw => hws w hw _ _ X.warmed
  have h2 : (Cond.code y bytes maxL ret).before a A.U = true := hws _ hcode _ _ X.warmed
  have h3 : (Cond.initialized y.cls).before a A.U = true := hinit _ _ X.warmed
  have h4 : A.cells + (headSpec ws rm).room.cells ≤ R.cells := by rw [show (headSpec ws rm).room.cells = mc from hrc]; exact hp.1
  have h5 : A.slots + (headSpec ws rm).room.slots ≤ R.slots := by rw [show (headSpec ws rm).room.slots = ms from hrs]; exact hp.2.1
  have hPc : Pc a (A.U.calling g mk a) := hblind _ _ _ _ hp.2.2
  obtain ⟨U, Ls, c0, s0⟩ := A
  dsimp only [Pt.U, Pt.locs, Pt.cells, Pt.slots] at h1 h2 h3 h4 h5 X hn hPc ⊢
  obtain ⟨methY, cY, hmY, hcY, -, hlY, -, -, -, -⟩ := Cond.code_spec hn h2
  obtain ⟨kY, hkY, -⟩ := className_of_methodNamed hn
  have hinitY : kY.init = .initialized := Cond.initialized_spec (findClass_of_methodNamed hn) hkY h3
  have h : At U g.method c below := by rw [hg]; exact X.here
  have hlocals9 : W9 + (maxL + 11) + (headSpec ws rm).room.locals ≤ R.locals := hlocals
  have happ : (headSpec ws rm).appliesLoose y e.platform (U.calling g mk a) = true :=
    Spec.appliesLoose_calling (g := g) h hdg hn hkY hinitY
      (X.room_calling (g := g) (R' := (headSpec ws rm).room) hsize hmY hcY hframes (by rw [hlY]; omega) h4 h5) h1
  obtain ⟨mid, hmid⟩ := h.above
  have hfr : (U.setTop g).frames = (.java g :: mid) ++ below := by rw [State.frames_setTop' g h.top, hmid]; rfl
  obtain ⟨o, s₂, hsteps, -, hend, hq⟩ := Steps.callFree hM p X.admits X.cas X.clock (acts := []) hfr happ hPc trivial
  have hq' : vx_Q Qc XC mc ms free a (U.calling g mk a) o s₂ := hq
  rw [State.frames_setTop' g h.top] at hend
  obtain ⟨g₀, hg0⟩ := Option.isSome_iff_exists.mp h.top
  obtain ⟨r, hr⟩ := State.topJava?_eq_some.mp hg0
  have hr' : (({ U with heap := s₂.heap, slotsUsed := s₂.slotsUsed } : State).setVm s₂.vm).frames = .java g₀ :: r := hr
  rcases hq' with ⟨hqc, L, hfe, hL⟩ | ⟨q, rfl, E, ce, L, hx, hce, hcv, hcl, hW₂, hsm, hL⟩
  · obtain ⟨⟨v, rfl⟩, hW₂, e2, q2, q3, q4, q5, q6⟩ := id hfe
    have e3 : s₂ = ({ (U.calling g mk a).setFrames s₂.frames with heap := s₂.heap, slotsUsed := s₂.slotsUsed } : State).setVm s₂.vm := by
      have : s₂ = ({ s₂ with vm := (U.calling g mk a).vm } : State).setVm s₂.vm := rfl
      rw [e2] at this
      exact this
    obtain ⟨c₂, i₂, len₂, hc₂, hd₂, hf₂⟩ := hend
    have hW' : U.WarmedH s₂.vm := hW₂
    have hcc : c₂ = c := by
      have h1 : s₂.code? g.method = U.code? g.method := by
        rw [State.code?_eq, State.code?_eq, hW'.alike.method?]
      exact Option.some.inj (hc₂.symm.trans (h1.trans h.code))
    subst hcc
    have hlen : len₂ = len := by rw [hdg] at hd₂; cases hd₂; rfl
    subst hlen
    have hs₂ : s₂ = (({ U with heap := s₂.heap, slotsUsed := s₂.slotsUsed } : State).setVm s₂.vm).setTop { g with pc := g.pc + len₂, stack := v.toList ++ g.stack } := by
      refine e3.trans ?_
      rw [hf₂, State.calling_eq h.top, State.setFrames_setFrames, State.setTop_of_frames _ hr', hr]
      rfl
    have hsame : U.sameButNew ({ U with heap := s₂.heap, slotsUsed := s₂.slotsUsed } : State) L mc ms := by
      refine ⟨?_, q2, q3, q4, q5, q6⟩
      obtain ⟨t, ht, -⟩ := State.frames_cons hr
      show ({ U with heap := s₂.heap, slotsUsed := s₂.slotsUsed } : State) = { U.setFrames U.frames with heap := s₂.heap, slotsUsed := s₂.slotsUsed }
      rw [State.setFrames_self ht]
    subst hg
    refine Or.inl ⟨v, ⟨(({ U with heap := s₂.heap, slotsUsed := s₂.slotsUsed } : State).setVm s₂.vm), Ls ++ L, c0 + mc, s0 + ms⟩,
      ⟨X.admits, X.cas, X.clock, X.frames, X.room, X.hears, X.method, X.code, (X.here.setHeapUsed s₂.heap s₂.slotsUsed).setVm hW'.alike, X.tail, State.WarmedH.trans X.warmed hW', X.limits, X.bytes, X.same.trans (hsame.setVm s.vm)⟩,
      ⟨g, mk, s₂, L, rfl, rfl, hqc, rfl, hL, rfl, rfl⟩, ?_⟩
    show Steps p.tables e below _ ((({ U with heap := s₂.heap, slotsUsed := s₂.slotsUsed } : State).setVm s₂.vm).setTop { g with pc := g.pc + len₂, stack := v.toList ++ g.stack })
    rw [← hs₂]
    exact hsteps
  · obtain ⟨e2, q2, q3, q4, q5, q6⟩ := id hsm
    have e3 : s₂ = ({ (U.calling g mk a).setFrames s₂.frames with heap := s₂.heap, slotsUsed := s₂.slotsUsed } : State).setVm s₂.vm := by
      have : s₂ = ({ s₂ with vm := (U.calling g mk a).vm } : State).setVm s₂.vm := rfl
      rw [e2] at this
      exact this
    have hf₂ : s₂.frames = .throwing q :: .java g :: U.frames.tail := hend
    have hW' : U.WarmedH s₂.vm := hW₂
    have hs₂ : s₂ = ((({ U with heap := s₂.heap, slotsUsed := s₂.slotsUsed } : State).setVm s₂.vm).setTop g).pushFrame (.throwing q) := by
      refine e3.trans ?_
      rw [hf₂, State.calling_eq h.top, State.setFrames_setFrames, State.pushFrame, State.frames_setTop _ hr', State.setTop_of_frames _ hr', State.setFrames_setFrames, hr]
      rfl
    have hsame : U.sameButNew ({ U with heap := s₂.heap, slotsUsed := s₂.slotsUsed } : State) L mc ms := by
      refine ⟨?_, q2, q3, q4, q5, q6⟩
      obtain ⟨t, ht, -⟩ := State.frames_cons hr
      show ({ U with heap := s₂.heap, slotsUsed := s₂.slotsUsed } : State) = { U.setFrames U.frames with heap := s₂.heap, slotsUsed := s₂.slotsUsed }
      rw [State.setFrames_self ht]
    subst hg
    refine Or.inr ⟨q, ⟨(({ U with heap := s₂.heap, slotsUsed := s₂.slotsUsed } : State).setVm s₂.vm), Ls ++ L, c0 + mc, s0 + ms⟩,
      ⟨X.admits, X.cas, X.clock, X.frames, X.room, X.hears, X.method, X.code, (X.here.setHeapUsed s₂.heap s₂.slotsUsed).setVm hW'.alike, X.tail, State.WarmedH.trans X.warmed hW', X.limits, X.bytes, X.same.trans (hsame.setVm s.vm)⟩,
      ⟨g, mk, s₂, L, E, ce, rfl, rfl, hx, hce, hcv, hcl, rfl, hL, rfl, rfl⟩, ?_⟩
    show Steps p.tables e below _ (((({ U with heap := s₂.heap, slotsUsed := s₂.slotsUsed } : State).setVm s₂.vm).setTop g).pushFrame (.throwing q))
    rw [← hs₂]
    exact hsteps
end Payer
section Calls
variable {p : Program} {l : Launch} {e : Env} {R : Room} {s : State} {m : MethodId} {args : Array Value} {below : List Frame} {meth : Method} {c : Code} {T : State} {locs : List Loc} {cells slots : Nat}
theorem vx_callV (X : Stand p l e R s m args below meth c T locs cells slots) (hexec : p.tables.exec = Jvm.exec) {own C : String} {index : Nat} {y : MethodName} {bytes : ByteArray} {maxL : Nat} {ret : Option FieldType}
    (hown : s.vm.findClass own = some m.cls) (hlink : (Cond.methodLink own index y).before args s = true) (hinst : (Cond.instanceMethod y).before args s = true) (hsel : (Cond.selects C y y).before args s = true)
    (hcode : (Cond.code y bytes maxL ret).before args s = true) (hy : y.cls ≠ "java/lang/invoke/MethodHandle" ∧ y.cls ≠ "java/lang/invoke/VarHandle")
    {W9 : Nat} {Pre : Pt → Array Value → Prop} {Post : Pt → Array Value → Option Value → Pt → Prop} {PostX : Pt → Array Value → Addr → Pt → Prop} (hK : vx_Back l R p e below s args y 3 W9 Pre Post PostX)
    {b : Addr} {cellB : Cell} (hcell : T.heap[b]? = some cellB) (hobj : cellB.vm.isStatics = false) (hcls : s.vm.findClass C = some cellB.cls)
    {g : JFrame} (hg : g.method = m) (hsize : g.locals.size = c.maxLocals) {argsL rest : List Value} (hlen : ∀ sig, parseMethodDescriptor y.desc = some sig → argsL.length = sig.parameters.length)
    (hstack : g.stack = argsL.reverse ++ .ref b :: rest) (hW : 2 * g.monitorRoom + (rest.map fun v => v.category).sum ≤ W9) (hdg : decode c.code g.pc = .ok (.invokevirtual index, 3))
    (hpre : ∀ vm₁, s.WarmedH vm₁ → Pre ⟨T.setVm vm₁, locs, cells, slots⟩ (Value.ref b :: argsL).toArray) :
    (∃ (v : Option Value) (vm₁ : Vm) (B : Pt), s.WarmedH vm₁ ∧ Stand p l e R s m args below meth c B.U B.locs B.cells B.slots ∧ Post ⟨T.setVm vm₁, locs, cells, slots⟩ (Value.ref b :: argsL).toArray v B ∧
      ∀ target, Steps p.tables e below (B.U.setTop { g with pc := g.pc + 3, stack := v.toList ++ rest }) target → Steps p.tables e below (T.setTop g) target) ∨
    (∃ (q : Addr) (vm₁ : Vm) (B : Pt), s.WarmedH vm₁ ∧ Stand p l e R s m args below meth c B.U B.locs B.cells B.slots ∧ PostX ⟨T.setVm vm₁, locs, cells, slots⟩ (Value.ref b :: argsL).toArray q B ∧
      Steps p.tables e below (T.setTop g) ((B.U.setTop { g with stack := rest }).pushFrame (.throwing q))) := by
  obtain ⟨mk, methM, hnamed, hmethM, hstM, habM⟩ := Cond.instanceMethod_spec hinst
  obtain ⟨methM', cM, hmethM', -, -, -, -, -, -, hsigM⟩ := Cond.code_spec hnamed hcode
  cases hmethM.symm.trans hmethM'
  obtain ⟨c2, r2, m2, q1, q2, q3, q4, kP, hkP, hkPi⟩ := Cond.selects_spec hsel
  cases hcls.symm.trans q1
  cases (State.methodFound?_of_named hnamed hy).symm.trans q2
  cases hnamed.symm.trans q3
  have hselP : selectMethod e.platform s.vm cellB.cls mk = .method mk := by rw [Launch.admits_selectMethod X.admits]; exact q4
  obtain ⟨vm₁, X₁, hstep₁⟩ := X.invokevirtual hexec hown hlink hnamed hmethM hstM hkP hkPi hy (a := b) (cell := cellB) hcell
    (fun z h => by rw [h] at hobj; cases hobj) hselP hmethM habM hkP hkPi (g := g) hg (argsL := argsL) (rest := rest) (hlen _ hsigM) hstack hdg
  rcases hK m meth c ⟨T.setVm vm₁, locs, cells, slots⟩ { g with stack := rest } (.invokevirtual index) mk (Value.ref b :: argsL).toArray X₁ hg hsize hdg hW (X₁.named hnamed) (hpre vm₁ X₁.warmed) with ⟨v, B, X', hpost, hsteps⟩ | ⟨q, B, X', hpost, hsteps⟩
  · exact Or.inl ⟨v, vm₁, B, X₁.warmed, X', hpost, fun target h => hstep₁ _ fun acts => by rw [doInvoke_state]; exact hsteps.trans h⟩
  · exact Or.inr ⟨q, vm₁, B, X₁.warmed, X', hpost, hstep₁ _ fun acts => by rw [doInvoke_state]; exact hsteps⟩
theorem vx_callS (X : Stand p l e R s m args below meth c T locs cells slots) (hexec : p.tables.exec = Jvm.exec) {own : String} {index : Nat} {y : MethodName} {bytes : ByteArray} {maxL : Nat} {ret : Option FieldType}
    (hown : s.vm.findClass own = some m.cls) (hlink : (Cond.methodLink own index y).before args s = true) (hstat : (Cond.static y).before args s = true) (hinit : (Cond.initialized y.cls).before args s = true)
    (hcode : (Cond.code y bytes maxL ret).before args s = true) (hy : y.cls ≠ "java/lang/invoke/MethodHandle" ∧ y.cls ≠ "java/lang/invoke/VarHandle")
    {W9 : Nat} {Pre : Pt → Array Value → Prop} {Post : Pt → Array Value → Option Value → Pt → Prop} {PostX : Pt → Array Value → Addr → Pt → Prop} (hK : vx_Back l R p e below s args y 3 W9 Pre Post PostX)
    {g : JFrame} (hg : g.method = m) (hsize : g.locals.size = c.maxLocals) {argsL rest : List Value} (hlen : ∀ sig, parseMethodDescriptor y.desc = some sig → argsL.length = sig.parameters.length)
    (hstack : g.stack = argsL.reverse ++ rest) (hW : 2 * g.monitorRoom + (rest.map fun v => v.category).sum ≤ W9) (hdg : decode c.code g.pc = .ok (.invokestatic index, 3))
    (hpre : ∀ vm₁, s.WarmedH vm₁ → Pre ⟨T.setVm vm₁, locs, cells, slots⟩ argsL.toArray) :
    (∃ (v : Option Value) (vm₁ : Vm) (B : Pt), s.WarmedH vm₁ ∧ Stand p l e R s m args below meth c B.U B.locs B.cells B.slots ∧ Post ⟨T.setVm vm₁, locs, cells, slots⟩ argsL.toArray v B ∧
      ∀ target, Steps p.tables e below (B.U.setTop { g with pc := g.pc + 3, stack := v.toList ++ rest }) target → Steps p.tables e below (T.setTop g) target) ∨
    (∃ (q : Addr) (vm₁ : Vm) (B : Pt), s.WarmedH vm₁ ∧ Stand p l e R s m args below meth c B.U B.locs B.cells B.slots ∧ PostX ⟨T.setVm vm₁, locs, cells, slots⟩ argsL.toArray q B ∧
      Steps p.tables e below (T.setTop g) ((B.U.setTop { g with stack := rest }).pushFrame (.throwing q))) := by
  obtain ⟨mk, hnamed⟩ := Cond.code_named hcode
  obtain ⟨methM, cM, hmethM, -, -, -, -, -, -, hsigM⟩ := Cond.code_spec hnamed hcode
  have hstatic : methM.isStatic = true := Cond.static_spec hnamed hmethM hstat
  obtain ⟨kP, hkP, -⟩ := className_of_methodNamed hnamed
  have hinitP : kP.init = .initialized := Cond.initialized_spec (findClass_of_methodNamed hnamed) hkP hinit
  obtain ⟨vm₁, X₁, hstep₁⟩ := X.invokestatic hexec hown hlink hnamed hmethM hstatic hkP hinitP hy (g := g) hg (argsL := argsL) (rest := rest) (hlen _ hsigM) hstack hdg
  rcases hK m meth c ⟨T.setVm vm₁, locs, cells, slots⟩ { g with stack := rest } (.invokestatic index) mk argsL.toArray X₁ hg hsize hdg hW (X₁.named hnamed) (hpre vm₁ X₁.warmed) with ⟨v, B, X', hpost, hsteps⟩ | ⟨q, B, X', hpost, hsteps⟩
  · exact Or.inl ⟨v, vm₁, B, X₁.warmed, X', hpost, fun target h => hstep₁ _ fun acts => by rw [doInvoke_state]; exact hsteps.trans h⟩
  · exact Or.inr ⟨q, vm₁, B, X₁.warmed, X', hpost, hstep₁ _ fun acts => by rw [doInvoke_state]; exact hsteps⟩
end Calls
theorem vx_cls {s : State} {T : State} {vm₁ : Vm} {E : String} {k : ClassId} (hW : s.WarmedH vm₁) (h : (T.setVm vm₁).vm.findClass E = some k) : s.vm.findClass E = some k := by
  have h1 : vm₁.findClass E = some k := h
  rw [hW.alike.findClass] at h1
  exact h1
/-- the method's frame g, with q thrown over it -/
def vx_W (p : Program) (l : Launch) (e : Env) (R : Room) (s : State) (m : MethodId) (args : Array Value) (below : List Frame) (meth : Method) (c : Code) (H : Heap) (locs : List Loc) (cells slots : Nat) (Q : State → Prop) (g : JFrame) (q : Addr) : Prop :=
  ∀ T : State, T.heap = H → Stand p l e R s m args below meth c T locs cells slots → ∃ t, Steps p.tables e below ((T.setTop g).pushFrame (.throwing q)) t ∧ Q t
def vx_Run (p : Program) (l : Launch) (e : Env) (R : Room) (s : State) (m : MethodId) (args : Array Value) (below : List Frame) (meth : Method) (c : Code) (H : Heap) (locs : List Loc) (cells slots mc ms : Nat) (g : JFrame) (rest : List Value) (Qa : State → Outcome → State → Prop) (XC : String → State → State → Prop) (free : Addr → Prop) : Prop :=
  ∀ T : State, T.heap = H → Stand p l e R s m args below meth c T locs cells slots →
    (∃ (v : Option Value) (st₀ t T' : State) (L : List Loc), st₀.heap = H ∧ Stand p l e R s m args below meth c T' (locs ++ L) (cells + mc) (slots + ms) ∧ (∀ q ∈ L, free q.base) ∧ T'.heap = t.heap ∧ T'.vm = t.vm ∧ Qa st₀ (.returned v) t ∧
      Goes p e below T g T' { g with pc := g.pc + 3, stack := v.toList ++ rest }) ∨
    (∃ (q : Addr) (st₀ t T' : State) (L : List Loc) (E : String) (ce : Cell), st₀.heap = H ∧ Stand p l e R s m args below meth c T' (locs ++ L) (cells + mc) (slots + ms) ∧ (∀ z ∈ L, free z.base) ∧ T'.heap = t.heap ∧ T'.vm = t.vm ∧ XC E st₀ t ∧ t.heap[q]? = some ce ∧ ce.vm = .none ∧ s.vm.findClass E = some ce.cls ∧
      Steps p.tables e below (T.setTop g) ((T'.setTop { g with stack := rest }).pushFrame (.throwing q)))
def vx_X {S : Type} (px : S → Prop) (B : String → S → State → Prop) (A : Nat → Prop) : String → State → State → Prop := fun E st t => ∃ u : S, px u ∧ B E u t ∧ va_F A st t
section Runs
variable {p : Program} {l : Launch} {e : Env} {R : Room} {s : State} {m : MethodId} {args : Array Value} {below : List Frame} {meth : Method} {c : Code} {H : Heap} {locs : List Loc} {cells slots : Nat}
variable {y : MethodName} {bytes cc : ByteArray} {maxL nL mc ms n index : Nat} {ret : Option FieldType} {ws : List Cond} {rm : Room} {Pc : Array Value → State → Prop} {Qc : Array Value → State → Outcome → State → Prop} {XC : String → State → State → Prop} {free : Addr → Prop} {Ts : List Cond} {own C : String} {b : Addr} {As rest : List Value} {g : JFrame}
theorem vx_callBack (cb : CallB R s args own index y bytes maxL ret ws rm mc ms n) (hM : vx_Met l y ws rm Pc Qc XC mc ms free) (hbl : FrameBlind Pc) : vx_Back l R p e below s args y 3 8 (PreOf R mc ms Pc) (PostOf Qc mc ms free) (vx_Post XC mc ms free) := by
  obtain ⟨hrc, hrs, hfr, hlo, hws, hcw, -, hini, -⟩ := cb
  exact vx_back (bytes := bytes) (maxL := maxL) (ret := ret) hM hbl hrc hrs hfr hlo hws hcw (fun a' U hW => word_at hW (Or.inl (by first | rfl | simp [Cond.onTables, Cond.keeps, Cond.steady])) hini)
theorem vx_runV (S : CallFix p m c cc nL s args Ts own) (hM : vx_Met l y ws rm Pc Qc XC mc ms free) (cw : CallW R s args own C index y bytes maxL ret ws rm mc ms n) (hp : PreV s H C b Pc As)
    (hg : g.method = m) (hn : As.length = n) (hsize : g.locals.size = nL) (hstack : g.stack = As.reverse ++ .ref b :: rest) (hW : 2 * g.monitorRoom + (rest.map fun v => v.category).sum ≤ 8) (hdg : decode cc g.pc = .ok (.invokevirtual index, 3)) (hf : cells + mc ≤ R.cells ∧ slots + ms ≤ R.slots) :
    vx_Run p l e R s m args below meth c H locs cells slots mc ms g rest (Qc (Value.ref b :: As).toArray) XC free := by
  have hK : vx_Back l R p e below s args y 3 8 (PreOf R mc ms Pc) (PostOf Qc mc ms free) (vx_Post XC mc ms free) := vx_callBack cw.1 hM hp.1
  obtain ⟨⟨-, -, -, -, -, -, hcode, -, hy, hlen, hl⟩, hin, hse⟩ := cw
  obtain ⟨hx, hb, hml, ho, -⟩ := S
  obtain ⟨-, ⟨cellB, hcB, hoB, hclB⟩, hPc⟩ := hp
  intro T hT X
  rcases vx_callV X hx (C := C) (bytes := bytes) (maxL := maxL) (ret := ret) ho hl hin hse hcode hy hK (by rw [hT]; exact hcB) hoB hclB hg (hsize.trans hml.symm) (argsL := As) (rest := rest) (fun sig h => hn.trans (hlen sig h)) hstack hW (by rw [hb]; exact hdg)
    (fun vm₁ hW₁ => ⟨hf.1, hf.2, hPc (T.setVm vm₁) hT hW₁⟩) with ⟨v, vm₁, ⟨U', l2, c2, s2⟩, hW₁, X', ⟨g', mk, t, L, e1, e2, hq, h1, hL, h2, h3⟩, st⟩ | ⟨q, vm₁, ⟨U', l2, c2, s2⟩, hW₁, X', ⟨g', mk, t, L, E, ce, e1, e2, hq, hce, hcv, hcl, h1, hL, h2, h3⟩, st⟩
  · dsimp only [Pt.U, Pt.locs, Pt.cells, Pt.slots] at X' e1 e2 h1 h2 h3 st
    subst h1; subst h2; subst h3
    exact Or.inl ⟨v, (T.setVm vm₁).calling g' mk (Value.ref b :: As).toArray, t, U', L, hT, X', hL, e1, e2, hq, st⟩
  · dsimp only [Pt.U, Pt.locs, Pt.cells, Pt.slots] at X' e1 e2 h1 h2 h3 st hcl
    subst h1; subst h2; subst h3
    exact Or.inr ⟨q, (T.setVm vm₁).calling g' mk (Value.ref b :: As).toArray, t, U', L, E, ce, hT, X', hL, e1, e2, hq, hce, hcv, vx_cls hW₁ hcl, st⟩
theorem vx_runS (S : CallFix p m c cc nL s args Ts own) (hM : vx_Met l y ws rm Pc Qc XC mc ms free) (cw : CallB R s args own index y bytes maxL ret ws rm mc ms n ∧ (Cond.static y).before args s = true) (hp : PreS s H Pc As)
    (hg : g.method = m) (hn : As.length = n) (hsize : g.locals.size = nL) (hstack : g.stack = As.reverse ++ rest) (hW : 2 * g.monitorRoom + (rest.map fun v => v.category).sum ≤ 8) (hdg : decode cc g.pc = .ok (.invokestatic index, 3)) (hf : cells + mc ≤ R.cells ∧ slots + ms ≤ R.slots) :
    vx_Run p l e R s m args below meth c H locs cells slots mc ms g rest (Qc As.toArray) XC free := by
  have hK : vx_Back l R p e below s args y 3 8 (PreOf R mc ms Pc) (PostOf Qc mc ms free) (vx_Post XC mc ms free) := vx_callBack cw.1 hM hp.1
  obtain ⟨⟨-, -, -, -, -, -, hcode, hini, hy, hlen, hl⟩, hstt⟩ := cw
  obtain ⟨hx, hb, hml, ho, -⟩ := S
  intro T hT X
  rcases vx_callS X hx (bytes := bytes) (maxL := maxL) (ret := ret) ho hl hstt hini hcode hy hK hg (hsize.trans hml.symm) (argsL := As) (rest := rest) (fun sig h => hn.trans (hlen sig h)) hstack hW (by rw [hb]; exact hdg)
    (fun vm₁ hW₁ => ⟨hf.1, hf.2, hp.2 (T.setVm vm₁) hT hW₁⟩) with ⟨v, vm₁, ⟨U', l2, c2, s2⟩, hW₁, X', ⟨g', mk, t, L, e1, e2, hq, h1, hL, h2, h3⟩, st⟩ | ⟨q, vm₁, ⟨U', l2, c2, s2⟩, hW₁, X', ⟨g', mk, t, L, E, ce, e1, e2, hq, hce, hcv, hcl, h1, hL, h2, h3⟩, st⟩
  · dsimp only [Pt.U, Pt.locs, Pt.cells, Pt.slots] at X' e1 e2 h1 h2 h3 st
    subst h1; subst h2; subst h3
    exact Or.inl ⟨v, (T.setVm vm₁).calling g' mk As.toArray, t, U', L, hT, X', hL, e1, e2, hq, st⟩
  · dsimp only [Pt.U, Pt.locs, Pt.cells, Pt.slots] at X' e1 e2 h1 h2 h3 st hcl
    subst h1; subst h2; subst h3
    exact Or.inr ⟨q, (T.setVm vm₁).calling g' mk As.toArray, t, U', L, E, ce, hT, X', hL, e1, e2, hq, hce, hcv, vx_cls hW₁ hcl, st⟩
end Runs
section Rows
variable {p : Program} {l : Launch} {e : Env} {R : Room} {s : State} {m : MethodId} {args : Array Value} {below : List Frame} {meth : Method} {c : Code} {H : Heap} {locs : List Loc} {cells slots : Nat} {Q : State → Prop}
variable {mc ms : Nat} {free : Addr → Prop} {A0 A1 : Nat → Prop} {H0 : Heap} {a : Array Value} {pc : Nat} {ls : Array Slot} {st0 rest : List Value}
theorem vx_keep {st₀ t T' : State} {L : List Loc} (h0 : st₀.heap = H) (e1 : T'.heap = t.heap) (hS : va_S A0 H0 H locs) (hA : ∀ q, q < H.size → A1 q → A0 q) (hf : ∀ q, free q → A0 q) (hL : ∀ q ∈ L, free q.base) (hF : va_F A1 st₀ t) :
    H.size ≤ T'.heap.size ∧ (∀ q : Nat, q < H.size → ¬ A1 q → T'.heap[q]? = H[q]?) ∧ va_S A0 H0 T'.heap (locs ++ L) := by
  obtain ⟨hz, hk⟩ := hF
  rw [h0] at hz hk
  exact ⟨by rw [e1]; exact hz, fun q h1 h2 => by rw [e1]; exact hk q h1 h2,
    ⟨Nat.le_trans hS.1 (by rw [e1]; exact hz), fun q h1 h2 => by rw [e1, hk q (Nat.lt_of_lt_of_le h1 hS.1) (fun z => h2 (hA q (Nat.lt_of_lt_of_le h1 hS.1) z))]; exact hS.2.1 q h1 h2, fun q hq => by
      rcases List.mem_append.mp hq with h | h
      · exact hS.2.2 q h
      · exact hf _ (hL q h)⟩⟩
theorem vx_calli {S SX : Type} {post : Int32 → S → Prop} {px : SX → Prop} {B : S → State → Prop} {BX : String → SX → State → Prop} {AX : Nat → Prop} (hr : vx_Run p l e R s m args below meth c H locs cells slots mc ms (F0 m pc ls st0) rest (va_Qi post B A1 a) (vx_X px BX AX) free) (hS : va_S A0 H0 H locs) (hA : ∀ q, q < H.size → A1 q → A0 q) (hf : ∀ q, free q → A0 q) (hAX : ∀ q, q < H.size → AX q → A0 q)
    (kx : ∀ (E : String) (ce : Cell) (q9 : Addr) (u : SX) (t : State) (H1 : Heap) (locs1 : List Loc), t.heap = H1 → s.vm.Alike t.vm → px u → BX E u t → H.size ≤ H1.size → (∀ q : Nat, q < H.size → ¬ AX q → H1[q]? = H[q]?) → va_S A0 H0 H1 locs1 → H1[q9]? = some ce → ce.vm = .none → s.vm.findClass E = some ce.cls → vx_W p l e R s m args below meth c H1 locs1 (cells + mc) (slots + ms) Q (F0 m pc ls rest) q9)
    (kk : ∀ (r : Int32) (u : S) (t : State) (H1 : Heap) (locs1 : List Loc), t.heap = H1 → s.vm.Alike t.vm → post r u → B u t → H.size ≤ H1.size → (∀ q : Nat, q < H.size → ¬ A1 q → H1[q]? = H[q]?) → va_S A0 H0 H1 locs1 → W p l e R s m args below meth c H1 locs1 (cells + mc) (slots + ms) Q (F0 m (pc + 3) ls (.int r :: rest))) : W p l e R s m args below meth c H locs cells slots Q (F0 m pc ls st0) := by
  intro T hT X
  rcases hr T hT X with ⟨v, st₀, t, T', L, h0, X', hL, e1, e2, ⟨⟨r, u, hv, hp, hb⟩, hF⟩, st⟩ | ⟨q, st₀, t, T', L, E, ce, h0, X', hL, e1, e2, ⟨u, hp, hb, hF⟩, hce, hcv, hcl, st⟩
  · cases hv
    obtain ⟨k1, k2, k3⟩ := vx_keep h0 e1 hS hA hf hL hF
    obtain ⟨t2, a1, b1⟩ := kk r u t T'.heap (locs ++ L) e1.symm (by rw [← e2]; exact X'.warmed.alike) hp hb k1 k2 k3 T' rfl X'
    exact ⟨t2, st t2 a1, b1⟩
  · obtain ⟨k1, k2, k3⟩ := vx_keep h0 e1 hS hAX hf hL hF
    obtain ⟨t2, a1, b1⟩ := kx E ce q u t T'.heap (locs ++ L) e1.symm (by rw [← e2]; exact X'.warmed.alike) hp hb k1 k2 k3 (by rw [e1]; exact hce) hcv hcl T' rfl X'
    exact ⟨t2, st.trans a1, b1⟩
theorem vx_calll {S SX : Type} {post : Int64 → S → Prop} {px : SX → Prop} {B : S → State → Prop} {BX : String → SX → State → Prop} {AX : Nat → Prop} (hr : vx_Run p l e R s m args below meth c H locs cells slots mc ms (F0 m pc ls st0) rest (va_Ql post B A1 a) (vx_X px BX AX) free) (hS : va_S A0 H0 H locs) (hA : ∀ q, q < H.size → A1 q → A0 q) (hf : ∀ q, free q → A0 q) (hAX : ∀ q, q < H.size → AX q → A0 q)
    (kx : ∀ (E : String) (ce : Cell) (q9 : Addr) (u : SX) (t : State) (H1 : Heap) (locs1 : List Loc), t.heap = H1 → s.vm.Alike t.vm → px u → BX E u t → H.size ≤ H1.size → (∀ q : Nat, q < H.size → ¬ AX q → H1[q]? = H[q]?) → va_S A0 H0 H1 locs1 → H1[q9]? = some ce → ce.vm = .none → s.vm.findClass E = some ce.cls → vx_W p l e R s m args below meth c H1 locs1 (cells + mc) (slots + ms) Q (F0 m pc ls rest) q9)
    (kk : ∀ (r : Int64) (u : S) (t : State) (H1 : Heap) (locs1 : List Loc), t.heap = H1 → s.vm.Alike t.vm → post r u → B u t → H.size ≤ H1.size → (∀ q : Nat, q < H.size → ¬ A1 q → H1[q]? = H[q]?) → va_S A0 H0 H1 locs1 → W p l e R s m args below meth c H1 locs1 (cells + mc) (slots + ms) Q (F0 m (pc + 3) ls (.long r :: rest))) : W p l e R s m args below meth c H locs cells slots Q (F0 m pc ls st0) := by
  intro T hT X
  rcases hr T hT X with ⟨v, st₀, t, T', L, h0, X', hL, e1, e2, ⟨⟨r, u, hv, hp, hb⟩, hF⟩, st⟩ | ⟨q, st₀, t, T', L, E, ce, h0, X', hL, e1, e2, ⟨u, hp, hb, hF⟩, hce, hcv, hcl, st⟩
  · cases hv
    obtain ⟨k1, k2, k3⟩ := vx_keep h0 e1 hS hA hf hL hF
    obtain ⟨t2, a1, b1⟩ := kk r u t T'.heap (locs ++ L) e1.symm (by rw [← e2]; exact X'.warmed.alike) hp hb k1 k2 k3 T' rfl X'
    exact ⟨t2, st t2 a1, b1⟩
  · obtain ⟨k1, k2, k3⟩ := vx_keep h0 e1 hS hAX hf hL hF
    obtain ⟨t2, a1, b1⟩ := kx E ce q u t T'.heap (locs ++ L) e1.symm (by rw [← e2]; exact X'.warmed.alike) hp hb k1 k2 k3 (by rw [e1]; exact hce) hcv hcl T' rfl X'
    exact ⟨t2, st.trans a1, b1⟩
theorem vx_callf {S SX : Type} {post : UInt32 → S → Prop} {px : SX → Prop} {B : S → State → Prop} {BX : String → SX → State → Prop} {AX : Nat → Prop} (hr : vx_Run p l e R s m args below meth c H locs cells slots mc ms (F0 m pc ls st0) rest (va_Qf post B A1 a) (vx_X px BX AX) free) (hS : va_S A0 H0 H locs) (hA : ∀ q, q < H.size → A1 q → A0 q) (hf : ∀ q, free q → A0 q) (hAX : ∀ q, q < H.size → AX q → A0 q)
    (kx : ∀ (E : String) (ce : Cell) (q9 : Addr) (u : SX) (t : State) (H1 : Heap) (locs1 : List Loc), t.heap = H1 → s.vm.Alike t.vm → px u → BX E u t → H.size ≤ H1.size → (∀ q : Nat, q < H.size → ¬ AX q → H1[q]? = H[q]?) → va_S A0 H0 H1 locs1 → H1[q9]? = some ce → ce.vm = .none → s.vm.findClass E = some ce.cls → vx_W p l e R s m args below meth c H1 locs1 (cells + mc) (slots + ms) Q (F0 m pc ls rest) q9)
    (kk : ∀ (r : UInt32) (u : S) (t : State) (H1 : Heap) (locs1 : List Loc), t.heap = H1 → s.vm.Alike t.vm → post r u → B u t → H.size ≤ H1.size → (∀ q : Nat, q < H.size → ¬ A1 q → H1[q]? = H[q]?) → va_S A0 H0 H1 locs1 → W p l e R s m args below meth c H1 locs1 (cells + mc) (slots + ms) Q (F0 m (pc + 3) ls (.float r :: rest))) : W p l e R s m args below meth c H locs cells slots Q (F0 m pc ls st0) := by
  intro T hT X
  rcases hr T hT X with ⟨v, st₀, t, T', L, h0, X', hL, e1, e2, ⟨⟨r, u, hv, hp, hb⟩, hF⟩, st⟩ | ⟨q, st₀, t, T', L, E, ce, h0, X', hL, e1, e2, ⟨u, hp, hb, hF⟩, hce, hcv, hcl, st⟩
  · cases hv
    obtain ⟨k1, k2, k3⟩ := vx_keep h0 e1 hS hA hf hL hF
    obtain ⟨t2, a1, b1⟩ := kk r u t T'.heap (locs ++ L) e1.symm (by rw [← e2]; exact X'.warmed.alike) hp hb k1 k2 k3 T' rfl X'
    exact ⟨t2, st t2 a1, b1⟩
  · obtain ⟨k1, k2, k3⟩ := vx_keep h0 e1 hS hAX hf hL hF
    obtain ⟨t2, a1, b1⟩ := kx E ce q u t T'.heap (locs ++ L) e1.symm (by rw [← e2]; exact X'.warmed.alike) hp hb k1 k2 k3 (by rw [e1]; exact hce) hcv hcl T' rfl X'
    exact ⟨t2, st.trans a1, b1⟩
theorem vx_calld {S SX : Type} {post : UInt64 → S → Prop} {px : SX → Prop} {B : S → State → Prop} {BX : String → SX → State → Prop} {AX : Nat → Prop} (hr : vx_Run p l e R s m args below meth c H locs cells slots mc ms (F0 m pc ls st0) rest (va_Qd post B A1 a) (vx_X px BX AX) free) (hS : va_S A0 H0 H locs) (hA : ∀ q, q < H.size → A1 q → A0 q) (hf : ∀ q, free q → A0 q) (hAX : ∀ q, q < H.size → AX q → A0 q)
    (kx : ∀ (E : String) (ce : Cell) (q9 : Addr) (u : SX) (t : State) (H1 : Heap) (locs1 : List Loc), t.heap = H1 → s.vm.Alike t.vm → px u → BX E u t → H.size ≤ H1.size → (∀ q : Nat, q < H.size → ¬ AX q → H1[q]? = H[q]?) → va_S A0 H0 H1 locs1 → H1[q9]? = some ce → ce.vm = .none → s.vm.findClass E = some ce.cls → vx_W p l e R s m args below meth c H1 locs1 (cells + mc) (slots + ms) Q (F0 m pc ls rest) q9)
    (kk : ∀ (r : UInt64) (u : S) (t : State) (H1 : Heap) (locs1 : List Loc), t.heap = H1 → s.vm.Alike t.vm → post r u → B u t → H.size ≤ H1.size → (∀ q : Nat, q < H.size → ¬ A1 q → H1[q]? = H[q]?) → va_S A0 H0 H1 locs1 → W p l e R s m args below meth c H1 locs1 (cells + mc) (slots + ms) Q (F0 m (pc + 3) ls (.double r :: rest))) : W p l e R s m args below meth c H locs cells slots Q (F0 m pc ls st0) := by
  intro T hT X
  rcases hr T hT X with ⟨v, st₀, t, T', L, h0, X', hL, e1, e2, ⟨⟨r, u, hv, hp, hb⟩, hF⟩, st⟩ | ⟨q, st₀, t, T', L, E, ce, h0, X', hL, e1, e2, ⟨u, hp, hb, hF⟩, hce, hcv, hcl, st⟩
  · cases hv
    obtain ⟨k1, k2, k3⟩ := vx_keep h0 e1 hS hA hf hL hF
    obtain ⟨t2, a1, b1⟩ := kk r u t T'.heap (locs ++ L) e1.symm (by rw [← e2]; exact X'.warmed.alike) hp hb k1 k2 k3 T' rfl X'
    exact ⟨t2, st t2 a1, b1⟩
  · obtain ⟨k1, k2, k3⟩ := vx_keep h0 e1 hS hAX hf hL hF
    obtain ⟨t2, a1, b1⟩ := kx E ce q u t T'.heap (locs ++ L) e1.symm (by rw [← e2]; exact X'.warmed.alike) hp hb k1 k2 k3 (by rw [e1]; exact hce) hcv hcl T' rfl X'
    exact ⟨t2, st.trans a1, b1⟩
theorem vx_callv {S SX : Type} {post : S → Prop} {px : SX → Prop} {B : S → State → Prop} {BX : String → SX → State → Prop} {AX : Nat → Prop} (hr : vx_Run p l e R s m args below meth c H locs cells slots mc ms (F0 m pc ls st0) rest (va_Qv post B A1 a) (vx_X px BX AX) free) (hS : va_S A0 H0 H locs) (hA : ∀ q, q < H.size → A1 q → A0 q) (hf : ∀ q, free q → A0 q) (hAX : ∀ q, q < H.size → AX q → A0 q)
    (kx : ∀ (E : String) (ce : Cell) (q9 : Addr) (u : SX) (t : State) (H1 : Heap) (locs1 : List Loc), t.heap = H1 → s.vm.Alike t.vm → px u → BX E u t → H.size ≤ H1.size → (∀ q : Nat, q < H.size → ¬ AX q → H1[q]? = H[q]?) → va_S A0 H0 H1 locs1 → H1[q9]? = some ce → ce.vm = .none → s.vm.findClass E = some ce.cls → vx_W p l e R s m args below meth c H1 locs1 (cells + mc) (slots + ms) Q (F0 m pc ls rest) q9)
    (kk : ∀ (u : S) (t : State) (H1 : Heap) (locs1 : List Loc), t.heap = H1 → s.vm.Alike t.vm → post u → B u t → H.size ≤ H1.size → (∀ q : Nat, q < H.size → ¬ A1 q → H1[q]? = H[q]?) → va_S A0 H0 H1 locs1 → W p l e R s m args below meth c H1 locs1 (cells + mc) (slots + ms) Q (F0 m (pc + 3) ls (rest))) : W p l e R s m args below meth c H locs cells slots Q (F0 m pc ls st0) := by
  intro T hT X
  rcases hr T hT X with ⟨v, st₀, t, T', L, h0, X', hL, e1, e2, ⟨⟨u, hv, hp, hb⟩, hF⟩, st⟩ | ⟨q, st₀, t, T', L, E, ce, h0, X', hL, e1, e2, ⟨u, hp, hb, hF⟩, hce, hcv, hcl, st⟩
  · cases hv
    obtain ⟨k1, k2, k3⟩ := vx_keep h0 e1 hS hA hf hL hF
    obtain ⟨t2, a1, b1⟩ := kk u t T'.heap (locs ++ L) e1.symm (by rw [← e2]; exact X'.warmed.alike) hp hb k1 k2 k3 T' rfl X'
    exact ⟨t2, st t2 a1, b1⟩
  · obtain ⟨k1, k2, k3⟩ := vx_keep h0 e1 hS hAX hf hL hF
    obtain ⟨t2, a1, b1⟩ := kx E ce q u t T'.heap (locs ++ L) e1.symm (by rw [← e2]; exact X'.warmed.alike) hp hb k1 k2 k3 (by rw [e1]; exact hce) hcv hcl T' rfl X'
    exact ⟨t2, st.trans a1, b1⟩
/-- caught by the row x of this method's table; the rows ahead don't take it -/
theorem vx_catch {own name : String} {E : String} {ce : Cell} {q : Addr} (hown : s.vm.findClass own = some m.cls) (pre : List ExceptionTableEntry) (x : ExceptionTableEntry) (suf : List ExceptionTableEntry) (hsplit : c.exceptionTable.toList = pre ++ x :: suf)
    (hpass : ∀ z ∈ pre, covers z pc = false ∨ (z.catchType ≠ 0 ∧ ∃ nm : String, (Cond.classLink own z.catchType nm).before args s = true ∧ va_Nc E nm s)) (hx : covers x pc = true) (h0 : x.catchType ≠ 0)
    (hlink : (Cond.classLink own x.catchType name).before args s = true) (hcast : (Cond.castable E name).before args s = true) (hcell : H[q]? = some ce) (hv : ce.vm = .none) (hcl : s.vm.findClass E = some ce.cls)
    (kk : W p l e R s m args below meth c H locs cells slots Q (F0 m x.handlerPc ls [.ref q])) : vx_W p l e R s m args below meth c H locs cells slots Q (F0 m pc ls rest) q := by
  intro T hT X
  have hpl : e.platform.magicAccessors = ({} : Platform).magicAccessors := by rw [X.admits.platform]
  obtain ⟨c3, c4, hc3, hc4, hasg⟩ := Cond.castable_spec hcast
  cases Option.some.inj (hc3.symm.trans hcl)
  obtain ⟨c5, hc5, hcl5⟩ := Cond.classLink_spec hown hlink e.platform hpl
  cases Option.some.inj (hc4.symm.trans hc5)
  obtain ⟨vm', X', st⟩ := X.thenCaughtThrough q (g := F0 m pc ls rest) rfl (Steps.refl _) (by rw [hT]; exact hcell) (by rw [hv]; rfl) (by obtain ⟨k9, h9, -⟩ := Vm.findClass_spec hcl; exact ⟨k9, h9⟩) pre x suf hsplit
    (fun z hz => by
      rcases hpass z hz with h | ⟨hz0, nm, hl1, hn1⟩
      · exact Or.inl h
      · obtain ⟨c6, hc6, hcl6⟩ := Cond.classLink_spec hown hl1 e.platform hpl
        obtain ⟨a8, b8, h1, h2, h3⟩ := hn1
        cases Option.some.inj (h1.symm.trans hcl)
        cases Option.some.inj (h2.symm.trans hc6)
        exact Or.inr ⟨hz0, _, hcl6, h3⟩) hx (Or.inr ⟨h0, c4, hcl5, hasg⟩)
  obtain ⟨t, a1, b1⟩ := kk (T.setVm vm') hT X'
  exact ⟨t, st.trans a1, b1⟩
end Rows
section Ends
variable {p : Program} {l : Launch} {e : Env} {R : Room} {s : State} {m : MethodId} {args : Array Value} {below : List Frame} {meth : Method} {c : Code} {H : Heap} {locs : List Loc} {cells slots : Nat} {Q : State → Prop}
variable {mc ms : Nat} {free : Addr → Prop} {A0 A1 : Nat → Prop} {H0 : Heap} {a : Array Value} {ls : Array Slot} {st0 rest : List Value}
variable {Qc : Array Value → State → Outcome → State → Prop} {XC : String → State → State → Prop}
/-- what a body that may throw owes at its end -/
def vx_MQ (below : List Frame) (Qc : Array Value → State → Outcome → State → Prop) (XC : String → State → State → Prop) (a : Array Value) (s : State) (mc ms : Nat) (free : Addr → Prop) : State → Prop := fun t =>
  ∃ o, t.status = .running ∧ Ended t below o ∧ vx_Q Qc XC mc ms free a s o t
theorem vx_ret {g : JFrame} {mc ms : Nat} (k : W p l e R s m args below meth c H locs cells slots (MQ below Qc args s mc ms free) g) : W p l e R s m args below meth c H locs cells slots (vx_MQ below Qc XC args s mc ms free) g := by
  intro T hT X
  obtain ⟨t, a1, o, b1, b2, b3, b4⟩ := k T hT X
  exact ⟨t, a1, o, b1, b2, Or.inl ⟨b3, b4⟩⟩
/-- not caught here: it goes on to the caller -/
theorem vx_widen {g : JFrame} {q : Addr} {k n : Nat} (h1 : cells ≤ k) (h2 : slots ≤ n) (kk : vx_W p l e R s m args below meth c H locs k n Q g q) : vx_W p l e R s m args below meth c H locs cells slots Q g q := fun T hT X => kk T hT (stand_widen X h1 h2)
theorem vx_out {pc : Nat} {E : String} {ce : Cell} {q : Addr} {mc ms : Nat} (hout : ∀ x ∈ c.exceptionTable.toList, covers x pc = false) (hlocks : meth.locks = false) (hcell : H[q]? = some ce) (hv : ce.vm = .none) (hcl : s.vm.findClass E = some ce.cls)
    (hx : ∀ t : State, t.heap = H → s.vm.Alike t.vm → XC E s t) (hf : ∀ z ∈ locs, free z.base) (hc : cells ≤ mc) (hs : slots ≤ ms) :
    vx_W p l e R s m args below meth c H locs cells slots (vx_MQ below Qc XC args s mc ms free) (F0 m pc ls rest) q := by
  intro T hT X
  obtain ⟨st1, hrun, hend, hW, hsm⟩ := X.leaveThrown q (g := F0 m pc ls rest) rfl rfl rfl hout hlocks
  have hcell9 : (T.setFrames (.throwing q :: below)).heap[q]? = some ce := by
    show T.heap[q]? = some ce
    rw [hT]; exact hcell
  exact ⟨_, st1, .threw q, hrun, hend, Or.inr ⟨q, rfl, E, ce, locs, hx _ hT hW.alike, hcell9, hv, hcl, hW, hsm.mono hc hs, hf⟩⟩
theorem vx_frame {U : State} {k n : Nat} (h : s.sameButNew ({ U with vm := s.vm } : State) locs k n) : s.heap.size ≤ U.heap.size ∧ ∀ q : Nat, q < s.heap.size → (∀ z ∈ locs, z.base ≠ q) → U.heap[q]? = s.heap[q]? := by
  obtain ⟨-, h2, -, -, -, h6⟩ := h
  refine ⟨h2, fun q hq hz => ?_⟩
  obtain ⟨c9, e1, e2, e3, e4⟩ := h6 q _ (Array.getElem?_eq_getElem hq)
  have hs : c9.slots = (s.heap[q]).slots := Array.ext_getElem? fun i => e4 i fun hm => hz _ hm rfl
  have h9 : c9 = s.heap[q] := by
    rw [hs] at e2
    exact e2
  have e5 : U.heap[q]? = some c9 := e1
  rw [e5, h9, Array.getElem?_eq_getElem hq]
/-- the words of a throw but the four that speak of the heap -/
def vx_no (w : Cond) : Bool := decide (w ≠ .isRef (.static Bundle.tN "UNASSIGNED_STACK" Bundle.steD)) && decide (w ≠ .isRef (.static Bundle.tN "SUPPRESSED_SENTINEL" Bundle.listD)) && decide (w ≠ .laysStatic Bundle.tN "UNASSIGNED_STACK" Bundle.steD) && decide (w ≠ .laysStatic Bundle.tN "SUPPRESSED_SENTINEL" Bundle.listD)
def vx_at0 (own : String) (ic : Nat) (X : String) (names : List String) : List Cond := (Bundle.ownAtoms0 own ic X names).filter vx_no
def vx_atS (own : String) (ic : Nat) (X : String) (names : List String) : List Cond := (Bundle.ownAtoms own ic X names).filter vx_no
/-- a word that the tables alone decide, or a good one -/
def vx_ot (w : Cond) : Bool := w.onTables || goodWord w
theorem vx_ot_at {args a' : Array Value} {s U : State} {w : Cond} (hW : s.WarmedH U.vm) (hvm : s.vm = U.vm) (hg : vx_ot w = true) (h : w.before args s = true) : w.before a' U = true := by
  simp only [vx_ot, Bool.or_eq_true] at hg
  rcases hg with hg | hg
  · exact va_tabs hg hvm h
  · exact word_at hW (good_of_word hg) h
/-- a list's words: the good ones out of the method's own list, the others by premises of their own -/
theorem vx_hat {args : Array Value} {s : State} {L B : List Cond} (h1 : ∀ w ∈ L.filter goodWord, w.before args s = true) (h2 : ∀ w ∈ L.filter (fun w => !goodWord w), w ∈ B) (h3 : ∀ w ∈ B, w.before args s = true) : ∀ w ∈ L, w.before args s = true := by
  intro w hw
  by_cases g : goodWord w = true
  · exact h1 w (List.mem_filter.mpr ⟨hw, g⟩)
  · refine h3 w (h2 w (List.mem_filter.mpr ⟨hw, ?_⟩))
    show (!goodWord w) = true
    cases hgw : goodWord w
    · rfl
    · exact absurd hgw g
theorem vx_c {args : Array Value} {s : State} {w : Cond} {B : List Cond} (h : w.before args s = true) (t : ∀ w ∈ B, w.before args s = true) : ∀ w' ∈ w :: B, w'.before args s = true := fun w' h' => (List.mem_cons.mp h').elim (fun e => by rw [e]; exact h) (t w')
theorem vx_n {args : Array Value} {s : State} : ∀ w ∈ ([] : List Cond), w.before args s = true := fun _ h => nomatch h
theorem vx_own {args : Array Value} {s : State} {L : List Cond} (h1 : ∀ w ∈ L.filter vx_no, w.before args s = true)
    (hU : (Cond.isRef (.static Bundle.tN "UNASSIGNED_STACK" Bundle.steD)).before args s = true) (hN : (Cond.isRef (.static Bundle.tN "SUPPRESSED_SENTINEL" Bundle.listD)).before args s = true)
    (lU : (Cond.laysStatic Bundle.tN "UNASSIGNED_STACK" Bundle.steD).before args s = true) (lN : (Cond.laysStatic Bundle.tN "SUPPRESSED_SENTINEL" Bundle.listD).before args s = true) : ∀ w ∈ L, w.before args s = true := by
  intro w hw
  by_cases e1 : w = .isRef (.static Bundle.tN "UNASSIGNED_STACK" Bundle.steD)
  · rw [e1]; exact hU
  · by_cases e2 : w = .isRef (.static Bundle.tN "SUPPRESSED_SENTINEL" Bundle.listD)
    · rw [e2]; exact hN
    · by_cases e3 : w = .laysStatic Bundle.tN "UNASSIGNED_STACK" Bundle.steD
      · rw [e3]; exact lU
      · by_cases e4 : w = .laysStatic Bundle.tN "SUPPRESSED_SENTINEL" Bundle.listD
        · rw [e4]; exact lN
        · exact h1 w (List.mem_filter.mpr ⟨hw, by unfold vx_no; rw [decide_eq_true e1, decide_eq_true e2, decide_eq_true e3, decide_eq_true e4]; rfl⟩)
/-- where a static field lies, its class's statics cell in H -/
def vx_L (C n d : String) (A : Nat → Prop) (U : State) (H : Heap) : Prop := ∃ (c : ClassId) (k : Class) (i : Nat) (f : Field) (a : Nat) (cell : Cell), U.vm.findClass C = some c ∧ U.fieldFound? C n d = some (c, k, i, f) ∧ f.isStatic = true ∧ k.statics = some a ∧ H[a]? = some cell ∧ cell.vm.isStatics = true ∧ cell.cls = c ∧ f.slot < cell.slots.size ∧ k.staticTypes[f.slot]? = some f.type ∧ ¬ A a
theorem vx_L.moved {C n d : String} {A : Nat → Prop} {u U : State} {H : Heap} (hvm : u.vm.Alike U.vm) (h : vx_L C n d A u H) : vx_L C n d A U H := by
  obtain ⟨c, k, i, f, a, cell, h1, h2, h3, h4, h5, h6, h7, h8, h9, h10⟩ := h
  obtain ⟨k', hi', he⟩ := State.fieldFound?_setVm hvm h2
  exact ⟨c, k', i, f, a, cell, by rw [hvm.findClass]; exact h1, hi', h3, by rw [he]; exact h4, h5, h6, h7, h8, by rw [he]; exact h9, h10⟩
theorem vx_L.kept {C n d : String} {A : Nat → Prop} {U : State} {H H1 : Heap} (h : vx_L C n d A U H) (hq : ∀ a : Nat, a < H.size → ¬ A a → H1[a]? = H[a]?) : vx_L C n d A U H1 := by
  obtain ⟨c, k, i, f, a, cell, h1, h2, h3, h4, h5, h6, h7, h8, h9, h10⟩ := h
  exact ⟨c, k, i, f, a, cell, h1, h2, h3, h4, by rw [hq a (Array.getElem?_eq_some_iff.mp h5).1 h10]; exact h5, h6, h7, h8, h9, h10⟩
theorem vx_L.narrow {C n d : String} {A B : Nat → Prop} {U : State} {H : Heap} (h : vx_L C n d A U H) (hAB : ∀ q, B q → A q) : vx_L C n d B U H := by
  obtain ⟨c, k, i, f, a, cell, h1, h2, h3, h4, h5, h6, h7, h8, h9, h10⟩ := h
  exact ⟨c, k, i, f, a, cell, h1, h2, h3, h4, h5, h6, h7, h8, h9, fun z => h10 (hAB _ z)⟩
theorem vx_L.word {C n d : String} {A : Nat → Prop} {s : State} {args : Array Value} (h : vx_L C n d A s s.heap) : (Cond.laysStatic C n d).before args s = true := by
  obtain ⟨c, k, i, f, a, cell, h1, h2, h3, h4, h5, h6, h7, h8, h9, -⟩ := h
  show (Cond.laysStatic C n d).holds args s none s [] = true
  exact Cond.laysStatic_of h1 h2 h3 h4 h5 h6 h7 h8 h9
/-- .. and what it holds: null or some reference -/
def vx_Zq (C n d : String) (A : Nat → Prop) (U : State) (H : Heap) : Prop := va_Zq C n d A U H ∧ vx_L C n d A U H
theorem vx_Zq.moved {C n d : String} {A : Nat → Prop} {u U : State} {H : Heap} (hvm : u.vm.Alike U.vm) (h : vx_Zq C n d A u H) : vx_Zq C n d A U H := ⟨va_Zq.moved hvm h.1, vx_L.moved hvm h.2⟩
theorem vx_Zq.kept {C n d : String} {A : Nat → Prop} {U : State} {H H1 : Heap} (h : vx_Zq C n d A U H) (hq : ∀ a : Nat, a < H.size → ¬ A a → H1[a]? = H[a]?) : vx_Zq C n d A U H1 := ⟨va_Zq.kept h.1 hq, vx_L.kept h.2 hq⟩
theorem vx_Zq.narrow {C n d : String} {A B : Nat → Prop} {U : State} {H : Heap} (h : vx_Zq C n d A U H) (hAB : ∀ q, B q → A q) : vx_Zq C n d B U H := ⟨va_Zq.narrow h.1 hAB, vx_L.narrow h.2 hAB⟩
theorem vx_Zqof {args : Array Value} {s : State} {C n d : String} {A : Nat → Prop} (hl : (Cond.laysStatic C n d).before args s = true) (hini : (Cond.initialized C).before args s = true) (h : (Cond.isRef (.static C n d)).before args s = true) (hA : ∀ a : Nat, a < s.heap.size → ¬ A a) : vx_Zq C n d A s s.heap := by
  refine ⟨va_Zqof hl hini h hA, ?_⟩
  obtain ⟨c, k, i, f, a, cell, h1, h2, h3, h4, h5, h6, h7, h8, h9⟩ := Cond.laysStatic_spec hl
  exact ⟨c, k, i, f, a, cell, h1, h2, h3, h4, h5, h6, h7, h8, h9, hA a (Array.getElem?_eq_some_iff.mp h5).1⟩
theorem vx_isRef {C n d : String} {v : Value} {A : Nat → Prop} {s : State} {args : Array Value} (h : va_Z C n d v A s s.heap) (hv : v.isRef = true) : (Cond.isRef (.static C n d)).before args s = true := by
  obtain ⟨cf, kf, fi, f, a, cell, h1, h2, h3, h4, h5, h6, h7, -⟩ := h
  have he : (Term.static C n d).eval args s none [] s = some v := by
    simp [Term.eval, State.fieldNamed?, h1, h2, h4, h5, h6, h7]
  simp only [Cond.before, Cond.holds, Cond.value, he]
  cases v <;> simp_all [Value.isRef]
theorem vx_isRefq {C n d : String} {A : Nat → Prop} {s : State} {args : Array Value} (h : va_Zq C n d A s s.heap) : (Cond.isRef (.static C n d)).before args s = true := by
  rcases h with h | ⟨t, h⟩
  · exact vx_isRef h rfl
  · exact vx_isRef h rfl
/-- the same frame, seen from here: as if the method were called anew in this heap -/
theorem vx_rebase {T : State} (X : Stand p l e R s m args below meth c T locs cells slots) {R' : Room} (hf : R'.frames ≤ R.frames) (hl : R'.locals ≤ R.locals) (hc : cells + R'.cells ≤ R.cells) (hs : slots + R'.slots ≤ R.slots) :
    Stand p l e R' ((T.setVm s.vm).setFrames (.invoking m args :: below)) m args below meth c T [] 0 0 := by
  have htop : (T.setVm s.vm).topJava?.isSome := X.here.top
  have hF : ((T.setVm s.vm).setFrames (.invoking m args :: below)).frames = .invoking m args :: below := State.frames_setFrames _ (State.cur_lt_of_top htop)
  obtain ⟨g₀, hg0⟩ := Option.isSome_iff_exists.mp htop
  obtain ⟨r, hr⟩ := State.topJava?_eq_some.mp hg0
  have hl9 : e.platform.stackLimits (T.setVm s.vm).me = e.platform.stackLimits s.me := X.limits
  have hb9 : (T.setVm s.vm).me.stackBytes = s.me.stackBytes := X.bytes
  refine ⟨X.admits, X.cas, X.clock, hF, ?_, X.hears, X.method, X.code, X.here, X.tail, X.warmed, ?_, ?_, ?_⟩
  · have h := X.room
    have hU : ((T.setVm s.vm).setFrames (.invoking m args :: below)).localsInUse = s.localsInUse := by
      rw [State.localsInUse_invoking hF (meth := meth) (c := c) X.method X.code, State.localsInUse_invoking X.frames X.method X.code]
    simp only [State.hasRoom, Bool.and_eq_true, decide_eq_true_eq] at h ⊢
    obtain ⟨⟨⟨⟨h1, h2, h3, h4, h5, h6⟩, h7⟩, h8⟩, h9⟩ := h
    rw [X.frames, List.length_cons] at h2 h3
    have q1 := X.heapSize
    have q2 := X.used
    simp only [hF, hU, List.length_cons, State.stackLimits_setFrames, State.stackBytes_setFrames, hl9, hb9]
    refine ⟨⟨⟨⟨by omega, by omega, by omega, by omega, by omega, h6⟩, ?_⟩, ?_⟩, X.book⟩
    · show T.heap.size + R'.cells ≤ e.platform.maxCells
      omega
    · show T.slotsUsed + R'.slots ≤ e.platform.maxSlots
      omega
  · rw [State.stackLimits_setFrames]; rfl
  · rw [State.stackBytes_setFrames]; rfl
  · refine ⟨?_, Nat.le_refl _, Nat.le_refl _, ?_, ?_, fun a c9 h9 => ⟨c9, h9, rfl, rfl, fun _ _ => rfl⟩⟩
    · obtain ⟨t, ht, -⟩ := State.frames_cons hr
      show T.setVm s.vm = { ((T.setVm s.vm).setFrames (.invoking m args :: below)).setFrames (T.setVm s.vm).frames with heap := T.heap, slotsUsed := T.slotsUsed }
      rw [State.setFrames_setFrames, State.setFrames_self ht]
      rfl
    · show T.slotsUsed = T.slotsUsed + ((T.heap.toList.drop T.heap.size).map (·.slots.size)).sum
      rw [List.drop_eq_nil_of_le (Nat.le_of_eq Array.length_toList)]
      rfl
    · show ((T.heap.toList.drop T.heap.size).map (·.slots.size)).sum ≤ 0
      rw [List.drop_eq_nil_of_le (Nat.le_of_eq Array.length_toList)]
      exact Nat.le_refl _
/-- 'throw new E()': new; dup; invokespecial; athrow -/
theorem vx_throw0 {cc : ByteArray} {pc : Nat} (hexec : p.tables.exec = Jvm.exec) (hb : c.code = cc) (hl : l.stackTraces = false) {own cls : String} {names : List String} {ik ic mc ms : Nat} {A : Nat → Prop}
    (hown : s.vm.findClass own = some m.cls) (hcls : Bundle.fit cls = true) (hnames : ∀ n ∈ names, Bundle.fit n = true)
    (hk : (Cond.classLink own ik cls).before args s = true) (hini : (Cond.initialized cls).before args s = true) (hat : ∀ w ∈ vx_at0 own ic cls names, w.before args s = true)
    (hgood : ∀ w ∈ Cond.classLink own ik cls :: Cond.initialized cls :: vx_at0 own ic cls names, vx_ot w = true)
    (hU : vx_Zq Bundle.tN "UNASSIGNED_STACK" Bundle.steD A s s.heap) (hN : vx_Zq Bundle.tN "SUPPRESSED_SENTINEL" Bundle.listD A s s.heap) (hS : va_S A s.heap H locs) (hsize : ls.size = c.maxLocals)
    (d0 : decode cc pc = .ok (.new ik, 3)) (d3 : decode cc (pc + 3) = .ok (.dup, 1)) (d4 : decode cc (pc + 4) = .ok (.invokespecial ic, 3)) (d7 : decode cc (pc + 7) = .ok (.athrow, 1))
    (hout : ∀ x ∈ c.exceptionTable.toList, covers x (pc + 7) = false)
    (hRframes : names.length + 3 < R.frames) (hRlocals : (rest.map fun v => v.category).sum + (13 * (names.length + 1) + 42) ≤ R.locals) (hRcells : cells + 1 ≤ R.cells) (hRslots : slots + 6 ≤ R.slots) (hlocks : meth.locks = false)
    (hx : ∀ t : State, s.vm.Alike t.vm → H.size ≤ t.heap.size → (∀ q : Nat, q < H.size → t.heap[q]? = H[q]?) → XC cls s t)
    (hf : ∀ z ∈ locs, free z.base) (hc : cells + 1 ≤ mc) (hs : slots + 6 ≤ ms) :
    W p l e R s m args below meth c H locs cells slots (vx_MQ below Qc XC args s mc ms free) (F0 m pc ls rest) := by
  intro T hT X
  have htr : e.platform.stackTraces = false := (show e.platform.stackTraces = l.stackTraces by rw [X.admits.platform]).trans hl
  have Y := vx_rebase X (R' := { frames := R.frames, locals := R.locals, cells := 1, slots := 6 }) (Nat.le_refl _) (Nat.le_refl _) hRcells hRslots
  obtain ⟨s', hA⟩ : ∃ z, z = (T.setVm s.vm).setFrames (.invoking m args :: below) := ⟨_, rfl⟩
  rw [← hA] at Y
  have hvm : s'.vm = s.vm := by rw [hA]; rfl
  have hhp : s'.heap = H := by rw [hA]; exact hT
  have hW0 : s.WarmedH s'.vm := by rw [hvm]; exact State.WarmedH.refl s
  have hat' : ∀ w ∈ vx_at0 own ic cls names, w.before args s' = true := fun w hw => vx_ot_at hW0 hvm.symm (hgood w (List.mem_cons_of_mem _ (List.mem_cons_of_mem _ hw))) (hat w hw)
  have hk' : (Cond.classLink own ik cls).before args s' = true := vx_ot_at hW0 hvm.symm (hgood _ List.mem_cons_self) hk
  have hini' : (Cond.initialized cls).before args s' = true := vx_ot_at hW0 hvm.symm (hgood _ (List.mem_cons_of_mem _ List.mem_cons_self)) hini
  have hU' : vx_Zq Bundle.tN "UNASSIGNED_STACK" Bundle.steD A s' s'.heap := by rw [hhp]; exact vx_Zq.moved hW0.alike (hU.kept hS.2.1)
  have hN' : vx_Zq Bundle.tN "SUPPRESSED_SENTINEL" Bundle.listD A s' s'.heap := by rw [hhp]; exact vx_Zq.moved hW0.alike (hN.kept hS.2.1)
  have h : ∀ w ∈ Bundle.ownAtoms0 own ic cls names, w.before args s' = true := vx_own hat' (vx_isRefq hU'.1) (vx_isRefq hN'.1) hU'.2.word hN'.2.word
  have hown' : s'.vm.findClass own = some m.cls := by rw [hvm]; exact hown
  have hins : (Cond.instantiable cls 6).before args s' = true := h _ (by simp [Bundle.ownAtoms0])
  obtain ⟨vm₁, cX, kX, hfX, hkX, -, -, X₁, st1⟩ := Y.newCold hexec (own := own) (C := cls) (index := ik) (n := 6) hown' hk' hins hini'
    (g := F0 m pc ls rest) rfl (by rw [hb]; exact d0) (Nat.le_refl _) (Nat.le_refl _)
  generalize hT1 : (T.setVm vm₁).pushCell { cls := cX, slots := kX.instanceTypes.map defaultValue, vm := .none } = T1 at X₁ st1
  have hcat : (Value.ref T.heap.size).category = 1 := rfl
  have hcellA : T1.heap[T.heap.size]? = some (freshCell cX kX) := by rw [← hT1]; exact State.heap_pushCell_size _ _
  have d3' : decode c.code (pc + 3) = .ok (.dup, 1) := by rw [hb]; exact d3
  obtain ⟨U, hsteps, hrun, hend, hW, hsame, ce, hce, hO⟩ := X₁.ctorThrow0 hexec htr (own := own) (cls := cls) (names := names) (ic := ic) hown' hcls hnames h (fun x hx => nomatch hx) hfX hkX hcellA (by rw [hhp, hT]; exact Nat.le_refl _)
    (g := { method := m, pc := pc + 4, locals := ls, stack := .ref T.heap.size :: .ref T.heap.size :: rest, locked := none }) rfl hsize rfl rfl (rest := rest) rfl
    (by rw [hb]; exact d4) (by rw [hb]; exact d7) hout hRframes (by simp only [List.map_cons, List.sum_cons, hcat]; omega) hlocks
  obtain ⟨f1, f2⟩ := vx_frame hsame
  rw [hhp] at f1 f2
  have hWs : s.WarmedH U.vm := State.WarmedH.trans hW0 hW
  have hcl : s.vm.findClass cls = some ce.cls := by
    have h9 := hO.cls
    rw [hvm] at h9
    exact h9
  have hall : s.sameButNew ({ U with vm := s.vm } : State) locs mc ms := by
    subst hA
    obtain ⟨e1, e2⟩ := hsame
    rw [State.setFrames_setFrames] at e1
    have h2 : (T.setVm s.vm).sameButNew ({ U with vm := s.vm } : State) [] (0 + 1) (0 + 6) := ⟨e1, e2⟩
    have h3 := X.same.trans h2
    rw [List.append_nil] at h3
    exact h3.mono hc hs
  refine ⟨U, ?_, .threw T.heap.size, hrun, hend, Or.inr ⟨T.heap.size, rfl, cls, ce, locs, hx U hWs.alike f1 (fun q hq => f2 q hq (fun z hz => nomatch hz)), hce, hO.vm, hcl, hWs, hall, hf⟩⟩
  refine st1 _ ?_
  show Steps p.tables e below (T1.setTop { method := m, pc := pc + 3, locals := ls, stack := .ref T.heap.size :: rest, locked := none }) _
  jvm_step X₁.here [X₁.here.top, hexec, d3', Value.category]
  exact hsteps
/-- 'throw new E("text")': new; dup; ldc; invokespecial; athrow -/
theorem vx_throwS {cc : ByteArray} {pc : Nat} (hexec : p.tables.exec = Jvm.exec) (hb : c.code = cc) (hl : l.stackTraces = false) {own cls text : String} {names : List String} {ik is ic mc ms sa : Nat} {A : Nat → Prop}
    (hown : s.vm.findClass own = some m.cls) (hcls : Bundle.fit cls = true) (hnames : ∀ n ∈ names, Bundle.fit n = true)
    (hk : (Cond.classLink own ik cls).before args s = true) (hini : (Cond.initialized cls).before args s = true) (hstr : vk_R own is text sa s) (hat : ∀ w ∈ vx_atS own ic cls names, w.before args s = true)
    (hgood : ∀ w ∈ Cond.classLink own ik cls :: Cond.initialized cls :: vx_atS own ic cls names, vx_ot w = true)
    (hU : vx_Zq Bundle.tN "UNASSIGNED_STACK" Bundle.steD A s s.heap) (hN : vx_Zq Bundle.tN "SUPPRESSED_SENTINEL" Bundle.listD A s s.heap) (hS : va_S A s.heap H locs) (hsize : ls.size = c.maxLocals)
    (d0 : decode cc pc = .ok (.new ik, 3)) (d3 : decode cc (pc + 3) = .ok (.dup, 1)) (d4 : decode cc (pc + 4) = .ok (.ldc is, 2)) (d6 : decode cc (pc + 6) = .ok (.invokespecial ic, 3)) (d9 : decode cc (pc + 9) = .ok (.athrow, 1))
    (hout : ∀ x ∈ c.exceptionTable.toList, covers x (pc + 9) = false)
    (hRframes : names.length + 3 < R.frames) (hRlocals : (rest.map fun v => v.category).sum + (13 * (names.length + 1) + 43) ≤ R.locals) (hRcells : cells + 1 ≤ R.cells) (hRslots : slots + 6 ≤ R.slots) (hlocks : meth.locks = false)
    (hx : ∀ t : State, s.vm.Alike t.vm → H.size ≤ t.heap.size → (∀ q : Nat, q < H.size → t.heap[q]? = H[q]?) → XC cls s t)
    (hf : ∀ z ∈ locs, free z.base) (hc : cells + 1 ≤ mc) (hs : slots + 6 ≤ ms) :
    W p l e R s m args below meth c H locs cells slots (vx_MQ below Qc XC args s mc ms free) (F0 m pc ls rest) := by
  intro T hT X
  have htr : e.platform.stackTraces = false := (show e.platform.stackTraces = l.stackTraces by rw [X.admits.platform]).trans hl
  have Y := vx_rebase X (R' := { frames := R.frames, locals := R.locals, cells := 1, slots := 6 }) (Nat.le_refl _) (Nat.le_refl _) hRcells hRslots
  obtain ⟨s', hA⟩ : ∃ z, z = (T.setVm s.vm).setFrames (.invoking m args :: below) := ⟨_, rfl⟩
  rw [← hA] at Y
  have hvm : s'.vm = s.vm := by rw [hA]; rfl
  have hhp : s'.heap = H := by rw [hA]; exact hT
  have hW0 : s.WarmedH s'.vm := by rw [hvm]; exact State.WarmedH.refl s
  have hat' : ∀ w ∈ vx_atS own ic cls names, w.before args s' = true := fun w hw => vx_ot_at hW0 hvm.symm (hgood w (List.mem_cons_of_mem _ (List.mem_cons_of_mem _ hw))) (hat w hw)
  have hk' : (Cond.classLink own ik cls).before args s' = true := vx_ot_at hW0 hvm.symm (hgood _ List.mem_cons_self) hk
  have hini' : (Cond.initialized cls).before args s' = true := vx_ot_at hW0 hvm.symm (hgood _ (List.mem_cons_of_mem _ List.mem_cons_self)) hini
  have hU' : vx_Zq Bundle.tN "UNASSIGNED_STACK" Bundle.steD A s' s'.heap := by rw [hhp]; exact vx_Zq.moved hW0.alike (hU.kept hS.2.1)
  have hN' : vx_Zq Bundle.tN "SUPPRESSED_SENTINEL" Bundle.listD A s' s'.heap := by rw [hhp]; exact vx_Zq.moved hW0.alike (hN.kept hS.2.1)
  have h : ∀ w ∈ Bundle.ownAtoms own ic cls names, w.before args s' = true := vx_own hat' (vx_isRefq hU'.1) (vx_isRefq hN'.1) hU'.2.word hN'.2.word
  have hown' : s'.vm.findClass own = some m.cls := by rw [hvm]; exact hown
  have hins : (Cond.instantiable cls 6).before args s' = true := h _ (by simp [Bundle.ownAtoms])
  obtain ⟨vm₁, cX, kX, hfX, hkX, -, -, X₁, st1⟩ := Y.newCold hexec (own := own) (C := cls) (index := ik) (n := 6) hown' hk' hins hini'
    (g := F0 m pc ls rest) rfl (by rw [hb]; exact d0) (Nat.le_refl _) (Nat.le_refl _)
  generalize hT1 : (T.setVm vm₁).pushCell { cls := cX, slots := kX.instanceTypes.map defaultValue, vm := .none } = T1 at X₁ st1
  have hcat : (Value.ref T.heap.size).category = 1 := rfl
  have hcellA : T1.heap[T.heap.size]? = some (freshCell cX kX) := by rw [← hT1]; exact State.heap_pushCell_size _ _
  have d3' : decode c.code (pc + 3) = .ok (.dup, 1) := by rw [hb]; exact d3
  have d4' : decode c.code (pc + 4) = .ok (.ldc is, 2) := by rw [hb]; exact d4
  have hstr' : vk_R own is text sa s' := vk_R.warm hW0 hstr
  obtain ⟨U, hsteps, hrun, hend, hW, hsame, ce, hce, hO⟩ := X₁.ctorThrowS hexec htr (own := own) (cls := cls) (names := names) (ic := ic) hown' hcls hnames h (fun x hx => nomatch hx) hfX hkX hcellA (by rw [hhp, hT]; exact Nat.le_refl _) (msg := .ref sa) rfl
    (g := { method := m, pc := pc + 6, locals := ls, stack := .ref sa :: .ref T.heap.size :: .ref T.heap.size :: rest, locked := none }) rfl hsize rfl rfl (rest := rest) rfl
    (by rw [hb]; exact d6) (by rw [hb]; exact d9) hout hRframes (by simp only [List.map_cons, List.sum_cons, hcat]; omega) hlocks
  obtain ⟨f1, f2⟩ := vx_frame hsame
  rw [hhp] at f1 f2
  have hWs : s.WarmedH U.vm := State.WarmedH.trans hW0 hW
  have hcl : s.vm.findClass cls = some ce.cls := by
    have h9 := hO.cls
    rw [hvm] at h9
    exact h9
  have hall : s.sameButNew ({ U with vm := s.vm } : State) locs mc ms := by
    subst hA
    obtain ⟨e1, e2⟩ := hsame
    rw [State.setFrames_setFrames] at e1
    have h2 : (T.setVm s.vm).sameButNew ({ U with vm := s.vm } : State) [] (0 + 1) (0 + 6) := ⟨e1, e2⟩
    have h3 := X.same.trans h2
    rw [List.append_nil] at h3
    exact h3.mono hc hs
  refine ⟨U, ?_, .threw T.heap.size, hrun, hend, Or.inr ⟨T.heap.size, rfl, cls, ce, locs, hx U hWs.alike f1 (fun q hq => f2 q hq (fun z hz => nomatch hz)), hce, hO.vm, hcl, hWs, hall, hf⟩⟩
  refine st1 _ ?_
  show Steps p.tables e below (T1.setTop { method := m, pc := pc + 3, locals := ls, stack := .ref T.heap.size :: rest, locked := none }) _
  jvm_step X₁.here [X₁.here.top, hexec, d3', Value.category]
  exact X₁.ldcString hexec (own := own) (text := text) (index := is) (a := sa) hown' hstr'.1 hstr'.2
    (g := { method := m, pc := pc + 4, locals := ls, stack := .ref T.heap.size :: .ref T.heap.size :: rest, locked := none }) rfl d4' _ hsteps
/-- 'throw new E("text")', the text by a wide index -/
theorem vx_throwSW {cc : ByteArray} {pc : Nat} (hexec : p.tables.exec = Jvm.exec) (hb : c.code = cc) (hl : l.stackTraces = false) {own cls text : String} {names : List String} {ik is ic mc ms sa : Nat} {A : Nat → Prop}
    (hown : s.vm.findClass own = some m.cls) (hcls : Bundle.fit cls = true) (hnames : ∀ n ∈ names, Bundle.fit n = true)
    (hk : (Cond.classLink own ik cls).before args s = true) (hini : (Cond.initialized cls).before args s = true) (hstr : vk_R own is text sa s) (hat : ∀ w ∈ vx_atS own ic cls names, w.before args s = true)
    (hgood : ∀ w ∈ Cond.classLink own ik cls :: Cond.initialized cls :: vx_atS own ic cls names, vx_ot w = true)
    (hU : vx_Zq Bundle.tN "UNASSIGNED_STACK" Bundle.steD A s s.heap) (hN : vx_Zq Bundle.tN "SUPPRESSED_SENTINEL" Bundle.listD A s s.heap) (hS : va_S A s.heap H locs) (hsize : ls.size = c.maxLocals)
    (d0 : decode cc pc = .ok (.new ik, 3)) (d3 : decode cc (pc + 3) = .ok (.dup, 1)) (d4 : decode cc (pc + 4) = .ok (.ldc_w is, 3)) (d7 : decode cc (pc + 7) = .ok (.invokespecial ic, 3)) (d10 : decode cc (pc + 10) = .ok (.athrow, 1))
    (hout : ∀ x ∈ c.exceptionTable.toList, covers x (pc + 10) = false)
    (hRframes : names.length + 3 < R.frames) (hRlocals : (rest.map fun v => v.category).sum + (13 * (names.length + 1) + 43) ≤ R.locals) (hRcells : cells + 1 ≤ R.cells) (hRslots : slots + 6 ≤ R.slots) (hlocks : meth.locks = false)
    (hx : ∀ t : State, s.vm.Alike t.vm → H.size ≤ t.heap.size → (∀ q : Nat, q < H.size → t.heap[q]? = H[q]?) → XC cls s t)
    (hf : ∀ z ∈ locs, free z.base) (hc : cells + 1 ≤ mc) (hs : slots + 6 ≤ ms) :
    W p l e R s m args below meth c H locs cells slots (vx_MQ below Qc XC args s mc ms free) (F0 m pc ls rest) := by
  intro T hT X
  have htr : e.platform.stackTraces = false := (show e.platform.stackTraces = l.stackTraces by rw [X.admits.platform]).trans hl
  have Y := vx_rebase X (R' := { frames := R.frames, locals := R.locals, cells := 1, slots := 6 }) (Nat.le_refl _) (Nat.le_refl _) hRcells hRslots
  obtain ⟨s', hA⟩ : ∃ z, z = (T.setVm s.vm).setFrames (.invoking m args :: below) := ⟨_, rfl⟩
  rw [← hA] at Y
  have hvm : s'.vm = s.vm := by rw [hA]; rfl
  have hhp : s'.heap = H := by rw [hA]; exact hT
  have hW0 : s.WarmedH s'.vm := by rw [hvm]; exact State.WarmedH.refl s
  have hat' : ∀ w ∈ vx_atS own ic cls names, w.before args s' = true := fun w hw => vx_ot_at hW0 hvm.symm (hgood w (List.mem_cons_of_mem _ (List.mem_cons_of_mem _ hw))) (hat w hw)
  have hk' : (Cond.classLink own ik cls).before args s' = true := vx_ot_at hW0 hvm.symm (hgood _ List.mem_cons_self) hk
  have hini' : (Cond.initialized cls).before args s' = true := vx_ot_at hW0 hvm.symm (hgood _ (List.mem_cons_of_mem _ List.mem_cons_self)) hini
  have hU' : vx_Zq Bundle.tN "UNASSIGNED_STACK" Bundle.steD A s' s'.heap := by rw [hhp]; exact vx_Zq.moved hW0.alike (hU.kept hS.2.1)
  have hN' : vx_Zq Bundle.tN "SUPPRESSED_SENTINEL" Bundle.listD A s' s'.heap := by rw [hhp]; exact vx_Zq.moved hW0.alike (hN.kept hS.2.1)
  have h : ∀ w ∈ Bundle.ownAtoms own ic cls names, w.before args s' = true := vx_own hat' (vx_isRefq hU'.1) (vx_isRefq hN'.1) hU'.2.word hN'.2.word
  have hown' : s'.vm.findClass own = some m.cls := by rw [hvm]; exact hown
  have hins : (Cond.instantiable cls 6).before args s' = true := h _ (by simp [Bundle.ownAtoms])
  obtain ⟨vm₁, cX, kX, hfX, hkX, -, -, X₁, st1⟩ := Y.newCold hexec (own := own) (C := cls) (index := ik) (n := 6) hown' hk' hins hini'
    (g := F0 m pc ls rest) rfl (by rw [hb]; exact d0) (Nat.le_refl _) (Nat.le_refl _)
  generalize hT1 : (T.setVm vm₁).pushCell { cls := cX, slots := kX.instanceTypes.map defaultValue, vm := .none } = T1 at X₁ st1
  have hcat : (Value.ref T.heap.size).category = 1 := rfl
  have hcellA : T1.heap[T.heap.size]? = some (freshCell cX kX) := by rw [← hT1]; exact State.heap_pushCell_size _ _
  have d3' : decode c.code (pc + 3) = .ok (.dup, 1) := by rw [hb]; exact d3
  have d4' : decode c.code (pc + 4) = .ok (.ldc_w is, 3) := by rw [hb]; exact d4
  have hstr' : vk_R own is text sa s' := vk_R.warm hW0 hstr
  obtain ⟨U, hsteps, hrun, hend, hW, hsame, ce, hce, hO⟩ := X₁.ctorThrowS hexec htr (own := own) (cls := cls) (names := names) (ic := ic) hown' hcls hnames h (fun x hx => nomatch hx) hfX hkX hcellA (by rw [hhp, hT]; exact Nat.le_refl _) (msg := .ref sa) rfl
    (g := { method := m, pc := pc + 7, locals := ls, stack := .ref sa :: .ref T.heap.size :: .ref T.heap.size :: rest, locked := none }) rfl hsize rfl rfl (rest := rest) rfl
    (by rw [hb]; exact d7) (by rw [hb]; exact d10) hout hRframes (by simp only [List.map_cons, List.sum_cons, hcat]; omega) hlocks
  obtain ⟨f1, f2⟩ := vx_frame hsame
  rw [hhp] at f1 f2
  have hWs : s.WarmedH U.vm := State.WarmedH.trans hW0 hW
  have hcl : s.vm.findClass cls = some ce.cls := by
    have h9 := hO.cls
    rw [hvm] at h9
    exact h9
  have hall : s.sameButNew ({ U with vm := s.vm } : State) locs mc ms := by
    subst hA
    obtain ⟨e1, e2⟩ := hsame
    rw [State.setFrames_setFrames] at e1
    have h2 : (T.setVm s.vm).sameButNew ({ U with vm := s.vm } : State) [] (0 + 1) (0 + 6) := ⟨e1, e2⟩
    have h3 := X.same.trans h2
    rw [List.append_nil] at h3
    exact h3.mono hc hs
  refine ⟨U, ?_, .threw T.heap.size, hrun, hend, Or.inr ⟨T.heap.size, rfl, cls, ce, locs, hx U hWs.alike f1 (fun q hq => f2 q hq (fun z hz => nomatch hz)), hce, hO.vm, hcl, hWs, hall, hf⟩⟩
  refine st1 _ ?_
  show Steps p.tables e below (T1.setTop { method := m, pc := pc + 3, locals := ls, stack := .ref T.heap.size :: rest, locked := none }) _
  jvm_step X₁.here [X₁.here.top, hexec, d3', Value.category]
  exact X₁.ldcStringW hexec (own := own) (text := text) (index := is) (a := sa) hown' hstr'.1 hstr'.2
    (g := { method := m, pc := pc + 4, locals := ls, stack := .ref T.heap.size :: .ref T.heap.size :: rest, locked := none }) rfl d4' _ hsteps
end Ends
section Bodies
variable {l : Launch}
theorem vx_ofW {y : MethodName} {ws ws' : List Cond} {rm : Room} {Pc : Array Value → State → Prop} {Qc : Array Value → State → Outcome → State → Prop} {XC : String → State → State → Prop} {mc ms : Nat} {free : Addr → Prop} {cc : ByteArray} {maxL : Nat} {ret : Option FieldType}
    (hy : plainName y.cls = true) (hw : ws = Cond.code y cc maxL ret :: ws')
    (body : ∀ p e s m args below meth c s₁, BodyLoose p l y (headSpec ws rm) cc maxL ret e s m args below meth c s₁ → c.maxLocals = maxL → (∀ x ∈ c.exceptionTable.toList, False) → Pc args s →
      W p l e (headSpec ws rm).room s m args below meth c s.heap [] 0 0 (vx_MQ below Qc XC args s mc ms free) (entryFrame m args maxL)) : vx_Met l y ws rm Pc Qc XC mc ms free := by
  refine MetFree.of_bodyS (code := cc) (maxLocals := maxL) (ret := ret) hy ?_ ?_
  · intro args s m h hn
    obtain ⟨meth, c, h1, h2, h3, h4, h5, h6, -, -⟩ := Cond.code_spec hn (atoms_spec (ws := ws) h _ (by rw [hw]; exact List.mem_cons_self))
    exact ⟨meth, c, h1, h2, h3, h4, h5, h6⟩
  · intro p e s m args below meth c s₁ B hml hP _
    have hh0 : s₁.heap = s.heap := by rw [B.state]; rfl
    have ht : ∀ x ∈ c.exceptionTable.toList, False := by
      obtain ⟨meth9, c9, h1, h2, -, -, -, -, h7, -⟩ := Cond.code_spec B.named (atoms_spec (ws := ws) B.pre _ (by rw [hw]; exact List.mem_cons_self))
      cases Option.some.inj (h1.symm.trans B.method)
      cases Option.some.inj (h2.symm.trans (Stand.of_body B).code)
      intro x hx
      rw [Array.isEmpty_iff.mp h7] at hx
      cases hx
    obtain ⟨t, a1, o, b1, b2, b3⟩ := body p e s m args below meth c s₁ B hml ht hP s₁ hh0 (Stand.of_body B)
    exact ⟨t, o, a1, b1, b2, b3⟩
/-- the table of a body with handlers -/
theorem vx_table {p : Program} {x y : MethodName} {S : Spec} {cc bytes : ByteArray} {maxL maxL' : Nat} {ret ret' : Option FieldType} {e : Env} {s s₁ : State} {m : MethodId} {args : Array Value} {below : List Frame} {meth : Method} {c : Code} {hh : List (Nat × Nat × Nat × Nat)}
    (B : BodyLoose p l y S cc maxL ret e s m args below meth c s₁) (h : (Cond.codeWith y bytes maxL' ret' hh).before args s = true) : c.exceptionTable.toList = tableOf hh := by
  obtain ⟨m9, meth9, c9, hn9, h1, h2, -, -, h6, -⟩ := Cond.codeWith_spec h
  cases Option.some.inj (hn9.symm.trans B.named)
  cases Option.some.inj (h1.symm.trans B.method)
  cases Option.some.inj (h2.symm.trans (Stand.of_body B).code)
  rw [← h6, table_eq]
end Bodies
end VXA
/-! ===== END ===== -/
/-! ===== BEGIN a static call of a method with an exception table ===== -/
section VXS
variable {p : Program} {l : Launch} {e : Env} {R : Room} {s : State} {m : MethodId} {args : Array Value} {below : List Frame} {meth : Method} {c : Code} {T : State} {H : Heap} {locs : List Loc} {cells slots : Nat}
abbrev vx_CSW (R : Room) (s : State) (args : Array Value) (own : String) (index : Nat) (y : MethodName) (bytes : ByteArray) (maxL : Nat) (ret : Option FieldType) (hh : List (Nat × Nat × Nat × Nat)) (ws : List Cond) (rm : Room) (mc ms n : Nat) : Prop :=
  (rm.cells = mc ∧ rm.slots = ms ∧ rm.frames + 1 ≤ R.frames ∧ 8 + (maxL + 11) + rm.locals ≤ R.locals ∧ (∀ w ∈ ws, ∀ (a' : Array Value) (U : State), s.WarmedH U.vm → w.before a' U = true) ∧ Cond.codeWith y bytes maxL ret hh ∈ ws) ∧
  (Cond.codeWith y bytes maxL ret hh).before args s = true ∧ (Cond.initialized y.cls).before args s = true ∧ (y.cls ≠ "java/lang/invoke/MethodHandle" ∧ y.cls ≠ "java/lang/invoke/VarHandle") ∧
  (∀ sig, parseMethodDescriptor y.desc = some sig → n = sig.parameters.length) ∧ (Cond.methodLink own index y).before args s = true ∧ (Cond.static y).before args s = true
theorem vx_cwSW {own : String} {index maxL mc ms : Nat} {y : MethodName} {bytes : ByteArray} {ret : Option FieldType} {hh : List (Nat × Nat × Nat × Nat)} {Ts ws ws' : List Cond} {rm : Room} (n : Nat) (ht : ∀ w ∈ Ts, w.before args s = true) (hT : GoodIn Ts (va_wsS own index y ws)) (hw : ws = Cond.codeWith y bytes maxL ret hh :: ws') (hrc : rm.cells = mc) (hrs : rm.slots = ms)
    (hd : y.cls ≠ "java/lang/invoke/MethodHandle" ∧ y.cls ≠ "java/lang/invoke/VarHandle" ∧ (parseMethodDescriptor y.desc).map (fun d => d.parameters.length) = some n) (hR : rm.frames + 1 ≤ R.frames ∧ 8 + (maxL + 11) + rm.locals ≤ R.locals) :
    vx_CSW R s args own index y bytes maxL ret hh ws rm mc ms n := by
  have ok : ∀ w ∈ va_wsS own index y ws, w.before args s = true := fun w h => ht w (hT w h).1
  have hG : GoodIn Ts ws := fun w h => hT w (by unfold va_wsS; exact List.mem_append_right _ h)
  have hc : Cond.codeWith y bytes maxL ret hh ∈ ws := by rw [hw]; exact List.mem_cons_self
  refine ⟨⟨hrc, hrs, hR.1, hR.2, pay_in ht hG, hc⟩, ht _ (hG _ hc).1, ok _ (by simp [va_wsS]), ⟨hd.1, hd.2.1⟩, fun sig h => ?_, ok _ (by simp [va_wsS]), ok _ (by simp [va_wsS])⟩
  have h2 := hd.2.2
  rw [h] at h2
  exact (Option.some.inj h2).symm
theorem vx_callSW (X : Stand p l e R s m args below meth c T locs cells slots) (hexec : p.tables.exec = Jvm.exec) {own : String} {index : Nat} {y : MethodName} {bytes : ByteArray} {maxL : Nat} {ret : Option FieldType} {hh : List (Nat × Nat × Nat × Nat)}
    (hown : s.vm.findClass own = some m.cls) (hlink : (Cond.methodLink own index y).before args s = true) (hstat : (Cond.static y).before args s = true) (hinit : (Cond.initialized y.cls).before args s = true)
    (hcode : (Cond.codeWith y bytes maxL ret hh).before args s = true) (hy : y.cls ≠ "java/lang/invoke/MethodHandle" ∧ y.cls ≠ "java/lang/invoke/VarHandle")
    {W9 : Nat} {Pre : Pt → Array Value → Prop} {Post : Pt → Array Value → Option Value → Pt → Prop} (hK : Back l R p e below s args y 3 W9 Pre Post)
    {g : JFrame} (hg : g.method = m) (hsize : g.locals.size = c.maxLocals) {argsL rest : List Value} (hlen : ∀ sig, parseMethodDescriptor y.desc = some sig → argsL.length = sig.parameters.length)
    (hstack : g.stack = argsL.reverse ++ rest) (hW : 2 * g.monitorRoom + (rest.map fun v => v.category).sum ≤ W9) (hdg : decode c.code g.pc = .ok (.invokestatic index, 3))
    (hpre : ∀ vm₁, s.WarmedH vm₁ → Pre ⟨T.setVm vm₁, locs, cells, slots⟩ argsL.toArray) :
    ∃ (v : Option Value) (vm₁ : Vm) (B : Pt), s.WarmedH vm₁ ∧ Stand p l e R s m args below meth c B.U B.locs B.cells B.slots ∧ Post ⟨T.setVm vm₁, locs, cells, slots⟩ argsL.toArray v B ∧
      ∀ target, Steps p.tables e below (B.U.setTop { g with pc := g.pc + 3, stack := v.toList ++ rest }) target → Steps p.tables e below (T.setTop g) target := by
  obtain ⟨mk, methM, cM, hnamed, hmethM, -, -, -, -, -, -, hsigM⟩ := Cond.codeWith_spec hcode
  have hstatic : methM.isStatic = true := Cond.static_spec hnamed hmethM hstat
  obtain ⟨kP, hkP, -⟩ := className_of_methodNamed hnamed
  have hinitP : kP.init = .initialized := Cond.initialized_spec (findClass_of_methodNamed hnamed) hkP hinit
  obtain ⟨vm₁, X₁, hstep₁⟩ := X.invokestatic hexec hown hlink hnamed hmethM hstatic hkP hinitP hy (g := g) hg (argsL := argsL) (rest := rest) (hlen _ hsigM) hstack hdg
  obtain ⟨v, B, X', hpost, hsteps⟩ := hK m meth c ⟨T.setVm vm₁, locs, cells, slots⟩ { g with stack := rest } (.invokestatic index) mk argsL.toArray X₁ hg hsize hdg hW (X₁.named hnamed) (hpre vm₁ X₁.warmed)
  exact ⟨v, vm₁, B, X₁.warmed, X', hpost, fun target h => hstep₁ _ fun acts => by rw [doInvoke_state]; exact hsteps.trans h⟩
theorem vx_runSW {y : MethodName} {bytes cc : ByteArray} {maxL nL mc ms n index : Nat} {ret : Option FieldType} {hh : List (Nat × Nat × Nat × Nat)} {ws : List Cond} {rm : Room} {Pc : Array Value → State → Prop} {Qc : Array Value → State → Outcome → State → Prop} {free : Addr → Prop} {Ts : List Cond} {own : String} {As rest : List Value} {g : JFrame}
    (S : CallFix p m c cc nL s args Ts own) (hM : Met l y ws rm Pc Qc mc ms free) (cw : vx_CSW R s args own index y bytes maxL ret hh ws rm mc ms n) (hp : PreS s H Pc As)
    (hg : g.method = m) (hn : As.length = n) (hsize : g.locals.size = nL) (hstack : g.stack = As.reverse ++ rest) (hW : 2 * g.monitorRoom + (rest.map fun v => v.category).sum ≤ 8) (hdg : decode cc g.pc = .ok (.invokestatic index, 3)) (hf : cells + mc ≤ R.cells ∧ slots + ms ≤ R.slots) :
    va_Run p l e R s m args below meth c H locs cells slots mc ms g rest (Qc As.toArray) (free) := by
  obtain ⟨⟨hrc, hrs, hfr, hlo, hws, hcw⟩, hcode, hini, hy, hlen, hl, hstt⟩ := cw
  have hK : Back l R p e below s args y 3 8 (PreOf R mc ms Pc) (PostOf Qc mc ms free) := va_backW (hh := hh) (bytes := bytes) (maxL := maxL) (ret := ret) hM hp.1 hrc hrs hfr hlo hws hcw (fun a' U hW => word_at hW (Or.inl (by first | rfl | simp [Cond.onTables, Cond.keeps, Cond.steady])) hini)
  obtain ⟨hx, hb, hml, ho, -⟩ := S
  intro T hT X
  obtain ⟨v, vm₁, ⟨U', l2, c2, s2⟩, hW₁, X', ⟨g', mk, t, L, e1, e2, hq, h1, hL, h2, h3⟩, st⟩ := vx_callSW X hx (hh := hh) (bytes := bytes) (maxL := maxL) (ret := ret) ho hl hstt hini hcode hy hK hg (hsize.trans hml.symm) (argsL := As) (rest := rest) (fun sig h => hn.trans (hlen sig h)) hstack hW (by rw [hb]; exact hdg)
    (fun vm₁ hW₁ => ⟨hf.1, hf.2, hp.2 (T.setVm vm₁) hT hW₁⟩)
  dsimp only [Pt.U, Pt.locs, Pt.cells, Pt.slots] at X' e1 e2 h1 h2 h3 st
  subst h1; subst h2; subst h3
  exact ⟨v, (T.setVm vm₁).calling g' mk As.toArray, t, U', L, hT, X', hL, e1, e2, hq, st⟩
/-- not caught here, past rows that name other classes: it goes on to the caller -/
theorem vx_outP {p : Program} {l : Launch} {e : Env} {R : Room} {s : State} {m : MethodId} {args : Array Value} {below : List Frame} {meth : Method} {c : Code} {H : Heap} {locs : List Loc} {cells slots : Nat} {free : Addr → Prop} {ls : Array Slot} {rest : List Value} {Qc : Array Value → State → Outcome → State → Prop} {XC : String → State → State → Prop}
    {pc : Nat} {own E : String} {ce : Cell} {q : Addr} {mc ms : Nat} (hown : s.vm.findClass own = some m.cls) (hlocks : meth.locks = false)
    (hpass : ∀ z ∈ c.exceptionTable.toList, covers z pc = false ∨ (z.catchType ≠ 0 ∧ ∃ nm : String, (Cond.classLink own z.catchType nm).before args s = true ∧ va_Nc E nm s)) (hcell : H[q]? = some ce) (hv : ce.vm = .none) (hcl : s.vm.findClass E = some ce.cls)
    (hx : ∀ t : State, t.heap = H → s.vm.Alike t.vm → XC E s t) (hf : ∀ z ∈ locs, free z.base) (hc : cells ≤ mc) (hs : slots ≤ ms) :
    vx_W p l e R s m args below meth c H locs cells slots (vx_MQ below Qc XC args s mc ms free) (F0 m pc ls rest) q := by
  intro T hT X
  have hpl : e.platform.magicAccessors = ({} : Platform).magicAccessors := by rw [X.admits.platform]
  obtain ⟨vm', hW', X', st⟩ := X.outThrough hlocks q (g := F0 m pc ls rest) rfl rfl rfl (cell := ce) (by rw [hT]; exact hcell) (by rw [hv]; rfl)
    (by obtain ⟨k9, h9, -⟩ := Vm.findClass_spec hcl; exact ⟨k9, h9⟩) (fun z hz => by
      rcases hpass z hz with h | ⟨hz0, nm, hl1, hn1⟩
      · exact Or.inl h
      · obtain ⟨c6, hc6, hcl6⟩ := Cond.classLink_spec hown hl1 e.platform hpl
        obtain ⟨a8, b8, h1, h2, h3⟩ := hn1
        cases Option.some.inj (h1.symm.trans hcl)
        cases Option.some.inj (h2.symm.trans hc6)
        exact Or.inr ⟨hz0, _, hcl6, h3⟩)
  obtain ⟨g₀, hfr⟩ := X'.frames_eq
  have hcell9 : ((T.setVm vm').setFrames (.throwing q :: below)).heap[q]? = some ce := by
    show T.heap[q]? = some ce
    rw [hT]; exact hcell
  have hend : Ended ((T.setVm vm').setFrames (.throwing q :: below)) below (.threw q) := State.frames_setFrames _ (State.cur_lt_of_frames hfr)
  refine ⟨(T.setVm vm').setFrames (.throwing q :: below), ?_, .threw q, X'.here.running, hend, Or.inr ⟨q, rfl, E, ce, locs, hx _ hT (X'.ends _).1.alike, hcell9, hv, hcl, (X'.ends _).1, (X'.ends _).2.mono hc hs, hf⟩⟩
  rw [X.pushThrowing_eq]
  exact st
/-- a thing of a world lies in the heap -/
theorem vx_lt {D : va_G} {cl : List vw_C} {ws : va_W} {H1 : Heap} (h : va_P D cl ws H1) {k : Nat} {q : Nat × va_E} (hk : ws[k]? = some q) : q.1 < H1.size := (h k q hk).lt
end VXS
/-! ===== END ===== -/
/-! ===== BEGIN methods with a table of their own: called by a name, returning or throwing ===== -/
section VXH
/-! vx_backW, vx_callVX, vx_callSX, vx_callVW, vx_runVW, vx_runVX, vx_runSX, vx_ofWH follow the same proofs as their sisters above (Free/Laws.lean, Shelf42/LK1.lean); vx_outP calls Shelf42/NT130.lean (outThrough). -/
section
variable {l : Launch} {R : Room} {p : Program} {e : Env} {below : List Frame} {s : State} {sargs : Array Value} {y : MethodName} {len W9 : Nat}
theorem vx_backW {ws : List Cond} {rm : Room} {Pc : Array Value → State → Prop} {Qc : Array Value → State → Outcome → State → Prop} {XC : String → State → State → Prop} {mc ms : Nat} {free : Addr → Prop} {bytes : ByteArray} {maxL : Nat} {ret : Option FieldType} {hh : List (Nat × Nat × Nat × Nat)}
    (hM : vx_Met l y ws rm Pc Qc XC mc ms free) (hblind : FrameBlind Pc) (hrc : rm.cells = mc) (hrs : rm.slots = ms)
    (hframes : rm.frames + 1 ≤ R.frames) (hlocals : W9 + (maxL + 11) + rm.locals ≤ R.locals)
    (hws : ∀ w ∈ ws, ∀ a' U, s.WarmedH U.vm → w.before a' U = true) (hcode : Cond.codeWith y bytes maxL ret hh ∈ ws) (hinit : ∀ a' U, s.WarmedH U.vm → (Cond.initialized y.cls).before a' U = true) :
    vx_Back l R p e below s sargs y len W9 (PreOf R mc ms Pc) (PostOf Qc mc ms free) (vx_Post XC mc ms free) := by
  intro m meth c A g ig mk a X hg hsize hdg hW hn hp
  have h1 : (headSpec ws rm).pre.before a A.U = true := atoms_intro fun w hw => hws w hw _ _ X.warmed
  have h2 : (Cond.codeWith y bytes maxL ret hh).before a A.U = true := hws _ hcode _ _ X.warmed
  have h3 : (Cond.initialized y.cls).before a A.U = true := hinit _ _ X.warmed
  have h4 : A.cells + (headSpec ws rm).room.cells ≤ R.cells := by rw [show (headSpec ws rm).room.cells = mc from hrc]; exact hp.1
  have h5 : A.slots + (headSpec ws rm).room.slots ≤ R.slots := by rw [show (headSpec ws rm).room.slots = ms from hrs]; exact hp.2.1
  have hPc : Pc a (A.U.calling g mk a) := hblind _ _ _ _ hp.2.2
  obtain ⟨U, Ls, c0, s0⟩ := A
  dsimp only [Pt.U, Pt.locs, Pt.cells, Pt.slots] at h1 h2 h3 h4 h5 X hn hPc ⊢
  obtain ⟨m9, methY, cY, hn9, hmY, hcY, -, hlY, -⟩ := Cond.codeWith_spec h2
  cases Option.some.inj (hn9.symm.trans hn)
  obtain ⟨kY, hkY, -⟩ := className_of_methodNamed hn
  have hinitY : kY.init = .initialized := Cond.initialized_spec (findClass_of_methodNamed hn) hkY h3
  have h : At U g.method c below := by rw [hg]; exact X.here
  have hlocals9 : W9 + (maxL + 11) + (headSpec ws rm).room.locals ≤ R.locals := hlocals
  have happ : (headSpec ws rm).appliesLoose y e.platform (U.calling g mk a) = true :=
    Spec.appliesLoose_calling (g := g) h hdg hn hkY hinitY
      (X.room_calling (g := g) (R' := (headSpec ws rm).room) hsize hmY hcY hframes (by rw [hlY]; omega) h4 h5) h1
  obtain ⟨mid, hmid⟩ := h.above
  have hfr : (U.setTop g).frames = (.java g :: mid) ++ below := by rw [State.frames_setTop' g h.top, hmid]; rfl
  obtain ⟨o, s₂, hsteps, -, hend, hq⟩ := Steps.callFree hM p X.admits X.cas X.clock (acts := []) hfr happ hPc trivial
  have hq' : vx_Q Qc XC mc ms free a (U.calling g mk a) o s₂ := hq
  rw [State.frames_setTop' g h.top] at hend
  obtain ⟨g₀, hg0⟩ := Option.isSome_iff_exists.mp h.top
  obtain ⟨r, hr⟩ := State.topJava?_eq_some.mp hg0
  have hr' : (({ U with heap := s₂.heap, slotsUsed := s₂.slotsUsed } : State).setVm s₂.vm).frames = .java g₀ :: r := hr
  rcases hq' with ⟨hqc, L, hfe, hL⟩ | ⟨q, rfl, E, ce, L, hx, hce, hcv, hcl, hW₂, hsm, hL⟩
  · obtain ⟨⟨v, rfl⟩, hW₂, e2, q2, q3, q4, q5, q6⟩ := id hfe
    have e3 : s₂ = ({ (U.calling g mk a).setFrames s₂.frames with heap := s₂.heap, slotsUsed := s₂.slotsUsed } : State).setVm s₂.vm := by
      have : s₂ = ({ s₂ with vm := (U.calling g mk a).vm } : State).setVm s₂.vm := rfl
      rw [e2] at this
      exact this
    obtain ⟨c₂, i₂, len₂, hc₂, hd₂, hf₂⟩ := hend
    have hW' : U.WarmedH s₂.vm := hW₂
    have hcc : c₂ = c := by
      have h1 : s₂.code? g.method = U.code? g.method := by
        rw [State.code?_eq, State.code?_eq, hW'.alike.method?]
      exact Option.some.inj (hc₂.symm.trans (h1.trans h.code))
    subst hcc
    have hlen : len₂ = len := by rw [hdg] at hd₂; cases hd₂; rfl
    subst hlen
    have hs₂ : s₂ = (({ U with heap := s₂.heap, slotsUsed := s₂.slotsUsed } : State).setVm s₂.vm).setTop { g with pc := g.pc + len₂, stack := v.toList ++ g.stack } := by
      refine e3.trans ?_
      rw [hf₂, State.calling_eq h.top, State.setFrames_setFrames, State.setTop_of_frames _ hr', hr]
      rfl
    have hsame : U.sameButNew ({ U with heap := s₂.heap, slotsUsed := s₂.slotsUsed } : State) L mc ms := by
      refine ⟨?_, q2, q3, q4, q5, q6⟩
      obtain ⟨t, ht, -⟩ := State.frames_cons hr
      show ({ U with heap := s₂.heap, slotsUsed := s₂.slotsUsed } : State) = { U.setFrames U.frames with heap := s₂.heap, slotsUsed := s₂.slotsUsed }
      rw [State.setFrames_self ht]
    subst hg
    refine Or.inl ⟨v, ⟨(({ U with heap := s₂.heap, slotsUsed := s₂.slotsUsed } : State).setVm s₂.vm), Ls ++ L, c0 + mc, s0 + ms⟩,
      ⟨X.admits, X.cas, X.clock, X.frames, X.room, X.hears, X.method, X.code, (X.here.setHeapUsed s₂.heap s₂.slotsUsed).setVm hW'.alike, X.tail, State.WarmedH.trans X.warmed hW', X.limits, X.bytes, X.same.trans (hsame.setVm s.vm)⟩,
      ⟨g, mk, s₂, L, rfl, rfl, hqc, rfl, hL, rfl, rfl⟩, ?_⟩
    show Steps p.tables e below _ ((({ U with heap := s₂.heap, slotsUsed := s₂.slotsUsed } : State).setVm s₂.vm).setTop { g with pc := g.pc + len₂, stack := v.toList ++ g.stack })
    rw [← hs₂]
    exact hsteps
  · obtain ⟨e2, q2, q3, q4, q5, q6⟩ := id hsm
    have e3 : s₂ = ({ (U.calling g mk a).setFrames s₂.frames with heap := s₂.heap, slotsUsed := s₂.slotsUsed } : State).setVm s₂.vm := by
      have : s₂ = ({ s₂ with vm := (U.calling g mk a).vm } : State).setVm s₂.vm := rfl
      rw [e2] at this
      exact this
    have hf₂ : s₂.frames = .throwing q :: .java g :: U.frames.tail := hend
    have hW' : U.WarmedH s₂.vm := hW₂
    have hs₂ : s₂ = ((({ U with heap := s₂.heap, slotsUsed := s₂.slotsUsed } : State).setVm s₂.vm).setTop g).pushFrame (.throwing q) := by
      refine e3.trans ?_
      rw [hf₂, State.calling_eq h.top, State.setFrames_setFrames, State.pushFrame, State.frames_setTop _ hr', State.setTop_of_frames _ hr', State.setFrames_setFrames, hr]
      rfl
    have hsame : U.sameButNew ({ U with heap := s₂.heap, slotsUsed := s₂.slotsUsed } : State) L mc ms := by
      refine ⟨?_, q2, q3, q4, q5, q6⟩
      obtain ⟨t, ht, -⟩ := State.frames_cons hr
      show ({ U with heap := s₂.heap, slotsUsed := s₂.slotsUsed } : State) = { U.setFrames U.frames with heap := s₂.heap, slotsUsed := s₂.slotsUsed }
      rw [State.setFrames_self ht]
    subst hg
    refine Or.inr ⟨q, ⟨(({ U with heap := s₂.heap, slotsUsed := s₂.slotsUsed } : State).setVm s₂.vm), Ls ++ L, c0 + mc, s0 + ms⟩,
      ⟨X.admits, X.cas, X.clock, X.frames, X.room, X.hears, X.method, X.code, (X.here.setHeapUsed s₂.heap s₂.slotsUsed).setVm hW'.alike, X.tail, State.WarmedH.trans X.warmed hW', X.limits, X.bytes, X.same.trans (hsame.setVm s.vm)⟩,
      ⟨g, mk, s₂, L, E, ce, rfl, rfl, hx, hce, hcv, hcl, rfl, hL, rfl, rfl⟩, ?_⟩
    show Steps p.tables e below _ (((({ U with heap := s₂.heap, slotsUsed := s₂.slotsUsed } : State).setVm s₂.vm).setTop g).pushFrame (.throwing q))
    rw [← hs₂]
    exact hsteps
end
variable {p : Program} {l : Launch} {e : Env} {R : Room} {s : State} {m : MethodId} {args : Array Value} {below : List Frame} {meth : Method} {c : Code} {T : State} {H : Heap} {locs : List Loc} {cells slots : Nat}
theorem vx_callVX (X : Stand p l e R s m args below meth c T locs cells slots) (hexec : p.tables.exec = Jvm.exec) {own C : String} {index : Nat} {y : MethodName} {bytes : ByteArray} {maxL : Nat} {ret : Option FieldType} {hh : List (Nat × Nat × Nat × Nat)}
    (hown : s.vm.findClass own = some m.cls) (hlink : (Cond.methodLink own index y).before args s = true) (hinst : (Cond.instanceMethod y).before args s = true) (hsel : (Cond.selects C y y).before args s = true)
    (hcode : (Cond.codeWith y bytes maxL ret hh).before args s = true) (hy : y.cls ≠ "java/lang/invoke/MethodHandle" ∧ y.cls ≠ "java/lang/invoke/VarHandle")
    {W9 : Nat} {Pre : Pt → Array Value → Prop} {Post : Pt → Array Value → Option Value → Pt → Prop} {PostX : Pt → Array Value → Addr → Pt → Prop} (hK : vx_Back l R p e below s args y 3 W9 Pre Post PostX)
    {b : Addr} {cellB : Cell} (hcell : T.heap[b]? = some cellB) (hobj : cellB.vm.isStatics = false) (hcls : s.vm.findClass C = some cellB.cls)
    {g : JFrame} (hg : g.method = m) (hsize : g.locals.size = c.maxLocals) {argsL rest : List Value} (hlen : ∀ sig, parseMethodDescriptor y.desc = some sig → argsL.length = sig.parameters.length)
    (hstack : g.stack = argsL.reverse ++ .ref b :: rest) (hW : 2 * g.monitorRoom + (rest.map fun v => v.category).sum ≤ W9) (hdg : decode c.code g.pc = .ok (.invokevirtual index, 3))
    (hpre : ∀ vm₁, s.WarmedH vm₁ → Pre ⟨T.setVm vm₁, locs, cells, slots⟩ (Value.ref b :: argsL).toArray) :
    (∃ (v : Option Value) (vm₁ : Vm) (B : Pt), s.WarmedH vm₁ ∧ Stand p l e R s m args below meth c B.U B.locs B.cells B.slots ∧ Post ⟨T.setVm vm₁, locs, cells, slots⟩ (Value.ref b :: argsL).toArray v B ∧
      ∀ target, Steps p.tables e below (B.U.setTop { g with pc := g.pc + 3, stack := v.toList ++ rest }) target → Steps p.tables e below (T.setTop g) target) ∨
    (∃ (q : Addr) (vm₁ : Vm) (B : Pt), s.WarmedH vm₁ ∧ Stand p l e R s m args below meth c B.U B.locs B.cells B.slots ∧ PostX ⟨T.setVm vm₁, locs, cells, slots⟩ (Value.ref b :: argsL).toArray q B ∧
      Steps p.tables e below (T.setTop g) ((B.U.setTop { g with stack := rest }).pushFrame (.throwing q))) := by
  obtain ⟨mk, methM, hnamed, hmethM, hstM, habM⟩ := Cond.instanceMethod_spec hinst
  obtain ⟨m8, methM', cM, hn8, hmethM', -, -, -, -, -, -, hsigM⟩ := Cond.codeWith_spec hcode
  cases Option.some.inj (hn8.symm.trans hnamed)
  cases hmethM.symm.trans hmethM'
  obtain ⟨c2, r2, m2, q1, q2, q3, q4, kP, hkP, hkPi⟩ := Cond.selects_spec hsel
  cases hcls.symm.trans q1
  cases (State.methodFound?_of_named hnamed hy).symm.trans q2
  cases hnamed.symm.trans q3
  have hselP : selectMethod e.platform s.vm cellB.cls mk = .method mk := by rw [Launch.admits_selectMethod X.admits]; exact q4
  obtain ⟨vm₁, X₁, hstep₁⟩ := X.invokevirtual hexec hown hlink hnamed hmethM hstM hkP hkPi hy (a := b) (cell := cellB) hcell
    (fun z h => by rw [h] at hobj; cases hobj) hselP hmethM habM hkP hkPi (g := g) hg (argsL := argsL) (rest := rest) (hlen _ hsigM) hstack hdg
  rcases hK m meth c ⟨T.setVm vm₁, locs, cells, slots⟩ { g with stack := rest } (.invokevirtual index) mk (Value.ref b :: argsL).toArray X₁ hg hsize hdg hW (X₁.named hnamed) (hpre vm₁ X₁.warmed) with ⟨v, B, X', hpost, hsteps⟩ | ⟨q, B, X', hpost, hsteps⟩
  · exact Or.inl ⟨v, vm₁, B, X₁.warmed, X', hpost, fun target h => hstep₁ _ fun acts => by rw [doInvoke_state]; exact hsteps.trans h⟩
  · exact Or.inr ⟨q, vm₁, B, X₁.warmed, X', hpost, hstep₁ _ fun acts => by rw [doInvoke_state]; exact hsteps⟩
theorem vx_callSX (X : Stand p l e R s m args below meth c T locs cells slots) (hexec : p.tables.exec = Jvm.exec) {own : String} {index : Nat} {y : MethodName} {bytes : ByteArray} {maxL : Nat} {ret : Option FieldType} {hh : List (Nat × Nat × Nat × Nat)}
    (hown : s.vm.findClass own = some m.cls) (hlink : (Cond.methodLink own index y).before args s = true) (hstat : (Cond.static y).before args s = true) (hinit : (Cond.initialized y.cls).before args s = true)
    (hcode : (Cond.codeWith y bytes maxL ret hh).before args s = true) (hy : y.cls ≠ "java/lang/invoke/MethodHandle" ∧ y.cls ≠ "java/lang/invoke/VarHandle")
    {W9 : Nat} {Pre : Pt → Array Value → Prop} {Post : Pt → Array Value → Option Value → Pt → Prop} {PostX : Pt → Array Value → Addr → Pt → Prop} (hK : vx_Back l R p e below s args y 3 W9 Pre Post PostX)
    {g : JFrame} (hg : g.method = m) (hsize : g.locals.size = c.maxLocals) {argsL rest : List Value} (hlen : ∀ sig, parseMethodDescriptor y.desc = some sig → argsL.length = sig.parameters.length)
    (hstack : g.stack = argsL.reverse ++ rest) (hW : 2 * g.monitorRoom + (rest.map fun v => v.category).sum ≤ W9) (hdg : decode c.code g.pc = .ok (.invokestatic index, 3))
    (hpre : ∀ vm₁, s.WarmedH vm₁ → Pre ⟨T.setVm vm₁, locs, cells, slots⟩ argsL.toArray) :
    (∃ (v : Option Value) (vm₁ : Vm) (B : Pt), s.WarmedH vm₁ ∧ Stand p l e R s m args below meth c B.U B.locs B.cells B.slots ∧ Post ⟨T.setVm vm₁, locs, cells, slots⟩ argsL.toArray v B ∧
      ∀ target, Steps p.tables e below (B.U.setTop { g with pc := g.pc + 3, stack := v.toList ++ rest }) target → Steps p.tables e below (T.setTop g) target) ∨
    (∃ (q : Addr) (vm₁ : Vm) (B : Pt), s.WarmedH vm₁ ∧ Stand p l e R s m args below meth c B.U B.locs B.cells B.slots ∧ PostX ⟨T.setVm vm₁, locs, cells, slots⟩ argsL.toArray q B ∧
      Steps p.tables e below (T.setTop g) ((B.U.setTop { g with stack := rest }).pushFrame (.throwing q))) := by
  obtain ⟨mk, methM, cM, hnamed, hmethM, -, -, -, -, -, -, hsigM⟩ := Cond.codeWith_spec hcode
  have hstatic : methM.isStatic = true := Cond.static_spec hnamed hmethM hstat
  obtain ⟨kP, hkP, -⟩ := className_of_methodNamed hnamed
  have hinitP : kP.init = .initialized := Cond.initialized_spec (findClass_of_methodNamed hnamed) hkP hinit
  obtain ⟨vm₁, X₁, hstep₁⟩ := X.invokestatic hexec hown hlink hnamed hmethM hstatic hkP hinitP hy (g := g) hg (argsL := argsL) (rest := rest) (hlen _ hsigM) hstack hdg
  rcases hK m meth c ⟨T.setVm vm₁, locs, cells, slots⟩ { g with stack := rest } (.invokestatic index) mk argsL.toArray X₁ hg hsize hdg hW (X₁.named hnamed) (hpre vm₁ X₁.warmed) with ⟨v, B, X', hpost, hsteps⟩ | ⟨q, B, X', hpost, hsteps⟩
  · exact Or.inl ⟨v, vm₁, B, X₁.warmed, X', hpost, fun target h => hstep₁ _ fun acts => by rw [doInvoke_state]; exact hsteps.trans h⟩
  · exact Or.inr ⟨q, vm₁, B, X₁.warmed, X', hpost, hstep₁ _ fun acts => by rw [doInvoke_state]; exact hsteps⟩
theorem vx_callVW (X : Stand p l e R s m args below meth c T locs cells slots) (hexec : p.tables.exec = Jvm.exec) {own C : String} {index : Nat} {y : MethodName} {bytes : ByteArray} {maxL : Nat} {ret : Option FieldType} {hh : List (Nat × Nat × Nat × Nat)}
    (hown : s.vm.findClass own = some m.cls) (hlink : (Cond.methodLink own index y).before args s = true) (hinst : (Cond.instanceMethod y).before args s = true) (hsel : (Cond.selects C y y).before args s = true)
    (hcode : (Cond.codeWith y bytes maxL ret hh).before args s = true) (hy : y.cls ≠ "java/lang/invoke/MethodHandle" ∧ y.cls ≠ "java/lang/invoke/VarHandle")
    {W9 : Nat} {Pre : Pt → Array Value → Prop} {Post : Pt → Array Value → Option Value → Pt → Prop} (hK : Back l R p e below s args y 3 W9 Pre Post)
    {b : Addr} {cellB : Cell} (hcell : T.heap[b]? = some cellB) (hobj : cellB.vm.isStatics = false) (hcls : s.vm.findClass C = some cellB.cls)
    {g : JFrame} (hg : g.method = m) (hsize : g.locals.size = c.maxLocals) {argsL rest : List Value} (hlen : ∀ sig, parseMethodDescriptor y.desc = some sig → argsL.length = sig.parameters.length)
    (hstack : g.stack = argsL.reverse ++ .ref b :: rest) (hW : 2 * g.monitorRoom + (rest.map fun v => v.category).sum ≤ W9) (hdg : decode c.code g.pc = .ok (.invokevirtual index, 3))
    (hpre : ∀ vm₁, s.WarmedH vm₁ → Pre ⟨T.setVm vm₁, locs, cells, slots⟩ (Value.ref b :: argsL).toArray) :
    ∃ (v : Option Value) (vm₁ : Vm) (B : Pt), s.WarmedH vm₁ ∧ Stand p l e R s m args below meth c B.U B.locs B.cells B.slots ∧ Post ⟨T.setVm vm₁, locs, cells, slots⟩ (Value.ref b :: argsL).toArray v B ∧
      ∀ target, Steps p.tables e below (B.U.setTop { g with pc := g.pc + 3, stack := v.toList ++ rest }) target → Steps p.tables e below (T.setTop g) target := by
  obtain ⟨mk, methM, hnamed, hmethM, hstM, habM⟩ := Cond.instanceMethod_spec hinst
  obtain ⟨m8, methM', cM, hn8, hmethM', -, -, -, -, -, -, hsigM⟩ := Cond.codeWith_spec hcode
  cases Option.some.inj (hn8.symm.trans hnamed)
  cases hmethM.symm.trans hmethM'
  obtain ⟨c2, r2, m2, q1, q2, q3, q4, kP, hkP, hkPi⟩ := Cond.selects_spec hsel
  cases hcls.symm.trans q1
  cases (State.methodFound?_of_named hnamed hy).symm.trans q2
  cases hnamed.symm.trans q3
  have hselP : selectMethod e.platform s.vm cellB.cls mk = .method mk := by rw [Launch.admits_selectMethod X.admits]; exact q4
  obtain ⟨vm₁, X₁, hstep₁⟩ := X.invokevirtual hexec hown hlink hnamed hmethM hstM hkP hkPi hy (a := b) (cell := cellB) hcell
    (fun z h => by rw [h] at hobj; cases hobj) hselP hmethM habM hkP hkPi (g := g) hg (argsL := argsL) (rest := rest) (hlen _ hsigM) hstack hdg
  obtain ⟨v, B, X', hpost, hsteps⟩ := hK m meth c ⟨T.setVm vm₁, locs, cells, slots⟩ { g with stack := rest } (.invokevirtual index) mk (Value.ref b :: argsL).toArray X₁ hg hsize hdg hW (X₁.named hnamed) (hpre vm₁ X₁.warmed)
  exact ⟨v, vm₁, B, X₁.warmed, X', hpost, fun target h => hstep₁ _ fun acts => by rw [doInvoke_state]; exact hsteps.trans h⟩
abbrev vx_CVW (R : Room) (s : State) (args : Array Value) (own C : String) (index : Nat) (y : MethodName) (bytes : ByteArray) (maxL : Nat) (ret : Option FieldType) (hh : List (Nat × Nat × Nat × Nat)) (ws : List Cond) (rm : Room) (mc ms n : Nat) : Prop :=
  (rm.cells = mc ∧ rm.slots = ms ∧ rm.frames + 1 ≤ R.frames ∧ 8 + (maxL + 11) + rm.locals ≤ R.locals ∧ (∀ w ∈ ws, ∀ (a' : Array Value) (U : State), s.WarmedH U.vm → w.before a' U = true) ∧ Cond.codeWith y bytes maxL ret hh ∈ ws) ∧
  (Cond.codeWith y bytes maxL ret hh).before args s = true ∧ (Cond.initialized y.cls).before args s = true ∧ (y.cls ≠ "java/lang/invoke/MethodHandle" ∧ y.cls ≠ "java/lang/invoke/VarHandle") ∧
  (∀ sig, parseMethodDescriptor y.desc = some sig → n = sig.parameters.length) ∧ (Cond.methodLink own index y).before args s = true ∧ (Cond.instanceMethod y).before args s = true ∧ (Cond.selects C y y).before args s = true
theorem vx_cwVW {own C : String} {index maxL mc ms : Nat} {y : MethodName} {bytes : ByteArray} {ret : Option FieldType} {hh : List (Nat × Nat × Nat × Nat)} {Ts ws ws' : List Cond} {rm : Room} (n : Nat) (ht : ∀ w ∈ Ts, w.before args s = true) (hT : GoodIn Ts (wsV own index C y ws)) (hw : ws = Cond.codeWith y bytes maxL ret hh :: ws') (hrc : rm.cells = mc) (hrs : rm.slots = ms)
    (hd : y.cls = C ∧ y.cls ≠ "java/lang/invoke/MethodHandle" ∧ y.cls ≠ "java/lang/invoke/VarHandle" ∧ (parseMethodDescriptor y.desc).map (fun d => d.parameters.length) = some n) (hR : rm.frames + 1 ≤ R.frames ∧ 8 + (maxL + 11) + rm.locals ≤ R.locals) :
    vx_CVW R s args own C index y bytes maxL ret hh ws rm mc ms n := by
  obtain ⟨hC, hd⟩ := hd
  subst hC
  have ok : ∀ w ∈ wsV own index y.cls y ws, w.before args s = true := fun w h => ht w (hT w h).1
  have hG : GoodIn Ts ws := fun w h => hT w (by unfold wsV; exact List.mem_append_right _ h)
  have hc : Cond.codeWith y bytes maxL ret hh ∈ ws := by rw [hw]; exact List.mem_cons_self
  refine ⟨⟨hrc, hrs, hR.1, hR.2, pay_in ht hG, hc⟩, ht _ (hG _ hc).1, ok _ (by simp [wsV]), ⟨hd.1, hd.2.1⟩, fun sig h => ?_, ok _ (by simp [wsV]), ok _ (by simp [wsV]), ok _ (by simp [wsV])⟩
  have h2 := hd.2.2
  rw [h] at h2
  exact (Option.some.inj h2).symm
theorem vx_runVW {y : MethodName} {bytes cc : ByteArray} {maxL nL mc ms n index : Nat} {ret : Option FieldType} {hh : List (Nat × Nat × Nat × Nat)} {ws : List Cond} {rm : Room} {Pc : Array Value → State → Prop} {Qc : Array Value → State → Outcome → State → Prop} {free : Addr → Prop} {Ts : List Cond} {own C : String} {b : Addr} {As rest : List Value} {g : JFrame}
    (S : CallFix p m c cc nL s args Ts own) (hM : Met l y ws rm Pc Qc mc ms free) (cw : vx_CVW R s args own C index y bytes maxL ret hh ws rm mc ms n) (hp : PreV s H C b Pc As)
    (hg : g.method = m) (hn : As.length = n) (hsize : g.locals.size = nL) (hstack : g.stack = As.reverse ++ .ref b :: rest) (hW : 2 * g.monitorRoom + (rest.map fun v => v.category).sum ≤ 8) (hdg : decode cc g.pc = .ok (.invokevirtual index, 3)) (hf : cells + mc ≤ R.cells ∧ slots + ms ≤ R.slots) :
    va_Run p l e R s m args below meth c H locs cells slots mc ms g rest (Qc (Value.ref b :: As).toArray) free := by
  obtain ⟨⟨hrc, hrs, hfr, hlo, hws, hcw⟩, hcode, hini, hy, hlen, hl, hin, hse⟩ := cw
  have hK : Back l R p e below s args y 3 8 (PreOf R mc ms Pc) (PostOf Qc mc ms free) := va_backW (hh := hh) (bytes := bytes) (maxL := maxL) (ret := ret) hM hp.1 hrc hrs hfr hlo hws hcw (fun a' U hW => word_at hW (Or.inl (by first | rfl | simp [Cond.onTables, Cond.keeps, Cond.steady])) hini)
  obtain ⟨hx, hb, hml, ho, -⟩ := S
  obtain ⟨-, ⟨cellB, hcB, hoB, hclB⟩, hPc⟩ := hp
  intro T hT X
  obtain ⟨v, vm₁, ⟨U', l2, c2, s2⟩, hW₁, X', ⟨g', mk, t, L, e1, e2, hq, h1, hL, h2, h3⟩, st⟩ := vx_callVW X hx (C := C) (hh := hh) (bytes := bytes) (maxL := maxL) (ret := ret) ho hl hin hse hcode hy hK (by rw [hT]; exact hcB) hoB hclB hg (hsize.trans hml.symm) (argsL := As) (rest := rest) (fun sig h => hn.trans (hlen sig h)) hstack hW (by rw [hb]; exact hdg)
    (fun vm₁ hW₁ => ⟨hf.1, hf.2, hPc (T.setVm vm₁) hT hW₁⟩)
  dsimp only [Pt.U, Pt.locs, Pt.cells, Pt.slots] at X' e1 e2 h1 h2 h3 st
  subst h1; subst h2; subst h3
  exact ⟨v, (T.setVm vm₁).calling g' mk (Value.ref b :: As).toArray, t, U', L, hT, X', hL, e1, e2, hq, st⟩
section
variable {y : MethodName} {bytes cc : ByteArray} {maxL nL mc ms n index : Nat} {ret : Option FieldType} {ws : List Cond} {rm : Room} {Pc : Array Value → State → Prop} {Qc : Array Value → State → Outcome → State → Prop} {XC : String → State → State → Prop} {free : Addr → Prop} {Ts : List Cond} {own C : String} {b : Addr} {As rest : List Value} {g : JFrame}
theorem vx_runVX {hh : List (Nat × Nat × Nat × Nat)} (S : CallFix p m c cc nL s args Ts own) (hM : vx_Met l y ws rm Pc Qc XC mc ms free) (cw : vx_CVW R s args own C index y bytes maxL ret hh ws rm mc ms n) (hp : PreV s H C b Pc As)
    (hg : g.method = m) (hn : As.length = n) (hsize : g.locals.size = nL) (hstack : g.stack = As.reverse ++ .ref b :: rest) (hW : 2 * g.monitorRoom + (rest.map fun v => v.category).sum ≤ 8) (hdg : decode cc g.pc = .ok (.invokevirtual index, 3)) (hf : cells + mc ≤ R.cells ∧ slots + ms ≤ R.slots) :
    vx_Run p l e R s m args below meth c H locs cells slots mc ms g rest (Qc (Value.ref b :: As).toArray) XC free := by
  obtain ⟨⟨hrc, hrs, hfr, hlo, hws, hcw⟩, hcode, hini, hy, hlen, hl, hin, hse⟩ := cw
  have hK : vx_Back l R p e below s args y 3 8 (PreOf R mc ms Pc) (PostOf Qc mc ms free) (vx_Post XC mc ms free) := vx_backW (hh := hh) (bytes := bytes) (maxL := maxL) (ret := ret) hM hp.1 hrc hrs hfr hlo hws hcw (fun a' U hW => word_at hW (Or.inl (by first | rfl | simp [Cond.onTables, Cond.keeps, Cond.steady])) hini)
  obtain ⟨hx, hb, hml, ho, -⟩ := S
  obtain ⟨-, ⟨cellB, hcB, hoB, hclB⟩, hPc⟩ := hp
  intro T hT X
  rcases vx_callVX X hx (C := C) (hh := hh) (bytes := bytes) (maxL := maxL) (ret := ret) ho hl hin hse hcode hy hK (by rw [hT]; exact hcB) hoB hclB hg (hsize.trans hml.symm) (argsL := As) (rest := rest) (fun sig h => hn.trans (hlen sig h)) hstack hW (by rw [hb]; exact hdg)
    (fun vm₁ hW₁ => ⟨hf.1, hf.2, hPc (T.setVm vm₁) hT hW₁⟩) with ⟨v, vm₁, ⟨U', l2, c2, s2⟩, hW₁, X', ⟨g', mk, t, L, e1, e2, hq, h1, hL, h2, h3⟩, st⟩ | ⟨q, vm₁, ⟨U', l2, c2, s2⟩, hW₁, X', ⟨g', mk, t, L, E, ce, e1, e2, hq, hce, hcv, hcl, h1, hL, h2, h3⟩, st⟩
  · dsimp only [Pt.U, Pt.locs, Pt.cells, Pt.slots] at X' e1 e2 h1 h2 h3 st
    subst h1; subst h2; subst h3
    exact Or.inl ⟨v, (T.setVm vm₁).calling g' mk (Value.ref b :: As).toArray, t, U', L, hT, X', hL, e1, e2, hq, st⟩
  · dsimp only [Pt.U, Pt.locs, Pt.cells, Pt.slots] at X' e1 e2 h1 h2 h3 st hcl
    subst h1; subst h2; subst h3
    exact Or.inr ⟨q, (T.setVm vm₁).calling g' mk (Value.ref b :: As).toArray, t, U', L, E, ce, hT, X', hL, e1, e2, hq, hce, hcv, vx_cls hW₁ hcl, st⟩
theorem vx_runSX {hh : List (Nat × Nat × Nat × Nat)} (S : CallFix p m c cc nL s args Ts own) (hM : vx_Met l y ws rm Pc Qc XC mc ms free) (cw : vx_CSW R s args own index y bytes maxL ret hh ws rm mc ms n) (hp : PreS s H Pc As)
    (hg : g.method = m) (hn : As.length = n) (hsize : g.locals.size = nL) (hstack : g.stack = As.reverse ++ rest) (hW : 2 * g.monitorRoom + (rest.map fun v => v.category).sum ≤ 8) (hdg : decode cc g.pc = .ok (.invokestatic index, 3)) (hf : cells + mc ≤ R.cells ∧ slots + ms ≤ R.slots) :
    vx_Run p l e R s m args below meth c H locs cells slots mc ms g rest (Qc As.toArray) XC free := by
  obtain ⟨⟨hrc, hrs, hfr, hlo, hws, hcw⟩, hcode, hini, hy, hlen, hl, hstt⟩ := cw
  have hK : vx_Back l R p e below s args y 3 8 (PreOf R mc ms Pc) (PostOf Qc mc ms free) (vx_Post XC mc ms free) := vx_backW (hh := hh) (bytes := bytes) (maxL := maxL) (ret := ret) hM hp.1 hrc hrs hfr hlo hws hcw (fun a' U hW => word_at hW (Or.inl (by first | rfl | simp [Cond.onTables, Cond.keeps, Cond.steady])) hini)
  obtain ⟨hx, hb, hml, ho, -⟩ := S
  intro T hT X
  rcases vx_callSX X hx (hh := hh) (bytes := bytes) (maxL := maxL) (ret := ret) ho hl hstt hini hcode hy hK hg (hsize.trans hml.symm) (argsL := As) (rest := rest) (fun sig h => hn.trans (hlen sig h)) hstack hW (by rw [hb]; exact hdg)
    (fun vm₁ hW₁ => ⟨hf.1, hf.2, hp.2 (T.setVm vm₁) hT hW₁⟩) with ⟨v, vm₁, ⟨U', l2, c2, s2⟩, hW₁, X', ⟨g', mk, t, L, e1, e2, hq, h1, hL, h2, h3⟩, st⟩ | ⟨q, vm₁, ⟨U', l2, c2, s2⟩, hW₁, X', ⟨g', mk, t, L, E, ce, e1, e2, hq, hce, hcv, hcl, h1, hL, h2, h3⟩, st⟩
  · dsimp only [Pt.U, Pt.locs, Pt.cells, Pt.slots] at X' e1 e2 h1 h2 h3 st
    subst h1; subst h2; subst h3
    exact Or.inl ⟨v, (T.setVm vm₁).calling g' mk As.toArray, t, U', L, hT, X', hL, e1, e2, hq, st⟩
  · dsimp only [Pt.U, Pt.locs, Pt.cells, Pt.slots] at X' e1 e2 h1 h2 h3 st hcl
    subst h1; subst h2; subst h3
    exact Or.inr ⟨q, (T.setVm vm₁).calling g' mk As.toArray, t, U', L, E, ce, hT, X', hL, e1, e2, hq, hce, hcv, vx_cls hW₁ hcl, st⟩
end
end VXH
theorem vx_ofWH {l : Launch} {y : MethodName} {ws ws' : List Cond} {rm : Room} {Pc : Array Value → State → Prop} {Qc : Array Value → State → Outcome → State → Prop} {XC : String → State → State → Prop} {mc ms : Nat} {free : Addr → Prop} {cc : ByteArray} {maxL : Nat} {ret : Option FieldType} {hh : List (Nat × Nat × Nat × Nat)}
    (hy : plainName y.cls = true) (hw : ws = Cond.codeWith y cc maxL ret hh :: ws')
    (body : ∀ p e s m args below meth c s₁, BodyLoose p l y (headSpec ws rm) cc maxL ret e s m args below meth c s₁ → c.maxLocals = maxL → Pc args s →
      W p l e (headSpec ws rm).room s m args below meth c s.heap [] 0 0 (vx_MQ below Qc XC args s mc ms free) (entryFrame m args maxL)) : vx_Met l y ws rm Pc Qc XC mc ms free := by
  refine MetFree.of_bodyS (code := cc) (maxLocals := maxL) (ret := ret) hy ?_ ?_
  · intro args s m h hn
    obtain ⟨m9, meth, c, hn9, h1, h2, h3, h4, -, h5, h6, -⟩ := Cond.codeWith_spec (atoms_spec (ws := ws) h _ (by rw [hw]; exact List.mem_cons_self))
    cases hn.symm.trans hn9
    exact ⟨meth, c, h1, h2, h3, h4, h5, h6⟩
  · intro p e s m args below meth c s₁ B hml hP _
    have hh0 : s₁.heap = s.heap := by rw [B.state]; rfl
    obtain ⟨t, a1, o, b1, b2, b3⟩ := body p e s m args below meth c s₁ B hml hP s₁ hh0 (Stand.of_body B)
    exact ⟨t, o, a1, b1, b2, b3⟩
/-! ===== END ===== -/
/-! ===== BEGIN what the machine throws by itself, no traces kept ===== -/
section VXM
set_option maxHeartbeats 1000000 in
/-- the machine throws cls with the message text, no traces kept: from its note over the frame g to 'throwing' over the same frame (follows the proofs of Stand.vmThrowsMessage, Shelf/KitTracedVmS.lean, and Stand.throwsMessageColdBareV, StandMessageColdV.lean, without the step out of the frame) -/
theorem vx_vmAt {p : Program} {l : Launch} {e : Env} {R : Room} {s : State} {m₀ : MethodId} {args : Array Value} {below : List Frame} {meth : Method} {c : Code} {W : State} {locs : List Loc} {cells slots : Nat}
    (X : Stand p l e R s m₀ args below meth c W locs cells slots) (hexec : p.tables.exec = Jvm.exec) (htr : e.platform.stackTraces = false) {cls : String} {names : List String} {text : String}
    (hcls : Bundle.fit cls = true) (hnames : ∀ n ∈ names, Bundle.fit n = true) (hsoe : (cls == "java/lang/StackOverflowError") = false) (hoom : (cls == "java/lang/OutOfMemoryError") = false)
    (h : ∀ a ∈ Bundle.messageArmAtoms cls names, a.before args s = true)
    (hlocs : ∀ x ∈ locs, ∀ cell, s.heap[x.base]? = some cell → cell.vm.isStatics = false)
    (htext : (text == notModelled) = false) (hlimit : ¬ (stringBytes (stringToUtf16 text)).size > e.platform.arrayLengthLimit) (hheap : ¬ (stringBytes (stringToUtf16 text)).size * componentBytes .byte > e.platform.maxHeapBytes)
    {g : JFrame} (hg : g.method = m₀) (hsize : g.locals.size = c.maxLocals)
    (hRframes : names.length + 4 < R.frames) (hRlocals : 2 * g.monitorRoom + (g.stack.map fun v => v.category).sum + 10240 ≤ R.locals) (hshort : 13 * names.length + 55 ≤ 10240)
    (hRcells : cells + 3 ≤ R.cells) (hRslots : slots + ((stringBytes (stringToUtf16 text)).size + 4 + 6) ≤ R.slots) (hlocks : meth.locks = false) :
    ∃ (S : State) (q : Addr) (ce : Cell), (∀ target, Steps p.tables e below ((S.setTop g).pushFrame (.throwing q)) target → Steps p.tables e below ((W.setTop g).pushFrame (.throwNew cls (some text) none)) target) ∧
      Stand p l e R s m₀ args below meth c S locs (cells + 3) (slots + ((stringBytes (stringToUtf16 text)).size + 4 + 6)) ∧ S.heap[q]? = some ce ∧ s.vm.findClass cls = some ce.cls ∧ ce.vm = .none := by
  have howns : e.platform.frameOwnsMonitors = true := by rw [X.admits.platform]
  have hfin : e.platform.finalization = false := by rw [X.admits.platform]
  have hpl : e.platform.magicAccessors = ({} : Platform).magicAccessors := by rw [X.admits.platform]
  have a : ∀ x, x ∈ Bundle.messageArmAtoms cls names → x.holds args s none s [] = true := fun x hx => h x hx
  obtain ⟨T, Z0, L, -, Y⟩ := ThrowableC.of_atoms (args := args) howns hfin hpl (fun x hx => h x (by simp [Bundle.messageArmAtoms, hx]))
  obtain ⟨Z, M, LZ, LM, hnZ⟩ := Init0T.ofS_atoms (args := args) hpl L Y (fun x hx => h x (by simp [Bundle.messageArmAtoms, hx]))
  obtain ⟨P1, Ps, hlen, L1, hL, hP1m, hlink1, hlink⟩ := Bundle.chainS (args := args) hpl hnZ names cls hcls hnames (fun x hx => h x (by simp [Bundle.messageArmAtoms, hx]))
  obtain ⟨Zs, LZs, hn4, hfitv, hfitc⟩ := StringT.of_atoms (args := args) (fun x hx => h x (by simp [Bundle.messageArmAtoms, hx]))
  have hfound : s.vm.findClass cls = some P1.m.cls := findClass_of_methodNamed hP1m
  obtain ⟨c1, kX, hc1, hk, hord, -, -, hn6⟩ := Cond.instantiable_spec (a (.instantiable cls 6) (by simp [Bundle.messageArmAtoms]))
  cases Option.some.inj (hc1.symm.trans hfound)
  have hinit := Cond.initialized_spec hfound hk (a (.initialized cls) (by simp [Bundle.messageArmAtoms]))
  have hctor : kX.findMethod "<init>" "(Ljava/lang/String;)V" = some P1.m.idx := findMethod_of_methodNamed hP1m hk
  have hsel0 : selectMethod e.platform s.vm P1.m.cls T.fill0 = .method T.fill0 := by
    obtain ⟨c2, r2, m2, q1, q2, q3, q4, -⟩ := Cond.selects_spec (a (.selects cls Bundle.tFill0 Bundle.tFill0) (by simp [Bundle.messageArmAtoms]))
    cases Option.some.inj (q1.symm.trans hfound)
    cases Option.some.inj (q2.symm.trans (State.methodFound?_of_named Y.fill0 (by decide)))
    cases Option.some.inj (q3.symm.trans Y.fill0)
    rw [Launch.admits_selectMethod X.admits]; exact q4
  have hselF : selectMethod e.platform s.vm P1.m.cls T.fill = .method T.fill := by
    obtain ⟨c2, r2, m2, q1, q2, q3, q4, -⟩ := Cond.selects_spec (a (.selects cls Bundle.tFill Bundle.tFill) (by simp [Bundle.messageArmAtoms]))
    cases Option.some.inj (q1.symm.trans hfound)
    cases Option.some.inj (q2.symm.trans (State.methodFound?_of_named Y.fill (by decide)))
    cases Option.some.inj (q3.symm.trans Y.fill)
    rw [Launch.admits_selectMethod X.admits]; exact q4
  obtain ⟨cellS0, hcS0, hiss⟩ := Y.statics
  obtain ⟨u0, hu0⟩ := Cond.staticRefV Y.unassigned L.unassignedStatic L.statics hcS0 hiss (a (.isRef (.static Bundle.tN "UNASSIGNED_STACK" Bundle.steD)) (by simp [Bundle.messageArmAtoms]))
  obtain ⟨sen, hsen⟩ := Cond.staticRefV Y.sentinel L.sentinelStatic L.statics hcS0 hiss (a (.isRef (.static Bundle.tN "SUPPRESSED_SENTINEL" Bundle.listD)) (by simp [Bundle.messageArmAtoms]))
  obtain ⟨ci198, i198, fB, hk198, hg198, ha198, hsB, -, hnB, htB, hffB⟩ := Cond.ownField (t := .object "java/lang/Object") Y.found L.cls (by decide +kernel) (a (.fieldLink Bundle.tN 198 Bundle.tN "backtrace" "Ljava/lang/Object;") (by simp [Bundle.messageArmAtoms])) (a (.lays Bundle.tN Bundle.tN "backtrace" "Ljava/lang/Object;") (by simp [Bundle.messageArmAtoms])) e.platform hpl
  obtain ⟨cellS, hcS', heS, -, hkeep⟩ := X.same.2.2.2.2.2 T.aS cellS0 hcS0
  have hcellS : W.heap[T.aS]? = some cellS := hcS'
  have hout' : ∀ i, (⟨T.aS, i⟩ : Loc) ∉ locs := fun i hmem => by
    have := hlocs _ hmem cellS0 hcS0
    rw [hiss] at this; cases this
  have hknownS : cellS.vm ≠ .unknown := by
    rw [heS]; intro hu
    rw [show cellS0.vm = .unknown from hu] at hiss
    cases hiss
  have hvU : cellS.slots[T.fUnassigned.slot]? = some u0.v := by rw [hkeep _ (hout' _)]; exact hu0
  have hvSen : cellS.slots[T.fSentinel.slot]? = some sen.v := by rw [hkeep _ (hout' _)]; exact hsen
  obtain ⟨iM, hffM⟩ := Y.msg
  obtain ⟨tyC, dC, hdC, hdnC⟩ := Cond.laysAt hfound hk Y.cause (a (.lays cls Bundle.tN "cause" "Ljava/lang/Throwable;") (by simp [Bundle.messageArmAtoms]))
  obtain ⟨tyS, dS, hdS, hdnS⟩ := Cond.laysAt hfound hk Y.stack (a (.lays cls Bundle.tN "stackTrace" Bundle.steD) (by simp [Bundle.messageArmAtoms]))
  obtain ⟨tyP, dP, hdP, hdnP⟩ := Cond.laysAt hfound hk Y.supp (a (.lays cls Bundle.tN "suppressedExceptions" Bundle.listD) (by simp [Bundle.messageArmAtoms]))
  obtain ⟨tyM, dM, hdM, hdnM⟩ := Cond.laysAt hfound hk hffM (a (.lays cls Bundle.tN "detailMessage" "Ljava/lang/String;") (by simp [Bundle.messageArmAtoms]))
  obtain ⟨tyB, dB, hdB, hdnB⟩ := Cond.laysAt hfound hk hffB (a (.lays cls Bundle.tN "backtrace" "Ljava/lang/Object;") (by simp [Bundle.messageArmAtoms]))
  have bC := Cond.laysApart hdB hdC hdnB hdnC (by rw [hnB, Y.causeName]; decide)
  have bS := Cond.laysApart hdB hdS hdnB hdnS (by rw [hnB, Y.stackName]; decide)
  have bP := Cond.laysApart hdB hdP hdnB hdnP (by rw [hnB, Y.suppName]; decide)
  have hbk : ((preparedCellV T.toThrowableT (freshCell P1.m.cls kX) (W.heap.size + 2) u0 sen).withEntry W.cur).slots[fB.slot]? = some .null := by
    have := fresh_default (c := P1.m.cls) tyB
    rw [htB] at this
    simpa [preparedCellV, Cell.setSlot, Cell.withEntry, Array.getElem?_setIfInBounds, bC, bS, bP, bC.symm, bS.symm, bP.symm, defaultValue] using this
  have tkC := Takes.of_laid (v := .ref (W.heap.size + 2)) hk hord tyC (by rw [Y.causeType]; rfl)
  have tkS := Takes.of_laid (v := u0.v) hk hord tyS (by rw [Y.stackType]; exact fits_refV_array _ u0)
  have tkP := Takes.of_laid (v := sen.v) hk hord tyP (by rw [Y.suppType]; exact fits_refV_object _ sen)
  have tkM := Takes.of_laid (v := .ref (W.heap.size + 1)) hk hord tyM (by rw [Y.msgType]; rfl)
  have hskip : SkipFacts T e.platform s (fun u => u) u0 ((preparedCellV T.toThrowableT (freshCell P1.m.cls kX) (W.heap.size + 2) u0 sen).withEntry W.cur) := ⟨{ ci198 := ci198, i198 := i198, fBack := fB }, ⟨hk198, hg198, ha198, hsB⟩, hbk, fun _ _ => rfl⟩
  have h0 : At W g.method c below := by rw [hg]; exact X.here
  obtain ⟨hbeyond, hfreeW⟩ := X.vmMayThrow hsize (.throwNew cls (some text) none) (fun f hf => by cases hf) rfl hRlocals
  have hfr' : W.frames.length + Ps.length + 4 < (e.platform.stackLimits W.me).1 := by have := X.framesAbove hRframes; omega
  have hwd' : (stackUse (.java g :: W.frames.tail)).2 + 13 * Ps.length + 55 ≤ (e.platform.stackLimits W.me).2 := by have := X.stackAbove hsize (K := 13 * Ps.length + 55) (by omega); omega
  have hslots : W.slotsUsed + (stringBytes (stringToUtf16 text)).size + Zs.kS.instanceTypes.size + kX.instanceTypes.size ≤ e.platform.maxSlots := by
    have := X.slotsAbove hRslots
    rw [hn4, hn6]
    omega
  obtain ⟨vm', hW', st⟩ := Steps.vmThrowsMessageColdByV p (s₀ := s) (S := W) (g := g) h0 hexec T L Z LZ M LM X.warmed (t := W.cur) rfl Zs LZs P1 L1 Ps hL hlink1 hlink hsoe hoom hfound hk hinit hord hctor
    (Launch.admits_hotImplicitExceptions X.admits) hbeyond hfreeW htext hlimit hheap (X.cellsAbove hRcells) hslots (hfitv _) (hfitc _)
    (Nn := fun u => u) heapOnly_id (fun _ _ => rfl) (fun _ => rfl) (fun u x y => setCell_twice _ _ _ _) (fun _ => Nat.le_refl _) (cN := ((preparedCellV T.toThrowableT (freshCell P1.m.cls kX) (W.heap.size + 2) u0 sen).withEntry W.cur))
    hsel0 hcellS hknownS hvU tkS (fun _ hu => hu) (fun _ hu => hu) rfl rfl rfl (by simp [preparedCellV, Cell.setSlot, Cell.withEntry]) hskip (fun _ _ hA hW _ hroom _ hrest => L.nativeOff p htr hA hW hroom hrest) hselF hvSen tkC tkP tkM Y.objLocals rfl hfr' hwd'
  rw [plainBareV_eq T.toThrowableT (W.heap.size + 2) u0 sen (.ref (W.heap.size + 1)) W.cur rfl rfl] at st
  obtain ⟨-, -, w3, w4, -, -, -⟩ := withThrown_facts e.platform W Zs text P1.m.cls kX
  have X3 := ((X.pushed (bytesOf Zs.cB (stringToUtf16 text))).pushed (stringAt Zs.cS Zs.kS Zs.fv Zs.fc (stringToUtf16 text) W.heap.size)).pushed (freshCell P1.m.cls kX)
  rw [← withString_eq] at X3
  have X4 := X3.noted hW'
  have ha : (W.heap.size + 2) < ((withThrown W Zs text P1.m.cls kX).setVm vm').heap.size := by show _ < (withThrown W Zs text P1.m.cls kX).heap.size; rw [w3]; omega
  have hcell : ((withThrown W Zs text P1.m.cls kX).setVm vm').heap[(W.heap.size + 2)]? = some (freshCell P1.m.cls kX) := w4
  have X5 := ((((X4.stored hcell T.fCause.slot (.ref (W.heap.size + 2))).storedAgain ha T.fStack.slot u0.v).storedAgain ha T.fSupp.slot sen.v).storedAgain ha T.fStack.slot u0.v).storedAgain ha T.fMsg.slot (.ref (W.heap.size + 1))
  obtain ⟨g₁, hfrM⟩ := X5.frames_eq
  have hU : ((((withThrown W Zs text P1.m.cls kX).setVm vm').setCell (W.heap.size + 2) (plainBareV T.toThrowableT (freshCell P1.m.cls kX) (W.heap.size + 2) u0 sen (.ref (W.heap.size + 1)))).setTop g).pushFrame (.throwing (W.heap.size + 2)) = (((withThrown W Zs text P1.m.cls kX).setVm vm').setCell (W.heap.size + 2) (plainBareV T.toThrowableT (freshCell P1.m.cls kX) (W.heap.size + 2) u0 sen (.ref (W.heap.size + 1)))).setFrames (.throwing (W.heap.size + 2) :: .java g :: below) := by
    rw [State.pushFrame, State.frames_setTop _ hfrM, State.setTop_of_frames _ hfrM, State.setFrames_setFrames]
  have b1 : (bytesOf Zs.cB (stringToUtf16 text)).slots.size = (stringBytes (stringToUtf16 text)).size := by
    rw [(Cell.writeAll_facts _ _).2.2]; simp [bytes0]
  have b2 : (stringAt Zs.cS Zs.kS Zs.fv Zs.fc (stringToUtf16 text) W.heap.size).slots.size = 4 := by simp [string0, Cell.setSlot, hn4]
  have b3 : (freshCell P1.m.cls kX).slots.size = 6 := by simp [hn6]
  rw [b1, b2, b3] at X5
  have e9 : slots + (stringBytes (stringToUtf16 text)).size + 4 + 6 = slots + ((stringBytes (stringToUtf16 text)).size + 4 + 6) := by omega
  rw [e9] at X5
  simp only [List.append_assoc, List.cons_append, List.nil_append] at X5
  refine ⟨((withThrown W Zs text P1.m.cls kX).setVm vm').setCell (W.heap.size + 2) (plainBareV T.toThrowableT (freshCell P1.m.cls kX) (W.heap.size + 2) u0 sen (.ref (W.heap.size + 1))), W.heap.size + 2, _, fun target ht => st _ (by rw [X.tail, ← hU]; exact ht),
    X5.forget (fun y hy => ?_), heapAt_setCell_self _ ha, hfound, rfl⟩
  simp only [List.mem_cons, List.not_mem_nil, or_false] at hy
  have hge : s.heap.size ≤ W.heap.size := X.same.2.1
  rcases hy with rfl | rfl | rfl | rfl | rfl <;> exact Nat.le_trans hge (Nat.le_add_right _ 2)
set_option maxHeartbeats 1000000 in
/-- the machine throws NullPointerException, no traces kept: from its note over the frame g to 'throwing' over the same frame (follows the proof of Stand.vmThrowsNpe, Shelf42/KT2.lean; throwsNpeColdBareVAt, Shelf42/NT91.lean, called) -/
theorem vx_npeAt {p : Program} {l : Launch} {e : Env} {R : Room} {s : State} {m₀ : MethodId} {args : Array Value} {below : List Frame} {meth : Method} {c : Code} {W : State} {locs : List Loc} {cells slots : Nat}
    (X : Stand p l e R s m₀ args below meth c W locs cells slots) (hexec : p.tables.exec = Jvm.exec) (htr : e.platform.stackTraces = false) {n : Nat}
    (h : ∀ a ∈ Bundle.npeArmAtoms n, a.before args s = true)
    (hlocs : ∀ x ∈ locs, ∀ cell, s.heap[x.base]? = some cell → cell.vm.isStatics = false)
    {g : JFrame} (hg : g.method = m₀) (hsize : g.locals.size = c.maxLocals)
    (hRframes : 7 < R.frames) (hRlocals : 2 * g.monitorRoom + (g.stack.map fun v => v.category).sum + 10240 ≤ R.locals)
    (hRcells : cells + 1 ≤ R.cells) (hRslots : slots + n ≤ R.slots) (hlocks : meth.locks = false) :
    ∃ (S : State) (q : Addr) (ce : Cell), (∀ target, Steps p.tables e below ((S.setTop g).pushFrame (.throwing q)) target → Steps p.tables e below ((W.setTop g).pushFrame (.throwNew "java/lang/NullPointerException" none none)) target) ∧
      Stand p l e R s m₀ args below meth c S locs (cells + 1) (slots + n) ∧ S.heap[q]? = some ce ∧ s.vm.findClass "java/lang/NullPointerException" = some ce.cls ∧ ce.vm = .none := by
  have howns : e.platform.frameOwnsMonitors = true := by rw [X.admits.platform]
  have hfin : e.platform.finalization = false := by rw [X.admits.platform]
  have hpl : e.platform.magicAccessors = ({} : Platform).magicAccessors := by rw [X.admits.platform]
  have hpl2 : e.platform.arrayCloneIsPublic = true := by rw [X.admits.platform]
  have a' : ∀ x, x ∈ Bundle.npeArmAtoms n → x.holds args s none s [] = true := fun x hx => h x hx
  obtain ⟨T, Z, L, LZ, Y⟩ := ThrowableC.of_atoms (args := args) howns hfin hpl (fun x hx => h x (by simp [Bundle.npeArmAtoms, hx]))
  obtain ⟨N, LN, hcN, hnNF, hordN, hffS⟩ := NpeC.of_atoms (args := args) hpl hpl2 L Y (fun x hx => h x (by simp [Bundle.npeArmAtoms, hx]))
  obtain ⟨P1, L1, hP1m, hP1s⟩ := PassC.of_atoms (args := args) (s := s) hpl (X := Bundle.nN) (Y := Bundle.rN) (by decide) (by decide) LibCode.NullPointerException.Init0.at_0 LibCode.NullPointerException.Init0.at_1 LibCode.NullPointerException.Init0.at_4 (fun x hx => h x (by simp [Bundle.npeArmAtoms, hx]))
  obtain ⟨PR, LR, hPRm, hPRs⟩ := PassC.of_atoms (args := args) (s := s) hpl (X := Bundle.rN) (Y := Bundle.eN) (by decide) (by decide) LibCode.RuntimeException.Init0.at_0 LibCode.RuntimeException.Init0.at_1 LibCode.RuntimeException.Init0.at_4 (fun x hx => h x (by simp [Bundle.npeArmAtoms, hx]))
  obtain ⟨PE, LEx, hPEm, hPEs⟩ := PassC.of_atoms (args := args) (s := s) hpl (X := Bundle.eN) (Y := Bundle.tN) (by decide) (by decide) LibCode.Exception.Init0.at_0 LibCode.Exception.Init0.at_1 LibCode.Exception.Init0.at_4 (fun x hx => h x (by simp [Bundle.npeArmAtoms, hx]))
  have hfound : s.vm.findClass Bundle.nN = some P1.m.cls := findClass_of_methodNamed hP1m
  have ecls : N.cN = P1.m.cls := Option.some.inj (hcN.symm.trans hfound)
  have hk : s.vm.classes[P1.m.cls]? = some N.kN := by rw [← ecls]; exact LN.cls
  have hinit := Cond.initialized_spec hfound hk (a' (.initialized Bundle.nN) (by simp [Bundle.npeArmAtoms]))
  have hctor : N.kN.findMethod "<init>" "()V" = some P1.m.idx := findMethod_of_methodNamed hP1m hk
  obtain ⟨c1, k1, hc1, hk1, -, -, -, hn⟩ := Cond.instantiable_spec (a' (.instantiable Bundle.nN n) (by simp [Bundle.npeArmAtoms]))
  cases Option.some.inj (hc1.symm.trans hfound)
  cases Option.some.inj (hk1.symm.trans hk)
  have hfsz : (freshCell P1.m.cls N.kN).slots.size = n := by simp [hn]
  have hlink1 : P1.sup = PR.m := Option.some.inj (hP1s.symm.trans hPRm)
  have hlinkR : PR.sup = PE.m := Option.some.inj (hPRs.symm.trans hPEm)
  have hlinkE : PE.sup = Z.m T.toThrowableT := Option.some.inj (hPEs.symm.trans Y.init0)
  have hLs : ∀ P, P ∈ [PR, PE] → P.Links0 e.platform s := fun P hP => by
    simp only [List.mem_cons, List.not_mem_nil, or_false] at hP
    rcases hP with rfl | rfl
    · exact LR
    · exact LEx
  have hsel0 : selectMethod e.platform s.vm P1.m.cls T.fill0 = .method T.fill0 := by
    obtain ⟨c2, r2, m2, q1, q2, q3, q4, -⟩ := Cond.selects_spec (a' (.selects Bundle.nN Bundle.tFill0 Bundle.tFill0) (by simp [Bundle.npeArmAtoms]))
    cases Option.some.inj (q1.symm.trans hfound)
    cases Option.some.inj (q2.symm.trans (State.methodFound?_of_named Y.fill0 (by decide)))
    cases Option.some.inj (q3.symm.trans Y.fill0)
    rw [Launch.admits_selectMethod X.admits]; exact q4
  have hselF : selectMethod e.platform s.vm P1.m.cls T.fill = .method N.fill := by
    obtain ⟨c2, r2, m2, q1, q2, q3, q4, -⟩ := Cond.selects_spec (a' (.selects Bundle.nN Bundle.tFill Bundle.nFill) (by simp [Bundle.npeArmAtoms]))
    cases Option.some.inj (q1.symm.trans hfound)
    cases Option.some.inj (q2.symm.trans (State.methodFound?_of_named Y.fill (by decide)))
    cases Option.some.inj (q3.symm.trans hnNF)
    rw [Launch.admits_selectMethod X.admits]; exact q4
  obtain ⟨cellS0, hcS0, hiss⟩ := Y.statics
  obtain ⟨u0, hu0⟩ := Cond.staticRefV Y.unassigned L.unassignedStatic L.statics hcS0 hiss (a' (.isRef (.static Bundle.tN "UNASSIGNED_STACK" Bundle.steD)) (by simp [Bundle.npeArmAtoms]))
  obtain ⟨sen, hsen⟩ := Cond.staticRefV Y.sentinel L.sentinelStatic L.statics hcS0 hiss (a' (.isRef (.static Bundle.tN "SUPPRESSED_SENTINEL" Bundle.listD)) (by simp [Bundle.npeArmAtoms]))
  obtain ⟨ci198, i198, fB, hk198, hg198, ha198, hsB, -, hnB, htB, hffB⟩ := Cond.ownField (t := .object "java/lang/Object") Y.found L.cls (by decide +kernel) (a' (.fieldLink Bundle.tN 198 Bundle.tN "backtrace" Bundle.objD) (by simp [Bundle.npeArmAtoms])) (a' (.lays Bundle.tN Bundle.tN "backtrace" Bundle.objD) (by simp [Bundle.npeArmAtoms])) e.platform hpl
  obtain ⟨cellS, hcS', heS, -, hkeep⟩ := X.same.2.2.2.2.2 T.aS cellS0 hcS0
  have hcellS : W.heap[T.aS]? = some cellS := hcS'
  have hout' : ∀ i, (⟨T.aS, i⟩ : Loc) ∉ locs := fun i hmem => by
    have := hlocs _ hmem cellS0 hcS0
    rw [hiss] at this; cases this
  have hknownS : cellS.vm ≠ .unknown := by
    rw [heS]; intro hu
    rw [show cellS0.vm = .unknown from hu] at hiss
    cases hiss
  have hvU : cellS.slots[T.fUnassigned.slot]? = some u0.v := by rw [hkeep _ (hout' _)]; exact hu0
  have hvSen : cellS.slots[T.fSentinel.slot]? = some sen.v := by rw [hkeep _ (hout' _)]; exact hsen
  obtain ⟨tyC, dC, hdC, hdnC⟩ := Cond.laysAt hfound hk Y.cause (a' (.lays Bundle.nN Bundle.tN "cause" "Ljava/lang/Throwable;") (by simp [Bundle.npeArmAtoms]))
  obtain ⟨tyS, dS, hdS, hdnS⟩ := Cond.laysAt hfound hk Y.stack (a' (.lays Bundle.nN Bundle.tN "stackTrace" Bundle.steD) (by simp [Bundle.npeArmAtoms]))
  obtain ⟨tyP, dP, hdP, hdnP⟩ := Cond.laysAt hfound hk Y.supp (a' (.lays Bundle.nN Bundle.tN "suppressedExceptions" Bundle.listD) (by simp [Bundle.npeArmAtoms]))
  obtain ⟨tyX, dX, hdX, hdnX⟩ := Cond.laysAt hfound hk hffS (a' (.lays Bundle.nN Bundle.nN "extendedMessageState" "I") (by simp [Bundle.npeArmAtoms, Bundle.npeAtoms]))
  obtain ⟨hnX, htX⟩ := State.fieldFound?_type hffS (t := .int) (by decide +kernel)
  have xC := Cond.laysApart hdC hdX hdnC hdnX (by rw [hnX, Y.causeName]; decide)
  have xS := Cond.laysApart hdS hdX hdnS hdnX (by rw [hnX, Y.stackName]; decide)
  have xP := Cond.laysApart hdP hdX hdnP hdnX (by rw [hnX, Y.suppName]; decide)
  have hv0 : (freshCell P1.m.cls N.kN).slots[N.fState.slot]? = some (.int 0) := by
    have := fresh_default (c := P1.m.cls) tyX
    rw [htX] at this; exact this
  obtain ⟨tyB, dB, hdB, hdnB⟩ := Cond.laysAt hfound hk hffB (a' (.lays Bundle.nN Bundle.tN "backtrace" Bundle.objD) (by simp [Bundle.npeArmAtoms]))
  have bC := Cond.laysApart hdB hdC hdnB hdnC (by rw [hnB, Y.causeName]; decide)
  have bS := Cond.laysApart hdB hdS hdnB hdnS (by rw [hnB, Y.stackName]; decide)
  have bP := Cond.laysApart hdB hdP hdnB hdnP (by rw [hnB, Y.suppName]; decide)
  have bX := Cond.laysApart hdB hdX hdnB hdnX (by rw [hnB, hnX]; decide)
  have hbk : ((npeCell N.toNpeT (preparedCellV T.toThrowableT (freshCell P1.m.cls N.kN) W.heap.size u0 sen) W.cur).withEntry W.cur).slots[fB.slot]? = some .null := by
    have := fresh_default (c := P1.m.cls) tyB
    rw [htB] at this
    simpa [npeCell, preparedCellV, Cell.setSlot, Cell.withEntry, Array.getElem?_setIfInBounds, bC, bS, bP, bX, bC.symm, bS.symm, bP.symm, bX.symm, defaultValue] using this
  have tkC := Takes.of_laid (v := .ref W.heap.size) hk hordN tyC (by rw [Y.causeType]; rfl)
  have tkS := Takes.of_laid (v := u0.v) hk hordN tyS (by rw [Y.stackType]; exact fits_refV_array _ u0)
  have tkP := Takes.of_laid (v := sen.v) hk hordN tyP (by rw [Y.suppType]; exact fits_refV_object _ sen)
  have tkX := Takes.of_laid (v := .int 1) hk hordN tyX (by rw [htX]; rfl)
  have hskip : SkipFacts T e.platform s (fun u => u) u0 ((npeCell N.toNpeT (preparedCellV T.toThrowableT (freshCell P1.m.cls N.kN) W.heap.size u0 sen) W.cur).withEntry W.cur) := ⟨{ ci198 := ci198, i198 := i198, fBack := fB }, ⟨hk198, hg198, ha198, hsB⟩, hbk, fun _ _ => rfl⟩
  obtain ⟨vm', X3, st, -⟩ := X.throwsNpeColdBareVAt hexec hg hsize T L Z LZ N LN P1 L1 [PR, PE] hLs hlink1 ⟨hlinkR, hlinkE, trivial⟩ hfound hk hinit hordN hctor hsel0 hselF hcellS hknownS hvU hvSen
    hv0 xC xS xP tkC tkS tkP tkX Y.objLocals hskip (fun _ _ hA hW _ hroom _ hrest => L.nativeOff p htr hA hW hroom hrest) (by simpa using hRframes) hRlocals (by simp) hRcells (by rw [hn]; exact hRslots)
  have hlt : W.heap.size < ((W.pushCell (freshCell P1.m.cls N.kN)).setVm vm').heap.size := by
    show W.heap.size < (W.pushCell (freshCell P1.m.cls N.kN)).heap.size
    rw [State.heap_size_pushCell]; omega
  rw [hfsz] at X3
  obtain ⟨g₁, hfrM⟩ := X3.frames_eq
  have hU : ((((W.pushCell (freshCell P1.m.cls N.kN)).setVm vm').setCell W.heap.size (npeBareV T.toThrowableT N.toNpeT (freshCell P1.m.cls N.kN) W.heap.size u0 sen)).setTop g).pushFrame (.throwing W.heap.size) = (((W.pushCell (freshCell P1.m.cls N.kN)).setVm vm').setCell W.heap.size (npeBareV T.toThrowableT N.toNpeT (freshCell P1.m.cls N.kN) W.heap.size u0 sen)).setFrames (.throwing W.heap.size :: .java g :: below) := by
    rw [State.pushFrame, State.frames_setTop _ hfrM, State.setTop_of_frames _ hfrM, State.setFrames_setFrames]
  refine ⟨_, W.heap.size, _, fun target ht => st.trans (by rw [← hU]; exact ht), X3.forget (fun y hy => ?_), heapAt_setCell_self _ hlt, hfound, rfl⟩
  simp only [List.mem_cons, List.not_mem_nil, or_false] at hy
  have hge : s.heap.size ≤ W.heap.size := X.same.2.1
  rcases hy with rfl | rfl | rfl | rfl | rfl <;> exact hge
/-- the words of a machine's NullPointerException, but the four that speak of the heap -/
def vx_atN (n : Nat) : List Cond := (Bundle.npeArmAtoms n).filter vx_no
/-- the words of a machine's throw with a message, but the four that speak of the heap -/
def vx_atM (X : String) (names : List String) : List Cond := (Bundle.messageArmAtoms X names).filter vx_no
section
variable {p : Program} {l : Launch} {e : Env} {R : Room} {s : State} {m : MethodId} {args : Array Value} {below : List Frame} {meth : Method} {c : Code} {H : Heap} {locs : List Loc} {cells slots : Nat}
/-- a frame seen from a rebased start, seen from the first start again -/
theorem vx_back9 {T S : State} {R' : Room} {k n : Nat} (X : Stand p l e R s m args below meth c T locs cells slots) (Y : Stand p l e R' ((T.setVm s.vm).setFrames (.invoking m args :: below)) m args below meth c T [] 0 0) (Z : Stand p l e R' ((T.setVm s.vm).setFrames (.invoking m args :: below)) m args below meth c S [] k n) :
    Stand p l e R s m args below meth c S locs (cells + k) (slots + n) := by
  have hW0 : s.WarmedH ((T.setVm s.vm).setFrames (.invoking m args :: below)).vm := State.WarmedH.refl s
  refine { admits := X.admits, cas := X.cas, clock := X.clock, frames := X.frames, room := X.room, hears := X.hears, method := X.method, code := X.code, here := Z.here, tail := Z.tail, warmed := State.WarmedH.trans hW0 Z.warmed, limits := Z.limits.trans (Y.limits.symm.trans X.limits), bytes := Z.bytes.trans (Y.bytes.symm.trans X.bytes), same := ?_ }
  obtain ⟨e1, e2⟩ := Z.same
  rw [State.setFrames_setFrames] at e1
  have h2 : (T.setVm s.vm).sameButNew (S.setVm s.vm) [] k n := ⟨e1, e2⟩
  have h3 := X.same.trans h2
  rw [List.append_nil] at h3
  exact h3
/-- from the machine's note that E is thrown here with this text -/
def vx_Note (p : Program) (l : Launch) (e : Env) (R : Room) (s : State) (m : MethodId) (args : Array Value) (below : List Frame) (meth : Method) (c : Code) (H : Heap) (locs : List Loc) (cells slots : Nat) (Q : State → Prop) (g : JFrame) (E text : String) : Prop :=
  ∀ T : State, T.heap = H → Stand p l e R s m args below meth c T locs cells slots → ∃ t, Steps p.tables e below ((T.setTop g).pushFrame (.throwNew E (some text) none)) t ∧ Q t
theorem vx_vm {pc : Nat} {ls : Array Slot} {rest : List Value} {Q : State → Prop} (hexec : p.tables.exec = Jvm.exec) (hl : l.stackTraces = false) {cls text : String} {names : List String} {nb : Nat} {A : Nat → Prop}
    (hcls : Bundle.fit cls = true) (hnames : ∀ n ∈ names, Bundle.fit n = true) (hsoe : (cls == "java/lang/StackOverflowError") = false) (hoom : (cls == "java/lang/OutOfMemoryError") = false)
    (hat : ∀ w ∈ vx_atM cls names, w.before args s = true) (hgood : ∀ w ∈ vx_atM cls names, vx_ot w = true)
    (hU : vx_Zq Bundle.tN "UNASSIGNED_STACK" Bundle.steD A s s.heap) (hN : vx_Zq Bundle.tN "SUPPRESSED_SENTINEL" Bundle.listD A s s.heap) (hS : va_S A s.heap H locs) (hsize : ls.size = c.maxLocals)
    (htext : (text == notModelled) = false) (hnb : (stringBytes (stringToUtf16 text)).size ≤ nb) (hnb1 : nb ≤ 1000)
    (hRframes : names.length + 4 < R.frames) (hRlocals : (rest.map fun v => v.category).sum + 10240 ≤ R.locals) (hshort : 13 * names.length + 55 ≤ 10240) (hRcells : cells + 3 ≤ R.cells) (hRslots : slots + (nb + 10) ≤ R.slots) (hlocks : meth.locks = false)
    (k : ∀ (H1 : Heap) (q9 : Addr) (ce : Cell), H.size ≤ H1.size → (∀ q : Nat, q < H.size → H1[q]? = H[q]?) → va_S A s.heap H1 locs → H1[q9]? = some ce → ce.vm = .none → s.vm.findClass cls = some ce.cls → vx_W p l e R s m args below meth c H1 locs (cells + 3) (slots + (nb + 10)) Q (F0 m pc ls rest) q9) :
    vx_Note p l e R s m args below meth c H locs cells slots Q (F0 m pc ls rest) cls text := by
  intro T hT X
  have htr : e.platform.stackTraces = false := (show e.platform.stackTraces = l.stackTraces by rw [X.admits.platform]).trans hl
  have Y := vx_rebase X (R' := { frames := R.frames, locals := R.locals, cells := 3, slots := nb + 10 }) (Nat.le_refl _) (Nat.le_refl _) hRcells hRslots
  have hhp : ((T.setVm s.vm).setFrames (.invoking m args :: below)).heap = H := hT
  have hW0 : s.WarmedH ((T.setVm s.vm).setFrames (.invoking m args :: below)).vm := State.WarmedH.refl s
  have hat' : ∀ w ∈ vx_atM cls names, w.before args ((T.setVm s.vm).setFrames (.invoking m args :: below)) = true := fun w hw => vx_ot_at hW0 rfl (hgood w hw) (hat w hw)
  have hU' : vx_Zq Bundle.tN "UNASSIGNED_STACK" Bundle.steD A ((T.setVm s.vm).setFrames (.invoking m args :: below)) ((T.setVm s.vm).setFrames (.invoking m args :: below)).heap := by rw [hhp]; exact vx_Zq.moved hW0.alike (hU.kept hS.2.1)
  have hN' : vx_Zq Bundle.tN "SUPPRESSED_SENTINEL" Bundle.listD A ((T.setVm s.vm).setFrames (.invoking m args :: below)) ((T.setVm s.vm).setFrames (.invoking m args :: below)).heap := by rw [hhp]; exact vx_Zq.moved hW0.alike (hN.kept hS.2.1)
  obtain ⟨S, q, ce, st, Z, hce, hcl', hv⟩ := vx_vmAt Y hexec htr (cls := cls) (names := names) (text := text) hcls hnames hsoe hoom (vx_own hat' (vx_isRefq hU'.1) (vx_isRefq hN'.1) hU'.2.word hN'.2.word) (fun x hx => nomatch hx) htext
    (by rw [Launch.admits_arrayLengthLimit X.admits]; omega) (by rw [Launch.admits_maxHeapBytes X.admits]; simp only [componentBytes]; omega)
    (g := F0 m pc ls rest) rfl hsize hRframes (by show 2 * 0 + (rest.map fun v => v.category).sum + 10240 ≤ R.locals; omega) hshort (by show 0 + 3 ≤ 3; omega) (by show 0 + (_ + 4 + 6) ≤ nb + 10; omega) hlocks
  obtain ⟨f1, f2⟩ := vx_frame Z.same
  have f1' : H.size ≤ S.heap.size := by rw [← hT]; exact f1
  have f2' : ∀ q : Nat, q < H.size → S.heap[q]? = H[q]? := fun q hq => by
    rw [← hT]
    exact f2 q (by rw [← hT] at hq; exact hq) (fun z hz => nomatch hz)
  have X5 := vx_back9 X Y Z
  have X6 : Stand p l e R s m args below meth c S locs (cells + 3) (slots + (nb + 10)) := { X5 with same := X5.same.mono (by omega) (by omega) }
  obtain ⟨t, a1, b1⟩ := k S.heap q ce f1' f2' ⟨Nat.le_trans hS.1 f1', fun q h1 h2 => (f2' q (Nat.lt_of_lt_of_le h1 hS.1)).trans (hS.2.1 q h1 h2), hS.2.2⟩ hce hv hcl' S rfl X6
  exact ⟨t, st t a1, b1⟩
/-- from the machine's note that NullPointerException is thrown here -/
def vx_NoteN (p : Program) (l : Launch) (e : Env) (R : Room) (s : State) (m : MethodId) (args : Array Value) (below : List Frame) (meth : Method) (c : Code) (H : Heap) (locs : List Loc) (cells slots : Nat) (Q : State → Prop) (g : JFrame) : Prop :=
  ∀ T : State, T.heap = H → Stand p l e R s m args below meth c T locs cells slots → ∃ t, Steps p.tables e below ((T.setTop g).pushFrame (.throwNew "java/lang/NullPointerException" none none)) t ∧ Q t
theorem vx_npe {pc : Nat} {ls : Array Slot} {rest : List Value} {Q : State → Prop} (hexec : p.tables.exec = Jvm.exec) (hl : l.stackTraces = false) {nb : Nat} {A : Nat → Prop}
    (hat : ∀ w ∈ vx_atN nb, w.before args s = true) (hgood : ∀ w ∈ vx_atN nb, vx_ot w = true)
    (hU : vx_Zq Bundle.tN "UNASSIGNED_STACK" Bundle.steD A s s.heap) (hN : vx_Zq Bundle.tN "SUPPRESSED_SENTINEL" Bundle.listD A s s.heap) (hS : va_S A s.heap H locs) (hsize : ls.size = c.maxLocals)
    (hRframes : 7 < R.frames) (hRlocals : (rest.map fun v => v.category).sum + 10240 ≤ R.locals) (hRcells : cells + 1 ≤ R.cells) (hRslots : slots + nb ≤ R.slots) (hlocks : meth.locks = false)
    (k : ∀ (H1 : Heap) (q9 : Addr) (ce : Cell), H.size ≤ H1.size → (∀ q : Nat, q < H.size → H1[q]? = H[q]?) → va_S A s.heap H1 locs → H1[q9]? = some ce → ce.vm = .none → s.vm.findClass "java/lang/NullPointerException" = some ce.cls → vx_W p l e R s m args below meth c H1 locs (cells + 1) (slots + nb) Q (F0 m pc ls rest) q9) :
    vx_NoteN p l e R s m args below meth c H locs cells slots Q (F0 m pc ls rest) := by
  intro T hT X
  have htr : e.platform.stackTraces = false := (show e.platform.stackTraces = l.stackTraces by rw [X.admits.platform]).trans hl
  have Y := vx_rebase X (R' := { frames := R.frames, locals := R.locals, cells := 1, slots := nb }) (Nat.le_refl _) (Nat.le_refl _) hRcells hRslots
  have hhp : ((T.setVm s.vm).setFrames (.invoking m args :: below)).heap = H := hT
  have hW0 : s.WarmedH ((T.setVm s.vm).setFrames (.invoking m args :: below)).vm := State.WarmedH.refl s
  have hat' : ∀ w ∈ vx_atN nb, w.before args ((T.setVm s.vm).setFrames (.invoking m args :: below)) = true := fun w hw => vx_ot_at hW0 rfl (hgood w hw) (hat w hw)
  have hU' : vx_Zq Bundle.tN "UNASSIGNED_STACK" Bundle.steD A ((T.setVm s.vm).setFrames (.invoking m args :: below)) ((T.setVm s.vm).setFrames (.invoking m args :: below)).heap := by rw [hhp]; exact vx_Zq.moved hW0.alike (hU.kept hS.2.1)
  have hN' : vx_Zq Bundle.tN "SUPPRESSED_SENTINEL" Bundle.listD A ((T.setVm s.vm).setFrames (.invoking m args :: below)) ((T.setVm s.vm).setFrames (.invoking m args :: below)).heap := by rw [hhp]; exact vx_Zq.moved hW0.alike (hN.kept hS.2.1)
  obtain ⟨S, q, ce, st, Z, hce, hcl', hv⟩ := vx_npeAt Y hexec htr (n := nb) (vx_own hat' (vx_isRefq hU'.1) (vx_isRefq hN'.1) hU'.2.word hN'.2.word) (fun x hx => nomatch hx)
    (g := F0 m pc ls rest) rfl hsize hRframes (by show 2 * 0 + (rest.map fun v => v.category).sum + 10240 ≤ R.locals; omega) (by show 0 + 1 ≤ 1; omega) (by show 0 + nb ≤ nb; omega) hlocks
  obtain ⟨f1, f2⟩ := vx_frame Z.same
  have f1' : H.size ≤ S.heap.size := by rw [← hT]; exact f1
  have f2' : ∀ q : Nat, q < H.size → S.heap[q]? = H[q]? := fun q hq => by
    rw [← hT]
    exact f2 q (by rw [← hT] at hq; exact hq) (fun z hz => nomatch hz)
  have X5 := vx_back9 X Y Z
  have X6 : Stand p l e R s m args below meth c S locs (cells + 1) (slots + nb) := { X5 with same := X5.same.mono (by omega) (by omega) }
  obtain ⟨t, a1, b1⟩ := k S.heap q ce f1' f2' ⟨Nat.le_trans hS.1 f1', fun q h1 h2 => (f2' q (Nat.lt_of_lt_of_le h1 hS.1)).trans (hS.2.1 q h1 h2), hS.2.2⟩ hce hv hcl' S rfl X6
  exact ⟨t, st t a1, b1⟩
variable {Q : State → Prop} {cc : ByteArray} {pc : Nat} {ls : Array Slot} {rest : List Value}
theorem vx_idivZ (hexec : p.tables.exec = Jvm.exec) (hb : c.code = cc) {a b : Int32} (h0 : b = 0) (d : decode cc pc = .ok (.idiv, 1)) (k : vx_Note p l e R s m args below meth c H locs cells slots Q (F0 m pc ls rest) "java/lang/ArithmeticException" "/ by zero") :
    W p l e R s m args below meth c H locs cells slots Q (F0 m pc ls (.int b :: .int a :: rest)) := by
  intro T hT X
  obtain ⟨t, st, q⟩ := k T hT X
  exact ⟨t, X.idivZero hexec (g := F0 m pc ls (.int b :: .int a :: rest)) rfl (a := a) (rest := rest) (by rw [h0]) (by rw [hb]; exact d) t st, q⟩
theorem vx_iremZ (hexec : p.tables.exec = Jvm.exec) (hb : c.code = cc) {a b : Int32} (h0 : b = 0) (d : decode cc pc = .ok (.irem, 1)) (k : vx_Note p l e R s m args below meth c H locs cells slots Q (F0 m pc ls rest) "java/lang/ArithmeticException" "/ by zero") :
    W p l e R s m args below meth c H locs cells slots Q (F0 m pc ls (.int b :: .int a :: rest)) := by
  intro T hT X
  obtain ⟨t, st, q⟩ := k T hT X
  exact ⟨t, X.iremZero hexec (g := F0 m pc ls (.int b :: .int a :: rest)) rfl (a := a) (rest := rest) (by rw [h0]) (by rw [hb]; exact d) t st, q⟩
theorem vx_ldivZ (hexec : p.tables.exec = Jvm.exec) (hb : c.code = cc) {a b : Int64} (h0 : b = 0) (d : decode cc pc = .ok (.ldiv, 1)) (k : vx_Note p l e R s m args below meth c H locs cells slots Q (F0 m pc ls rest) "java/lang/ArithmeticException" "/ by zero") :
    W p l e R s m args below meth c H locs cells slots Q (F0 m pc ls (.long b :: .long a :: rest)) := by
  intro T hT X
  obtain ⟨t, st, q⟩ := k T hT X
  exact ⟨t, X.ldivZero hexec (g := F0 m pc ls (.long b :: .long a :: rest)) rfl (a := a) (rest := rest) (by rw [h0]) (by rw [hb]; exact d) t st, q⟩
theorem vx_lremZ (hexec : p.tables.exec = Jvm.exec) (hb : c.code = cc) {a b : Int64} (h0 : b = 0) (d : decode cc pc = .ok (.lrem, 1)) (k : vx_Note p l e R s m args below meth c H locs cells slots Q (F0 m pc ls rest) "java/lang/ArithmeticException" "/ by zero") :
    W p l e R s m args below meth c H locs cells slots Q (F0 m pc ls (.long b :: .long a :: rest)) := by
  intro T hT X
  obtain ⟨t, st, q⟩ := k T hT X
  exact ⟨t, X.lremZero hexec (g := F0 m pc ls (.long b :: .long a :: rest)) rfl (a := a) (rest := rest) (by rw [h0]) (by rw [hb]; exact d) t st, q⟩
theorem vx_ialdZ {D : va_G} {cl : List vw_C} {ws : va_W} {tys : List (ClassId × FieldType)} {a : Nat} (hexec : p.tables.exec = Jvm.exec) (hb : c.code = cc) (hK : va_K D cl tys s) (hP : va_P D cl ws H) (q0 t0 : Nat) {cA : ClassId} {n : Nat} {f : Nat → Int32} (ha : ws[q0]? = some (a, .inl (cA, n, .inl f))) (ht : tys[t0]? = some (cA, .int)) {i : Int32} (hout : ¬ vp_in i n) (hdg : decode cc pc = .ok (.iaload, 1))
    (k : ∀ tx : String, tx = (toString "Index " ++ toString i ++ toString " out of bounds for length " ++ toString n : String) → vx_Note p l e R s m args below meth c H locs cells slots Q (F0 m pc ls rest) "java/lang/ArrayIndexOutOfBoundsException" tx) : W p l e R s m args below meth c H locs cells slots Q (F0 m pc ls (.int i :: .ref a :: rest)) := by
  intro T hT X
  obtain ⟨t, st, q⟩ := k _ rfl T hT X
  refine ⟨t, ?_, q⟩
  have h1 := X.ialoadOut hexec (by rw [hT]; exact hP q0 _ ha) ((hK.2 t0 _ ht).1 n (fun j => .int (f j))) (j := i) (by show (i < 0 ∨ (arrV _ _ _).slots.size ≤ _); rw [arrV_size]; exact Classical.byContradiction hout) (g := F0 m pc ls (.int i :: .ref a :: rest)) rfl (rest := rest) rfl (by rw [hb]; exact hdg) t
  simp only [arrV_size] at h1
  exact h1 st
theorem vx_iastZ {D : va_G} {cl : List vw_C} {ws : va_W} {tys : List (ClassId × FieldType)} {a : Nat} (hexec : p.tables.exec = Jvm.exec) (hb : c.code = cc) (hK : va_K D cl tys s) (hP : va_P D cl ws H) (q0 t0 : Nat) {cA : ClassId} {n : Nat} {f : Nat → Int32} (ha : ws[q0]? = some (a, .inl (cA, n, .inl f))) (ht : tys[t0]? = some (cA, .int)) {i : Int32} {x : Int32} (hout : ¬ vp_in i n) (hdg : decode cc pc = .ok (.iastore, 1))
    (k : ∀ tx : String, tx = (toString "Index " ++ toString i ++ toString " out of bounds for length " ++ toString n : String) → vx_Note p l e R s m args below meth c H locs cells slots Q (F0 m pc ls rest) "java/lang/ArrayIndexOutOfBoundsException" tx) : W p l e R s m args below meth c H locs cells slots Q (F0 m pc ls (.int x :: .int i :: .ref a :: rest)) := by
  intro T hT X
  obtain ⟨t, st, q⟩ := k _ rfl T hT X
  refine ⟨t, ?_, q⟩
  have h1 := X.iastoreOut hexec (by rw [hT]; exact hP q0 _ ha) ((hK.2 t0 _ ht).1 n (fun j => .int (f j))) (j := i) (by show (i < 0 ∨ (arrV _ _ _).slots.size ≤ _); rw [arrV_size]; exact Classical.byContradiction hout) (g := F0 m pc ls (.int x :: .int i :: .ref a :: rest)) rfl (rest := rest) rfl (by rw [hb]; exact hdg) t
  simp only [arrV_size] at h1
  exact h1 st
theorem vx_baldZ {D : va_G} {cl : List vw_C} {ws : va_W} {tys : List (ClassId × FieldType)} {a : Nat} (hexec : p.tables.exec = Jvm.exec) (hb : c.code = cc) (hK : va_K D cl tys s) (hP : va_P D cl ws H) (q0 t0 : Nat) {cA : ClassId} {n : Nat} {f : Nat → Int32} (ha : ws[q0]? = some (a, .inl (cA, n, .inl f))) (ht : tys[t0]? = some (cA, .byte)) {i : Int32} (hout : ¬ vp_in i n) (hdg : decode cc pc = .ok (.baload, 1))
    (k : ∀ tx : String, tx = (toString "Index " ++ toString i ++ toString " out of bounds for length " ++ toString n : String) → vx_Note p l e R s m args below meth c H locs cells slots Q (F0 m pc ls rest) "java/lang/ArrayIndexOutOfBoundsException" tx) : W p l e R s m args below meth c H locs cells slots Q (F0 m pc ls (.int i :: .ref a :: rest)) := by
  intro T hT X
  obtain ⟨t, st, q⟩ := k _ rfl T hT X
  refine ⟨t, ?_, q⟩
  have h1 := X.baloadOut hexec (by rw [hT]; exact hP q0 _ ha) ((hK.2 t0 _ ht).1 n (fun j => .int (f j))) (j := i) (by show (i < 0 ∨ (arrV _ _ _).slots.size ≤ _); rw [arrV_size]; exact Classical.byContradiction hout) (g := F0 m pc ls (.int i :: .ref a :: rest)) rfl (rest := rest) rfl (by rw [hb]; exact hdg) t
  simp only [arrV_size] at h1
  exact h1 st
theorem vx_bastZ {D : va_G} {cl : List vw_C} {ws : va_W} {tys : List (ClassId × FieldType)} {a : Nat} (hexec : p.tables.exec = Jvm.exec) (hb : c.code = cc) (hK : va_K D cl tys s) (hP : va_P D cl ws H) (q0 t0 : Nat) {cA : ClassId} {n : Nat} {f : Nat → Int32} (ha : ws[q0]? = some (a, .inl (cA, n, .inl f))) (ht : tys[t0]? = some (cA, .byte)) {i : Int32} {x : Int32} (hout : ¬ vp_in i n) (hdg : decode cc pc = .ok (.bastore, 1))
    (k : ∀ tx : String, tx = (toString "Index " ++ toString i ++ toString " out of bounds for length " ++ toString n : String) → vx_Note p l e R s m args below meth c H locs cells slots Q (F0 m pc ls rest) "java/lang/ArrayIndexOutOfBoundsException" tx) : W p l e R s m args below meth c H locs cells slots Q (F0 m pc ls (.int x :: .int i :: .ref a :: rest)) := by
  intro T hT X
  obtain ⟨t, st, q⟩ := k _ rfl T hT X
  refine ⟨t, ?_, q⟩
  have h1 := X.bastoreOut hexec (by rw [hT]; exact hP q0 _ ha) ((hK.2 t0 _ ht).1 n (fun j => .int (f j))) (j := i) (by show (i < 0 ∨ (arrV _ _ _).slots.size ≤ _); rw [arrV_size]; exact Classical.byContradiction hout) (g := F0 m pc ls (.int x :: .int i :: .ref a :: rest)) rfl (rest := rest) rfl (by rw [hb]; exact hdg) t
  simp only [arrV_size] at h1
  exact h1 st
theorem vx_zaldZ {D : va_G} {cl : List vw_C} {ws : va_W} {tys : List (ClassId × FieldType)} {a : Nat} (hexec : p.tables.exec = Jvm.exec) (hb : c.code = cc) (hK : va_K D cl tys s) (hP : va_P D cl ws H) (q0 t0 : Nat) {cA : ClassId} {n : Nat} {f : Nat → Int32} (ha : ws[q0]? = some (a, .inl (cA, n, .inl f))) (ht : tys[t0]? = some (cA, .boolean)) {i : Int32} (hout : ¬ vp_in i n) (hdg : decode cc pc = .ok (.baload, 1))
    (k : ∀ tx : String, tx = (toString "Index " ++ toString i ++ toString " out of bounds for length " ++ toString n : String) → vx_Note p l e R s m args below meth c H locs cells slots Q (F0 m pc ls rest) "java/lang/ArrayIndexOutOfBoundsException" tx) : W p l e R s m args below meth c H locs cells slots Q (F0 m pc ls (.int i :: .ref a :: rest)) := by
  intro T hT X
  obtain ⟨t, st, q⟩ := k _ rfl T hT X
  refine ⟨t, ?_, q⟩
  have h1 := X.baloadOut hexec (by rw [hT]; exact hP q0 _ ha) ((hK.2 t0 _ ht).1 n (fun j => .int (f j))) (j := i) (by show (i < 0 ∨ (arrV _ _ _).slots.size ≤ _); rw [arrV_size]; exact Classical.byContradiction hout) (g := F0 m pc ls (.int i :: .ref a :: rest)) rfl (rest := rest) rfl (by rw [hb]; exact hdg) t
  simp only [arrV_size] at h1
  exact h1 st
theorem vx_zastZ {D : va_G} {cl : List vw_C} {ws : va_W} {tys : List (ClassId × FieldType)} {a : Nat} (hexec : p.tables.exec = Jvm.exec) (hb : c.code = cc) (hK : va_K D cl tys s) (hP : va_P D cl ws H) (q0 t0 : Nat) {cA : ClassId} {n : Nat} {f : Nat → Int32} (ha : ws[q0]? = some (a, .inl (cA, n, .inl f))) (ht : tys[t0]? = some (cA, .boolean)) {i : Int32} {x : Int32} (hout : ¬ vp_in i n) (hdg : decode cc pc = .ok (.bastore, 1))
    (k : ∀ tx : String, tx = (toString "Index " ++ toString i ++ toString " out of bounds for length " ++ toString n : String) → vx_Note p l e R s m args below meth c H locs cells slots Q (F0 m pc ls rest) "java/lang/ArrayIndexOutOfBoundsException" tx) : W p l e R s m args below meth c H locs cells slots Q (F0 m pc ls (.int x :: .int i :: .ref a :: rest)) := by
  intro T hT X
  obtain ⟨t, st, q⟩ := k _ rfl T hT X
  refine ⟨t, ?_, q⟩
  have h1 := X.bastoreOut hexec (by rw [hT]; exact hP q0 _ ha) ((hK.2 t0 _ ht).1 n (fun j => .int (f j))) (j := i) (by show (i < 0 ∨ (arrV _ _ _).slots.size ≤ _); rw [arrV_size]; exact Classical.byContradiction hout) (g := F0 m pc ls (.int x :: .int i :: .ref a :: rest)) rfl (rest := rest) rfl (by rw [hb]; exact hdg) t
  simp only [arrV_size] at h1
  exact h1 st
theorem vx_caldZ {D : va_G} {cl : List vw_C} {ws : va_W} {tys : List (ClassId × FieldType)} {a : Nat} (hexec : p.tables.exec = Jvm.exec) (hb : c.code = cc) (hK : va_K D cl tys s) (hP : va_P D cl ws H) (q0 t0 : Nat) {cA : ClassId} {n : Nat} {f : Nat → Int32} (ha : ws[q0]? = some (a, .inl (cA, n, .inl f))) (ht : tys[t0]? = some (cA, .char)) {i : Int32} (hout : ¬ vp_in i n) (hdg : decode cc pc = .ok (.caload, 1))
    (k : ∀ tx : String, tx = (toString "Index " ++ toString i ++ toString " out of bounds for length " ++ toString n : String) → vx_Note p l e R s m args below meth c H locs cells slots Q (F0 m pc ls rest) "java/lang/ArrayIndexOutOfBoundsException" tx) : W p l e R s m args below meth c H locs cells slots Q (F0 m pc ls (.int i :: .ref a :: rest)) := by
  intro T hT X
  obtain ⟨t, st, q⟩ := k _ rfl T hT X
  refine ⟨t, ?_, q⟩
  have h1 := X.caloadOut hexec (by rw [hT]; exact hP q0 _ ha) ((hK.2 t0 _ ht).1 n (fun j => .int (f j))) (j := i) (by show (i < 0 ∨ (arrV _ _ _).slots.size ≤ _); rw [arrV_size]; exact Classical.byContradiction hout) (g := F0 m pc ls (.int i :: .ref a :: rest)) rfl (rest := rest) rfl (by rw [hb]; exact hdg) t
  simp only [arrV_size] at h1
  exact h1 st
theorem vx_castZ {D : va_G} {cl : List vw_C} {ws : va_W} {tys : List (ClassId × FieldType)} {a : Nat} (hexec : p.tables.exec = Jvm.exec) (hb : c.code = cc) (hK : va_K D cl tys s) (hP : va_P D cl ws H) (q0 t0 : Nat) {cA : ClassId} {n : Nat} {f : Nat → Int32} (ha : ws[q0]? = some (a, .inl (cA, n, .inl f))) (ht : tys[t0]? = some (cA, .char)) {i : Int32} {x : Int32} (hout : ¬ vp_in i n) (hdg : decode cc pc = .ok (.castore, 1))
    (k : ∀ tx : String, tx = (toString "Index " ++ toString i ++ toString " out of bounds for length " ++ toString n : String) → vx_Note p l e R s m args below meth c H locs cells slots Q (F0 m pc ls rest) "java/lang/ArrayIndexOutOfBoundsException" tx) : W p l e R s m args below meth c H locs cells slots Q (F0 m pc ls (.int x :: .int i :: .ref a :: rest)) := by
  intro T hT X
  obtain ⟨t, st, q⟩ := k _ rfl T hT X
  refine ⟨t, ?_, q⟩
  have h1 := X.castoreOut hexec (by rw [hT]; exact hP q0 _ ha) ((hK.2 t0 _ ht).1 n (fun j => .int (f j))) (j := i) (by show (i < 0 ∨ (arrV _ _ _).slots.size ≤ _); rw [arrV_size]; exact Classical.byContradiction hout) (g := F0 m pc ls (.int x :: .int i :: .ref a :: rest)) rfl (rest := rest) rfl (by rw [hb]; exact hdg) t
  simp only [arrV_size] at h1
  exact h1 st
theorem vx_saldZ {D : va_G} {cl : List vw_C} {ws : va_W} {tys : List (ClassId × FieldType)} {a : Nat} (hexec : p.tables.exec = Jvm.exec) (hb : c.code = cc) (hK : va_K D cl tys s) (hP : va_P D cl ws H) (q0 t0 : Nat) {cA : ClassId} {n : Nat} {f : Nat → Int32} (ha : ws[q0]? = some (a, .inl (cA, n, .inl f))) (ht : tys[t0]? = some (cA, .short)) {i : Int32} (hout : ¬ vp_in i n) (hdg : decode cc pc = .ok (.saload, 1))
    (k : ∀ tx : String, tx = (toString "Index " ++ toString i ++ toString " out of bounds for length " ++ toString n : String) → vx_Note p l e R s m args below meth c H locs cells slots Q (F0 m pc ls rest) "java/lang/ArrayIndexOutOfBoundsException" tx) : W p l e R s m args below meth c H locs cells slots Q (F0 m pc ls (.int i :: .ref a :: rest)) := by
  intro T hT X
  obtain ⟨t, st, q⟩ := k _ rfl T hT X
  refine ⟨t, ?_, q⟩
  have h1 := X.saloadOut hexec (by rw [hT]; exact hP q0 _ ha) ((hK.2 t0 _ ht).1 n (fun j => .int (f j))) (j := i) (by show (i < 0 ∨ (arrV _ _ _).slots.size ≤ _); rw [arrV_size]; exact Classical.byContradiction hout) (g := F0 m pc ls (.int i :: .ref a :: rest)) rfl (rest := rest) rfl (by rw [hb]; exact hdg) t
  simp only [arrV_size] at h1
  exact h1 st
theorem vx_sastZ {D : va_G} {cl : List vw_C} {ws : va_W} {tys : List (ClassId × FieldType)} {a : Nat} (hexec : p.tables.exec = Jvm.exec) (hb : c.code = cc) (hK : va_K D cl tys s) (hP : va_P D cl ws H) (q0 t0 : Nat) {cA : ClassId} {n : Nat} {f : Nat → Int32} (ha : ws[q0]? = some (a, .inl (cA, n, .inl f))) (ht : tys[t0]? = some (cA, .short)) {i : Int32} {x : Int32} (hout : ¬ vp_in i n) (hdg : decode cc pc = .ok (.sastore, 1))
    (k : ∀ tx : String, tx = (toString "Index " ++ toString i ++ toString " out of bounds for length " ++ toString n : String) → vx_Note p l e R s m args below meth c H locs cells slots Q (F0 m pc ls rest) "java/lang/ArrayIndexOutOfBoundsException" tx) : W p l e R s m args below meth c H locs cells slots Q (F0 m pc ls (.int x :: .int i :: .ref a :: rest)) := by
  intro T hT X
  obtain ⟨t, st, q⟩ := k _ rfl T hT X
  refine ⟨t, ?_, q⟩
  have h1 := X.sastoreOut hexec (by rw [hT]; exact hP q0 _ ha) ((hK.2 t0 _ ht).1 n (fun j => .int (f j))) (j := i) (by show (i < 0 ∨ (arrV _ _ _).slots.size ≤ _); rw [arrV_size]; exact Classical.byContradiction hout) (g := F0 m pc ls (.int x :: .int i :: .ref a :: rest)) rfl (rest := rest) rfl (by rw [hb]; exact hdg) t
  simp only [arrV_size] at h1
  exact h1 st
theorem vx_laldZ {D : va_G} {cl : List vw_C} {ws : va_W} {tys : List (ClassId × FieldType)} {a : Nat} (hexec : p.tables.exec = Jvm.exec) (hb : c.code = cc) (hK : va_K D cl tys s) (hP : va_P D cl ws H) (q0 t0 : Nat) {cA : ClassId} {n : Nat} {f : Nat → Int64} (ha : ws[q0]? = some (a, .inl (cA, n, .inr (.inl f)))) (ht : tys[t0]? = some (cA, .long)) {i : Int32} (hout : ¬ vp_in i n) (hdg : decode cc pc = .ok (.laload, 1))
    (k : ∀ tx : String, tx = (toString "Index " ++ toString i ++ toString " out of bounds for length " ++ toString n : String) → vx_Note p l e R s m args below meth c H locs cells slots Q (F0 m pc ls rest) "java/lang/ArrayIndexOutOfBoundsException" tx) : W p l e R s m args below meth c H locs cells slots Q (F0 m pc ls (.int i :: .ref a :: rest)) := by
  intro T hT X
  obtain ⟨t, st, q⟩ := k _ rfl T hT X
  refine ⟨t, ?_, q⟩
  have h1 := X.laloadOut hexec (by rw [hT]; exact hP q0 _ ha) ((hK.2 t0 _ ht).1 n (fun j => .long (f j))) (j := i) (by show (i < 0 ∨ (arrV _ _ _).slots.size ≤ _); rw [arrV_size]; exact Classical.byContradiction hout) (g := F0 m pc ls (.int i :: .ref a :: rest)) rfl (rest := rest) rfl (by rw [hb]; exact hdg) t
  simp only [arrV_size] at h1
  exact h1 st
theorem vx_lastZ {D : va_G} {cl : List vw_C} {ws : va_W} {tys : List (ClassId × FieldType)} {a : Nat} (hexec : p.tables.exec = Jvm.exec) (hb : c.code = cc) (hK : va_K D cl tys s) (hP : va_P D cl ws H) (q0 t0 : Nat) {cA : ClassId} {n : Nat} {f : Nat → Int64} (ha : ws[q0]? = some (a, .inl (cA, n, .inr (.inl f)))) (ht : tys[t0]? = some (cA, .long)) {i : Int32} {x : Int64} (hout : ¬ vp_in i n) (hdg : decode cc pc = .ok (.lastore, 1))
    (k : ∀ tx : String, tx = (toString "Index " ++ toString i ++ toString " out of bounds for length " ++ toString n : String) → vx_Note p l e R s m args below meth c H locs cells slots Q (F0 m pc ls rest) "java/lang/ArrayIndexOutOfBoundsException" tx) : W p l e R s m args below meth c H locs cells slots Q (F0 m pc ls (.long x :: .int i :: .ref a :: rest)) := by
  intro T hT X
  obtain ⟨t, st, q⟩ := k _ rfl T hT X
  refine ⟨t, ?_, q⟩
  have h1 := X.lastoreOut hexec (by rw [hT]; exact hP q0 _ ha) ((hK.2 t0 _ ht).1 n (fun j => .long (f j))) (j := i) (by show (i < 0 ∨ (arrV _ _ _).slots.size ≤ _); rw [arrV_size]; exact Classical.byContradiction hout) (g := F0 m pc ls (.long x :: .int i :: .ref a :: rest)) rfl (rest := rest) rfl (by rw [hb]; exact hdg) t
  simp only [arrV_size] at h1
  exact h1 st
theorem vx_faldZ {D : va_G} {cl : List vw_C} {ws : va_W} {tys : List (ClassId × FieldType)} {a : Nat} (hexec : p.tables.exec = Jvm.exec) (hb : c.code = cc) (hK : va_K D cl tys s) (hP : va_P D cl ws H) (q0 t0 : Nat) {cA : ClassId} {n : Nat} {f : Nat → UInt32} (ha : ws[q0]? = some (a, .inl (cA, n, .inr (.inr (.inl f))))) (ht : tys[t0]? = some (cA, .float)) {i : Int32} (hout : ¬ vp_in i n) (hdg : decode cc pc = .ok (.faload, 1))
    (k : ∀ tx : String, tx = (toString "Index " ++ toString i ++ toString " out of bounds for length " ++ toString n : String) → vx_Note p l e R s m args below meth c H locs cells slots Q (F0 m pc ls rest) "java/lang/ArrayIndexOutOfBoundsException" tx) : W p l e R s m args below meth c H locs cells slots Q (F0 m pc ls (.int i :: .ref a :: rest)) := by
  intro T hT X
  obtain ⟨t, st, q⟩ := k _ rfl T hT X
  refine ⟨t, ?_, q⟩
  have h1 := X.faloadOut hexec (by rw [hT]; exact hP q0 _ ha) ((hK.2 t0 _ ht).1 n (fun j => .float (f j))) (j := i) (by show (i < 0 ∨ (arrV _ _ _).slots.size ≤ _); rw [arrV_size]; exact Classical.byContradiction hout) (g := F0 m pc ls (.int i :: .ref a :: rest)) rfl (rest := rest) rfl (by rw [hb]; exact hdg) t
  simp only [arrV_size] at h1
  exact h1 st
theorem vx_fastZ {D : va_G} {cl : List vw_C} {ws : va_W} {tys : List (ClassId × FieldType)} {a : Nat} (hexec : p.tables.exec = Jvm.exec) (hb : c.code = cc) (hK : va_K D cl tys s) (hP : va_P D cl ws H) (q0 t0 : Nat) {cA : ClassId} {n : Nat} {f : Nat → UInt32} (ha : ws[q0]? = some (a, .inl (cA, n, .inr (.inr (.inl f))))) (ht : tys[t0]? = some (cA, .float)) {i : Int32} {x : UInt32} (hout : ¬ vp_in i n) (hdg : decode cc pc = .ok (.fastore, 1))
    (k : ∀ tx : String, tx = (toString "Index " ++ toString i ++ toString " out of bounds for length " ++ toString n : String) → vx_Note p l e R s m args below meth c H locs cells slots Q (F0 m pc ls rest) "java/lang/ArrayIndexOutOfBoundsException" tx) : W p l e R s m args below meth c H locs cells slots Q (F0 m pc ls (.float x :: .int i :: .ref a :: rest)) := by
  intro T hT X
  obtain ⟨t, st, q⟩ := k _ rfl T hT X
  refine ⟨t, ?_, q⟩
  have h1 := X.fastoreOut hexec (by rw [hT]; exact hP q0 _ ha) ((hK.2 t0 _ ht).1 n (fun j => .float (f j))) (j := i) (by show (i < 0 ∨ (arrV _ _ _).slots.size ≤ _); rw [arrV_size]; exact Classical.byContradiction hout) (g := F0 m pc ls (.float x :: .int i :: .ref a :: rest)) rfl (rest := rest) rfl (by rw [hb]; exact hdg) t
  simp only [arrV_size] at h1
  exact h1 st
theorem vx_daldZ {D : va_G} {cl : List vw_C} {ws : va_W} {tys : List (ClassId × FieldType)} {a : Nat} (hexec : p.tables.exec = Jvm.exec) (hb : c.code = cc) (hK : va_K D cl tys s) (hP : va_P D cl ws H) (q0 t0 : Nat) {cA : ClassId} {n : Nat} {f : Nat → UInt64} (ha : ws[q0]? = some (a, .inl (cA, n, .inr (.inr (.inr (.inl f)))))) (ht : tys[t0]? = some (cA, .double)) {i : Int32} (hout : ¬ vp_in i n) (hdg : decode cc pc = .ok (.daload, 1))
    (k : ∀ tx : String, tx = (toString "Index " ++ toString i ++ toString " out of bounds for length " ++ toString n : String) → vx_Note p l e R s m args below meth c H locs cells slots Q (F0 m pc ls rest) "java/lang/ArrayIndexOutOfBoundsException" tx) : W p l e R s m args below meth c H locs cells slots Q (F0 m pc ls (.int i :: .ref a :: rest)) := by
  intro T hT X
  obtain ⟨t, st, q⟩ := k _ rfl T hT X
  refine ⟨t, ?_, q⟩
  have h1 := X.daloadOut hexec (by rw [hT]; exact hP q0 _ ha) ((hK.2 t0 _ ht).1 n (fun j => .double (f j))) (j := i) (by show (i < 0 ∨ (arrV _ _ _).slots.size ≤ _); rw [arrV_size]; exact Classical.byContradiction hout) (g := F0 m pc ls (.int i :: .ref a :: rest)) rfl (rest := rest) rfl (by rw [hb]; exact hdg) t
  simp only [arrV_size] at h1
  exact h1 st
theorem vx_dastZ {D : va_G} {cl : List vw_C} {ws : va_W} {tys : List (ClassId × FieldType)} {a : Nat} (hexec : p.tables.exec = Jvm.exec) (hb : c.code = cc) (hK : va_K D cl tys s) (hP : va_P D cl ws H) (q0 t0 : Nat) {cA : ClassId} {n : Nat} {f : Nat → UInt64} (ha : ws[q0]? = some (a, .inl (cA, n, .inr (.inr (.inr (.inl f)))))) (ht : tys[t0]? = some (cA, .double)) {i : Int32} {x : UInt64} (hout : ¬ vp_in i n) (hdg : decode cc pc = .ok (.dastore, 1))
    (k : ∀ tx : String, tx = (toString "Index " ++ toString i ++ toString " out of bounds for length " ++ toString n : String) → vx_Note p l e R s m args below meth c H locs cells slots Q (F0 m pc ls rest) "java/lang/ArrayIndexOutOfBoundsException" tx) : W p l e R s m args below meth c H locs cells slots Q (F0 m pc ls (.double x :: .int i :: .ref a :: rest)) := by
  intro T hT X
  obtain ⟨t, st, q⟩ := k _ rfl T hT X
  refine ⟨t, ?_, q⟩
  have h1 := X.dastoreOut hexec (by rw [hT]; exact hP q0 _ ha) ((hK.2 t0 _ ht).1 n (fun j => .double (f j))) (j := i) (by show (i < 0 ∨ (arrV _ _ _).slots.size ≤ _); rw [arrV_size]; exact Classical.byContradiction hout) (g := F0 m pc ls (.double x :: .int i :: .ref a :: rest)) rfl (rest := rest) rfl (by rw [hb]; exact hdg) t
  simp only [arrV_size] at h1
  exact h1 st
theorem vx_arraylengthN (hexec : p.tables.exec = Jvm.exec) (hb : c.code = cc) (hdg : decode cc pc = .ok (.arraylength, 1)) (k : vx_NoteN p l e R s m args below meth c H locs cells slots Q (F0 m pc ls rest)) : W p l e R s m args below meth c H locs cells slots Q (F0 m pc ls (.null :: rest)) := by
  intro T hT X
  obtain ⟨t, st, q⟩ := k T hT X
  exact ⟨t, X.arraylengthNull hexec (g := F0 m pc ls (.null :: rest)) rfl (rest := rest) rfl (by rw [hb]; exact hdg) t st, q⟩
theorem vx_ialoadN (hexec : p.tables.exec = Jvm.exec) (hb : c.code = cc) {i : Int32} (hdg : decode cc pc = .ok (.iaload, 1)) (k : vx_NoteN p l e R s m args below meth c H locs cells slots Q (F0 m pc ls rest)) : W p l e R s m args below meth c H locs cells slots Q (F0 m pc ls (.int i :: .null :: rest)) := by
  intro T hT X
  obtain ⟨t, st, q⟩ := k T hT X
  exact ⟨t, X.ialoadNull hexec (g := F0 m pc ls (.int i :: .null :: rest)) rfl (rest := rest) rfl (by rw [hb]; exact hdg) t st, q⟩
theorem vx_laloadN (hexec : p.tables.exec = Jvm.exec) (hb : c.code = cc) {i : Int32} (hdg : decode cc pc = .ok (.laload, 1)) (k : vx_NoteN p l e R s m args below meth c H locs cells slots Q (F0 m pc ls rest)) : W p l e R s m args below meth c H locs cells slots Q (F0 m pc ls (.int i :: .null :: rest)) := by
  intro T hT X
  obtain ⟨t, st, q⟩ := k T hT X
  exact ⟨t, X.laloadNull hexec (g := F0 m pc ls (.int i :: .null :: rest)) rfl (rest := rest) rfl (by rw [hb]; exact hdg) t st, q⟩
theorem vx_faloadN (hexec : p.tables.exec = Jvm.exec) (hb : c.code = cc) {i : Int32} (hdg : decode cc pc = .ok (.faload, 1)) (k : vx_NoteN p l e R s m args below meth c H locs cells slots Q (F0 m pc ls rest)) : W p l e R s m args below meth c H locs cells slots Q (F0 m pc ls (.int i :: .null :: rest)) := by
  intro T hT X
  obtain ⟨t, st, q⟩ := k T hT X
  exact ⟨t, X.faloadNull hexec (g := F0 m pc ls (.int i :: .null :: rest)) rfl (rest := rest) rfl (by rw [hb]; exact hdg) t st, q⟩
theorem vx_daloadN (hexec : p.tables.exec = Jvm.exec) (hb : c.code = cc) {i : Int32} (hdg : decode cc pc = .ok (.daload, 1)) (k : vx_NoteN p l e R s m args below meth c H locs cells slots Q (F0 m pc ls rest)) : W p l e R s m args below meth c H locs cells slots Q (F0 m pc ls (.int i :: .null :: rest)) := by
  intro T hT X
  obtain ⟨t, st, q⟩ := k T hT X
  exact ⟨t, X.daloadNull hexec (g := F0 m pc ls (.int i :: .null :: rest)) rfl (rest := rest) rfl (by rw [hb]; exact hdg) t st, q⟩
theorem vx_aaloadN (hexec : p.tables.exec = Jvm.exec) (hb : c.code = cc) {i : Int32} (hdg : decode cc pc = .ok (.aaload, 1)) (k : vx_NoteN p l e R s m args below meth c H locs cells slots Q (F0 m pc ls rest)) : W p l e R s m args below meth c H locs cells slots Q (F0 m pc ls (.int i :: .null :: rest)) := by
  intro T hT X
  obtain ⟨t, st, q⟩ := k T hT X
  exact ⟨t, X.aaloadNull hexec (g := F0 m pc ls (.int i :: .null :: rest)) rfl (rest := rest) rfl (by rw [hb]; exact hdg) t st, q⟩
theorem vx_baloadN (hexec : p.tables.exec = Jvm.exec) (hb : c.code = cc) {i : Int32} (hdg : decode cc pc = .ok (.baload, 1)) (k : vx_NoteN p l e R s m args below meth c H locs cells slots Q (F0 m pc ls rest)) : W p l e R s m args below meth c H locs cells slots Q (F0 m pc ls (.int i :: .null :: rest)) := by
  intro T hT X
  obtain ⟨t, st, q⟩ := k T hT X
  exact ⟨t, X.baloadNull hexec (g := F0 m pc ls (.int i :: .null :: rest)) rfl (rest := rest) rfl (by rw [hb]; exact hdg) t st, q⟩
theorem vx_caloadN (hexec : p.tables.exec = Jvm.exec) (hb : c.code = cc) {i : Int32} (hdg : decode cc pc = .ok (.caload, 1)) (k : vx_NoteN p l e R s m args below meth c H locs cells slots Q (F0 m pc ls rest)) : W p l e R s m args below meth c H locs cells slots Q (F0 m pc ls (.int i :: .null :: rest)) := by
  intro T hT X
  obtain ⟨t, st, q⟩ := k T hT X
  exact ⟨t, X.caloadNull hexec (g := F0 m pc ls (.int i :: .null :: rest)) rfl (rest := rest) rfl (by rw [hb]; exact hdg) t st, q⟩
theorem vx_saloadN (hexec : p.tables.exec = Jvm.exec) (hb : c.code = cc) {i : Int32} (hdg : decode cc pc = .ok (.saload, 1)) (k : vx_NoteN p l e R s m args below meth c H locs cells slots Q (F0 m pc ls rest)) : W p l e R s m args below meth c H locs cells slots Q (F0 m pc ls (.int i :: .null :: rest)) := by
  intro T hT X
  obtain ⟨t, st, q⟩ := k T hT X
  exact ⟨t, X.saloadNull hexec (g := F0 m pc ls (.int i :: .null :: rest)) rfl (rest := rest) rfl (by rw [hb]; exact hdg) t st, q⟩
theorem vx_iastoreN (hexec : p.tables.exec = Jvm.exec) (hb : c.code = cc) {x : Int32} {i : Int32} (hdg : decode cc pc = .ok (.iastore, 1)) (k : vx_NoteN p l e R s m args below meth c H locs cells slots Q (F0 m pc ls rest)) : W p l e R s m args below meth c H locs cells slots Q (F0 m pc ls (.int x :: .int i :: .null :: rest)) := by
  intro T hT X
  obtain ⟨t, st, q⟩ := k T hT X
  exact ⟨t, X.iastoreNull hexec (g := F0 m pc ls (.int x :: .int i :: .null :: rest)) rfl (rest := rest) rfl (by rw [hb]; exact hdg) t st, q⟩
theorem vx_lastoreN (hexec : p.tables.exec = Jvm.exec) (hb : c.code = cc) {x : Int64} {i : Int32} (hdg : decode cc pc = .ok (.lastore, 1)) (k : vx_NoteN p l e R s m args below meth c H locs cells slots Q (F0 m pc ls rest)) : W p l e R s m args below meth c H locs cells slots Q (F0 m pc ls (.long x :: .int i :: .null :: rest)) := by
  intro T hT X
  obtain ⟨t, st, q⟩ := k T hT X
  exact ⟨t, X.lastoreNull hexec (g := F0 m pc ls (.long x :: .int i :: .null :: rest)) rfl (rest := rest) rfl (by rw [hb]; exact hdg) t st, q⟩
theorem vx_fastoreN (hexec : p.tables.exec = Jvm.exec) (hb : c.code = cc) {x : UInt32} {i : Int32} (hdg : decode cc pc = .ok (.fastore, 1)) (k : vx_NoteN p l e R s m args below meth c H locs cells slots Q (F0 m pc ls rest)) : W p l e R s m args below meth c H locs cells slots Q (F0 m pc ls (.float x :: .int i :: .null :: rest)) := by
  intro T hT X
  obtain ⟨t, st, q⟩ := k T hT X
  exact ⟨t, X.fastoreNull hexec (g := F0 m pc ls (.float x :: .int i :: .null :: rest)) rfl (rest := rest) rfl (by rw [hb]; exact hdg) t st, q⟩
theorem vx_dastoreN (hexec : p.tables.exec = Jvm.exec) (hb : c.code = cc) {x : UInt64} {i : Int32} (hdg : decode cc pc = .ok (.dastore, 1)) (k : vx_NoteN p l e R s m args below meth c H locs cells slots Q (F0 m pc ls rest)) : W p l e R s m args below meth c H locs cells slots Q (F0 m pc ls (.double x :: .int i :: .null :: rest)) := by
  intro T hT X
  obtain ⟨t, st, q⟩ := k T hT X
  exact ⟨t, X.dastoreNull hexec (g := F0 m pc ls (.double x :: .int i :: .null :: rest)) rfl (rest := rest) rfl (by rw [hb]; exact hdg) t st, q⟩
theorem vx_bastoreN (hexec : p.tables.exec = Jvm.exec) (hb : c.code = cc) {x : Int32} {i : Int32} (hdg : decode cc pc = .ok (.bastore, 1)) (k : vx_NoteN p l e R s m args below meth c H locs cells slots Q (F0 m pc ls rest)) : W p l e R s m args below meth c H locs cells slots Q (F0 m pc ls (.int x :: .int i :: .null :: rest)) := by
  intro T hT X
  obtain ⟨t, st, q⟩ := k T hT X
  exact ⟨t, X.bastoreNull hexec (g := F0 m pc ls (.int x :: .int i :: .null :: rest)) rfl (rest := rest) rfl (by rw [hb]; exact hdg) t st, q⟩
theorem vx_castoreN (hexec : p.tables.exec = Jvm.exec) (hb : c.code = cc) {x : Int32} {i : Int32} (hdg : decode cc pc = .ok (.castore, 1)) (k : vx_NoteN p l e R s m args below meth c H locs cells slots Q (F0 m pc ls rest)) : W p l e R s m args below meth c H locs cells slots Q (F0 m pc ls (.int x :: .int i :: .null :: rest)) := by
  intro T hT X
  obtain ⟨t, st, q⟩ := k T hT X
  exact ⟨t, X.castoreNull hexec (g := F0 m pc ls (.int x :: .int i :: .null :: rest)) rfl (rest := rest) rfl (by rw [hb]; exact hdg) t st, q⟩
theorem vx_sastoreN (hexec : p.tables.exec = Jvm.exec) (hb : c.code = cc) {x : Int32} {i : Int32} (hdg : decode cc pc = .ok (.sastore, 1)) (k : vx_NoteN p l e R s m args below meth c H locs cells slots Q (F0 m pc ls rest)) : W p l e R s m args below meth c H locs cells slots Q (F0 m pc ls (.int x :: .int i :: .null :: rest)) := by
  intro T hT X
  obtain ⟨t, st, q⟩ := k T hT X
  exact ⟨t, X.sastoreNull hexec (g := F0 m pc ls (.int x :: .int i :: .null :: rest)) rfl (rest := rest) rfl (by rw [hb]; exact hdg) t st, q⟩
theorem vx_invokeN {own C : String} {index maxL : Nat} {y : MethodName} {bytes : ByteArray} {ret : Option FieldType} (hexec : p.tables.exec = Jvm.exec) (hb : c.code = cc) (hown : s.vm.findClass own = some m.cls) (hlink : (Cond.methodLink own index y).before args s = true) (hinst : (Cond.instanceMethod y).before args s = true) (hcode : (Cond.code y bytes maxL ret).before args s = true) (hsel : (Cond.selects C y y).before args s = true)
    (hx : y.cls ≠ "java/lang/invoke/MethodHandle" ∧ y.cls ≠ "java/lang/invoke/VarHandle") {As : List Value} (hlen : (parseMethodDescriptor y.desc).map (fun d => d.parameters.length) = some As.length) (hdg : decode cc pc = .ok (.invokevirtual index, 3))
    (k : vx_NoteN p l e R s m args below meth c H locs cells slots Q (F0 m pc ls rest)) {st0 : List Value} (hst : st0 = As.reverse ++ .null :: rest) : W p l e R s m args below meth c H locs cells slots Q (F0 m pc ls st0) := by
  intro T hT X
  obtain ⟨r0, r, hn, hrm, hstR, hsigR⟩ := va_Decl.of hinst hcode
  obtain ⟨c2, r2, m2, q1, q2, q3, q4, kP, hkP, hkPi⟩ := Cond.selects_spec hsel
  cases hn.symm.trans q3
  have hl9 : As.length = r.sig.parameters.length := by
    rw [hsigR] at hlen
    exact (Option.some.inj hlen).symm
  obtain ⟨vm', X1, st1⟩ := X.invokevirtualNull hexec hown hlink hn hrm hstR hkP hkPi hx (g := F0 m pc ls st0) rfl (argsL := As) (rest := rest) hl9 hst (by rw [hb]; exact hdg)
  obtain ⟨t, st, q⟩ := k (T.setVm vm') hT X1
  exact ⟨t, st1 t st, q⟩
theorem vx_newarrayZ {atype : ArrayType} (hexec : p.tables.exec = Jvm.exec) (hb : c.code = cc) {n : Int32} (h0 : n < 0) (hdg : decode cc pc = .ok (.newarray atype, 2)) (k : ∀ tx : String, tx = toString n → vx_Note p l e R s m args below meth c H locs cells slots Q (F0 m pc ls rest) "java/lang/NegativeArraySizeException" tx) : W p l e R s m args below meth c H locs cells slots Q (F0 m pc ls (.int n :: rest)) := by
  intro T hT X
  obtain ⟨t, st, q⟩ := k _ rfl T hT X
  exact ⟨t, X.newarrayNegative hexec (g := F0 m pc ls (.int n :: rest)) rfl h0 (rest := rest) rfl (by rw [hb]; exact hdg) t st, q⟩
end
end VXM
/-! ===== END ===== -/
/-! ===== BEGIN an exception as an object: made, kept, thrown later (no traces kept) ===== -/
section VXK
variable {p : Program} {l : Launch} {e : Env} {R : Room} {s : State} {m₀ : MethodId} {args : Array Value} {below : List Frame} {meth : Method} {c : Code} {W : State} {locs : List Loc} {cells slots : Nat}
set_option maxHeartbeats 1000000 in
theorem vx_ctorMadeS (X : Stand p l e R s m₀ args below meth c W locs cells slots) (hexec : p.tables.exec = Jvm.exec) (htr : e.platform.stackTraces = false) {own cls : String} {names : List String} {ic : Nat}
    (hown : s.vm.findClass own = some m₀.cls) (hcls : Bundle.fit cls = true) (hnames : ∀ n ∈ names, Bundle.fit n = true)
    (h : ∀ a ∈ Bundle.ownAtoms own ic cls names, a.before args s = true)
    (hlocs : ∀ x ∈ locs, ∀ cell, s.heap[x.base]? = some cell → cell.vm.isStatics = false)
    {a : Addr} {cX : ClassId} {kX : Class} (hfoundX : s.vm.findClass cls = some cX) (hkX : s.vm.classes[cX]? = some kX) (hcell : W.heap[a]? = some (freshCell cX kX)) (hnew : s.heap.size ≤ a)
    {msg : Value} (hmsg : msg.isRef = true)
    {g : JFrame} (hg : g.method = m₀) (hsize : g.locals.size = c.maxLocals) {rest : List Value} (hstack : g.stack = msg :: .ref a :: .ref a :: rest)
    (hd6 : decode c.code g.pc = .ok (.invokespecial ic, 3))
    (hRframes : names.length + 3 < R.frames) (hRlocals : 2 * g.monitorRoom + ((Value.ref a :: rest).map fun v => v.category).sum + (13 * (names.length + 1) + 42) ≤ R.locals) :
    ∃ (V : State) (ce : Cell) (L : List Loc), Stand p l e R s m₀ args below meth c (V.setCell a ce) (locs ++ L) cells slots ∧ (∀ y ∈ L, y.base = a) ∧ a < V.heap.size ∧ ce.cls = cX ∧ ce.vm = .none ∧
      ∀ target, Steps p.tables e below ((V.setCell a ce).setTop { g with stack := .ref a :: rest, pc := g.pc + 3 }) target → Steps p.tables e below (W.setTop g) target := by
  have howns : e.platform.frameOwnsMonitors = true := by rw [X.admits.platform]
  have hfin : e.platform.finalization = false := by rw [X.admits.platform]
  have hpl : e.platform.magicAccessors = ({} : Platform).magicAccessors := by rw [X.admits.platform]
  have a' : ∀ x, x ∈ Bundle.ownAtoms own ic cls names → x.holds args s none s [] = true := fun x hx => h x hx
  obtain ⟨T, Z0, L, -, Y⟩ := ThrowableC.of_atoms (args := args) howns hfin hpl (fun x hx => h x (by simp [Bundle.ownAtoms, hx]))
  obtain ⟨Z, M, LZ, LM, hnZ⟩ := Init0T.ofS_atoms (args := args) hpl L Y (fun x hx => h x (by simp [Bundle.ownAtoms, hx]))
  obtain ⟨P1, Ps, hlen, L1, hL, hP1m, hlink1, hlink⟩ := Bundle.chainS (args := args) hpl hnZ names cls hcls hnames (fun x hx => h x (by simp [Bundle.ownAtoms, hx]))
  have hfound : s.vm.findClass cls = some P1.m.cls := findClass_of_methodNamed hP1m
  cases Option.some.inj (hfoundX.symm.trans hfound)
  obtain ⟨c1, kX', hc1, hk, hord, -, -, hn6⟩ := Cond.instantiable_spec (a' (.instantiable cls 6) (by simp [Bundle.ownAtoms]))
  cases Option.some.inj (hc1.symm.trans hfound)
  cases Option.some.inj (hkX.symm.trans hk)
  have hsel0 : selectMethod e.platform s.vm P1.m.cls T.fill0 = .method T.fill0 := by
    obtain ⟨c2, r2, m2, q1, q2, q3, q4, -⟩ := Cond.selects_spec (a' (.selects cls Bundle.tFill0 Bundle.tFill0) (by simp [Bundle.ownAtoms]))
    cases Option.some.inj (q1.symm.trans hfound)
    cases Option.some.inj (q2.symm.trans (State.methodFound?_of_named Y.fill0 (by decide)))
    cases Option.some.inj (q3.symm.trans Y.fill0)
    rw [Launch.admits_selectMethod X.admits]; exact q4
  have hselF : selectMethod e.platform s.vm P1.m.cls T.fill = .method T.fill := by
    obtain ⟨c2, r2, m2, q1, q2, q3, q4, -⟩ := Cond.selects_spec (a' (.selects cls Bundle.tFill Bundle.tFill) (by simp [Bundle.ownAtoms]))
    cases Option.some.inj (q1.symm.trans hfound)
    cases Option.some.inj (q2.symm.trans (State.methodFound?_of_named Y.fill (by decide)))
    cases Option.some.inj (q3.symm.trans Y.fill)
    rw [Launch.admits_selectMethod X.admits]; exact q4
  obtain ⟨cellS0, hcS0, hiss⟩ := Y.statics
  obtain ⟨u0, hu0⟩ := Cond.staticRefV Y.unassigned L.unassignedStatic L.statics hcS0 hiss (a' (.isRef (.static Bundle.tN "UNASSIGNED_STACK" Bundle.steD)) (by simp [Bundle.ownAtoms]))
  obtain ⟨sen, hsen⟩ := Cond.staticRefV Y.sentinel L.sentinelStatic L.statics hcS0 hiss (a' (.isRef (.static Bundle.tN "SUPPRESSED_SENTINEL" Bundle.listD)) (by simp [Bundle.ownAtoms]))
  obtain ⟨ci198, i198, fB, hk198, hg198, ha198, hsB, -, hnB, htB, hffB⟩ := Cond.ownField (t := .object "java/lang/Object") Y.found L.cls (by decide +kernel) (a' (.fieldLink Bundle.tN 198 Bundle.tN "backtrace" "Ljava/lang/Object;") (by simp [Bundle.ownAtoms])) (a' (.lays Bundle.tN Bundle.tN "backtrace" "Ljava/lang/Object;") (by simp [Bundle.ownAtoms])) e.platform hpl
  obtain ⟨cellS, hcS', heS, -, hkeep⟩ := X.same.2.2.2.2.2 T.aS cellS0 hcS0
  have hcellS : W.heap[T.aS]? = some cellS := hcS'
  have hout' : ∀ i, (⟨T.aS, i⟩ : Loc) ∉ locs := fun i hmem => by
    have := hlocs _ hmem cellS0 hcS0
    rw [hiss] at this; cases this
  have hknownS : cellS.vm ≠ .unknown := by
    rw [heS]; intro hu
    rw [show cellS0.vm = .unknown from hu] at hiss
    cases hiss
  have hneS : T.aS ≠ a := Nat.ne_of_lt (Nat.lt_of_lt_of_le (Array.getElem?_eq_some_iff.mp hcS0).1 hnew)
  obtain ⟨iM, hffM⟩ := Y.msg
  obtain ⟨tyC, dC, hdC, hdnC⟩ := Cond.laysAt hfound hk Y.cause (a' (.lays cls Bundle.tN "cause" "Ljava/lang/Throwable;") (by simp [Bundle.ownAtoms]))
  obtain ⟨tyS, dS, hdS, hdnS⟩ := Cond.laysAt hfound hk Y.stack (a' (.lays cls Bundle.tN "stackTrace" Bundle.steD) (by simp [Bundle.ownAtoms]))
  obtain ⟨tyP, dP, hdP, hdnP⟩ := Cond.laysAt hfound hk Y.supp (a' (.lays cls Bundle.tN "suppressedExceptions" Bundle.listD) (by simp [Bundle.ownAtoms]))
  obtain ⟨tyM, dM, hdM, hdnM⟩ := Cond.laysAt hfound hk hffM (a' (.lays cls Bundle.tN "detailMessage" "Ljava/lang/String;") (by simp [Bundle.ownAtoms]))
  obtain ⟨tyB, dB, hdB, hdnB⟩ := Cond.laysAt hfound hk hffB (a' (.lays cls Bundle.tN "backtrace" "Ljava/lang/Object;") (by simp [Bundle.ownAtoms]))
  have bC := Cond.laysApart hdB hdC hdnB hdnC (by rw [hnB, Y.causeName]; decide)
  have bS := Cond.laysApart hdB hdS hdnB hdnS (by rw [hnB, Y.stackName]; decide)
  have bP := Cond.laysApart hdB hdP hdnB hdnP (by rw [hnB, Y.suppName]; decide)
  have hskip : SkipFacts T e.platform s (fun u => u) u0 ((preparedCellV T.toThrowableT (freshCell P1.m.cls kX) a u0 sen).withEntry W.cur) :=
    ⟨{ ci198 := ci198, i198 := i198, fBack := fB }, ⟨hk198, hg198, ha198, hsB⟩, by
      have := fresh_default (c := P1.m.cls) tyB
      rw [htB] at this
      simpa [preparedCellV, Cell.setSlot, Cell.withEntry, Array.getElem?_setIfInBounds, bC, bS, bP, bC.symm, bS.symm, bP.symm, defaultValue] using this, fun _ _ => rfl⟩
  obtain ⟨tm, methC, cdC, kC, vm₁, hnC, -, -, -, -, -, -, -, hW₁, st1⟩ := Steps.initColdS (tb := p.tables) (e := e) (below := below) (s := s) (U := W) X.here hexec X.warmed hpl hown (t := Bundle.initS cls) rfl rfl (Bundle.fit_spec hcls).2
    (a' (.methodLink own ic (Bundle.initS cls)) (by simp [Bundle.ownAtoms])) (h (.instanceMethod (Bundle.initS cls)) (by cases names <;> simp [Bundle.ownAtoms, Bundle.chainSAtoms, Bundle.passSAtoms])) (bytes := Bundle.six) (maxL := 2) (h (.code (Bundle.initS cls) Bundle.six 2 none) (by cases names <;> simp [Bundle.ownAtoms, Bundle.chainSAtoms, Bundle.passSAtoms]))
    (f := g) hg (a := a) (msg := msg) (rest := .ref a :: rest) hstack hd6
  cases Option.some.inj (hnC.symm.trans hP1m)
  have X₁ := X.noted hW₁
  obtain ⟨vm₂, X₂, st2⟩ := X₁.ctorMessageOffV hexec (g := { g with stack := .ref a :: rest }) hg hsize T L Z LZ M LM (P1 :: Ps)
    (fun P hP => by rcases List.mem_cons.mp hP with rfl | hP; exact L1; exact hL P hP) ⟨hlink1, hlink⟩ (u0 := u0) (sen := sen) (self := a) hmsg (cell := freshCell P1.m.cls kX) (cellS := cellS)
    hcell (fun _ => by simp) (by simp) rfl rfl hsel0 hselF hcellS hneS hknownS (by rw [hkeep _ (hout' _)]; exact hu0) (by rw [hkeep _ (hout' _)]; exact hsen)
    (Takes.of_laid hk hord tyC (by rw [Y.causeType]; rfl)) (Takes.of_laid hk hord tyS (by rw [Y.stackType]; exact fits_refV_array _ u0)) (Takes.of_laid hk hord tyP (by rw [Y.suppType]; exact fits_refV_object _ sen))
    (Takes.of_laid hk hord tyM (by rw [Y.msgType]; exact fits_refV_object _ ⟨msg, hmsg⟩)) Y.objLocals hskip htr [] hd6
    (by simp only [List.length_cons, hlen]; omega) (by simp only [List.length_cons, hlen]; exact hRlocals)
  have hlt : a < ((W.setVm vm₁).setVm vm₂).heap.size := (Array.getElem?_eq_some_iff.mp hcell).1
  refine ⟨(W.setVm vm₁).setVm vm₂, _, _, X₂, fun y hy => ?_, hlt, rfl, rfl, fun target hwalk => st1 _ (fun acts => ?_)⟩
  · simp only [List.mem_cons, List.not_mem_nil, or_false] at hy
    rcases hy with rfl | rfl | rfl | rfl | rfl <;> rfl
  · rw [doInvoke_state]
    exact st2 _ hwalk
set_option maxHeartbeats 1000000 in
theorem vx_ctorMade0 (X : Stand p l e R s m₀ args below meth c W locs cells slots) (hexec : p.tables.exec = Jvm.exec) (htr : e.platform.stackTraces = false) {own cls : String} {names : List String} {ic : Nat}
    (hown : s.vm.findClass own = some m₀.cls) (hcls : Bundle.fit cls = true) (hnames : ∀ n ∈ names, Bundle.fit n = true)
    (h : ∀ a ∈ Bundle.ownAtoms0 own ic cls names, a.before args s = true)
    (hlocs : ∀ x ∈ locs, ∀ cell, s.heap[x.base]? = some cell → cell.vm.isStatics = false)
    {a : Addr} {cX : ClassId} {kX : Class} (hfoundX : s.vm.findClass cls = some cX) (hkX : s.vm.classes[cX]? = some kX) (hcell : W.heap[a]? = some (freshCell cX kX)) (hnew : s.heap.size ≤ a)
    {g : JFrame} (hg : g.method = m₀) (hsize : g.locals.size = c.maxLocals) {rest : List Value} (hstack : g.stack = .ref a :: .ref a :: rest)
    (hd6 : decode c.code g.pc = .ok (.invokespecial ic, 3))
    (hRframes : names.length + 3 < R.frames) (hRlocals : 2 * g.monitorRoom + ((Value.ref a :: rest).map fun v => v.category).sum + (13 * (names.length + 1) + 41) ≤ R.locals) :
    ∃ (V : State) (ce : Cell) (L : List Loc), Stand p l e R s m₀ args below meth c (V.setCell a ce) (locs ++ L) cells slots ∧ (∀ y ∈ L, y.base = a) ∧ a < V.heap.size ∧ ce.cls = cX ∧ ce.vm = .none ∧
      ∀ target, Steps p.tables e below ((V.setCell a ce).setTop { g with stack := .ref a :: rest, pc := g.pc + 3 }) target → Steps p.tables e below (W.setTop g) target := by
  have howns : e.platform.frameOwnsMonitors = true := by rw [X.admits.platform]
  have hfin : e.platform.finalization = false := by rw [X.admits.platform]
  have hpl : e.platform.magicAccessors = ({} : Platform).magicAccessors := by rw [X.admits.platform]
  have a' : ∀ x, x ∈ Bundle.ownAtoms0 own ic cls names → x.holds args s none s [] = true := fun x hx => h x hx
  obtain ⟨T, Z, L, LZ, Y⟩ := ThrowableC.of_atoms (args := args) howns hfin hpl (fun x hx => h x (by simp [Bundle.ownAtoms0, hx]))
  obtain ⟨P1, Ps, hlen, L1, hL, hP1m, hlink1, hlink⟩ := Bundle.chain0 (args := args) hpl Y.init0 names cls hcls hnames (fun x hx => h x (by simp [Bundle.ownAtoms0, hx]))
  have hfound : s.vm.findClass cls = some P1.m.cls := findClass_of_methodNamed hP1m
  cases Option.some.inj (hfoundX.symm.trans hfound)
  obtain ⟨c1, kX', hc1, hk, hord, -, -, hn6⟩ := Cond.instantiable_spec (a' (.instantiable cls 6) (by simp [Bundle.ownAtoms0]))
  cases Option.some.inj (hc1.symm.trans hfound)
  cases Option.some.inj (hkX.symm.trans hk)
  have hsel0 : selectMethod e.platform s.vm P1.m.cls T.fill0 = .method T.fill0 := by
    obtain ⟨c2, r2, m2, q1, q2, q3, q4, -⟩ := Cond.selects_spec (a' (.selects cls Bundle.tFill0 Bundle.tFill0) (by simp [Bundle.ownAtoms0]))
    cases Option.some.inj (q1.symm.trans hfound)
    cases Option.some.inj (q2.symm.trans (State.methodFound?_of_named Y.fill0 (by decide)))
    cases Option.some.inj (q3.symm.trans Y.fill0)
    rw [Launch.admits_selectMethod X.admits]; exact q4
  have hselF : selectMethod e.platform s.vm P1.m.cls T.fill = .method T.fill := by
    obtain ⟨c2, r2, m2, q1, q2, q3, q4, -⟩ := Cond.selects_spec (a' (.selects cls Bundle.tFill Bundle.tFill) (by simp [Bundle.ownAtoms0]))
    cases Option.some.inj (q1.symm.trans hfound)
    cases Option.some.inj (q2.symm.trans (State.methodFound?_of_named Y.fill (by decide)))
    cases Option.some.inj (q3.symm.trans Y.fill)
    rw [Launch.admits_selectMethod X.admits]; exact q4
  obtain ⟨cellS0, hcS0, hiss⟩ := Y.statics
  obtain ⟨u0, hu0⟩ := Cond.staticRefV Y.unassigned L.unassignedStatic L.statics hcS0 hiss (a' (.isRef (.static Bundle.tN "UNASSIGNED_STACK" Bundle.steD)) (by simp [Bundle.ownAtoms0]))
  obtain ⟨sen, hsen⟩ := Cond.staticRefV Y.sentinel L.sentinelStatic L.statics hcS0 hiss (a' (.isRef (.static Bundle.tN "SUPPRESSED_SENTINEL" Bundle.listD)) (by simp [Bundle.ownAtoms0]))
  obtain ⟨ci198, i198, fB, hk198, hg198, ha198, hsB, -, hnB, htB, hffB⟩ := Cond.ownField (t := .object "java/lang/Object") Y.found L.cls (by decide +kernel) (a' (.fieldLink Bundle.tN 198 Bundle.tN "backtrace" "Ljava/lang/Object;") (by simp [Bundle.ownAtoms0])) (a' (.lays Bundle.tN Bundle.tN "backtrace" "Ljava/lang/Object;") (by simp [Bundle.ownAtoms0])) e.platform hpl
  obtain ⟨cellS, hcS', heS, -, hkeep⟩ := X.same.2.2.2.2.2 T.aS cellS0 hcS0
  have hcellS : W.heap[T.aS]? = some cellS := hcS'
  have hout' : ∀ i, (⟨T.aS, i⟩ : Loc) ∉ locs := fun i hmem => by
    have := hlocs _ hmem cellS0 hcS0
    rw [hiss] at this; cases this
  have hknownS : cellS.vm ≠ .unknown := by
    rw [heS]; intro hu
    rw [show cellS0.vm = .unknown from hu] at hiss
    cases hiss
  have hneS : T.aS ≠ a := Nat.ne_of_lt (Nat.lt_of_lt_of_le (Array.getElem?_eq_some_iff.mp hcS0).1 hnew)
  obtain ⟨iM, hffM⟩ := Y.msg
  obtain ⟨tyC, dC, hdC, hdnC⟩ := Cond.laysAt hfound hk Y.cause (a' (.lays cls Bundle.tN "cause" "Ljava/lang/Throwable;") (by simp [Bundle.ownAtoms0]))
  obtain ⟨tyS, dS, hdS, hdnS⟩ := Cond.laysAt hfound hk Y.stack (a' (.lays cls Bundle.tN "stackTrace" Bundle.steD) (by simp [Bundle.ownAtoms0]))
  obtain ⟨tyP, dP, hdP, hdnP⟩ := Cond.laysAt hfound hk Y.supp (a' (.lays cls Bundle.tN "suppressedExceptions" Bundle.listD) (by simp [Bundle.ownAtoms0]))
  obtain ⟨tyM, dM, hdM, hdnM⟩ := Cond.laysAt hfound hk hffM (a' (.lays cls Bundle.tN "detailMessage" "Ljava/lang/String;") (by simp [Bundle.ownAtoms0]))
  obtain ⟨tyB, dB, hdB, hdnB⟩ := Cond.laysAt hfound hk hffB (a' (.lays cls Bundle.tN "backtrace" "Ljava/lang/Object;") (by simp [Bundle.ownAtoms0]))
  have bC := Cond.laysApart hdB hdC hdnB hdnC (by rw [hnB, Y.causeName]; decide)
  have bS := Cond.laysApart hdB hdS hdnB hdnS (by rw [hnB, Y.stackName]; decide)
  have bP := Cond.laysApart hdB hdP hdnB hdnP (by rw [hnB, Y.suppName]; decide)
  have hskip : SkipFacts T e.platform s (fun u => u) u0 ((preparedCellV T.toThrowableT (freshCell P1.m.cls kX) a u0 sen).withEntry W.cur) :=
    ⟨{ ci198 := ci198, i198 := i198, fBack := fB }, ⟨hk198, hg198, ha198, hsB⟩, by
      have := fresh_default (c := P1.m.cls) tyB
      rw [htB] at this
      simpa [preparedCellV, Cell.setSlot, Cell.withEntry, Array.getElem?_setIfInBounds, bC, bS, bP, bC.symm, bS.symm, bP.symm, defaultValue] using this, fun _ _ => rfl⟩
  obtain ⟨tm, methC, cdC, kC, vm₁, hnC, -, -, -, -, -, -, -, hW₁, st1⟩ := Steps.initCold (tb := p.tables) (e := e) (below := below) (s := s) (U := W) X.here hexec X.warmed hpl hown (t := Bundle.init0 cls) rfl rfl (Bundle.fit_spec hcls).2
    (a' (.methodLink own ic (Bundle.init0 cls)) (by simp [Bundle.ownAtoms0])) (h (.instanceMethod (Bundle.init0 cls)) (by cases names <;> simp [Bundle.ownAtoms0, Bundle.chain0Atoms, Bundle.passAtoms])) (bytes := Bundle.five) (maxL := 1) (h (.code (Bundle.init0 cls) Bundle.five 1 none) (by cases names <;> simp [Bundle.ownAtoms0, Bundle.chain0Atoms, Bundle.passAtoms]))
    (f := g) hg (a := a) (rest := .ref a :: rest) hstack hd6
  cases Option.some.inj (hnC.symm.trans hP1m)
  have X₁ := X.noted hW₁
  obtain ⟨vm₂, X₂, st2⟩ := X₁.ctorPlainOffV hexec (g := { g with stack := .ref a :: rest }) hg hsize T L Z LZ (P1 :: Ps)
    (fun P hP => by rcases List.mem_cons.mp hP with rfl | hP; exact L1; exact hL P hP) ⟨hlink1, hlink⟩ (u0 := u0) (sen := sen) (self := a) (cell := freshCell P1.m.cls kX) (cellS := cellS)
    hcell (fun _ => by simp) (by simp) rfl rfl hsel0 hselF hcellS hneS hknownS (by rw [hkeep _ (hout' _)]; exact hu0) (by rw [hkeep _ (hout' _)]; exact hsen)
    (Takes.of_laid hk hord tyC (by rw [Y.causeType]; rfl)) (Takes.of_laid hk hord tyS (by rw [Y.stackType]; exact fits_refV_array _ u0)) (Takes.of_laid hk hord tyP (by rw [Y.suppType]; exact fits_refV_object _ sen)) Y.objLocals hskip htr [] hd6
    (by simp only [List.length_cons, hlen]; omega) (by simp only [List.length_cons, hlen]; exact hRlocals)
  have hlt : a < ((W.setVm vm₁).setVm vm₂).heap.size := (Array.getElem?_eq_some_iff.mp hcell).1
  refine ⟨(W.setVm vm₁).setVm vm₂, _, _, X₂, fun y hy => ?_, hlt, rfl, rfl, fun target hwalk => st1 _ (fun acts => ?_)⟩
  · simp only [List.mem_cons, List.not_mem_nil, or_false] at hy
    rcases hy with rfl | rfl | rfl | rfl <;> rfl
  · rw [doInvoke_state]
    exact st2 _ hwalk
end VXK
section VXK2
variable {p : Program} {l : Launch} {e : Env} {R : Room} {s : State} {m : MethodId} {args : Array Value} {below : List Frame} {meth : Method} {c : Code} {H : Heap} {locs : List Loc} {cells slots : Nat} {Q : State → Prop}
variable {ls : Array Slot} {rest : List Value} {D : va_G} {cl : List vw_C} {tys : List (ClassId × FieldType)} {ws : va_W}
/-- 'new E("text")' that isn't thrown at once: the object goes on the stack -/
theorem vx_makeS {cc : ByteArray} {pc : Nat} (hexec : p.tables.exec = Jvm.exec) (hb : c.code = cc) (hl : l.stackTraces = false) {own cls text : String} {names : List String} {ik is ic sa ci : Nat} {A : Nat → Prop} {T0 : u_T}
    (hown : s.vm.findClass own = some m.cls) (hcls : Bundle.fit cls = true) (hnames : ∀ n ∈ names, Bundle.fit n = true)
    (hk : (Cond.classLink own ik cls).before args s = true) (hini : (Cond.initialized cls).before args s = true) (hstr : vk_R own is text sa s) (hat : ∀ w ∈ vx_atS own ic cls names, w.before args s = true)
    (hgood : ∀ w ∈ Cond.classLink own ik cls :: Cond.initialized cls :: vx_atS own ic cls names, vx_ot w = true)
    (hU : vx_Zq Bundle.tN "UNASSIGNED_STACK" Bundle.steD A s s.heap) (hN : vx_Zq Bundle.tN "SUPPRESSED_SENTINEL" Bundle.listD A s s.heap) (hS : va_S A s.heap H locs) (hsize : ls.size = c.maxLocals)
    (d0 : decode cc pc = .ok (.new ik, 3)) (d3 : decode cc (pc + 3) = .ok (.dup, 1)) (d4 : decode cc (pc + 4) = .ok (.ldc is, 2)) (d6 : decode cc (pc + 6) = .ok (.invokespecial ic, 3))
    (hK : va_K D cl tys s) (hP : va_P D cl ws H) (hD : va_D A ws) (hA : ∀ q, s.heap.size ≤ q → A q) (hc : cl[ci]? = some (cls, T0, 0))
    (hRframes : names.length + 3 < R.frames) (hRlocals : (rest.map fun v => v.category).sum + (13 * (names.length + 1) + 43) ≤ R.locals) (hRcells : cells + 1 ≤ R.cells) (hRslots : slots + 6 ≤ R.slots)
    (kk : ∀ (q : Nat) (H1 : Heap), va_P D cl (ws ++ [(q, .inr (ci, []))]) H1 → va_D A (ws ++ [(q, .inr (ci, []))]) → va_S A s.heap H1 locs → W p l e R s m args below meth c H1 locs (cells + 1) (slots + 6) Q (F0 m (pc + 9) ls (.ref q :: rest))) :
    W p l e R s m args below meth c H locs cells slots Q (F0 m pc ls rest) := by
  intro T hT X
  subst hT
  have htr : e.platform.stackTraces = false := (show e.platform.stackTraces = l.stackTraces by rw [X.admits.platform]).trans hl
  have Y := vx_rebase X (R' := { frames := R.frames, locals := R.locals, cells := 1, slots := 6 }) (Nat.le_refl _) (Nat.le_refl _) hRcells hRslots
  obtain ⟨s', hA'⟩ : ∃ z, z = (T.setVm s.vm).setFrames (.invoking m args :: below) := ⟨_, rfl⟩
  rw [← hA'] at Y
  have hvm : s'.vm = s.vm := by rw [hA']; rfl
  have hhp : s'.heap = T.heap := by rw [hA']; rfl
  have hW0 : s.WarmedH s'.vm := by rw [hvm]; exact State.WarmedH.refl s
  have hat' : ∀ w ∈ vx_atS own ic cls names, w.before args s' = true := fun w hw => vx_ot_at hW0 hvm.symm (hgood w (List.mem_cons_of_mem _ (List.mem_cons_of_mem _ hw))) (hat w hw)
  have hk' : (Cond.classLink own ik cls).before args s' = true := vx_ot_at hW0 hvm.symm (hgood _ List.mem_cons_self) hk
  have hini' : (Cond.initialized cls).before args s' = true := vx_ot_at hW0 hvm.symm (hgood _ (List.mem_cons_of_mem _ List.mem_cons_self)) hini
  have hU' : vx_Zq Bundle.tN "UNASSIGNED_STACK" Bundle.steD A s' s'.heap := by rw [hhp]; exact vx_Zq.moved hW0.alike (hU.kept hS.2.1)
  have hN' : vx_Zq Bundle.tN "SUPPRESSED_SENTINEL" Bundle.listD A s' s'.heap := by rw [hhp]; exact vx_Zq.moved hW0.alike (hN.kept hS.2.1)
  have h : ∀ w ∈ Bundle.ownAtoms own ic cls names, w.before args s' = true := vx_own hat' (vx_isRefq hU'.1) (vx_isRefq hN'.1) hU'.2.word hN'.2.word
  have hown' : s'.vm.findClass own = some m.cls := by rw [hvm]; exact hown
  have hins : (Cond.instantiable cls 6).before args s' = true := h _ (by simp [Bundle.ownAtoms])
  obtain ⟨vm₁, cX, kX, hfX, hkX, -, -, X₁, st1⟩ := Y.newCold hexec (own := own) (C := cls) (index := ik) (n := 6) hown' hk' hins hini'
    (g := F0 m pc ls rest) rfl (by rw [hb]; exact d0) (Nat.le_refl _) (Nat.le_refl _)
  generalize hT1 : (T.setVm vm₁).pushCell { cls := cX, slots := kX.instanceTypes.map defaultValue, vm := .none } = T1 at X₁ st1
  have hcat : (Value.ref T.heap.size).category = 1 := rfl
  have hcellA : T1.heap[T.heap.size]? = some (freshCell cX kX) := by rw [← hT1]; exact State.heap_pushCell_size _ _
  have d3' : decode c.code (pc + 3) = .ok (.dup, 1) := by rw [hb]; exact d3
  have d4' : decode c.code (pc + 4) = .ok (.ldc is, 2) := by rw [hb]; exact d4
  have hstr' : vk_R own is text sa s' := vk_R.warm hW0 hstr
  obtain ⟨V, ce, L, Z, hL, hlt, hcl9, hvm9, st⟩ := vx_ctorMadeS X₁ hexec htr (own := own) (cls := cls) (names := names) (ic := ic) hown' hcls hnames h (fun x hx => nomatch hx) hfX hkX hcellA (by rw [hhp]; exact Nat.le_refl _) (msg := .ref sa) rfl
    (g := { method := m, pc := pc + 6, locals := ls, stack := .ref sa :: .ref T.heap.size :: .ref T.heap.size :: rest, locked := none }) rfl hsize (rest := rest) rfl
    (by rw [hb]; exact d6) hRframes (by simp only [List.map_cons, List.sum_cons, hcat]; omega)
  have Z0 := Stand.forget (locs := []) Z (fun y hy => by rw [hL y hy, hhp]; exact Nat.le_refl _)
  obtain ⟨f1, f2⟩ := vx_frame Z0.same
  rw [hhp] at f1 f2
  have hcid : ce.cls = D.1 ci := by
    rw [hcl9]
    have h1 := (hK.1 ci _ hc).2.1
    rw [hvm] at hfX
    exact Option.some.inj (hfX.symm.trans h1)
  have hh : (V.setCell T.heap.size ce).heap[T.heap.size]? = some ce := heapAt_setCell_self (s := V) ce hlt
  subst hA'
  have X5 := vx_back9 X Y Z0
  have X6 : Stand p l e R s m args below meth c (V.setCell T.heap.size ce) locs (cells + 1) (slots + 6) := { X5 with same := X5.same.mono (by omega) (by omega) }
  have hk9 : ∀ (k : Nat) (x : Nat × va_E), ws[k]? = some x → (V.setCell T.heap.size ce).heap[x.1]? = T.heap[x.1]? := fun k x hx => f2 x.1 ((hP k x hx).lt) (fun z hz => nomatch hz)
  obtain ⟨t, a1, b1⟩ := kk T.heap.size (V.setCell T.heap.size ce).heap ((hP.kept hk9).app (fun k x hx => by
      have hz : k < 1 := (List.getElem?_eq_some_iff.mp hx).1
      rw [show k = 0 by omega] at hx
      cases hx
      exact ⟨_, hc, ce, hh, hcid, hvm9, fun k hk => absurd hk (Nat.not_lt_zero k)⟩)) (hD.push hP rfl (hA _ hS.1)) ⟨Nat.le_trans hS.1 f1, fun q h1 h2 => (f2 q (Nat.lt_of_lt_of_le h1 hS.1) (fun z hz => nomatch hz)).trans (hS.2.1 q h1 h2), hS.2.2⟩ _ rfl X6
  refine ⟨t, st1 _ ?_, b1⟩
  show Steps p.tables e below (T1.setTop { method := m, pc := pc + 3, locals := ls, stack := .ref T.heap.size :: rest, locked := none }) _
  jvm_step X₁.here [X₁.here.top, hexec, d3', Value.category]
  exact X₁.ldcString hexec (own := own) (text := text) (index := is) (a := sa) hown' hstr'.1 hstr'.2
    (g := { method := m, pc := pc + 4, locals := ls, stack := .ref T.heap.size :: .ref T.heap.size :: rest, locked := none }) rfl d4' _ (st _ a1)
/-- 'new E()' that isn't thrown at once: the object goes on the stack -/
theorem vx_make0 {cc : ByteArray} {pc : Nat} (hexec : p.tables.exec = Jvm.exec) (hb : c.code = cc) (hl : l.stackTraces = false) {own cls : String} {names : List String} {ik ic ci : Nat} {A : Nat → Prop} {T0 : u_T}
    (hown : s.vm.findClass own = some m.cls) (hcls : Bundle.fit cls = true) (hnames : ∀ n ∈ names, Bundle.fit n = true)
    (hk : (Cond.classLink own ik cls).before args s = true) (hini : (Cond.initialized cls).before args s = true) (hat : ∀ w ∈ vx_at0 own ic cls names, w.before args s = true)
    (hgood : ∀ w ∈ Cond.classLink own ik cls :: Cond.initialized cls :: vx_at0 own ic cls names, vx_ot w = true)
    (hU : vx_Zq Bundle.tN "UNASSIGNED_STACK" Bundle.steD A s s.heap) (hN : vx_Zq Bundle.tN "SUPPRESSED_SENTINEL" Bundle.listD A s s.heap) (hS : va_S A s.heap H locs) (hsize : ls.size = c.maxLocals)
    (d0 : decode cc pc = .ok (.new ik, 3)) (d3 : decode cc (pc + 3) = .ok (.dup, 1)) (d4 : decode cc (pc + 4) = .ok (.invokespecial ic, 3))
    (hK : va_K D cl tys s) (hP : va_P D cl ws H) (hD : va_D A ws) (hA : ∀ q, s.heap.size ≤ q → A q) (hc : cl[ci]? = some (cls, T0, 0))
    (hRframes : names.length + 3 < R.frames) (hRlocals : (rest.map fun v => v.category).sum + (13 * (names.length + 1) + 42) ≤ R.locals) (hRcells : cells + 1 ≤ R.cells) (hRslots : slots + 6 ≤ R.slots)
    (kk : ∀ (q : Nat) (H1 : Heap), va_P D cl (ws ++ [(q, .inr (ci, []))]) H1 → va_D A (ws ++ [(q, .inr (ci, []))]) → va_S A s.heap H1 locs → W p l e R s m args below meth c H1 locs (cells + 1) (slots + 6) Q (F0 m (pc + 7) ls (.ref q :: rest))) :
    W p l e R s m args below meth c H locs cells slots Q (F0 m pc ls rest) := by
  intro T hT X
  subst hT
  have htr : e.platform.stackTraces = false := (show e.platform.stackTraces = l.stackTraces by rw [X.admits.platform]).trans hl
  have Y := vx_rebase X (R' := { frames := R.frames, locals := R.locals, cells := 1, slots := 6 }) (Nat.le_refl _) (Nat.le_refl _) hRcells hRslots
  obtain ⟨s', hA'⟩ : ∃ z, z = (T.setVm s.vm).setFrames (.invoking m args :: below) := ⟨_, rfl⟩
  rw [← hA'] at Y
  have hvm : s'.vm = s.vm := by rw [hA']; rfl
  have hhp : s'.heap = T.heap := by rw [hA']; rfl
  have hW0 : s.WarmedH s'.vm := by rw [hvm]; exact State.WarmedH.refl s
  have hat' : ∀ w ∈ vx_at0 own ic cls names, w.before args s' = true := fun w hw => vx_ot_at hW0 hvm.symm (hgood w (List.mem_cons_of_mem _ (List.mem_cons_of_mem _ hw))) (hat w hw)
  have hk' : (Cond.classLink own ik cls).before args s' = true := vx_ot_at hW0 hvm.symm (hgood _ List.mem_cons_self) hk
  have hini' : (Cond.initialized cls).before args s' = true := vx_ot_at hW0 hvm.symm (hgood _ (List.mem_cons_of_mem _ List.mem_cons_self)) hini
  have hU' : vx_Zq Bundle.tN "UNASSIGNED_STACK" Bundle.steD A s' s'.heap := by rw [hhp]; exact vx_Zq.moved hW0.alike (hU.kept hS.2.1)
  have hN' : vx_Zq Bundle.tN "SUPPRESSED_SENTINEL" Bundle.listD A s' s'.heap := by rw [hhp]; exact vx_Zq.moved hW0.alike (hN.kept hS.2.1)
  have h : ∀ w ∈ Bundle.ownAtoms0 own ic cls names, w.before args s' = true := vx_own hat' (vx_isRefq hU'.1) (vx_isRefq hN'.1) hU'.2.word hN'.2.word
  have hown' : s'.vm.findClass own = some m.cls := by rw [hvm]; exact hown
  have hins : (Cond.instantiable cls 6).before args s' = true := h _ (by simp [Bundle.ownAtoms0])
  obtain ⟨vm₁, cX, kX, hfX, hkX, -, -, X₁, st1⟩ := Y.newCold hexec (own := own) (C := cls) (index := ik) (n := 6) hown' hk' hins hini'
    (g := F0 m pc ls rest) rfl (by rw [hb]; exact d0) (Nat.le_refl _) (Nat.le_refl _)
  generalize hT1 : (T.setVm vm₁).pushCell { cls := cX, slots := kX.instanceTypes.map defaultValue, vm := .none } = T1 at X₁ st1
  have hcat : (Value.ref T.heap.size).category = 1 := rfl
  have hcellA : T1.heap[T.heap.size]? = some (freshCell cX kX) := by rw [← hT1]; exact State.heap_pushCell_size _ _
  have d3' : decode c.code (pc + 3) = .ok (.dup, 1) := by rw [hb]; exact d3
  obtain ⟨V, ce, L, Z, hL, hlt, hcl9, hvm9, st⟩ := vx_ctorMade0 X₁ hexec htr (own := own) (cls := cls) (names := names) (ic := ic) hown' hcls hnames h (fun x hx => nomatch hx) hfX hkX hcellA (by rw [hhp]; exact Nat.le_refl _)
    (g := { method := m, pc := pc + 4, locals := ls, stack := .ref T.heap.size :: .ref T.heap.size :: rest, locked := none }) rfl hsize (rest := rest) rfl
    (by rw [hb]; exact d4) hRframes (by simp only [List.map_cons, List.sum_cons, hcat]; omega)
  have Z0 := Stand.forget (locs := []) Z (fun y hy => by rw [hL y hy, hhp]; exact Nat.le_refl _)
  obtain ⟨f1, f2⟩ := vx_frame Z0.same
  rw [hhp] at f1 f2
  have hcid : ce.cls = D.1 ci := by
    rw [hcl9]
    have h1 := (hK.1 ci _ hc).2.1
    rw [hvm] at hfX
    exact Option.some.inj (hfX.symm.trans h1)
  have hh : (V.setCell T.heap.size ce).heap[T.heap.size]? = some ce := heapAt_setCell_self (s := V) ce hlt
  subst hA'
  have X5 := vx_back9 X Y Z0
  have X6 : Stand p l e R s m args below meth c (V.setCell T.heap.size ce) locs (cells + 1) (slots + 6) := { X5 with same := X5.same.mono (by omega) (by omega) }
  have hk9 : ∀ (k : Nat) (x : Nat × va_E), ws[k]? = some x → (V.setCell T.heap.size ce).heap[x.1]? = T.heap[x.1]? := fun k x hx => f2 x.1 ((hP k x hx).lt) (fun z hz => nomatch hz)
  obtain ⟨t, a1, b1⟩ := kk T.heap.size (V.setCell T.heap.size ce).heap ((hP.kept hk9).app (fun k x hx => by
      have hz : k < 1 := (List.getElem?_eq_some_iff.mp hx).1
      rw [show k = 0 by omega] at hx
      cases hx
      exact ⟨_, hc, ce, hh, hcid, hvm9, fun k hk => absurd hk (Nat.not_lt_zero k)⟩)) (hD.push hP rfl (hA _ hS.1)) ⟨Nat.le_trans hS.1 f1, fun q h1 h2 => (f2 q (Nat.lt_of_lt_of_le h1 hS.1) (fun z hz => nomatch hz)).trans (hS.2.1 q h1 h2), hS.2.2⟩ _ rfl X6
  refine ⟨t, st1 _ ?_, b1⟩
  show Steps p.tables e below (T1.setTop { method := m, pc := pc + 3, locals := ls, stack := .ref T.heap.size :: rest, locked := none }) _
  jvm_step X₁.here [X₁.here.top, hexec, d3', Value.category]
  exact st _ a1
/-- 'throw x' of an object that was made before -/
theorem vx_athrow {cc : ByteArray} {pc : Nat} (hexec : p.tables.exec = Jvm.exec) (hb : c.code = cc) {q : Addr} (hdg : decode cc pc = .ok (.athrow, 1)) (k : vx_W p l e R s m args below meth c H locs cells slots Q (F0 m pc ls rest) q) : W p l e R s m args below meth c H locs cells slots Q (F0 m pc ls (.ref q :: rest)) := by
  intro T hT X
  obtain ⟨t, st, hq⟩ := k T hT X
  refine ⟨t, ?_, hq⟩
  have hdg' : decode c.code pc = .ok (.athrow, 1) := by rw [hb]; exact hdg
  jvm_step X.here [X.here.top, hexec, hdg', athrow.wp_sem]
  exact st
end VXK2
/-! ===== END ===== -/
/-! ===== BEGIN a constructor that throws (launches without stack traces) ===== -/
section VXIA
variable {p : Program} {l : Launch} {e : Env} {R : Room} {s : State} {m : MethodId} {args : Array Value} {below : List Frame} {meth : Method} {c : Code} {T : State} {locs : List Loc} {cells slots : Nat}
theorem vx_callI (X : Stand p l e R s m args below meth c T locs cells slots) (hexec : p.tables.exec = Jvm.exec) {own : String} {index : Nat} {y : MethodName} {bytes : ByteArray} {maxL : Nat}
    (hown : s.vm.findClass own = some m.cls) (hy1 : y.name = "<init>") (hlink : (Cond.methodLink own index y).before args s = true) (hinst : (Cond.instanceMethod y).before args s = true)
    (hcode : (Cond.code y bytes maxL none).before args s = true) (hy : y.cls ≠ "java/lang/invoke/MethodHandle" ∧ y.cls ≠ "java/lang/invoke/VarHandle")
    {W9 : Nat} {Pre : Pt → Array Value → Prop} {Post : Pt → Array Value → Option Value → Pt → Prop} {PostX : Pt → Array Value → Addr → Pt → Prop} (hK : vx_Back l R p e below s args y 3 W9 Pre Post PostX)
    {g : JFrame} (hg : g.method = m) (hsize : g.locals.size = c.maxLocals) {a : Addr} {argsL rest : List Value} (hlen : ∀ sig, parseMethodDescriptor y.desc = some sig → argsL.length = sig.parameters.length)
    (hstack : g.stack = argsL.reverse ++ .ref a :: rest) (hW : 2 * g.monitorRoom + (rest.map fun v => v.category).sum ≤ W9) (hdg : decode c.code g.pc = .ok (.invokespecial index, 3))
    (hpre : ∀ vm₁, s.WarmedH vm₁ → Pre ⟨T.setVm vm₁, locs, cells, slots⟩ (Value.ref a :: argsL).toArray) :
    (∃ (v : Option Value) (vm₁ : Vm) (B : Pt), s.WarmedH vm₁ ∧ Stand p l e R s m args below meth c B.U B.locs B.cells B.slots ∧ Post ⟨T.setVm vm₁, locs, cells, slots⟩ (Value.ref a :: argsL).toArray v B ∧
      ∀ target, Steps p.tables e below (B.U.setTop { g with pc := g.pc + 3, stack := v.toList ++ rest }) target → Steps p.tables e below (T.setTop g) target) ∨
    (∃ (q : Addr) (vm₁ : Vm) (B : Pt), s.WarmedH vm₁ ∧ Stand p l e R s m args below meth c B.U B.locs B.cells B.slots ∧ PostX ⟨T.setVm vm₁, locs, cells, slots⟩ (Value.ref a :: argsL).toArray q B ∧
      Steps p.tables e below (T.setTop g) ((B.U.setTop { g with stack := rest }).pushFrame (.throwing q))) := by
  subst hg
  have hpl : e.platform.magicAccessors = ({} : Platform).magicAccessors := by rw [X.admits.platform]
  obtain ⟨mk, methM, cM, kP, vm₁, hnamed, hmethM, hcodeM, -, hlocalsM, -, hkP, -, hW₁, hstep₁⟩ := Steps.initColdArgs (e := e) X.here hexec X.warmed hpl hown hy1 hy hlink hinst hcode (f := g) rfl hlen hstack hdg
  have X₁ := X.noted hW₁
  rcases hK g.method meth c ⟨T.setVm vm₁, locs, cells, slots⟩ { g with stack := rest } (.invokespecial index) mk (Value.ref a :: argsL).toArray X₁ rfl hsize hdg hW (X₁.named hnamed) (hpre vm₁ X₁.warmed) with ⟨v, B, X', hpost, hsteps⟩ | ⟨q, B, X', hpost, hsteps⟩
  · exact Or.inl ⟨v, vm₁, B, X₁.warmed, X', hpost, fun target h => hstep₁ _ fun acts => by rw [doInvoke_state]; exact hsteps.trans h⟩
  · exact Or.inr ⟨q, vm₁, B, X₁.warmed, X', hpost, hstep₁ _ fun acts => by rw [doInvoke_state]; exact hsteps⟩
end VXIA
section VXIB
variable {p : Program} {l : Launch} {e : Env} {R : Room} {s : State} {m : MethodId} {args : Array Value} {below : List Frame} {meth : Method} {c : Code} {H : Heap} {locs : List Loc} {cells slots : Nat}
variable {y : MethodName} {bytes cc : ByteArray} {maxL nL mc ms n index : Nat} {ret : Option FieldType} {ws : List Cond} {rm : Room} {Pc : Array Value → State → Prop} {Qc : Array Value → State → Outcome → State → Prop} {XC : String → State → State → Prop} {free : Addr → Prop} {Ts : List Cond} {own C : String} {b : Addr} {As rest : List Value} {g : JFrame}
theorem vx_runI (S : CallFix p m c cc nL s args Ts own) (hM : vx_Met l y ws rm Pc Qc XC mc ms free) (cw : CallB R s args own index y bytes maxL none ws rm mc ms n ∧ y.name = "<init>" ∧ (Cond.instanceMethod y).before args s = true) (hp : PreS s H Pc (.ref b :: As))
    (hg : g.method = m) (hn : As.length = n) (hsize : g.locals.size = nL) (hstack : g.stack = As.reverse ++ .ref b :: rest) (hW : 2 * g.monitorRoom + (rest.map fun v => v.category).sum ≤ 8) (hdg : decode cc g.pc = .ok (.invokespecial index, 3)) (hf : cells + mc ≤ R.cells ∧ slots + ms ≤ R.slots) :
    vx_Run p l e R s m args below meth c H locs cells slots mc ms g rest (Qc (Value.ref b :: As).toArray) XC free := by
  have hK : vx_Back l R p e below s args y 3 8 (PreOf R mc ms Pc) (PostOf Qc mc ms free) (vx_Post XC mc ms free) := vx_callBack cw.1 hM hp.1
  obtain ⟨⟨-, -, -, -, -, -, hcode, -, hy, hlen, hl⟩, hy1, hin⟩ := cw
  obtain ⟨hx, hb, hml, ho, -⟩ := S
  have hPc := hp.2
  intro T hT X
  rcases vx_callI X hx (bytes := bytes) (maxL := maxL) ho hy1 hl hin hcode hy hK hg (hsize.trans hml.symm) (a := b) (argsL := As) (rest := rest) (fun sig h => hn.trans (hlen sig h)) hstack hW (by rw [hb]; exact hdg)
    (fun vm₁ hW₁ => ⟨hf.1, hf.2, hPc (T.setVm vm₁) hT hW₁⟩) with ⟨v, vm₁, ⟨U', l2, c2, s2⟩, hW₁, X', ⟨g', mk, t, L, e1, e2, hq, h1, hL, h2, h3⟩, st⟩ | ⟨q, vm₁, ⟨U', l2, c2, s2⟩, hW₁, X', ⟨g', mk, t, L, E, ce, e1, e2, hq, hce, hcv, hcl, h1, hL, h2, h3⟩, st⟩
  · dsimp only [Pt.U, Pt.locs, Pt.cells, Pt.slots] at X' e1 e2 h1 h2 h3 st
    subst h1; subst h2; subst h3
    exact Or.inl ⟨v, (T.setVm vm₁).calling g' mk (Value.ref b :: As).toArray, t, U', L, hT, X', hL, e1, e2, hq, st⟩
  · dsimp only [Pt.U, Pt.locs, Pt.cells, Pt.slots] at X' e1 e2 h1 h2 h3 st hcl
    subst h1; subst h2; subst h3
    exact Or.inr ⟨q, (T.setVm vm₁).calling g' mk (Value.ref b :: As).toArray, t, U', L, E, ce, hT, X', hL, e1, e2, hq, hce, hcv, vx_cls hW₁ hcl, st⟩
end VXIB
/-! ===== END ===== -/
/-! ===== BEGIN a private constructor of a nest mate that throws ===== -/
section VXIC
variable {p : Program} {l : Launch} {e : Env} {R : Room} {s : State} {m : MethodId} {args : Array Value} {below : List Frame} {meth : Method} {c : Code} {T : State} {locs : List Loc} {cells slots : Nat}
theorem vx_callIN (X : Stand p l e R s m args below meth c T locs cells slots) (hexec : p.tables.exec = Jvm.exec) {own : String} {index : Nat} {host : String} {y : MethodName} {bytes : ByteArray} {maxL : Nat}
    (hown : s.vm.findClass own = some m.cls) (hy1 : y.name = "<init>") (hlink : (Cond.methodLinkNest own index y host).before args s = true) (hinst : (Cond.instanceMethod y).before args s = true)
    (hcode : (Cond.code y bytes maxL none).before args s = true) (hy : y.cls ≠ "java/lang/invoke/MethodHandle" ∧ y.cls ≠ "java/lang/invoke/VarHandle")
    {W9 : Nat} {Pre : Pt → Array Value → Prop} {Post : Pt → Array Value → Option Value → Pt → Prop} {PostX : Pt → Array Value → Addr → Pt → Prop} (hK : vx_Back l R p e below s args y 3 W9 Pre Post PostX)
    {g : JFrame} (hg : g.method = m) (hsize : g.locals.size = c.maxLocals) {a : Addr} {argsL rest : List Value} (hlen : ∀ sig, parseMethodDescriptor y.desc = some sig → argsL.length = sig.parameters.length)
    (hstack : g.stack = argsL.reverse ++ .ref a :: rest) (hW : 2 * g.monitorRoom + (rest.map fun v => v.category).sum ≤ W9) (hdg : decode c.code g.pc = .ok (.invokespecial index, 3))
    (hpre : ∀ vm₁, s.WarmedH vm₁ → Pre ⟨T.setVm vm₁, locs, cells, slots⟩ (Value.ref a :: argsL).toArray) :
    (∃ (v : Option Value) (vm₁ : Vm) (B : Pt), s.WarmedH vm₁ ∧ Stand p l e R s m args below meth c B.U B.locs B.cells B.slots ∧ Post ⟨T.setVm vm₁, locs, cells, slots⟩ (Value.ref a :: argsL).toArray v B ∧
      ∀ target, Steps p.tables e below (B.U.setTop { g with pc := g.pc + 3, stack := v.toList ++ rest }) target → Steps p.tables e below (T.setTop g) target) ∨
    (∃ (q : Addr) (vm₁ : Vm) (B : Pt), s.WarmedH vm₁ ∧ Stand p l e R s m args below meth c B.U B.locs B.cells B.slots ∧ PostX ⟨T.setVm vm₁, locs, cells, slots⟩ (Value.ref a :: argsL).toArray q B ∧
      Steps p.tables e below (T.setTop g) ((B.U.setTop { g with stack := rest }).pushFrame (.throwing q))) := by
  subst hg
  have hpl : e.platform.magicAccessors = ({} : Platform).magicAccessors := by rw [X.admits.platform]
  obtain ⟨mk, methM, cM, kP, vm₁, hnamed, hmethM, hcodeM, -, hlocalsM, -, hkP, -, hW₁, hstep₁⟩ := Steps.initColdArgsNest (e := e) X.here hexec X.warmed hpl hown hy1 hy hlink hinst hcode (f := g) rfl hlen hstack hdg
  have X₁ := X.noted hW₁
  rcases hK g.method meth c ⟨T.setVm vm₁, locs, cells, slots⟩ { g with stack := rest } (.invokespecial index) mk (Value.ref a :: argsL).toArray X₁ rfl hsize hdg hW (X₁.named hnamed) (hpre vm₁ X₁.warmed) with ⟨v, B, X', hpost, hsteps⟩ | ⟨q, B, X', hpost, hsteps⟩
  · exact Or.inl ⟨v, vm₁, B, X₁.warmed, X', hpost, fun target h => hstep₁ _ fun acts => by rw [doInvoke_state]; exact hsteps.trans h⟩
  · exact Or.inr ⟨q, vm₁, B, X₁.warmed, X', hpost, hstep₁ _ fun acts => by rw [doInvoke_state]; exact hsteps⟩
end VXIC
section VXID
variable {p : Program} {l : Launch} {e : Env} {R : Room} {s : State} {m : MethodId} {args : Array Value} {below : List Frame} {meth : Method} {c : Code} {H : Heap} {locs : List Loc} {cells slots : Nat}
theorem vx_runIN {y : MethodName} {bytes cc : ByteArray} {maxL nL mc ms n index : Nat} {ws : List Cond} {rm : Room} {Pc : Array Value → State → Prop} {Qc : Array Value → State → Outcome → State → Prop} {XC : String → State → State → Prop} {free : Addr → Prop} {Ts : List Cond} {own host : String} {b : Addr} {As rest : List Value} {g : JFrame}
    (S : CallFix p m c cc nL s args Ts own) (hM : vx_Met l y ws rm Pc Qc XC mc ms free) (cw : va_CN R s args own index y host bytes maxL none ws rm mc ms n ∧ y.name = "<init>" ∧ (Cond.instanceMethod y).before args s = true) (hp : PreS s H Pc (.ref b :: As))
    (hg : g.method = m) (hn : As.length = n) (hsize : g.locals.size = nL) (hstack : g.stack = As.reverse ++ .ref b :: rest) (hW : 2 * g.monitorRoom + (rest.map fun v => v.category).sum ≤ 8) (hdg : decode cc g.pc = .ok (.invokespecial index, 3)) (hf : cells + mc ≤ R.cells ∧ slots + ms ≤ R.slots) :
    vx_Run p l e R s m args below meth c H locs cells slots mc ms g rest (Qc (Value.ref b :: As).toArray) XC free := by
  obtain ⟨⟨⟨hrc, hrs, hfr, hlo, hws, hcw⟩, hcode, hini, hy, hlen, hl⟩, hx1, hx2⟩ := cw
  have hK : vx_Back l R p e below s args y 3 8 (PreOf R mc ms Pc) (PostOf Qc mc ms free) (vx_Post XC mc ms free) := vx_back (bytes := bytes) (maxL := maxL) (ret := none) hM hp.1 hrc hrs hfr hlo hws hcw (fun a' U hW => word_at hW (Or.inl (by first | rfl | simp [Cond.onTables, Cond.keeps, Cond.steady])) hini)
  obtain ⟨hx, hb, hml, ho, -⟩ := S
  have hPc := hp.2
  intro T hT X
  rcases vx_callIN X hx (bytes := bytes) (maxL := maxL) ho hx1 hl hx2 hcode hy hK hg (hsize.trans hml.symm) (a := b) (argsL := As) (rest := rest) (fun sig h => hn.trans (hlen sig h)) hstack hW (by rw [hb]; exact hdg)
    (fun vm₁ hW₁ => ⟨hf.1, hf.2, hPc (T.setVm vm₁) hT hW₁⟩) with ⟨v, vm₁, ⟨U', l2, c2, s2⟩, hW₁, X', ⟨g', mk, t, L, e1, e2, hq, h1, hL, h2, h3⟩, st⟩ | ⟨q, vm₁, ⟨U', l2, c2, s2⟩, hW₁, X', ⟨g', mk, t, L, E, ce, e1, e2, hq, hce, hcv, hcl, h1, hL, h2, h3⟩, st⟩
  · dsimp only [Pt.U, Pt.locs, Pt.cells, Pt.slots] at X' e1 e2 h1 h2 h3 st
    subst h1; subst h2; subst h3
    exact Or.inl ⟨v, (T.setVm vm₁).calling g' mk (Value.ref b :: As).toArray, t, U', L, hT, X', hL, e1, e2, hq, st⟩
  · dsimp only [Pt.U, Pt.locs, Pt.cells, Pt.slots] at X' e1 e2 h1 h2 h3 st hcl
    subst h1; subst h2; subst h3
    exact Or.inr ⟨q, (T.setVm vm₁).calling g' mk (Value.ref b :: As).toArray, t, U', L, E, ce, hT, X', hL, e1, e2, hq, hce, hcv, vx_cls hW₁ hcl, st⟩
end VXID
/-! ===== END ===== -/
/-! ===== BEGIN a method of a class above, found by the receiver, that may throw (follows va_callVU, va_runU of this kit) ===== -/
section
variable {p : Program} {l : Launch} {e : Env} {R : Room} {s : State} {m : MethodId} {args : Array Value} {below : List Frame} {meth : Method} {c : Code} {H : Heap} {locs : List Loc} {cells slots : Nat}
theorem vx_callVU {T : State} {locs : List Loc} {cells slots : Nat} (X : Stand p l e R s m args below meth c T locs cells slots) (hexec : p.tables.exec = Jvm.exec) {own C owner : String} {index : Nat} {x y : MethodName} {bytes : ByteArray} {maxL : Nat} {ret : Option FieldType}
    (hown : s.vm.findClass own = some m.cls) (hlink : (Cond.methodLink own index x).before args s = true) (hsame : (Cond.sameMethod x.cls owner x.name x.desc).before args s = true)
    (hd0 : va_Decl s ⟨owner, x.name, x.desc⟩) (howner : owner ≠ "java/lang/invoke/MethodHandle" ∧ owner ≠ "java/lang/invoke/VarHandle")
    (hsel : (Cond.selects C x y).before args s = true) (hinst : (Cond.instanceMethod y).before args s = true) (hcode : (Cond.code y bytes maxL ret).before args s = true)
    {W : Nat} {Pre : Pt → Array Value → Prop} {Post : Pt → Array Value → Option Value → Pt → Prop} {PostX : Pt → Array Value → Addr → Pt → Prop} (hK : vx_Back l R p e below s args y 3 W Pre Post PostX)
    {b : Addr} {cellB : Cell} (hcell : T.heap[b]? = some cellB) (hobj : cellB.vm.isStatics = false) (hcls : s.vm.findClass C = some cellB.cls)
    {g : JFrame} (hg : g.method = m) (hsize : g.locals.size = c.maxLocals) {argsL rest : List Value} (hlen : ∀ sig, parseMethodDescriptor x.desc = some sig → argsL.length = sig.parameters.length)
    (hstack : g.stack = argsL.reverse ++ .ref b :: rest) (hW : 2 * g.monitorRoom + (rest.map fun v => v.category).sum ≤ W) (hdg : decode c.code g.pc = .ok (.invokevirtual index, 3))
    (hpre : ∀ vm₁, s.WarmedH vm₁ → Pre ⟨T.setVm vm₁, locs, cells, slots⟩ (Value.ref b :: argsL).toArray) :
    (∃ (v : Option Value) (vm₁ : Vm) (B : Pt), s.WarmedH vm₁ ∧ Stand p l e R s m args below meth c B.U B.locs B.cells B.slots ∧ Post ⟨T.setVm vm₁, locs, cells, slots⟩ (Value.ref b :: argsL).toArray v B ∧
      ∀ target, Steps p.tables e below (B.U.setTop { g with pc := g.pc + 3, stack := v.toList ++ rest }) target → Steps p.tables e below (T.setTop g) target) ∨
    (∃ (q : Addr) (vm₁ : Vm) (B : Pt), s.WarmedH vm₁ ∧ Stand p l e R s m args below meth c B.U B.locs B.cells B.slots ∧ PostX ⟨T.setVm vm₁, locs, cells, slots⟩ (Value.ref b :: argsL).toArray q B ∧
      Steps p.tables e below (T.setTop g) ((B.U.setTop { g with stack := rest }).pushFrame (.throwing q))) := by
  obtain ⟨r0, r, hn, hrm, hstR, hsigR⟩ := hd0
  obtain ⟨cn, ck, r1, hcn, hck, hni, hf, hn1⟩ := Cond.sameMethod_found hsame
  cases hn.symm.trans hn1
  obtain ⟨mk, methM, hnamed, hmethM, -, habM⟩ := Cond.instanceMethod_spec hinst
  obtain ⟨c2, r2, m2, q1, q2, q3, q4, kP, hkP, hkPi⟩ := Cond.selects_spec hsel
  cases hcls.symm.trans q1
  cases hf.symm.trans q2
  cases hnamed.symm.trans q3
  have hselP : selectMethod e.platform s.vm cellB.cls r0 = .method mk := by rw [Launch.admits_selectMethod X.admits]; exact q4
  obtain ⟨vm₁, X₁, hstep₁⟩ := X.invokevirtualUp hexec hown hlink hsame howner hn hrm hstR (a := b) (cell := cellB) hcell
    (fun z h => by rw [h] at hobj; cases hobj) hselP hmethM habM hkP hkPi (g := g) hg (argsL := argsL) (rest := rest) (hlen _ hsigR) hstack hdg
  rcases hK m meth c ⟨T.setVm vm₁, locs, cells, slots⟩ { g with stack := rest } (.invokevirtual index) mk (Value.ref b :: argsL).toArray X₁ hg hsize hdg hW (X₁.named hnamed) (hpre vm₁ X₁.warmed) with ⟨v, B, X', hpost, hsteps⟩ | ⟨q, B, X', hpost, hsteps⟩
  · exact Or.inl ⟨v, vm₁, B, X₁.warmed, X', hpost, fun target h => hstep₁ _ fun acts => by rw [doInvoke_state]; exact hsteps.trans h⟩
  · exact Or.inr ⟨q, vm₁, B, X₁.warmed, X', hpost, hstep₁ _ fun acts => by rw [doInvoke_state]; exact hsteps⟩
theorem vx_runU {x y : MethodName} {bytes cc : ByteArray} {maxL nL mc ms n index : Nat} {ret : Option FieldType} {ws : List Cond} {rm : Room} {Pc : Array Value → State → Prop} {Qc : Array Value → State → Outcome → State → Prop} {XC : String → State → State → Prop} {free : Addr → Prop} {Ts : List Cond} {own C owner : String} {b : Addr} {As rest : List Value} {g : JFrame}
    (S : CallFix p m c cc nL s args Ts own) (hM : vx_Met l y ws rm Pc Qc XC mc ms free) (cw : va_CU R s args own C owner index x y bytes maxL ret ws rm mc ms n) (hp : PreV s H C b Pc As)
    (hg : g.method = m) (hn : As.length = n) (hsize : g.locals.size = nL) (hstack : g.stack = As.reverse ++ .ref b :: rest) (hW : 2 * g.monitorRoom + (rest.map fun v => v.category).sum ≤ 8) (hdg : decode cc g.pc = .ok (.invokevirtual index, 3)) (hf : cells + mc ≤ R.cells ∧ slots + ms ≤ R.slots) :
    vx_Run p l e R s m args below meth c H locs cells slots mc ms g rest (Qc (Value.ref b :: As).toArray) XC free := by
  obtain ⟨hrc, hrs, hfr, hlo, hws, hcw⟩ := cw.back
  have hini := cw.init
  have hK : vx_Back l R p e below s args y 3 8 (PreOf R mc ms Pc) (PostOf Qc mc ms free) (vx_Post XC mc ms free) := vx_back (bytes := bytes) (maxL := maxL) (ret := ret) hM hp.1 hrc hrs hfr hlo hws hcw (fun a' U hW => word_at hW (Or.inl (by first | rfl | simp [Cond.onTables, Cond.keeps, Cond.steady])) hini)
  obtain ⟨hx, hb, hml, ho, -⟩ := S
  obtain ⟨-, ⟨cellB, hcB, hoB, hclB⟩, hPc⟩ := hp
  intro T hT X
  rcases vx_callVU X hx (C := C) (owner := owner) (bytes := bytes) (maxL := maxL) (ret := ret) ho cw.link cw.same cw.decl cw.notMH cw.sel cw.inst cw.code hK (by rw [hT]; exact hcB) hoB hclB hg (hsize.trans hml.symm) (argsL := As) (rest := rest) (fun sig h => hn.trans (cw.len sig h)) hstack hW (by rw [hb]; exact hdg)
    (fun vm₁ hW₁ => ⟨hf.1, hf.2, hPc (T.setVm vm₁) hT hW₁⟩) with ⟨v, vm₁, ⟨U', l2, c2, s2⟩, hW₁, X', ⟨g', mk, t, L, e1, e2, hq, h1, hL, h2, h3⟩, st⟩ | ⟨q, vm₁, ⟨U', l2, c2, s2⟩, hW₁, X', ⟨g', mk, t, L, E, ce, e1, e2, hq, hce, hcv, hcl, h1, hL, h2, h3⟩, st⟩
  · dsimp only [Pt.U, Pt.locs, Pt.cells, Pt.slots] at X' e1 e2 h1 h2 h3 st
    subst h1; subst h2; subst h3
    exact Or.inl ⟨v, (T.setVm vm₁).calling g' mk (Value.ref b :: As).toArray, t, U', L, hT, X', hL, e1, e2, hq, st⟩
  · dsimp only [Pt.U, Pt.locs, Pt.cells, Pt.slots] at X' e1 e2 h1 h2 h3 st hcl
    subst h1; subst h2; subst h3
    exact Or.inr ⟨q, (T.setVm vm₁).calling g' mk (Value.ref b :: As).toArray, t, U', L, E, ce, hT, X', hL, e1, e2, hq, hce, hcv, vx_cls hW₁ hcl, st⟩
end
/-! ===== END ===== -/
/-! ===== BEGIN super.m(..) that may throw (follows va_callSU, va_runSU) ===== -/
section
variable {p : Program} {l : Launch} {e : Env} {R : Room} {s : State} {m : MethodId} {args : Array Value} {below : List Frame} {meth : Method} {c : Code} {H : Heap} {locs : List Loc} {cells slots : Nat}
theorem vx_callSU {T : State} {locs : List Loc} {cells slots : Nat} (X : Stand p l e R s m args below meth c T locs cells slots) (hexec : p.tables.exec = Jvm.exec) {own : String} {index : Nat} {y : MethodName} {bytes : ByteArray} {maxL : Nat} {ret : Option FieldType}
    (hown : s.vm.findClass own = some m.cls) (hlink : (Cond.methodLink own index y).before args s = true) (hsame : (Cond.sameMethod y.cls y.cls y.name y.desc).before args s = true) (hsup : (Cond.superclass own y.cls).before args s = true)
    (hinst : (Cond.instanceMethod y).before args s = true) (hcode : (Cond.code y bytes maxL ret).before args s = true) (hno : y.name ≠ "<init>")
    {W : Nat} {Pre : Pt → Array Value → Prop} {Post : Pt → Array Value → Option Value → Pt → Prop} {PostX : Pt → Array Value → Addr → Pt → Prop} (hK : vx_Back l R p e below s args y 3 W Pre Post PostX)
    {b : Addr} {cellB : Cell} {kB : Class} (hcell : T.heap[b]? = some cellB) (hobj : cellB.vm.isStatics = false) (hkB : s.vm.classes[cellB.cls]? = some kB)
    {g : JFrame} (hg : g.method = m) (hsize : g.locals.size = c.maxLocals) {argsL rest : List Value} (hlen : ∀ sig, parseMethodDescriptor y.desc = some sig → argsL.length = sig.parameters.length)
    (hstack : g.stack = argsL.reverse ++ .ref b :: rest) (hW : 2 * g.monitorRoom + (rest.map fun v => v.category).sum ≤ W) (hdg : decode c.code g.pc = .ok (.invokespecial index, 3))
    (hpre : ∀ vm₁, s.WarmedH vm₁ → Pre ⟨T.setVm vm₁, locs, cells, slots⟩ (Value.ref b :: argsL).toArray) :
    (∃ (v : Option Value) (vm₁ : Vm) (B : Pt), s.WarmedH vm₁ ∧ Stand p l e R s m args below meth c B.U B.locs B.cells B.slots ∧ Post ⟨T.setVm vm₁, locs, cells, slots⟩ (Value.ref b :: argsL).toArray v B ∧
      ∀ target, Steps p.tables e below (B.U.setTop { g with pc := g.pc + 3, stack := v.toList ++ rest }) target → Steps p.tables e below (T.setTop g) target) ∨
    (∃ (q : Addr) (vm₁ : Vm) (B : Pt), s.WarmedH vm₁ ∧ Stand p l e R s m args below meth c B.U B.locs B.cells B.slots ∧ PostX ⟨T.setVm vm₁, locs, cells, slots⟩ (Value.ref b :: argsL).toArray q B ∧
      Steps p.tables e below (T.setTop g) ((B.U.setTop { g with stack := rest }).pushFrame (.throwing q))) := by
  obtain ⟨mk, methM, hnamed, hmethM, hstM, habM⟩ := Cond.instanceMethod_spec hinst
  obtain ⟨methM', cM, hmethM', -, -, -, -, -, -, hsigM⟩ := Cond.code_spec hnamed hcode
  cases hmethM.symm.trans hmethM'
  obtain ⟨ps, dk, kp, hps, hdk, hkp, hsuper, -, -, hnid⟩ := Cond.superclass_spec hown hsup
  have hn : s.methodNamed? ⟨y.cls, y.name, y.desc⟩ = some mk := hnamed
  have hpm : ps = mk.cls := Option.some.inj (hps.symm.trans (findClass_of_methodNamed hnamed))
  have hsub : s.vm.isSubclass ps mk.cls = true := by rw [hpm]; simp [Vm.isSubclass, Vm.isSubclassAux]
  obtain ⟨vm₁, X₁, hstep₁⟩ := X.invokespecialUp hexec hown hlink hsame hn hmethM hstM habM hno hdk hnid hps hsuper hsub (a := b) (cell := cellB) hcell
    (fun z h => by rw [h] at hobj; cases hobj) hkB (g := g) hg (argsL := argsL) (rest := rest) (hlen _ hsigM) hstack hdg
  rcases hK m meth c ⟨T.setVm vm₁, locs, cells, slots⟩ { g with stack := rest } (.invokespecial index) mk (Value.ref b :: argsL).toArray X₁ hg hsize hdg hW (X₁.named hnamed) (hpre vm₁ X₁.warmed) with ⟨v, B, X', hpost, hsteps⟩ | ⟨q, B, X', hpost, hsteps⟩
  · exact Or.inl ⟨v, vm₁, B, X₁.warmed, X', hpost, fun target h => hstep₁ _ (by rw [doInvoke_state]; exact hsteps.trans h)⟩
  · exact Or.inr ⟨q, vm₁, B, X₁.warmed, X', hpost, hstep₁ _ (by rw [doInvoke_state]; exact hsteps)⟩
theorem vx_runSU {y : MethodName} {bytes cc : ByteArray} {maxL nL mc ms n index : Nat} {ret : Option FieldType} {ws : List Cond} {rm : Room} {Pc : Array Value → State → Prop} {Qc : Array Value → State → Outcome → State → Prop} {XC : String → State → State → Prop} {free : Addr → Prop} {Ts : List Cond} {own C : String} {cC : ClassId} {b : Addr} {As rest : List Value} {g : JFrame}
    (hat : ClassAt s C cC) (S : CallFix p m c cc nL s args Ts own) (hM : vx_Met l y ws rm Pc Qc XC mc ms free) (cw : va_CS R s args own index y bytes maxL ret ws rm mc ms n) (hp : PreV s H C b Pc As)
    (hg : g.method = m) (hn : As.length = n) (hsize : g.locals.size = nL) (hstack : g.stack = As.reverse ++ .ref b :: rest) (hW : 2 * g.monitorRoom + (rest.map fun v => v.category).sum ≤ 8) (hdg : decode cc g.pc = .ok (.invokespecial index, 3)) (hf : cells + mc ≤ R.cells ∧ slots + ms ≤ R.slots) :
    vx_Run p l e R s m args below meth c H locs cells slots mc ms g rest (Qc (Value.ref b :: As).toArray) XC free := by
  obtain ⟨⟨hrc, hrs, hfr, hlo, hws, hcw⟩, hl1, hl2, hl3, hl4, hini, hcode, hno, hlen⟩ := cw
  have hK : vx_Back l R p e below s args y 3 8 (PreOf R mc ms Pc) (PostOf Qc mc ms free) (vx_Post XC mc ms free) := vx_back (bytes := bytes) (maxL := maxL) (ret := ret) hM hp.1 hrc hrs hfr hlo hws hcw (fun a' U hW => word_at hW (Or.inl (by first | rfl | simp [Cond.onTables, Cond.keeps, Cond.steady])) hini)
  obtain ⟨hx, hb, hml, ho, -⟩ := S
  obtain ⟨-, ⟨cellB, hcB, hoB, hclB⟩, hPc⟩ := hp
  obtain ⟨hfc, kB, hkB, -⟩ := hat
  cases hfc.symm.trans hclB
  intro T hT X
  rcases vx_callSU X hx (bytes := bytes) (maxL := maxL) (ret := ret) ho hl1 hl2 hl3 hl4 hcode hno hK (by rw [hT]; exact hcB) hoB hkB hg (hsize.trans hml.symm) (argsL := As) (rest := rest) (fun sig h => hn.trans (hlen sig h)) hstack hW (by rw [hb]; exact hdg)
    (fun vm₁ hW₁ => ⟨hf.1, hf.2, hPc (T.setVm vm₁) hT hW₁⟩) with ⟨v, vm₁, ⟨U', l2, c2, s2⟩, hW₁, X', ⟨g', mk, t, L, e1, e2, hq, h1, hL, h2, h3⟩, st⟩ | ⟨q, vm₁, ⟨U', l2, c2, s2⟩, hW₁, X', ⟨g', mk, t, L, E, ce, e1, e2, hq, hce, hcv, hcl, h1, hL, h2, h3⟩, st⟩
  · dsimp only [Pt.U, Pt.locs, Pt.cells, Pt.slots] at X' e1 e2 h1 h2 h3 st
    subst h1; subst h2; subst h3
    exact Or.inl ⟨v, (T.setVm vm₁).calling g' mk (Value.ref b :: As).toArray, t, U', L, hT, X', hL, e1, e2, hq, st⟩
  · dsimp only [Pt.U, Pt.locs, Pt.cells, Pt.slots] at X' e1 e2 h1 h2 h3 st hcl
    subst h1; subst h2; subst h3
    exact Or.inr ⟨q, (T.setVm vm₁).calling g' mk (Value.ref b :: As).toArray, t, U', L, E, ce, hT, X', hL, e1, e2, hq, hce, hcv, vx_cls hW₁ hcl, st⟩
end
/-! ===== END ===== -/
/-! ===== BEGIN a private method of a nest mate that may throw (follows va_callVN, va_callSN, va_runVN, va_runSN) ===== -/
section
variable {p : Program} {l : Launch} {e : Env} {R : Room} {s : State} {m : MethodId} {args : Array Value} {below : List Frame} {meth : Method} {c : Code} {H : Heap} {locs : List Loc} {cells slots : Nat}
variable {T : State}
theorem vx_callVN (X : Stand p l e R s m args below meth c T locs cells slots) (hexec : p.tables.exec = Jvm.exec) {own C : String} {index : Nat} {host : String} {y : MethodName} {bytes : ByteArray} {maxL : Nat} {ret : Option FieldType}
    (hown : s.vm.findClass own = some m.cls) (hlink : (Cond.methodLinkNest own index y host).before args s = true) (hinst : (Cond.instanceMethod y).before args s = true) (hsel : (Cond.selects C y y).before args s = true)
    (hcode : (Cond.code y bytes maxL ret).before args s = true) (hy : y.cls ≠ "java/lang/invoke/MethodHandle" ∧ y.cls ≠ "java/lang/invoke/VarHandle")
    {W : Nat} {Pre : Pt → Array Value → Prop} {Post : Pt → Array Value → Option Value → Pt → Prop} {PostX : Pt → Array Value → Addr → Pt → Prop} (hK : vx_Back l R p e below s args y 3 W Pre Post PostX)
    {b : Addr} {cellB : Cell} (hcell : T.heap[b]? = some cellB) (hobj : cellB.vm.isStatics = false) (hcls : s.vm.findClass C = some cellB.cls)
    {g : JFrame} (hg : g.method = m) (hsize : g.locals.size = c.maxLocals) {argsL rest : List Value} (hlen : ∀ sig, parseMethodDescriptor y.desc = some sig → argsL.length = sig.parameters.length)
    (hstack : g.stack = argsL.reverse ++ .ref b :: rest) (hW : 2 * g.monitorRoom + (rest.map fun v => v.category).sum ≤ W) (hdg : decode c.code g.pc = .ok (.invokevirtual index, 3))
    (hpre : ∀ vm₁, s.WarmedH vm₁ → Pre ⟨T.setVm vm₁, locs, cells, slots⟩ (Value.ref b :: argsL).toArray) :
    (∃ (v : Option Value) (vm₁ : Vm) (B : Pt), s.WarmedH vm₁ ∧ Stand p l e R s m args below meth c B.U B.locs B.cells B.slots ∧ Post ⟨T.setVm vm₁, locs, cells, slots⟩ (Value.ref b :: argsL).toArray v B ∧
      ∀ target, Steps p.tables e below (B.U.setTop { g with pc := g.pc + 3, stack := v.toList ++ rest }) target → Steps p.tables e below (T.setTop g) target) ∨
    (∃ (q : Addr) (vm₁ : Vm) (B : Pt), s.WarmedH vm₁ ∧ Stand p l e R s m args below meth c B.U B.locs B.cells B.slots ∧ PostX ⟨T.setVm vm₁, locs, cells, slots⟩ (Value.ref b :: argsL).toArray q B ∧
      Steps p.tables e below (T.setTop g) ((B.U.setTop { g with stack := rest }).pushFrame (.throwing q))) := by
  obtain ⟨mk, methM, hnamed, hmethM, hstM, habM⟩ := Cond.instanceMethod_spec hinst
  obtain ⟨methM', cM, hmethM', -, -, -, -, -, -, hsigM⟩ := Cond.code_spec hnamed hcode
  cases hmethM.symm.trans hmethM'
  obtain ⟨c2, r2, m2, q1, q2, q3, q4, kP, hkP, hkPi⟩ := Cond.selects_spec hsel
  cases hcls.symm.trans q1
  cases (State.methodFound?_of_named hnamed hy).symm.trans q2
  cases hnamed.symm.trans q3
  have hselP : selectMethod e.platform s.vm cellB.cls mk = .method mk := by rw [Launch.admits_selectMethod X.admits]; exact q4
  obtain ⟨vm₁, X₁, hstep₁⟩ := X.invokevirtualNest hexec hown hlink hnamed hmethM hstM hkP hkPi hy (a := b) (cell := cellB) hcell
    (fun z h => by rw [h] at hobj; cases hobj) hselP hmethM habM hkP hkPi (g := g) hg (argsL := argsL) (rest := rest) (hlen _ hsigM) hstack hdg
  rcases hK m meth c ⟨T.setVm vm₁, locs, cells, slots⟩ { g with stack := rest } (.invokevirtual index) mk (Value.ref b :: argsL).toArray X₁ hg hsize hdg hW (X₁.named hnamed) (hpre vm₁ X₁.warmed) with ⟨v, B, X', hpost, hsteps⟩ | ⟨q, B, X', hpost, hsteps⟩
  · exact Or.inl ⟨v, vm₁, B, X₁.warmed, X', hpost, fun target h => hstep₁ _ fun acts => by rw [doInvoke_state]; exact hsteps.trans h⟩
  · exact Or.inr ⟨q, vm₁, B, X₁.warmed, X', hpost, hstep₁ _ fun acts => by rw [doInvoke_state]; exact hsteps⟩
theorem vx_callSN (X : Stand p l e R s m args below meth c T locs cells slots) (hexec : p.tables.exec = Jvm.exec) {own : String} {index : Nat} {host : String} {y : MethodName} {bytes : ByteArray} {maxL : Nat} {ret : Option FieldType}
    (hown : s.vm.findClass own = some m.cls) (hlink : (Cond.methodLinkNest own index y host).before args s = true) (hstat : (Cond.static y).before args s = true) (hinit : (Cond.initialized y.cls).before args s = true)
    (hcode : (Cond.code y bytes maxL ret).before args s = true) (hy : y.cls ≠ "java/lang/invoke/MethodHandle" ∧ y.cls ≠ "java/lang/invoke/VarHandle")
    {W : Nat} {Pre : Pt → Array Value → Prop} {Post : Pt → Array Value → Option Value → Pt → Prop} {PostX : Pt → Array Value → Addr → Pt → Prop} (hK : vx_Back l R p e below s args y 3 W Pre Post PostX)
    {g : JFrame} (hg : g.method = m) (hsize : g.locals.size = c.maxLocals) {argsL rest : List Value} (hlen : ∀ sig, parseMethodDescriptor y.desc = some sig → argsL.length = sig.parameters.length)
    (hstack : g.stack = argsL.reverse ++ rest) (hW : 2 * g.monitorRoom + (rest.map fun v => v.category).sum ≤ W) (hdg : decode c.code g.pc = .ok (.invokestatic index, 3))
    (hpre : ∀ vm₁, s.WarmedH vm₁ → Pre ⟨T.setVm vm₁, locs, cells, slots⟩ argsL.toArray) :
    (∃ (v : Option Value) (vm₁ : Vm) (B : Pt), s.WarmedH vm₁ ∧ Stand p l e R s m args below meth c B.U B.locs B.cells B.slots ∧ Post ⟨T.setVm vm₁, locs, cells, slots⟩ argsL.toArray v B ∧
      ∀ target, Steps p.tables e below (B.U.setTop { g with pc := g.pc + 3, stack := v.toList ++ rest }) target → Steps p.tables e below (T.setTop g) target) ∨
    (∃ (q : Addr) (vm₁ : Vm) (B : Pt), s.WarmedH vm₁ ∧ Stand p l e R s m args below meth c B.U B.locs B.cells B.slots ∧ PostX ⟨T.setVm vm₁, locs, cells, slots⟩ argsL.toArray q B ∧
      Steps p.tables e below (T.setTop g) ((B.U.setTop { g with stack := rest }).pushFrame (.throwing q))) := by
  obtain ⟨mk, hnamed⟩ := Cond.code_named hcode
  obtain ⟨methM, cM, hmethM, -, -, -, -, -, -, hsigM⟩ := Cond.code_spec hnamed hcode
  have hstatic : methM.isStatic = true := Cond.static_spec hnamed hmethM hstat
  obtain ⟨kP, hkP, -⟩ := className_of_methodNamed hnamed
  have hinitP : kP.init = .initialized := Cond.initialized_spec (findClass_of_methodNamed hnamed) hkP hinit
  obtain ⟨vm₁, X₁, hstep₁⟩ := X.invokestaticNest hexec hown hlink hnamed hmethM hstatic hkP hinitP hy (g := g) hg (argsL := argsL) (rest := rest) (hlen _ hsigM) hstack hdg
  rcases hK m meth c ⟨T.setVm vm₁, locs, cells, slots⟩ { g with stack := rest } (.invokestatic index) mk argsL.toArray X₁ hg hsize hdg hW (X₁.named hnamed) (hpre vm₁ X₁.warmed) with ⟨v, B, X', hpost, hsteps⟩ | ⟨q, B, X', hpost, hsteps⟩
  · exact Or.inl ⟨v, vm₁, B, X₁.warmed, X', hpost, fun target h => hstep₁ _ fun acts => by rw [doInvoke_state]; exact hsteps.trans h⟩
  · exact Or.inr ⟨q, vm₁, B, X₁.warmed, X', hpost, hstep₁ _ fun acts => by rw [doInvoke_state]; exact hsteps⟩
theorem vx_runVN {y : MethodName} {bytes cc : ByteArray} {maxL nL mc ms n index : Nat} {ret : Option FieldType} {ws : List Cond} {rm : Room} {Pc : Array Value → State → Prop} {Qc : Array Value → State → Outcome → State → Prop} {XC : String → State → State → Prop} {free : Addr → Prop} {Ts : List Cond} {own C host : String} {b : Addr} {As rest : List Value} {g : JFrame}
    (S : CallFix p m c cc nL s args Ts own) (hM : vx_Met l y ws rm Pc Qc XC mc ms free) (cw : va_CN R s args own index y host bytes maxL ret ws rm mc ms n ∧ (Cond.instanceMethod y).before args s = true ∧ (Cond.selects C y y).before args s = true) (hp : PreV s H C b Pc As)
    (hg : g.method = m) (hn : As.length = n) (hsize : g.locals.size = nL) (hstack : g.stack = As.reverse ++ .ref b :: rest) (hW : 2 * g.monitorRoom + (rest.map fun v => v.category).sum ≤ 8) (hdg : decode cc g.pc = .ok (.invokevirtual index, 3)) (hf : cells + mc ≤ R.cells ∧ slots + ms ≤ R.slots) :
    vx_Run p l e R s m args below meth c H locs cells slots mc ms g rest (Qc (Value.ref b :: As).toArray) XC free := by
  obtain ⟨⟨⟨hrc, hrs, hfr, hlo, hws, hcw⟩, hcode, hini, hy, hlen, hl⟩, hx1, hx2⟩ := cw
  have hK : vx_Back l R p e below s args y 3 8 (PreOf R mc ms Pc) (PostOf Qc mc ms free) (vx_Post XC mc ms free) := vx_back (bytes := bytes) (maxL := maxL) (ret := ret) hM hp.1 hrc hrs hfr hlo hws hcw (fun a' U hW => word_at hW (Or.inl (by first | rfl | simp [Cond.onTables, Cond.keeps, Cond.steady])) hini)
  obtain ⟨hx, hb, hml, ho, -⟩ := S
  obtain ⟨-, ⟨cellB, hcB, hoB, hclB⟩, hPc⟩ := hp
  intro T hT X
  rcases vx_callVN X hx (C := C) (bytes := bytes) (maxL := maxL) (ret := ret) ho hl hx1 hx2 hcode hy hK (by rw [hT]; exact hcB) hoB hclB hg (hsize.trans hml.symm) (argsL := As) (rest := rest) (fun sig h => hn.trans (hlen sig h)) hstack hW (by rw [hb]; exact hdg)
    (fun vm₁ hW₁ => ⟨hf.1, hf.2, hPc (T.setVm vm₁) hT hW₁⟩) with ⟨v, vm₁, ⟨U', l2, c2, s2⟩, hW₁, X', ⟨g', mk, t, L, e1, e2, hq, h1, hL, h2, h3⟩, st⟩ | ⟨q, vm₁, ⟨U', l2, c2, s2⟩, hW₁, X', ⟨g', mk, t, L, E, ce, e1, e2, hq, hce, hcv, hcl, h1, hL, h2, h3⟩, st⟩
  · dsimp only [Pt.U, Pt.locs, Pt.cells, Pt.slots] at X' e1 e2 h1 h2 h3 st
    subst h1; subst h2; subst h3
    exact Or.inl ⟨v, (T.setVm vm₁).calling g' mk (Value.ref b :: As).toArray, t, U', L, hT, X', hL, e1, e2, hq, st⟩
  · dsimp only [Pt.U, Pt.locs, Pt.cells, Pt.slots] at X' e1 e2 h1 h2 h3 st hcl
    subst h1; subst h2; subst h3
    exact Or.inr ⟨q, (T.setVm vm₁).calling g' mk (Value.ref b :: As).toArray, t, U', L, E, ce, hT, X', hL, e1, e2, hq, hce, hcv, vx_cls hW₁ hcl, st⟩
theorem vx_runSN {y : MethodName} {bytes cc : ByteArray} {maxL nL mc ms n index : Nat} {ret : Option FieldType} {ws : List Cond} {rm : Room} {Pc : Array Value → State → Prop} {Qc : Array Value → State → Outcome → State → Prop} {XC : String → State → State → Prop} {free : Addr → Prop} {Ts : List Cond} {own host : String} {As rest : List Value} {g : JFrame}
    (S : CallFix p m c cc nL s args Ts own) (hM : vx_Met l y ws rm Pc Qc XC mc ms free) (cw : va_CN R s args own index y host bytes maxL ret ws rm mc ms n ∧ (Cond.static y).before args s = true ∧ True) (hp : PreS s H Pc As)
    (hg : g.method = m) (hn : As.length = n) (hsize : g.locals.size = nL) (hstack : g.stack = As.reverse ++ rest) (hW : 2 * g.monitorRoom + (rest.map fun v => v.category).sum ≤ 8) (hdg : decode cc g.pc = .ok (.invokestatic index, 3)) (hf : cells + mc ≤ R.cells ∧ slots + ms ≤ R.slots) :
    vx_Run p l e R s m args below meth c H locs cells slots mc ms g rest (Qc As.toArray) XC free := by
  obtain ⟨⟨⟨hrc, hrs, hfr, hlo, hws, hcw⟩, hcode, hini, hy, hlen, hl⟩, hx1, hx2⟩ := cw
  have hK : vx_Back l R p e below s args y 3 8 (PreOf R mc ms Pc) (PostOf Qc mc ms free) (vx_Post XC mc ms free) := vx_back (bytes := bytes) (maxL := maxL) (ret := ret) hM hp.1 hrc hrs hfr hlo hws hcw (fun a' U hW => word_at hW (Or.inl (by first | rfl | simp [Cond.onTables, Cond.keeps, Cond.steady])) hini)
  obtain ⟨hx, hb, hml, ho, -⟩ := S
  have hPc := hp.2
  intro T hT X
  rcases vx_callSN X hx (bytes := bytes) (maxL := maxL) (ret := ret) ho hl hx1 hini hcode hy hK hg (hsize.trans hml.symm) (argsL := As) (rest := rest) (fun sig h => hn.trans (hlen sig h)) hstack hW (by rw [hb]; exact hdg)
    (fun vm₁ hW₁ => ⟨hf.1, hf.2, hPc (T.setVm vm₁) hT hW₁⟩) with ⟨v, vm₁, ⟨U', l2, c2, s2⟩, hW₁, X', ⟨g', mk, t, L, e1, e2, hq, h1, hL, h2, h3⟩, st⟩ | ⟨q, vm₁, ⟨U', l2, c2, s2⟩, hW₁, X', ⟨g', mk, t, L, E, ce, e1, e2, hq, hce, hcv, hcl, h1, hL, h2, h3⟩, st⟩
  · dsimp only [Pt.U, Pt.locs, Pt.cells, Pt.slots] at X' e1 e2 h1 h2 h3 st
    subst h1; subst h2; subst h3
    exact Or.inl ⟨v, (T.setVm vm₁).calling g' mk As.toArray, t, U', L, hT, X', hL, e1, e2, hq, st⟩
  · dsimp only [Pt.U, Pt.locs, Pt.cells, Pt.slots] at X' e1 e2 h1 h2 h3 st hcl
    subst h1; subst h2; subst h3
    exact Or.inr ⟨q, (T.setVm vm₁).calling g' mk As.toArray, t, U', L, E, ce, hT, X', hL, e1, e2, hq, hce, hcv, vx_cls hW₁ hcl, st⟩
end
/-! ===== END ===== -/
/-! ===== BEGIN calls by an interface of methods that may throw (vx_callIF, vx_runF follow va_callIF, va_runF of this kit) ===== -/
section
variable {p : Program} {l : Launch} {e : Env} {R : Room} {s : State} {m : MethodId} {args : Array Value} {below : List Frame} {meth : Method} {c : Code} {H : Heap} {locs : List Loc} {cells slots : Nat} {Q : State → Prop}
variable {mc ms : Nat} {free : Addr → Prop} {A0 A1 : Nat → Prop} {H0 : Heap} {a : Array Value} {pc : Nat} {ls : Array Slot} {st0 rest : List Value}
def vx_Run5 (p : Program) (l : Launch) (e : Env) (R : Room) (s : State) (m : MethodId) (args : Array Value) (below : List Frame) (meth : Method) (c : Code) (H : Heap) (locs : List Loc) (cells slots mc ms : Nat) (g : JFrame) (rest : List Value) (Qa : State → Outcome → State → Prop) (XC : String → State → State → Prop) (free : Addr → Prop) : Prop :=
  ∀ T : State, T.heap = H → Stand p l e R s m args below meth c T locs cells slots →
    (∃ (v : Option Value) (st₀ t T' : State) (L : List Loc), st₀.heap = H ∧ Stand p l e R s m args below meth c T' (locs ++ L) (cells + mc) (slots + ms) ∧ (∀ q ∈ L, free q.base) ∧ T'.heap = t.heap ∧ T'.vm = t.vm ∧ Qa st₀ (.returned v) t ∧
      Goes p e below T g T' { g with pc := g.pc + 5, stack := v.toList ++ rest }) ∨
    (∃ (q : Addr) (st₀ t T' : State) (L : List Loc) (E : String) (ce : Cell), st₀.heap = H ∧ Stand p l e R s m args below meth c T' (locs ++ L) (cells + mc) (slots + ms) ∧ (∀ z ∈ L, free z.base) ∧ T'.heap = t.heap ∧ T'.vm = t.vm ∧ XC E st₀ t ∧ t.heap[q]? = some ce ∧ ce.vm = .none ∧ s.vm.findClass E = some ce.cls ∧
      Steps p.tables e below (T.setTop g) ((T'.setTop { g with stack := rest }).pushFrame (.throwing q)))
theorem vx_callIF {T : State} (X : Stand p l e R s m args below meth c T locs cells slots) (hexec : p.tables.exec = Jvm.exec) {own C : String} {index count : Nat} {x y : MethodName} {bytes : ByteArray} {maxL : Nat} {ret : Option FieldType}
    (hown : s.vm.findClass own = some m.cls) (hlink : (Cond.methodLink own index x).before args s = true) (hdecl : (Cond.declares x).before args s = true) (hface : (Cond.interfaceMethod x.cls x.cls x.name x.desc).before args s = true)
    (hsel : (Cond.selects C x y).before args s = true) (hinst : (Cond.instanceMethod y).before args s = true) (hpub : (Cond.publicMethod y).before args s = true) (hunh : (Cond.unhidden C x.name x.desc).before args s = true)
    (hcast : (Cond.castable C x.cls).before args s = true) (hcode : (Cond.code y bytes maxL ret).before args s = true) (hx : x.cls ≠ "java/lang/invoke/MethodHandle" ∧ x.cls ≠ "java/lang/invoke/VarHandle")
    {W9 : Nat} {Pre : Pt → Array Value → Prop} {Post : Pt → Array Value → Option Value → Pt → Prop} {PostX : Pt → Array Value → Addr → Pt → Prop} (hK : vx_Back l R p e below s args y 5 W9 Pre Post PostX)
    {b : Addr} {cellB : Cell} {kB : Class} (hcell : T.heap[b]? = some cellB) (hobj : cellB.vm.isStatics = false) (hcls : s.vm.findClass C = some cellB.cls) (hkB : s.vm.classes[cellB.cls]? = some kB)
    {g : JFrame} (hg : g.method = m) (hsize : g.locals.size = c.maxLocals) {argsL rest : List Value} (hlen : ∀ sig, parseMethodDescriptor x.desc = some sig → argsL.length = sig.parameters.length)
    (hstack : g.stack = argsL.reverse ++ .ref b :: rest) (hW : 2 * g.monitorRoom + (rest.map fun v => v.category).sum ≤ W9) (hdg : decode c.code g.pc = .ok (.invokeinterface index count, 5))
    (hpre : ∀ vm₁, s.WarmedH vm₁ → Pre ⟨T.setVm vm₁, locs, cells, slots⟩ (Value.ref b :: argsL).toArray) :
    (∃ (v : Option Value) (vm₁ : Vm) (B : Pt), s.WarmedH vm₁ ∧ Stand p l e R s m args below meth c B.U B.locs B.cells B.slots ∧ Post ⟨T.setVm vm₁, locs, cells, slots⟩ (Value.ref b :: argsL).toArray v B ∧
      ∀ target, Steps p.tables e below (B.U.setTop { g with pc := g.pc + 5, stack := v.toList ++ rest }) target → Steps p.tables e below (T.setTop g) target) ∨
    (∃ (q : Addr) (vm₁ : Vm) (B : Pt), s.WarmedH vm₁ ∧ Stand p l e R s m args below meth c B.U B.locs B.cells B.slots ∧ PostX ⟨T.setVm vm₁, locs, cells, slots⟩ (Value.ref b :: argsL).toArray q B ∧
      Steps p.tables e below (T.setTop g) ((B.U.setTop { g with stack := rest }).pushFrame (.throwing q))) := by
  obtain ⟨r0, r, hn, hrm, hstR, hsigR⟩ := Cond.declares_spec hdecl
  obtain ⟨cL, kL, r1, hcL, hkL, hiL, hfoundL, hn1⟩ := Cond.interfaceMethod_spec hface
  cases hn.symm.trans hn1
  have hr0cls : r0.cls = cL := Option.some.inj ((findClass_of_methodNamed hn).symm.trans hcL)
  obtain ⟨hnameR, hdescR⟩ := name_of_methodNamed hn hrm
  obtain ⟨mk, methM, hnamed, hmethM, -, habM⟩ := Cond.instanceMethod_spec hinst
  obtain ⟨c2, r2, m2, q1, q2, q3, q4, -⟩ := Cond.selects_spec hsel
  cases hcls.symm.trans q1
  cases hfoundL.symm.trans q2
  cases hnamed.symm.trans q3
  have hselP : selectMethod e.platform s.vm cellB.cls r0 = .method mk := by rw [Launch.admits_selectMethod X.admits]; exact q4
  have hpubM : hasFlag methM.accessFlags Acc.public_ = true := Cond.publicMethod_spec hnamed hmethM hpub
  have hway : ((cellB.cls :: s.vm.superclasses cellB.cls).any fun k => (declaredIn s.vm r.name r.desc k).any fun (_, z) => z.isPrivate || z.isStatic) = false := by
    rw [hnameR, hdescR]; exact Cond.unhidden_spec hcls hunh
  obtain ⟨c3, t3, w1, w2, w3⟩ := Cond.castable_spec hcast
  cases hcls.symm.trans w1
  cases hcL.symm.trans w2
  obtain ⟨vm₁, X₁, hstep₁⟩ := X.invokeinterface hexec hown hlink hn hrm hstR (by rw [hr0cls]; exact hkL) hiL hx (a := b) (cell := cellB) (kcell := kB) hcell
    (fun z h => by rw [h] at hobj; cases hobj) hkB (by rw [hr0cls]; exact w3) hselP hmethM hway hpubM habM (g := g) hg (argsL := argsL) (rest := rest) (hlen _ hsigR) hstack hdg
  rcases hK m meth c ⟨T.setVm vm₁, locs, cells, slots⟩ { g with stack := rest } (.invokeinterface index count) mk (Value.ref b :: argsL).toArray X₁ hg hsize hdg hW (X₁.named hnamed) (hpre vm₁ X₁.warmed) with ⟨v, B, X', hpost, hsteps⟩ | ⟨q, B, X', hpost, hsteps⟩
  · exact Or.inl ⟨v, vm₁, B, X₁.warmed, X', hpost, fun target h => hstep₁ _ fun acts => by rw [doInvoke_state]; exact hsteps.trans h⟩
  · exact Or.inr ⟨q, vm₁, B, X₁.warmed, X', hpost, hstep₁ _ fun acts => by rw [doInvoke_state]; exact hsteps⟩
theorem vx_runF {x y : MethodName} {bytes cc : ByteArray} {maxL nL mc ms n index count : Nat} {ret : Option FieldType} {ws : List Cond} {rm : Room} {Pc : Array Value → State → Prop} {Qc : Array Value → State → Outcome → State → Prop} {XC : String → State → State → Prop} {free : Addr → Prop} {Ts : List Cond} {own C : String} {cC : ClassId} {b : Addr} {As rest : List Value} {g : JFrame}
    (hat : ClassAt s C cC) (S : CallFix p m c cc nL s args Ts own) (hM : vx_Met l y ws rm Pc Qc XC mc ms free) (cw : va_CI R s args own C index x y bytes maxL ret ws rm mc ms n) (hp : PreV s H C b Pc As)
    (hg : g.method = m) (hn : As.length = n) (hsize : g.locals.size = nL) (hstack : g.stack = As.reverse ++ .ref b :: rest) (hW : 2 * g.monitorRoom + (rest.map fun v => v.category).sum ≤ 8) (hdg : decode cc g.pc = .ok (.invokeinterface index count, 5)) (hf : cells + mc ≤ R.cells ∧ slots + ms ≤ R.slots) :
    vx_Run5 p l e R s m args below meth c H locs cells slots mc ms g rest (Qc (Value.ref b :: As).toArray) XC free := by
  obtain ⟨hrc, hrs, hfr, hlo, hws, hcw⟩ := cw.back
  have hini := cw.init
  have hK : vx_Back l R p e below s args y 5 8 (PreOf R mc ms Pc) (PostOf Qc mc ms free) (vx_Post XC mc ms free) := vx_back (bytes := bytes) (maxL := maxL) (ret := ret) hM hp.1 hrc hrs hfr hlo hws hcw (fun a' U hW => word_at hW (Or.inl (by first | rfl | simp [Cond.onTables, Cond.keeps, Cond.steady])) hini)
  obtain ⟨hx, hb, hml, ho, -⟩ := S
  obtain ⟨-, ⟨cellB, hcB, hoB, hclB⟩, hPc⟩ := hp
  obtain ⟨hfc, kB, hkB, -⟩ := hat
  cases hfc.symm.trans hclB
  intro T hT X
  rcases vx_callIF X hx (C := C) (bytes := bytes) (maxL := maxL) (ret := ret) ho cw.link cw.decl cw.face cw.sel cw.inst cw.pub cw.unh cw.cast cw.code cw.notMH hK (by rw [hT]; exact hcB) hoB hclB hkB hg (hsize.trans hml.symm) (argsL := As) (rest := rest) (fun sig h => hn.trans (cw.len sig h)) hstack hW (by rw [hb]; exact hdg)
    (fun vm₁ hW₁ => ⟨hf.1, hf.2, hPc (T.setVm vm₁) hT hW₁⟩) with ⟨v, vm₁, ⟨U', l2, c2, s2⟩, hW₁, X', ⟨g', mk, t, L, e1, e2, hq, h1, hL, h2, h3⟩, st⟩ | ⟨q, vm₁, ⟨U', l2, c2, s2⟩, hW₁, X', ⟨g', mk, t, L, E, ce, e1, e2, hq, hce, hcv, hcl, h1, hL, h2, h3⟩, st⟩
  · dsimp only [Pt.U, Pt.locs, Pt.cells, Pt.slots] at X' e1 e2 h1 h2 h3 st
    subst h1; subst h2; subst h3
    exact Or.inl ⟨v, (T.setVm vm₁).calling g' mk (Value.ref b :: As).toArray, t, U', L, hT, X', hL, e1, e2, hq, st⟩
  · dsimp only [Pt.U, Pt.locs, Pt.cells, Pt.slots] at X' e1 e2 h1 h2 h3 st hcl
    subst h1; subst h2; subst h3
    exact Or.inr ⟨q, (T.setVm vm₁).calling g' mk (Value.ref b :: As).toArray, t, U', L, E, ce, hT, X', hL, e1, e2, hq, hce, hcv, vx_cls hW₁ hcl, st⟩
theorem vx_callFv {S SX : Type} {post : S → Prop} {px : SX → Prop} {B : S → State → Prop} {BX : String → SX → State → Prop} {AX : Nat → Prop} (hr : vx_Run5 p l e R s m args below meth c H locs cells slots mc ms (F0 m pc ls st0) rest (va_Qv post B A1 a) (vx_X px BX AX) free) (hS : va_S A0 H0 H locs) (hA : ∀ q, q < H.size → A1 q → A0 q) (hf : ∀ q, free q → A0 q) (hAX : ∀ q, q < H.size → AX q → A0 q)
    (kx : ∀ (E : String) (ce : Cell) (q9 : Addr) (u : SX) (t : State) (H1 : Heap) (locs1 : List Loc), t.heap = H1 → s.vm.Alike t.vm → px u → BX E u t → H.size ≤ H1.size → (∀ q : Nat, q < H.size → ¬ AX q → H1[q]? = H[q]?) → va_S A0 H0 H1 locs1 → H1[q9]? = some ce → ce.vm = .none → s.vm.findClass E = some ce.cls → vx_W p l e R s m args below meth c H1 locs1 (cells + mc) (slots + ms) Q (F0 m pc ls rest) q9)
    (kk : ∀ (u : S) (t : State) (H1 : Heap) (locs1 : List Loc), t.heap = H1 → s.vm.Alike t.vm → post u → B u t → H.size ≤ H1.size → (∀ q : Nat, q < H.size → ¬ A1 q → H1[q]? = H[q]?) → va_S A0 H0 H1 locs1 → W p l e R s m args below meth c H1 locs1 (cells + mc) (slots + ms) Q (F0 m (pc + 5) ls (rest))) : W p l e R s m args below meth c H locs cells slots Q (F0 m pc ls st0) := by
  intro T hT X
  rcases hr T hT X with ⟨v, st₀, t, T', L, h0, X', hL, e1, e2, ⟨⟨u, hv, hp, hb⟩, hF⟩, st⟩ | ⟨q, st₀, t, T', L, E, ce, h0, X', hL, e1, e2, ⟨u, hp, hb, hF⟩, hce, hcv, hcl, st⟩
  · cases hv
    obtain ⟨k1, k2, k3⟩ := vx_keep h0 e1 hS hA hf hL hF
    obtain ⟨t2, a1, b1⟩ := kk u t T'.heap (locs ++ L) e1.symm (by rw [← e2]; exact X'.warmed.alike) hp hb k1 k2 k3 T' rfl X'
    exact ⟨t2, st t2 a1, b1⟩
  · obtain ⟨k1, k2, k3⟩ := vx_keep h0 e1 hS hAX hf hL hF
    obtain ⟨t2, a1, b1⟩ := kx E ce q u t T'.heap (locs ++ L) e1.symm (by rw [← e2]; exact X'.warmed.alike) hp hb k1 k2 k3 (by rw [e1]; exact hce) hcv hcl T' rfl X'
    exact ⟨t2, st.trans a1, b1⟩
theorem vx_callFi {S SX : Type} {post : Int32 → S → Prop} {px : SX → Prop} {B : S → State → Prop} {BX : String → SX → State → Prop} {AX : Nat → Prop} (hr : vx_Run5 p l e R s m args below meth c H locs cells slots mc ms (F0 m pc ls st0) rest (va_Qi post B A1 a) (vx_X px BX AX) free) (hS : va_S A0 H0 H locs) (hA : ∀ q, q < H.size → A1 q → A0 q) (hf : ∀ q, free q → A0 q) (hAX : ∀ q, q < H.size → AX q → A0 q)
    (kx : ∀ (E : String) (ce : Cell) (q9 : Addr) (u : SX) (t : State) (H1 : Heap) (locs1 : List Loc), t.heap = H1 → s.vm.Alike t.vm → px u → BX E u t → H.size ≤ H1.size → (∀ q : Nat, q < H.size → ¬ AX q → H1[q]? = H[q]?) → va_S A0 H0 H1 locs1 → H1[q9]? = some ce → ce.vm = .none → s.vm.findClass E = some ce.cls → vx_W p l e R s m args below meth c H1 locs1 (cells + mc) (slots + ms) Q (F0 m pc ls rest) q9)
    (kk : ∀ (r : Int32) (u : S) (t : State) (H1 : Heap) (locs1 : List Loc), t.heap = H1 → s.vm.Alike t.vm → post r u → B u t → H.size ≤ H1.size → (∀ q : Nat, q < H.size → ¬ A1 q → H1[q]? = H[q]?) → va_S A0 H0 H1 locs1 → W p l e R s m args below meth c H1 locs1 (cells + mc) (slots + ms) Q (F0 m (pc + 5) ls (.int r :: rest))) : W p l e R s m args below meth c H locs cells slots Q (F0 m pc ls st0) := by
  intro T hT X
  rcases hr T hT X with ⟨v, st₀, t, T', L, h0, X', hL, e1, e2, ⟨⟨r, u, hv, hp, hb⟩, hF⟩, st⟩ | ⟨q, st₀, t, T', L, E, ce, h0, X', hL, e1, e2, ⟨u, hp, hb, hF⟩, hce, hcv, hcl, st⟩
  · cases hv
    obtain ⟨k1, k2, k3⟩ := vx_keep h0 e1 hS hA hf hL hF
    obtain ⟨t2, a1, b1⟩ := kk r u t T'.heap (locs ++ L) e1.symm (by rw [← e2]; exact X'.warmed.alike) hp hb k1 k2 k3 T' rfl X'
    exact ⟨t2, st t2 a1, b1⟩
  · obtain ⟨k1, k2, k3⟩ := vx_keep h0 e1 hS hAX hf hL hF
    obtain ⟨t2, a1, b1⟩ := kx E ce q u t T'.heap (locs ++ L) e1.symm (by rw [← e2]; exact X'.warmed.alike) hp hb k1 k2 k3 (by rw [e1]; exact hce) hcv hcl T' rfl X'
    exact ⟨t2, st.trans a1, b1⟩
theorem vx_callFl {S SX : Type} {post : Int64 → S → Prop} {px : SX → Prop} {B : S → State → Prop} {BX : String → SX → State → Prop} {AX : Nat → Prop} (hr : vx_Run5 p l e R s m args below meth c H locs cells slots mc ms (F0 m pc ls st0) rest (va_Ql post B A1 a) (vx_X px BX AX) free) (hS : va_S A0 H0 H locs) (hA : ∀ q, q < H.size → A1 q → A0 q) (hf : ∀ q, free q → A0 q) (hAX : ∀ q, q < H.size → AX q → A0 q)
    (kx : ∀ (E : String) (ce : Cell) (q9 : Addr) (u : SX) (t : State) (H1 : Heap) (locs1 : List Loc), t.heap = H1 → s.vm.Alike t.vm → px u → BX E u t → H.size ≤ H1.size → (∀ q : Nat, q < H.size → ¬ AX q → H1[q]? = H[q]?) → va_S A0 H0 H1 locs1 → H1[q9]? = some ce → ce.vm = .none → s.vm.findClass E = some ce.cls → vx_W p l e R s m args below meth c H1 locs1 (cells + mc) (slots + ms) Q (F0 m pc ls rest) q9)
    (kk : ∀ (r : Int64) (u : S) (t : State) (H1 : Heap) (locs1 : List Loc), t.heap = H1 → s.vm.Alike t.vm → post r u → B u t → H.size ≤ H1.size → (∀ q : Nat, q < H.size → ¬ A1 q → H1[q]? = H[q]?) → va_S A0 H0 H1 locs1 → W p l e R s m args below meth c H1 locs1 (cells + mc) (slots + ms) Q (F0 m (pc + 5) ls (.long r :: rest))) : W p l e R s m args below meth c H locs cells slots Q (F0 m pc ls st0) := by
  intro T hT X
  rcases hr T hT X with ⟨v, st₀, t, T', L, h0, X', hL, e1, e2, ⟨⟨r, u, hv, hp, hb⟩, hF⟩, st⟩ | ⟨q, st₀, t, T', L, E, ce, h0, X', hL, e1, e2, ⟨u, hp, hb, hF⟩, hce, hcv, hcl, st⟩
  · cases hv
    obtain ⟨k1, k2, k3⟩ := vx_keep h0 e1 hS hA hf hL hF
    obtain ⟨t2, a1, b1⟩ := kk r u t T'.heap (locs ++ L) e1.symm (by rw [← e2]; exact X'.warmed.alike) hp hb k1 k2 k3 T' rfl X'
    exact ⟨t2, st t2 a1, b1⟩
  · obtain ⟨k1, k2, k3⟩ := vx_keep h0 e1 hS hAX hf hL hF
    obtain ⟨t2, a1, b1⟩ := kx E ce q u t T'.heap (locs ++ L) e1.symm (by rw [← e2]; exact X'.warmed.alike) hp hb k1 k2 k3 (by rw [e1]; exact hce) hcv hcl T' rfl X'
    exact ⟨t2, st.trans a1, b1⟩
theorem vx_callFf {S SX : Type} {post : UInt32 → S → Prop} {px : SX → Prop} {B : S → State → Prop} {BX : String → SX → State → Prop} {AX : Nat → Prop} (hr : vx_Run5 p l e R s m args below meth c H locs cells slots mc ms (F0 m pc ls st0) rest (va_Qf post B A1 a) (vx_X px BX AX) free) (hS : va_S A0 H0 H locs) (hA : ∀ q, q < H.size → A1 q → A0 q) (hf : ∀ q, free q → A0 q) (hAX : ∀ q, q < H.size → AX q → A0 q)
    (kx : ∀ (E : String) (ce : Cell) (q9 : Addr) (u : SX) (t : State) (H1 : Heap) (locs1 : List Loc), t.heap = H1 → s.vm.Alike t.vm → px u → BX E u t → H.size ≤ H1.size → (∀ q : Nat, q < H.size → ¬ AX q → H1[q]? = H[q]?) → va_S A0 H0 H1 locs1 → H1[q9]? = some ce → ce.vm = .none → s.vm.findClass E = some ce.cls → vx_W p l e R s m args below meth c H1 locs1 (cells + mc) (slots + ms) Q (F0 m pc ls rest) q9)
    (kk : ∀ (r : UInt32) (u : S) (t : State) (H1 : Heap) (locs1 : List Loc), t.heap = H1 → s.vm.Alike t.vm → post r u → B u t → H.size ≤ H1.size → (∀ q : Nat, q < H.size → ¬ A1 q → H1[q]? = H[q]?) → va_S A0 H0 H1 locs1 → W p l e R s m args below meth c H1 locs1 (cells + mc) (slots + ms) Q (F0 m (pc + 5) ls (.float r :: rest))) : W p l e R s m args below meth c H locs cells slots Q (F0 m pc ls st0) := by
  intro T hT X
  rcases hr T hT X with ⟨v, st₀, t, T', L, h0, X', hL, e1, e2, ⟨⟨r, u, hv, hp, hb⟩, hF⟩, st⟩ | ⟨q, st₀, t, T', L, E, ce, h0, X', hL, e1, e2, ⟨u, hp, hb, hF⟩, hce, hcv, hcl, st⟩
  · cases hv
    obtain ⟨k1, k2, k3⟩ := vx_keep h0 e1 hS hA hf hL hF
    obtain ⟨t2, a1, b1⟩ := kk r u t T'.heap (locs ++ L) e1.symm (by rw [← e2]; exact X'.warmed.alike) hp hb k1 k2 k3 T' rfl X'
    exact ⟨t2, st t2 a1, b1⟩
  · obtain ⟨k1, k2, k3⟩ := vx_keep h0 e1 hS hAX hf hL hF
    obtain ⟨t2, a1, b1⟩ := kx E ce q u t T'.heap (locs ++ L) e1.symm (by rw [← e2]; exact X'.warmed.alike) hp hb k1 k2 k3 (by rw [e1]; exact hce) hcv hcl T' rfl X'
    exact ⟨t2, st.trans a1, b1⟩
theorem vx_callFd {S SX : Type} {post : UInt64 → S → Prop} {px : SX → Prop} {B : S → State → Prop} {BX : String → SX → State → Prop} {AX : Nat → Prop} (hr : vx_Run5 p l e R s m args below meth c H locs cells slots mc ms (F0 m pc ls st0) rest (va_Qd post B A1 a) (vx_X px BX AX) free) (hS : va_S A0 H0 H locs) (hA : ∀ q, q < H.size → A1 q → A0 q) (hf : ∀ q, free q → A0 q) (hAX : ∀ q, q < H.size → AX q → A0 q)
    (kx : ∀ (E : String) (ce : Cell) (q9 : Addr) (u : SX) (t : State) (H1 : Heap) (locs1 : List Loc), t.heap = H1 → s.vm.Alike t.vm → px u → BX E u t → H.size ≤ H1.size → (∀ q : Nat, q < H.size → ¬ AX q → H1[q]? = H[q]?) → va_S A0 H0 H1 locs1 → H1[q9]? = some ce → ce.vm = .none → s.vm.findClass E = some ce.cls → vx_W p l e R s m args below meth c H1 locs1 (cells + mc) (slots + ms) Q (F0 m pc ls rest) q9)
    (kk : ∀ (r : UInt64) (u : S) (t : State) (H1 : Heap) (locs1 : List Loc), t.heap = H1 → s.vm.Alike t.vm → post r u → B u t → H.size ≤ H1.size → (∀ q : Nat, q < H.size → ¬ A1 q → H1[q]? = H[q]?) → va_S A0 H0 H1 locs1 → W p l e R s m args below meth c H1 locs1 (cells + mc) (slots + ms) Q (F0 m (pc + 5) ls (.double r :: rest))) : W p l e R s m args below meth c H locs cells slots Q (F0 m pc ls st0) := by
  intro T hT X
  rcases hr T hT X with ⟨v, st₀, t, T', L, h0, X', hL, e1, e2, ⟨⟨r, u, hv, hp, hb⟩, hF⟩, st⟩ | ⟨q, st₀, t, T', L, E, ce, h0, X', hL, e1, e2, ⟨u, hp, hb, hF⟩, hce, hcv, hcl, st⟩
  · cases hv
    obtain ⟨k1, k2, k3⟩ := vx_keep h0 e1 hS hA hf hL hF
    obtain ⟨t2, a1, b1⟩ := kk r u t T'.heap (locs ++ L) e1.symm (by rw [← e2]; exact X'.warmed.alike) hp hb k1 k2 k3 T' rfl X'
    exact ⟨t2, st t2 a1, b1⟩
  · obtain ⟨k1, k2, k3⟩ := vx_keep h0 e1 hS hAX hf hL hF
    obtain ⟨t2, a1, b1⟩ := kx E ce q u t T'.heap (locs ++ L) e1.symm (by rw [← e2]; exact X'.warmed.alike) hp hb k1 k2 k3 (by rw [e1]; exact hce) hcv hcl T' rfl X'
    exact ⟨t2, st.trans a1, b1⟩
end
/-! ===== END ===== -/
/-! ===== BEGIN by an interface, a method with a table of its own that may throw (follows va_callIFW, va_runFW) ===== -/
section
variable {p : Program} {l : Launch} {e : Env} {R : Room} {s : State} {m : MethodId} {args : Array Value} {below : List Frame} {meth : Method} {c : Code} {H : Heap} {locs : List Loc} {cells slots : Nat}
theorem vx_callIFW {T : State} (X : Stand p l e R s m args below meth c T locs cells slots) (hexec : p.tables.exec = Jvm.exec) {own C : String} {index count : Nat} {x y : MethodName} {bytes : ByteArray} {maxL : Nat} {ret : Option FieldType} {hh : List (Nat × Nat × Nat × Nat)}
    (hown : s.vm.findClass own = some m.cls) (hlink : (Cond.methodLink own index x).before args s = true) (hdecl : (Cond.declares x).before args s = true) (hface : (Cond.interfaceMethod x.cls x.cls x.name x.desc).before args s = true)
    (hsel : (Cond.selects C x y).before args s = true) (hinst : (Cond.instanceMethod y).before args s = true) (hpub : (Cond.publicMethod y).before args s = true) (hunh : (Cond.unhidden C x.name x.desc).before args s = true)
    (hcast : (Cond.castable C x.cls).before args s = true) (hcode : (Cond.codeWith y bytes maxL ret hh).before args s = true) (hx : x.cls ≠ "java/lang/invoke/MethodHandle" ∧ x.cls ≠ "java/lang/invoke/VarHandle")
    {W : Nat} {Pre : Pt → Array Value → Prop} {Post : Pt → Array Value → Option Value → Pt → Prop} {PostX : Pt → Array Value → Addr → Pt → Prop} (hK : vx_Back l R p e below s args y 5 W Pre Post PostX)
    {b : Addr} {cellB : Cell} {kB : Class} (hcell : T.heap[b]? = some cellB) (hobj : cellB.vm.isStatics = false) (hcls : s.vm.findClass C = some cellB.cls) (hkB : s.vm.classes[cellB.cls]? = some kB)
    {g : JFrame} (hg : g.method = m) (hsize : g.locals.size = c.maxLocals) {argsL rest : List Value} (hlen : ∀ sig, parseMethodDescriptor x.desc = some sig → argsL.length = sig.parameters.length)
    (hstack : g.stack = argsL.reverse ++ .ref b :: rest) (hW : 2 * g.monitorRoom + (rest.map fun v => v.category).sum ≤ W) (hdg : decode c.code g.pc = .ok (.invokeinterface index count, 5))
    (hpre : ∀ vm₁, s.WarmedH vm₁ → Pre ⟨T.setVm vm₁, locs, cells, slots⟩ (Value.ref b :: argsL).toArray) :
    (∃ (v : Option Value) (vm₁ : Vm) (B : Pt), s.WarmedH vm₁ ∧ Stand p l e R s m args below meth c B.U B.locs B.cells B.slots ∧ Post ⟨T.setVm vm₁, locs, cells, slots⟩ (Value.ref b :: argsL).toArray v B ∧
      ∀ target, Steps p.tables e below (B.U.setTop { g with pc := g.pc + 5, stack := v.toList ++ rest }) target → Steps p.tables e below (T.setTop g) target) ∨
    (∃ (q : Addr) (vm₁ : Vm) (B : Pt), s.WarmedH vm₁ ∧ Stand p l e R s m args below meth c B.U B.locs B.cells B.slots ∧ PostX ⟨T.setVm vm₁, locs, cells, slots⟩ (Value.ref b :: argsL).toArray q B ∧
      Steps p.tables e below (T.setTop g) ((B.U.setTop { g with stack := rest }).pushFrame (.throwing q))) := by
  obtain ⟨r0, r, hn, hrm, hstR, hsigR⟩ := Cond.declares_spec hdecl
  obtain ⟨cL, kL, r1, hcL, hkL, hiL, hfoundL, hn1⟩ := Cond.interfaceMethod_spec hface
  cases hn.symm.trans hn1
  have hr0cls : r0.cls = cL := Option.some.inj ((findClass_of_methodNamed hn).symm.trans hcL)
  obtain ⟨hnameR, hdescR⟩ := name_of_methodNamed hn hrm
  obtain ⟨mk, methM, hnamed, hmethM, -, habM⟩ := Cond.instanceMethod_spec hinst
  obtain ⟨c2, r2, m2, q1, q2, q3, q4, -⟩ := Cond.selects_spec hsel
  cases hcls.symm.trans q1
  cases hfoundL.symm.trans q2
  cases hnamed.symm.trans q3
  have hselP : selectMethod e.platform s.vm cellB.cls r0 = .method mk := by rw [Launch.admits_selectMethod X.admits]; exact q4
  have hpubM : hasFlag methM.accessFlags Acc.public_ = true := Cond.publicMethod_spec hnamed hmethM hpub
  have hway : ((cellB.cls :: s.vm.superclasses cellB.cls).any fun k => (declaredIn s.vm r.name r.desc k).any fun (_, z) => z.isPrivate || z.isStatic) = false := by
    rw [hnameR, hdescR]; exact Cond.unhidden_spec hcls hunh
  obtain ⟨c3, t3, w1, w2, w3⟩ := Cond.castable_spec hcast
  cases hcls.symm.trans w1
  cases hcL.symm.trans w2
  obtain ⟨vm₁, X₁, hstep₁⟩ := X.invokeinterface hexec hown hlink hn hrm hstR (by rw [hr0cls]; exact hkL) hiL hx (a := b) (cell := cellB) (kcell := kB) hcell
    (fun z h => by rw [h] at hobj; cases hobj) hkB (by rw [hr0cls]; exact w3) hselP hmethM hway hpubM habM (g := g) hg (argsL := argsL) (rest := rest) (hlen _ hsigR) hstack hdg
  rcases hK m meth c ⟨T.setVm vm₁, locs, cells, slots⟩ { g with stack := rest } (.invokeinterface index count) mk (Value.ref b :: argsL).toArray X₁ hg hsize hdg hW (X₁.named hnamed) (hpre vm₁ X₁.warmed) with ⟨v, B, X', hpost, hsteps⟩ | ⟨q, B, X', hpost, hsteps⟩
  · exact Or.inl ⟨v, vm₁, B, X₁.warmed, X', hpost, fun target h => hstep₁ _ fun acts => by rw [doInvoke_state]; exact hsteps.trans h⟩
  · exact Or.inr ⟨q, vm₁, B, X₁.warmed, X', hpost, hstep₁ _ fun acts => by rw [doInvoke_state]; exact hsteps⟩
theorem vx_runFW {x y : MethodName} {bytes cc : ByteArray} {maxL nL mc ms n index count : Nat} {ret : Option FieldType} {hh : List (Nat × Nat × Nat × Nat)} {ws : List Cond} {rm : Room} {Pc : Array Value → State → Prop} {Qc : Array Value → State → Outcome → State → Prop} {XC : String → State → State → Prop} {free : Addr → Prop} {Ts : List Cond} {own C : String} {cC : ClassId} {b : Addr} {As rest : List Value} {g : JFrame}
    (hat : ClassAt s C cC) (S : CallFix p m c cc nL s args Ts own) (hM : vx_Met l y ws rm Pc Qc XC mc ms free) (cw : va_CIW R s args own C index x y bytes maxL ret hh ws rm mc ms n) (hp : PreV s H C b Pc As)
    (hg : g.method = m) (hn : As.length = n) (hsize : g.locals.size = nL) (hstack : g.stack = As.reverse ++ .ref b :: rest) (hW : 2 * g.monitorRoom + (rest.map fun v => v.category).sum ≤ 8) (hdg : decode cc g.pc = .ok (.invokeinterface index count, 5)) (hf : cells + mc ≤ R.cells ∧ slots + ms ≤ R.slots) :
    vx_Run5 p l e R s m args below meth c H locs cells slots mc ms g rest (Qc (Value.ref b :: As).toArray) XC free := by
  obtain ⟨hrc, hrs, hfr, hlo, hws, hcw⟩ := cw.back
  have hini := cw.init
  have hK : vx_Back l R p e below s args y 5 8 (PreOf R mc ms Pc) (PostOf Qc mc ms free) (vx_Post XC mc ms free) := vx_backW (hh := hh) (bytes := bytes) (maxL := maxL) (ret := ret) hM hp.1 hrc hrs hfr hlo hws hcw (fun a' U hW => word_at hW (Or.inl (by first | rfl | simp [Cond.onTables, Cond.keeps, Cond.steady])) hini)
  obtain ⟨hx, hb, hml, ho, -⟩ := S
  obtain ⟨-, ⟨cellB, hcB, hoB, hclB⟩, hPc⟩ := hp
  obtain ⟨hfc, kB, hkB, -⟩ := hat
  cases hfc.symm.trans hclB
  intro T hT X
  rcases vx_callIFW X hx (C := C) (hh := hh) (bytes := bytes) (maxL := maxL) (ret := ret) ho cw.link cw.decl cw.face cw.sel cw.inst cw.pub cw.unh cw.cast cw.code cw.notMH hK (by rw [hT]; exact hcB) hoB hclB hkB hg (hsize.trans hml.symm) (argsL := As) (rest := rest) (fun sig h => hn.trans (cw.len sig h)) hstack hW (by rw [hb]; exact hdg)
    (fun vm₁ hW₁ => ⟨hf.1, hf.2, hPc (T.setVm vm₁) hT hW₁⟩) with ⟨v, vm₁, ⟨U', l2, c2, s2⟩, hW₁, X', ⟨g', mk, t, L, e1, e2, hq, h1, hL, h2, h3⟩, st⟩ | ⟨q, vm₁, ⟨U', l2, c2, s2⟩, hW₁, X', ⟨g', mk, t, L, E, ce, e1, e2, hq, hce, hcv, hcl, h1, hL, h2, h3⟩, st⟩
  · dsimp only [Pt.U, Pt.locs, Pt.cells, Pt.slots] at X' e1 e2 h1 h2 h3 st
    subst h1; subst h2; subst h3
    exact Or.inl ⟨v, (T.setVm vm₁).calling g' mk (Value.ref b :: As).toArray, t, U', L, hT, X', hL, e1, e2, hq, st⟩
  · dsimp only [Pt.U, Pt.locs, Pt.cells, Pt.slots] at X' e1 e2 h1 h2 h3 st hcl
    subst h1; subst h2; subst h3
    exact Or.inr ⟨q, (T.setVm vm₁).calling g' mk (Value.ref b :: As).toArray, t, U', L, E, ce, hT, X', hL, e1, e2, hq, hce, hcv, vx_cls hW₁ hcl, st⟩
end
/-! ===== END ===== -/
/-! ===== BEGIN .. of methods that hand back an object of the pool ===== -/
section
variable {p : Program} {l : Launch} {e : Env} {R : Room} {s : State} {m : MethodId} {args : Array Value} {below : List Frame} {meth : Method} {c : Code} {H : Heap} {locs : List Loc} {cells slots : Nat} {Q : State → Prop}
variable {mc ms : Nat} {free : Addr → Prop} {A0 A1 : Nat → Prop} {H0 : Heap} {a : Array Value} {pc : Nat} {ls : Array Slot} {st0 rest : List Value}
theorem vx_callq {S SX : Type} {post : Option Nat → S → Prop} {px : SX → Prop} {B : S → State → Prop} {BX : String → SX → State → Prop} {AX : Nat → Prop} (hr : vx_Run p l e R s m args below meth c H locs cells slots mc ms (F0 m pc ls st0) rest (va_Qq post B A1 a) (vx_X px BX AX) free) (hS : va_S A0 H0 H locs) (hA : ∀ q, q < H.size → A1 q → A0 q) (hf : ∀ q, free q → A0 q) (hAX : ∀ q, q < H.size → AX q → A0 q)
    (kx : ∀ (E : String) (ce : Cell) (q9 : Addr) (u : SX) (t : State) (H1 : Heap) (locs1 : List Loc), t.heap = H1 → s.vm.Alike t.vm → px u → BX E u t → H.size ≤ H1.size → (∀ q : Nat, q < H.size → ¬ AX q → H1[q]? = H[q]?) → va_S A0 H0 H1 locs1 → H1[q9]? = some ce → ce.vm = .none → s.vm.findClass E = some ce.cls → vx_W p l e R s m args below meth c H1 locs1 (cells + mc) (slots + ms) Q (F0 m pc ls rest) q9)
    (kk : ∀ (r : Option Nat) (u : S) (t : State) (H1 : Heap) (locs1 : List Loc), t.heap = H1 → s.vm.Alike t.vm → post r u → B u t → H.size ≤ H1.size → (∀ q : Nat, q < H.size → ¬ A1 q → H1[q]? = H[q]?) → va_S A0 H0 H1 locs1 → W p l e R s m args below meth c H1 locs1 (cells + mc) (slots + ms) Q (F0 m (pc + 3) ls (va_rf r :: rest))) : W p l e R s m args below meth c H locs cells slots Q (F0 m pc ls st0) := by
  intro T hT X
  rcases hr T hT X with ⟨v, st₀, t, T', L, h0, X', hL, e1, e2, ⟨⟨r, u, hv, hp, hb⟩, hF⟩, st⟩ | ⟨q, st₀, t, T', L, E, ce, h0, X', hL, e1, e2, ⟨u, hp, hb, hF⟩, hce, hcv, hcl, st⟩
  · cases hv
    obtain ⟨k1, k2, k3⟩ := vx_keep h0 e1 hS hA hf hL hF
    obtain ⟨t2, a1, b1⟩ := kk r u t T'.heap (locs ++ L) e1.symm (by rw [← e2]; exact X'.warmed.alike) hp hb k1 k2 k3 T' rfl X'
    exact ⟨t2, st t2 a1, b1⟩
  · obtain ⟨k1, k2, k3⟩ := vx_keep h0 e1 hS hAX hf hL hF
    obtain ⟨t2, a1, b1⟩ := kx E ce q u t T'.heap (locs ++ L) e1.symm (by rw [← e2]; exact X'.warmed.alike) hp hb k1 k2 k3 (by rw [e1]; exact hce) hcv hcl T' rfl X'
    exact ⟨t2, st.trans a1, b1⟩
end
/-! ===== END ===== -/
/-! ===== BEGIN .. a constant ===== -/
section
variable {p : Program} {l : Launch} {e : Env} {R : Room} {s : State} {m : MethodId} {args : Array Value} {below : List Frame} {meth : Method} {c : Code} {H : Heap} {locs : List Loc} {cells slots : Nat} {Q : State → Prop}
variable {mc ms : Nat} {free : Addr → Prop} {A0 A1 : Nat → Prop} {H0 : Heap} {a : Array Value} {pc : Nat} {ls : Array Slot} {st0 rest : List Value}
theorem vx_calle {ad : Nat → Nat} {S SX : Type} {post : Option Nat → S → Prop} {px : SX → Prop} {B : S → State → Prop} {BX : String → SX → State → Prop} {AX : Nat → Prop} (hr : vx_Run p l e R s m args below meth c H locs cells slots mc ms (F0 m pc ls st0) rest (va_Qe ad post B A1 a) (vx_X px BX AX) free) (hS : va_S A0 H0 H locs) (hA : ∀ q, q < H.size → A1 q → A0 q) (hf : ∀ q, free q → A0 q) (hAX : ∀ q, q < H.size → AX q → A0 q)
    (kx : ∀ (E : String) (ce : Cell) (q9 : Addr) (u : SX) (t : State) (H1 : Heap) (locs1 : List Loc), t.heap = H1 → s.vm.Alike t.vm → px u → BX E u t → H.size ≤ H1.size → (∀ q : Nat, q < H.size → ¬ AX q → H1[q]? = H[q]?) → va_S A0 H0 H1 locs1 → H1[q9]? = some ce → ce.vm = .none → s.vm.findClass E = some ce.cls → vx_W p l e R s m args below meth c H1 locs1 (cells + mc) (slots + ms) Q (F0 m pc ls rest) q9)
    (kk : ∀ (r : Option Nat) (u : S) (t : State) (H1 : Heap) (locs1 : List Loc), t.heap = H1 → s.vm.Alike t.vm → post r u → B u t → H.size ≤ H1.size → (∀ q : Nat, q < H.size → ¬ A1 q → H1[q]? = H[q]?) → va_S A0 H0 H1 locs1 → W p l e R s m args below meth c H1 locs1 (cells + mc) (slots + ms) Q (F0 m (pc + 3) ls (va_re ad r :: rest))) : W p l e R s m args below meth c H locs cells slots Q (F0 m pc ls st0) := by
  intro T hT X
  rcases hr T hT X with ⟨v, st₀, t, T', L, h0, X', hL, e1, e2, ⟨⟨r, u, hv, hp, hb⟩, hF⟩, st⟩ | ⟨q, st₀, t, T', L, E, ce, h0, X', hL, e1, e2, ⟨u, hp, hb, hF⟩, hce, hcv, hcl, st⟩
  · cases hv
    obtain ⟨k1, k2, k3⟩ := vx_keep h0 e1 hS hA hf hL hF
    obtain ⟨t2, a1, b1⟩ := kk r u t T'.heap (locs ++ L) e1.symm (by rw [← e2]; exact X'.warmed.alike) hp hb k1 k2 k3 T' rfl X'
    exact ⟨t2, st t2 a1, b1⟩
  · obtain ⟨k1, k2, k3⟩ := vx_keep h0 e1 hS hAX hf hL hF
    obtain ⟨t2, a1, b1⟩ := kx E ce q u t T'.heap (locs ++ L) e1.symm (by rw [← e2]; exact X'.warmed.alike) hp hb k1 k2 k3 (by rw [e1]; exact hce) hcv hcl T' rfl X'
    exact ⟨t2, st.trans a1, b1⟩
end
/-! ===== END ===== -/
/-! ===== BEGIN .. by an interface, an object ===== -/
section
variable {p : Program} {l : Launch} {e : Env} {R : Room} {s : State} {m : MethodId} {args : Array Value} {below : List Frame} {meth : Method} {c : Code} {H : Heap} {locs : List Loc} {cells slots : Nat} {Q : State → Prop}
variable {mc ms : Nat} {free : Addr → Prop} {A0 A1 : Nat → Prop} {H0 : Heap} {a : Array Value} {pc : Nat} {ls : Array Slot} {st0 rest : List Value}
theorem vx_callFq {S SX : Type} {post : Option Nat → S → Prop} {px : SX → Prop} {B : S → State → Prop} {BX : String → SX → State → Prop} {AX : Nat → Prop} (hr : vx_Run5 p l e R s m args below meth c H locs cells slots mc ms (F0 m pc ls st0) rest (va_Qq post B A1 a) (vx_X px BX AX) free) (hS : va_S A0 H0 H locs) (hA : ∀ q, q < H.size → A1 q → A0 q) (hf : ∀ q, free q → A0 q) (hAX : ∀ q, q < H.size → AX q → A0 q)
    (kx : ∀ (E : String) (ce : Cell) (q9 : Addr) (u : SX) (t : State) (H1 : Heap) (locs1 : List Loc), t.heap = H1 → s.vm.Alike t.vm → px u → BX E u t → H.size ≤ H1.size → (∀ q : Nat, q < H.size → ¬ AX q → H1[q]? = H[q]?) → va_S A0 H0 H1 locs1 → H1[q9]? = some ce → ce.vm = .none → s.vm.findClass E = some ce.cls → vx_W p l e R s m args below meth c H1 locs1 (cells + mc) (slots + ms) Q (F0 m pc ls rest) q9)
    (kk : ∀ (r : Option Nat) (u : S) (t : State) (H1 : Heap) (locs1 : List Loc), t.heap = H1 → s.vm.Alike t.vm → post r u → B u t → H.size ≤ H1.size → (∀ q : Nat, q < H.size → ¬ A1 q → H1[q]? = H[q]?) → va_S A0 H0 H1 locs1 → W p l e R s m args below meth c H1 locs1 (cells + mc) (slots + ms) Q (F0 m (pc + 5) ls (va_rf r :: rest))) : W p l e R s m args below meth c H locs cells slots Q (F0 m pc ls st0) := by
  intro T hT X
  rcases hr T hT X with ⟨v, st₀, t, T', L, h0, X', hL, e1, e2, ⟨⟨r, u, hv, hp, hb⟩, hF⟩, st⟩ | ⟨q, st₀, t, T', L, E, ce, h0, X', hL, e1, e2, ⟨u, hp, hb, hF⟩, hce, hcv, hcl, st⟩
  · cases hv
    obtain ⟨k1, k2, k3⟩ := vx_keep h0 e1 hS hA hf hL hF
    obtain ⟨t2, a1, b1⟩ := kk r u t T'.heap (locs ++ L) e1.symm (by rw [← e2]; exact X'.warmed.alike) hp hb k1 k2 k3 T' rfl X'
    exact ⟨t2, st t2 a1, b1⟩
  · obtain ⟨k1, k2, k3⟩ := vx_keep h0 e1 hS hAX hf hL hF
    obtain ⟨t2, a1, b1⟩ := kx E ce q u t T'.heap (locs ++ L) e1.symm (by rw [← e2]; exact X'.warmed.alike) hp hb k1 k2 k3 (by rw [e1]; exact hce) hcv hcl T' rfl X'
    exact ⟨t2, st.trans a1, b1⟩
end
/-! ===== END ===== -/
/-! ===== BEGIN .. by an interface, a constant ===== -/
section
variable {p : Program} {l : Launch} {e : Env} {R : Room} {s : State} {m : MethodId} {args : Array Value} {below : List Frame} {meth : Method} {c : Code} {H : Heap} {locs : List Loc} {cells slots : Nat} {Q : State → Prop}
variable {mc ms : Nat} {free : Addr → Prop} {A0 A1 : Nat → Prop} {H0 : Heap} {a : Array Value} {pc : Nat} {ls : Array Slot} {st0 rest : List Value}
theorem vx_callFe {ad : Nat → Nat} {S SX : Type} {post : Option Nat → S → Prop} {px : SX → Prop} {B : S → State → Prop} {BX : String → SX → State → Prop} {AX : Nat → Prop} (hr : vx_Run5 p l e R s m args below meth c H locs cells slots mc ms (F0 m pc ls st0) rest (va_Qe ad post B A1 a) (vx_X px BX AX) free) (hS : va_S A0 H0 H locs) (hA : ∀ q, q < H.size → A1 q → A0 q) (hf : ∀ q, free q → A0 q) (hAX : ∀ q, q < H.size → AX q → A0 q)
    (kx : ∀ (E : String) (ce : Cell) (q9 : Addr) (u : SX) (t : State) (H1 : Heap) (locs1 : List Loc), t.heap = H1 → s.vm.Alike t.vm → px u → BX E u t → H.size ≤ H1.size → (∀ q : Nat, q < H.size → ¬ AX q → H1[q]? = H[q]?) → va_S A0 H0 H1 locs1 → H1[q9]? = some ce → ce.vm = .none → s.vm.findClass E = some ce.cls → vx_W p l e R s m args below meth c H1 locs1 (cells + mc) (slots + ms) Q (F0 m pc ls rest) q9)
    (kk : ∀ (r : Option Nat) (u : S) (t : State) (H1 : Heap) (locs1 : List Loc), t.heap = H1 → s.vm.Alike t.vm → post r u → B u t → H.size ≤ H1.size → (∀ q : Nat, q < H.size → ¬ A1 q → H1[q]? = H[q]?) → va_S A0 H0 H1 locs1 → W p l e R s m args below meth c H1 locs1 (cells + mc) (slots + ms) Q (F0 m (pc + 5) ls (va_re ad r :: rest))) : W p l e R s m args below meth c H locs cells slots Q (F0 m pc ls st0) := by
  intro T hT X
  rcases hr T hT X with ⟨v, st₀, t, T', L, h0, X', hL, e1, e2, ⟨⟨r, u, hv, hp, hb⟩, hF⟩, st⟩ | ⟨q, st₀, t, T', L, E, ce, h0, X', hL, e1, e2, ⟨u, hp, hb, hF⟩, hce, hcv, hcl, st⟩
  · cases hv
    obtain ⟨k1, k2, k3⟩ := vx_keep h0 e1 hS hA hf hL hF
    obtain ⟨t2, a1, b1⟩ := kk r u t T'.heap (locs ++ L) e1.symm (by rw [← e2]; exact X'.warmed.alike) hp hb k1 k2 k3 T' rfl X'
    exact ⟨t2, st t2 a1, b1⟩
  · obtain ⟨k1, k2, k3⟩ := vx_keep h0 e1 hS hAX hf hL hF
    obtain ⟨t2, a1, b1⟩ := kx E ce q u t T'.heap (locs ++ L) e1.symm (by rw [← e2]; exact X'.warmed.alike) hp hb k1 k2 k3 (by rw [e1]; exact hce) hcv hcl T' rfl X'
    exact ⟨t2, st.trans a1, b1⟩
end
/-! ===== END ===== -/
/-! ===== BEGIN what the machine throws by itself: null at a field, at athrow ===== -/
section VXM2
variable {p : Program} {l : Launch} {e : Env} {R : Room} {s : State} {m : MethodId} {args : Array Value} {below : List Frame} {meth : Method} {c : Code} {H : Heap} {locs : List Loc} {cells slots : Nat}
variable {Q : State → Prop} {cc : ByteArray} {pc : Nat} {ls : Array Slot} {rest : List Value}
theorem vx_getfN {D cl tys} {own ref C : String} {T : u_T} {N ci index : Nat} {Ts : List Cond} (hexec : p.tables.exec = Jvm.exec) (hb : c.code = cc) (hts : ∀ w ∈ Ts, w.before args s = true) (hin : ∀ w ∈ u_ws C T N, w ∈ Ts) (hown : s.vm.findClass own = some m.cls) (hK : va_K D cl tys s) (hc : cl[ci]? = some (C, T, N)) (k : Nat) (hk : k < N) (hlink : (Cond.fieldLink own index ref (T k).2.1 (T k).2.2.1).before args s = true) (hsame : ∀ x, s.fieldFound? (T k).1 (T k).2.1 (T k).2.2.1 = some x → s.fieldFound? ref (T k).2.1 (T k).2.2.1 = some x) (hdg : decode cc pc = .ok (.getfield index, 3)) (kk : vx_NoteN p l e R s m args below meth c H locs cells slots Q (F0 m pc ls rest)) : W p l e R s m args below meth c H locs cells slots Q (F0 m pc ls (.null :: rest)) := by
  obtain ⟨hS, hfc, kC, hkC, -⟩ := hK.1 ci _ hc
  obtain ⟨cf, kf, fi, f, hi, -⟩ := hS k hk
  intro U hU X
  obtain ⟨vm', X1, st1⟩ := X.getfieldNull hexec hown hlink (hsame _ hi) (u_facts hfc hkC (u_lays hts hin hk) hi).1 (g := F0 m pc ls (.null :: rest)) rfl (rest := rest) rfl (by rw [hb]; exact hdg)
  obtain ⟨t, st, q⟩ := kk (U.setVm vm') hU X1
  exact ⟨t, st1 t st, q⟩
theorem vx_getfNN {D cl tys} {own ref C host : String} {T : u_T} {N ci index : Nat} {Ts : List Cond} (hexec : p.tables.exec = Jvm.exec) (hb : c.code = cc) (hts : ∀ w ∈ Ts, w.before args s = true) (hin : ∀ w ∈ u_ws C T N, w ∈ Ts) (hown : s.vm.findClass own = some m.cls) (hK : va_K D cl tys s) (hc : cl[ci]? = some (C, T, N)) (k : Nat) (hk : k < N) (hlink : (Cond.fieldLinkNest own index ref (T k).2.1 (T k).2.2.1 host).before args s = true) (hsame : ∀ x, s.fieldFound? (T k).1 (T k).2.1 (T k).2.2.1 = some x → s.fieldFound? ref (T k).2.1 (T k).2.2.1 = some x) (hdg : decode cc pc = .ok (.getfield index, 3)) (kk : vx_NoteN p l e R s m args below meth c H locs cells slots Q (F0 m pc ls rest)) : W p l e R s m args below meth c H locs cells slots Q (F0 m pc ls (.null :: rest)) := by
  obtain ⟨hS, hfc, kC, hkC, -⟩ := hK.1 ci _ hc
  obtain ⟨cf, kf, fi, f, hi, -⟩ := hS k hk
  intro U hU X
  obtain ⟨vm', X1, st1⟩ := X.getfieldNullNest hexec hown hlink (hsame _ hi) (u_facts hfc hkC (u_lays hts hin hk) hi).1 (g := F0 m pc ls (.null :: rest)) rfl (rest := rest) rfl (by rw [hb]; exact hdg)
  obtain ⟨t, st, q⟩ := kk (U.setVm vm') hU X1
  exact ⟨t, st1 t st, q⟩
theorem vx_putfN {D cl tys} {own ref C : String} {T : u_T} {N ci index : Nat} {Ts : List Cond} (hexec : p.tables.exec = Jvm.exec) (hb : c.code = cc) (hts : ∀ w ∈ Ts, w.before args s = true) (hin : ∀ w ∈ u_ws C T N, w ∈ Ts) (hown : s.vm.findClass own = some m.cls) (hK : va_K D cl tys s) (hc : cl[ci]? = some (C, T, N)) (k : Nat) (hk : k < N) (hlink : (Cond.fieldLink own index ref (T k).2.1 (T k).2.2.1).before args s = true) (hsame : ∀ x, s.fieldFound? (T k).1 (T k).2.1 (T k).2.2.1 = some x → s.fieldFound? ref (T k).2.1 (T k).2.2.1 = some x) (hfin : (T k).2.2.2 = false) {v : Value} (hdg : decode cc pc = .ok (.putfield index, 3)) (kk : vx_NoteN p l e R s m args below meth c H locs cells slots Q (F0 m pc ls rest)) : W p l e R s m args below meth c H locs cells slots Q (F0 m pc ls (v :: .null :: rest)) := by
  obtain ⟨hS, hfc, kC, hkC, -⟩ := hK.1 ci _ hc
  obtain ⟨cf, kf, fi, f, hi, -⟩ := hS k hk
  have hlay := hts _ (hin _ (u_in_lay hk))
  unfold u_lay at hlay
  rw [if_neg (by rw [hfin]; decide)] at hlay
  obtain ⟨c9, k9, cf9, kf9, fi9, f9, -, -, hi9, hst9, hnf9, -⟩ := Cond.lays_spec hlay
  cases hi.symm.trans hi9
  intro U hU X
  obtain ⟨vm', X1, st1⟩ := X.putfieldNull hexec hown hlink (hsame _ hi) hst9 hnf9 (g := F0 m pc ls (v :: .null :: rest)) rfl (v := v) (rest := rest) rfl (by rw [hb]; exact hdg)
  obtain ⟨t, st, q⟩ := kk (U.setVm vm') hU X1
  exact ⟨t, st1 t st, q⟩
theorem vx_putfNN {D cl tys} {own ref C host : String} {T : u_T} {N ci index : Nat} {Ts : List Cond} (hexec : p.tables.exec = Jvm.exec) (hb : c.code = cc) (hts : ∀ w ∈ Ts, w.before args s = true) (hin : ∀ w ∈ u_ws C T N, w ∈ Ts) (hown : s.vm.findClass own = some m.cls) (hK : va_K D cl tys s) (hc : cl[ci]? = some (C, T, N)) (k : Nat) (hk : k < N) (hlink : (Cond.fieldLinkNest own index ref (T k).2.1 (T k).2.2.1 host).before args s = true) (hsame : ∀ x, s.fieldFound? (T k).1 (T k).2.1 (T k).2.2.1 = some x → s.fieldFound? ref (T k).2.1 (T k).2.2.1 = some x) (hfin : (T k).2.2.2 = false) {v : Value} (hdg : decode cc pc = .ok (.putfield index, 3)) (kk : vx_NoteN p l e R s m args below meth c H locs cells slots Q (F0 m pc ls rest)) : W p l e R s m args below meth c H locs cells slots Q (F0 m pc ls (v :: .null :: rest)) := by
  obtain ⟨hS, hfc, kC, hkC, -⟩ := hK.1 ci _ hc
  obtain ⟨cf, kf, fi, f, hi, -⟩ := hS k hk
  have hlay := hts _ (hin _ (u_in_lay hk))
  unfold u_lay at hlay
  rw [if_neg (by rw [hfin]; decide)] at hlay
  obtain ⟨c9, k9, cf9, kf9, fi9, f9, -, -, hi9, hst9, hnf9, -⟩ := Cond.lays_spec hlay
  cases hi.symm.trans hi9
  intro U hU X
  obtain ⟨vm', X1, st1⟩ := X.putfieldNullNest hexec hown hlink (hsame _ hi) hst9 hnf9 (g := F0 m pc ls (v :: .null :: rest)) rfl (v := v) (rest := rest) rfl (by rw [hb]; exact hdg)
  obtain ⟨t, st, q⟩ := kk (U.setVm vm') hU X1
  exact ⟨t, st1 t st, q⟩
theorem vx_athrowN (hexec : p.tables.exec = Jvm.exec) (hb : c.code = cc) (hdg : decode cc pc = .ok (.athrow, 1)) (k : vx_NoteN p l e R s m args below meth c H locs cells slots Q (F0 m pc ls rest)) : W p l e R s m args below meth c H locs cells slots Q (F0 m pc ls (.null :: rest)) := by
  intro T hT X
  obtain ⟨t, st, q⟩ := k T hT X
  exact ⟨t, X.athrowNull hexec (g := F0 m pc ls (.null :: rest)) rfl (rest := rest) rfl (by rw [hb]; exact hdg) t st, q⟩
end VXM2
/-! ===== END ===== -/
end
section
-- ===== PART A: goes FIRST, ahead of the names: the tables' words, and 'selects' of the private methods out of them =====
/-- a private method of a class that the tables say can be made, by its rows of tables_1 -/
def lw_okq (q : MethodName × Nat) : Prop := (q.1.cls ≠ "java/lang/invoke/MethodHandle" ∧ q.1.cls ≠ "java/lang/invoke/VarHandle") ∧ Cond.instantiable q.1.cls q.2 ∈ tables_1 ∧ Cond.privateMethod q.1 ∈ tables_1 ∧ Cond.instanceMethod q.1 ∈ tables_1
theorem lw_p0 : lw_okq (⟨"AcreOffice$Orders", "accepts", "(C)Z"⟩, 11) := ⟨⟨by decide +kernel, by decide +kernel⟩, List.mem_of_getElem? (i := 111) (by decide +kernel), List.mem_of_getElem? (i := 189) (by decide +kernel), List.mem_of_getElem? (i := 190) (by decide +kernel)⟩
theorem lw_p1 : lw_okq (⟨"AcreOffice$Orders", "beginOrder", "(C)Z"⟩, 11) := ⟨⟨by decide +kernel, by decide +kernel⟩, List.mem_of_getElem? (i := 111) (by decide +kernel), List.mem_of_getElem? (i := 193) (by decide +kernel), List.mem_of_getElem? (i := 194) (by decide +kernel)⟩
theorem lw_p2 : lw_okq (⟨"AcreOffice$Orders", "noteKind", "(II)Z"⟩, 11) := ⟨⟨by decide +kernel, by decide +kernel⟩, List.mem_of_getElem? (i := 111) (by decide +kernel), List.mem_of_getElem? (i := 197) (by decide +kernel), List.mem_of_getElem? (i := 198) (by decide +kernel)⟩
theorem lw_p3 : lw_okq (⟨"AcreOffice$Orders", "endOrder", "(C)Z"⟩, 11) := ⟨⟨by decide +kernel, by decide +kernel⟩, List.mem_of_getElem? (i := 111) (by decide +kernel), List.mem_of_getElem? (i := 201) (by decide +kernel), List.mem_of_getElem? (i := 202) (by decide +kernel)⟩
theorem lw_p4 : lw_okq (⟨"AcreOffice$Orders", "readField", "(C)Z"⟩, 11) := ⟨⟨by decide +kernel, by decide +kernel⟩, List.mem_of_getElem? (i := 111) (by decide +kernel), List.mem_of_getElem? (i := 205) (by decide +kernel), List.mem_of_getElem? (i := 206) (by decide +kernel)⟩
theorem lw_p5 : lw_okq (⟨"AcreOffice$Orders", "note", "([II)V"⟩, 11) := ⟨⟨by decide +kernel, by decide +kernel⟩, List.mem_of_getElem? (i := 111) (by decide +kernel), List.mem_of_getElem? (i := 209) (by decide +kernel), List.mem_of_getElem? (i := 210) (by decide +kernel)⟩
theorem lw_p6 : lw_okq (⟨"AcreOffice$Orders", "beginNumber", "(CCI)Z"⟩, 11) := ⟨⟨by decide +kernel, by decide +kernel⟩, List.mem_of_getElem? (i := 111) (by decide +kernel), List.mem_of_getElem? (i := 213) (by decide +kernel), List.mem_of_getElem? (i := 214) (by decide +kernel)⟩
theorem lw_p7 : lw_okq (⟨"AcreOffice$Orders", "growNumber", "(CI)Z"⟩, 11) := ⟨⟨by decide +kernel, by decide +kernel⟩, List.mem_of_getElem? (i := 111) (by decide +kernel), List.mem_of_getElem? (i := 217) (by decide +kernel), List.mem_of_getElem? (i := 218) (by decide +kernel)⟩
theorem lw_p8 : lw_okq (⟨"AcreOffice$Orders", "endEast", "(C)Z"⟩, 11) := ⟨⟨by decide +kernel, by decide +kernel⟩, List.mem_of_getElem? (i := 111) (by decide +kernel), List.mem_of_getElem? (i := 221) (by decide +kernel), List.mem_of_getElem? (i := 222) (by decide +kernel)⟩
theorem lw_p9 : lw_okq (⟨"AcreOffice$Orders", "endNorth", "(C)Z"⟩, 11) := ⟨⟨by decide +kernel, by decide +kernel⟩, List.mem_of_getElem? (i := 111) (by decide +kernel), List.mem_of_getElem? (i := 225) (by decide +kernel), List.mem_of_getElem? (i := 226) (by decide +kernel)⟩
theorem lw_p10 : lw_okq (⟨"AcreOffice$Orders", "noteLength", "()Z"⟩, 11) := ⟨⟨by decide +kernel, by decide +kernel⟩, List.mem_of_getElem? (i := 111) (by decide +kernel), List.mem_of_getElem? (i := 229) (by decide +kernel), List.mem_of_getElem? (i := 230) (by decide +kernel)⟩
theorem lw_p11 : lw_okq (⟨"AcreOffice$Field", "cornerAfter", "(I)I"⟩, 3) := ⟨⟨by decide +kernel, by decide +kernel⟩, List.mem_of_getElem? (i := 60) (by decide +kernel), List.mem_of_getElem? (i := 319) (by decide +kernel), List.mem_of_getElem? (i := 320) (by decide +kernel)⟩
theorem lw_p12 : lw_okq (⟨"java/lang/Throwable", "fillInStackTrace", "(I)Ljava/lang/Throwable;"⟩, 6) := ⟨⟨by decide +kernel, by decide +kernel⟩, List.mem_of_getElem? (i := 399) (by decide +kernel), List.mem_of_getElem? (i := 397) (by decide +kernel), List.mem_of_getElem? (i := 398) (by decide +kernel)⟩
theorem lw_p13 : lw_okq (⟨"AcreOffice", "beginTrial", "()V"⟩, 6) := ⟨⟨by decide +kernel, by decide +kernel⟩, List.mem_of_getElem? (i := 17) (by decide +kernel), List.mem_of_getElem? (i := 430) (by decide +kernel), List.mem_of_getElem? (i := 431) (by decide +kernel)⟩
theorem lw_p14 : lw_okq (⟨"AcreOffice", "settleTrial", "()V"⟩, 6) := ⟨⟨by decide +kernel, by decide +kernel⟩, List.mem_of_getElem? (i := 17) (by decide +kernel), List.mem_of_getElem? (i := 454) (by decide +kernel), List.mem_of_getElem? (i := 455) (by decide +kernel)⟩
theorem lw_p15 : lw_okq (⟨"AcreOffice$Traverse", "shareOf", "(II)I"⟩, 6) := ⟨⟨by decide +kernel, by decide +kernel⟩, List.mem_of_getElem? (i := 31) (by decide +kernel), List.mem_of_getElem? (i := 511) (by decide +kernel), List.mem_of_getElem? (i := 512) (by decide +kernel)⟩
def lw_privs_1 : List (MethodName × Nat) := [(⟨"AcreOffice$Orders", "accepts", "(C)Z"⟩, 11), (⟨"AcreOffice$Orders", "beginOrder", "(C)Z"⟩, 11), (⟨"AcreOffice$Orders", "noteKind", "(II)Z"⟩, 11), (⟨"AcreOffice$Orders", "endOrder", "(C)Z"⟩, 11), (⟨"AcreOffice$Orders", "readField", "(C)Z"⟩, 11), (⟨"AcreOffice$Orders", "note", "([II)V"⟩, 11), (⟨"AcreOffice$Orders", "beginNumber", "(CCI)Z"⟩, 11), (⟨"AcreOffice$Orders", "growNumber", "(CI)Z"⟩, 11), (⟨"AcreOffice$Orders", "endEast", "(C)Z"⟩, 11), (⟨"AcreOffice$Orders", "endNorth", "(C)Z"⟩, 11), (⟨"AcreOffice$Orders", "noteLength", "()Z"⟩, 11), (⟨"AcreOffice$Field", "cornerAfter", "(I)I"⟩, 3), (⟨"java/lang/Throwable", "fillInStackTrace", "(I)Ljava/lang/Throwable;"⟩, 6), (⟨"AcreOffice", "beginTrial", "()V"⟩, 6), (⟨"AcreOffice", "settleTrial", "()V"⟩, 6), (⟨"AcreOffice$Traverse", "shareOf", "(II)I"⟩, 6)]
theorem lw_r1 : ∀ q ∈ lw_privs_1, lw_okq q := List.forall_mem_cons.mpr ⟨lw_p0, List.forall_mem_cons.mpr ⟨lw_p1, List.forall_mem_cons.mpr ⟨lw_p2, List.forall_mem_cons.mpr ⟨lw_p3, List.forall_mem_cons.mpr ⟨lw_p4, List.forall_mem_cons.mpr ⟨lw_p5, List.forall_mem_cons.mpr ⟨lw_p6, List.forall_mem_cons.mpr ⟨lw_p7, List.forall_mem_cons.mpr ⟨lw_p8, List.forall_mem_cons.mpr ⟨lw_p9, List.forall_mem_cons.mpr ⟨lw_p10, List.forall_mem_cons.mpr ⟨lw_p11, List.forall_mem_cons.mpr ⟨lw_p12, List.forall_mem_cons.mpr ⟨lw_p13, List.forall_mem_cons.mpr ⟨lw_p14, List.forall_mem_cons.mpr ⟨lw_p15, fun _ h => absurd h List.not_mem_nil⟩⟩⟩⟩⟩⟩⟩⟩⟩⟩⟩⟩⟩⟩⟩⟩
theorem lw_p16 : lw_okq (⟨"AcreOffice$Orders", "isCarriedOut", "(ILAcreOffice$State;)Z"⟩, 11) := ⟨⟨by decide +kernel, by decide +kernel⟩, List.mem_of_getElem? (i := 111) (by decide +kernel), List.mem_of_getElem? (i := 587) (by decide +kernel), List.mem_of_getElem? (i := 588) (by decide +kernel)⟩
theorem lw_p17 : lw_okq (⟨"AcreOffice", "knownField", "(I)LAcreOffice$Field;"⟩, 6) := ⟨⟨by decide +kernel, by decide +kernel⟩, List.mem_of_getElem? (i := 17) (by decide +kernel), List.mem_of_getElem? (i := 651) (by decide +kernel), List.mem_of_getElem? (i := 652) (by decide +kernel)⟩
theorem lw_p18 : lw_okq (⟨"AcreOffice", "fieldWithCorner", "(II)LAcreOffice$Field;"⟩, 6) := ⟨⟨by decide +kernel, by decide +kernel⟩, List.mem_of_getElem? (i := 17) (by decide +kernel), List.mem_of_getElem? (i := 663) (by decide +kernel), List.mem_of_getElem? (i := 664) (by decide +kernel)⟩
theorem lw_p19 : lw_okq (⟨"AcreOffice$Field", "turnAt", "(I)J"⟩, 3) := ⟨⟨by decide +kernel, by decide +kernel⟩, List.mem_of_getElem? (i := 60) (by decide +kernel), List.mem_of_getElem? (i := 692) (by decide +kernel), List.mem_of_getElem? (i := 693) (by decide +kernel)⟩
theorem lw_p20 : lw_okq (⟨"AcreOffice$Field", "cornerBefore", "(I)I"⟩, 3) := ⟨⟨by decide +kernel, by decide +kernel⟩, List.mem_of_getElem? (i := 60) (by decide +kernel), List.mem_of_getElem? (i := 696) (by decide +kernel), List.mem_of_getElem? (i := 697) (by decide +kernel)⟩
theorem lw_p21 : lw_okq (⟨"AcreOffice$Field", "sideEast", "(I)J"⟩, 3) := ⟨⟨by decide +kernel, by decide +kernel⟩, List.mem_of_getElem? (i := 60) (by decide +kernel), List.mem_of_getElem? (i := 700) (by decide +kernel), List.mem_of_getElem? (i := 701) (by decide +kernel)⟩
theorem lw_p22 : lw_okq (⟨"AcreOffice$Field", "sideNorth", "(I)J"⟩, 3) := ⟨⟨by decide +kernel, by decide +kernel⟩, List.mem_of_getElem? (i := 60) (by decide +kernel), List.mem_of_getElem? (i := 704) (by decide +kernel), List.mem_of_getElem? (i := 705) (by decide +kernel)⟩
theorem lw_p23 : lw_okq (⟨"AcreOffice$Field", "isMetFrom", "(IIII)Z"⟩, 3) := ⟨⟨by decide +kernel, by decide +kernel⟩, List.mem_of_getElem? (i := 60) (by decide +kernel), List.mem_of_getElem? (i := 732) (by decide +kernel), List.mem_of_getElem? (i := 733) (by decide +kernel)⟩
theorem lw_p24 : lw_okq (⟨"AcreOffice$Field", "hasSide", "(LAcreOffice$Field;II)Z"⟩, 3) := ⟨⟨by decide +kernel, by decide +kernel⟩, List.mem_of_getElem? (i := 60) (by decide +kernel), List.mem_of_getElem? (i := 747) (by decide +kernel), List.mem_of_getElem? (i := 748) (by decide +kernel)⟩
theorem lw_p25 : lw_okq (⟨"AcreOffice$Field", "isSamePoint", "(ILAcreOffice$Field;I)Z"⟩, 3) := ⟨⟨by decide +kernel, by decide +kernel⟩, List.mem_of_getElem? (i := 60) (by decide +kernel), List.mem_of_getElem? (i := 751) (by decide +kernel), List.mem_of_getElem? (i := 752) (by decide +kernel)⟩
theorem lw_p26 : lw_okq (⟨"AcreOffice$Field", "extentOf", "([I)I"⟩, 3) := ⟨⟨by decide +kernel, by decide +kernel⟩, List.mem_of_getElem? (i := 60) (by decide +kernel), List.mem_of_getElem? (i := 811) (by decide +kernel), List.mem_of_getElem? (i := 812) (by decide +kernel)⟩
theorem lw_p27 : lw_okq (⟨"AcreOfficeModel", "wrongLeg", "(III)I"⟩, 9) := ⟨⟨by decide +kernel, by decide +kernel⟩, List.mem_of_getElem? (i := 834) (by decide +kernel), List.mem_of_getElem? (i := 876) (by decide +kernel), List.mem_of_getElem? (i := 877) (by decide +kernel)⟩
theorem lw_p28 : lw_okq (⟨"AcreOfficeModel", "holds", "(I)Z"⟩, 9) := ⟨⟨by decide +kernel, by decide +kernel⟩, List.mem_of_getElem? (i := 834) (by decide +kernel), List.mem_of_getElem? (i := 883) (by decide +kernel), List.mem_of_getElem? (i := 884) (by decide +kernel)⟩
theorem lw_p29 : lw_okq (⟨"AcreOfficeModel", "records", "()V"⟩, 9) := ⟨⟨by decide +kernel, by decide +kernel⟩, List.mem_of_getElem? (i := 834) (by decide +kernel), List.mem_of_getElem? (i := 887) (by decide +kernel), List.mem_of_getElem? (i := 888) (by decide +kernel)⟩
theorem lw_p30 : lw_okq (⟨"AcreOfficeModel", "adds", "(III)I"⟩, 9) := ⟨⟨by decide +kernel, by decide +kernel⟩, List.mem_of_getElem? (i := 834) (by decide +kernel), List.mem_of_getElem? (i := 891) (by decide +kernel), List.mem_of_getElem? (i := 892) (by decide +kernel)⟩
theorem lw_p31 : lw_okq (⟨"AcreOfficeModel", "takes", "()I"⟩, 9) := ⟨⟨by decide +kernel, by decide +kernel⟩, List.mem_of_getElem? (i := 834) (by decide +kernel), List.mem_of_getElem? (i := 899) (by decide +kernel), List.mem_of_getElem? (i := 900) (by decide +kernel)⟩
def lw_privs_2 : List (MethodName × Nat) := [(⟨"AcreOffice$Orders", "isCarriedOut", "(ILAcreOffice$State;)Z"⟩, 11), (⟨"AcreOffice", "knownField", "(I)LAcreOffice$Field;"⟩, 6), (⟨"AcreOffice", "fieldWithCorner", "(II)LAcreOffice$Field;"⟩, 6), (⟨"AcreOffice$Field", "turnAt", "(I)J"⟩, 3), (⟨"AcreOffice$Field", "cornerBefore", "(I)I"⟩, 3), (⟨"AcreOffice$Field", "sideEast", "(I)J"⟩, 3), (⟨"AcreOffice$Field", "sideNorth", "(I)J"⟩, 3), (⟨"AcreOffice$Field", "isMetFrom", "(IIII)Z"⟩, 3), (⟨"AcreOffice$Field", "hasSide", "(LAcreOffice$Field;II)Z"⟩, 3), (⟨"AcreOffice$Field", "isSamePoint", "(ILAcreOffice$Field;I)Z"⟩, 3), (⟨"AcreOffice$Field", "extentOf", "([I)I"⟩, 3), (⟨"AcreOfficeModel", "wrongLeg", "(III)I"⟩, 9), (⟨"AcreOfficeModel", "holds", "(I)Z"⟩, 9), (⟨"AcreOfficeModel", "records", "()V"⟩, 9), (⟨"AcreOfficeModel", "adds", "(III)I"⟩, 9), (⟨"AcreOfficeModel", "takes", "()I"⟩, 9)]
theorem lw_r2 : ∀ q ∈ lw_privs_2, lw_okq q := List.forall_mem_cons.mpr ⟨lw_p16, List.forall_mem_cons.mpr ⟨lw_p17, List.forall_mem_cons.mpr ⟨lw_p18, List.forall_mem_cons.mpr ⟨lw_p19, List.forall_mem_cons.mpr ⟨lw_p20, List.forall_mem_cons.mpr ⟨lw_p21, List.forall_mem_cons.mpr ⟨lw_p22, List.forall_mem_cons.mpr ⟨lw_p23, List.forall_mem_cons.mpr ⟨lw_p24, List.forall_mem_cons.mpr ⟨lw_p25, List.forall_mem_cons.mpr ⟨lw_p26, List.forall_mem_cons.mpr ⟨lw_p27, List.forall_mem_cons.mpr ⟨lw_p28, List.forall_mem_cons.mpr ⟨lw_p29, List.forall_mem_cons.mpr ⟨lw_p30, List.forall_mem_cons.mpr ⟨lw_p31, fun _ h => absurd h List.not_mem_nil⟩⟩⟩⟩⟩⟩⟩⟩⟩⟩⟩⟩⟩⟩⟩⟩
theorem lw_p32 : lw_okq (⟨"AcreOfficeModel", "canKeep", "()Z"⟩, 9) := ⟨⟨by decide +kernel, by decide +kernel⟩, List.mem_of_getElem? (i := 834) (by decide +kernel), List.mem_of_getElem? (i := 913) (by decide +kernel), List.mem_of_getElem? (i := 914) (by decide +kernel)⟩
theorem lw_p33 : lw_okq (⟨"AcreOfficeModel", "close", "()Z"⟩, 9) := ⟨⟨by decide +kernel, by decide +kernel⟩, List.mem_of_getElem? (i := 834) (by decide +kernel), List.mem_of_getElem? (i := 917) (by decide +kernel), List.mem_of_getElem? (i := 918) (by decide +kernel)⟩
theorem lw_p34 : lw_okq (⟨"AcreOfficeModel", "error", "(I)I"⟩, 9) := ⟨⟨by decide +kernel, by decide +kernel⟩, List.mem_of_getElem? (i := 834) (by decide +kernel), List.mem_of_getElem? (i := 922) (by decide +kernel), List.mem_of_getElem? (i := 923) (by decide +kernel)⟩
theorem lw_p35 : lw_okq (⟨"AcreOfficeModel", "before", "(II)I"⟩, 9) := ⟨⟨by decide +kernel, by decide +kernel⟩, List.mem_of_getElem? (i := 834) (by decide +kernel), List.mem_of_getElem? (i := 926) (by decide +kernel), List.mem_of_getElem? (i := 927) (by decide +kernel)⟩
theorem lw_p36 : lw_okq (⟨"AcreOfficeModel", "lays", "()V"⟩, 9) := ⟨⟨by decide +kernel, by decide +kernel⟩, List.mem_of_getElem? (i := 834) (by decide +kernel), List.mem_of_getElem? (i := 933) (by decide +kernel), List.mem_of_getElem? (i := 934) (by decide +kernel)⟩
theorem lw_p37 : lw_okq (⟨"AcreOfficeModel", "adjusted", "(II)I"⟩, 9) := ⟨⟨by decide +kernel, by decide +kernel⟩, List.mem_of_getElem? (i := 834) (by decide +kernel), List.mem_of_getElem? (i := 937) (by decide +kernel), List.mem_of_getElem? (i := 938) (by decide +kernel)⟩
theorem lw_p38 : lw_okq (⟨"AcreOfficeModel", "twice", "(I)J"⟩, 9) := ⟨⟨by decide +kernel, by decide +kernel⟩, List.mem_of_getElem? (i := 834) (by decide +kernel), List.mem_of_getElem? (i := 944) (by decide +kernel), List.mem_of_getElem? (i := 945) (by decide +kernel)⟩
theorem lw_p39 : lw_okq (⟨"AcreOfficeModel", "corners", "(I)I"⟩, 9) := ⟨⟨by decide +kernel, by decide +kernel⟩, List.mem_of_getElem? (i := 834) (by decide +kernel), List.mem_of_getElem? (i := 948) (by decide +kernel), List.mem_of_getElem? (i := 949) (by decide +kernel)⟩
theorem lw_p40 : lw_okq (⟨"AcreOfficeModel", "part", "(III)I"⟩, 9) := ⟨⟨by decide +kernel, by decide +kernel⟩, List.mem_of_getElem? (i := 834) (by decide +kernel), List.mem_of_getElem? (i := 952) (by decide +kernel), List.mem_of_getElem? (i := 953) (by decide +kernel)⟩
theorem lw_p41 : lw_okq (⟨"AcreOfficeModel", "change", "(III)J"⟩, 9) := ⟨⟨by decide +kernel, by decide +kernel⟩, List.mem_of_getElem? (i := 834) (by decide +kernel), List.mem_of_getElem? (i := 956) (by decide +kernel), List.mem_of_getElem? (i := 957) (by decide +kernel)⟩
theorem lw_p42 : lw_okq (⟨"AcreOfficeModel", "empties", "(I)V"⟩, 9) := ⟨⟨by decide +kernel, by decide +kernel⟩, List.mem_of_getElem? (i := 834) (by decide +kernel), List.mem_of_getElem? (i := 960) (by decide +kernel), List.mem_of_getElem? (i := 961) (by decide +kernel)⟩
theorem lw_p43 : lw_okq (⟨"AcreOfficeModel", "keeps", "()I"⟩, 9) := ⟨⟨by decide +kernel, by decide +kernel⟩, List.mem_of_getElem? (i := 834) (by decide +kernel), List.mem_of_getElem? (i := 964) (by decide +kernel), List.mem_of_getElem? (i := 965) (by decide +kernel)⟩
theorem lw_p44 : lw_okq (⟨"AcreOfficeModel", "isField", "(I)Z"⟩, 9) := ⟨⟨by decide +kernel, by decide +kernel⟩, List.mem_of_getElem? (i := 834) (by decide +kernel), List.mem_of_getElem? (i := 972) (by decide +kernel), List.mem_of_getElem? (i := 973) (by decide +kernel)⟩
theorem lw_p45 : lw_okq (⟨"AcreOfficeModel", "gives", "(I)I"⟩, 9) := ⟨⟨by decide +kernel, by decide +kernel⟩, List.mem_of_getElem? (i := 834) (by decide +kernel), List.mem_of_getElem? (i := 976) (by decide +kernel), List.mem_of_getElem? (i := 977) (by decide +kernel)⟩
theorem lw_p46 : lw_okq (⟨"AcreOfficeModel", "wrong", "()I"⟩, 9) := ⟨⟨by decide +kernel, by decide +kernel⟩, List.mem_of_getElem? (i := 834) (by decide +kernel), List.mem_of_getElem? (i := 992) (by decide +kernel), List.mem_of_getElem? (i := 993) (by decide +kernel)⟩
theorem lw_p47 : lw_okq (⟨"AcreOfficeModel", "behindOrder", "(I)I"⟩, 9) := ⟨⟨by decide +kernel, by decide +kernel⟩, List.mem_of_getElem? (i := 834) (by decide +kernel), List.mem_of_getElem? (i := 996) (by decide +kernel), List.mem_of_getElem? (i := 997) (by decide +kernel)⟩
def lw_privs_3 : List (MethodName × Nat) := [(⟨"AcreOfficeModel", "canKeep", "()Z"⟩, 9), (⟨"AcreOfficeModel", "close", "()Z"⟩, 9), (⟨"AcreOfficeModel", "error", "(I)I"⟩, 9), (⟨"AcreOfficeModel", "before", "(II)I"⟩, 9), (⟨"AcreOfficeModel", "lays", "()V"⟩, 9), (⟨"AcreOfficeModel", "adjusted", "(II)I"⟩, 9), (⟨"AcreOfficeModel", "twice", "(I)J"⟩, 9), (⟨"AcreOfficeModel", "corners", "(I)I"⟩, 9), (⟨"AcreOfficeModel", "part", "(III)I"⟩, 9), (⟨"AcreOfficeModel", "change", "(III)J"⟩, 9), (⟨"AcreOfficeModel", "empties", "(I)V"⟩, 9), (⟨"AcreOfficeModel", "keeps", "()I"⟩, 9), (⟨"AcreOfficeModel", "isField", "(I)Z"⟩, 9), (⟨"AcreOfficeModel", "gives", "(I)I"⟩, 9), (⟨"AcreOfficeModel", "wrong", "()I"⟩, 9), (⟨"AcreOfficeModel", "behindOrder", "(I)I"⟩, 9)]
theorem lw_r3 : ∀ q ∈ lw_privs_3, lw_okq q := List.forall_mem_cons.mpr ⟨lw_p32, List.forall_mem_cons.mpr ⟨lw_p33, List.forall_mem_cons.mpr ⟨lw_p34, List.forall_mem_cons.mpr ⟨lw_p35, List.forall_mem_cons.mpr ⟨lw_p36, List.forall_mem_cons.mpr ⟨lw_p37, List.forall_mem_cons.mpr ⟨lw_p38, List.forall_mem_cons.mpr ⟨lw_p39, List.forall_mem_cons.mpr ⟨lw_p40, List.forall_mem_cons.mpr ⟨lw_p41, List.forall_mem_cons.mpr ⟨lw_p42, List.forall_mem_cons.mpr ⟨lw_p43, List.forall_mem_cons.mpr ⟨lw_p44, List.forall_mem_cons.mpr ⟨lw_p45, List.forall_mem_cons.mpr ⟨lw_p46, List.forall_mem_cons.mpr ⟨lw_p47, fun _ h => absurd h List.not_mem_nil⟩⟩⟩⟩⟩⟩⟩⟩⟩⟩⟩⟩⟩⟩⟩⟩
theorem lw_p48 : lw_okq (⟨"AcreOfficeModel", "charAt", "(I)I"⟩, 9) := ⟨⟨by decide +kernel, by decide +kernel⟩, List.mem_of_getElem? (i := 834) (by decide +kernel), List.mem_of_getElem? (i := 1000) (by decide +kernel), List.mem_of_getElem? (i := 1001) (by decide +kernel)⟩
theorem lw_p49 : lw_okq (⟨"AcreOfficeModel", "behindLeg", "(I)I"⟩, 9) := ⟨⟨by decide +kernel, by decide +kernel⟩, List.mem_of_getElem? (i := 834) (by decide +kernel), List.mem_of_getElem? (i := 1004) (by decide +kernel), List.mem_of_getElem? (i := 1005) (by decide +kernel)⟩
theorem lw_p50 : lw_okq (⟨"AcreOfficeModel", "behindNumber", "(III)I"⟩, 9) := ⟨⟨by decide +kernel, by decide +kernel⟩, List.mem_of_getElem? (i := 834) (by decide +kernel), List.mem_of_getElem? (i := 1008) (by decide +kernel), List.mem_of_getElem? (i := 1009) (by decide +kernel)⟩
theorem lw_p51 : lw_okq (⟨"AcreOfficeModel", "stops", "()I"⟩, 9) := ⟨⟨by decide +kernel, by decide +kernel⟩, List.mem_of_getElem? (i := 834) (by decide +kernel), List.mem_of_getElem? (i := 1016) (by decide +kernel), List.mem_of_getElem? (i := 1017) (by decide +kernel)⟩
theorem lw_p52 : lw_okq (⟨"AcreOfficeModel", "putAside", "()V"⟩, 9) := ⟨⟨by decide +kernel, by decide +kernel⟩, List.mem_of_getElem? (i := 834) (by decide +kernel), List.mem_of_getElem? (i := 1020) (by decide +kernel), List.mem_of_getElem? (i := 1021) (by decide +kernel)⟩
theorem lw_p53 : lw_okq (⟨"AcreOfficeModel", "doesAll", "()I"⟩, 9) := ⟨⟨by decide +kernel, by decide +kernel⟩, List.mem_of_getElem? (i := 834) (by decide +kernel), List.mem_of_getElem? (i := 1024) (by decide +kernel), List.mem_of_getElem? (i := 1025) (by decide +kernel)⟩
theorem lw_p54 : lw_okq (⟨"AcreOfficeModel", "does", "(I)Z"⟩, 9) := ⟨⟨by decide +kernel, by decide +kernel⟩, List.mem_of_getElem? (i := 834) (by decide +kernel), List.mem_of_getElem? (i := 1028) (by decide +kernel), List.mem_of_getElem? (i := 1029) (by decide +kernel)⟩
theorem lw_p55 : lw_okq (⟨"AcreOfficeModel", "doesLeg", "(I)Z"⟩, 9) := ⟨⟨by decide +kernel, by decide +kernel⟩, List.mem_of_getElem? (i := 834) (by decide +kernel), List.mem_of_getElem? (i := 1032) (by decide +kernel), List.mem_of_getElem? (i := 1033) (by decide +kernel)⟩
theorem lw_p56 : lw_okq (⟨"AcreOfficeModel", "numberIn", "(II)I"⟩, 9) := ⟨⟨by decide +kernel, by decide +kernel⟩, List.mem_of_getElem? (i := 834) (by decide +kernel), List.mem_of_getElem? (i := 1036) (by decide +kernel), List.mem_of_getElem? (i := 1037) (by decide +kernel)⟩
theorem lw_p57 : lw_okq (⟨"AcreOfficeModel", "putBack", "()V"⟩, 9) := ⟨⟨by decide +kernel, by decide +kernel⟩, List.mem_of_getElem? (i := 834) (by decide +kernel), List.mem_of_getElem? (i := 1040) (by decide +kernel), List.mem_of_getElem? (i := 1041) (by decide +kernel)⟩
theorem lw_p58 : lw_okq (⟨"AcreOfficeModel", "isCorner", "(II)Z"⟩, 9) := ⟨⟨by decide +kernel, by decide +kernel⟩, List.mem_of_getElem? (i := 834) (by decide +kernel), List.mem_of_getElem? (i := 1100) (by decide +kernel), List.mem_of_getElem? (i := 1101) (by decide +kernel)⟩
theorem lw_p59 : lw_okq (⟨"AcreOfficeModel", "turns", "(IZ)I"⟩, 9) := ⟨⟨by decide +kernel, by decide +kernel⟩, List.mem_of_getElem? (i := 834) (by decide +kernel), List.mem_of_getElem? (i := 1112) (by decide +kernel), List.mem_of_getElem? (i := 1113) (by decide +kernel)⟩
theorem lw_p60 : lw_okq (⟨"AcreOfficeModel", "turn", "(II)J"⟩, 9) := ⟨⟨by decide +kernel, by decide +kernel⟩, List.mem_of_getElem? (i := 834) (by decide +kernel), List.mem_of_getElem? (i := 1116) (by decide +kernel), List.mem_of_getElem? (i := 1117) (by decide +kernel)⟩
theorem lw_p61 : lw_okq (⟨"AcreOfficeModel", "isEast", "(IIII)Z"⟩, 9) := ⟨⟨by decide +kernel, by decide +kernel⟩, List.mem_of_getElem? (i := 834) (by decide +kernel), List.mem_of_getElem? (i := 1130) (by decide +kernel), List.mem_of_getElem? (i := 1131) (by decide +kernel)⟩
theorem lw_p62 : lw_okq (⟨"AcreOfficeModel", "isShared", "(III)Z"⟩, 9) := ⟨⟨by decide +kernel, by decide +kernel⟩, List.mem_of_getElem? (i := 834) (by decide +kernel), List.mem_of_getElem? (i := 1138) (by decide +kernel), List.mem_of_getElem? (i := 1139) (by decide +kernel)⟩
theorem lw_p63 : lw_okq (⟨"AcreOfficeModel", "isSame", "(IIII)Z"⟩, 9) := ⟨⟨by decide +kernel, by decide +kernel⟩, List.mem_of_getElem? (i := 834) (by decide +kernel), List.mem_of_getElem? (i := 1142) (by decide +kernel), List.mem_of_getElem? (i := 1143) (by decide +kernel)⟩
def lw_privs_4 : List (MethodName × Nat) := [(⟨"AcreOfficeModel", "charAt", "(I)I"⟩, 9), (⟨"AcreOfficeModel", "behindLeg", "(I)I"⟩, 9), (⟨"AcreOfficeModel", "behindNumber", "(III)I"⟩, 9), (⟨"AcreOfficeModel", "stops", "()I"⟩, 9), (⟨"AcreOfficeModel", "putAside", "()V"⟩, 9), (⟨"AcreOfficeModel", "doesAll", "()I"⟩, 9), (⟨"AcreOfficeModel", "does", "(I)Z"⟩, 9), (⟨"AcreOfficeModel", "doesLeg", "(I)Z"⟩, 9), (⟨"AcreOfficeModel", "numberIn", "(II)I"⟩, 9), (⟨"AcreOfficeModel", "putBack", "()V"⟩, 9), (⟨"AcreOfficeModel", "isCorner", "(II)Z"⟩, 9), (⟨"AcreOfficeModel", "turns", "(IZ)I"⟩, 9), (⟨"AcreOfficeModel", "turn", "(II)J"⟩, 9), (⟨"AcreOfficeModel", "isEast", "(IIII)Z"⟩, 9), (⟨"AcreOfficeModel", "isShared", "(III)Z"⟩, 9), (⟨"AcreOfficeModel", "isSame", "(IIII)Z"⟩, 9)]
theorem lw_r4 : ∀ q ∈ lw_privs_4, lw_okq q := List.forall_mem_cons.mpr ⟨lw_p48, List.forall_mem_cons.mpr ⟨lw_p49, List.forall_mem_cons.mpr ⟨lw_p50, List.forall_mem_cons.mpr ⟨lw_p51, List.forall_mem_cons.mpr ⟨lw_p52, List.forall_mem_cons.mpr ⟨lw_p53, List.forall_mem_cons.mpr ⟨lw_p54, List.forall_mem_cons.mpr ⟨lw_p55, List.forall_mem_cons.mpr ⟨lw_p56, List.forall_mem_cons.mpr ⟨lw_p57, List.forall_mem_cons.mpr ⟨lw_p58, List.forall_mem_cons.mpr ⟨lw_p59, List.forall_mem_cons.mpr ⟨lw_p60, List.forall_mem_cons.mpr ⟨lw_p61, List.forall_mem_cons.mpr ⟨lw_p62, List.forall_mem_cons.mpr ⟨lw_p63, fun _ h => absurd h List.not_mem_nil⟩⟩⟩⟩⟩⟩⟩⟩⟩⟩⟩⟩⟩⟩⟩⟩
theorem lw_p64 : lw_okq (⟨"AcreOfficeModel", "area", "(I)J"⟩, 9) := ⟨⟨by decide +kernel, by decide +kernel⟩, List.mem_of_getElem? (i := 834) (by decide +kernel), List.mem_of_getElem? (i := 1158) (by decide +kernel), List.mem_of_getElem? (i := 1159) (by decide +kernel)⟩
theorem lw_p65 : lw_okq (⟨"AcreOfficeModel", "extent", "(II)I"⟩, 9) := ⟨⟨by decide +kernel, by decide +kernel⟩, List.mem_of_getElem? (i := 834) (by decide +kernel), List.mem_of_getElem? (i := 1187) (by decide +kernel), List.mem_of_getElem? (i := 1188) (by decide +kernel)⟩
def lw_privs_5 : List (MethodName × Nat) := [(⟨"AcreOfficeModel", "area", "(I)J"⟩, 9), (⟨"AcreOfficeModel", "extent", "(II)I"⟩, 9)]
theorem lw_r5 : ∀ q ∈ lw_privs_5, lw_okq q := List.forall_mem_cons.mpr ⟨lw_p64, List.forall_mem_cons.mpr ⟨lw_p65, fun _ h => absurd h List.not_mem_nil⟩⟩
def lw_privs : List (MethodName × Nat) := lw_privs_1 ++ (lw_privs_2 ++ (lw_privs_3 ++ (lw_privs_4 ++ (lw_privs_5))))
def lw_tbl : List Cond := k2_sels lw_privs ++ tables_1
theorem lw_privs_ok : ∀ q ∈ lw_privs, lw_okq q := by
  show ∀ q ∈ lw_privs_1 ++ (lw_privs_2 ++ (lw_privs_3 ++ (lw_privs_4 ++ (lw_privs_5)))), lw_okq q
  exact List.forall_mem_append.mpr ⟨lw_r1, List.forall_mem_append.mpr ⟨lw_r2, List.forall_mem_append.mpr ⟨lw_r3, List.forall_mem_append.mpr ⟨lw_r4, lw_r5⟩⟩⟩⟩
end
section
def RX0 : String := "AcreOffice$Field"
def TX0 : u_T := fun k => match k with
  | 0 => ("AcreOffice$Field", "easts", "[I", true)
  | 1 => ("AcreOffice$Field", "norths", "[I", true)
  | _ => ("AcreOffice$Field", "cornerCount", "I", false)
def tyX0 : Nat → FieldType := fun k => match k with
  | 0 => .array .int
  | 1 => .array .int
  | _ => .int
theorem nmX0 : ∀ a, a < 3 → ∀ b, b < 3 → a ≠ b → (TX0 a).2.1 ≠ (TX0 b).2.1 := by decide +kernel
theorem tyX0_ok : ∀ k, k < 3 → parseFieldDescriptor (TX0 k).2.2.1 = some (tyX0 k) := by decide +kernel
def RX1 : String := "AcreOffice$History"
def TX1 : u_T := fun k => match k with
  | 0 => ("AcreOffice$History", "states", "[LAcreOffice$State;", true)
  | 1 => ("AcreOffice$History", "next", "I", false)
  | _ => ("AcreOffice$History", "count", "I", false)
def tyX1 : Nat → FieldType := fun k => match k with
  | 0 => .array (.object "AcreOffice$State")
  | 1 => .int
  | _ => .int
theorem nmX1 : ∀ a, a < 3 → ∀ b, b < 3 → a ≠ b → (TX1 a).2.1 ≠ (TX1 b).2.1 := by decide +kernel
theorem tyX1_ok : ∀ k, k < 3 → parseFieldDescriptor (TX1 k).2.2.1 = some (tyX1 k) := by decide +kernel
def RX2 : String := "AcreOffice$Orders"
def TX2 : u_T := fun k => match k with
  | 0 => ("AcreOffice$Orders", "signs", "[C", true)
  | 1 => ("AcreOffice$Orders", "signCount", "I", false)
  | 2 => ("AcreOffice$Orders", "kinds", "[I", true)
  | 3 => ("AcreOffice$Orders", "easts", "[I", true)
  | 4 => ("AcreOffice$Orders", "norths", "[I", true)
  | 5 => ("AcreOffice$Orders", "lengths", "[I", true)
  | 6 => ("AcreOffice$Orders", "fieldNumbers", "[I", true)
  | 7 => ("AcreOffice$Orders", "orderCount", "I", false)
  | 8 => ("AcreOffice$Orders", "expected", "I", false)
  | 9 => ("AcreOffice$Orders", "direction", "I", false)
  | _ => ("AcreOffice$Orders", "number", "I", false)
def tyX2 : Nat → FieldType := fun k => match k with
  | 0 => .array .char
  | 1 => .int
  | 2 => .array .int
  | 3 => .array .int
  | 4 => .array .int
  | 5 => .array .int
  | 6 => .array .int
  | 7 => .int
  | 8 => .int
  | 9 => .int
  | _ => .int
theorem nmX2 : ∀ a, a < 11 → ∀ b, b < 11 → a ≠ b → (TX2 a).2.1 ≠ (TX2 b).2.1 := by decide +kernel
theorem tyX2_ok : ∀ k, k < 11 → parseFieldDescriptor (TX2 k).2.2.1 = some (tyX2 k) := by decide +kernel
def RX3 : String := "AcreOffice$State"
def TX3 : u_T := fun k => match k with
  | 0 => ("AcreOffice$State", "traverse", "LAcreOffice$Traverse;", true)
  | 1 => ("AcreOffice$State", "kept", "[LAcreOffice$Field;", true)
  | _ => ("AcreOffice$State", "fieldCount", "I", false)
def tyX3 : Nat → FieldType := fun k => match k with
  | 0 => .object "AcreOffice$Traverse"
  | 1 => .array (.object "AcreOffice$Field")
  | _ => .int
theorem nmX3 : ∀ a, a < 3 → ∀ b, b < 3 → a ≠ b → (TX3 a).2.1 ≠ (TX3 b).2.1 := by decide +kernel
theorem tyX3_ok : ∀ k, k < 3 → parseFieldDescriptor (TX3 k).2.2.1 = some (tyX3 k) := by decide +kernel
def RX4 : String := "AcreOffice$Traverse"
def TX4 : u_T := fun k => match k with
  | 0 => ("AcreOffice$Traverse", "eastBefore", "[I", true)
  | 1 => ("AcreOffice$Traverse", "northBefore", "[I", true)
  | 2 => ("AcreOffice$Traverse", "lengthBefore", "[I", true)
  | 3 => ("AcreOffice$Traverse", "originEast", "I", false)
  | 4 => ("AcreOffice$Traverse", "originNorth", "I", false)
  | _ => ("AcreOffice$Traverse", "legCount", "I", false)
def tyX4 : Nat → FieldType := fun k => match k with
  | 0 => .array .int
  | 1 => .array .int
  | 2 => .array .int
  | 3 => .int
  | 4 => .int
  | _ => .int
theorem nmX4 : ∀ a, a < 6 → ∀ b, b < 6 → a ≠ b → (TX4 a).2.1 ≠ (TX4 b).2.1 := by decide +kernel
theorem tyX4_ok : ∀ k, k < 6 → parseFieldDescriptor (TX4 k).2.2.1 = some (tyX4 k) := by decide +kernel
def RX5 : String := "AcreOffice"
def TX5 : u_T := fun k => match k with
  | 0 => ("AcreOffice", "now", "LAcreOffice$State;", true)
  | 1 => ("AcreOffice", "trial", "LAcreOffice$State;", true)
  | 2 => ("AcreOffice", "snapshot", "LAcreOffice$State;", true)
  | 3 => ("AcreOffice", "history", "LAcreOffice$History;", true)
  | 4 => ("AcreOffice", "orders", "LAcreOffice$Orders;", true)
  | _ => ("AcreOffice", "snapshotTaken", "Z", false)
def tyX5 : Nat → FieldType := fun k => match k with
  | 0 => .object "AcreOffice$State"
  | 1 => .object "AcreOffice$State"
  | 2 => .object "AcreOffice$State"
  | 3 => .object "AcreOffice$History"
  | 4 => .object "AcreOffice$Orders"
  | _ => .boolean
theorem nmX5 : ∀ a, a < 6 → ∀ b, b < 6 → a ≠ b → (TX5 a).2.1 ≠ (TX5 b).2.1 := by decide +kernel
theorem tyX5_ok : ∀ k, k < 6 → parseFieldDescriptor (TX5 k).2.2.1 = some (tyX5 k) := by decide +kernel
def RX6 : String := "AcreOfficeModel"
def TX6 : u_T := fun k => match k with
  | 0 => ("AcreOfficeModel", "thrown", "I", false)
  | 1 => ("AcreOfficeModel", "s", "[I", true)
  | 2 => ("AcreOfficeModel", "aside", "[I", true)
  | 3 => ("AcreOfficeModel", "snapshot", "[I", true)
  | 4 => ("AcreOfficeModel", "isKept", "Z", false)
  | 5 => ("AcreOfficeModel", "recorded", "[I", true)
  | 6 => ("AcreOfficeModel", "recordedMany", "I", false)
  | 7 => ("AcreOfficeModel", "text", "[I", true)
  | _ => ("AcreOfficeModel", "length", "I", false)
def tyX6 : Nat → FieldType := fun k => match k with
  | 0 => .int
  | 1 => .array .int
  | 2 => .array .int
  | 3 => .array .int
  | 4 => .boolean
  | 5 => .array .int
  | 6 => .int
  | 7 => .array .int
  | _ => .int
theorem nmX6 : ∀ a, a < 9 → ∀ b, b < 9 → a ≠ b → (TX6 a).2.1 ≠ (TX6 b).2.1 := by decide +kernel
theorem tyX6_ok : ∀ k, k < 9 → parseFieldDescriptor (TX6 k).2.2.1 = some (tyX6 k) := by decide +kernel
def RL : String := "AcreOfficeLaw"
def mTE : u_T := fun _ => ("", "", "", false)
def tIAE : String := "java/lang/IllegalArgumentException"
def tISE : String := "java/lang/IllegalStateException"
def tIOB : String := "java/lang/IndexOutOfBoundsException"
abbrev mCl : List vw_C := [(RX0, TX0, 3), (RX1, TX1, 3), (RX2, TX2, 11), (RX3, TX3, 3), (RX4, TX4, 6), (RX5, TX5, 6), (RX6, TX6, 9), (tIAE, mTE, 0), (tISE, mTE, 0), (tIOB, mTE, 0)]
abbrev mMT : Type := MethodName × ByteArray × Nat × Option FieldType × List (Nat × Nat × Nat × Nat)
def mTab_0 : List mMT := [
  (⟨"AcreOffice$Field", "<init>", "()V"⟩, prog_2_method_1_code, 1, (Option.none : Option Jvm.ClassFile.FieldType), []),
  (⟨"AcreOffice$Field", "copyFrom", "(LAcreOffice$Field;)V"⟩, prog_2_method_2_code, 2, (Option.none : Option Jvm.ClassFile.FieldType), []),
  (⟨"AcreOffice$Field", "dropCorners", "()V"⟩, prog_2_method_3_code, 1, (Option.none : Option Jvm.ClassFile.FieldType), []),
  (⟨"AcreOffice$Field", "appendCorner", "(II)V"⟩, prog_2_method_4_code, 3, (Option.none : Option Jvm.ClassFile.FieldType), []),
  (⟨"AcreOffice$Field", "hasCorner", "(I)Z"⟩, prog_2_method_5_code, 2, (Option.some Jvm.ClassFile.FieldType.boolean), []),
  (⟨"AcreOffice$Field", "eastAt", "(I)I"⟩, prog_2_method_6_code, 2, (Option.some Jvm.ClassFile.FieldType.int), []),
  (⟨"AcreOffice$Field", "northAt", "(I)I"⟩, prog_2_method_7_code, 2, (Option.some Jvm.ClassFile.FieldType.int), []),
  (⟨"AcreOffice$Field", "cornerAfter", "(I)I"⟩, prog_2_method_8_code, 2, (Option.some Jvm.ClassFile.FieldType.int), []),
  (⟨"AcreOffice$Field", "cornerBefore", "(I)I"⟩, prog_2_method_9_code, 2, (Option.some Jvm.ClassFile.FieldType.int), []),
  (⟨"AcreOffice$Field", "sideEast", "(I)J"⟩, prog_2_method_10_code, 2, (Option.some Jvm.ClassFile.FieldType.long), []),
  (⟨"AcreOffice$Field", "sideNorth", "(I)J"⟩, prog_2_method_11_code, 2, (Option.some Jvm.ClassFile.FieldType.long), []),
  (⟨"AcreOffice$Field", "turnAt", "(I)J"⟩, prog_2_method_12_code, 3, (Option.some Jvm.ClassFile.FieldType.long), []),
  (⟨"AcreOffice$Field", "turnsToTheLeft", "()I"⟩, prog_2_method_13_code, 3, (Option.some Jvm.ClassFile.FieldType.int), []),
  (⟨"AcreOffice$Field", "turnsToTheRight", "()I"⟩, prog_2_method_14_code, 3, (Option.some Jvm.ClassFile.FieldType.int), []),
  (⟨"AcreOffice$Field", "sidesMetFrom", "(II)I"⟩, prog_2_method_15_code, 5, (Option.some Jvm.ClassFile.FieldType.int), []),
  (⟨"AcreOffice$Field", "isMetFrom", "(IIII)Z"⟩, prog_2_method_16_code, 15, (Option.some Jvm.ClassFile.FieldType.boolean), []),
  (⟨"AcreOffice$Field", "sidesAlsoOf", "(LAcreOffice$Field;)I"⟩, prog_2_method_17_code, 4, (Option.some Jvm.ClassFile.FieldType.int), []),
  (⟨"AcreOffice$Field", "hasSide", "(LAcreOffice$Field;II)Z"⟩, prog_2_method_18_code, 6, (Option.some Jvm.ClassFile.FieldType.boolean), []),
  (⟨"AcreOffice$Field", "isSamePoint", "(ILAcreOffice$Field;I)Z"⟩, prog_2_method_19_code, 4, (Option.some Jvm.ClassFile.FieldType.boolean), []),
  (⟨"AcreOffice$Field", "twiceByCorners", "()J"⟩, prog_2_method_20_code, 5, (Option.some Jvm.ClassFile.FieldType.long), []),
  (⟨"AcreOffice$Field", "twiceByStrips", "()J"⟩, prog_2_method_21_code, 6, (Option.some Jvm.ClassFile.FieldType.long), []),
  (⟨"AcreOffice$Field", "area", "()J"⟩, prog_2_method_22_code, 1, (Option.some Jvm.ClassFile.FieldType.long), []),
  (⟨"AcreOffice$Field", "extentEast", "()I"⟩, prog_2_method_23_code, 1, (Option.some Jvm.ClassFile.FieldType.int), []),
  (⟨"AcreOffice$Field", "extentNorth", "()I"⟩, prog_2_method_24_code, 1, (Option.some Jvm.ClassFile.FieldType.int), []),
  (⟨"AcreOffice$Field", "extentOf", "([I)I"⟩, prog_2_method_25_code, 5, (Option.some Jvm.ClassFile.FieldType.int), []),
  (⟨"AcreOffice$History", "<init>", "()V"⟩, prog_3_method_1_code, 2, (Option.none : Option Jvm.ClassFile.FieldType), []),
  (⟨"AcreOffice$History", "remember", "(LAcreOffice$State;)V"⟩, prog_3_method_2_code, 2, (Option.none : Option Jvm.ClassFile.FieldType), []),
  (⟨"AcreOffice$History", "giveBack", "(LAcreOffice$State;)Z"⟩, prog_3_method_3_code, 2, (Option.some Jvm.ClassFile.FieldType.boolean), []),
  (⟨"AcreOffice$Orders", "<init>", "()V"⟩, prog_4_method_1_code, 1, (Option.none : Option Jvm.ClassFile.FieldType), []),
  (⟨"AcreOffice$Orders", "append", "(C)Z"⟩, prog_4_method_2_code, 2, (Option.some Jvm.ClassFile.FieldType.boolean), []),
  (⟨"AcreOffice$Orders", "dropText", "()I"⟩, prog_4_method_3_code, 2, (Option.some Jvm.ClassFile.FieldType.int), []),
  (⟨"AcreOffice$Orders", "firstError", "()I"⟩, prog_4_method_4_code, 2, (Option.some Jvm.ClassFile.FieldType.int), []),
  (⟨"AcreOffice$Orders", "accepts", "(C)Z"⟩, prog_4_method_5_code, 2, (Option.some Jvm.ClassFile.FieldType.boolean), []),
  (⟨"AcreOffice$Orders", "beginOrder", "(C)Z"⟩, prog_4_method_6_code, 2, (Option.some Jvm.ClassFile.FieldType.boolean), []),
  (⟨"AcreOffice$Orders", "noteKind", "(II)Z"⟩, prog_4_method_7_code, 3, (Option.some Jvm.ClassFile.FieldType.boolean), []),
  (⟨"AcreOffice$Orders", "endOrder", "(C)Z"⟩, prog_4_method_8_code, 2, (Option.some Jvm.ClassFile.FieldType.boolean), []),
  (⟨"AcreOffice$Orders", "readField", "(C)Z"⟩, prog_4_method_9_code, 2, (Option.some Jvm.ClassFile.FieldType.boolean), []),
  (⟨"AcreOffice$Orders", "beginNumber", "(CCI)Z"⟩, prog_4_method_10_code, 4, (Option.some Jvm.ClassFile.FieldType.boolean), []),
  (⟨"AcreOffice$Orders", "growNumber", "(CI)Z"⟩, prog_4_method_11_code, 4, (Option.some Jvm.ClassFile.FieldType.boolean), []),
  (⟨"AcreOffice$Orders", "endEast", "(C)Z"⟩, prog_4_method_12_code, 2, (Option.some Jvm.ClassFile.FieldType.boolean), [])]
def mTab_1 : List mMT := [
  (⟨"AcreOffice$Orders", "endNorth", "(C)Z"⟩, prog_4_method_13_code, 2, (Option.some Jvm.ClassFile.FieldType.boolean), []),
  (⟨"AcreOffice$Orders", "noteLength", "()Z"⟩, prog_4_method_14_code, 1, (Option.some Jvm.ClassFile.FieldType.boolean), []),
  (⟨"AcreOffice$Orders", "note", "([II)V"⟩, prog_4_method_15_code, 4, (Option.none : Option Jvm.ClassFile.FieldType), []),
  (⟨"AcreOffice$Orders", "firstFailureOn", "(LAcreOffice$State;)I"⟩, prog_4_method_16_code, 3, (Option.some Jvm.ClassFile.FieldType.int), []),
  (⟨"AcreOffice$Orders", "isCarriedOut", "(ILAcreOffice$State;)Z"⟩, prog_4_method_17_code, 3, (Option.some Jvm.ClassFile.FieldType.boolean), []),
  (⟨"AcreOffice$State", "<init>", "()V"⟩, prog_5_method_1_code, 2, (Option.none : Option Jvm.ClassFile.FieldType), []),
  (⟨"AcreOffice$State", "copyFrom", "(LAcreOffice$State;)V"⟩, prog_5_method_2_code, 3, (Option.none : Option Jvm.ClassFile.FieldType), []),
  (⟨"AcreOffice$State", "hasField", "(I)Z"⟩, prog_5_method_3_code, 2, (Option.some Jvm.ClassFile.FieldType.boolean), []),
  (⟨"AcreOffice$State", "keepTraverse", "()Z"⟩, prog_5_method_4_code, 3, (Option.some Jvm.ClassFile.FieldType.boolean), []),
  (⟨"AcreOffice$State", "dropField", "(I)Z"⟩, prog_5_method_5_code, 3, (Option.some Jvm.ClassFile.FieldType.boolean), []),
  (⟨"AcreOffice$State", "fieldOfGreatestArea", "()I"⟩, prog_5_method_6_code, 7, (Option.some Jvm.ClassFile.FieldType.int), []),
  (⟨"AcreOffice$State", "sumOfTwiceAreas", "()J"⟩, prog_5_method_7_code, 4, (Option.some Jvm.ClassFile.FieldType.long), []),
  (⟨"AcreOffice$Traverse", "<init>", "()V"⟩, prog_6_method_1_code, 1, (Option.none : Option Jvm.ClassFile.FieldType), []),
  (⟨"AcreOffice$Traverse", "copyFrom", "(LAcreOffice$Traverse;)V"⟩, prog_6_method_2_code, 2, (Option.none : Option Jvm.ClassFile.FieldType), []),
  (⟨"AcreOffice$Traverse", "append", "(III)Z"⟩, prog_6_method_3_code, 4, (Option.some Jvm.ClassFile.FieldType.boolean), []),
  (⟨"AcreOffice$Traverse", "dropLast", "()Z"⟩, prog_6_method_4_code, 1, (Option.some Jvm.ClassFile.FieldType.boolean), []),
  (⟨"AcreOffice$Traverse", "dropAllLegs", "()V"⟩, prog_6_method_5_code, 1, (Option.none : Option Jvm.ClassFile.FieldType), []),
  (⟨"AcreOffice$Traverse", "moveOrigin", "(II)V"⟩, prog_6_method_6_code, 3, (Option.none : Option Jvm.ClassFile.FieldType), []),
  (⟨"AcreOffice$Traverse", "hasCorner", "(I)Z"⟩, prog_6_method_7_code, 2, (Option.some Jvm.ClassFile.FieldType.boolean), []),
  (⟨"AcreOffice$Traverse", "measuredLength", "()I"⟩, prog_6_method_8_code, 1, (Option.some Jvm.ClassFile.FieldType.int), []),
  (⟨"AcreOffice$Traverse", "closingEast", "()I"⟩, prog_6_method_9_code, 1, (Option.some Jvm.ClassFile.FieldType.int), []),
  (⟨"AcreOffice$Traverse", "closingNorth", "()I"⟩, prog_6_method_10_code, 1, (Option.some Jvm.ClassFile.FieldType.int), []),
  (⟨"AcreOffice$Traverse", "closesWell", "()Z"⟩, prog_6_method_11_code, 2, (Option.some Jvm.ClassFile.FieldType.boolean), []),
  (⟨"AcreOffice$Traverse", "adjustedEastAt", "(I)I"⟩, prog_6_method_12_code, 2, (Option.some Jvm.ClassFile.FieldType.int), []),
  (⟨"AcreOffice$Traverse", "adjustedNorthAt", "(I)I"⟩, prog_6_method_13_code, 2, (Option.some Jvm.ClassFile.FieldType.int), []),
  (⟨"AcreOffice$Traverse", "shareOf", "(II)I"⟩, prog_6_method_14_code, 7, (Option.some Jvm.ClassFile.FieldType.int), []),
  (⟨"AcreOffice", "<init>", "()V"⟩, prog_1_method_1_code, 1, (Option.none : Option Jvm.ClassFile.FieldType), []),
  (⟨"AcreOffice", "addLeg", "(III)I"⟩, prog_1_method_2_code, 4, (Option.some Jvm.ClassFile.FieldType.int), []),
  (⟨"AcreOffice", "takeBack", "()I"⟩, prog_1_method_3_code, 1, (Option.some Jvm.ClassFile.FieldType.int), []),
  (⟨"AcreOffice", "setOrigin", "(II)I"⟩, prog_1_method_4_code, 3, (Option.some Jvm.ClassFile.FieldType.int), []),
  (⟨"AcreOffice", "keep", "()I"⟩, prog_1_method_5_code, 1, (Option.some Jvm.ClassFile.FieldType.int), []),
  (⟨"AcreOffice", "giveUp", "(I)I"⟩, prog_1_method_6_code, 2, (Option.some Jvm.ClassFile.FieldType.int), []),
  (⟨"AcreOffice", "type", "(C)I"⟩, prog_1_method_7_code, 2, (Option.some Jvm.ClassFile.FieldType.int), []),
  (⟨"AcreOffice", "clearText", "()I"⟩, prog_1_method_8_code, 1, (Option.some Jvm.ClassFile.FieldType.int), []),
  (⟨"AcreOffice", "textError", "()I"⟩, prog_1_method_9_code, 1, (Option.some Jvm.ClassFile.FieldType.int), []),
  (⟨"AcreOffice", "impossibleOrder", "()I"⟩, prog_1_method_10_code, 1, (Option.some Jvm.ClassFile.FieldType.int), []),
  (⟨"AcreOffice", "carryOut", "()I"⟩, prog_1_method_11_code, 1, (Option.some Jvm.ClassFile.FieldType.int), []),
  (⟨"AcreOffice", "undo", "()I"⟩, prog_1_method_12_code, 1, (Option.some Jvm.ClassFile.FieldType.int), []),
  (⟨"AcreOffice", "takeSnapshot", "()I"⟩, prog_1_method_13_code, 1, (Option.some Jvm.ClassFile.FieldType.int), []),
  (⟨"AcreOffice", "restoreSnapshot", "()I"⟩, prog_1_method_14_code, 1, (Option.some Jvm.ClassFile.FieldType.int), [])]
def mTab_2 : List mMT := [
  (⟨"AcreOffice", "legs", "()I"⟩, prog_1_method_15_code, 1, (Option.some Jvm.ClassFile.FieldType.int), []),
  (⟨"AcreOffice", "traverseLength", "()I"⟩, prog_1_method_16_code, 1, (Option.some Jvm.ClassFile.FieldType.int), []),
  (⟨"AcreOffice", "errorEast", "()I"⟩, prog_1_method_17_code, 1, (Option.some Jvm.ClassFile.FieldType.int), []),
  (⟨"AcreOffice", "errorNorth", "()I"⟩, prog_1_method_18_code, 1, (Option.some Jvm.ClassFile.FieldType.int), []),
  (⟨"AcreOffice", "isClose", "()Z"⟩, prog_1_method_19_code, 1, (Option.some Jvm.ClassFile.FieldType.boolean), []),
  (⟨"AcreOffice", "adjustedEast", "(I)I"⟩, prog_1_method_20_code, 2, (Option.some Jvm.ClassFile.FieldType.int), []),
  (⟨"AcreOffice", "adjustedNorth", "(I)I"⟩, prog_1_method_21_code, 2, (Option.some Jvm.ClassFile.FieldType.int), []),
  (⟨"AcreOffice", "fields", "()I"⟩, prog_1_method_22_code, 1, (Option.some Jvm.ClassFile.FieldType.int), []),
  (⟨"AcreOffice", "cornersOf", "(I)I"⟩, prog_1_method_23_code, 2, (Option.some Jvm.ClassFile.FieldType.int), []),
  (⟨"AcreOffice", "cornerEast", "(II)I"⟩, prog_1_method_24_code, 3, (Option.some Jvm.ClassFile.FieldType.int), []),
  (⟨"AcreOffice", "cornerNorth", "(II)I"⟩, prog_1_method_25_code, 3, (Option.some Jvm.ClassFile.FieldType.int), []),
  (⟨"AcreOffice", "leftTurns", "(I)I"⟩, prog_1_method_26_code, 2, (Option.some Jvm.ClassFile.FieldType.int), []),
  (⟨"AcreOffice", "turnsOneWay", "(I)Z"⟩, prog_1_method_27_code, 3, (Option.some Jvm.ClassFile.FieldType.boolean), []),
  (⟨"AcreOffice", "sidesEastOf", "(III)I"⟩, prog_1_method_28_code, 5, (Option.some Jvm.ClassFile.FieldType.int), []),
  (⟨"AcreOffice", "sharedSides", "(II)I"⟩, prog_1_method_29_code, 5, (Option.some Jvm.ClassFile.FieldType.int), []),
  (⟨"AcreOffice", "twiceAreaByCorners", "(I)J"⟩, prog_1_method_30_code, 2, (Option.some Jvm.ClassFile.FieldType.long), []),
  (⟨"AcreOffice", "twiceAreaByStrips", "(I)J"⟩, prog_1_method_31_code, 2, (Option.some Jvm.ClassFile.FieldType.long), []),
  (⟨"AcreOffice", "acresOf", "(I)I"⟩, prog_1_method_32_code, 2, (Option.some Jvm.ClassFile.FieldType.int), []),
  (⟨"AcreOffice", "roodsOf", "(I)I"⟩, prog_1_method_33_code, 2, (Option.some Jvm.ClassFile.FieldType.int), []),
  (⟨"AcreOffice", "perchesOf", "(I)I"⟩, prog_1_method_34_code, 2, (Option.some Jvm.ClassFile.FieldType.int), []),
  (⟨"AcreOffice", "largestField", "()I"⟩, prog_1_method_35_code, 1, (Option.some Jvm.ClassFile.FieldType.int), []),
  (⟨"AcreOffice", "twiceAreaOfAll", "()J"⟩, prog_1_method_36_code, 1, (Option.some Jvm.ClassFile.FieldType.long), []),
  (⟨"AcreOffice", "sheetsFor", "(II)I"⟩, prog_1_method_37_code, 5, (Option.some Jvm.ClassFile.FieldType.int), []),
  (⟨"AcreOffice", "scaleFor", "(I)I"⟩, prog_1_method_38_code, 5, (Option.some Jvm.ClassFile.FieldType.int), []),
  (⟨"AcreOffice", "recordedStates", "()I"⟩, prog_1_method_39_code, 1, (Option.some Jvm.ClassFile.FieldType.int), []),
  (⟨"AcreOffice", "beginTrial", "()V"⟩, prog_1_method_40_code, 1, (Option.none : Option Jvm.ClassFile.FieldType), []),
  (⟨"AcreOffice", "settleTrial", "()V"⟩, prog_1_method_41_code, 1, (Option.none : Option Jvm.ClassFile.FieldType), []),
  (⟨"AcreOffice", "knownField", "(I)LAcreOffice$Field;"⟩, prog_1_method_42_code, 2, (Option.some (Jvm.ClassFile.FieldType.object "AcreOffice$Field")), []),
  (⟨"AcreOffice", "fieldWithCorner", "(II)LAcreOffice$Field;"⟩, prog_1_method_43_code, 4, (Option.some (Jvm.ClassFile.FieldType.object "AcreOffice$Field")), []),
  (⟨"AcreOffice", "isWithin", "(II)Z"⟩, prog_1_method_44_code, 2, (Option.some Jvm.ClassFile.FieldType.boolean), []),
  (⟨"AcreOffice", "cellOf", "([II)I"⟩, prog_1_method_45_code, 2, (Option.some Jvm.ClassFile.FieldType.int), []),
  (⟨"AcreOffice", "piecesNeeded", "(II)I"⟩, prog_1_method_46_code, 2, (Option.some Jvm.ClassFile.FieldType.int), []),
  (⟨"AcreOfficeModel", "<init>", "()V"⟩, prog_8_method_1_code, 1, (Option.none : Option Jvm.ClassFile.FieldType), []),
  (⟨"AcreOfficeModel", "thrown", "()I"⟩, prog_8_method_2_code, 1, (Option.some Jvm.ClassFile.FieldType.int), []),
  (⟨"AcreOfficeModel", "in", "(III)Z"⟩, prog_8_method_3_code, 3, (Option.some Jvm.ClassFile.FieldType.boolean), []),
  (⟨"AcreOfficeModel", "holds", "(I)Z"⟩, prog_8_method_4_code, 2, (Option.some Jvm.ClassFile.FieldType.boolean), []),
  (⟨"AcreOfficeModel", "isField", "(I)Z"⟩, prog_8_method_5_code, 2, (Option.some Jvm.ClassFile.FieldType.boolean), []),
  (⟨"AcreOfficeModel", "corners", "(I)I"⟩, prog_8_method_6_code, 2, (Option.some Jvm.ClassFile.FieldType.int), []),
  (⟨"AcreOfficeModel", "isCorner", "(II)Z"⟩, prog_8_method_7_code, 3, (Option.some Jvm.ClassFile.FieldType.boolean), []),
  (⟨"AcreOfficeModel", "part", "(III)I"⟩, prog_8_method_8_code, 5, (Option.some Jvm.ClassFile.FieldType.int), [])]
def mTab_3 : List mMT := [
  (⟨"AcreOfficeModel", "records", "()V"⟩, prog_8_method_9_code, 2, (Option.none : Option Jvm.ClassFile.FieldType), []),
  (⟨"AcreOfficeModel", "putAside", "()V"⟩, prog_8_method_10_code, 2, (Option.none : Option Jvm.ClassFile.FieldType), []),
  (⟨"AcreOfficeModel", "putBack", "()V"⟩, prog_8_method_11_code, 2, (Option.none : Option Jvm.ClassFile.FieldType), []),
  (⟨"AcreOfficeModel", "sizeOf", "(J)J"⟩, prog_8_method_12_code, 2, (Option.some Jvm.ClassFile.FieldType.long), []),
  (⟨"AcreOfficeModel", "before", "(II)I"⟩, prog_8_method_13_code, 5, (Option.some Jvm.ClassFile.FieldType.int), []),
  (⟨"AcreOfficeModel", "error", "(I)I"⟩, prog_8_method_14_code, 2, (Option.some Jvm.ClassFile.FieldType.int), []),
  (⟨"AcreOfficeModel", "close", "()Z"⟩, prog_8_method_15_code, 1, (Option.some Jvm.ClassFile.FieldType.boolean), []),
  (⟨"AcreOfficeModel", "floor", "(JJ)J"⟩, prog_8_method_16_code, 6, (Option.some Jvm.ClassFile.FieldType.long), []),
  (⟨"AcreOfficeModel", "adjusted", "(II)I"⟩, prog_8_method_17_code, 4, (Option.some Jvm.ClassFile.FieldType.int), []),
  (⟨"AcreOfficeModel", "change", "(III)J"⟩, prog_8_method_18_code, 4, (Option.some Jvm.ClassFile.FieldType.long), []),
  (⟨"AcreOfficeModel", "twice", "(I)J"⟩, prog_8_method_19_code, 9, (Option.some Jvm.ClassFile.FieldType.long), []),
  (⟨"AcreOfficeModel", "turn", "(II)J"⟩, prog_8_method_20_code, 4, (Option.some Jvm.ClassFile.FieldType.long), []),
  (⟨"AcreOfficeModel", "turns", "(IZ)I"⟩, prog_8_method_21_code, 7, (Option.some Jvm.ClassFile.FieldType.int), []),
  (⟨"AcreOfficeModel", "isEast", "(IIII)Z"⟩, prog_8_method_22_code, 11, (Option.some Jvm.ClassFile.FieldType.boolean), []),
  (⟨"AcreOfficeModel", "isSame", "(IIII)Z"⟩, prog_8_method_23_code, 5, (Option.some Jvm.ClassFile.FieldType.boolean), []),
  (⟨"AcreOfficeModel", "isShared", "(III)Z"⟩, prog_8_method_24_code, 6, (Option.some Jvm.ClassFile.FieldType.boolean), []),
  (⟨"AcreOfficeModel", "extent", "(II)I"⟩, prog_8_method_25_code, 7, (Option.some Jvm.ClassFile.FieldType.int), []),
  (⟨"AcreOfficeModel", "wrongLeg", "(III)I"⟩, prog_8_method_26_code, 5, (Option.some Jvm.ClassFile.FieldType.int), []),
  (⟨"AcreOfficeModel", "adds", "(III)I"⟩, prog_8_method_27_code, 5, (Option.some Jvm.ClassFile.FieldType.int), []),
  (⟨"AcreOfficeModel", "takes", "()I"⟩, prog_8_method_28_code, 2, (Option.some Jvm.ClassFile.FieldType.int), []),
  (⟨"AcreOfficeModel", "lays", "()V"⟩, prog_8_method_29_code, 3, (Option.none : Option Jvm.ClassFile.FieldType), []),
  (⟨"AcreOfficeModel", "empties", "(I)V"⟩, prog_8_method_30_code, 3, (Option.none : Option Jvm.ClassFile.FieldType), []),
  (⟨"AcreOfficeModel", "canKeep", "()Z"⟩, prog_8_method_31_code, 2, (Option.some Jvm.ClassFile.FieldType.boolean), []),
  (⟨"AcreOfficeModel", "keeps", "()I"⟩, prog_8_method_32_code, 2, (Option.some Jvm.ClassFile.FieldType.int), []),
  (⟨"AcreOfficeModel", "gives", "(I)I"⟩, prog_8_method_33_code, 3, (Option.some Jvm.ClassFile.FieldType.int), []),
  (⟨"AcreOfficeModel", "addLeg", "(III)I"⟩, prog_8_method_34_code, 4, (Option.some Jvm.ClassFile.FieldType.int), []),
  (⟨"AcreOfficeModel", "takeBack", "()I"⟩, prog_8_method_35_code, 1, (Option.some Jvm.ClassFile.FieldType.int), []),
  (⟨"AcreOfficeModel", "setOrigin", "(II)I"⟩, prog_8_method_36_code, 3, (Option.some Jvm.ClassFile.FieldType.int), []),
  (⟨"AcreOfficeModel", "keep", "()I"⟩, prog_8_method_37_code, 1, (Option.some Jvm.ClassFile.FieldType.int), []),
  (⟨"AcreOfficeModel", "giveUp", "(I)I"⟩, prog_8_method_38_code, 2, (Option.some Jvm.ClassFile.FieldType.int), []),
  (⟨"AcreOfficeModel", "type", "(C)I"⟩, prog_8_method_39_code, 2, (Option.some Jvm.ClassFile.FieldType.int), []),
  (⟨"AcreOfficeModel", "clearText", "()I"⟩, prog_8_method_40_code, 2, (Option.some Jvm.ClassFile.FieldType.int), []),
  (⟨"AcreOfficeModel", "charAt", "(I)I"⟩, prog_8_method_41_code, 2, (Option.some Jvm.ClassFile.FieldType.int), []),
  (⟨"AcreOfficeModel", "behindNumber", "(III)I"⟩, prog_8_method_42_code, 6, (Option.some Jvm.ClassFile.FieldType.int), []),
  (⟨"AcreOfficeModel", "numberIn", "(II)I"⟩, prog_8_method_43_code, 5, (Option.some Jvm.ClassFile.FieldType.int), []),
  (⟨"AcreOfficeModel", "behindLeg", "(I)I"⟩, prog_8_method_44_code, 5, (Option.some Jvm.ClassFile.FieldType.int), []),
  (⟨"AcreOfficeModel", "behindOrder", "(I)I"⟩, prog_8_method_45_code, 3, (Option.some Jvm.ClassFile.FieldType.int), []),
  (⟨"AcreOfficeModel", "wrong", "()I"⟩, prog_8_method_46_code, 3, (Option.some Jvm.ClassFile.FieldType.int), []),
  (⟨"AcreOfficeModel", "textError", "()I"⟩, prog_8_method_47_code, 1, (Option.some Jvm.ClassFile.FieldType.int), []),
  (⟨"AcreOfficeModel", "doesLeg", "(I)Z"⟩, prog_8_method_48_code, 9, (Option.some Jvm.ClassFile.FieldType.boolean), [])]
def mTab_4 : List mMT := [
  (⟨"AcreOfficeModel", "does", "(I)Z"⟩, prog_8_method_49_code, 6, (Option.some Jvm.ClassFile.FieldType.boolean), []),
  (⟨"AcreOfficeModel", "doesAll", "()I"⟩, prog_8_method_50_code, 3, (Option.some Jvm.ClassFile.FieldType.int), []),
  (⟨"AcreOfficeModel", "stops", "()I"⟩, prog_8_method_51_code, 2, (Option.some Jvm.ClassFile.FieldType.int), []),
  (⟨"AcreOfficeModel", "impossibleOrder", "()I"⟩, prog_8_method_52_code, 1, (Option.some Jvm.ClassFile.FieldType.int), []),
  (⟨"AcreOfficeModel", "carryOut", "()I"⟩, prog_8_method_53_code, 4, (Option.some Jvm.ClassFile.FieldType.int), []),
  (⟨"AcreOfficeModel", "undo", "()I"⟩, prog_8_method_54_code, 2, (Option.some Jvm.ClassFile.FieldType.int), []),
  (⟨"AcreOfficeModel", "takeSnapshot", "()I"⟩, prog_8_method_55_code, 2, (Option.some Jvm.ClassFile.FieldType.int), []),
  (⟨"AcreOfficeModel", "restoreSnapshot", "()I"⟩, prog_8_method_56_code, 2, (Option.some Jvm.ClassFile.FieldType.int), []),
  (⟨"AcreOfficeModel", "legs", "()I"⟩, prog_8_method_57_code, 1, (Option.some Jvm.ClassFile.FieldType.int), []),
  (⟨"AcreOfficeModel", "traverseLength", "()I"⟩, prog_8_method_58_code, 1, (Option.some Jvm.ClassFile.FieldType.int), []),
  (⟨"AcreOfficeModel", "errorEast", "()I"⟩, prog_8_method_59_code, 1, (Option.some Jvm.ClassFile.FieldType.int), []),
  (⟨"AcreOfficeModel", "errorNorth", "()I"⟩, prog_8_method_60_code, 1, (Option.some Jvm.ClassFile.FieldType.int), []),
  (⟨"AcreOfficeModel", "isClose", "()Z"⟩, prog_8_method_61_code, 1, (Option.some Jvm.ClassFile.FieldType.boolean), []),
  (⟨"AcreOfficeModel", "adjustedEast", "(I)I"⟩, prog_8_method_62_code, 2, (Option.some Jvm.ClassFile.FieldType.int), []),
  (⟨"AcreOfficeModel", "adjustedNorth", "(I)I"⟩, prog_8_method_63_code, 2, (Option.some Jvm.ClassFile.FieldType.int), []),
  (⟨"AcreOfficeModel", "fields", "()I"⟩, prog_8_method_64_code, 1, (Option.some Jvm.ClassFile.FieldType.int), []),
  (⟨"AcreOfficeModel", "cornersOf", "(I)I"⟩, prog_8_method_65_code, 2, (Option.some Jvm.ClassFile.FieldType.int), []),
  (⟨"AcreOfficeModel", "cornerEast", "(II)I"⟩, prog_8_method_66_code, 3, (Option.some Jvm.ClassFile.FieldType.int), []),
  (⟨"AcreOfficeModel", "cornerNorth", "(II)I"⟩, prog_8_method_67_code, 3, (Option.some Jvm.ClassFile.FieldType.int), []),
  (⟨"AcreOfficeModel", "leftTurns", "(I)I"⟩, prog_8_method_68_code, 2, (Option.some Jvm.ClassFile.FieldType.int), []),
  (⟨"AcreOfficeModel", "turnsOneWay", "(I)Z"⟩, prog_8_method_69_code, 2, (Option.some Jvm.ClassFile.FieldType.boolean), []),
  (⟨"AcreOfficeModel", "sidesEastOf", "(III)I"⟩, prog_8_method_70_code, 6, (Option.some Jvm.ClassFile.FieldType.int), []),
  (⟨"AcreOfficeModel", "sharedSides", "(II)I"⟩, prog_8_method_71_code, 5, (Option.some Jvm.ClassFile.FieldType.int), []),
  (⟨"AcreOfficeModel", "twiceAreaByCorners", "(I)J"⟩, prog_8_method_72_code, 2, (Option.some Jvm.ClassFile.FieldType.long), []),
  (⟨"AcreOfficeModel", "twiceAreaByStrips", "(I)J"⟩, prog_8_method_73_code, 2, (Option.some Jvm.ClassFile.FieldType.long), []),
  (⟨"AcreOfficeModel", "area", "(I)J"⟩, prog_8_method_74_code, 2, (Option.some Jvm.ClassFile.FieldType.long), []),
  (⟨"AcreOfficeModel", "acresOf", "(I)I"⟩, prog_8_method_75_code, 2, (Option.some Jvm.ClassFile.FieldType.int), []),
  (⟨"AcreOfficeModel", "roodsOf", "(I)I"⟩, prog_8_method_76_code, 2, (Option.some Jvm.ClassFile.FieldType.int), []),
  (⟨"AcreOfficeModel", "perchesOf", "(I)I"⟩, prog_8_method_77_code, 2, (Option.some Jvm.ClassFile.FieldType.int), []),
  (⟨"AcreOfficeModel", "largestField", "()I"⟩, prog_8_method_78_code, 3, (Option.some Jvm.ClassFile.FieldType.int), []),
  (⟨"AcreOfficeModel", "twiceAreaOfAll", "()J"⟩, prog_8_method_79_code, 4, (Option.some Jvm.ClassFile.FieldType.long), []),
  (⟨"AcreOfficeModel", "up", "(II)I"⟩, prog_8_method_80_code, 3, (Option.some Jvm.ClassFile.FieldType.int), []),
  (⟨"AcreOfficeModel", "sheetsFor", "(II)I"⟩, prog_8_method_81_code, 3, (Option.some Jvm.ClassFile.FieldType.int), []),
  (⟨"AcreOfficeModel", "scaleFor", "(I)I"⟩, prog_8_method_82_code, 5, (Option.some Jvm.ClassFile.FieldType.int), []),
  (⟨"AcreOfficeModel", "recordedStates", "()I"⟩, prog_8_method_83_code, 1, (Option.some Jvm.ClassFile.FieldType.int), []),
  (⟨"java/lang/Math", "floorDiv", "(JJ)J"⟩, prog_13_method_49_code, 6, (Option.some Jvm.ClassFile.FieldType.long), []),
  (⟨"java/lang/Math", "abs", "(I)I"⟩, prog_13_method_59_code, 1, (Option.some Jvm.ClassFile.FieldType.int), []),
  (⟨"java/lang/Math", "abs", "(J)J"⟩, prog_13_method_61_code, 2, (Option.some Jvm.ClassFile.FieldType.long), []),
  (⟨"java/lang/Math", "max", "(II)I"⟩, prog_13_method_65_code, 2, (Option.some Jvm.ClassFile.FieldType.int), []),
  (⟨"java/lang/Math", "min", "(II)I"⟩, prog_13_method_69_code, 2, (Option.some Jvm.ClassFile.FieldType.int), [])]
def mTab_5 : List mMT := [
  (⟨"AcreOfficeLaw", "addLeg", "(LAcreOffice;III[J)I"⟩, method_3_code, 6, (Option.some Jvm.ClassFile.FieldType.int), [(0, 12, 15, 13), (0, 12, 19, 15)]),
  (⟨"AcreOfficeLaw", "takeBack", "(LAcreOffice;[J)I"⟩, method_4_code, 3, (Option.some Jvm.ClassFile.FieldType.int), [(0, 8, 11, 15)]),
  (⟨"AcreOfficeLaw", "setOrigin", "(LAcreOffice;II[J)I"⟩, method_5_code, 5, (Option.some Jvm.ClassFile.FieldType.int), [(0, 10, 13, 13)]),
  (⟨"AcreOfficeLaw", "keep", "(LAcreOffice;[J)I"⟩, method_6_code, 3, (Option.some Jvm.ClassFile.FieldType.int), [(0, 8, 11, 15)]),
  (⟨"AcreOfficeLaw", "giveUp", "(LAcreOffice;I[J)I"⟩, method_7_code, 4, (Option.some Jvm.ClassFile.FieldType.int), [(0, 9, 12, 32)]),
  (⟨"AcreOfficeLaw", "type", "(LAcreOffice;C[J)I"⟩, method_8_code, 4, (Option.some Jvm.ClassFile.FieldType.int), [(0, 9, 12, 15)]),
  (⟨"AcreOfficeLaw", "impossibleOrder", "(LAcreOffice;[J)I"⟩, method_9_code, 3, (Option.some Jvm.ClassFile.FieldType.int), [(0, 8, 11, 15)]),
  (⟨"AcreOfficeLaw", "carryOut", "(LAcreOffice;[J)I"⟩, method_10_code, 3, (Option.some Jvm.ClassFile.FieldType.int), [(0, 8, 11, 15)]),
  (⟨"AcreOfficeLaw", "undo", "(LAcreOffice;[J)I"⟩, method_11_code, 3, (Option.some Jvm.ClassFile.FieldType.int), [(0, 8, 11, 15)]),
  (⟨"AcreOfficeLaw", "restoreSnapshot", "(LAcreOffice;[J)I"⟩, method_12_code, 3, (Option.some Jvm.ClassFile.FieldType.int), [(0, 8, 11, 15)]),
  (⟨"AcreOfficeLaw", "adjustedEast", "(LAcreOffice;I[J)I"⟩, method_13_code, 4, (Option.some Jvm.ClassFile.FieldType.int), [(0, 9, 12, 32)]),
  (⟨"AcreOfficeLaw", "adjustedNorth", "(LAcreOffice;I[J)I"⟩, method_14_code, 4, (Option.some Jvm.ClassFile.FieldType.int), [(0, 9, 12, 32)]),
  (⟨"AcreOfficeLaw", "cornersOf", "(LAcreOffice;I[J)I"⟩, method_15_code, 4, (Option.some Jvm.ClassFile.FieldType.int), [(0, 9, 12, 32)]),
  (⟨"AcreOfficeLaw", "cornerEast", "(LAcreOffice;II[J)I"⟩, method_16_code, 5, (Option.some Jvm.ClassFile.FieldType.int), [(0, 10, 13, 32)]),
  (⟨"AcreOfficeLaw", "cornerNorth", "(LAcreOffice;II[J)I"⟩, method_17_code, 5, (Option.some Jvm.ClassFile.FieldType.int), [(0, 10, 13, 32)]),
  (⟨"AcreOfficeLaw", "leftTurns", "(LAcreOffice;I[J)I"⟩, method_18_code, 4, (Option.some Jvm.ClassFile.FieldType.int), [(0, 9, 12, 32)]),
  (⟨"AcreOfficeLaw", "turnsOneWay", "(LAcreOffice;I[J)I"⟩, method_19_code, 4, (Option.some Jvm.ClassFile.FieldType.int), [(0, 16, 19, 32)]),
  (⟨"AcreOfficeLaw", "sidesEastOf", "(LAcreOffice;III[J)I"⟩, method_20_code, 6, (Option.some Jvm.ClassFile.FieldType.int), [(0, 12, 15, 32), (0, 12, 19, 13)]),
  (⟨"AcreOfficeLaw", "sharedSides", "(LAcreOffice;II[J)I"⟩, method_21_code, 5, (Option.some Jvm.ClassFile.FieldType.int), [(0, 10, 13, 32)]),
  (⟨"AcreOfficeLaw", "twiceAreaByCorners", "(LAcreOffice;I[J)I"⟩, method_22_code, 4, (Option.some Jvm.ClassFile.FieldType.int), [(0, 8, 11, 32)]),
  (⟨"AcreOfficeLaw", "twiceAreaByStrips", "(LAcreOffice;I[J)I"⟩, method_23_code, 4, (Option.some Jvm.ClassFile.FieldType.int), [(0, 8, 11, 32)]),
  (⟨"AcreOfficeLaw", "acresOf", "(LAcreOffice;I[J)I"⟩, method_24_code, 4, (Option.some Jvm.ClassFile.FieldType.int), [(0, 9, 12, 32)]),
  (⟨"AcreOfficeLaw", "roodsOf", "(LAcreOffice;I[J)I"⟩, method_25_code, 4, (Option.some Jvm.ClassFile.FieldType.int), [(0, 9, 12, 32)]),
  (⟨"AcreOfficeLaw", "perchesOf", "(LAcreOffice;I[J)I"⟩, method_26_code, 4, (Option.some Jvm.ClassFile.FieldType.int), [(0, 9, 12, 32)]),
  (⟨"AcreOfficeLaw", "sheetsFor", "(LAcreOffice;II[J)I"⟩, method_27_code, 5, (Option.some Jvm.ClassFile.FieldType.int), [(0, 10, 13, 32), (0, 10, 17, 13)]),
  (⟨"AcreOfficeLaw", "scaleFor", "(LAcreOffice;I[J)I"⟩, method_28_code, 4, (Option.some Jvm.ClassFile.FieldType.int), [(0, 9, 12, 32)]),
  (⟨"AcreOfficeLaw", "law", "([I)Z"⟩, code, maxLocals, ret, [])]
def mTab : List mMT := mTab_0 ++ (mTab_1 ++ (mTab_2 ++ (mTab_3 ++ (mTab_4 ++ (mTab_5)))))
def mAt (i : Nat) : mMT := (mTab[i]?).getD (⟨"", "", ""⟩, ⟨#[]⟩, 0, none, [])
def mY (i : Nat) : MethodName := (mAt i).1
def mB (i : Nat) : ByteArray := (mAt i).2.1
def mL (i : Nat) : Nat := (mAt i).2.2.1
def mR (i : Nat) : Option FieldType := (mAt i).2.2.2.1
def mHH (i : Nat) : List (Nat × Nat × Nat × Nat) := (mAt i).2.2.2.2
def mC (i : Nat) : String := (mY i).cls
abbrev iF_init : Nat := 0
abbrev iF_copyFrom : Nat := 1
abbrev iF_dropCorners : Nat := 2
abbrev iF_appendCorner : Nat := 3
abbrev iF_hasCorner : Nat := 4
abbrev iF_eastAt : Nat := 5
abbrev iF_northAt : Nat := 6
abbrev iF_cornerAfter : Nat := 7
abbrev iF_cornerBefore : Nat := 8
abbrev iF_sideEast : Nat := 9
abbrev iF_sideNorth : Nat := 10
abbrev iF_turnAt : Nat := 11
abbrev iF_turnsToTheLeft : Nat := 12
abbrev iF_turnsToTheRight : Nat := 13
abbrev iF_sidesMetFrom : Nat := 14
abbrev iF_isMetFrom : Nat := 15
abbrev iF_sidesAlsoOf : Nat := 16
abbrev iF_hasSide : Nat := 17
abbrev iF_isSamePoint : Nat := 18
abbrev iF_twiceByCorners : Nat := 19
abbrev iF_twiceByStrips : Nat := 20
abbrev iF_area : Nat := 21
abbrev iF_extentEast : Nat := 22
abbrev iF_extentNorth : Nat := 23
abbrev iF_extentOf : Nat := 24
abbrev iH_init : Nat := 25
abbrev iH_remember : Nat := 26
abbrev iH_giveBack : Nat := 27
abbrev iO_init : Nat := 28
abbrev iO_append : Nat := 29
abbrev iO_dropText : Nat := 30
abbrev iO_firstError : Nat := 31
abbrev iO_accepts : Nat := 32
abbrev iO_beginOrder : Nat := 33
abbrev iO_noteKind : Nat := 34
abbrev iO_endOrder : Nat := 35
abbrev iO_readField : Nat := 36
abbrev iO_beginNumber : Nat := 37
abbrev iO_growNumber : Nat := 38
abbrev iO_endEast : Nat := 39
abbrev iO_endNorth : Nat := 40
abbrev iO_noteLength : Nat := 41
abbrev iO_note : Nat := 42
abbrev iO_firstFailureOn : Nat := 43
abbrev iO_isCarriedOut : Nat := 44
abbrev iS_init : Nat := 45
abbrev iS_copyFrom : Nat := 46
abbrev iS_hasField : Nat := 47
abbrev iS_keepTraverse : Nat := 48
abbrev iS_dropField : Nat := 49
abbrev iS_fieldOfGreatestArea : Nat := 50
abbrev iS_sumOfTwiceAreas : Nat := 51
abbrev iT_init : Nat := 52
abbrev iT_copyFrom : Nat := 53
abbrev iT_append : Nat := 54
abbrev iT_dropLast : Nat := 55
abbrev iT_dropAllLegs : Nat := 56
abbrev iT_moveOrigin : Nat := 57
abbrev iT_hasCorner : Nat := 58
abbrev iT_measuredLength : Nat := 59
abbrev iT_closingEast : Nat := 60
abbrev iT_closingNorth : Nat := 61
abbrev iT_closesWell : Nat := 62
abbrev iT_adjustedEastAt : Nat := 63
abbrev iT_adjustedNorthAt : Nat := 64
abbrev iT_shareOf : Nat := 65
abbrev iA_init : Nat := 66
abbrev iA_addLeg : Nat := 67
abbrev iA_takeBack : Nat := 68
abbrev iA_setOrigin : Nat := 69
abbrev iA_keep : Nat := 70
abbrev iA_giveUp : Nat := 71
abbrev iA_type : Nat := 72
abbrev iA_clearText : Nat := 73
abbrev iA_textError : Nat := 74
abbrev iA_impossibleOrder : Nat := 75
abbrev iA_carryOut : Nat := 76
abbrev iA_undo : Nat := 77
abbrev iA_takeSnapshot : Nat := 78
abbrev iA_restoreSnapshot : Nat := 79
abbrev iA_legs : Nat := 80
abbrev iA_traverseLength : Nat := 81
abbrev iA_errorEast : Nat := 82
abbrev iA_errorNorth : Nat := 83
abbrev iA_isClose : Nat := 84
abbrev iA_adjustedEast : Nat := 85
abbrev iA_adjustedNorth : Nat := 86
abbrev iA_fields : Nat := 87
abbrev iA_cornersOf : Nat := 88
abbrev iA_cornerEast : Nat := 89
abbrev iA_cornerNorth : Nat := 90
abbrev iA_leftTurns : Nat := 91
abbrev iA_turnsOneWay : Nat := 92
abbrev iA_sidesEastOf : Nat := 93
abbrev iA_sharedSides : Nat := 94
abbrev iA_twiceAreaByCorners : Nat := 95
abbrev iA_twiceAreaByStrips : Nat := 96
abbrev iA_acresOf : Nat := 97
abbrev iA_roodsOf : Nat := 98
abbrev iA_perchesOf : Nat := 99
abbrev iA_largestField : Nat := 100
abbrev iA_twiceAreaOfAll : Nat := 101
abbrev iA_sheetsFor : Nat := 102
abbrev iA_scaleFor : Nat := 103
abbrev iA_recordedStates : Nat := 104
abbrev iA_beginTrial : Nat := 105
abbrev iA_settleTrial : Nat := 106
abbrev iA_knownField : Nat := 107
abbrev iA_fieldWithCorner : Nat := 108
abbrev iA_isWithin : Nat := 109
abbrev iA_cellOf : Nat := 110
abbrev iA_piecesNeeded : Nat := 111
abbrev iM_init : Nat := 112
abbrev iM_thrown : Nat := 113
abbrev iM_in : Nat := 114
abbrev iM_holds : Nat := 115
abbrev iM_isField : Nat := 116
abbrev iM_corners : Nat := 117
abbrev iM_isCorner : Nat := 118
abbrev iM_part : Nat := 119
abbrev iM_records : Nat := 120
abbrev iM_putAside : Nat := 121
abbrev iM_putBack : Nat := 122
abbrev iM_sizeOf : Nat := 123
abbrev iM_before : Nat := 124
abbrev iM_error : Nat := 125
abbrev iM_close : Nat := 126
abbrev iM_floor : Nat := 127
abbrev iM_adjusted : Nat := 128
abbrev iM_change : Nat := 129
abbrev iM_twice : Nat := 130
abbrev iM_turn : Nat := 131
abbrev iM_turns : Nat := 132
abbrev iM_isEast : Nat := 133
abbrev iM_isSame : Nat := 134
abbrev iM_isShared : Nat := 135
abbrev iM_extent : Nat := 136
abbrev iM_wrongLeg : Nat := 137
abbrev iM_adds : Nat := 138
abbrev iM_takes : Nat := 139
abbrev iM_lays : Nat := 140
abbrev iM_empties : Nat := 141
abbrev iM_canKeep : Nat := 142
abbrev iM_keeps : Nat := 143
abbrev iM_gives : Nat := 144
abbrev iM_addLeg : Nat := 145
abbrev iM_takeBack : Nat := 146
abbrev iM_setOrigin : Nat := 147
abbrev iM_keep : Nat := 148
abbrev iM_giveUp : Nat := 149
abbrev iM_type : Nat := 150
abbrev iM_clearText : Nat := 151
abbrev iM_charAt : Nat := 152
abbrev iM_behindNumber : Nat := 153
abbrev iM_numberIn : Nat := 154
abbrev iM_behindLeg : Nat := 155
abbrev iM_behindOrder : Nat := 156
abbrev iM_wrong : Nat := 157
abbrev iM_textError : Nat := 158
abbrev iM_doesLeg : Nat := 159
abbrev iM_does : Nat := 160
abbrev iM_doesAll : Nat := 161
abbrev iM_stops : Nat := 162
abbrev iM_impossibleOrder : Nat := 163
abbrev iM_carryOut : Nat := 164
abbrev iM_undo : Nat := 165
abbrev iM_takeSnapshot : Nat := 166
abbrev iM_restoreSnapshot : Nat := 167
abbrev iM_legs : Nat := 168
abbrev iM_traverseLength : Nat := 169
abbrev iM_errorEast : Nat := 170
abbrev iM_errorNorth : Nat := 171
abbrev iM_isClose : Nat := 172
abbrev iM_adjustedEast : Nat := 173
abbrev iM_adjustedNorth : Nat := 174
abbrev iM_fields : Nat := 175
abbrev iM_cornersOf : Nat := 176
abbrev iM_cornerEast : Nat := 177
abbrev iM_cornerNorth : Nat := 178
abbrev iM_leftTurns : Nat := 179
abbrev iM_turnsOneWay : Nat := 180
abbrev iM_sidesEastOf : Nat := 181
abbrev iM_sharedSides : Nat := 182
abbrev iM_twiceAreaByCorners : Nat := 183
abbrev iM_twiceAreaByStrips : Nat := 184
abbrev iM_area : Nat := 185
abbrev iM_acresOf : Nat := 186
abbrev iM_roodsOf : Nat := 187
abbrev iM_perchesOf : Nat := 188
abbrev iM_largestField : Nat := 189
abbrev iM_twiceAreaOfAll : Nat := 190
abbrev iM_up : Nat := 191
abbrev iM_sheetsFor : Nat := 192
abbrev iM_scaleFor : Nat := 193
abbrev iM_recordedStates : Nat := 194
abbrev iJ_floorDiv : Nat := 195
abbrev iJ_absI : Nat := 196
abbrev iJ_absL : Nat := 197
abbrev iJ_max : Nat := 198
abbrev iJ_min : Nat := 199
abbrev iL_addLeg : Nat := 200
abbrev iL_takeBack : Nat := 201
abbrev iL_setOrigin : Nat := 202
abbrev iL_keep : Nat := 203
abbrev iL_giveUp : Nat := 204
abbrev iL_type : Nat := 205
abbrev iL_impossibleOrder : Nat := 206
abbrev iL_carryOut : Nat := 207
abbrev iL_undo : Nat := 208
abbrev iL_restoreSnapshot : Nat := 209
abbrev iL_adjustedEast : Nat := 210
abbrev iL_adjustedNorth : Nat := 211
abbrev iL_cornersOf : Nat := 212
abbrev iL_cornerEast : Nat := 213
abbrev iL_cornerNorth : Nat := 214
abbrev iL_leftTurns : Nat := 215
abbrev iL_turnsOneWay : Nat := 216
abbrev iL_sidesEastOf : Nat := 217
abbrev iL_sharedSides : Nat := 218
abbrev iL_twiceAreaByCorners : Nat := 219
abbrev iL_twiceAreaByStrips : Nat := 220
abbrev iL_acresOf : Nat := 221
abbrev iL_roodsOf : Nat := 222
abbrev iL_perchesOf : Nat := 223
abbrev iL_sheetsFor : Nat := 224
abbrev iL_scaleFor : Nat := 225
abbrev iL_law : Nat := 226
/-- an instruction of the method i -/
def mD (i pc len nx : Nat) (ins : Instr) : Prop := decode (mB i) pc = .ok (ins, len) ∧ pc + len = nx
end
section
/-- words that stay as the tables warm -/
def mWarm (w : Cond) : Bool := goodWord w || (match w with | .fieldLinkNest .. => true | .methodLinkNest .. => true | .declares _ => true | .castable .. => true | _ => false)
def mSiteV (own : String) (ix j : Nat) : Prop := Cond.methodLink own ix (mY j) ∈ lw_tbl ∧ Cond.instanceMethod (mY j) ∈ lw_tbl ∧ Cond.selects (mY j).cls (mY j) (mY j) ∈ lw_tbl
def mSiteS (own : String) (ix j : Nat) : Prop := Cond.methodLink own ix (mY j) ∈ lw_tbl ∧ Cond.static (mY j) ∈ lw_tbl
def mSiteN (own : String) (ix j : Nat) (host : String) : Prop := Cond.methodLinkNest own ix (mY j) host ∈ lw_tbl ∧ Cond.static (mY j) ∈ lw_tbl
def mCodeOk (j n : Nat) : Prop := (if mHH j = [] then Cond.code (mY j) (mB j) (mL j) (mR j) else Cond.codeWith (mY j) (mB j) (mL j) (mR j) (mHH j)) ∈ lw_tbl ∧ Cond.initialized (mY j).cls ∈ lw_tbl ∧ plainFor (mY j) = true ∧ ((mY j).cls ≠ "java/lang/invoke/MethodHandle" ∧ (mY j).cls ≠ "java/lang/invoke/VarHandle") ∧ (parseMethodDescriptor (mY j).desc).map (fun d => d.parameters.length) = some n ∧ mL j ≤ 15
def mFS (own : String) (ix ci k : Nat) : Prop := ∃ q : vw_C, mCl[ci]? = some q ∧ (q.2.1 k).1 = q.1 ∧ (Cond.fieldLink own ix q.1 (q.2.1 k).2.1 (q.2.1 k).2.2.1 ∈ lw_tbl ∨ ∃ host, Cond.fieldLinkNest own ix q.1 (q.2.1 k).2.1 (q.2.1 k).2.2.1 host ∈ lw_tbl)
theorem fs_A_10 : mFS "AcreOffice" 10 5 0 := ⟨_, rfl, rfl, Or.inl (List.mem_of_getElem? (i := 219) (by decide +kernel))⟩
theorem fs_A_16 : mFS "AcreOffice" 16 5 1 := ⟨_, rfl, rfl, Or.inl (List.mem_of_getElem? (i := 220) (by decide +kernel))⟩
theorem fs_A_19 : mFS "AcreOffice" 19 5 2 := ⟨_, rfl, rfl, Or.inl (List.mem_of_getElem? (i := 221) (by decide +kernel))⟩
theorem fs_A_25 : mFS "AcreOffice" 25 5 3 := ⟨_, rfl, rfl, Or.inl (List.mem_of_getElem? (i := 222) (by decide +kernel))⟩
theorem fs_A_32 : mFS "AcreOffice" 32 5 4 := ⟨_, rfl, rfl, Or.inl (List.mem_of_getElem? (i := 223) (by decide +kernel))⟩
theorem fs_A_36 : mFS "AcreOffice" 36 5 5 := ⟨_, rfl, rfl, Or.inl (List.mem_of_getElem? (i := 224) (by decide +kernel))⟩
theorem fs_A_56 : mFS "AcreOffice" 56 3 0 := ⟨_, rfl, rfl, Or.inr ⟨"AcreOffice", (List.mem_of_getElem? (i := 143) (by decide +kernel))⟩⟩
theorem fs_A_74 : mFS "AcreOffice" 74 4 5 := ⟨_, rfl, rfl, Or.inr ⟨"AcreOffice", (List.mem_of_getElem? (i := 108) (by decide +kernel))⟩⟩
theorem fs_A_96 : mFS "AcreOffice" 96 3 2 := ⟨_, rfl, rfl, Or.inr ⟨"AcreOffice", (List.mem_of_getElem? (i := 148) (by decide +kernel))⟩⟩
theorem fs_A_113 : mFS "AcreOffice" 113 2 1 := ⟨_, rfl, rfl, Or.inr ⟨"AcreOffice", (List.mem_of_getElem? (i := 184) (by decide +kernel))⟩⟩
theorem fs_A_131 : mFS "AcreOffice" 131 2 7 := ⟨_, rfl, rfl, Or.inr ⟨"AcreOffice", (List.mem_of_getElem? (i := 191) (by decide +kernel))⟩⟩
theorem fs_A_140 : mFS "AcreOffice" 140 1 2 := ⟨_, rfl, rfl, Or.inr ⟨"AcreOffice", (List.mem_of_getElem? (i := 168) (by decide +kernel))⟩⟩
theorem fs_A_177 : mFS "AcreOffice" 177 0 2 := ⟨_, rfl, rfl, Or.inr ⟨"AcreOffice", (List.mem_of_getElem? (i := 134) (by decide +kernel))⟩⟩
theorem fs_A_253 : mFS "AcreOffice" 253 3 1 := ⟨_, rfl, rfl, Or.inr ⟨"AcreOffice", (List.mem_of_getElem? (i := 146) (by decide +kernel))⟩⟩
theorem ss_A_40 : mSiteS "AcreOffice" 40 109 := ⟨(List.mem_of_getElem? (i := 423) (by decide +kernel)), (List.mem_of_getElem? (i := 424) (by decide +kernel))⟩
theorem ss_A_236 : mSiteS "AcreOffice" 236 111 := ⟨(List.mem_of_getElem? (i := 884) (by decide +kernel)), (List.mem_of_getElem? (i := 885) (by decide +kernel))⟩
theorem ss_A_242 : mSiteS "AcreOffice" 242 198 := ⟨(List.mem_of_getElem? (i := 898) (by decide +kernel)), (List.mem_of_getElem? (i := 882) (by decide +kernel))⟩
theorem sv_A_53 : mSiteV "AcreOffice" 53 105 := ⟨(List.mem_of_getElem? (i := 495) (by decide +kernel)), (List.mem_of_getElem? (i := 497) (by decide +kernel)), (List.mem_of_getElem? (i := 13) (by decide +kernel))⟩
theorem sv_A_60 : mSiteV "AcreOffice" 60 54 := ⟨(List.mem_of_getElem? (i := 499) (by decide +kernel)), (List.mem_of_getElem? (i := 500) (by decide +kernel)), (List.mem_of_getElem? (i := 501) (by decide +kernel))⟩
theorem sv_A_71 : mSiteV "AcreOffice" 71 106 := ⟨(List.mem_of_getElem? (i := 519) (by decide +kernel)), (List.mem_of_getElem? (i := 521) (by decide +kernel)), (List.mem_of_getElem? (i := 14) (by decide +kernel))⟩
theorem sv_A_78 : mSiteV "AcreOffice" 78 55 := ⟨(List.mem_of_getElem? (i := 538) (by decide +kernel)), (List.mem_of_getElem? (i := 539) (by decide +kernel)), (List.mem_of_getElem? (i := 540) (by decide +kernel))⟩
theorem sv_A_87 : mSiteV "AcreOffice" 87 57 := ⟨(List.mem_of_getElem? (i := 552) (by decide +kernel)), (List.mem_of_getElem? (i := 553) (by decide +kernel)), (List.mem_of_getElem? (i := 554) (by decide +kernel))⟩
theorem sv_A_91 : mSiteV "AcreOffice" 91 48 := ⟨(List.mem_of_getElem? (i := 563) (by decide +kernel)), (List.mem_of_getElem? (i := 564) (by decide +kernel)), (List.mem_of_getElem? (i := 565) (by decide +kernel))⟩
theorem sv_A_99 : mSiteV "AcreOffice" 99 49 := ⟨(List.mem_of_getElem? (i := 604) (by decide +kernel)), (List.mem_of_getElem? (i := 605) (by decide +kernel)), (List.mem_of_getElem? (i := 606) (by decide +kernel))⟩
theorem sv_A_108 : mSiteV "AcreOffice" 108 29 := ⟨(List.mem_of_getElem? (i := 635) (by decide +kernel)), (List.mem_of_getElem? (i := 636) (by decide +kernel)), (List.mem_of_getElem? (i := 637) (by decide +kernel))⟩
theorem sv_A_116 : mSiteV "AcreOffice" 116 30 := ⟨(List.mem_of_getElem? (i := 242) (by decide +kernel)), (List.mem_of_getElem? (i := 243) (by decide +kernel)), (List.mem_of_getElem? (i := 244) (by decide +kernel))⟩
theorem sv_A_120 : mSiteV "AcreOffice" 120 31 := ⟨(List.mem_of_getElem? (i := 250) (by decide +kernel)), (List.mem_of_getElem? (i := 251) (by decide +kernel)), (List.mem_of_getElem? (i := 252) (by decide +kernel))⟩
theorem sv_A_125 : mSiteV "AcreOffice" 125 43 := ⟨(List.mem_of_getElem? (i := 648) (by decide +kernel)), (List.mem_of_getElem? (i := 649) (by decide +kernel)), (List.mem_of_getElem? (i := 650) (by decide +kernel))⟩
theorem sv_A_134 : mSiteV "AcreOffice" 134 27 := ⟨(List.mem_of_getElem? (i := 675) (by decide +kernel)), (List.mem_of_getElem? (i := 676) (by decide +kernel)), (List.mem_of_getElem? (i := 677) (by decide +kernel))⟩
theorem sv_A_143 : mSiteV "AcreOffice" 143 46 := ⟨(List.mem_of_getElem? (i := 302) (by decide +kernel)), (List.mem_of_getElem? (i := 303) (by decide +kernel)), (List.mem_of_getElem? (i := 304) (by decide +kernel))⟩
theorem sv_A_149 : mSiteV "AcreOffice" 149 59 := ⟨(List.mem_of_getElem? (i := 326) (by decide +kernel)), (List.mem_of_getElem? (i := 327) (by decide +kernel)), (List.mem_of_getElem? (i := 328) (by decide +kernel))⟩
theorem sv_A_152 : mSiteV "AcreOffice" 152 60 := ⟨(List.mem_of_getElem? (i := 337) (by decide +kernel)), (List.mem_of_getElem? (i := 338) (by decide +kernel)), (List.mem_of_getElem? (i := 339) (by decide +kernel))⟩
theorem sv_A_155 : mSiteV "AcreOffice" 155 61 := ⟨(List.mem_of_getElem? (i := 345) (by decide +kernel)), (List.mem_of_getElem? (i := 346) (by decide +kernel)), (List.mem_of_getElem? (i := 347) (by decide +kernel))⟩
theorem sv_A_158 : mSiteV "AcreOffice" 158 62 := ⟨(List.mem_of_getElem? (i := 353) (by decide +kernel)), (List.mem_of_getElem? (i := 354) (by decide +kernel)), (List.mem_of_getElem? (i := 355) (by decide +kernel))⟩
theorem sv_A_161 : mSiteV "AcreOffice" 161 58 := ⟨(List.mem_of_getElem? (i := 695) (by decide +kernel)), (List.mem_of_getElem? (i := 696) (by decide +kernel)), (List.mem_of_getElem? (i := 697) (by decide +kernel))⟩
theorem sv_A_166 : mSiteV "AcreOffice" 166 63 := ⟨(List.mem_of_getElem? (i := 700) (by decide +kernel)), (List.mem_of_getElem? (i := 573) (by decide +kernel)), (List.mem_of_getElem? (i := 574) (by decide +kernel))⟩
theorem sv_A_170 : mSiteV "AcreOffice" 170 64 := ⟨(List.mem_of_getElem? (i := 708) (by decide +kernel)), (List.mem_of_getElem? (i := 584) (by decide +kernel)), (List.mem_of_getElem? (i := 585) (by decide +kernel))⟩
theorem sv_A_173 : mSiteV "AcreOffice" 173 107 := ⟨(List.mem_of_getElem? (i := 716) (by decide +kernel)), (List.mem_of_getElem? (i := 718) (by decide +kernel)), (List.mem_of_getElem? (i := 17) (by decide +kernel))⟩
theorem sv_A_182 : mSiteV "AcreOffice" 182 108 := ⟨(List.mem_of_getElem? (i := 728) (by decide +kernel)), (List.mem_of_getElem? (i := 730) (by decide +kernel)), (List.mem_of_getElem? (i := 18) (by decide +kernel))⟩
theorem sv_A_186 : mSiteV "AcreOffice" 186 5 := ⟨(List.mem_of_getElem? (i := 737) (by decide +kernel)), (List.mem_of_getElem? (i := 389) (by decide +kernel)), (List.mem_of_getElem? (i := 390) (by decide +kernel))⟩
theorem sv_A_189 : mSiteV "AcreOffice" 189 6 := ⟨(List.mem_of_getElem? (i := 745) (by decide +kernel)), (List.mem_of_getElem? (i := 394) (by decide +kernel)), (List.mem_of_getElem? (i := 395) (by decide +kernel))⟩
theorem sv_A_192 : mSiteV "AcreOffice" 192 12 := ⟨(List.mem_of_getElem? (i := 753) (by decide +kernel)), (List.mem_of_getElem? (i := 754) (by decide +kernel)), (List.mem_of_getElem? (i := 755) (by decide +kernel))⟩
theorem sv_A_195 : mSiteV "AcreOffice" 195 13 := ⟨(List.mem_of_getElem? (i := 780) (by decide +kernel)), (List.mem_of_getElem? (i := 781) (by decide +kernel)), (List.mem_of_getElem? (i := 782) (by decide +kernel))⟩
theorem sv_A_201 : mSiteV "AcreOffice" 201 14 := ⟨(List.mem_of_getElem? (i := 793) (by decide +kernel)), (List.mem_of_getElem? (i := 794) (by decide +kernel)), (List.mem_of_getElem? (i := 795) (by decide +kernel))⟩
theorem sv_A_205 : mSiteV "AcreOffice" 205 16 := ⟨(List.mem_of_getElem? (i := 808) (by decide +kernel)), (List.mem_of_getElem? (i := 809) (by decide +kernel)), (List.mem_of_getElem? (i := 810) (by decide +kernel))⟩
theorem sv_A_209 : mSiteV "AcreOffice" 209 19 := ⟨(List.mem_of_getElem? (i := 827) (by decide +kernel)), (List.mem_of_getElem? (i := 381) (by decide +kernel)), (List.mem_of_getElem? (i := 382) (by decide +kernel))⟩
theorem sv_A_213 : mSiteV "AcreOffice" 213 20 := ⟨(List.mem_of_getElem? (i := 835) (by decide +kernel)), (List.mem_of_getElem? (i := 836) (by decide +kernel)), (List.mem_of_getElem? (i := 837) (by decide +kernel))⟩
theorem sv_A_216 : mSiteV "AcreOffice" 216 21 := ⟨(List.mem_of_getElem? (i := 846) (by decide +kernel)), (List.mem_of_getElem? (i := 377) (by decide +kernel)), (List.mem_of_getElem? (i := 378) (by decide +kernel))⟩
theorem sv_A_225 : mSiteV "AcreOffice" 225 50 := ⟨(List.mem_of_getElem? (i := 371) (by decide +kernel)), (List.mem_of_getElem? (i := 372) (by decide +kernel)), (List.mem_of_getElem? (i := 373) (by decide +kernel))⟩
theorem sv_A_228 : mSiteV "AcreOffice" 228 51 := ⟨(List.mem_of_getElem? (i := 405) (by decide +kernel)), (List.mem_of_getElem? (i := 406) (by decide +kernel)), (List.mem_of_getElem? (i := 407) (by decide +kernel))⟩
theorem sv_A_233 : mSiteV "AcreOffice" 233 22 := ⟨(List.mem_of_getElem? (i := 872) (by decide +kernel)), (List.mem_of_getElem? (i := 873) (by decide +kernel)), (List.mem_of_getElem? (i := 874) (by decide +kernel))⟩
theorem sv_A_239 : mSiteV "AcreOffice" 239 23 := ⟨(List.mem_of_getElem? (i := 887) (by decide +kernel)), (List.mem_of_getElem? (i := 888) (by decide +kernel)), (List.mem_of_getElem? (i := 889) (by decide +kernel))⟩
theorem sv_A_247 : mSiteV "AcreOffice" 247 26 := ⟨(List.mem_of_getElem? (i := 523) (by decide +kernel)), (List.mem_of_getElem? (i := 524) (by decide +kernel)), (List.mem_of_getElem? (i := 525) (by decide +kernel))⟩
theorem sv_A_250 : mSiteV "AcreOffice" 250 47 := ⟨(List.mem_of_getElem? (i := 720) (by decide +kernel)), (List.mem_of_getElem? (i := 609) (by decide +kernel)), (List.mem_of_getElem? (i := 610) (by decide +kernel))⟩
theorem sv_A_257 : mSiteV "AcreOffice" 257 4 := ⟨(List.mem_of_getElem? (i := 732) (by decide +kernel)), (List.mem_of_getElem? (i := 733) (by decide +kernel)), (List.mem_of_getElem? (i := 734) (by decide +kernel))⟩
theorem fs_F_9 : mFS "AcreOffice$Field" 9 0 0 := ⟨_, rfl, rfl, Or.inl (List.mem_of_getElem? (i := 131) (by decide +kernel))⟩
theorem fs_F_15 : mFS "AcreOffice$Field" 15 0 1 := ⟨_, rfl, rfl, Or.inl (List.mem_of_getElem? (i := 132) (by decide +kernel))⟩
theorem fs_F_24 : mFS "AcreOffice$Field" 24 0 2 := ⟨_, rfl, rfl, Or.inl (List.mem_of_getElem? (i := 133) (by decide +kernel))⟩
theorem sn_F_28 : mSiteN "AcreOffice$Field" 28 110 "AcreOffice" := ⟨(List.mem_of_getElem? (i := 392) (by decide +kernel)), (List.mem_of_getElem? (i := 331) (by decide +kernel))⟩
theorem ss_F_67 : mSiteS "AcreOffice$Field" 67 197 := ⟨(List.mem_of_getElem? (i := 397) (by decide +kernel)), (List.mem_of_getElem? (i := 398) (by decide +kernel))⟩
theorem ss_F_83 : mSiteS "AcreOffice$Field" 83 199 := ⟨(List.mem_of_getElem? (i := 880) (by decide +kernel)), (List.mem_of_getElem? (i := 529) (by decide +kernel))⟩
theorem ss_F_87 : mSiteS "AcreOffice$Field" 87 198 := ⟨(List.mem_of_getElem? (i := 881) (by decide +kernel)), (List.mem_of_getElem? (i := 882) (by decide +kernel))⟩
theorem sv_F_32 : mSiteV "AcreOffice$Field" 32 7 := ⟨(List.mem_of_getElem? (i := 384) (by decide +kernel)), (List.mem_of_getElem? (i := 386) (by decide +kernel)), (List.mem_of_getElem? (i := 11) (by decide +kernel))⟩
theorem sv_F_36 : mSiteV "AcreOffice$Field" 36 5 := ⟨(List.mem_of_getElem? (i := 388) (by decide +kernel)), (List.mem_of_getElem? (i := 389) (by decide +kernel)), (List.mem_of_getElem? (i := 390) (by decide +kernel))⟩
theorem sv_F_39 : mSiteV "AcreOffice$Field" 39 6 := ⟨(List.mem_of_getElem? (i := 393) (by decide +kernel)), (List.mem_of_getElem? (i := 394) (by decide +kernel)), (List.mem_of_getElem? (i := 395) (by decide +kernel))⟩
theorem sv_F_42 : mSiteV "AcreOffice$Field" 42 8 := ⟨(List.mem_of_getElem? (i := 761) (by decide +kernel)), (List.mem_of_getElem? (i := 763) (by decide +kernel)), (List.mem_of_getElem? (i := 20) (by decide +kernel))⟩
theorem sv_F_45 : mSiteV "AcreOffice$Field" 45 9 := ⟨(List.mem_of_getElem? (i := 765) (by decide +kernel)), (List.mem_of_getElem? (i := 767) (by decide +kernel)), (List.mem_of_getElem? (i := 21) (by decide +kernel))⟩
theorem sv_F_49 : mSiteV "AcreOffice$Field" 49 10 := ⟨(List.mem_of_getElem? (i := 769) (by decide +kernel)), (List.mem_of_getElem? (i := 771) (by decide +kernel)), (List.mem_of_getElem? (i := 22) (by decide +kernel))⟩
theorem sv_F_52 : mSiteV "AcreOffice$Field" 52 11 := ⟨(List.mem_of_getElem? (i := 757) (by decide +kernel)), (List.mem_of_getElem? (i := 759) (by decide +kernel)), (List.mem_of_getElem? (i := 19) (by decide +kernel))⟩
theorem sv_F_55 : mSiteV "AcreOffice$Field" 55 15 := ⟨(List.mem_of_getElem? (i := 797) (by decide +kernel)), (List.mem_of_getElem? (i := 799) (by decide +kernel)), (List.mem_of_getElem? (i := 23) (by decide +kernel))⟩
theorem sv_F_59 : mSiteV "AcreOffice$Field" 59 17 := ⟨(List.mem_of_getElem? (i := 812) (by decide +kernel)), (List.mem_of_getElem? (i := 814) (by decide +kernel)), (List.mem_of_getElem? (i := 24) (by decide +kernel))⟩
theorem sv_F_63 : mSiteV "AcreOffice$Field" 63 18 := ⟨(List.mem_of_getElem? (i := 816) (by decide +kernel)), (List.mem_of_getElem? (i := 818) (by decide +kernel)), (List.mem_of_getElem? (i := 25) (by decide +kernel))⟩
theorem sv_F_73 : mSiteV "AcreOffice$Field" 73 19 := ⟨(List.mem_of_getElem? (i := 380) (by decide +kernel)), (List.mem_of_getElem? (i := 381) (by decide +kernel)), (List.mem_of_getElem? (i := 382) (by decide +kernel))⟩
theorem sv_F_79 : mSiteV "AcreOffice$Field" 79 24 := ⟨(List.mem_of_getElem? (i := 876) (by decide +kernel)), (List.mem_of_getElem? (i := 878) (by decide +kernel)), (List.mem_of_getElem? (i := 26) (by decide +kernel))⟩
theorem fs_H_11 : mFS "AcreOffice$History" 11 1 0 := ⟨_, rfl, rfl, Or.inl (List.mem_of_getElem? (i := 165) (by decide +kernel))⟩
theorem fs_H_18 : mFS "AcreOffice$History" 18 1 1 := ⟨_, rfl, rfl, Or.inl (List.mem_of_getElem? (i := 166) (by decide +kernel))⟩
theorem fs_H_22 : mFS "AcreOffice$History" 22 1 2 := ⟨_, rfl, rfl, Or.inl (List.mem_of_getElem? (i := 167) (by decide +kernel))⟩
theorem ss_H_29 : mSiteS "AcreOffice$History" 29 199 := ⟨(List.mem_of_getElem? (i := 528) (by decide +kernel)), (List.mem_of_getElem? (i := 529) (by decide +kernel))⟩
theorem sv_H_25 : mSiteV "AcreOffice$History" 25 46 := ⟨(List.mem_of_getElem? (i := 527) (by decide +kernel)), (List.mem_of_getElem? (i := 303) (by decide +kernel)), (List.mem_of_getElem? (i := 304) (by decide +kernel))⟩
theorem fs_O_9 : mFS "AcreOffice$Orders" 9 2 0 := ⟨_, rfl, rfl, Or.inl (List.mem_of_getElem? (i := 182) (by decide +kernel))⟩
theorem fs_O_15 : mFS "AcreOffice$Orders" 15 2 2 := ⟨_, rfl, rfl, Or.inl (List.mem_of_getElem? (i := 185) (by decide +kernel))⟩
theorem fs_O_19 : mFS "AcreOffice$Orders" 19 2 3 := ⟨_, rfl, rfl, Or.inl (List.mem_of_getElem? (i := 186) (by decide +kernel))⟩
theorem fs_O_22 : mFS "AcreOffice$Orders" 22 2 4 := ⟨_, rfl, rfl, Or.inl (List.mem_of_getElem? (i := 187) (by decide +kernel))⟩
theorem fs_O_25 : mFS "AcreOffice$Orders" 25 2 5 := ⟨_, rfl, rfl, Or.inl (List.mem_of_getElem? (i := 188) (by decide +kernel))⟩
theorem fs_O_28 : mFS "AcreOffice$Orders" 28 2 6 := ⟨_, rfl, rfl, Or.inl (List.mem_of_getElem? (i := 189) (by decide +kernel))⟩
theorem fs_O_31 : mFS "AcreOffice$Orders" 31 2 1 := ⟨_, rfl, rfl, Or.inl (List.mem_of_getElem? (i := 183) (by decide +kernel))⟩
theorem fs_O_35 : mFS "AcreOffice$Orders" 35 2 8 := ⟨_, rfl, rfl, Or.inl (List.mem_of_getElem? (i := 192) (by decide +kernel))⟩
theorem fs_O_38 : mFS "AcreOffice$Orders" 38 2 7 := ⟨_, rfl, rfl, Or.inl (List.mem_of_getElem? (i := 190) (by decide +kernel))⟩
theorem fs_O_72 : mFS "AcreOffice$Orders" 72 2 9 := ⟨_, rfl, rfl, Or.inl (List.mem_of_getElem? (i := 193) (by decide +kernel))⟩
theorem fs_O_83 : mFS "AcreOffice$Orders" 83 2 10 := ⟨_, rfl, rfl, Or.inl (List.mem_of_getElem? (i := 194) (by decide +kernel))⟩
theorem fs_O_90 : mFS "AcreOffice$Orders" 90 3 0 := ⟨_, rfl, rfl, Or.inr ⟨"AcreOffice", (List.mem_of_getElem? (i := 144) (by decide +kernel))⟩⟩
theorem sv_O_41 : mSiteV "AcreOffice$Orders" 41 32 := ⟨(List.mem_of_getElem? (i := 254) (by decide +kernel)), (List.mem_of_getElem? (i := 256) (by decide +kernel)), (List.mem_of_getElem? (i := 0) (by decide +kernel))⟩
theorem sv_O_45 : mSiteV "AcreOffice$Orders" 45 33 := ⟨(List.mem_of_getElem? (i := 258) (by decide +kernel)), (List.mem_of_getElem? (i := 260) (by decide +kernel)), (List.mem_of_getElem? (i := 1) (by decide +kernel))⟩
theorem sv_O_48 : mSiteV "AcreOffice$Orders" 48 35 := ⟨(List.mem_of_getElem? (i := 266) (by decide +kernel)), (List.mem_of_getElem? (i := 268) (by decide +kernel)), (List.mem_of_getElem? (i := 3) (by decide +kernel))⟩
theorem sv_O_51 : mSiteV "AcreOffice$Orders" 51 36 := ⟨(List.mem_of_getElem? (i := 270) (by decide +kernel)), (List.mem_of_getElem? (i := 272) (by decide +kernel)), (List.mem_of_getElem? (i := 4) (by decide +kernel))⟩
theorem sv_O_54 : mSiteV "AcreOffice$Orders" 54 37 := ⟨(List.mem_of_getElem? (i := 278) (by decide +kernel)), (List.mem_of_getElem? (i := 280) (by decide +kernel)), (List.mem_of_getElem? (i := 6) (by decide +kernel))⟩
theorem sv_O_58 : mSiteV "AcreOffice$Orders" 58 38 := ⟨(List.mem_of_getElem? (i := 282) (by decide +kernel)), (List.mem_of_getElem? (i := 284) (by decide +kernel)), (List.mem_of_getElem? (i := 7) (by decide +kernel))⟩
theorem sv_O_62 : mSiteV "AcreOffice$Orders" 62 39 := ⟨(List.mem_of_getElem? (i := 286) (by decide +kernel)), (List.mem_of_getElem? (i := 288) (by decide +kernel)), (List.mem_of_getElem? (i := 8) (by decide +kernel))⟩
theorem sv_O_65 : mSiteV "AcreOffice$Orders" 65 40 := ⟨(List.mem_of_getElem? (i := 290) (by decide +kernel)), (List.mem_of_getElem? (i := 292) (by decide +kernel)), (List.mem_of_getElem? (i := 9) (by decide +kernel))⟩
theorem sv_O_68 : mSiteV "AcreOffice$Orders" 68 41 := ⟨(List.mem_of_getElem? (i := 294) (by decide +kernel)), (List.mem_of_getElem? (i := 296) (by decide +kernel)), (List.mem_of_getElem? (i := 10) (by decide +kernel))⟩
theorem sv_O_75 : mSiteV "AcreOffice$Orders" 75 34 := ⟨(List.mem_of_getElem? (i := 262) (by decide +kernel)), (List.mem_of_getElem? (i := 264) (by decide +kernel)), (List.mem_of_getElem? (i := 2) (by decide +kernel))⟩
theorem sv_O_79 : mSiteV "AcreOffice$Orders" 79 42 := ⟨(List.mem_of_getElem? (i := 274) (by decide +kernel)), (List.mem_of_getElem? (i := 276) (by decide +kernel)), (List.mem_of_getElem? (i := 5) (by decide +kernel))⟩
theorem sv_O_86 : mSiteV "AcreOffice$Orders" 86 44 := ⟨(List.mem_of_getElem? (i := 652) (by decide +kernel)), (List.mem_of_getElem? (i := 654) (by decide +kernel)), (List.mem_of_getElem? (i := 16) (by decide +kernel))⟩
theorem sv_O_96 : mSiteV "AcreOffice$Orders" 96 54 := ⟨(List.mem_of_getElem? (i := 656) (by decide +kernel)), (List.mem_of_getElem? (i := 500) (by decide +kernel)), (List.mem_of_getElem? (i := 501) (by decide +kernel))⟩
theorem sv_O_102 : mSiteV "AcreOffice$Orders" 102 55 := ⟨(List.mem_of_getElem? (i := 657) (by decide +kernel)), (List.mem_of_getElem? (i := 539) (by decide +kernel)), (List.mem_of_getElem? (i := 540) (by decide +kernel))⟩
theorem sv_O_105 : mSiteV "AcreOffice$Orders" 105 48 := ⟨(List.mem_of_getElem? (i := 658) (by decide +kernel)), (List.mem_of_getElem? (i := 564) (by decide +kernel)), (List.mem_of_getElem? (i := 565) (by decide +kernel))⟩
theorem sv_O_108 : mSiteV "AcreOffice$Orders" 108 49 := ⟨(List.mem_of_getElem? (i := 659) (by decide +kernel)), (List.mem_of_getElem? (i := 605) (by decide +kernel)), (List.mem_of_getElem? (i := 606) (by decide +kernel))⟩
theorem fs_S_12 : mFS "AcreOffice$State" 12 3 0 := ⟨_, rfl, rfl, Or.inl (List.mem_of_getElem? (i := 142) (by decide +kernel))⟩
theorem fs_S_20 : mFS "AcreOffice$State" 20 3 1 := ⟨_, rfl, rfl, Or.inl (List.mem_of_getElem? (i := 145) (by decide +kernel))⟩
theorem fs_S_25 : mFS "AcreOffice$State" 25 3 2 := ⟨_, rfl, rfl, Or.inl (List.mem_of_getElem? (i := 147) (by decide +kernel))⟩
theorem fs_S_36 : mFS "AcreOffice$State" 36 4 5 := ⟨_, rfl, rfl, Or.inr ⟨"AcreOffice", (List.mem_of_getElem? (i := 109) (by decide +kernel))⟩⟩
theorem sv_S_29 : mSiteV "AcreOffice$State" 29 53 := ⟨(List.mem_of_getElem? (i := 306) (by decide +kernel)), (List.mem_of_getElem? (i := 307) (by decide +kernel)), (List.mem_of_getElem? (i := 308) (by decide +kernel))⟩
theorem sv_S_33 : mSiteV "AcreOffice$State" 33 1 := ⟨(List.mem_of_getElem? (i := 313) (by decide +kernel)), (List.mem_of_getElem? (i := 314) (by decide +kernel)), (List.mem_of_getElem? (i := 315) (by decide +kernel))⟩
theorem sv_S_39 : mSiteV "AcreOffice$State" 39 62 := ⟨(List.mem_of_getElem? (i := 567) (by decide +kernel)), (List.mem_of_getElem? (i := 354) (by decide +kernel)), (List.mem_of_getElem? (i := 355) (by decide +kernel))⟩
theorem sv_S_43 : mSiteV "AcreOffice$State" 43 2 := ⟨(List.mem_of_getElem? (i := 568) (by decide +kernel)), (List.mem_of_getElem? (i := 569) (by decide +kernel)), (List.mem_of_getElem? (i := 570) (by decide +kernel))⟩
theorem sv_S_46 : mSiteV "AcreOffice$State" 46 63 := ⟨(List.mem_of_getElem? (i := 572) (by decide +kernel)), (List.mem_of_getElem? (i := 573) (by decide +kernel)), (List.mem_of_getElem? (i := 574) (by decide +kernel))⟩
theorem sv_S_50 : mSiteV "AcreOffice$State" 50 64 := ⟨(List.mem_of_getElem? (i := 583) (by decide +kernel)), (List.mem_of_getElem? (i := 584) (by decide +kernel)), (List.mem_of_getElem? (i := 585) (by decide +kernel))⟩
theorem sv_S_53 : mSiteV "AcreOffice$State" 53 3 := ⟨(List.mem_of_getElem? (i := 587) (by decide +kernel)), (List.mem_of_getElem? (i := 588) (by decide +kernel)), (List.mem_of_getElem? (i := 589) (by decide +kernel))⟩
theorem sv_S_57 : mSiteV "AcreOffice$State" 57 19 := ⟨(List.mem_of_getElem? (i := 409) (by decide +kernel)), (List.mem_of_getElem? (i := 381) (by decide +kernel)), (List.mem_of_getElem? (i := 382) (by decide +kernel))⟩
theorem sv_S_61 : mSiteV "AcreOffice$State" 61 56 := ⟨(List.mem_of_getElem? (i := 591) (by decide +kernel)), (List.mem_of_getElem? (i := 592) (by decide +kernel)), (List.mem_of_getElem? (i := 593) (by decide +kernel))⟩
theorem sv_S_64 : mSiteV "AcreOffice$State" 64 47 := ⟨(List.mem_of_getElem? (i := 608) (by decide +kernel)), (List.mem_of_getElem? (i := 609) (by decide +kernel)), (List.mem_of_getElem? (i := 610) (by decide +kernel))⟩
theorem sv_S_70 : mSiteV "AcreOffice$State" 70 21 := ⟨(List.mem_of_getElem? (i := 376) (by decide +kernel)), (List.mem_of_getElem? (i := 377) (by decide +kernel)), (List.mem_of_getElem? (i := 378) (by decide +kernel))⟩
theorem fs_T_9 : mFS "AcreOffice$Traverse" 9 4 0 := ⟨_, rfl, rfl, Or.inl (List.mem_of_getElem? (i := 102) (by decide +kernel))⟩
theorem fs_T_15 : mFS "AcreOffice$Traverse" 15 4 1 := ⟨_, rfl, rfl, Or.inl (List.mem_of_getElem? (i := 103) (by decide +kernel))⟩
theorem fs_T_18 : mFS "AcreOffice$Traverse" 18 4 2 := ⟨_, rfl, rfl, Or.inl (List.mem_of_getElem? (i := 104) (by decide +kernel))⟩
theorem fs_T_27 : mFS "AcreOffice$Traverse" 27 4 3 := ⟨_, rfl, rfl, Or.inl (List.mem_of_getElem? (i := 105) (by decide +kernel))⟩
theorem fs_T_31 : mFS "AcreOffice$Traverse" 31 4 4 := ⟨_, rfl, rfl, Or.inl (List.mem_of_getElem? (i := 106) (by decide +kernel))⟩
theorem fs_T_34 : mFS "AcreOffice$Traverse" 34 4 5 := ⟨_, rfl, rfl, Or.inl (List.mem_of_getElem? (i := 107) (by decide +kernel))⟩
theorem sn_T_37 : mSiteN "AcreOffice$Traverse" 37 110 "AcreOffice" := ⟨(List.mem_of_getElem? (i := 330) (by decide +kernel)), (List.mem_of_getElem? (i := 331) (by decide +kernel))⟩
theorem ss_T_45 : mSiteS "AcreOffice$Traverse" 45 196 := ⟨(List.mem_of_getElem? (i := 358) (by decide +kernel)), (List.mem_of_getElem? (i := 359) (by decide +kernel))⟩
theorem ss_T_61 : mSiteS "AcreOffice$Traverse" 61 195 := ⟨(List.mem_of_getElem? (i := 580) (by decide +kernel)), (List.mem_of_getElem? (i := 581) (by decide +kernel))⟩
theorem sv_T_41 : mSiteV "AcreOffice$Traverse" 41 60 := ⟨(List.mem_of_getElem? (i := 357) (by decide +kernel)), (List.mem_of_getElem? (i := 338) (by decide +kernel)), (List.mem_of_getElem? (i := 339) (by decide +kernel))⟩
theorem sv_T_51 : mSiteV "AcreOffice$Traverse" 51 61 := ⟨(List.mem_of_getElem? (i := 361) (by decide +kernel)), (List.mem_of_getElem? (i := 346) (by decide +kernel)), (List.mem_of_getElem? (i := 347) (by decide +kernel))⟩
theorem sv_T_54 : mSiteV "AcreOffice$Traverse" 54 59 := ⟨(List.mem_of_getElem? (i := 362) (by decide +kernel)), (List.mem_of_getElem? (i := 327) (by decide +kernel)), (List.mem_of_getElem? (i := 328) (by decide +kernel))⟩
theorem sv_T_57 : mSiteV "AcreOffice$Traverse" 57 65 := ⟨(List.mem_of_getElem? (i := 576) (by decide +kernel)), (List.mem_of_getElem? (i := 578) (by decide +kernel)), (List.mem_of_getElem? (i := 15) (by decide +kernel))⟩
theorem ss_L_104 : mSiteS "AcreOfficeLaw" 104 200 := ⟨(List.mem_of_getElem? (i := 414) (by decide +kernel)), (List.mem_of_getElem? (i := 415) (by decide +kernel))⟩
theorem ss_L_113 : mSiteS "AcreOfficeLaw" 113 201 := ⟨(List.mem_of_getElem? (i := 531) (by decide +kernel)), (List.mem_of_getElem? (i := 532) (by decide +kernel))⟩
theorem ss_L_117 : mSiteS "AcreOfficeLaw" 117 202 := ⟨(List.mem_of_getElem? (i := 543) (by decide +kernel)), (List.mem_of_getElem? (i := 544) (by decide +kernel))⟩
theorem ss_L_121 : mSiteS "AcreOfficeLaw" 121 203 := ⟨(List.mem_of_getElem? (i := 556) (by decide +kernel)), (List.mem_of_getElem? (i := 557) (by decide +kernel))⟩
theorem ss_L_124 : mSiteS "AcreOfficeLaw" 124 204 := ⟨(List.mem_of_getElem? (i := 596) (by decide +kernel)), (List.mem_of_getElem? (i := 597) (by decide +kernel))⟩
theorem ss_L_128 : mSiteS "AcreOfficeLaw" 128 205 := ⟨(List.mem_of_getElem? (i := 628) (by decide +kernel)), (List.mem_of_getElem? (i := 629) (by decide +kernel))⟩
theorem ss_L_140 : mSiteS "AcreOfficeLaw" 140 206 := ⟨(List.mem_of_getElem? (i := 640) (by decide +kernel)), (List.mem_of_getElem? (i := 641) (by decide +kernel))⟩
theorem ss_L_143 : mSiteS "AcreOfficeLaw" 143 207 := ⟨(List.mem_of_getElem? (i := 660) (by decide +kernel)), (List.mem_of_getElem? (i := 661) (by decide +kernel))⟩
theorem ss_L_146 : mSiteS "AcreOfficeLaw" 146 208 := ⟨(List.mem_of_getElem? (i := 668) (by decide +kernel)), (List.mem_of_getElem? (i := 669) (by decide +kernel))⟩
theorem ss_L_153 : mSiteS "AcreOfficeLaw" 153 209 := ⟨(List.mem_of_getElem? (i := 680) (by decide +kernel)), (List.mem_of_getElem? (i := 681) (by decide +kernel))⟩
theorem ss_L_177 : mSiteS "AcreOfficeLaw" 177 210 := ⟨(List.mem_of_getElem? (i := 688) (by decide +kernel)), (List.mem_of_getElem? (i := 689) (by decide +kernel))⟩
theorem ss_L_180 : mSiteS "AcreOfficeLaw" 180 211 := ⟨(List.mem_of_getElem? (i := 701) (by decide +kernel)), (List.mem_of_getElem? (i := 702) (by decide +kernel))⟩
theorem ss_L_187 : mSiteS "AcreOfficeLaw" 187 212 := ⟨(List.mem_of_getElem? (i := 709) (by decide +kernel)), (List.mem_of_getElem? (i := 710) (by decide +kernel))⟩
theorem ss_L_190 : mSiteS "AcreOfficeLaw" 190 213 := ⟨(List.mem_of_getElem? (i := 721) (by decide +kernel)), (List.mem_of_getElem? (i := 722) (by decide +kernel))⟩
theorem ss_L_193 : mSiteS "AcreOfficeLaw" 193 214 := ⟨(List.mem_of_getElem? (i := 738) (by decide +kernel)), (List.mem_of_getElem? (i := 739) (by decide +kernel))⟩
theorem ss_L_196 : mSiteS "AcreOfficeLaw" 196 215 := ⟨(List.mem_of_getElem? (i := 746) (by decide +kernel)), (List.mem_of_getElem? (i := 747) (by decide +kernel))⟩
theorem ss_L_199 : mSiteS "AcreOfficeLaw" 199 216 := ⟨(List.mem_of_getElem? (i := 773) (by decide +kernel)), (List.mem_of_getElem? (i := 774) (by decide +kernel))⟩
theorem ss_L_202 : mSiteS "AcreOfficeLaw" 202 217 := ⟨(List.mem_of_getElem? (i := 784) (by decide +kernel)), (List.mem_of_getElem? (i := 785) (by decide +kernel))⟩
theorem ss_L_205 : mSiteS "AcreOfficeLaw" 205 218 := ⟨(List.mem_of_getElem? (i := 801) (by decide +kernel)), (List.mem_of_getElem? (i := 802) (by decide +kernel))⟩
theorem ss_L_208 : mSiteS "AcreOfficeLaw" 208 219 := ⟨(List.mem_of_getElem? (i := 820) (by decide +kernel)), (List.mem_of_getElem? (i := 821) (by decide +kernel))⟩
theorem ss_L_211 : mSiteS "AcreOfficeLaw" 211 220 := ⟨(List.mem_of_getElem? (i := 828) (by decide +kernel)), (List.mem_of_getElem? (i := 829) (by decide +kernel))⟩
theorem ss_L_214 : mSiteS "AcreOfficeLaw" 214 221 := ⟨(List.mem_of_getElem? (i := 839) (by decide +kernel)), (List.mem_of_getElem? (i := 840) (by decide +kernel))⟩
theorem ss_L_217 : mSiteS "AcreOfficeLaw" 217 222 := ⟨(List.mem_of_getElem? (i := 848) (by decide +kernel)), (List.mem_of_getElem? (i := 849) (by decide +kernel))⟩
theorem ss_L_220 : mSiteS "AcreOfficeLaw" 220 223 := ⟨(List.mem_of_getElem? (i := 856) (by decide +kernel)), (List.mem_of_getElem? (i := 857) (by decide +kernel))⟩
theorem ss_L_232 : mSiteS "AcreOfficeLaw" 232 224 := ⟨(List.mem_of_getElem? (i := 864) (by decide +kernel)), (List.mem_of_getElem? (i := 865) (by decide +kernel))⟩
theorem ss_L_235 : mSiteS "AcreOfficeLaw" 235 225 := ⟨(List.mem_of_getElem? (i := 891) (by decide +kernel)), (List.mem_of_getElem? (i := 892) (by decide +kernel))⟩
theorem sv_L_7 : mSiteV "AcreOfficeLaw" 7 67 := ⟨(List.mem_of_getElem? (i := 419) (by decide +kernel)), (List.mem_of_getElem? (i := 420) (by decide +kernel)), (List.mem_of_getElem? (i := 421) (by decide +kernel))⟩
theorem sv_L_17 : mSiteV "AcreOfficeLaw" 17 68 := ⟨(List.mem_of_getElem? (i := 534) (by decide +kernel)), (List.mem_of_getElem? (i := 535) (by decide +kernel)), (List.mem_of_getElem? (i := 536) (by decide +kernel))⟩
theorem sv_L_21 : mSiteV "AcreOfficeLaw" 21 69 := ⟨(List.mem_of_getElem? (i := 546) (by decide +kernel)), (List.mem_of_getElem? (i := 547) (by decide +kernel)), (List.mem_of_getElem? (i := 548) (by decide +kernel))⟩
theorem sv_L_25 : mSiteV "AcreOfficeLaw" 25 70 := ⟨(List.mem_of_getElem? (i := 559) (by decide +kernel)), (List.mem_of_getElem? (i := 560) (by decide +kernel)), (List.mem_of_getElem? (i := 561) (by decide +kernel))⟩
theorem sv_L_28 : mSiteV "AcreOfficeLaw" 28 71 := ⟨(List.mem_of_getElem? (i := 600) (by decide +kernel)), (List.mem_of_getElem? (i := 601) (by decide +kernel)), (List.mem_of_getElem? (i := 602) (by decide +kernel))⟩
theorem sv_L_34 : mSiteV "AcreOfficeLaw" 34 72 := ⟨(List.mem_of_getElem? (i := 631) (by decide +kernel)), (List.mem_of_getElem? (i := 632) (by decide +kernel)), (List.mem_of_getElem? (i := 633) (by decide +kernel))⟩
theorem sv_L_38 : mSiteV "AcreOfficeLaw" 38 75 := ⟨(List.mem_of_getElem? (i := 643) (by decide +kernel)), (List.mem_of_getElem? (i := 644) (by decide +kernel)), (List.mem_of_getElem? (i := 645) (by decide +kernel))⟩
theorem sv_L_41 : mSiteV "AcreOfficeLaw" 41 76 := ⟨(List.mem_of_getElem? (i := 663) (by decide +kernel)), (List.mem_of_getElem? (i := 664) (by decide +kernel)), (List.mem_of_getElem? (i := 665) (by decide +kernel))⟩
theorem sv_L_44 : mSiteV "AcreOfficeLaw" 44 77 := ⟨(List.mem_of_getElem? (i := 671) (by decide +kernel)), (List.mem_of_getElem? (i := 672) (by decide +kernel)), (List.mem_of_getElem? (i := 673) (by decide +kernel))⟩
theorem sv_L_47 : mSiteV "AcreOfficeLaw" 47 79 := ⟨(List.mem_of_getElem? (i := 683) (by decide +kernel)), (List.mem_of_getElem? (i := 684) (by decide +kernel)), (List.mem_of_getElem? (i := 685) (by decide +kernel))⟩
theorem sv_L_50 : mSiteV "AcreOfficeLaw" 50 85 := ⟨(List.mem_of_getElem? (i := 691) (by decide +kernel)), (List.mem_of_getElem? (i := 692) (by decide +kernel)), (List.mem_of_getElem? (i := 693) (by decide +kernel))⟩
theorem sv_L_53 : mSiteV "AcreOfficeLaw" 53 86 := ⟨(List.mem_of_getElem? (i := 704) (by decide +kernel)), (List.mem_of_getElem? (i := 705) (by decide +kernel)), (List.mem_of_getElem? (i := 706) (by decide +kernel))⟩
theorem sv_L_56 : mSiteV "AcreOfficeLaw" 56 88 := ⟨(List.mem_of_getElem? (i := 712) (by decide +kernel)), (List.mem_of_getElem? (i := 713) (by decide +kernel)), (List.mem_of_getElem? (i := 714) (by decide +kernel))⟩
theorem sv_L_59 : mSiteV "AcreOfficeLaw" 59 89 := ⟨(List.mem_of_getElem? (i := 724) (by decide +kernel)), (List.mem_of_getElem? (i := 725) (by decide +kernel)), (List.mem_of_getElem? (i := 726) (by decide +kernel))⟩
theorem sv_L_62 : mSiteV "AcreOfficeLaw" 62 90 := ⟨(List.mem_of_getElem? (i := 741) (by decide +kernel)), (List.mem_of_getElem? (i := 742) (by decide +kernel)), (List.mem_of_getElem? (i := 743) (by decide +kernel))⟩
theorem sv_L_65 : mSiteV "AcreOfficeLaw" 65 91 := ⟨(List.mem_of_getElem? (i := 749) (by decide +kernel)), (List.mem_of_getElem? (i := 750) (by decide +kernel)), (List.mem_of_getElem? (i := 751) (by decide +kernel))⟩
theorem sv_L_68 : mSiteV "AcreOfficeLaw" 68 92 := ⟨(List.mem_of_getElem? (i := 776) (by decide +kernel)), (List.mem_of_getElem? (i := 777) (by decide +kernel)), (List.mem_of_getElem? (i := 778) (by decide +kernel))⟩
theorem sv_L_72 : mSiteV "AcreOfficeLaw" 72 93 := ⟨(List.mem_of_getElem? (i := 787) (by decide +kernel)), (List.mem_of_getElem? (i := 788) (by decide +kernel)), (List.mem_of_getElem? (i := 789) (by decide +kernel))⟩
theorem sv_L_75 : mSiteV "AcreOfficeLaw" 75 94 := ⟨(List.mem_of_getElem? (i := 804) (by decide +kernel)), (List.mem_of_getElem? (i := 805) (by decide +kernel)), (List.mem_of_getElem? (i := 806) (by decide +kernel))⟩
theorem sv_L_78 : mSiteV "AcreOfficeLaw" 78 95 := ⟨(List.mem_of_getElem? (i := 823) (by decide +kernel)), (List.mem_of_getElem? (i := 824) (by decide +kernel)), (List.mem_of_getElem? (i := 825) (by decide +kernel))⟩
theorem sv_L_82 : mSiteV "AcreOfficeLaw" 82 96 := ⟨(List.mem_of_getElem? (i := 831) (by decide +kernel)), (List.mem_of_getElem? (i := 832) (by decide +kernel)), (List.mem_of_getElem? (i := 833) (by decide +kernel))⟩
theorem sv_L_85 : mSiteV "AcreOfficeLaw" 85 97 := ⟨(List.mem_of_getElem? (i := 842) (by decide +kernel)), (List.mem_of_getElem? (i := 843) (by decide +kernel)), (List.mem_of_getElem? (i := 844) (by decide +kernel))⟩
theorem sv_L_88 : mSiteV "AcreOfficeLaw" 88 98 := ⟨(List.mem_of_getElem? (i := 851) (by decide +kernel)), (List.mem_of_getElem? (i := 852) (by decide +kernel)), (List.mem_of_getElem? (i := 853) (by decide +kernel))⟩
theorem sv_L_91 : mSiteV "AcreOfficeLaw" 91 99 := ⟨(List.mem_of_getElem? (i := 859) (by decide +kernel)), (List.mem_of_getElem? (i := 860) (by decide +kernel)), (List.mem_of_getElem? (i := 861) (by decide +kernel))⟩
theorem sv_L_94 : mSiteV "AcreOfficeLaw" 94 102 := ⟨(List.mem_of_getElem? (i := 867) (by decide +kernel)), (List.mem_of_getElem? (i := 868) (by decide +kernel)), (List.mem_of_getElem? (i := 869) (by decide +kernel))⟩
theorem sv_L_97 : mSiteV "AcreOfficeLaw" 97 103 := ⟨(List.mem_of_getElem? (i := 894) (by decide +kernel)), (List.mem_of_getElem? (i := 895) (by decide +kernel)), (List.mem_of_getElem? (i := 896) (by decide +kernel))⟩
theorem sv_L_109 : mSiteV "AcreOfficeLaw" 109 145 := ⟨(List.mem_of_getElem? (i := 937) (by decide +kernel)), (List.mem_of_getElem? (i := 938) (by decide +kernel)), (List.mem_of_getElem? (i := 939) (by decide +kernel))⟩
theorem sv_L_110 : mSiteV "AcreOfficeLaw" 110 113 := ⟨(List.mem_of_getElem? (i := 933) (by decide +kernel)), (List.mem_of_getElem? (i := 934) (by decide +kernel)), (List.mem_of_getElem? (i := 935) (by decide +kernel))⟩
theorem sv_L_116 : mSiteV "AcreOfficeLaw" 116 146 := ⟨(List.mem_of_getElem? (i := 960) (by decide +kernel)), (List.mem_of_getElem? (i := 961) (by decide +kernel)), (List.mem_of_getElem? (i := 962) (by decide +kernel))⟩
theorem sv_L_120 : mSiteV "AcreOfficeLaw" 120 147 := ⟨(List.mem_of_getElem? (i := 968) (by decide +kernel)), (List.mem_of_getElem? (i := 969) (by decide +kernel)), (List.mem_of_getElem? (i := 970) (by decide +kernel))⟩
theorem sv_L_123 : mSiteV "AcreOfficeLaw" 123 148 := ⟨(List.mem_of_getElem? (i := 974) (by decide +kernel)), (List.mem_of_getElem? (i := 975) (by decide +kernel)), (List.mem_of_getElem? (i := 976) (by decide +kernel))⟩
theorem sv_L_127 : mSiteV "AcreOfficeLaw" 127 149 := ⟨(List.mem_of_getElem? (i := 1033) (by decide +kernel)), (List.mem_of_getElem? (i := 1034) (by decide +kernel)), (List.mem_of_getElem? (i := 1035) (by decide +kernel))⟩
theorem sv_L_131 : mSiteV "AcreOfficeLaw" 131 150 := ⟨(List.mem_of_getElem? (i := 1045) (by decide +kernel)), (List.mem_of_getElem? (i := 1046) (by decide +kernel)), (List.mem_of_getElem? (i := 1047) (by decide +kernel))⟩
theorem sv_L_132 : mSiteV "AcreOfficeLaw" 132 73 := ⟨(List.mem_of_getElem? (i := 238) (by decide +kernel)), (List.mem_of_getElem? (i := 239) (by decide +kernel)), (List.mem_of_getElem? (i := 240) (by decide +kernel))⟩
theorem sv_L_135 : mSiteV "AcreOfficeLaw" 135 151 := ⟨(List.mem_of_getElem? (i := 1049) (by decide +kernel)), (List.mem_of_getElem? (i := 1050) (by decide +kernel)), (List.mem_of_getElem? (i := 1051) (by decide +kernel))⟩
theorem sv_L_136 : mSiteV "AcreOfficeLaw" 136 74 := ⟨(List.mem_of_getElem? (i := 246) (by decide +kernel)), (List.mem_of_getElem? (i := 247) (by decide +kernel)), (List.mem_of_getElem? (i := 248) (by decide +kernel))⟩
theorem sv_L_139 : mSiteV "AcreOfficeLaw" 139 158 := ⟨(List.mem_of_getElem? (i := 1053) (by decide +kernel)), (List.mem_of_getElem? (i := 1054) (by decide +kernel)), (List.mem_of_getElem? (i := 1055) (by decide +kernel))⟩
theorem sv_L_142 : mSiteV "AcreOfficeLaw" 142 163 := ⟨(List.mem_of_getElem? (i := 1077) (by decide +kernel)), (List.mem_of_getElem? (i := 1078) (by decide +kernel)), (List.mem_of_getElem? (i := 1079) (by decide +kernel))⟩
theorem sv_L_145 : mSiteV "AcreOfficeLaw" 145 164 := ⟨(List.mem_of_getElem? (i := 1109) (by decide +kernel)), (List.mem_of_getElem? (i := 1110) (by decide +kernel)), (List.mem_of_getElem? (i := 1111) (by decide +kernel))⟩
theorem sv_L_148 : mSiteV "AcreOfficeLaw" 148 165 := ⟨(List.mem_of_getElem? (i := 1113) (by decide +kernel)), (List.mem_of_getElem? (i := 1114) (by decide +kernel)), (List.mem_of_getElem? (i := 1115) (by decide +kernel))⟩
theorem sv_L_149 : mSiteV "AcreOfficeLaw" 149 78 := ⟨(List.mem_of_getElem? (i := 298) (by decide +kernel)), (List.mem_of_getElem? (i := 299) (by decide +kernel)), (List.mem_of_getElem? (i := 300) (by decide +kernel))⟩
theorem sv_L_152 : mSiteV "AcreOfficeLaw" 152 166 := ⟨(List.mem_of_getElem? (i := 1117) (by decide +kernel)), (List.mem_of_getElem? (i := 1118) (by decide +kernel)), (List.mem_of_getElem? (i := 1119) (by decide +kernel))⟩
theorem sv_L_155 : mSiteV "AcreOfficeLaw" 155 167 := ⟨(List.mem_of_getElem? (i := 1121) (by decide +kernel)), (List.mem_of_getElem? (i := 1122) (by decide +kernel)), (List.mem_of_getElem? (i := 1123) (by decide +kernel))⟩
theorem sv_L_156 : mSiteV "AcreOfficeLaw" 156 80 := ⟨(List.mem_of_getElem? (i := 318) (by decide +kernel)), (List.mem_of_getElem? (i := 319) (by decide +kernel)), (List.mem_of_getElem? (i := 320) (by decide +kernel))⟩
theorem sv_L_159 : mSiteV "AcreOfficeLaw" 159 168 := ⟨(List.mem_of_getElem? (i := 1125) (by decide +kernel)), (List.mem_of_getElem? (i := 1126) (by decide +kernel)), (List.mem_of_getElem? (i := 1127) (by decide +kernel))⟩
theorem sv_L_160 : mSiteV "AcreOfficeLaw" 160 81 := ⟨(List.mem_of_getElem? (i := 322) (by decide +kernel)), (List.mem_of_getElem? (i := 323) (by decide +kernel)), (List.mem_of_getElem? (i := 324) (by decide +kernel))⟩
theorem sv_L_163 : mSiteV "AcreOfficeLaw" 163 169 := ⟨(List.mem_of_getElem? (i := 1129) (by decide +kernel)), (List.mem_of_getElem? (i := 1130) (by decide +kernel)), (List.mem_of_getElem? (i := 1131) (by decide +kernel))⟩
theorem sv_L_164 : mSiteV "AcreOfficeLaw" 164 82 := ⟨(List.mem_of_getElem? (i := 333) (by decide +kernel)), (List.mem_of_getElem? (i := 334) (by decide +kernel)), (List.mem_of_getElem? (i := 335) (by decide +kernel))⟩
theorem sv_L_167 : mSiteV "AcreOfficeLaw" 167 170 := ⟨(List.mem_of_getElem? (i := 1133) (by decide +kernel)), (List.mem_of_getElem? (i := 1134) (by decide +kernel)), (List.mem_of_getElem? (i := 1135) (by decide +kernel))⟩
theorem sv_L_168 : mSiteV "AcreOfficeLaw" 168 83 := ⟨(List.mem_of_getElem? (i := 341) (by decide +kernel)), (List.mem_of_getElem? (i := 342) (by decide +kernel)), (List.mem_of_getElem? (i := 343) (by decide +kernel))⟩
theorem sv_L_171 : mSiteV "AcreOfficeLaw" 171 171 := ⟨(List.mem_of_getElem? (i := 1137) (by decide +kernel)), (List.mem_of_getElem? (i := 1138) (by decide +kernel)), (List.mem_of_getElem? (i := 1139) (by decide +kernel))⟩
theorem sv_L_172 : mSiteV "AcreOfficeLaw" 172 84 := ⟨(List.mem_of_getElem? (i := 349) (by decide +kernel)), (List.mem_of_getElem? (i := 350) (by decide +kernel)), (List.mem_of_getElem? (i := 351) (by decide +kernel))⟩
theorem sv_L_176 : mSiteV "AcreOfficeLaw" 176 172 := ⟨(List.mem_of_getElem? (i := 1141) (by decide +kernel)), (List.mem_of_getElem? (i := 1142) (by decide +kernel)), (List.mem_of_getElem? (i := 1143) (by decide +kernel))⟩
theorem sv_L_179 : mSiteV "AcreOfficeLaw" 179 173 := ⟨(List.mem_of_getElem? (i := 1145) (by decide +kernel)), (List.mem_of_getElem? (i := 1146) (by decide +kernel)), (List.mem_of_getElem? (i := 1147) (by decide +kernel))⟩
theorem sv_L_182 : mSiteV "AcreOfficeLaw" 182 174 := ⟨(List.mem_of_getElem? (i := 1149) (by decide +kernel)), (List.mem_of_getElem? (i := 1150) (by decide +kernel)), (List.mem_of_getElem? (i := 1151) (by decide +kernel))⟩
theorem sv_L_183 : mSiteV "AcreOfficeLaw" 183 87 := ⟨(List.mem_of_getElem? (i := 363) (by decide +kernel)), (List.mem_of_getElem? (i := 364) (by decide +kernel)), (List.mem_of_getElem? (i := 365) (by decide +kernel))⟩
theorem sv_L_186 : mSiteV "AcreOfficeLaw" 186 175 := ⟨(List.mem_of_getElem? (i := 1153) (by decide +kernel)), (List.mem_of_getElem? (i := 1154) (by decide +kernel)), (List.mem_of_getElem? (i := 1155) (by decide +kernel))⟩
theorem sv_L_189 : mSiteV "AcreOfficeLaw" 189 176 := ⟨(List.mem_of_getElem? (i := 1157) (by decide +kernel)), (List.mem_of_getElem? (i := 1158) (by decide +kernel)), (List.mem_of_getElem? (i := 1159) (by decide +kernel))⟩
theorem sv_L_192 : mSiteV "AcreOfficeLaw" 192 177 := ⟨(List.mem_of_getElem? (i := 1161) (by decide +kernel)), (List.mem_of_getElem? (i := 1162) (by decide +kernel)), (List.mem_of_getElem? (i := 1163) (by decide +kernel))⟩
theorem sv_L_195 : mSiteV "AcreOfficeLaw" 195 178 := ⟨(List.mem_of_getElem? (i := 1169) (by decide +kernel)), (List.mem_of_getElem? (i := 1170) (by decide +kernel)), (List.mem_of_getElem? (i := 1171) (by decide +kernel))⟩
theorem sv_L_198 : mSiteV "AcreOfficeLaw" 198 179 := ⟨(List.mem_of_getElem? (i := 1173) (by decide +kernel)), (List.mem_of_getElem? (i := 1174) (by decide +kernel)), (List.mem_of_getElem? (i := 1175) (by decide +kernel))⟩
theorem sv_L_201 : mSiteV "AcreOfficeLaw" 201 180 := ⟨(List.mem_of_getElem? (i := 1185) (by decide +kernel)), (List.mem_of_getElem? (i := 1186) (by decide +kernel)), (List.mem_of_getElem? (i := 1187) (by decide +kernel))⟩
theorem sv_L_204 : mSiteV "AcreOfficeLaw" 204 181 := ⟨(List.mem_of_getElem? (i := 1189) (by decide +kernel)), (List.mem_of_getElem? (i := 1190) (by decide +kernel)), (List.mem_of_getElem? (i := 1191) (by decide +kernel))⟩
theorem sv_L_207 : mSiteV "AcreOfficeLaw" 207 182 := ⟨(List.mem_of_getElem? (i := 1199) (by decide +kernel)), (List.mem_of_getElem? (i := 1200) (by decide +kernel)), (List.mem_of_getElem? (i := 1201) (by decide +kernel))⟩
theorem sv_L_210 : mSiteV "AcreOfficeLaw" 210 183 := ⟨(List.mem_of_getElem? (i := 1211) (by decide +kernel)), (List.mem_of_getElem? (i := 1212) (by decide +kernel)), (List.mem_of_getElem? (i := 1213) (by decide +kernel))⟩
theorem sv_L_213 : mSiteV "AcreOfficeLaw" 213 184 := ⟨(List.mem_of_getElem? (i := 1215) (by decide +kernel)), (List.mem_of_getElem? (i := 1216) (by decide +kernel)), (List.mem_of_getElem? (i := 1217) (by decide +kernel))⟩
theorem sv_L_216 : mSiteV "AcreOfficeLaw" 216 186 := ⟨(List.mem_of_getElem? (i := 1219) (by decide +kernel)), (List.mem_of_getElem? (i := 1220) (by decide +kernel)), (List.mem_of_getElem? (i := 1221) (by decide +kernel))⟩
theorem sv_L_219 : mSiteV "AcreOfficeLaw" 219 187 := ⟨(List.mem_of_getElem? (i := 1229) (by decide +kernel)), (List.mem_of_getElem? (i := 1230) (by decide +kernel)), (List.mem_of_getElem? (i := 1231) (by decide +kernel))⟩
theorem sv_L_222 : mSiteV "AcreOfficeLaw" 222 188 := ⟨(List.mem_of_getElem? (i := 1235) (by decide +kernel)), (List.mem_of_getElem? (i := 1236) (by decide +kernel)), (List.mem_of_getElem? (i := 1237) (by decide +kernel))⟩
theorem sv_L_223 : mSiteV "AcreOfficeLaw" 223 100 := ⟨(List.mem_of_getElem? (i := 367) (by decide +kernel)), (List.mem_of_getElem? (i := 368) (by decide +kernel)), (List.mem_of_getElem? (i := 369) (by decide +kernel))⟩
theorem sv_L_226 : mSiteV "AcreOfficeLaw" 226 189 := ⟨(List.mem_of_getElem? (i := 1240) (by decide +kernel)), (List.mem_of_getElem? (i := 1241) (by decide +kernel)), (List.mem_of_getElem? (i := 1242) (by decide +kernel))⟩
theorem sv_L_227 : mSiteV "AcreOfficeLaw" 227 101 := ⟨(List.mem_of_getElem? (i := 401) (by decide +kernel)), (List.mem_of_getElem? (i := 402) (by decide +kernel)), (List.mem_of_getElem? (i := 403) (by decide +kernel))⟩
theorem sv_L_231 : mSiteV "AcreOfficeLaw" 231 190 := ⟨(List.mem_of_getElem? (i := 1244) (by decide +kernel)), (List.mem_of_getElem? (i := 1245) (by decide +kernel)), (List.mem_of_getElem? (i := 1246) (by decide +kernel))⟩
theorem sv_L_234 : mSiteV "AcreOfficeLaw" 234 192 := ⟨(List.mem_of_getElem? (i := 1248) (by decide +kernel)), (List.mem_of_getElem? (i := 1249) (by decide +kernel)), (List.mem_of_getElem? (i := 1250) (by decide +kernel))⟩
theorem sv_L_237 : mSiteV "AcreOfficeLaw" 237 193 := ⟨(List.mem_of_getElem? (i := 1259) (by decide +kernel)), (List.mem_of_getElem? (i := 1260) (by decide +kernel)), (List.mem_of_getElem? (i := 1261) (by decide +kernel))⟩
theorem sv_L_238 : mSiteV "AcreOfficeLaw" 238 104 := ⟨(List.mem_of_getElem? (i := 410) (by decide +kernel)), (List.mem_of_getElem? (i := 411) (by decide +kernel)), (List.mem_of_getElem? (i := 412) (by decide +kernel))⟩
theorem sv_L_241 : mSiteV "AcreOfficeLaw" 241 194 := ⟨(List.mem_of_getElem? (i := 1263) (by decide +kernel)), (List.mem_of_getElem? (i := 1264) (by decide +kernel)), (List.mem_of_getElem? (i := 1265) (by decide +kernel))⟩
theorem fs_M_7 : mFS "AcreOfficeModel" 7 6 1 := ⟨_, rfl, rfl, Or.inl (List.mem_of_getElem? (i := 906) (by decide +kernel))⟩
theorem fs_M_13 : mFS "AcreOfficeModel" 13 6 2 := ⟨_, rfl, rfl, Or.inl (List.mem_of_getElem? (i := 907) (by decide +kernel))⟩
theorem fs_M_16 : mFS "AcreOfficeModel" 16 6 3 := ⟨_, rfl, rfl, Or.inl (List.mem_of_getElem? (i := 908) (by decide +kernel))⟩
theorem fs_M_19 : mFS "AcreOfficeModel" 19 6 5 := ⟨_, rfl, rfl, Or.inl (List.mem_of_getElem? (i := 910) (by decide +kernel))⟩
theorem fs_M_22 : mFS "AcreOfficeModel" 22 6 7 := ⟨_, rfl, rfl, Or.inl (List.mem_of_getElem? (i := 912) (by decide +kernel))⟩
theorem fs_M_25 : mFS "AcreOfficeModel" 25 6 0 := ⟨_, rfl, rfl, Or.inl (List.mem_of_getElem? (i := 905) (by decide +kernel))⟩
theorem fs_M_41 : mFS "AcreOfficeModel" 41 6 6 := ⟨_, rfl, rfl, Or.inl (List.mem_of_getElem? (i := 911) (by decide +kernel))⟩
theorem fs_M_122 : mFS "AcreOfficeModel" 122 6 8 := ⟨_, rfl, rfl, Or.inl (List.mem_of_getElem? (i := 913) (by decide +kernel))⟩
theorem fs_M_161 : mFS "AcreOfficeModel" 161 6 4 := ⟨_, rfl, rfl, Or.inl (List.mem_of_getElem? (i := 909) (by decide +kernel))⟩
theorem ss_M_29 : mSiteS "AcreOfficeModel" 29 114 := ⟨(List.mem_of_getElem? (i := 945) (by decide +kernel)), (List.mem_of_getElem? (i := 946) (by decide +kernel))⟩
theorem ss_M_53 : mSiteS "AcreOfficeModel" 53 123 := ⟨(List.mem_of_getElem? (i := 995) (by decide +kernel)), (List.mem_of_getElem? (i := 996) (by decide +kernel))⟩
theorem ss_M_57 : mSiteS "AcreOfficeModel" 57 127 := ⟨(List.mem_of_getElem? (i := 1006) (by decide +kernel)), (List.mem_of_getElem? (i := 1007) (by decide +kernel))⟩
theorem ss_M_197 : mSiteS "AcreOfficeModel" 197 191 := ⟨(List.mem_of_getElem? (i := 1256) (by decide +kernel)), (List.mem_of_getElem? (i := 1257) (by decide +kernel))⟩
theorem sv_M_33 : mSiteV "AcreOfficeModel" 33 116 := ⟨(List.mem_of_getElem? (i := 1037) (by decide +kernel)), (List.mem_of_getElem? (i := 1039) (by decide +kernel)), (List.mem_of_getElem? (i := 44) (by decide +kernel))⟩
theorem sv_M_37 : mSiteV "AcreOfficeModel" 37 117 := ⟨(List.mem_of_getElem? (i := 1013) (by decide +kernel)), (List.mem_of_getElem? (i := 1015) (by decide +kernel)), (List.mem_of_getElem? (i := 39) (by decide +kernel))⟩
theorem sv_M_44 : mSiteV "AcreOfficeModel" 44 124 := ⟨(List.mem_of_getElem? (i := 991) (by decide +kernel)), (List.mem_of_getElem? (i := 993) (by decide +kernel)), (List.mem_of_getElem? (i := 35) (by decide +kernel))⟩
theorem sv_M_50 : mSiteV "AcreOfficeModel" 50 125 := ⟨(List.mem_of_getElem? (i := 987) (by decide +kernel)), (List.mem_of_getElem? (i := 989) (by decide +kernel)), (List.mem_of_getElem? (i := 34) (by decide +kernel))⟩
theorem sv_M_61 : mSiteV "AcreOfficeModel" 61 119 := ⟨(List.mem_of_getElem? (i := 1017) (by decide +kernel)), (List.mem_of_getElem? (i := 1019) (by decide +kernel)), (List.mem_of_getElem? (i := 40) (by decide +kernel))⟩
theorem sv_M_65 : mSiteV "AcreOfficeModel" 65 129 := ⟨(List.mem_of_getElem? (i := 1021) (by decide +kernel)), (List.mem_of_getElem? (i := 1023) (by decide +kernel)), (List.mem_of_getElem? (i := 41) (by decide +kernel))⟩
theorem sv_M_69 : mSiteV "AcreOfficeModel" 69 131 := ⟨(List.mem_of_getElem? (i := 1181) (by decide +kernel)), (List.mem_of_getElem? (i := 1183) (by decide +kernel)), (List.mem_of_getElem? (i := 60) (by decide +kernel))⟩
theorem sv_M_73 : mSiteV "AcreOfficeModel" 73 134 := ⟨(List.mem_of_getElem? (i := 1207) (by decide +kernel)), (List.mem_of_getElem? (i := 1209) (by decide +kernel)), (List.mem_of_getElem? (i := 63) (by decide +kernel))⟩
theorem sv_M_77 : mSiteV "AcreOfficeModel" 77 128 := ⟨(List.mem_of_getElem? (i := 1002) (by decide +kernel)), (List.mem_of_getElem? (i := 1004) (by decide +kernel)), (List.mem_of_getElem? (i := 37) (by decide +kernel))⟩
theorem sv_M_80 : mSiteV "AcreOfficeModel" 80 126 := ⟨(List.mem_of_getElem? (i := 982) (by decide +kernel)), (List.mem_of_getElem? (i := 984) (by decide +kernel)), (List.mem_of_getElem? (i := 33) (by decide +kernel))⟩
theorem sv_M_84 : mSiteV "AcreOfficeModel" 84 140 := ⟨(List.mem_of_getElem? (i := 998) (by decide +kernel)), (List.mem_of_getElem? (i := 1000) (by decide +kernel)), (List.mem_of_getElem? (i := 36) (by decide +kernel))⟩
theorem sv_M_87 : mSiteV "AcreOfficeModel" 87 130 := ⟨(List.mem_of_getElem? (i := 1009) (by decide +kernel)), (List.mem_of_getElem? (i := 1011) (by decide +kernel)), (List.mem_of_getElem? (i := 38) (by decide +kernel))⟩
theorem sv_M_91 : mSiteV "AcreOfficeModel" 91 141 := ⟨(List.mem_of_getElem? (i := 1025) (by decide +kernel)), (List.mem_of_getElem? (i := 1027) (by decide +kernel)), (List.mem_of_getElem? (i := 42) (by decide +kernel))⟩
theorem sv_M_95 : mSiteV "AcreOfficeModel" 95 139 := ⟨(List.mem_of_getElem? (i := 964) (by decide +kernel)), (List.mem_of_getElem? (i := 966) (by decide +kernel)), (List.mem_of_getElem? (i := 31) (by decide +kernel))⟩
theorem sv_M_99 : mSiteV "AcreOfficeModel" 99 137 := ⟨(List.mem_of_getElem? (i := 941) (by decide +kernel)), (List.mem_of_getElem? (i := 943) (by decide +kernel)), (List.mem_of_getElem? (i := 27) (by decide +kernel))⟩
theorem sv_M_102 : mSiteV "AcreOfficeModel" 102 115 := ⟨(List.mem_of_getElem? (i := 948) (by decide +kernel)), (List.mem_of_getElem? (i := 950) (by decide +kernel)), (List.mem_of_getElem? (i := 28) (by decide +kernel))⟩
theorem sv_M_105 : mSiteV "AcreOfficeModel" 105 120 := ⟨(List.mem_of_getElem? (i := 952) (by decide +kernel)), (List.mem_of_getElem? (i := 954) (by decide +kernel)), (List.mem_of_getElem? (i := 29) (by decide +kernel))⟩
theorem sv_M_108 : mSiteV "AcreOfficeModel" 108 138 := ⟨(List.mem_of_getElem? (i := 956) (by decide +kernel)), (List.mem_of_getElem? (i := 958) (by decide +kernel)), (List.mem_of_getElem? (i := 30) (by decide +kernel))⟩
theorem sv_M_113 : mSiteV "AcreOfficeModel" 113 142 := ⟨(List.mem_of_getElem? (i := 978) (by decide +kernel)), (List.mem_of_getElem? (i := 980) (by decide +kernel)), (List.mem_of_getElem? (i := 32) (by decide +kernel))⟩
theorem sv_M_116 : mSiteV "AcreOfficeModel" 116 143 := ⟨(List.mem_of_getElem? (i := 1029) (by decide +kernel)), (List.mem_of_getElem? (i := 1031) (by decide +kernel)), (List.mem_of_getElem? (i := 43) (by decide +kernel))⟩
theorem sv_M_119 : mSiteV "AcreOfficeModel" 119 144 := ⟨(List.mem_of_getElem? (i := 1041) (by decide +kernel)), (List.mem_of_getElem? (i := 1043) (by decide +kernel)), (List.mem_of_getElem? (i := 45) (by decide +kernel))⟩
theorem sv_M_125 : mSiteV "AcreOfficeModel" 125 152 := ⟨(List.mem_of_getElem? (i := 1065) (by decide +kernel)), (List.mem_of_getElem? (i := 1067) (by decide +kernel)), (List.mem_of_getElem? (i := 48) (by decide +kernel))⟩
theorem sv_M_128 : mSiteV "AcreOfficeModel" 128 153 := ⟨(List.mem_of_getElem? (i := 1073) (by decide +kernel)), (List.mem_of_getElem? (i := 1075) (by decide +kernel)), (List.mem_of_getElem? (i := 50) (by decide +kernel))⟩
theorem sv_M_131 : mSiteV "AcreOfficeModel" 131 155 := ⟨(List.mem_of_getElem? (i := 1069) (by decide +kernel)), (List.mem_of_getElem? (i := 1071) (by decide +kernel)), (List.mem_of_getElem? (i := 49) (by decide +kernel))⟩
theorem sv_M_134 : mSiteV "AcreOfficeModel" 134 156 := ⟨(List.mem_of_getElem? (i := 1061) (by decide +kernel)), (List.mem_of_getElem? (i := 1063) (by decide +kernel)), (List.mem_of_getElem? (i := 47) (by decide +kernel))⟩
theorem sv_M_137 : mSiteV "AcreOfficeModel" 137 157 := ⟨(List.mem_of_getElem? (i := 1057) (by decide +kernel)), (List.mem_of_getElem? (i := 1059) (by decide +kernel)), (List.mem_of_getElem? (i := 46) (by decide +kernel))⟩
theorem sv_M_140 : mSiteV "AcreOfficeModel" 140 154 := ⟨(List.mem_of_getElem? (i := 1101) (by decide +kernel)), (List.mem_of_getElem? (i := 1103) (by decide +kernel)), (List.mem_of_getElem? (i := 56) (by decide +kernel))⟩
theorem sv_M_143 : mSiteV "AcreOfficeModel" 143 159 := ⟨(List.mem_of_getElem? (i := 1097) (by decide +kernel)), (List.mem_of_getElem? (i := 1099) (by decide +kernel)), (List.mem_of_getElem? (i := 55) (by decide +kernel))⟩
theorem sv_M_146 : mSiteV "AcreOfficeModel" 146 160 := ⟨(List.mem_of_getElem? (i := 1093) (by decide +kernel)), (List.mem_of_getElem? (i := 1095) (by decide +kernel)), (List.mem_of_getElem? (i := 54) (by decide +kernel))⟩
theorem sv_M_149 : mSiteV "AcreOfficeModel" 149 121 := ⟨(List.mem_of_getElem? (i := 1085) (by decide +kernel)), (List.mem_of_getElem? (i := 1087) (by decide +kernel)), (List.mem_of_getElem? (i := 52) (by decide +kernel))⟩
theorem sv_M_152 : mSiteV "AcreOfficeModel" 152 161 := ⟨(List.mem_of_getElem? (i := 1089) (by decide +kernel)), (List.mem_of_getElem? (i := 1091) (by decide +kernel)), (List.mem_of_getElem? (i := 53) (by decide +kernel))⟩
theorem sv_M_155 : mSiteV "AcreOfficeModel" 155 122 := ⟨(List.mem_of_getElem? (i := 1105) (by decide +kernel)), (List.mem_of_getElem? (i := 1107) (by decide +kernel)), (List.mem_of_getElem? (i := 57) (by decide +kernel))⟩
theorem sv_M_158 : mSiteV "AcreOfficeModel" 158 162 := ⟨(List.mem_of_getElem? (i := 1081) (by decide +kernel)), (List.mem_of_getElem? (i := 1083) (by decide +kernel)), (List.mem_of_getElem? (i := 51) (by decide +kernel))⟩
theorem sv_M_165 : mSiteV "AcreOfficeModel" 165 118 := ⟨(List.mem_of_getElem? (i := 1165) (by decide +kernel)), (List.mem_of_getElem? (i := 1167) (by decide +kernel)), (List.mem_of_getElem? (i := 58) (by decide +kernel))⟩
theorem sv_M_169 : mSiteV "AcreOfficeModel" 169 132 := ⟨(List.mem_of_getElem? (i := 1177) (by decide +kernel)), (List.mem_of_getElem? (i := 1179) (by decide +kernel)), (List.mem_of_getElem? (i := 59) (by decide +kernel))⟩
theorem sv_M_175 : mSiteV "AcreOfficeModel" 175 133 := ⟨(List.mem_of_getElem? (i := 1195) (by decide +kernel)), (List.mem_of_getElem? (i := 1197) (by decide +kernel)), (List.mem_of_getElem? (i := 61) (by decide +kernel))⟩
theorem sv_M_178 : mSiteV "AcreOfficeModel" 178 135 := ⟨(List.mem_of_getElem? (i := 1203) (by decide +kernel)), (List.mem_of_getElem? (i := 1205) (by decide +kernel)), (List.mem_of_getElem? (i := 62) (by decide +kernel))⟩
theorem sv_M_183 : mSiteV "AcreOfficeModel" 183 185 := ⟨(List.mem_of_getElem? (i := 1223) (by decide +kernel)), (List.mem_of_getElem? (i := 1225) (by decide +kernel)), (List.mem_of_getElem? (i := 64) (by decide +kernel))⟩
theorem sv_M_194 : mSiteV "AcreOfficeModel" 194 136 := ⟨(List.mem_of_getElem? (i := 1252) (by decide +kernel)), (List.mem_of_getElem? (i := 1254) (by decide +kernel)), (List.mem_of_getElem? (i := 65) (by decide +kernel))⟩
theorem ok_F_copyFrom : mCodeOk 1 1 := ⟨List.mem_of_getElem? (i := 316) (by decide +kernel), (List.mem_of_getElem? (i := 70) (by decide +kernel)), by decide +kernel, ⟨by decide +kernel, by decide +kernel⟩, by decide +kernel, by decide +kernel⟩
theorem ok_F_dropCorners : mCodeOk 2 0 := ⟨List.mem_of_getElem? (i := 571) (by decide +kernel), (List.mem_of_getElem? (i := 70) (by decide +kernel)), by decide +kernel, ⟨by decide +kernel, by decide +kernel⟩, by decide +kernel, by decide +kernel⟩
theorem ok_F_appendCorner : mCodeOk 3 2 := ⟨List.mem_of_getElem? (i := 590) (by decide +kernel), (List.mem_of_getElem? (i := 70) (by decide +kernel)), by decide +kernel, ⟨by decide +kernel, by decide +kernel⟩, by decide +kernel, by decide +kernel⟩
theorem ok_F_hasCorner : mCodeOk 4 1 := ⟨List.mem_of_getElem? (i := 735) (by decide +kernel), (List.mem_of_getElem? (i := 70) (by decide +kernel)), by decide +kernel, ⟨by decide +kernel, by decide +kernel⟩, by decide +kernel, by decide +kernel⟩
theorem ok_F_eastAt : mCodeOk 5 1 := ⟨List.mem_of_getElem? (i := 391) (by decide +kernel), (List.mem_of_getElem? (i := 70) (by decide +kernel)), by decide +kernel, ⟨by decide +kernel, by decide +kernel⟩, by decide +kernel, by decide +kernel⟩
theorem ok_F_northAt : mCodeOk 6 1 := ⟨List.mem_of_getElem? (i := 396) (by decide +kernel), (List.mem_of_getElem? (i := 70) (by decide +kernel)), by decide +kernel, ⟨by decide +kernel, by decide +kernel⟩, by decide +kernel, by decide +kernel⟩
theorem ok_F_cornerAfter : mCodeOk 7 1 := ⟨List.mem_of_getElem? (i := 387) (by decide +kernel), (List.mem_of_getElem? (i := 70) (by decide +kernel)), by decide +kernel, ⟨by decide +kernel, by decide +kernel⟩, by decide +kernel, by decide +kernel⟩
theorem ok_F_cornerBefore : mCodeOk 8 1 := ⟨List.mem_of_getElem? (i := 764) (by decide +kernel), (List.mem_of_getElem? (i := 70) (by decide +kernel)), by decide +kernel, ⟨by decide +kernel, by decide +kernel⟩, by decide +kernel, by decide +kernel⟩
theorem ok_F_sideEast : mCodeOk 9 1 := ⟨List.mem_of_getElem? (i := 768) (by decide +kernel), (List.mem_of_getElem? (i := 70) (by decide +kernel)), by decide +kernel, ⟨by decide +kernel, by decide +kernel⟩, by decide +kernel, by decide +kernel⟩
theorem ok_F_sideNorth : mCodeOk 10 1 := ⟨List.mem_of_getElem? (i := 772) (by decide +kernel), (List.mem_of_getElem? (i := 70) (by decide +kernel)), by decide +kernel, ⟨by decide +kernel, by decide +kernel⟩, by decide +kernel, by decide +kernel⟩
theorem ok_F_turnAt : mCodeOk 11 1 := ⟨List.mem_of_getElem? (i := 760) (by decide +kernel), (List.mem_of_getElem? (i := 70) (by decide +kernel)), by decide +kernel, ⟨by decide +kernel, by decide +kernel⟩, by decide +kernel, by decide +kernel⟩
theorem ok_F_turnsToTheLeft : mCodeOk 12 0 := ⟨List.mem_of_getElem? (i := 756) (by decide +kernel), (List.mem_of_getElem? (i := 70) (by decide +kernel)), by decide +kernel, ⟨by decide +kernel, by decide +kernel⟩, by decide +kernel, by decide +kernel⟩
theorem ok_F_turnsToTheRight : mCodeOk 13 0 := ⟨List.mem_of_getElem? (i := 783) (by decide +kernel), (List.mem_of_getElem? (i := 70) (by decide +kernel)), by decide +kernel, ⟨by decide +kernel, by decide +kernel⟩, by decide +kernel, by decide +kernel⟩
theorem ok_F_sidesMetFrom : mCodeOk 14 2 := ⟨List.mem_of_getElem? (i := 796) (by decide +kernel), (List.mem_of_getElem? (i := 70) (by decide +kernel)), by decide +kernel, ⟨by decide +kernel, by decide +kernel⟩, by decide +kernel, by decide +kernel⟩
theorem ok_F_isMetFrom : mCodeOk 15 4 := ⟨List.mem_of_getElem? (i := 800) (by decide +kernel), (List.mem_of_getElem? (i := 70) (by decide +kernel)), by decide +kernel, ⟨by decide +kernel, by decide +kernel⟩, by decide +kernel, by decide +kernel⟩
theorem ok_F_sidesAlsoOf : mCodeOk 16 1 := ⟨List.mem_of_getElem? (i := 811) (by decide +kernel), (List.mem_of_getElem? (i := 70) (by decide +kernel)), by decide +kernel, ⟨by decide +kernel, by decide +kernel⟩, by decide +kernel, by decide +kernel⟩
theorem ok_F_hasSide : mCodeOk 17 3 := ⟨List.mem_of_getElem? (i := 815) (by decide +kernel), (List.mem_of_getElem? (i := 70) (by decide +kernel)), by decide +kernel, ⟨by decide +kernel, by decide +kernel⟩, by decide +kernel, by decide +kernel⟩
theorem ok_F_isSamePoint : mCodeOk 18 3 := ⟨List.mem_of_getElem? (i := 819) (by decide +kernel), (List.mem_of_getElem? (i := 70) (by decide +kernel)), by decide +kernel, ⟨by decide +kernel, by decide +kernel⟩, by decide +kernel, by decide +kernel⟩
theorem ok_F_twiceByCorners : mCodeOk 19 0 := ⟨List.mem_of_getElem? (i := 383) (by decide +kernel), (List.mem_of_getElem? (i := 70) (by decide +kernel)), by decide +kernel, ⟨by decide +kernel, by decide +kernel⟩, by decide +kernel, by decide +kernel⟩
theorem ok_F_twiceByStrips : mCodeOk 20 0 := ⟨List.mem_of_getElem? (i := 838) (by decide +kernel), (List.mem_of_getElem? (i := 70) (by decide +kernel)), by decide +kernel, ⟨by decide +kernel, by decide +kernel⟩, by decide +kernel, by decide +kernel⟩
theorem ok_F_area : mCodeOk 21 0 := ⟨List.mem_of_getElem? (i := 379) (by decide +kernel), (List.mem_of_getElem? (i := 70) (by decide +kernel)), by decide +kernel, ⟨by decide +kernel, by decide +kernel⟩, by decide +kernel, by decide +kernel⟩
theorem ok_F_extentEast : mCodeOk 22 0 := ⟨List.mem_of_getElem? (i := 875) (by decide +kernel), (List.mem_of_getElem? (i := 70) (by decide +kernel)), by decide +kernel, ⟨by decide +kernel, by decide +kernel⟩, by decide +kernel, by decide +kernel⟩
theorem ok_F_extentNorth : mCodeOk 23 0 := ⟨List.mem_of_getElem? (i := 890) (by decide +kernel), (List.mem_of_getElem? (i := 70) (by decide +kernel)), by decide +kernel, ⟨by decide +kernel, by decide +kernel⟩, by decide +kernel, by decide +kernel⟩
theorem ok_F_extentOf : mCodeOk 24 1 := ⟨List.mem_of_getElem? (i := 879) (by decide +kernel), (List.mem_of_getElem? (i := 70) (by decide +kernel)), by decide +kernel, ⟨by decide +kernel, by decide +kernel⟩, by decide +kernel, by decide +kernel⟩
theorem ok_H_remember : mCodeOk 26 1 := ⟨List.mem_of_getElem? (i := 526) (by decide +kernel), (List.mem_of_getElem? (i := 71) (by decide +kernel)), by decide +kernel, ⟨by decide +kernel, by decide +kernel⟩, by decide +kernel, by decide +kernel⟩
theorem ok_H_giveBack : mCodeOk 27 1 := ⟨List.mem_of_getElem? (i := 678) (by decide +kernel), (List.mem_of_getElem? (i := 71) (by decide +kernel)), by decide +kernel, ⟨by decide +kernel, by decide +kernel⟩, by decide +kernel, by decide +kernel⟩
theorem ok_O_append : mCodeOk 29 1 := ⟨List.mem_of_getElem? (i := 638) (by decide +kernel), (List.mem_of_getElem? (i := 72) (by decide +kernel)), by decide +kernel, ⟨by decide +kernel, by decide +kernel⟩, by decide +kernel, by decide +kernel⟩
theorem ok_O_dropText : mCodeOk 30 0 := ⟨List.mem_of_getElem? (i := 245) (by decide +kernel), (List.mem_of_getElem? (i := 72) (by decide +kernel)), by decide +kernel, ⟨by decide +kernel, by decide +kernel⟩, by decide +kernel, by decide +kernel⟩
theorem ok_O_firstError : mCodeOk 31 0 := ⟨List.mem_of_getElem? (i := 253) (by decide +kernel), (List.mem_of_getElem? (i := 72) (by decide +kernel)), by decide +kernel, ⟨by decide +kernel, by decide +kernel⟩, by decide +kernel, by decide +kernel⟩
theorem ok_O_accepts : mCodeOk 32 1 := ⟨List.mem_of_getElem? (i := 257) (by decide +kernel), (List.mem_of_getElem? (i := 72) (by decide +kernel)), by decide +kernel, ⟨by decide +kernel, by decide +kernel⟩, by decide +kernel, by decide +kernel⟩
theorem ok_O_beginOrder : mCodeOk 33 1 := ⟨List.mem_of_getElem? (i := 261) (by decide +kernel), (List.mem_of_getElem? (i := 72) (by decide +kernel)), by decide +kernel, ⟨by decide +kernel, by decide +kernel⟩, by decide +kernel, by decide +kernel⟩
theorem ok_O_noteKind : mCodeOk 34 2 := ⟨List.mem_of_getElem? (i := 265) (by decide +kernel), (List.mem_of_getElem? (i := 72) (by decide +kernel)), by decide +kernel, ⟨by decide +kernel, by decide +kernel⟩, by decide +kernel, by decide +kernel⟩
theorem ok_O_endOrder : mCodeOk 35 1 := ⟨List.mem_of_getElem? (i := 269) (by decide +kernel), (List.mem_of_getElem? (i := 72) (by decide +kernel)), by decide +kernel, ⟨by decide +kernel, by decide +kernel⟩, by decide +kernel, by decide +kernel⟩
theorem ok_O_readField : mCodeOk 36 1 := ⟨List.mem_of_getElem? (i := 273) (by decide +kernel), (List.mem_of_getElem? (i := 72) (by decide +kernel)), by decide +kernel, ⟨by decide +kernel, by decide +kernel⟩, by decide +kernel, by decide +kernel⟩
theorem ok_O_beginNumber : mCodeOk 37 3 := ⟨List.mem_of_getElem? (i := 281) (by decide +kernel), (List.mem_of_getElem? (i := 72) (by decide +kernel)), by decide +kernel, ⟨by decide +kernel, by decide +kernel⟩, by decide +kernel, by decide +kernel⟩
theorem ok_O_growNumber : mCodeOk 38 2 := ⟨List.mem_of_getElem? (i := 285) (by decide +kernel), (List.mem_of_getElem? (i := 72) (by decide +kernel)), by decide +kernel, ⟨by decide +kernel, by decide +kernel⟩, by decide +kernel, by decide +kernel⟩
theorem ok_O_endEast : mCodeOk 39 1 := ⟨List.mem_of_getElem? (i := 289) (by decide +kernel), (List.mem_of_getElem? (i := 72) (by decide +kernel)), by decide +kernel, ⟨by decide +kernel, by decide +kernel⟩, by decide +kernel, by decide +kernel⟩
theorem ok_O_endNorth : mCodeOk 40 1 := ⟨List.mem_of_getElem? (i := 293) (by decide +kernel), (List.mem_of_getElem? (i := 72) (by decide +kernel)), by decide +kernel, ⟨by decide +kernel, by decide +kernel⟩, by decide +kernel, by decide +kernel⟩
theorem ok_O_noteLength : mCodeOk 41 0 := ⟨List.mem_of_getElem? (i := 297) (by decide +kernel), (List.mem_of_getElem? (i := 72) (by decide +kernel)), by decide +kernel, ⟨by decide +kernel, by decide +kernel⟩, by decide +kernel, by decide +kernel⟩
theorem ok_O_note : mCodeOk 42 2 := ⟨List.mem_of_getElem? (i := 277) (by decide +kernel), (List.mem_of_getElem? (i := 72) (by decide +kernel)), by decide +kernel, ⟨by decide +kernel, by decide +kernel⟩, by decide +kernel, by decide +kernel⟩
theorem ok_O_firstFailureOn : mCodeOk 43 1 := ⟨List.mem_of_getElem? (i := 651) (by decide +kernel), (List.mem_of_getElem? (i := 72) (by decide +kernel)), by decide +kernel, ⟨by decide +kernel, by decide +kernel⟩, by decide +kernel, by decide +kernel⟩
theorem ok_O_isCarriedOut : mCodeOk 44 2 := ⟨List.mem_of_getElem? (i := 655) (by decide +kernel), (List.mem_of_getElem? (i := 72) (by decide +kernel)), by decide +kernel, ⟨by decide +kernel, by decide +kernel⟩, by decide +kernel, by decide +kernel⟩
theorem ok_S_copyFrom : mCodeOk 46 1 := ⟨List.mem_of_getElem? (i := 305) (by decide +kernel), (List.mem_of_getElem? (i := 68) (by decide +kernel)), by decide +kernel, ⟨by decide +kernel, by decide +kernel⟩, by decide +kernel, by decide +kernel⟩
theorem ok_S_hasField : mCodeOk 47 1 := ⟨List.mem_of_getElem? (i := 611) (by decide +kernel), (List.mem_of_getElem? (i := 68) (by decide +kernel)), by decide +kernel, ⟨by decide +kernel, by decide +kernel⟩, by decide +kernel, by decide +kernel⟩
theorem ok_S_keepTraverse : mCodeOk 48 0 := ⟨List.mem_of_getElem? (i := 566) (by decide +kernel), (List.mem_of_getElem? (i := 68) (by decide +kernel)), by decide +kernel, ⟨by decide +kernel, by decide +kernel⟩, by decide +kernel, by decide +kernel⟩
theorem ok_S_dropField : mCodeOk 49 1 := ⟨List.mem_of_getElem? (i := 607) (by decide +kernel), (List.mem_of_getElem? (i := 68) (by decide +kernel)), by decide +kernel, ⟨by decide +kernel, by decide +kernel⟩, by decide +kernel, by decide +kernel⟩
theorem ok_S_fieldOfGreatestArea : mCodeOk 50 0 := ⟨List.mem_of_getElem? (i := 374) (by decide +kernel), (List.mem_of_getElem? (i := 68) (by decide +kernel)), by decide +kernel, ⟨by decide +kernel, by decide +kernel⟩, by decide +kernel, by decide +kernel⟩
theorem ok_S_sumOfTwiceAreas : mCodeOk 51 0 := ⟨List.mem_of_getElem? (i := 408) (by decide +kernel), (List.mem_of_getElem? (i := 68) (by decide +kernel)), by decide +kernel, ⟨by decide +kernel, by decide +kernel⟩, by decide +kernel, by decide +kernel⟩
theorem ok_T_copyFrom : mCodeOk 53 1 := ⟨List.mem_of_getElem? (i := 309) (by decide +kernel), (List.mem_of_getElem? (i := 69) (by decide +kernel)), by decide +kernel, ⟨by decide +kernel, by decide +kernel⟩, by decide +kernel, by decide +kernel⟩
theorem ok_T_append : mCodeOk 54 3 := ⟨List.mem_of_getElem? (i := 502) (by decide +kernel), (List.mem_of_getElem? (i := 69) (by decide +kernel)), by decide +kernel, ⟨by decide +kernel, by decide +kernel⟩, by decide +kernel, by decide +kernel⟩
theorem ok_T_dropLast : mCodeOk 55 0 := ⟨List.mem_of_getElem? (i := 541) (by decide +kernel), (List.mem_of_getElem? (i := 69) (by decide +kernel)), by decide +kernel, ⟨by decide +kernel, by decide +kernel⟩, by decide +kernel, by decide +kernel⟩
theorem ok_T_dropAllLegs : mCodeOk 56 0 := ⟨List.mem_of_getElem? (i := 594) (by decide +kernel), (List.mem_of_getElem? (i := 69) (by decide +kernel)), by decide +kernel, ⟨by decide +kernel, by decide +kernel⟩, by decide +kernel, by decide +kernel⟩
theorem ok_T_moveOrigin : mCodeOk 57 2 := ⟨List.mem_of_getElem? (i := 555) (by decide +kernel), (List.mem_of_getElem? (i := 69) (by decide +kernel)), by decide +kernel, ⟨by decide +kernel, by decide +kernel⟩, by decide +kernel, by decide +kernel⟩
theorem ok_T_hasCorner : mCodeOk 58 1 := ⟨List.mem_of_getElem? (i := 698) (by decide +kernel), (List.mem_of_getElem? (i := 69) (by decide +kernel)), by decide +kernel, ⟨by decide +kernel, by decide +kernel⟩, by decide +kernel, by decide +kernel⟩
theorem ok_T_measuredLength : mCodeOk 59 0 := ⟨List.mem_of_getElem? (i := 329) (by decide +kernel), (List.mem_of_getElem? (i := 69) (by decide +kernel)), by decide +kernel, ⟨by decide +kernel, by decide +kernel⟩, by decide +kernel, by decide +kernel⟩
theorem ok_T_closingEast : mCodeOk 60 0 := ⟨List.mem_of_getElem? (i := 340) (by decide +kernel), (List.mem_of_getElem? (i := 69) (by decide +kernel)), by decide +kernel, ⟨by decide +kernel, by decide +kernel⟩, by decide +kernel, by decide +kernel⟩
theorem ok_T_closingNorth : mCodeOk 61 0 := ⟨List.mem_of_getElem? (i := 348) (by decide +kernel), (List.mem_of_getElem? (i := 69) (by decide +kernel)), by decide +kernel, ⟨by decide +kernel, by decide +kernel⟩, by decide +kernel, by decide +kernel⟩
theorem ok_T_closesWell : mCodeOk 62 0 := ⟨List.mem_of_getElem? (i := 356) (by decide +kernel), (List.mem_of_getElem? (i := 69) (by decide +kernel)), by decide +kernel, ⟨by decide +kernel, by decide +kernel⟩, by decide +kernel, by decide +kernel⟩
theorem ok_T_adjustedEastAt : mCodeOk 63 1 := ⟨List.mem_of_getElem? (i := 575) (by decide +kernel), (List.mem_of_getElem? (i := 69) (by decide +kernel)), by decide +kernel, ⟨by decide +kernel, by decide +kernel⟩, by decide +kernel, by decide +kernel⟩
theorem ok_T_adjustedNorthAt : mCodeOk 64 1 := ⟨List.mem_of_getElem? (i := 586) (by decide +kernel), (List.mem_of_getElem? (i := 69) (by decide +kernel)), by decide +kernel, ⟨by decide +kernel, by decide +kernel⟩, by decide +kernel, by decide +kernel⟩
theorem ok_T_shareOf : mCodeOk 65 2 := ⟨List.mem_of_getElem? (i := 579) (by decide +kernel), (List.mem_of_getElem? (i := 69) (by decide +kernel)), by decide +kernel, ⟨by decide +kernel, by decide +kernel⟩, by decide +kernel, by decide +kernel⟩
theorem ok_A_addLeg : mCodeOk 67 3 := ⟨List.mem_of_getElem? (i := 422) (by decide +kernel), (List.mem_of_getElem? (i := 67) (by decide +kernel)), by decide +kernel, ⟨by decide +kernel, by decide +kernel⟩, by decide +kernel, by decide +kernel⟩
theorem ok_A_takeBack : mCodeOk 68 0 := ⟨List.mem_of_getElem? (i := 537) (by decide +kernel), (List.mem_of_getElem? (i := 67) (by decide +kernel)), by decide +kernel, ⟨by decide +kernel, by decide +kernel⟩, by decide +kernel, by decide +kernel⟩
theorem ok_A_setOrigin : mCodeOk 69 2 := ⟨List.mem_of_getElem? (i := 549) (by decide +kernel), (List.mem_of_getElem? (i := 67) (by decide +kernel)), by decide +kernel, ⟨by decide +kernel, by decide +kernel⟩, by decide +kernel, by decide +kernel⟩
theorem ok_A_keep : mCodeOk 70 0 := ⟨List.mem_of_getElem? (i := 562) (by decide +kernel), (List.mem_of_getElem? (i := 67) (by decide +kernel)), by decide +kernel, ⟨by decide +kernel, by decide +kernel⟩, by decide +kernel, by decide +kernel⟩
theorem ok_A_giveUp : mCodeOk 71 1 := ⟨List.mem_of_getElem? (i := 603) (by decide +kernel), (List.mem_of_getElem? (i := 67) (by decide +kernel)), by decide +kernel, ⟨by decide +kernel, by decide +kernel⟩, by decide +kernel, by decide +kernel⟩
theorem ok_A_type : mCodeOk 72 1 := ⟨List.mem_of_getElem? (i := 634) (by decide +kernel), (List.mem_of_getElem? (i := 67) (by decide +kernel)), by decide +kernel, ⟨by decide +kernel, by decide +kernel⟩, by decide +kernel, by decide +kernel⟩
theorem ok_A_clearText : mCodeOk 73 0 := ⟨List.mem_of_getElem? (i := 241) (by decide +kernel), (List.mem_of_getElem? (i := 67) (by decide +kernel)), by decide +kernel, ⟨by decide +kernel, by decide +kernel⟩, by decide +kernel, by decide +kernel⟩
theorem ok_A_textError : mCodeOk 74 0 := ⟨List.mem_of_getElem? (i := 249) (by decide +kernel), (List.mem_of_getElem? (i := 67) (by decide +kernel)), by decide +kernel, ⟨by decide +kernel, by decide +kernel⟩, by decide +kernel, by decide +kernel⟩
theorem ok_A_impossibleOrder : mCodeOk 75 0 := ⟨List.mem_of_getElem? (i := 646) (by decide +kernel), (List.mem_of_getElem? (i := 67) (by decide +kernel)), by decide +kernel, ⟨by decide +kernel, by decide +kernel⟩, by decide +kernel, by decide +kernel⟩
theorem ok_A_carryOut : mCodeOk 76 0 := ⟨List.mem_of_getElem? (i := 666) (by decide +kernel), (List.mem_of_getElem? (i := 67) (by decide +kernel)), by decide +kernel, ⟨by decide +kernel, by decide +kernel⟩, by decide +kernel, by decide +kernel⟩
theorem ok_A_undo : mCodeOk 77 0 := ⟨List.mem_of_getElem? (i := 674) (by decide +kernel), (List.mem_of_getElem? (i := 67) (by decide +kernel)), by decide +kernel, ⟨by decide +kernel, by decide +kernel⟩, by decide +kernel, by decide +kernel⟩
theorem ok_A_takeSnapshot : mCodeOk 78 0 := ⟨List.mem_of_getElem? (i := 301) (by decide +kernel), (List.mem_of_getElem? (i := 67) (by decide +kernel)), by decide +kernel, ⟨by decide +kernel, by decide +kernel⟩, by decide +kernel, by decide +kernel⟩
theorem ok_A_restoreSnapshot : mCodeOk 79 0 := ⟨List.mem_of_getElem? (i := 686) (by decide +kernel), (List.mem_of_getElem? (i := 67) (by decide +kernel)), by decide +kernel, ⟨by decide +kernel, by decide +kernel⟩, by decide +kernel, by decide +kernel⟩
theorem ok_A_legs : mCodeOk 80 0 := ⟨List.mem_of_getElem? (i := 321) (by decide +kernel), (List.mem_of_getElem? (i := 67) (by decide +kernel)), by decide +kernel, ⟨by decide +kernel, by decide +kernel⟩, by decide +kernel, by decide +kernel⟩
theorem ok_A_traverseLength : mCodeOk 81 0 := ⟨List.mem_of_getElem? (i := 325) (by decide +kernel), (List.mem_of_getElem? (i := 67) (by decide +kernel)), by decide +kernel, ⟨by decide +kernel, by decide +kernel⟩, by decide +kernel, by decide +kernel⟩
theorem ok_A_errorEast : mCodeOk 82 0 := ⟨List.mem_of_getElem? (i := 336) (by decide +kernel), (List.mem_of_getElem? (i := 67) (by decide +kernel)), by decide +kernel, ⟨by decide +kernel, by decide +kernel⟩, by decide +kernel, by decide +kernel⟩
theorem ok_A_errorNorth : mCodeOk 83 0 := ⟨List.mem_of_getElem? (i := 344) (by decide +kernel), (List.mem_of_getElem? (i := 67) (by decide +kernel)), by decide +kernel, ⟨by decide +kernel, by decide +kernel⟩, by decide +kernel, by decide +kernel⟩
theorem ok_A_isClose : mCodeOk 84 0 := ⟨List.mem_of_getElem? (i := 352) (by decide +kernel), (List.mem_of_getElem? (i := 67) (by decide +kernel)), by decide +kernel, ⟨by decide +kernel, by decide +kernel⟩, by decide +kernel, by decide +kernel⟩
theorem ok_A_adjustedEast : mCodeOk 85 1 := ⟨List.mem_of_getElem? (i := 694) (by decide +kernel), (List.mem_of_getElem? (i := 67) (by decide +kernel)), by decide +kernel, ⟨by decide +kernel, by decide +kernel⟩, by decide +kernel, by decide +kernel⟩
theorem ok_A_adjustedNorth : mCodeOk 86 1 := ⟨List.mem_of_getElem? (i := 707) (by decide +kernel), (List.mem_of_getElem? (i := 67) (by decide +kernel)), by decide +kernel, ⟨by decide +kernel, by decide +kernel⟩, by decide +kernel, by decide +kernel⟩
theorem ok_A_fields : mCodeOk 87 0 := ⟨List.mem_of_getElem? (i := 366) (by decide +kernel), (List.mem_of_getElem? (i := 67) (by decide +kernel)), by decide +kernel, ⟨by decide +kernel, by decide +kernel⟩, by decide +kernel, by decide +kernel⟩
theorem ok_A_cornersOf : mCodeOk 88 1 := ⟨List.mem_of_getElem? (i := 715) (by decide +kernel), (List.mem_of_getElem? (i := 67) (by decide +kernel)), by decide +kernel, ⟨by decide +kernel, by decide +kernel⟩, by decide +kernel, by decide +kernel⟩
theorem ok_A_cornerEast : mCodeOk 89 2 := ⟨List.mem_of_getElem? (i := 727) (by decide +kernel), (List.mem_of_getElem? (i := 67) (by decide +kernel)), by decide +kernel, ⟨by decide +kernel, by decide +kernel⟩, by decide +kernel, by decide +kernel⟩
theorem ok_A_cornerNorth : mCodeOk 90 2 := ⟨List.mem_of_getElem? (i := 744) (by decide +kernel), (List.mem_of_getElem? (i := 67) (by decide +kernel)), by decide +kernel, ⟨by decide +kernel, by decide +kernel⟩, by decide +kernel, by decide +kernel⟩
theorem ok_A_leftTurns : mCodeOk 91 1 := ⟨List.mem_of_getElem? (i := 752) (by decide +kernel), (List.mem_of_getElem? (i := 67) (by decide +kernel)), by decide +kernel, ⟨by decide +kernel, by decide +kernel⟩, by decide +kernel, by decide +kernel⟩
theorem ok_A_turnsOneWay : mCodeOk 92 1 := ⟨List.mem_of_getElem? (i := 779) (by decide +kernel), (List.mem_of_getElem? (i := 67) (by decide +kernel)), by decide +kernel, ⟨by decide +kernel, by decide +kernel⟩, by decide +kernel, by decide +kernel⟩
theorem ok_A_sidesEastOf : mCodeOk 93 3 := ⟨List.mem_of_getElem? (i := 790) (by decide +kernel), (List.mem_of_getElem? (i := 67) (by decide +kernel)), by decide +kernel, ⟨by decide +kernel, by decide +kernel⟩, by decide +kernel, by decide +kernel⟩
theorem ok_A_sharedSides : mCodeOk 94 2 := ⟨List.mem_of_getElem? (i := 807) (by decide +kernel), (List.mem_of_getElem? (i := 67) (by decide +kernel)), by decide +kernel, ⟨by decide +kernel, by decide +kernel⟩, by decide +kernel, by decide +kernel⟩
theorem ok_A_twiceAreaByCorners : mCodeOk 95 1 := ⟨List.mem_of_getElem? (i := 826) (by decide +kernel), (List.mem_of_getElem? (i := 67) (by decide +kernel)), by decide +kernel, ⟨by decide +kernel, by decide +kernel⟩, by decide +kernel, by decide +kernel⟩
theorem ok_A_twiceAreaByStrips : mCodeOk 96 1 := ⟨List.mem_of_getElem? (i := 834) (by decide +kernel), (List.mem_of_getElem? (i := 67) (by decide +kernel)), by decide +kernel, ⟨by decide +kernel, by decide +kernel⟩, by decide +kernel, by decide +kernel⟩
theorem ok_A_acresOf : mCodeOk 97 1 := ⟨List.mem_of_getElem? (i := 845) (by decide +kernel), (List.mem_of_getElem? (i := 67) (by decide +kernel)), by decide +kernel, ⟨by decide +kernel, by decide +kernel⟩, by decide +kernel, by decide +kernel⟩
theorem ok_A_roodsOf : mCodeOk 98 1 := ⟨List.mem_of_getElem? (i := 854) (by decide +kernel), (List.mem_of_getElem? (i := 67) (by decide +kernel)), by decide +kernel, ⟨by decide +kernel, by decide +kernel⟩, by decide +kernel, by decide +kernel⟩
theorem ok_A_perchesOf : mCodeOk 99 1 := ⟨List.mem_of_getElem? (i := 862) (by decide +kernel), (List.mem_of_getElem? (i := 67) (by decide +kernel)), by decide +kernel, ⟨by decide +kernel, by decide +kernel⟩, by decide +kernel, by decide +kernel⟩
theorem ok_A_largestField : mCodeOk 100 0 := ⟨List.mem_of_getElem? (i := 370) (by decide +kernel), (List.mem_of_getElem? (i := 67) (by decide +kernel)), by decide +kernel, ⟨by decide +kernel, by decide +kernel⟩, by decide +kernel, by decide +kernel⟩
theorem ok_A_twiceAreaOfAll : mCodeOk 101 0 := ⟨List.mem_of_getElem? (i := 404) (by decide +kernel), (List.mem_of_getElem? (i := 67) (by decide +kernel)), by decide +kernel, ⟨by decide +kernel, by decide +kernel⟩, by decide +kernel, by decide +kernel⟩
theorem ok_A_sheetsFor : mCodeOk 102 2 := ⟨List.mem_of_getElem? (i := 870) (by decide +kernel), (List.mem_of_getElem? (i := 67) (by decide +kernel)), by decide +kernel, ⟨by decide +kernel, by decide +kernel⟩, by decide +kernel, by decide +kernel⟩
theorem ok_A_scaleFor : mCodeOk 103 1 := ⟨List.mem_of_getElem? (i := 897) (by decide +kernel), (List.mem_of_getElem? (i := 67) (by decide +kernel)), by decide +kernel, ⟨by decide +kernel, by decide +kernel⟩, by decide +kernel, by decide +kernel⟩
theorem ok_A_recordedStates : mCodeOk 104 0 := ⟨List.mem_of_getElem? (i := 413) (by decide +kernel), (List.mem_of_getElem? (i := 67) (by decide +kernel)), by decide +kernel, ⟨by decide +kernel, by decide +kernel⟩, by decide +kernel, by decide +kernel⟩
theorem ok_A_beginTrial : mCodeOk 105 0 := ⟨List.mem_of_getElem? (i := 498) (by decide +kernel), (List.mem_of_getElem? (i := 67) (by decide +kernel)), by decide +kernel, ⟨by decide +kernel, by decide +kernel⟩, by decide +kernel, by decide +kernel⟩
theorem ok_A_settleTrial : mCodeOk 106 0 := ⟨List.mem_of_getElem? (i := 522) (by decide +kernel), (List.mem_of_getElem? (i := 67) (by decide +kernel)), by decide +kernel, ⟨by decide +kernel, by decide +kernel⟩, by decide +kernel, by decide +kernel⟩
theorem ok_A_knownField : mCodeOk 107 1 := ⟨List.mem_of_getElem? (i := 719) (by decide +kernel), (List.mem_of_getElem? (i := 67) (by decide +kernel)), by decide +kernel, ⟨by decide +kernel, by decide +kernel⟩, by decide +kernel, by decide +kernel⟩
theorem ok_A_fieldWithCorner : mCodeOk 108 2 := ⟨List.mem_of_getElem? (i := 731) (by decide +kernel), (List.mem_of_getElem? (i := 67) (by decide +kernel)), by decide +kernel, ⟨by decide +kernel, by decide +kernel⟩, by decide +kernel, by decide +kernel⟩
theorem ok_A_isWithin : mCodeOk 109 2 := ⟨List.mem_of_getElem? (i := 425) (by decide +kernel), (List.mem_of_getElem? (i := 67) (by decide +kernel)), by decide +kernel, ⟨by decide +kernel, by decide +kernel⟩, by decide +kernel, by decide +kernel⟩
theorem ok_A_cellOf : mCodeOk 110 2 := ⟨List.mem_of_getElem? (i := 332) (by decide +kernel), (List.mem_of_getElem? (i := 67) (by decide +kernel)), by decide +kernel, ⟨by decide +kernel, by decide +kernel⟩, by decide +kernel, by decide +kernel⟩
theorem ok_A_piecesNeeded : mCodeOk 111 2 := ⟨List.mem_of_getElem? (i := 886) (by decide +kernel), (List.mem_of_getElem? (i := 67) (by decide +kernel)), by decide +kernel, ⟨by decide +kernel, by decide +kernel⟩, by decide +kernel, by decide +kernel⟩
theorem ok_M_thrown : mCodeOk 113 0 := ⟨List.mem_of_getElem? (i := 936) (by decide +kernel), (List.mem_of_getElem? (i := 73) (by decide +kernel)), by decide +kernel, ⟨by decide +kernel, by decide +kernel⟩, by decide +kernel, by decide +kernel⟩
theorem ok_M_in : mCodeOk 114 3 := ⟨List.mem_of_getElem? (i := 947) (by decide +kernel), (List.mem_of_getElem? (i := 73) (by decide +kernel)), by decide +kernel, ⟨by decide +kernel, by decide +kernel⟩, by decide +kernel, by decide +kernel⟩
theorem ok_M_holds : mCodeOk 115 1 := ⟨List.mem_of_getElem? (i := 951) (by decide +kernel), (List.mem_of_getElem? (i := 73) (by decide +kernel)), by decide +kernel, ⟨by decide +kernel, by decide +kernel⟩, by decide +kernel, by decide +kernel⟩
theorem ok_M_isField : mCodeOk 116 1 := ⟨List.mem_of_getElem? (i := 1040) (by decide +kernel), (List.mem_of_getElem? (i := 73) (by decide +kernel)), by decide +kernel, ⟨by decide +kernel, by decide +kernel⟩, by decide +kernel, by decide +kernel⟩
theorem ok_M_corners : mCodeOk 117 1 := ⟨List.mem_of_getElem? (i := 1016) (by decide +kernel), (List.mem_of_getElem? (i := 73) (by decide +kernel)), by decide +kernel, ⟨by decide +kernel, by decide +kernel⟩, by decide +kernel, by decide +kernel⟩
theorem ok_M_isCorner : mCodeOk 118 2 := ⟨List.mem_of_getElem? (i := 1168) (by decide +kernel), (List.mem_of_getElem? (i := 73) (by decide +kernel)), by decide +kernel, ⟨by decide +kernel, by decide +kernel⟩, by decide +kernel, by decide +kernel⟩
theorem ok_M_part : mCodeOk 119 3 := ⟨List.mem_of_getElem? (i := 1020) (by decide +kernel), (List.mem_of_getElem? (i := 73) (by decide +kernel)), by decide +kernel, ⟨by decide +kernel, by decide +kernel⟩, by decide +kernel, by decide +kernel⟩
theorem ok_M_records : mCodeOk 120 0 := ⟨List.mem_of_getElem? (i := 955) (by decide +kernel), (List.mem_of_getElem? (i := 73) (by decide +kernel)), by decide +kernel, ⟨by decide +kernel, by decide +kernel⟩, by decide +kernel, by decide +kernel⟩
theorem ok_M_putAside : mCodeOk 121 0 := ⟨List.mem_of_getElem? (i := 1088) (by decide +kernel), (List.mem_of_getElem? (i := 73) (by decide +kernel)), by decide +kernel, ⟨by decide +kernel, by decide +kernel⟩, by decide +kernel, by decide +kernel⟩
theorem ok_M_putBack : mCodeOk 122 0 := ⟨List.mem_of_getElem? (i := 1108) (by decide +kernel), (List.mem_of_getElem? (i := 73) (by decide +kernel)), by decide +kernel, ⟨by decide +kernel, by decide +kernel⟩, by decide +kernel, by decide +kernel⟩
theorem ok_M_sizeOf : mCodeOk 123 1 := ⟨List.mem_of_getElem? (i := 997) (by decide +kernel), (List.mem_of_getElem? (i := 73) (by decide +kernel)), by decide +kernel, ⟨by decide +kernel, by decide +kernel⟩, by decide +kernel, by decide +kernel⟩
theorem ok_M_before : mCodeOk 124 2 := ⟨List.mem_of_getElem? (i := 994) (by decide +kernel), (List.mem_of_getElem? (i := 73) (by decide +kernel)), by decide +kernel, ⟨by decide +kernel, by decide +kernel⟩, by decide +kernel, by decide +kernel⟩
theorem ok_M_error : mCodeOk 125 1 := ⟨List.mem_of_getElem? (i := 990) (by decide +kernel), (List.mem_of_getElem? (i := 73) (by decide +kernel)), by decide +kernel, ⟨by decide +kernel, by decide +kernel⟩, by decide +kernel, by decide +kernel⟩
theorem ok_M_close : mCodeOk 126 0 := ⟨List.mem_of_getElem? (i := 985) (by decide +kernel), (List.mem_of_getElem? (i := 73) (by decide +kernel)), by decide +kernel, ⟨by decide +kernel, by decide +kernel⟩, by decide +kernel, by decide +kernel⟩
theorem ok_M_floor : mCodeOk 127 2 := ⟨List.mem_of_getElem? (i := 1008) (by decide +kernel), (List.mem_of_getElem? (i := 73) (by decide +kernel)), by decide +kernel, ⟨by decide +kernel, by decide +kernel⟩, by decide +kernel, by decide +kernel⟩
theorem ok_M_adjusted : mCodeOk 128 2 := ⟨List.mem_of_getElem? (i := 1005) (by decide +kernel), (List.mem_of_getElem? (i := 73) (by decide +kernel)), by decide +kernel, ⟨by decide +kernel, by decide +kernel⟩, by decide +kernel, by decide +kernel⟩
theorem ok_M_change : mCodeOk 129 3 := ⟨List.mem_of_getElem? (i := 1024) (by decide +kernel), (List.mem_of_getElem? (i := 73) (by decide +kernel)), by decide +kernel, ⟨by decide +kernel, by decide +kernel⟩, by decide +kernel, by decide +kernel⟩
theorem ok_M_twice : mCodeOk 130 1 := ⟨List.mem_of_getElem? (i := 1012) (by decide +kernel), (List.mem_of_getElem? (i := 73) (by decide +kernel)), by decide +kernel, ⟨by decide +kernel, by decide +kernel⟩, by decide +kernel, by decide +kernel⟩
theorem ok_M_turn : mCodeOk 131 2 := ⟨List.mem_of_getElem? (i := 1184) (by decide +kernel), (List.mem_of_getElem? (i := 73) (by decide +kernel)), by decide +kernel, ⟨by decide +kernel, by decide +kernel⟩, by decide +kernel, by decide +kernel⟩
theorem ok_M_turns : mCodeOk 132 2 := ⟨List.mem_of_getElem? (i := 1180) (by decide +kernel), (List.mem_of_getElem? (i := 73) (by decide +kernel)), by decide +kernel, ⟨by decide +kernel, by decide +kernel⟩, by decide +kernel, by decide +kernel⟩
theorem ok_M_isEast : mCodeOk 133 4 := ⟨List.mem_of_getElem? (i := 1198) (by decide +kernel), (List.mem_of_getElem? (i := 73) (by decide +kernel)), by decide +kernel, ⟨by decide +kernel, by decide +kernel⟩, by decide +kernel, by decide +kernel⟩
theorem ok_M_isSame : mCodeOk 134 4 := ⟨List.mem_of_getElem? (i := 1210) (by decide +kernel), (List.mem_of_getElem? (i := 73) (by decide +kernel)), by decide +kernel, ⟨by decide +kernel, by decide +kernel⟩, by decide +kernel, by decide +kernel⟩
theorem ok_M_isShared : mCodeOk 135 3 := ⟨List.mem_of_getElem? (i := 1206) (by decide +kernel), (List.mem_of_getElem? (i := 73) (by decide +kernel)), by decide +kernel, ⟨by decide +kernel, by decide +kernel⟩, by decide +kernel, by decide +kernel⟩
theorem ok_M_extent : mCodeOk 136 2 := ⟨List.mem_of_getElem? (i := 1255) (by decide +kernel), (List.mem_of_getElem? (i := 73) (by decide +kernel)), by decide +kernel, ⟨by decide +kernel, by decide +kernel⟩, by decide +kernel, by decide +kernel⟩
theorem ok_M_wrongLeg : mCodeOk 137 3 := ⟨List.mem_of_getElem? (i := 944) (by decide +kernel), (List.mem_of_getElem? (i := 73) (by decide +kernel)), by decide +kernel, ⟨by decide +kernel, by decide +kernel⟩, by decide +kernel, by decide +kernel⟩
theorem ok_M_adds : mCodeOk 138 3 := ⟨List.mem_of_getElem? (i := 959) (by decide +kernel), (List.mem_of_getElem? (i := 73) (by decide +kernel)), by decide +kernel, ⟨by decide +kernel, by decide +kernel⟩, by decide +kernel, by decide +kernel⟩
theorem ok_M_takes : mCodeOk 139 0 := ⟨List.mem_of_getElem? (i := 967) (by decide +kernel), (List.mem_of_getElem? (i := 73) (by decide +kernel)), by decide +kernel, ⟨by decide +kernel, by decide +kernel⟩, by decide +kernel, by decide +kernel⟩
theorem ok_M_lays : mCodeOk 140 0 := ⟨List.mem_of_getElem? (i := 1001) (by decide +kernel), (List.mem_of_getElem? (i := 73) (by decide +kernel)), by decide +kernel, ⟨by decide +kernel, by decide +kernel⟩, by decide +kernel, by decide +kernel⟩
theorem ok_M_empties : mCodeOk 141 1 := ⟨List.mem_of_getElem? (i := 1028) (by decide +kernel), (List.mem_of_getElem? (i := 73) (by decide +kernel)), by decide +kernel, ⟨by decide +kernel, by decide +kernel⟩, by decide +kernel, by decide +kernel⟩
theorem ok_M_canKeep : mCodeOk 142 0 := ⟨List.mem_of_getElem? (i := 981) (by decide +kernel), (List.mem_of_getElem? (i := 73) (by decide +kernel)), by decide +kernel, ⟨by decide +kernel, by decide +kernel⟩, by decide +kernel, by decide +kernel⟩
theorem ok_M_keeps : mCodeOk 143 0 := ⟨List.mem_of_getElem? (i := 1032) (by decide +kernel), (List.mem_of_getElem? (i := 73) (by decide +kernel)), by decide +kernel, ⟨by decide +kernel, by decide +kernel⟩, by decide +kernel, by decide +kernel⟩
theorem ok_M_gives : mCodeOk 144 1 := ⟨List.mem_of_getElem? (i := 1044) (by decide +kernel), (List.mem_of_getElem? (i := 73) (by decide +kernel)), by decide +kernel, ⟨by decide +kernel, by decide +kernel⟩, by decide +kernel, by decide +kernel⟩
theorem ok_M_addLeg : mCodeOk 145 3 := ⟨List.mem_of_getElem? (i := 940) (by decide +kernel), (List.mem_of_getElem? (i := 73) (by decide +kernel)), by decide +kernel, ⟨by decide +kernel, by decide +kernel⟩, by decide +kernel, by decide +kernel⟩
theorem ok_M_takeBack : mCodeOk 146 0 := ⟨List.mem_of_getElem? (i := 963) (by decide +kernel), (List.mem_of_getElem? (i := 73) (by decide +kernel)), by decide +kernel, ⟨by decide +kernel, by decide +kernel⟩, by decide +kernel, by decide +kernel⟩
theorem ok_M_setOrigin : mCodeOk 147 2 := ⟨List.mem_of_getElem? (i := 971) (by decide +kernel), (List.mem_of_getElem? (i := 73) (by decide +kernel)), by decide +kernel, ⟨by decide +kernel, by decide +kernel⟩, by decide +kernel, by decide +kernel⟩
theorem ok_M_keep : mCodeOk 148 0 := ⟨List.mem_of_getElem? (i := 977) (by decide +kernel), (List.mem_of_getElem? (i := 73) (by decide +kernel)), by decide +kernel, ⟨by decide +kernel, by decide +kernel⟩, by decide +kernel, by decide +kernel⟩
theorem ok_M_giveUp : mCodeOk 149 1 := ⟨List.mem_of_getElem? (i := 1036) (by decide +kernel), (List.mem_of_getElem? (i := 73) (by decide +kernel)), by decide +kernel, ⟨by decide +kernel, by decide +kernel⟩, by decide +kernel, by decide +kernel⟩
theorem ok_M_type : mCodeOk 150 1 := ⟨List.mem_of_getElem? (i := 1048) (by decide +kernel), (List.mem_of_getElem? (i := 73) (by decide +kernel)), by decide +kernel, ⟨by decide +kernel, by decide +kernel⟩, by decide +kernel, by decide +kernel⟩
theorem ok_M_clearText : mCodeOk 151 0 := ⟨List.mem_of_getElem? (i := 1052) (by decide +kernel), (List.mem_of_getElem? (i := 73) (by decide +kernel)), by decide +kernel, ⟨by decide +kernel, by decide +kernel⟩, by decide +kernel, by decide +kernel⟩
theorem ok_M_charAt : mCodeOk 152 1 := ⟨List.mem_of_getElem? (i := 1068) (by decide +kernel), (List.mem_of_getElem? (i := 73) (by decide +kernel)), by decide +kernel, ⟨by decide +kernel, by decide +kernel⟩, by decide +kernel, by decide +kernel⟩
theorem ok_M_behindNumber : mCodeOk 153 3 := ⟨List.mem_of_getElem? (i := 1076) (by decide +kernel), (List.mem_of_getElem? (i := 73) (by decide +kernel)), by decide +kernel, ⟨by decide +kernel, by decide +kernel⟩, by decide +kernel, by decide +kernel⟩
theorem ok_M_numberIn : mCodeOk 154 2 := ⟨List.mem_of_getElem? (i := 1104) (by decide +kernel), (List.mem_of_getElem? (i := 73) (by decide +kernel)), by decide +kernel, ⟨by decide +kernel, by decide +kernel⟩, by decide +kernel, by decide +kernel⟩
theorem ok_M_behindLeg : mCodeOk 155 1 := ⟨List.mem_of_getElem? (i := 1072) (by decide +kernel), (List.mem_of_getElem? (i := 73) (by decide +kernel)), by decide +kernel, ⟨by decide +kernel, by decide +kernel⟩, by decide +kernel, by decide +kernel⟩
theorem ok_M_behindOrder : mCodeOk 156 1 := ⟨List.mem_of_getElem? (i := 1064) (by decide +kernel), (List.mem_of_getElem? (i := 73) (by decide +kernel)), by decide +kernel, ⟨by decide +kernel, by decide +kernel⟩, by decide +kernel, by decide +kernel⟩
theorem ok_M_wrong : mCodeOk 157 0 := ⟨List.mem_of_getElem? (i := 1060) (by decide +kernel), (List.mem_of_getElem? (i := 73) (by decide +kernel)), by decide +kernel, ⟨by decide +kernel, by decide +kernel⟩, by decide +kernel, by decide +kernel⟩
theorem ok_M_textError : mCodeOk 158 0 := ⟨List.mem_of_getElem? (i := 1056) (by decide +kernel), (List.mem_of_getElem? (i := 73) (by decide +kernel)), by decide +kernel, ⟨by decide +kernel, by decide +kernel⟩, by decide +kernel, by decide +kernel⟩
theorem ok_M_doesLeg : mCodeOk 159 1 := ⟨List.mem_of_getElem? (i := 1100) (by decide +kernel), (List.mem_of_getElem? (i := 73) (by decide +kernel)), by decide +kernel, ⟨by decide +kernel, by decide +kernel⟩, by decide +kernel, by decide +kernel⟩
theorem ok_M_does : mCodeOk 160 1 := ⟨List.mem_of_getElem? (i := 1096) (by decide +kernel), (List.mem_of_getElem? (i := 73) (by decide +kernel)), by decide +kernel, ⟨by decide +kernel, by decide +kernel⟩, by decide +kernel, by decide +kernel⟩
theorem ok_M_doesAll : mCodeOk 161 0 := ⟨List.mem_of_getElem? (i := 1092) (by decide +kernel), (List.mem_of_getElem? (i := 73) (by decide +kernel)), by decide +kernel, ⟨by decide +kernel, by decide +kernel⟩, by decide +kernel, by decide +kernel⟩
theorem ok_M_stops : mCodeOk 162 0 := ⟨List.mem_of_getElem? (i := 1084) (by decide +kernel), (List.mem_of_getElem? (i := 73) (by decide +kernel)), by decide +kernel, ⟨by decide +kernel, by decide +kernel⟩, by decide +kernel, by decide +kernel⟩
theorem ok_M_impossibleOrder : mCodeOk 163 0 := ⟨List.mem_of_getElem? (i := 1080) (by decide +kernel), (List.mem_of_getElem? (i := 73) (by decide +kernel)), by decide +kernel, ⟨by decide +kernel, by decide +kernel⟩, by decide +kernel, by decide +kernel⟩
theorem ok_M_carryOut : mCodeOk 164 0 := ⟨List.mem_of_getElem? (i := 1112) (by decide +kernel), (List.mem_of_getElem? (i := 73) (by decide +kernel)), by decide +kernel, ⟨by decide +kernel, by decide +kernel⟩, by decide +kernel, by decide +kernel⟩
theorem ok_M_undo : mCodeOk 165 0 := ⟨List.mem_of_getElem? (i := 1116) (by decide +kernel), (List.mem_of_getElem? (i := 73) (by decide +kernel)), by decide +kernel, ⟨by decide +kernel, by decide +kernel⟩, by decide +kernel, by decide +kernel⟩
theorem ok_M_takeSnapshot : mCodeOk 166 0 := ⟨List.mem_of_getElem? (i := 1120) (by decide +kernel), (List.mem_of_getElem? (i := 73) (by decide +kernel)), by decide +kernel, ⟨by decide +kernel, by decide +kernel⟩, by decide +kernel, by decide +kernel⟩
theorem ok_M_restoreSnapshot : mCodeOk 167 0 := ⟨List.mem_of_getElem? (i := 1124) (by decide +kernel), (List.mem_of_getElem? (i := 73) (by decide +kernel)), by decide +kernel, ⟨by decide +kernel, by decide +kernel⟩, by decide +kernel, by decide +kernel⟩
theorem ok_M_legs : mCodeOk 168 0 := ⟨List.mem_of_getElem? (i := 1128) (by decide +kernel), (List.mem_of_getElem? (i := 73) (by decide +kernel)), by decide +kernel, ⟨by decide +kernel, by decide +kernel⟩, by decide +kernel, by decide +kernel⟩
theorem ok_M_traverseLength : mCodeOk 169 0 := ⟨List.mem_of_getElem? (i := 1132) (by decide +kernel), (List.mem_of_getElem? (i := 73) (by decide +kernel)), by decide +kernel, ⟨by decide +kernel, by decide +kernel⟩, by decide +kernel, by decide +kernel⟩
theorem ok_M_errorEast : mCodeOk 170 0 := ⟨List.mem_of_getElem? (i := 1136) (by decide +kernel), (List.mem_of_getElem? (i := 73) (by decide +kernel)), by decide +kernel, ⟨by decide +kernel, by decide +kernel⟩, by decide +kernel, by decide +kernel⟩
theorem ok_M_errorNorth : mCodeOk 171 0 := ⟨List.mem_of_getElem? (i := 1140) (by decide +kernel), (List.mem_of_getElem? (i := 73) (by decide +kernel)), by decide +kernel, ⟨by decide +kernel, by decide +kernel⟩, by decide +kernel, by decide +kernel⟩
theorem ok_M_isClose : mCodeOk 172 0 := ⟨List.mem_of_getElem? (i := 1144) (by decide +kernel), (List.mem_of_getElem? (i := 73) (by decide +kernel)), by decide +kernel, ⟨by decide +kernel, by decide +kernel⟩, by decide +kernel, by decide +kernel⟩
theorem ok_M_adjustedEast : mCodeOk 173 1 := ⟨List.mem_of_getElem? (i := 1148) (by decide +kernel), (List.mem_of_getElem? (i := 73) (by decide +kernel)), by decide +kernel, ⟨by decide +kernel, by decide +kernel⟩, by decide +kernel, by decide +kernel⟩
theorem ok_M_adjustedNorth : mCodeOk 174 1 := ⟨List.mem_of_getElem? (i := 1152) (by decide +kernel), (List.mem_of_getElem? (i := 73) (by decide +kernel)), by decide +kernel, ⟨by decide +kernel, by decide +kernel⟩, by decide +kernel, by decide +kernel⟩
theorem ok_M_fields : mCodeOk 175 0 := ⟨List.mem_of_getElem? (i := 1156) (by decide +kernel), (List.mem_of_getElem? (i := 73) (by decide +kernel)), by decide +kernel, ⟨by decide +kernel, by decide +kernel⟩, by decide +kernel, by decide +kernel⟩
theorem ok_M_cornersOf : mCodeOk 176 1 := ⟨List.mem_of_getElem? (i := 1160) (by decide +kernel), (List.mem_of_getElem? (i := 73) (by decide +kernel)), by decide +kernel, ⟨by decide +kernel, by decide +kernel⟩, by decide +kernel, by decide +kernel⟩
theorem ok_M_cornerEast : mCodeOk 177 2 := ⟨List.mem_of_getElem? (i := 1164) (by decide +kernel), (List.mem_of_getElem? (i := 73) (by decide +kernel)), by decide +kernel, ⟨by decide +kernel, by decide +kernel⟩, by decide +kernel, by decide +kernel⟩
theorem ok_M_cornerNorth : mCodeOk 178 2 := ⟨List.mem_of_getElem? (i := 1172) (by decide +kernel), (List.mem_of_getElem? (i := 73) (by decide +kernel)), by decide +kernel, ⟨by decide +kernel, by decide +kernel⟩, by decide +kernel, by decide +kernel⟩
theorem ok_M_leftTurns : mCodeOk 179 1 := ⟨List.mem_of_getElem? (i := 1176) (by decide +kernel), (List.mem_of_getElem? (i := 73) (by decide +kernel)), by decide +kernel, ⟨by decide +kernel, by decide +kernel⟩, by decide +kernel, by decide +kernel⟩
theorem ok_M_turnsOneWay : mCodeOk 180 1 := ⟨List.mem_of_getElem? (i := 1188) (by decide +kernel), (List.mem_of_getElem? (i := 73) (by decide +kernel)), by decide +kernel, ⟨by decide +kernel, by decide +kernel⟩, by decide +kernel, by decide +kernel⟩
theorem ok_M_sidesEastOf : mCodeOk 181 3 := ⟨List.mem_of_getElem? (i := 1192) (by decide +kernel), (List.mem_of_getElem? (i := 73) (by decide +kernel)), by decide +kernel, ⟨by decide +kernel, by decide +kernel⟩, by decide +kernel, by decide +kernel⟩
theorem ok_M_sharedSides : mCodeOk 182 2 := ⟨List.mem_of_getElem? (i := 1202) (by decide +kernel), (List.mem_of_getElem? (i := 73) (by decide +kernel)), by decide +kernel, ⟨by decide +kernel, by decide +kernel⟩, by decide +kernel, by decide +kernel⟩
theorem ok_M_twiceAreaByCorners : mCodeOk 183 1 := ⟨List.mem_of_getElem? (i := 1214) (by decide +kernel), (List.mem_of_getElem? (i := 73) (by decide +kernel)), by decide +kernel, ⟨by decide +kernel, by decide +kernel⟩, by decide +kernel, by decide +kernel⟩
theorem ok_M_twiceAreaByStrips : mCodeOk 184 1 := ⟨List.mem_of_getElem? (i := 1218) (by decide +kernel), (List.mem_of_getElem? (i := 73) (by decide +kernel)), by decide +kernel, ⟨by decide +kernel, by decide +kernel⟩, by decide +kernel, by decide +kernel⟩
theorem ok_M_area : mCodeOk 185 1 := ⟨List.mem_of_getElem? (i := 1226) (by decide +kernel), (List.mem_of_getElem? (i := 73) (by decide +kernel)), by decide +kernel, ⟨by decide +kernel, by decide +kernel⟩, by decide +kernel, by decide +kernel⟩
theorem ok_M_acresOf : mCodeOk 186 1 := ⟨List.mem_of_getElem? (i := 1222) (by decide +kernel), (List.mem_of_getElem? (i := 73) (by decide +kernel)), by decide +kernel, ⟨by decide +kernel, by decide +kernel⟩, by decide +kernel, by decide +kernel⟩
theorem ok_M_roodsOf : mCodeOk 187 1 := ⟨List.mem_of_getElem? (i := 1232) (by decide +kernel), (List.mem_of_getElem? (i := 73) (by decide +kernel)), by decide +kernel, ⟨by decide +kernel, by decide +kernel⟩, by decide +kernel, by decide +kernel⟩
theorem ok_M_perchesOf : mCodeOk 188 1 := ⟨List.mem_of_getElem? (i := 1238) (by decide +kernel), (List.mem_of_getElem? (i := 73) (by decide +kernel)), by decide +kernel, ⟨by decide +kernel, by decide +kernel⟩, by decide +kernel, by decide +kernel⟩
theorem ok_M_largestField : mCodeOk 189 0 := ⟨List.mem_of_getElem? (i := 1243) (by decide +kernel), (List.mem_of_getElem? (i := 73) (by decide +kernel)), by decide +kernel, ⟨by decide +kernel, by decide +kernel⟩, by decide +kernel, by decide +kernel⟩
theorem ok_M_twiceAreaOfAll : mCodeOk 190 0 := ⟨List.mem_of_getElem? (i := 1247) (by decide +kernel), (List.mem_of_getElem? (i := 73) (by decide +kernel)), by decide +kernel, ⟨by decide +kernel, by decide +kernel⟩, by decide +kernel, by decide +kernel⟩
theorem ok_M_up : mCodeOk 191 2 := ⟨List.mem_of_getElem? (i := 1258) (by decide +kernel), (List.mem_of_getElem? (i := 73) (by decide +kernel)), by decide +kernel, ⟨by decide +kernel, by decide +kernel⟩, by decide +kernel, by decide +kernel⟩
theorem ok_M_sheetsFor : mCodeOk 192 2 := ⟨List.mem_of_getElem? (i := 1251) (by decide +kernel), (List.mem_of_getElem? (i := 73) (by decide +kernel)), by decide +kernel, ⟨by decide +kernel, by decide +kernel⟩, by decide +kernel, by decide +kernel⟩
theorem ok_M_scaleFor : mCodeOk 193 1 := ⟨List.mem_of_getElem? (i := 1262) (by decide +kernel), (List.mem_of_getElem? (i := 73) (by decide +kernel)), by decide +kernel, ⟨by decide +kernel, by decide +kernel⟩, by decide +kernel, by decide +kernel⟩
theorem ok_M_recordedStates : mCodeOk 194 0 := ⟨List.mem_of_getElem? (i := 1266) (by decide +kernel), (List.mem_of_getElem? (i := 73) (by decide +kernel)), by decide +kernel, ⟨by decide +kernel, by decide +kernel⟩, by decide +kernel, by decide +kernel⟩
theorem ok_J_floorDiv : mCodeOk 195 2 := ⟨List.mem_of_getElem? (i := 582) (by decide +kernel), (List.mem_of_getElem? (i := 80) (by decide +kernel)), by decide +kernel, ⟨by decide +kernel, by decide +kernel⟩, by decide +kernel, by decide +kernel⟩
theorem ok_J_absI : mCodeOk 196 1 := ⟨List.mem_of_getElem? (i := 360) (by decide +kernel), (List.mem_of_getElem? (i := 80) (by decide +kernel)), by decide +kernel, ⟨by decide +kernel, by decide +kernel⟩, by decide +kernel, by decide +kernel⟩
theorem ok_J_absL : mCodeOk 197 1 := ⟨List.mem_of_getElem? (i := 399) (by decide +kernel), (List.mem_of_getElem? (i := 80) (by decide +kernel)), by decide +kernel, ⟨by decide +kernel, by decide +kernel⟩, by decide +kernel, by decide +kernel⟩
theorem ok_J_max : mCodeOk 198 2 := ⟨List.mem_of_getElem? (i := 883) (by decide +kernel), (List.mem_of_getElem? (i := 80) (by decide +kernel)), by decide +kernel, ⟨by decide +kernel, by decide +kernel⟩, by decide +kernel, by decide +kernel⟩
theorem ok_J_min : mCodeOk 199 2 := ⟨List.mem_of_getElem? (i := 530) (by decide +kernel), (List.mem_of_getElem? (i := 80) (by decide +kernel)), by decide +kernel, ⟨by decide +kernel, by decide +kernel⟩, by decide +kernel, by decide +kernel⟩
theorem ok_L_addLeg : mCodeOk 200 5 := ⟨List.mem_of_getElem? (i := 416) (by decide +kernel), (List.mem_of_getElem? (i := 66) (by decide +kernel)), by decide +kernel, ⟨by decide +kernel, by decide +kernel⟩, by decide +kernel, by decide +kernel⟩
theorem ok_L_takeBack : mCodeOk 201 2 := ⟨List.mem_of_getElem? (i := 533) (by decide +kernel), (List.mem_of_getElem? (i := 66) (by decide +kernel)), by decide +kernel, ⟨by decide +kernel, by decide +kernel⟩, by decide +kernel, by decide +kernel⟩
theorem ok_L_setOrigin : mCodeOk 202 4 := ⟨List.mem_of_getElem? (i := 545) (by decide +kernel), (List.mem_of_getElem? (i := 66) (by decide +kernel)), by decide +kernel, ⟨by decide +kernel, by decide +kernel⟩, by decide +kernel, by decide +kernel⟩
theorem ok_L_keep : mCodeOk 203 2 := ⟨List.mem_of_getElem? (i := 558) (by decide +kernel), (List.mem_of_getElem? (i := 66) (by decide +kernel)), by decide +kernel, ⟨by decide +kernel, by decide +kernel⟩, by decide +kernel, by decide +kernel⟩
theorem ok_L_giveUp : mCodeOk 204 3 := ⟨List.mem_of_getElem? (i := 598) (by decide +kernel), (List.mem_of_getElem? (i := 66) (by decide +kernel)), by decide +kernel, ⟨by decide +kernel, by decide +kernel⟩, by decide +kernel, by decide +kernel⟩
theorem ok_L_type : mCodeOk 205 3 := ⟨List.mem_of_getElem? (i := 630) (by decide +kernel), (List.mem_of_getElem? (i := 66) (by decide +kernel)), by decide +kernel, ⟨by decide +kernel, by decide +kernel⟩, by decide +kernel, by decide +kernel⟩
theorem ok_L_impossibleOrder : mCodeOk 206 2 := ⟨List.mem_of_getElem? (i := 642) (by decide +kernel), (List.mem_of_getElem? (i := 66) (by decide +kernel)), by decide +kernel, ⟨by decide +kernel, by decide +kernel⟩, by decide +kernel, by decide +kernel⟩
theorem ok_L_carryOut : mCodeOk 207 2 := ⟨List.mem_of_getElem? (i := 662) (by decide +kernel), (List.mem_of_getElem? (i := 66) (by decide +kernel)), by decide +kernel, ⟨by decide +kernel, by decide +kernel⟩, by decide +kernel, by decide +kernel⟩
theorem ok_L_undo : mCodeOk 208 2 := ⟨List.mem_of_getElem? (i := 670) (by decide +kernel), (List.mem_of_getElem? (i := 66) (by decide +kernel)), by decide +kernel, ⟨by decide +kernel, by decide +kernel⟩, by decide +kernel, by decide +kernel⟩
theorem ok_L_restoreSnapshot : mCodeOk 209 2 := ⟨List.mem_of_getElem? (i := 682) (by decide +kernel), (List.mem_of_getElem? (i := 66) (by decide +kernel)), by decide +kernel, ⟨by decide +kernel, by decide +kernel⟩, by decide +kernel, by decide +kernel⟩
theorem ok_L_adjustedEast : mCodeOk 210 3 := ⟨List.mem_of_getElem? (i := 690) (by decide +kernel), (List.mem_of_getElem? (i := 66) (by decide +kernel)), by decide +kernel, ⟨by decide +kernel, by decide +kernel⟩, by decide +kernel, by decide +kernel⟩
theorem ok_L_adjustedNorth : mCodeOk 211 3 := ⟨List.mem_of_getElem? (i := 703) (by decide +kernel), (List.mem_of_getElem? (i := 66) (by decide +kernel)), by decide +kernel, ⟨by decide +kernel, by decide +kernel⟩, by decide +kernel, by decide +kernel⟩
theorem ok_L_cornersOf : mCodeOk 212 3 := ⟨List.mem_of_getElem? (i := 711) (by decide +kernel), (List.mem_of_getElem? (i := 66) (by decide +kernel)), by decide +kernel, ⟨by decide +kernel, by decide +kernel⟩, by decide +kernel, by decide +kernel⟩
theorem ok_L_cornerEast : mCodeOk 213 4 := ⟨List.mem_of_getElem? (i := 723) (by decide +kernel), (List.mem_of_getElem? (i := 66) (by decide +kernel)), by decide +kernel, ⟨by decide +kernel, by decide +kernel⟩, by decide +kernel, by decide +kernel⟩
theorem ok_L_cornerNorth : mCodeOk 214 4 := ⟨List.mem_of_getElem? (i := 740) (by decide +kernel), (List.mem_of_getElem? (i := 66) (by decide +kernel)), by decide +kernel, ⟨by decide +kernel, by decide +kernel⟩, by decide +kernel, by decide +kernel⟩
theorem ok_L_leftTurns : mCodeOk 215 3 := ⟨List.mem_of_getElem? (i := 748) (by decide +kernel), (List.mem_of_getElem? (i := 66) (by decide +kernel)), by decide +kernel, ⟨by decide +kernel, by decide +kernel⟩, by decide +kernel, by decide +kernel⟩
theorem ok_L_turnsOneWay : mCodeOk 216 3 := ⟨List.mem_of_getElem? (i := 775) (by decide +kernel), (List.mem_of_getElem? (i := 66) (by decide +kernel)), by decide +kernel, ⟨by decide +kernel, by decide +kernel⟩, by decide +kernel, by decide +kernel⟩
theorem ok_L_sidesEastOf : mCodeOk 217 5 := ⟨List.mem_of_getElem? (i := 786) (by decide +kernel), (List.mem_of_getElem? (i := 66) (by decide +kernel)), by decide +kernel, ⟨by decide +kernel, by decide +kernel⟩, by decide +kernel, by decide +kernel⟩
theorem ok_L_sharedSides : mCodeOk 218 4 := ⟨List.mem_of_getElem? (i := 803) (by decide +kernel), (List.mem_of_getElem? (i := 66) (by decide +kernel)), by decide +kernel, ⟨by decide +kernel, by decide +kernel⟩, by decide +kernel, by decide +kernel⟩
theorem ok_L_twiceAreaByCorners : mCodeOk 219 3 := ⟨List.mem_of_getElem? (i := 822) (by decide +kernel), (List.mem_of_getElem? (i := 66) (by decide +kernel)), by decide +kernel, ⟨by decide +kernel, by decide +kernel⟩, by decide +kernel, by decide +kernel⟩
theorem ok_L_twiceAreaByStrips : mCodeOk 220 3 := ⟨List.mem_of_getElem? (i := 830) (by decide +kernel), (List.mem_of_getElem? (i := 66) (by decide +kernel)), by decide +kernel, ⟨by decide +kernel, by decide +kernel⟩, by decide +kernel, by decide +kernel⟩
theorem ok_L_acresOf : mCodeOk 221 3 := ⟨List.mem_of_getElem? (i := 841) (by decide +kernel), (List.mem_of_getElem? (i := 66) (by decide +kernel)), by decide +kernel, ⟨by decide +kernel, by decide +kernel⟩, by decide +kernel, by decide +kernel⟩
theorem ok_L_roodsOf : mCodeOk 222 3 := ⟨List.mem_of_getElem? (i := 850) (by decide +kernel), (List.mem_of_getElem? (i := 66) (by decide +kernel)), by decide +kernel, ⟨by decide +kernel, by decide +kernel⟩, by decide +kernel, by decide +kernel⟩
theorem ok_L_perchesOf : mCodeOk 223 3 := ⟨List.mem_of_getElem? (i := 858) (by decide +kernel), (List.mem_of_getElem? (i := 66) (by decide +kernel)), by decide +kernel, ⟨by decide +kernel, by decide +kernel⟩, by decide +kernel, by decide +kernel⟩
theorem ok_L_sheetsFor : mCodeOk 224 4 := ⟨List.mem_of_getElem? (i := 866) (by decide +kernel), (List.mem_of_getElem? (i := 66) (by decide +kernel)), by decide +kernel, ⟨by decide +kernel, by decide +kernel⟩, by decide +kernel, by decide +kernel⟩
theorem ok_L_scaleFor : mCodeOk 225 3 := ⟨List.mem_of_getElem? (i := 893) (by decide +kernel), (List.mem_of_getElem? (i := 66) (by decide +kernel)), by decide +kernel, ⟨by decide +kernel, by decide +kernel⟩, by decide +kernel, by decide +kernel⟩
theorem inw_0 : ∀ w ∈ u_ws RX0 TX0 3, w ∈ lw_tbl := by decide +kernel
theorem inw_1 : ∀ w ∈ u_ws RX1 TX1 3, w ∈ lw_tbl := by decide +kernel
theorem inw_2 : ∀ w ∈ u_ws RX2 TX2 11, w ∈ lw_tbl := by decide +kernel
theorem inw_3 : ∀ w ∈ u_ws RX3 TX3 3, w ∈ lw_tbl := by decide +kernel
theorem inw_4 : ∀ w ∈ u_ws RX4 TX4 6, w ∈ lw_tbl := by decide +kernel
theorem inw_5 : ∀ w ∈ u_ws RX5 TX5 6, w ∈ lw_tbl := by decide +kernel
theorem inw_6 : ∀ w ∈ u_ws RX6 TX6 9, w ∈ lw_tbl := by decide +kernel
theorem cl_S_68 : Cond.constantLong "AcreOffice$State" 68 (-1 : Int64) ∈ lw_tbl := List.mem_of_getElem? (i := 375) (by decide +kernel)
theorem cl_F_77 : Cond.constantLong "AcreOffice$Field" 77 (2 : Int64) ∈ lw_tbl := List.mem_of_getElem? (i := 400) (by decide +kernel)
theorem ci_A_84 : Cond.constant "AcreOffice" 84 (50000 : Int32) ∈ lw_tbl := List.mem_of_getElem? (i := 550) (by decide +kernel)
theorem ci_A_198 : Cond.constant "AcreOffice" 198 (200000 : Int32) ∈ lw_tbl := List.mem_of_getElem? (i := 791) (by decide +kernel)
theorem cl_A_219 : Cond.constantLong "AcreOffice" 219 (100000 : Int64) ∈ lw_tbl := List.mem_of_getElem? (i := 847) (by decide +kernel)
theorem cl_A_221 : Cond.constantLong "AcreOffice" 221 (25000 : Int64) ∈ lw_tbl := List.mem_of_getElem? (i := 855) (by decide +kernel)
theorem cl_A_223 : Cond.constantLong "AcreOffice" 223 (625 : Int64) ∈ lw_tbl := List.mem_of_getElem? (i := 863) (by decide +kernel)
theorem ci_M_111 : Cond.constant "AcreOfficeModel" 111 (-50000 : Int32) ∈ lw_tbl := List.mem_of_getElem? (i := 972) (by decide +kernel)
theorem ci_M_112 : Cond.constant "AcreOfficeModel" 112 (50000 : Int32) ∈ lw_tbl := List.mem_of_getElem? (i := 973) (by decide +kernel)
theorem cl_M_48 : Cond.constantLong "AcreOfficeModel" 48 (200 : Int64) ∈ lw_tbl := List.mem_of_getElem? (i := 986) (by decide +kernel)
theorem ci_M_173 : Cond.constant "AcreOfficeModel" 173 (-200000 : Int32) ∈ lw_tbl := List.mem_of_getElem? (i := 1193) (by decide +kernel)
theorem ci_M_174 : Cond.constant "AcreOfficeModel" 174 (200000 : Int32) ∈ lw_tbl := List.mem_of_getElem? (i := 1194) (by decide +kernel)
theorem cl_M_181 : Cond.constantLong "AcreOfficeModel" 181 (2 : Int64) ∈ lw_tbl := List.mem_of_getElem? (i := 1227) (by decide +kernel)
theorem cl_M_186 : Cond.constantLong "AcreOfficeModel" 186 (100000 : Int64) ∈ lw_tbl := List.mem_of_getElem? (i := 1228) (by decide +kernel)
theorem cl_M_188 : Cond.constantLong "AcreOfficeModel" 188 (25000 : Int64) ∈ lw_tbl := List.mem_of_getElem? (i := 1233) (by decide +kernel)
theorem cl_M_190 : Cond.constantLong "AcreOfficeModel" 190 (4 : Int64) ∈ lw_tbl := List.mem_of_getElem? (i := 1234) (by decide +kernel)
theorem cl_M_192 : Cond.constantLong "AcreOfficeModel" 192 (625 : Int64) ∈ lw_tbl := List.mem_of_getElem? (i := 1239) (by decide +kernel)
end
section
/-! THE WORLD: what the objects of the two classes hold, as one memory of ints; refs by kind and numbers -/
abbrev mRef : Type := Nat × Nat × Nat
abbrev mAV : Type := Int32 ⊕ (Int64 ⊕ mRef)
abbrev mM : Type := mRef → Nat → Int32
abbrev mOut : Type := Option mAV ⊕ String
abbrev vI (x : Int32) : mAV := Sum.inl x
abbrev vL (x : Int64) : mAV := Sum.inr (Sum.inl x)
abbrev vR (k i j : Nat) : mAV := Sum.inr (Sum.inr (k, i, j))
def mUp (M : mM) (r : mRef) (k : Nat) (v : Int32) : mM := fun r' k' => if r' = r ∧ k' = k then v else M r' k'
/-- n places of the row a laid into the row b -/
def mCpy (M : mM) (a b : mRef) (n : Nat) : mM := fun r k => if r = b ∧ k < n then M a k else M r k
def cv (ρ : mRef → Nat) (a : mAV) : Value := match a with
  | .inl x => .int x
  | .inr (.inl x) => .long x
  | .inr (.inr r) => .ref (ρ r)
/-- the two halves of a long, and the long out of them -/
def mLo (x : Int64) : Int32 := ⟨⟨x.toBitVec.setWidth 32⟩⟩
def mHi (x : Int64) : Int32 := ⟨⟨x.toBitVec.extractLsb' 32 32⟩⟩
def mJ (lo hi : Int32) : Int64 := ⟨⟨hi.toBitVec ++ lo.toBitVec⟩⟩
theorem mJ_lh (x : Int64) : mJ (mLo x) (mHi x) = x := by
  have h : (x.toBitVec.extractLsb' 32 32 ++ x.toBitVec.setWidth 32 : BitVec 64) = x.toBitVec := by
    apply BitVec.eq_of_getLsbD_eq
    intro i hi
    rw [BitVec.getLsbD_append, BitVec.getLsbD_setWidth, BitVec.getLsbD_extractLsb']
    by_cases h : i < 32
    · simp [h]
    · have e : 32 + (i - 32) = i := by omega
      have e2 : i - 32 < 32 := by omega
      simp [h, e, e2]
  have h2 : (mJ (mLo x) (mHi x)).toBitVec = x.toBitVec := h
  exact Int64.toBitVec_inj.mp h2
/-- what a ref field of an object holds: always the same -/
def mRf (r : mRef) (k : Nat) : Option mRef := match r with
  | (0, s, j) => (match k with | 0 => some (8, s, j) | 1 => some (9, s, j) | _ => none)
  | (1, _, _) => (match k with | 0 => some (11, 0, 0) | _ => none)
  | (2, _, _) => (match k with | 0 => some (12, 0, 0) | 2 => some (12, 0, 1) | 3 => some (12, 0, 2) | 4 => some (12, 0, 3) | 5 => some (12, 0, 4) | 6 => some (12, 0, 5) | _ => none)
  | (3, s, _) => (match k with | 0 => some (4, s, 0) | 1 => some (10, s, 0) | _ => none)
  | (4, s, _) => (match k with | 0 => some (7, s, 0) | 1 => some (7, s, 1) | 2 => some (7, s, 2) | _ => none)
  | (5, _, _) => (match k with | 0 => some (3, 0, 0) | 1 => some (3, 1, 0) | 2 => some (3, 2, 0) | 3 => some (1, 0, 0) | 4 => some (2, 0, 0) | _ => none)
  | (6, _, _) => (match k with | 1 => some (13, 0, 0) | 2 => some (13, 0, 1) | 3 => some (13, 0, 2) | 5 => some (13, 0, 3) | 7 => some (13, 0, 4) | _ => none)
  | _ => none
def mN (c : Nat) : Nat := match c with | 0 => 3 | 1 => 3 | 2 => 11 | 3 => 3 | 4 => 6 | 5 => 6 | 6 => 9 | _ => 0
/-- how long a row is -/
def mLen (r : mRef) : Nat := match r with
  | (7, _, _) => 13
  | (8, _, _) => 12
  | (9, _, _) => 12
  | (10, _, _) => 6
  | (11, _, _) => 4
  | (12, _, _) => 80
  | (13, _, 3) => 760
  | (13, _, 4) => 80
  | (13, _, _) => 190
  | (14, _, _) => 1
  | _ => 0
/-- of what a row is -/
def mTy (r : mRef) : FieldType := match r with
  | (10, _, _) => .object "AcreOffice$Field"
  | (11, _, _) => .object "AcreOffice$State"
  | (12, _, 0) => .char
  | (14, _, _) => .long
  | _ => .int
def mFv (ρ : mRef → Nat) (M : mM) (r : mRef) (k : Nat) : Value := match mRf r k with
  | some r' => .ref (ρ r')
  | none => .int (M r k)
def mCell (ρ : mRef → Nat) (cA : mRef → ClassId) (M : mM) (r : mRef) : va_E :=
  if r.1 < 7 then .inr (r.1, (List.range (mN r.1)).map (mFv ρ M r))
  else if r.1 = 10 then .inl (cA r, 6, .inr (.inr (.inr (.inr (fun a => some (ρ (0, r.2.1, a)))))))
  else if r.1 = 11 then .inl (cA r, 4, .inr (.inr (.inr (.inr (fun a => some (ρ (3, 3 + a, 0)))))))
  else if r.1 = 14 then .inl (cA r, 1, .inr (.inl (fun a => mJ (M r (2 * a)) (M r (2 * a + 1)))))
  else .inl (cA r, mLen r, .inl (M r))
def mAll : List mRef :=
  [(5, 0, 0), (1, 0, 0), (2, 0, 0), (6, 0, 0), (11, 0, 0), (14, 0, 0)] ++ ((List.range 6).map (fun j => (12, 0, j)) ++ ((List.range 5).map (fun j => (13, 0, j)) ++
  ((List.range 7).flatMap (fun s => [(3, s, 0), (4, s, 0), (7, s, 0), (7, s, 1), (7, s, 2), (10, s, 0)]) ++ (List.range 7).flatMap (fun s => (List.range 6).flatMap (fun j => [(0, s, j), (8, s, j), (9, s, j)])))))
def mOk (r : mRef) : Prop := match r with
  | (0, s, j) => s < 7 ∧ j < 6
  | (1, s, j) => s = 0 ∧ j = 0
  | (2, s, j) => s = 0 ∧ j = 0
  | (3, s, j) => s < 7 ∧ j = 0
  | (4, s, j) => s < 7 ∧ j = 0
  | (5, s, j) => s = 0 ∧ j = 0
  | (6, s, j) => s = 0 ∧ j = 0
  | (7, s, j) => s < 7 ∧ j < 3
  | (8, s, j) => s < 7 ∧ j < 6
  | (9, s, j) => s < 7 ∧ j < 6
  | (10, s, j) => s < 7 ∧ j = 0
  | (11, s, j) => s = 0 ∧ j = 0
  | (12, s, j) => s = 0 ∧ j < 6
  | (13, s, j) => s = 0 ∧ j < 5
  | (14, s, j) => s = 0 ∧ j = 0
  | _ => False
theorem mIn_0 : ∀ s < 7, ∀ j < 6, (0, s, j) ∈ mAll := by decide +kernel
theorem mIn_3 : ∀ s < 7, (3, s, 0) ∈ mAll := by decide +kernel
theorem mIn_4 : ∀ s < 7, (4, s, 0) ∈ mAll := by decide +kernel
theorem mIn_7 : ∀ s < 7, ∀ j < 3, (7, s, j) ∈ mAll := by decide +kernel
theorem mIn_8 : ∀ s < 7, ∀ j < 6, (8, s, j) ∈ mAll := by decide +kernel
theorem mIn_9 : ∀ s < 7, ∀ j < 6, (9, s, j) ∈ mAll := by decide +kernel
theorem mIn_10 : ∀ s < 7, (10, s, 0) ∈ mAll := by decide +kernel
theorem mIn_12 : ∀ j < 6, (12, 0, j) ∈ mAll := by decide +kernel
theorem mIn_13 : ∀ j < 5, (13, 0, j) ∈ mAll := by decide +kernel
theorem mIn_1 : (1, 0, 0) ∈ mAll ∧ (2, 0, 0) ∈ mAll ∧ (5, 0, 0) ∈ mAll ∧ (6, 0, 0) ∈ mAll ∧ (11, 0, 0) ∈ mAll ∧ (14, 0, 0) ∈ mAll := by decide +kernel
theorem mOk_mem {r : mRef} (h : mOk r) : r ∈ mAll := by
  obtain ⟨k, s, j⟩ := r
  obtain ⟨g1, g2, g5, g6, g11, g14⟩ := mIn_1
  unfold mOk at h
  split at h
  · rename_i e; cases e; exact mIn_0 _ h.1 _ h.2
  · rename_i e; cases e; obtain ⟨rfl, rfl⟩ := h; exact g1
  · rename_i e; cases e; obtain ⟨rfl, rfl⟩ := h; exact g2
  · rename_i e; cases e; obtain ⟨h, rfl⟩ := h; exact mIn_3 _ h
  · rename_i e; cases e; obtain ⟨h, rfl⟩ := h; exact mIn_4 _ h
  · rename_i e; cases e; obtain ⟨rfl, rfl⟩ := h; exact g5
  · rename_i e; cases e; obtain ⟨rfl, rfl⟩ := h; exact g6
  · rename_i e; cases e; exact mIn_7 _ h.1 _ h.2
  · rename_i e; cases e; exact mIn_8 _ h.1 _ h.2
  · rename_i e; cases e; exact mIn_9 _ h.1 _ h.2
  · rename_i e; cases e; obtain ⟨h, rfl⟩ := h; exact mIn_10 _ h
  · rename_i e; cases e; obtain ⟨rfl, rfl⟩ := h; exact g11
  · rename_i e; cases e; obtain ⟨rfl, h⟩ := h; exact mIn_12 _ h
  · rename_i e; cases e; obtain ⟨rfl, h⟩ := h; exact mIn_13 _ h
  · rename_i e; cases e; obtain ⟨rfl, rfl⟩ := h; exact g14
  · exact h.elim
theorem mAll_nodup : mAll.Nodup := by decide +kernel
theorem mAll_15 : ∀ r ∈ mAll, r ≠ (15, 0, 0) := by decide +kernel
def mWs (ρ : mRef → Nat) (cA : mRef → ClassId) (M : mM) : va_W := mAll.map (fun r => (ρ r, mCell ρ cA M r))
theorem mWs_at {ρ : mRef → Nat} {cA : mRef → ClassId} (M : mM) {r : mRef} (h : r ∈ mAll) : ∃ q0 : Nat, mAll[q0]? = some r ∧ (mWs ρ cA M)[q0]? = some (ρ r, mCell ρ cA M r) := by
  obtain ⟨q0, hq⟩ := List.getElem?_of_mem h
  exact ⟨q0, hq, by unfold mWs; rw [List.getElem?_map, hq]; rfl⟩
theorem mCell_congr {ρ : mRef → Nat} {cA : mRef → ClassId} {M M' : mM} {r : mRef} (h : M' r = M r) : mCell ρ cA M' r = mCell ρ cA M r := by
  have hf : mFv ρ M' r = mFv ρ M r := by funext k; unfold mFv; rw [h]
  unfold mCell
  rw [h, hf]
theorem mSet_gen {α β : Type} {L : List α} (nd : L.Nodup) {f g : α → β} {q0 : Nat} {r : α} (hq : L[q0]? = some r) (h : ∀ r', r' ≠ r → f r' = g r') : (L.map f).set q0 (g r) = L.map g := by
  refine List.ext_getElem? fun i => ?_
  have hl : q0 < L.length := (List.getElem?_eq_some_iff.mp hq).1
  by_cases hi : q0 = i
  · subst hi
    rw [List.getElem?_set_self (by rw [List.length_map]; exact hl), List.getElem?_map, hq]
    rfl
  · rw [List.getElem?_set_ne hi, List.getElem?_map, List.getElem?_map]
    cases hx : L[i]? with
    | none => rfl
    | some r' =>
      have hne : r' ≠ r := by
        intro e
        subst e
        obtain ⟨l1, e1⟩ := List.getElem?_eq_some_iff.mp hq
        obtain ⟨l2, e2⟩ := List.getElem?_eq_some_iff.mp hx
        have hp := List.pairwise_iff_getElem.mp nd
        rcases Nat.lt_or_gt_of_ne hi with g | g
        · exact hp _ _ l1 l2 g (e1.trans e2.symm)
        · exact hp _ _ l2 l1 g (e2.trans e1.symm)
      show some (f r') = some (g r')
      rw [h r' hne]
theorem mWs_set {ρ : mRef → Nat} {cA : mRef → ClassId} {M M' : mM} {r : mRef} {q0 : Nat} (hq : mAll[q0]? = some r) (hM : ∀ r', r' ≠ r → M' r' = M r') : (mWs ρ cA M).set q0 (ρ r, mCell ρ cA M' r) = mWs ρ cA M' :=
  mSet_gen (f := fun r => (ρ r, mCell ρ cA M r)) (g := fun r => (ρ r, mCell ρ cA M' r)) mAll_nodup hq (fun r' hr => by rw [mCell_congr (hM r' hr)])
theorem mUp_ne {M : mM} {r r' : mRef} {k : Nat} {v : Int32} (h : r' ≠ r) : mUp M r k v r' = M r' := by
  funext k'
  unfold mUp
  rw [if_neg (fun q => h q.1)]
theorem mCpy_ne {M : mM} {a b r' : mRef} {n : Nat} (h : r' ≠ b) : mCpy M a b n r' = M r' := by
  funext k'
  unfold mCpy
  rw [if_neg (fun q => h q.1)]
/-- the strings that the class throws with: their places in its pool -/
def mStr : List (Nat × String) := [(46, "a part of the leg is out of range"), (51, "the measured length is out of range"), (68, "the traverse has no room for a leg"), (82, "the traverse has no legs"), (85, "a part of the origin is out of range"), (94, "the traverse cannot be kept"), (105, "no such field"), (111, "the order text is full"), (123, "the order text is not valid"), (129, "an order cannot be carried out"), (138, "no state is recorded"), (147, "there is no snapshot"), (164, "no such corner of the traverse"), (258, "no such corner of the field"), (199, "a part of the point is out of range"), (231, "the links to an inch are out of range")]
def mA0 (bs : Nat) : Nat → Prop := fun q => bs ≤ q
def mRep (D : va_G) (ρ : mRef → Nat) (cA : mRef → ClassId) (bs : Nat) (xs : Nat → Int32) (M : mM) (H : Heap) : Prop :=
  va_P D mCl (mWs ρ cA M) H ∧ va_D (mA0 bs) (mWs ρ cA M) ∧ M (15, 0, 0) = xs
/-- what the tables say, of any state of this run -/
def mVF (D : va_G) (cA : mRef → ClassId) (sa : Nat → Nat) (U : State) : Prop :=
  (∀ w ∈ lw_tbl, mWarm w = true → w.before #[] U = true) ∧ (∀ (c : Nat) (q : vw_C), mCl[c]? = some q → u_Kn U q.1 q.2.1 q.2.2 (D.1 c) (D.2 c)) ∧
  (∀ r ∈ mAll, 7 ≤ r.1 → ArrOfT U (cA r) (mTy r) ∧ va_RA U (cA r) (mTy r)) ∧ (∀ (i : Nat) (q : Nat × String), mStr[i]? = some q → vk_R "AcreOffice" q.1 q.2 (sa i) U)
/-- what the heap holds beside the world -/
def mHF (ρ : mRef → Nat) (bs LS : Nat) (xs : Nat → Int32) (U : State) (H : Heap) : Prop :=
  vx_Zq Bundle.tN "UNASSIGNED_STACK" Bundle.steD (mA0 bs) U H ∧ vx_Zq Bundle.tN "SUPPRESSED_SENTINEL" Bundle.listD (mA0 bs) U H ∧ bs ≤ H.size ∧ va_X (ρ (15, 0, 0)) LS xs U H ∧ ρ (15, 0, 0) < bs
theorem mw_keep {w : Cond} {a a' : Array Value} {s U : State} (hW : s.WarmedH U.vm) (hw : mWarm w = true) (h : w.before a s = true) : w.before a' U = true := by
  unfold mWarm at hw
  rcases Bool.or_eq_true_iff.mp hw with g | g
  · exact word_at hW (good_of_word g) h
  · cases w <;> first
      | exact (Bool.false_ne_true g).elim
      | exact va_Nw.use rfl (va_Nw.warmF hW (va_Nw.of rfl h))
      | exact va_Nw.use rfl (va_Nw.warmM hW (va_Nw.of rfl h))
      | exact va_Nw.use rfl (va_Nw.warmD hW (va_Nw.of rfl h))
      | exact va_Nw.use rfl (va_Nw.warmC hW (va_Nw.of rfl h))
theorem mVF.warm {D : va_G} {cA : mRef → ClassId} {sa : Nat → Nat} {s U : State} (hW : s.WarmedH U.vm) (h : mVF D cA sa s) : mVF D cA sa U := by
  obtain ⟨h1, h2, h3, h4⟩ := h
  exact ⟨fun w hw hm => mw_keep hW hm (h1 w hw hm), fun c q hq => u_Kn_moved hW.alike (h2 c q hq), fun r hr hk => ⟨arrOfT_moved hW.alike (h3 r hr hk).1, (h3 r hr hk).2.moved hW.alike⟩, fun i q hq => vk_R.warm hW (h4 i q hq)⟩
theorem mX_moved {b L : Nat} {xs : Nat → Int32} {u U : State} {H H1 : Heap} (hvm : u.vm.Alike U.vm) (hq : H1[b]? = H[b]?) (h : va_X b L xs u H) : va_X b L xs U H1 := by
  obtain ⟨scr, h1, h2, h3, h4, h5⟩ := h
  exact ⟨scr, hq.trans h1, State.isArrayOf_alike hvm h2, h3, h4, h5⟩
theorem mHF.go {ρ : mRef → Nat} {bs LS : Nat} {xs : Nat → Int32} {u U : State} {H H1 : Heap} {locs : List Loc} (hvm : u.vm.Alike U.vm) (hS : va_S (mA0 bs) H H1 locs) (h : mHF ρ bs LS xs u H) : mHF ρ bs LS xs U H1 := by
  obtain ⟨h1, h2, h3, h4, h5⟩ := h
  exact ⟨vx_Zq.moved hvm (h1.kept hS.2.1), vx_Zq.moved hvm (h2.kept hS.2.1), Nat.le_trans h3 hS.1, mX_moved hvm (hS.2.1 _ (Nat.lt_of_lt_of_le h5 h3) (Nat.not_le.mpr h5)) h4, h5⟩
/-- the locals -/
def lR (ρ : mRef → Nat) (n : Nat) (loc : List (Option mAV)) (ls : Array Slot) : Prop := ls.size = n ∧ lv_wf ls ∧ loc.length = n ∧ ∀ (i : Nat) (a : mAV), loc[i]? = some (some a) → ls[i]? = some (.val (cv ρ a))
def mkL (ρ : mRef → Nat) (loc : List (Option mAV)) : List (Nat × Value) := loc.zipIdx.filterMap (fun q => q.1.map (fun a => (q.2, cv ρ a)))
theorem mkL_mem {ρ : mRef → Nat} {loc : List (Option mAV)} {q : Nat × Value} : q ∈ mkL ρ loc ↔ ∃ a, loc[q.1]? = some (some a) ∧ q.2 = cv ρ a := by
  unfold mkL
  rw [List.mem_filterMap]
  constructor
  · rintro ⟨⟨o, i⟩, h1, h2⟩
    cases o with
    | none => simp at h2
    | some a =>
      simp at h2
      subst h2
      exact ⟨a, List.mem_zipIdx_iff_getElem?.mp h1, rfl⟩
  · rintro ⟨a, h1, h2⟩
    refine ⟨(some a, q.1), List.mem_zipIdx_iff_getElem?.mpr h1, ?_⟩
    simp only [Option.map_some, Option.some.injEq]
    rw [← h2]
theorem lR.has {ρ : mRef → Nat} {n : Nat} {loc : List (Option mAV)} {ls : Array Slot} (h : lR ρ n loc ls) : lv_has ls n (mkL ρ loc) :=
  ⟨h.1, h.2.1, fun q hq => by obtain ⟨a, h1, h2⟩ := mkL_mem.mp hq; rw [h2]; exact h.2.2.2 _ a h1⟩
def mLong (o : Option (Option mAV)) : Bool := match o with | some (some (.inr (.inl _))) => true | _ => false
/-- a store of one place, of two -/
def mKill (loc : List (Option mAV)) (i : Nat) : List (Option mAV) := match i with | 0 => loc | j + 1 => if mLong loc[j]? = true then loc.set j none else loc
def mSt1 (loc : List (Option mAV)) (i : Nat) (a : mAV) : List (Option mAV) := (mKill loc i).set i (some a)
def mSt2 (loc : List (Option mAV)) (i : Nat) (a : mAV) : List (Option mAV) := ((mKill loc i).set i (some a)).set (i + 1) none
theorem mKill_len (loc : List (Option mAV)) (i : Nat) : (mKill loc i).length = loc.length := by
  unfold mKill
  split
  · rfl
  · split <;> simp
theorem mKill_get {loc : List (Option mAV)} {i j : Nat} {a : mAV} (h : (mKill loc i)[j]? = some (some a)) (hj : j ≠ i) : loc[j]? = some (some a) ∧ ¬ (j + 1 = i ∧ (∃ x, a = Sum.inr (Sum.inl x))) := by
  unfold mKill at h
  cases i with
  | zero => exact ⟨h, fun q => by omega⟩
  | succ i =>
    simp only at h
    by_cases hk : mLong loc[i]? = true
    · rw [if_pos hk] at h
      by_cases e : j = i
      · subst e
        rw [List.getElem?_set] at h
        simp at h
      · rw [List.getElem?_set_ne (fun q => e q.symm)] at h
        exact ⟨h, fun q => e (by omega)⟩
    · rw [if_neg hk] at h
      refine ⟨h, fun q => ?_⟩
      obtain ⟨q1, x, rfl⟩ := q
      have e : j = i := by omega
      subst e
      rw [h] at hk
      exact hk rfl
theorem cv_cat2 {ρ : mRef → Nat} {a : mAV} : (cv ρ a).category = 2 ↔ ∃ x, a = Sum.inr (Sum.inl x) := by
  match a with
  | .inl x => simp [cv, Value.category]
  | .inr (.inl x) => simp [cv, Value.category]
  | .inr (.inr r) => simp [cv, Value.category]
theorem lR.st1 {ρ : mRef → Nat} {n i : Nat} {loc : List (Option mAV)} {ls ls' : Array Slot} {a : mAV} (h : lR ρ n loc ls) (h' : lv_has ls' n ((i, cv ρ a) :: (mkL ρ loc).filter (fun q => !(q.1 == i) && !(q.1 + 1 == i && q.2.category == 2)))) : lR ρ n (mSt1 loc i a) ls' := by
  refine ⟨h'.1, h'.2.1, by unfold mSt1; rw [List.length_set, mKill_len]; exact h.2.2.1, fun j b hb => ?_⟩
  unfold mSt1 at hb
  by_cases e : j = i
  · subst e
    rw [List.getElem?_set] at hb
    have hb2 : b = a := by
      by_cases hl : j < (mKill loc j).length
      · simp [hl] at hb; exact hb.symm
      · simp [hl] at hb
    subst hb2
    exact h'.2.2 (j, cv ρ b) List.mem_cons_self
  · rw [List.getElem?_set_ne (fun q => e q.symm)] at hb
    obtain ⟨h1, h2⟩ := mKill_get hb e
    refine h'.2.2 (j, cv ρ b) (List.mem_cons_of_mem _ (List.mem_filter.mpr ⟨mkL_mem.mpr ⟨b, h1, rfl⟩, ?_⟩))
    by_cases h3 : j + 1 = i
    · have h4 : ¬ (cv ρ b).category = 2 := fun q => h2 ⟨h3, cv_cat2.mp q⟩
      simp [e, h4]
    · simp [e, h3]
theorem lR.st2 {ρ : mRef → Nat} {n i : Nat} {loc : List (Option mAV)} {ls ls' : Array Slot} {a : mAV} (h : lR ρ n loc ls) (h' : lv_has ls' n ((i, cv ρ a) :: (mkL ρ loc).filter (fun q => !(q.1 == i) && (!(q.1 == i + 1) && !(q.1 + 1 == i && q.2.category == 2))))) : lR ρ n (mSt2 loc i a) ls' := by
  refine ⟨h'.1, h'.2.1, by unfold mSt2; rw [List.length_set, List.length_set, mKill_len]; exact h.2.2.1, fun j b hb => ?_⟩
  unfold mSt2 at hb
  by_cases e2 : j = i + 1
  · subst e2
    rw [List.getElem?_set] at hb
    simp at hb
  rw [List.getElem?_set_ne (fun q => e2 q.symm)] at hb
  by_cases e : j = i
  · subst e
    rw [List.getElem?_set] at hb
    have hb2 : b = a := by
      by_cases hl : j < (mKill loc j).length
      · simp [hl] at hb; exact hb.symm
      · simp [hl] at hb
    subst hb2
    exact h'.2.2 (j, cv ρ b) List.mem_cons_self
  · rw [List.getElem?_set_ne (fun q => e q.symm)] at hb
    obtain ⟨h1, h2⟩ := mKill_get hb e
    refine h'.2.2 (j, cv ρ b) (List.mem_cons_of_mem _ (List.mem_filter.mpr ⟨mkL_mem.mpr ⟨b, h1, rfl⟩, ?_⟩))
    by_cases h3 : j + 1 = i
    · have h4 : ¬ (cv ρ b).category = 2 := fun q => h2 ⟨h3, cv_cat2.mp q⟩
      simp [e, e2, h4]
    · simp [e, e2, h3]
/-- the locals at a method's entry -/
def mEntL : List mAV → List (Option mAV)
  | [] => []
  | .inr (.inl x) :: as => some (.inr (.inl x)) :: none :: mEntL as
  | a :: as => some a :: mEntL as
def mEntry (n : Nat) (as : List mAV) : List (Option mAV) := mEntL as ++ List.replicate (n - (mEntL as).length) none
end
section
/-! ONE METHOD'S RUN, over the memory of ints: AW mi d pc loc stk M o M' n: from pc on, with these locals and this stack, method mi ends with o and the memory M', n exceptions made on the way; d calls deep at most -/
def mRetI (mi : Nat) (v : Option mAV) (ins : Instr) : Prop := match v with
  | none => ins = .return_ ∧ mR mi = none
  | some (.inl x) => ins = .ireturn ∧ ∃ ty, mR mi = some ty ∧ narrow ty (.int x) = .int x
  | some (.inr (.inl _)) => ins = .lreturn ∧ mR mi = some .long
  | some (.inr (.inr _)) => ins = .areturn ∧ ∃ C, mR mi = some (.object C)
def mFR (D : va_G) (ρ : mRef → Nat) (cA : mRef → ClassId) (bs LS : Nat) (sa : Nat → Nat) (xs : Nat → Int32) (p : Program) (l : Launch) (e : Env) (R : Room) (s : State) (m : MethodId) (args : Array Value) (below : List Frame) (meth : Method) (c : Code) (mi d : Nat) : Prop :=
  p.tables.exec = Jvm.exec ∧ c.code = mB mi ∧ c.maxLocals = mL mi ∧ s.vm.findClass (mC mi) = some m.cls ∧ c.exceptionTable.toList = tableOf (mHH mi) ∧ meth.locks = false ∧ meth.sig.returnType = mR mi ∧ l.stackTraces = false ∧ d ≤ R.frames ∧ 34 * d ≤ R.locals ∧ mVF D cA sa s ∧ mHF ρ bs LS xs s s.heap ∧ LS < 2 ^ 31
def mRp (D : va_G) (ρ : mRef → Nat) (cA : mRef → ClassId) (bs LS : Nat) (xs : Nat → Int32) (M : mM) (H : Heap) : Prop := mRep D ρ cA bs xs M H ∧ M (16, 0, 0) 0 = Int32.ofNat LS
def mFin (D : va_G) (ρ : mRef → Nat) (cA : mRef → ClassId) (bs LS : Nat) (xs : Nat → Int32) (p : Program) (l : Launch) (e : Env) (R : Room) (s : State) (m : MethodId) (args : Array Value) (below : List Frame) (meth : Method) (c : Code) (mi : Nat) (o : mOut) (M' : mM) (cE sE : Nat) (Q : State → Prop) : Prop := match o with
  | .inl v => ∀ (H : Heap) (locs : List Loc) (ls : Array Slot) (pc : Nat) (ins : Instr), mRetI mi v ins → decode (mB mi) pc = .ok (ins, 1) → mRp D ρ cA bs LS xs M' H → va_S (mA0 bs) s.heap H locs → W p l e R s m args below meth c H locs cE sE Q (F0 m pc ls (v.toList.map (cv ρ)))
  | .inr E => ∀ (H : Heap) (locs : List Loc) (ls : Array Slot) (pc : Nat) (rest : List Value) (q : Addr) (ce : Cell), (∀ x ∈ c.exceptionTable.toList, covers x pc = false) → mRp D ρ cA bs LS xs M' H → va_S (mA0 bs) s.heap H locs → H[q]? = some ce → ce.vm = .none → s.vm.findClass E = some ce.cls → vx_W p l e R s m args below meth c H locs cE sE Q (F0 m pc ls rest) q
def AW (mi d pc : Nat) (loc : List (Option mAV)) (stk : List mAV) (M : mM) (o : mOut) (M' : mM) (n : Nat) : Prop :=
  ∀ (D : va_G) (ρ : mRef → Nat) (cA : mRef → ClassId) (bs LS : Nat) (sa : Nat → Nat) (xs : Nat → Int32) (p : Program) (l : Launch) (e : Env) (R : Room) (s : State) (m : MethodId) (args : Array Value) (below : List Frame) (meth : Method) (c : Code) (Q : State → Prop) (cE sE : Nat),
    mFR D ρ cA bs LS sa xs p l e R s m args below meth c mi d → cE ≤ R.cells → sE ≤ R.slots → mFin D ρ cA bs LS xs p l e R s m args below meth c mi o M' cE sE Q →
    ∀ (H : Heap) (locs : List Loc) (ls : Array Slot) (cells slots : Nat), cells + n ≤ cE → slots + 6 * n ≤ sE → mRp D ρ cA bs LS xs M H → va_S (mA0 bs) s.heap H locs → lR ρ (mL mi) loc ls → W p l e R s m args below meth c H locs cells slots Q (F0 m pc ls (stk.map (cv ρ)))
theorem mCl_N : ∀ ci < 7, ∀ q ∈ mCl[ci]?, q.2.2 = mN ci := by
  intro ci h q hq
  match ci, h with
  | 0, _ => cases hq; rfl
  | 1, _ => cases hq; rfl
  | 2, _ => cases hq; rfl
  | 3, _ => cases hq; rfl
  | 4, _ => cases hq; rfl
  | 5, _ => cases hq; rfl
  | 6, _ => cases hq; rfl
theorem mCl_in : ∀ ci < 7, ∀ q ∈ mCl[ci]?, ∀ w ∈ u_ws q.1 q.2.1 q.2.2, w ∈ lw_tbl := by
  intro ci h q hq
  match ci, h with
  | 0, _ => cases hq; exact inw_0
  | 1, _ => cases hq; exact inw_1
  | 2, _ => cases hq; exact inw_2
  | 3, _ => cases hq; exact inw_3
  | 4, _ => cases hq; exact inw_4
  | 5, _ => cases hq; exact inw_5
  | 6, _ => cases hq; exact inw_6
theorem u_ws_warm {C : String} {T : u_T} {N : Nat} {w : Cond} (h : w ∈ u_ws C T N) : mWarm w = true := by
  obtain ⟨k, -, rfl⟩ := List.mem_map.mp h
  unfold u_lay
  split <;> rfl
theorem mVF.w {D : va_G} {cA : mRef → ClassId} {sa : Nat → Nat} {U : State} (h : mVF D cA sa U) {w : Cond} {a : Array Value} (hw : w ∈ lw_tbl) (hm : mWarm w = true) : w.before a U = true :=
  mw_keep (State.WarmedH.refl U) hm (h.1 w hw hm)
theorem mVF.K {D : va_G} {cA : mRef → ClassId} {sa : Nat → Nat} {U : State} (h : mVF D cA sa U) : va_K D mCl [] U := ⟨h.2.1, fun k q hq => by simp at hq⟩
theorem mVF.KA {D : va_G} {cA : mRef → ClassId} {sa : Nat → Nat} {U : State} (h : mVF D cA sa U) {r : mRef} (hr : r ∈ mAll) (hk : 7 ≤ r.1) : va_K D mCl [(cA r, mTy r)] U := ⟨h.2.1, fun k q hq => by
  match k with
  | 0 => cases hq; exact h.2.2.1 r hr hk
  | k + 1 => simp at hq⟩
theorem mVF.KA2 {D : va_G} {cA : mRef → ClassId} {sa : Nat → Nat} {U : State} (h : mVF D cA sa U) {r r' : mRef} (hr : r ∈ mAll) (hk : 7 ≤ r.1) (hr' : r' ∈ mAll) (hk' : 7 ≤ r'.1) : va_K D mCl [(cA r, mTy r), (cA r', mTy r')] U := ⟨h.2.1, fun k q hq => by
  match k with
  | 0 => cases hq; exact h.2.2.1 r hr hk
  | 1 => cases hq; exact h.2.2.1 r' hr' hk'
  | k + 2 => simp at hq⟩
theorem mCell_obj {ρ : mRef → Nat} {cA : mRef → ClassId} {M : mM} {r : mRef} (h : r.1 < 7) : mCell ρ cA M r = .inr (r.1, (List.range (mN r.1)).map (mFv ρ M r)) := by unfold mCell; rw [if_pos h]
def mIsI (r : mRef) : Bool := r.1 == 7 || r.1 == 8 || r.1 == 9 || r.1 == 12 || r.1 == 13
theorem mCell_arr {ρ : mRef → Nat} {cA : mRef → ClassId} {M : mM} {r : mRef} (h : mIsI r = true) : mCell ρ cA M r = .inl (cA r, mLen r, .inl (M r)) ∧ 7 ≤ r.1 := by
  unfold mIsI at h
  simp only [Bool.or_eq_true, beq_iff_eq] at h
  unfold mCell
  refine ⟨?_, by omega⟩
  rw [if_neg (by omega), if_neg (by omega), if_neg (by omega), if_neg (by omega)]
/-- the world's cells, one of them changed -/
theorem mRp.set {D : va_G} {ρ : mRef → Nat} {cA : mRef → ClassId} {bs LS : Nat} {xs : Nat → Int32} {M M' : mM} {H H1 : Heap} {r : mRef} {q0 : Nat} (h : mRp D ρ cA bs LS xs M H) (hr : r ∈ mAll) (hq : mAll[q0]? = some r) (hM : ∀ r', r' ≠ r → M' r' = M r')
    (hP : va_P D mCl ((mWs ρ cA M).set q0 (ρ r, mCell ρ cA M' r)) H1) (hD : va_D (mA0 bs) ((mWs ρ cA M).set q0 (ρ r, mCell ρ cA M' r))) : mRp D ρ cA bs LS xs M' H1 := by
  rw [mWs_set hq hM] at hP hD
  refine ⟨⟨hP, hD, ?_⟩, ?_⟩
  · rw [hM _ (fun e => mAll_15 r hr e.symm)]
    exact h.1.2.2
  · rw [hM (16, 0, 0) (fun e => by rw [← e] at hr; exact absurd hr (by decide +kernel))]
    exact h.2
section WR
variable {D : va_G} {ρ : mRef → Nat} {cA : mRef → ClassId} {bs LS : Nat} {sa : Nat → Nat} {xs : Nat → Int32} {p : Program} {l : Launch} {e : Env} {R : Room} {s : State} {m : MethodId} {args : Array Value} {below : List Frame} {meth : Method} {c : Code} {Q : State → Prop} {H : Heap} {locs : List Loc} {ls : Array Slot} {cells slots : Nat} {M : mM} {pc : Nat} {rest : List Value} {cc : ByteArray}
theorem w_get {own : String} {ix ci k i j : Nat} (hx : p.tables.exec = Jvm.exec) (hb : c.code = cc) (hown : s.vm.findClass own = some m.cls) (hV : mVF D cA sa s) (hR : mRp D ρ cA bs LS xs M H) (hf : mFS own ix ci k) (hci : ci < 7) (hk : k < mN ci) (ho : mOk (ci, i, j)) (hdg : decode cc pc = .ok (.getfield ix, 3))
    (kk : W p l e R s m args below meth c H locs cells slots Q (F0 m (pc + 3) ls (mFv ρ M (ci, i, j) k :: rest))) : W p l e R s m args below meth c H locs cells slots Q (F0 m pc ls (.ref (ρ (ci, i, j)) :: rest)) := by
  obtain ⟨⟨C, T, N⟩, hq, hsm, hlk⟩ := hf
  have hN : N = mN ci := mCl_N ci hci _ hq
  have hin := mCl_in ci hci _ hq
  obtain ⟨q0, -, hw⟩ := mWs_at (ρ := ρ) (cA := cA) M (mOk_mem ho)
  rw [mCell_obj hci] at hw
  have hts : ∀ w ∈ u_ws C T N, w.before args s = true := fun w h => hV.w (hin w h) (u_ws_warm h)
  have hv : ((List.range (mN ci)).map (mFv ρ M (ci, i, j)))[k]? = some (mFv ρ M (ci, i, j) k) := by
    rw [List.getElem?_map, List.getElem?_range hk]
    rfl
  dsimp only at hsm hlk
  rcases hlk with hl | ⟨host, hl⟩
  · exact va_get hx hb hts (fun w h => h) hown hV.K hR.1.1 q0 hw hq k (by rw [hN]; exact hk) (hV.w hl rfl) (fun x h => by rw [hsm] at h; exact h) hv hdg kk
  · exact va_getN hx hb hts (fun w h => h) hown hV.K hR.1.1 q0 hw hq k (by rw [hN]; exact hk) (hV.w hl rfl) (fun x h => by rw [hsm] at h; exact h) hv hdg kk
def mPo (ci k : Nat) (ty : FieldType) : Prop := ∃ q : vw_C, mCl[ci]? = some q ∧ (q.2.1 k).2.2.2 = false ∧ parseFieldDescriptor (q.2.1 k).2.2.1 = some ty
theorem mCl_ty : ∀ ci < 7, ∀ q ∈ mCl[ci]?, (∃ ty : Nat → FieldType, ∀ k, k < q.2.2 → parseFieldDescriptor (q.2.1 k).2.2.1 = some (ty k)) ∧ ∀ a, a < q.2.2 → ∀ b, b < q.2.2 → a ≠ b → (q.2.1 a).2.1 ≠ (q.2.1 b).2.1 := by
  intro ci h q hq
  match ci, h with
  | 0, _ => cases hq; exact ⟨⟨_, tyX0_ok⟩, nmX0⟩
  | 1, _ => cases hq; exact ⟨⟨_, tyX1_ok⟩, nmX1⟩
  | 2, _ => cases hq; exact ⟨⟨_, tyX2_ok⟩, nmX2⟩
  | 3, _ => cases hq; exact ⟨⟨_, tyX3_ok⟩, nmX3⟩
  | 4, _ => cases hq; exact ⟨⟨_, tyX4_ok⟩, nmX4⟩
  | 5, _ => cases hq; exact ⟨⟨_, tyX5_ok⟩, nmX5⟩
  | 6, _ => cases hq; exact ⟨⟨_, tyX6_ok⟩, nmX6⟩
theorem mCell_put {ρ : mRef → Nat} {cA : mRef → ClassId} {M : mM} {r : mRef} {k : Nat} {v : Int32} (h : r.1 < 7) (hr : mRf r k = none) : mCell ρ cA (mUp M r k v) r = .inr (r.1, ((List.range (mN r.1)).map (mFv ρ M r)).set k (.int v)) := by
  rw [mCell_obj h]
  congr 2
  refine List.ext_getElem? fun i => ?_
  by_cases hi : k = i
  · subst hi
    by_cases hl : k < mN r.1
    · rw [List.getElem?_set_self (by simp [hl]), List.getElem?_map, List.getElem?_range hl]
      show some (mFv ρ (mUp M r k v) r k) = _
      unfold mFv
      rw [hr]
      simp [mUp]
    · rw [List.getElem?_eq_none (by simp; omega), List.getElem?_eq_none (by simp; omega)]
  · rw [List.getElem?_set_ne hi, List.getElem?_map, List.getElem?_map]
    cases hx : (List.range (mN r.1))[i]? with
    | none => rfl
    | some i' =>
      have e : i = i' := by
        have h1 := List.getElem?_eq_some_iff.mp hx
        obtain ⟨l1, e1⟩ := h1
        rw [List.getElem_range] at e1
        exact e1
      subst e
      show some (mFv ρ (mUp M r k v) r i) = some (mFv ρ M r i)
      unfold mFv
      cases mRf r i with
      | none => simp [mUp, Ne.symm hi]
      | some _ => rfl
theorem w_put {own : String} {ix ci k i j : Nat} {v : Int32} {ty : FieldType} (hx : p.tables.exec = Jvm.exec) (hb : c.code = cc) (hown : s.vm.findClass own = some m.cls) (hV : mVF D cA sa s) (hR : mRp D ρ cA bs LS xs M H) (hS : va_S (mA0 bs) s.heap H locs) (hf : mFS own ix ci k) (hci : ci < 7) (hk : k < mN ci) (ho : mOk (ci, i, j)) (hr : mRf (ci, i, j) k = none) (hpo : mPo ci k ty) (hn : narrow ty (.int v) = .int v) (hfit : fits ty (.int v) = true) (hdg : decode cc pc = .ok (.putfield ix, 3))
    (kk : ∀ (H1 : Heap) (locs1 : List Loc), mRp D ρ cA bs LS xs (mUp M (ci, i, j) k v) H1 → va_S (mA0 bs) s.heap H1 locs1 → W p l e R s m args below meth c H1 locs1 cells slots Q (F0 m (pc + 3) ls rest)) : W p l e R s m args below meth c H locs cells slots Q (F0 m pc ls (.int v :: .ref (ρ (ci, i, j)) :: rest)) := by
  obtain ⟨⟨C, T, N⟩, hq, hsm, hlk⟩ := hf
  obtain ⟨q9, hq9, hfin, hpd⟩ := hpo
  cases Option.some.inj (hq9.symm.trans hq)
  have hN : N = mN ci := mCl_N ci hci _ hq
  have hin := mCl_in ci hci _ hq
  obtain ⟨⟨ty0, hty⟩, hnm⟩ := mCl_ty ci hci _ hq
  obtain ⟨q0, hq0, hw⟩ := mWs_at (ρ := ρ) (cA := cA) M (mOk_mem ho)
  have hw' := hw
  rw [mCell_obj hci] at hw
  have hts : ∀ w ∈ u_ws C T N, w.before args s = true := fun w h => hV.w (hin w h) (u_ws_warm h)
  dsimp only at hsm hlk hfin hpd hty hnm
  have fin : ∀ (H1 : Heap) (locs1 : List Loc), va_P D mCl ((mWs ρ cA M).set q0 (ρ (ci, i, j), .inr (ci, ((List.range (mN ci)).map (mFv ρ M (ci, i, j))).set k (.int v)))) H1 → va_D (mA0 bs) ((mWs ρ cA M).set q0 (ρ (ci, i, j), .inr (ci, ((List.range (mN ci)).map (mFv ρ M (ci, i, j))).set k (.int v)))) → va_S (mA0 bs) s.heap H1 locs1 → W p l e R s m args below meth c H1 locs1 cells slots Q (F0 m (pc + 3) ls rest) := by
    intro H1 locs1 a1 a2 a3
    have ec := mCell_put (ρ := ρ) (cA := cA) (M := M) (r := (ci, i, j)) (k := k) (v := v) hci hr
    dsimp only at ec
    rw [← ec] at a1 a2
    exact kk H1 locs1 (hR.set (mOk_mem ho) hq0 (fun r' h => mUp_ne h) a1 a2) a3
  rcases hlk with hl | ⟨host, hl⟩
  · exact va_put hx hb hts (fun w h => h) ty0 hty hnm hown hV.K hR.1.1 hR.1.2.1 hS q0 hw hq k (by rw [hN]; exact hk) (hV.w hl rfl) (fun x h => by rw [hsm] at h; exact h) hfin hpd hn hfit (by simp [hk]) hdg fin
  · exact va_putN hx hb hts (fun w h => h) ty0 hty hnm hown hV.K hR.1.1 hR.1.2.1 hS q0 hw hq k (by rw [hN]; exact hk) (hV.w hl rfl) (fun x h => by rw [hsm] at h; exact h) hfin hpd hn hfit (by simp [hk]) hdg fin
end WR
theorem aw_iload {mi d pc nx : Nat} {loc : List (Option mAV)} {stk : List mAV} {M : mM} {o : mOut} {M1 : mM} {n : Nat} {i : Nat} {x : Int32} (hd : mD mi pc 2 nx (.iload i)) (hv : loc[i]? = some (some (vI x))) (kk : AW mi d nx loc (vI x :: stk) M o M1 n) : AW mi d pc loc stk M o M1 n := by
  intro D ρ cA bs LS sa xs p l e R s m args below meth c Q cE sE hF hcE hsE hFin H locs ls cells slots hc hs hRep hS hl
  obtain ⟨hdg, rfl⟩ := hd
  have k := kk D ρ cA bs LS sa xs p l e R s m args below meth c Q cE sE hF hcE hsE hFin H locs ls cells slots hc hs hRep hS hl
  obtain ⟨hx, hb, hml, hown, htab, hlocks, hr, hl0, hfr, hlo, hV, hH, hLS⟩ := hF
  exact lv_iload hx hb hdg (hl.2.2.2 _ _ hv) k
theorem aw_iload_n {mi d pc nx : Nat} {loc : List (Option mAV)} {stk : List mAV} {M : mM} {o : mOut} {M1 : mM} {n : Nat} {i : Fin 4} {x : Int32} (hd : mD mi pc 1 nx (.iload_n i)) (hv : loc[(i : Nat)]? = some (some (vI x))) (kk : AW mi d nx loc (vI x :: stk) M o M1 n) : AW mi d pc loc stk M o M1 n := by
  intro D ρ cA bs LS sa xs p l e R s m args below meth c Q cE sE hF hcE hsE hFin H locs ls cells slots hc hs hRep hS hl
  obtain ⟨hdg, rfl⟩ := hd
  have k := kk D ρ cA bs LS sa xs p l e R s m args below meth c Q cE sE hF hcE hsE hFin H locs ls cells slots hc hs hRep hS hl
  obtain ⟨hx, hb, hml, hown, htab, hlocks, hr, hl0, hfr, hlo, hV, hH, hLS⟩ := hF
  exact lv_iload_n hx hb hdg rfl (hl.2.2.2 _ _ hv) k
theorem aw_lload {mi d pc nx : Nat} {loc : List (Option mAV)} {stk : List mAV} {M : mM} {o : mOut} {M1 : mM} {n : Nat} {i : Nat} {x : Int64} (hd : mD mi pc 2 nx (.lload i)) (hv : loc[i]? = some (some (vL x))) (kk : AW mi d nx loc (vL x :: stk) M o M1 n) : AW mi d pc loc stk M o M1 n := by
  intro D ρ cA bs LS sa xs p l e R s m args below meth c Q cE sE hF hcE hsE hFin H locs ls cells slots hc hs hRep hS hl
  obtain ⟨hdg, rfl⟩ := hd
  have k := kk D ρ cA bs LS sa xs p l e R s m args below meth c Q cE sE hF hcE hsE hFin H locs ls cells slots hc hs hRep hS hl
  obtain ⟨hx, hb, hml, hown, htab, hlocks, hr, hl0, hfr, hlo, hV, hH, hLS⟩ := hF
  exact lv_lload hx hb hdg (hl.2.2.2 _ _ hv) k
theorem aw_lload_n {mi d pc nx : Nat} {loc : List (Option mAV)} {stk : List mAV} {M : mM} {o : mOut} {M1 : mM} {n : Nat} {i : Fin 4} {x : Int64} (hd : mD mi pc 1 nx (.lload_n i)) (hv : loc[(i : Nat)]? = some (some (vL x))) (kk : AW mi d nx loc (vL x :: stk) M o M1 n) : AW mi d pc loc stk M o M1 n := by
  intro D ρ cA bs LS sa xs p l e R s m args below meth c Q cE sE hF hcE hsE hFin H locs ls cells slots hc hs hRep hS hl
  obtain ⟨hdg, rfl⟩ := hd
  have k := kk D ρ cA bs LS sa xs p l e R s m args below meth c Q cE sE hF hcE hsE hFin H locs ls cells slots hc hs hRep hS hl
  obtain ⟨hx, hb, hml, hown, htab, hlocks, hr, hl0, hfr, hlo, hV, hH, hLS⟩ := hF
  exact lv_lload_n hx hb hdg rfl (hl.2.2.2 _ _ hv) k
theorem aw_aload {mi d pc nx : Nat} {loc : List (Option mAV)} {stk : List mAV} {M : mM} {o : mOut} {M1 : mM} {n : Nat} {i : Nat} {a b c0 : Nat} (hd : mD mi pc 2 nx (.aload i)) (hv : loc[i]? = some (some (vR a b c0))) (kk : AW mi d nx loc (vR a b c0 :: stk) M o M1 n) : AW mi d pc loc stk M o M1 n := by
  intro D ρ cA bs LS sa xs p l e R s m args below meth c Q cE sE hF hcE hsE hFin H locs ls cells slots hc hs hRep hS hl
  obtain ⟨hdg, rfl⟩ := hd
  have k := kk D ρ cA bs LS sa xs p l e R s m args below meth c Q cE sE hF hcE hsE hFin H locs ls cells slots hc hs hRep hS hl
  obtain ⟨hx, hb, hml, hown, htab, hlocks, hr, hl0, hfr, hlo, hV, hH, hLS⟩ := hF
  exact lv_aload hx hb hdg (hl.2.2.2 _ _ hv) k
theorem aw_aload_n {mi d pc nx : Nat} {loc : List (Option mAV)} {stk : List mAV} {M : mM} {o : mOut} {M1 : mM} {n : Nat} {i : Fin 4} {a b c0 : Nat} (hd : mD mi pc 1 nx (.aload_n i)) (hv : loc[(i : Nat)]? = some (some (vR a b c0))) (kk : AW mi d nx loc (vR a b c0 :: stk) M o M1 n) : AW mi d pc loc stk M o M1 n := by
  intro D ρ cA bs LS sa xs p l e R s m args below meth c Q cE sE hF hcE hsE hFin H locs ls cells slots hc hs hRep hS hl
  obtain ⟨hdg, rfl⟩ := hd
  have k := kk D ρ cA bs LS sa xs p l e R s m args below meth c Q cE sE hF hcE hsE hFin H locs ls cells slots hc hs hRep hS hl
  obtain ⟨hx, hb, hml, hown, htab, hlocks, hr, hl0, hfr, hlo, hV, hH, hLS⟩ := hF
  exact lv_aload_n hx hb hdg rfl (hl.2.2.2 _ _ hv) k
theorem aw_iconst {mi d pc nx : Nat} {loc : List (Option mAV)} {stk : List mAV} {M : mM} {o : mOut} {M1 : mM} {n : Nat} {i : Int} {v : Int32} (hd : mD mi pc 1 nx (.iconst i)) (hv : Int32.ofInt i = v) (kk : AW mi d nx loc (vI v :: stk) M o M1 n) : AW mi d pc loc stk M o M1 n := by
  intro D ρ cA bs LS sa xs p l e R s m args below meth c Q cE sE hF hcE hsE hFin H locs ls cells slots hc hs hRep hS hl
  obtain ⟨hdg, rfl⟩ := hd
  have k := kk D ρ cA bs LS sa xs p l e R s m args below meth c Q cE sE hF hcE hsE hFin H locs ls cells slots hc hs hRep hS hl
  obtain ⟨hx, hb, hml, hown, htab, hlocks, hr, hl0, hfr, hlo, hV, hH, hLS⟩ := hF
  exact lv_iconst hx hb hdg hv k
theorem aw_lconst {mi d pc nx : Nat} {loc : List (Option mAV)} {stk : List mAV} {M : mM} {o : mOut} {M1 : mM} {n : Nat} {i : Fin 2} {v : Int64} (hd : mD mi pc 1 nx (.lconst i)) (hv : Int64.ofNat (i : Nat) = v) (kk : AW mi d nx loc (vL v :: stk) M o M1 n) : AW mi d pc loc stk M o M1 n := by
  intro D ρ cA bs LS sa xs p l e R s m args below meth c Q cE sE hF hcE hsE hFin H locs ls cells slots hc hs hRep hS hl
  obtain ⟨hdg, rfl⟩ := hd
  have k := kk D ρ cA bs LS sa xs p l e R s m args below meth c Q cE sE hF hcE hsE hFin H locs ls cells slots hc hs hRep hS hl
  obtain ⟨hx, hb, hml, hown, htab, hlocks, hr, hl0, hfr, hlo, hV, hH, hLS⟩ := hF
  exact lv_lconst hx hb hdg hv k
theorem aw_bipush {mi d pc nx : Nat} {loc : List (Option mAV)} {stk : List mAV} {M : mM} {o : mOut} {M1 : mM} {n : Nat} {i : Int} {v : Int32} (hd : mD mi pc 2 nx (.bipush i)) (hv : (Int8.ofInt i).toInt32 = v) (kk : AW mi d nx loc (vI v :: stk) M o M1 n) : AW mi d pc loc stk M o M1 n := by
  intro D ρ cA bs LS sa xs p l e R s m args below meth c Q cE sE hF hcE hsE hFin H locs ls cells slots hc hs hRep hS hl
  obtain ⟨hdg, rfl⟩ := hd
  have k := kk D ρ cA bs LS sa xs p l e R s m args below meth c Q cE sE hF hcE hsE hFin H locs ls cells slots hc hs hRep hS hl
  obtain ⟨hx, hb, hml, hown, htab, hlocks, hr, hl0, hfr, hlo, hV, hH, hLS⟩ := hF
  exact lv_bipush hx hb hdg hv k
theorem aw_sipush {mi d pc nx : Nat} {loc : List (Option mAV)} {stk : List mAV} {M : mM} {o : mOut} {M1 : mM} {n : Nat} {i : Int} {v : Int32} (hd : mD mi pc 3 nx (.sipush i)) (hv : (Int16.ofInt i).toInt32 = v) (kk : AW mi d nx loc (vI v :: stk) M o M1 n) : AW mi d pc loc stk M o M1 n := by
  intro D ρ cA bs LS sa xs p l e R s m args below meth c Q cE sE hF hcE hsE hFin H locs ls cells slots hc hs hRep hS hl
  obtain ⟨hdg, rfl⟩ := hd
  have k := kk D ρ cA bs LS sa xs p l e R s m args below meth c Q cE sE hF hcE hsE hFin H locs ls cells slots hc hs hRep hS hl
  obtain ⟨hx, hb, hml, hown, htab, hlocks, hr, hl0, hfr, hlo, hV, hH, hLS⟩ := hF
  exact lv_sipush hx hb hdg hv k
theorem aw_ldc {mi d pc nx : Nat} {loc : List (Option mAV)} {stk : List mAV} {M : mM} {o : mOut} {M1 : mM} {n : Nat} {own : String} {i : Nat} {v : Int32} (hd : mD mi pc 2 nx (.ldc i)) (hC : mC mi = own) (hv : Cond.constant own i v ∈ lw_tbl) (kk : AW mi d nx loc (vI v :: stk) M o M1 n) : AW mi d pc loc stk M o M1 n := by
  intro D ρ cA bs LS sa xs p l e R s m args below meth c Q cE sE hF hcE hsE hFin H locs ls cells slots hc hs hRep hS hl
  obtain ⟨hdg, rfl⟩ := hd
  have k := kk D ρ cA bs LS sa xs p l e R s m args below meth c Q cE sE hF hcE hsE hFin H locs ls cells slots hc hs hRep hS hl
  obtain ⟨hx, hb, hml, hown, htab, hlocks, hr, hl0, hfr, hlo, hV, hH, hLS⟩ := hF
  exact lv_ldc hx hb (by rw [hC] at hown; exact hown) (hV.w hv rfl) hdg k
theorem aw_ldc_w {mi d pc nx : Nat} {loc : List (Option mAV)} {stk : List mAV} {M : mM} {o : mOut} {M1 : mM} {n : Nat} {own : String} {i : Nat} {v : Int32} (hd : mD mi pc 3 nx (.ldc_w i)) (hC : mC mi = own) (hv : Cond.constant own i v ∈ lw_tbl) (kk : AW mi d nx loc (vI v :: stk) M o M1 n) : AW mi d pc loc stk M o M1 n := by
  intro D ρ cA bs LS sa xs p l e R s m args below meth c Q cE sE hF hcE hsE hFin H locs ls cells slots hc hs hRep hS hl
  obtain ⟨hdg, rfl⟩ := hd
  have k := kk D ρ cA bs LS sa xs p l e R s m args below meth c Q cE sE hF hcE hsE hFin H locs ls cells slots hc hs hRep hS hl
  obtain ⟨hx, hb, hml, hown, htab, hlocks, hr, hl0, hfr, hlo, hV, hH, hLS⟩ := hF
  exact lv_ldcw hx hb (by rw [hC] at hown; exact hown) (hV.w hv rfl) hdg k
theorem aw_ldc2_w {mi d pc nx : Nat} {loc : List (Option mAV)} {stk : List mAV} {M : mM} {o : mOut} {M1 : mM} {n : Nat} {own : String} {i : Nat} {v : Int64} (hd : mD mi pc 3 nx (.ldc2_w i)) (hC : mC mi = own) (hv : Cond.constantLong own i v ∈ lw_tbl) (kk : AW mi d nx loc (vL v :: stk) M o M1 n) : AW mi d pc loc stk M o M1 n := by
  intro D ρ cA bs LS sa xs p l e R s m args below meth c Q cE sE hF hcE hsE hFin H locs ls cells slots hc hs hRep hS hl
  obtain ⟨hdg, rfl⟩ := hd
  have k := kk D ρ cA bs LS sa xs p l e R s m args below meth c Q cE sE hF hcE hsE hFin H locs ls cells slots hc hs hRep hS hl
  obtain ⟨hx, hb, hml, hown, htab, hlocks, hr, hl0, hfr, hlo, hV, hH, hLS⟩ := hF
  exact lv_ldc2 hx hb (by rw [hC] at hown; exact hown) (hV.w hv rfl) hdg k
theorem aw_iadd {mi d pc nx : Nat} {loc : List (Option mAV)} {stk : List mAV} {M : mM} {o : mOut} {M1 : mM} {n : Nat} {x y : Int32} (hd : mD mi pc 1 nx (.iadd)) (kk : AW mi d nx loc (vI (x + y) :: stk) M o M1 n) : AW mi d pc loc (vI y :: vI x :: stk) M o M1 n := by
  intro D ρ cA bs LS sa xs p l e R s m args below meth c Q cE sE hF hcE hsE hFin H locs ls cells slots hc hs hRep hS hl
  obtain ⟨hdg, rfl⟩ := hd
  have k := kk D ρ cA bs LS sa xs p l e R s m args below meth c Q cE sE hF hcE hsE hFin H locs ls cells slots hc hs hRep hS hl
  obtain ⟨hx, hb, hml, hown, htab, hlocks, hr, hl0, hfr, hlo, hV, hH, hLS⟩ := hF
  exact lv_iadd hx hb hdg k
theorem aw_isub {mi d pc nx : Nat} {loc : List (Option mAV)} {stk : List mAV} {M : mM} {o : mOut} {M1 : mM} {n : Nat} {x y : Int32} (hd : mD mi pc 1 nx (.isub)) (kk : AW mi d nx loc (vI (x - y) :: stk) M o M1 n) : AW mi d pc loc (vI y :: vI x :: stk) M o M1 n := by
  intro D ρ cA bs LS sa xs p l e R s m args below meth c Q cE sE hF hcE hsE hFin H locs ls cells slots hc hs hRep hS hl
  obtain ⟨hdg, rfl⟩ := hd
  have k := kk D ρ cA bs LS sa xs p l e R s m args below meth c Q cE sE hF hcE hsE hFin H locs ls cells slots hc hs hRep hS hl
  obtain ⟨hx, hb, hml, hown, htab, hlocks, hr, hl0, hfr, hlo, hV, hH, hLS⟩ := hF
  exact lv_isub hx hb hdg k
theorem aw_imul {mi d pc nx : Nat} {loc : List (Option mAV)} {stk : List mAV} {M : mM} {o : mOut} {M1 : mM} {n : Nat} {x y : Int32} (hd : mD mi pc 1 nx (.imul)) (kk : AW mi d nx loc (vI (x * y) :: stk) M o M1 n) : AW mi d pc loc (vI y :: vI x :: stk) M o M1 n := by
  intro D ρ cA bs LS sa xs p l e R s m args below meth c Q cE sE hF hcE hsE hFin H locs ls cells slots hc hs hRep hS hl
  obtain ⟨hdg, rfl⟩ := hd
  have k := kk D ρ cA bs LS sa xs p l e R s m args below meth c Q cE sE hF hcE hsE hFin H locs ls cells slots hc hs hRep hS hl
  obtain ⟨hx, hb, hml, hown, htab, hlocks, hr, hl0, hfr, hlo, hV, hH, hLS⟩ := hF
  exact lv_imul hx hb hdg k
theorem aw_iand {mi d pc nx : Nat} {loc : List (Option mAV)} {stk : List mAV} {M : mM} {o : mOut} {M1 : mM} {n : Nat} {x y : Int32} (hd : mD mi pc 1 nx (.iand)) (kk : AW mi d nx loc (vI (x &&& y) :: stk) M o M1 n) : AW mi d pc loc (vI y :: vI x :: stk) M o M1 n := by
  intro D ρ cA bs LS sa xs p l e R s m args below meth c Q cE sE hF hcE hsE hFin H locs ls cells slots hc hs hRep hS hl
  obtain ⟨hdg, rfl⟩ := hd
  have k := kk D ρ cA bs LS sa xs p l e R s m args below meth c Q cE sE hF hcE hsE hFin H locs ls cells slots hc hs hRep hS hl
  obtain ⟨hx, hb, hml, hown, htab, hlocks, hr, hl0, hfr, hlo, hV, hH, hLS⟩ := hF
  exact lv_iand hx hb hdg k
theorem aw_idiv {mi d pc nx : Nat} {loc : List (Option mAV)} {stk : List mAV} {M : mM} {o : mOut} {M1 : mM} {n : Nat} {x y : Int32} (hd : mD mi pc 1 nx (.idiv)) (hne : ¬ y = 0) (kk : AW mi d nx loc (vI (x / y) :: stk) M o M1 n) : AW mi d pc loc (vI y :: vI x :: stk) M o M1 n := by
  intro D ρ cA bs LS sa xs p l e R s m args below meth c Q cE sE hF hcE hsE hFin H locs ls cells slots hc hs hRep hS hl
  obtain ⟨hdg, rfl⟩ := hd
  have k := kk D ρ cA bs LS sa xs p l e R s m args below meth c Q cE sE hF hcE hsE hFin H locs ls cells slots hc hs hRep hS hl
  obtain ⟨hx, hb, hml, hown, htab, hlocks, hr, hl0, hfr, hlo, hV, hH, hLS⟩ := hF
  exact lv_idiv hx hb hdg hne k
theorem aw_irem {mi d pc nx : Nat} {loc : List (Option mAV)} {stk : List mAV} {M : mM} {o : mOut} {M1 : mM} {n : Nat} {x y : Int32} (hd : mD mi pc 1 nx (.irem)) (hne : ¬ y = 0) (kk : AW mi d nx loc (vI (x - x / y * y) :: stk) M o M1 n) : AW mi d pc loc (vI y :: vI x :: stk) M o M1 n := by
  intro D ρ cA bs LS sa xs p l e R s m args below meth c Q cE sE hF hcE hsE hFin H locs ls cells slots hc hs hRep hS hl
  obtain ⟨hdg, rfl⟩ := hd
  have k := kk D ρ cA bs LS sa xs p l e R s m args below meth c Q cE sE hF hcE hsE hFin H locs ls cells slots hc hs hRep hS hl
  obtain ⟨hx, hb, hml, hown, htab, hlocks, hr, hl0, hfr, hlo, hV, hH, hLS⟩ := hF
  exact lv_irem hx hb hdg hne k
theorem aw_ladd {mi d pc nx : Nat} {loc : List (Option mAV)} {stk : List mAV} {M : mM} {o : mOut} {M1 : mM} {n : Nat} {x y : Int64} (hd : mD mi pc 1 nx (.ladd)) (kk : AW mi d nx loc (vL (x + y) :: stk) M o M1 n) : AW mi d pc loc (vL y :: vL x :: stk) M o M1 n := by
  intro D ρ cA bs LS sa xs p l e R s m args below meth c Q cE sE hF hcE hsE hFin H locs ls cells slots hc hs hRep hS hl
  obtain ⟨hdg, rfl⟩ := hd
  have k := kk D ρ cA bs LS sa xs p l e R s m args below meth c Q cE sE hF hcE hsE hFin H locs ls cells slots hc hs hRep hS hl
  obtain ⟨hx, hb, hml, hown, htab, hlocks, hr, hl0, hfr, hlo, hV, hH, hLS⟩ := hF
  exact lv_ladd hx hb hdg k
theorem aw_lsub {mi d pc nx : Nat} {loc : List (Option mAV)} {stk : List mAV} {M : mM} {o : mOut} {M1 : mM} {n : Nat} {x y : Int64} (hd : mD mi pc 1 nx (.lsub)) (kk : AW mi d nx loc (vL (x - y) :: stk) M o M1 n) : AW mi d pc loc (vL y :: vL x :: stk) M o M1 n := by
  intro D ρ cA bs LS sa xs p l e R s m args below meth c Q cE sE hF hcE hsE hFin H locs ls cells slots hc hs hRep hS hl
  obtain ⟨hdg, rfl⟩ := hd
  have k := kk D ρ cA bs LS sa xs p l e R s m args below meth c Q cE sE hF hcE hsE hFin H locs ls cells slots hc hs hRep hS hl
  obtain ⟨hx, hb, hml, hown, htab, hlocks, hr, hl0, hfr, hlo, hV, hH, hLS⟩ := hF
  exact lv_lsub hx hb hdg k
theorem aw_lmul {mi d pc nx : Nat} {loc : List (Option mAV)} {stk : List mAV} {M : mM} {o : mOut} {M1 : mM} {n : Nat} {x y : Int64} (hd : mD mi pc 1 nx (.lmul)) (kk : AW mi d nx loc (vL (x * y) :: stk) M o M1 n) : AW mi d pc loc (vL y :: vL x :: stk) M o M1 n := by
  intro D ρ cA bs LS sa xs p l e R s m args below meth c Q cE sE hF hcE hsE hFin H locs ls cells slots hc hs hRep hS hl
  obtain ⟨hdg, rfl⟩ := hd
  have k := kk D ρ cA bs LS sa xs p l e R s m args below meth c Q cE sE hF hcE hsE hFin H locs ls cells slots hc hs hRep hS hl
  obtain ⟨hx, hb, hml, hown, htab, hlocks, hr, hl0, hfr, hlo, hV, hH, hLS⟩ := hF
  exact lv_lmul hx hb hdg k
theorem aw_lxor {mi d pc nx : Nat} {loc : List (Option mAV)} {stk : List mAV} {M : mM} {o : mOut} {M1 : mM} {n : Nat} {x y : Int64} (hd : mD mi pc 1 nx (.lxor)) (kk : AW mi d nx loc (vL (x ^^^ y) :: stk) M o M1 n) : AW mi d pc loc (vL y :: vL x :: stk) M o M1 n := by
  intro D ρ cA bs LS sa xs p l e R s m args below meth c Q cE sE hF hcE hsE hFin H locs ls cells slots hc hs hRep hS hl
  obtain ⟨hdg, rfl⟩ := hd
  have k := kk D ρ cA bs LS sa xs p l e R s m args below meth c Q cE sE hF hcE hsE hFin H locs ls cells slots hc hs hRep hS hl
  obtain ⟨hx, hb, hml, hown, htab, hlocks, hr, hl0, hfr, hlo, hV, hH, hLS⟩ := hF
  exact lv_lxor hx hb hdg k
theorem aw_ldiv {mi d pc nx : Nat} {loc : List (Option mAV)} {stk : List mAV} {M : mM} {o : mOut} {M1 : mM} {n : Nat} {x y : Int64} (hd : mD mi pc 1 nx (.ldiv)) (hne : ¬ y = 0) (kk : AW mi d nx loc (vL (x / y) :: stk) M o M1 n) : AW mi d pc loc (vL y :: vL x :: stk) M o M1 n := by
  intro D ρ cA bs LS sa xs p l e R s m args below meth c Q cE sE hF hcE hsE hFin H locs ls cells slots hc hs hRep hS hl
  obtain ⟨hdg, rfl⟩ := hd
  have k := kk D ρ cA bs LS sa xs p l e R s m args below meth c Q cE sE hF hcE hsE hFin H locs ls cells slots hc hs hRep hS hl
  obtain ⟨hx, hb, hml, hown, htab, hlocks, hr, hl0, hfr, hlo, hV, hH, hLS⟩ := hF
  exact lv_ldiv hx hb hdg hne k
theorem aw_lrem {mi d pc nx : Nat} {loc : List (Option mAV)} {stk : List mAV} {M : mM} {o : mOut} {M1 : mM} {n : Nat} {x y : Int64} (hd : mD mi pc 1 nx (.lrem)) (hne : ¬ y = 0) (kk : AW mi d nx loc (vL (x - x / y * y) :: stk) M o M1 n) : AW mi d pc loc (vL y :: vL x :: stk) M o M1 n := by
  intro D ρ cA bs LS sa xs p l e R s m args below meth c Q cE sE hF hcE hsE hFin H locs ls cells slots hc hs hRep hS hl
  obtain ⟨hdg, rfl⟩ := hd
  have k := kk D ρ cA bs LS sa xs p l e R s m args below meth c Q cE sE hF hcE hsE hFin H locs ls cells slots hc hs hRep hS hl
  obtain ⟨hx, hb, hml, hown, htab, hlocks, hr, hl0, hfr, hlo, hV, hH, hLS⟩ := hF
  exact lv_lrem hx hb hdg hne k
theorem aw_ineg {mi d pc nx : Nat} {loc : List (Option mAV)} {stk : List mAV} {M : mM} {o : mOut} {M1 : mM} {n : Nat} {x : Int32} (hd : mD mi pc 1 nx (.ineg)) (kk : AW mi d nx loc (vI (-x) :: stk) M o M1 n) : AW mi d pc loc (vI x :: stk) M o M1 n := by
  intro D ρ cA bs LS sa xs p l e R s m args below meth c Q cE sE hF hcE hsE hFin H locs ls cells slots hc hs hRep hS hl
  obtain ⟨hdg, rfl⟩ := hd
  have k := kk D ρ cA bs LS sa xs p l e R s m args below meth c Q cE sE hF hcE hsE hFin H locs ls cells slots hc hs hRep hS hl
  obtain ⟨hx, hb, hml, hown, htab, hlocks, hr, hl0, hfr, hlo, hV, hH, hLS⟩ := hF
  exact lv_ineg hx hb hdg k
theorem aw_lneg {mi d pc nx : Nat} {loc : List (Option mAV)} {stk : List mAV} {M : mM} {o : mOut} {M1 : mM} {n : Nat} {x : Int64} (hd : mD mi pc 1 nx (.lneg)) (kk : AW mi d nx loc (vL (-x) :: stk) M o M1 n) : AW mi d pc loc (vL x :: stk) M o M1 n := by
  intro D ρ cA bs LS sa xs p l e R s m args below meth c Q cE sE hF hcE hsE hFin H locs ls cells slots hc hs hRep hS hl
  obtain ⟨hdg, rfl⟩ := hd
  have k := kk D ρ cA bs LS sa xs p l e R s m args below meth c Q cE sE hF hcE hsE hFin H locs ls cells slots hc hs hRep hS hl
  obtain ⟨hx, hb, hml, hown, htab, hlocks, hr, hl0, hfr, hlo, hV, hH, hLS⟩ := hF
  exact lv_lneg hx hb hdg k
theorem aw_i2l {mi d pc nx : Nat} {loc : List (Option mAV)} {stk : List mAV} {M : mM} {o : mOut} {M1 : mM} {n : Nat} {x : Int32} (hd : mD mi pc 1 nx (.i2l)) (kk : AW mi d nx loc (vL x.toInt64 :: stk) M o M1 n) : AW mi d pc loc (vI x :: stk) M o M1 n := by
  intro D ρ cA bs LS sa xs p l e R s m args below meth c Q cE sE hF hcE hsE hFin H locs ls cells slots hc hs hRep hS hl
  obtain ⟨hdg, rfl⟩ := hd
  have k := kk D ρ cA bs LS sa xs p l e R s m args below meth c Q cE sE hF hcE hsE hFin H locs ls cells slots hc hs hRep hS hl
  obtain ⟨hx, hb, hml, hown, htab, hlocks, hr, hl0, hfr, hlo, hV, hH, hLS⟩ := hF
  exact lv_i2l hx hb hdg rfl k
theorem aw_l2i {mi d pc nx : Nat} {loc : List (Option mAV)} {stk : List mAV} {M : mM} {o : mOut} {M1 : mM} {n : Nat} {x : Int64} (hd : mD mi pc 1 nx (.l2i)) (kk : AW mi d nx loc (vI x.toInt32 :: stk) M o M1 n) : AW mi d pc loc (vL x :: stk) M o M1 n := by
  intro D ρ cA bs LS sa xs p l e R s m args below meth c Q cE sE hF hcE hsE hFin H locs ls cells slots hc hs hRep hS hl
  obtain ⟨hdg, rfl⟩ := hd
  have k := kk D ρ cA bs LS sa xs p l e R s m args below meth c Q cE sE hF hcE hsE hFin H locs ls cells slots hc hs hRep hS hl
  obtain ⟨hx, hb, hml, hown, htab, hlocks, hr, hl0, hfr, hlo, hV, hH, hLS⟩ := hF
  exact lv_l2i hx hb hdg rfl k
theorem aw_i2c {mi d pc nx : Nat} {loc : List (Option mAV)} {stk : List mAV} {M : mM} {o : mOut} {M1 : mM} {n : Nat} {x : Int32} (hd : mD mi pc 1 nx (.i2c)) (kk : AW mi d nx loc (vI (x.toUInt32 % 65536).toInt32 :: stk) M o M1 n) : AW mi d pc loc (vI x :: stk) M o M1 n := by
  intro D ρ cA bs LS sa xs p l e R s m args below meth c Q cE sE hF hcE hsE hFin H locs ls cells slots hc hs hRep hS hl
  obtain ⟨hdg, rfl⟩ := hd
  have k := kk D ρ cA bs LS sa xs p l e R s m args below meth c Q cE sE hF hcE hsE hFin H locs ls cells slots hc hs hRep hS hl
  obtain ⟨hx, hb, hml, hown, htab, hlocks, hr, hl0, hfr, hlo, hV, hH, hLS⟩ := hF
  exact lv_i2c hx hb hdg rfl k
theorem aw_lcmp {mi d pc nx : Nat} {loc : List (Option mAV)} {stk : List mAV} {M : mM} {o : mOut} {M1 : mM} {n : Nat} {x y : Int64} (hd : mD mi pc 1 nx (.lcmp)) (kk : AW mi d nx loc (vI (lg_cmp x y) :: stk) M o M1 n) : AW mi d pc loc (vL y :: vL x :: stk) M o M1 n := by
  intro D ρ cA bs LS sa xs p l e R s m args below meth c Q cE sE hF hcE hsE hFin H locs ls cells slots hc hs hRep hS hl
  obtain ⟨hdg, rfl⟩ := hd
  have k := kk D ρ cA bs LS sa xs p l e R s m args below meth c Q cE sE hF hcE hsE hFin H locs ls cells slots hc hs hRep hS hl
  obtain ⟨hx, hb, hml, hown, htab, hlocks, hr, hl0, hfr, hlo, hV, hH, hLS⟩ := hF
  exact W.lcmp hx hb hdg k
theorem aw_dupI {mi d pc nx : Nat} {loc : List (Option mAV)} {stk : List mAV} {M : mM} {o : mOut} {M1 : mM} {n : Nat} {x : Int32} (hd : mD mi pc 1 nx (.dup)) (kk : AW mi d nx loc (vI x :: vI x :: stk) M o M1 n) : AW mi d pc loc (vI x :: stk) M o M1 n := by
  intro D ρ cA bs LS sa xs p l e R s m args below meth c Q cE sE hF hcE hsE hFin H locs ls cells slots hc hs hRep hS hl
  obtain ⟨hdg, rfl⟩ := hd
  have k := kk D ρ cA bs LS sa xs p l e R s m args below meth c Q cE sE hF hcE hsE hFin H locs ls cells slots hc hs hRep hS hl
  obtain ⟨hx, hb, hml, hown, htab, hlocks, hr, hl0, hfr, hlo, hV, hH, hLS⟩ := hF
  exact lv_dup hx hb hdg rfl k
theorem aw_dupR {mi d pc nx : Nat} {loc : List (Option mAV)} {stk : List mAV} {M : mM} {o : mOut} {M1 : mM} {n : Nat} {a b c0 : Nat} (hd : mD mi pc 1 nx (.dup)) (kk : AW mi d nx loc (vR a b c0 :: vR a b c0 :: stk) M o M1 n) : AW mi d pc loc (vR a b c0 :: stk) M o M1 n := by
  intro D ρ cA bs LS sa xs p l e R s m args below meth c Q cE sE hF hcE hsE hFin H locs ls cells slots hc hs hRep hS hl
  obtain ⟨hdg, rfl⟩ := hd
  have k := kk D ρ cA bs LS sa xs p l e R s m args below meth c Q cE sE hF hcE hsE hFin H locs ls cells slots hc hs hRep hS hl
  obtain ⟨hx, hb, hml, hown, htab, hlocks, hr, hl0, hfr, hlo, hV, hH, hLS⟩ := hF
  exact lv_dup hx hb hdg rfl k
theorem aw_dup2IR {mi d pc nx : Nat} {loc : List (Option mAV)} {stk : List mAV} {M : mM} {o : mOut} {M1 : mM} {n : Nat} {x : Int32} {a b c0 : Nat} (hd : mD mi pc 1 nx (.dup2)) (kk : AW mi d nx loc (vI x :: vR a b c0 :: vI x :: vR a b c0 :: stk) M o M1 n) : AW mi d pc loc (vI x :: vR a b c0 :: stk) M o M1 n := by
  intro D ρ cA bs LS sa xs p l e R s m args below meth c Q cE sE hF hcE hsE hFin H locs ls cells slots hc hs hRep hS hl
  obtain ⟨hdg, rfl⟩ := hd
  have k := kk D ρ cA bs LS sa xs p l e R s m args below meth c Q cE sE hF hcE hsE hFin H locs ls cells slots hc hs hRep hS hl
  obtain ⟨hx, hb, hml, hown, htab, hlocks, hr, hl0, hfr, hlo, hV, hH, hLS⟩ := hF
  exact lv_dup2_11 hx hb hdg rfl rfl k
theorem aw_popI {mi d pc nx : Nat} {loc : List (Option mAV)} {stk : List mAV} {M : mM} {o : mOut} {M1 : mM} {n : Nat} {x : Int32} (hd : mD mi pc 1 nx (.pop)) (kk : AW mi d nx loc stk M o M1 n) : AW mi d pc loc (vI x :: stk) M o M1 n := by
  intro D ρ cA bs LS sa xs p l e R s m args below meth c Q cE sE hF hcE hsE hFin H locs ls cells slots hc hs hRep hS hl
  obtain ⟨hdg, rfl⟩ := hd
  have k := kk D ρ cA bs LS sa xs p l e R s m args below meth c Q cE sE hF hcE hsE hFin H locs ls cells slots hc hs hRep hS hl
  obtain ⟨hx, hb, hml, hown, htab, hlocks, hr, hl0, hfr, hlo, hV, hH, hLS⟩ := hF
  exact lv_pop hx hb hdg rfl k
theorem aw_goto {mi d pc nx : Nat} {loc : List (Option mAV)} {stk : List mAV} {M : mM} {o : mOut} {M1 : mM} {n : Nat} {off : Int} {t : Nat} (hd : mD mi pc 3 nx (.goto off)) (ht : (pc : Int) + off = (t : Int)) (kk : AW mi d t loc stk M o M1 n) : AW mi d pc loc stk M o M1 n := by
  intro D ρ cA bs LS sa xs p l e R s m args below meth c Q cE sE hF hcE hsE hFin H locs ls cells slots hc hs hRep hS hl
  obtain ⟨hdg, rfl⟩ := hd
  have k := kk D ρ cA bs LS sa xs p l e R s m args below meth c Q cE sE hF hcE hsE hFin H locs ls cells slots hc hs hRep hS hl
  obtain ⟨hx, hb, hml, hown, htab, hlocks, hr, hl0, hfr, hlo, hV, hH, hLS⟩ := hF
  exact lv_goto hx hb hdg ht k
theorem aw_if_eq {mi d pc nx : Nat} {loc : List (Option mAV)} {stk : List mAV} {M : mM} {o : mOut} {M1 : mM} {n : Nat} {x : Int32} {off : Int} (t : Nat) (hd : mD mi pc 3 nx (.ifCond .eq off)) (ht : (pc : Int) + off = (t : Int)) (kt : x = 0 → AW mi d t loc stk M o M1 n) (kf : ¬ x = 0 → AW mi d nx loc stk M o M1 n) : AW mi d pc loc (vI x :: stk) M o M1 n := by
  intro D ρ cA bs LS sa xs p l e R s m args below meth c Q cE sE hF hcE hsE hFin H locs ls cells slots hc hs hRep hS hl
  obtain ⟨hdg, rfl⟩ := hd
  have k1 := fun q => kt q D ρ cA bs LS sa xs p l e R s m args below meth c Q cE sE hF hcE hsE hFin H locs ls cells slots hc hs hRep hS hl
  have k2 := fun q => kf q D ρ cA bs LS sa xs p l e R s m args below meth c Q cE sE hF hcE hsE hFin H locs ls cells slots hc hs hRep hS hl
  obtain ⟨hx, hb, hml, hown, htab, hlocks, hr, hl0, hfr, hlo, hV, hH, hLS⟩ := hF
  exact lv_if_eq hx hb hdg ht k1 k2
theorem aw_icmp_eq {mi d pc nx : Nat} {loc : List (Option mAV)} {stk : List mAV} {M : mM} {o : mOut} {M1 : mM} {n : Nat} {x y : Int32} {off : Int} (t : Nat) (hd : mD mi pc 3 nx (.if_icmp .eq off)) (ht : (pc : Int) + off = (t : Int)) (kt : x = y → AW mi d t loc stk M o M1 n) (kf : ¬ x = y → AW mi d nx loc stk M o M1 n) : AW mi d pc loc (vI y :: vI x :: stk) M o M1 n := by
  intro D ρ cA bs LS sa xs p l e R s m args below meth c Q cE sE hF hcE hsE hFin H locs ls cells slots hc hs hRep hS hl
  obtain ⟨hdg, rfl⟩ := hd
  have k1 := fun q => kt q D ρ cA bs LS sa xs p l e R s m args below meth c Q cE sE hF hcE hsE hFin H locs ls cells slots hc hs hRep hS hl
  have k2 := fun q => kf q D ρ cA bs LS sa xs p l e R s m args below meth c Q cE sE hF hcE hsE hFin H locs ls cells slots hc hs hRep hS hl
  obtain ⟨hx, hb, hml, hown, htab, hlocks, hr, hl0, hfr, hlo, hV, hH, hLS⟩ := hF
  exact lv_icmp_eq hx hb hdg ht k1 k2
theorem aw_if_ne {mi d pc nx : Nat} {loc : List (Option mAV)} {stk : List mAV} {M : mM} {o : mOut} {M1 : mM} {n : Nat} {x : Int32} {off : Int} (t : Nat) (hd : mD mi pc 3 nx (.ifCond .ne off)) (ht : (pc : Int) + off = (t : Int)) (kt : ¬ x = 0 → AW mi d t loc stk M o M1 n) (kf : x = 0 → AW mi d nx loc stk M o M1 n) : AW mi d pc loc (vI x :: stk) M o M1 n := by
  intro D ρ cA bs LS sa xs p l e R s m args below meth c Q cE sE hF hcE hsE hFin H locs ls cells slots hc hs hRep hS hl
  obtain ⟨hdg, rfl⟩ := hd
  have k1 := fun q => kt q D ρ cA bs LS sa xs p l e R s m args below meth c Q cE sE hF hcE hsE hFin H locs ls cells slots hc hs hRep hS hl
  have k2 := fun q => kf q D ρ cA bs LS sa xs p l e R s m args below meth c Q cE sE hF hcE hsE hFin H locs ls cells slots hc hs hRep hS hl
  obtain ⟨hx, hb, hml, hown, htab, hlocks, hr, hl0, hfr, hlo, hV, hH, hLS⟩ := hF
  exact lv_if_ne hx hb hdg ht k1 k2
theorem aw_icmp_ne {mi d pc nx : Nat} {loc : List (Option mAV)} {stk : List mAV} {M : mM} {o : mOut} {M1 : mM} {n : Nat} {x y : Int32} {off : Int} (t : Nat) (hd : mD mi pc 3 nx (.if_icmp .ne off)) (ht : (pc : Int) + off = (t : Int)) (kt : ¬ x = y → AW mi d t loc stk M o M1 n) (kf : x = y → AW mi d nx loc stk M o M1 n) : AW mi d pc loc (vI y :: vI x :: stk) M o M1 n := by
  intro D ρ cA bs LS sa xs p l e R s m args below meth c Q cE sE hF hcE hsE hFin H locs ls cells slots hc hs hRep hS hl
  obtain ⟨hdg, rfl⟩ := hd
  have k1 := fun q => kt q D ρ cA bs LS sa xs p l e R s m args below meth c Q cE sE hF hcE hsE hFin H locs ls cells slots hc hs hRep hS hl
  have k2 := fun q => kf q D ρ cA bs LS sa xs p l e R s m args below meth c Q cE sE hF hcE hsE hFin H locs ls cells slots hc hs hRep hS hl
  obtain ⟨hx, hb, hml, hown, htab, hlocks, hr, hl0, hfr, hlo, hV, hH, hLS⟩ := hF
  exact lv_icmp_ne hx hb hdg ht k1 k2
theorem aw_if_lt {mi d pc nx : Nat} {loc : List (Option mAV)} {stk : List mAV} {M : mM} {o : mOut} {M1 : mM} {n : Nat} {x : Int32} {off : Int} (t : Nat) (hd : mD mi pc 3 nx (.ifCond .lt off)) (ht : (pc : Int) + off = (t : Int)) (kt : x < 0 → AW mi d t loc stk M o M1 n) (kf : ¬ x < 0 → AW mi d nx loc stk M o M1 n) : AW mi d pc loc (vI x :: stk) M o M1 n := by
  intro D ρ cA bs LS sa xs p l e R s m args below meth c Q cE sE hF hcE hsE hFin H locs ls cells slots hc hs hRep hS hl
  obtain ⟨hdg, rfl⟩ := hd
  have k1 := fun q => kt q D ρ cA bs LS sa xs p l e R s m args below meth c Q cE sE hF hcE hsE hFin H locs ls cells slots hc hs hRep hS hl
  have k2 := fun q => kf q D ρ cA bs LS sa xs p l e R s m args below meth c Q cE sE hF hcE hsE hFin H locs ls cells slots hc hs hRep hS hl
  obtain ⟨hx, hb, hml, hown, htab, hlocks, hr, hl0, hfr, hlo, hV, hH, hLS⟩ := hF
  exact lv_if_lt hx hb hdg ht k1 k2
theorem aw_icmp_lt {mi d pc nx : Nat} {loc : List (Option mAV)} {stk : List mAV} {M : mM} {o : mOut} {M1 : mM} {n : Nat} {x y : Int32} {off : Int} (t : Nat) (hd : mD mi pc 3 nx (.if_icmp .lt off)) (ht : (pc : Int) + off = (t : Int)) (kt : x < y → AW mi d t loc stk M o M1 n) (kf : ¬ x < y → AW mi d nx loc stk M o M1 n) : AW mi d pc loc (vI y :: vI x :: stk) M o M1 n := by
  intro D ρ cA bs LS sa xs p l e R s m args below meth c Q cE sE hF hcE hsE hFin H locs ls cells slots hc hs hRep hS hl
  obtain ⟨hdg, rfl⟩ := hd
  have k1 := fun q => kt q D ρ cA bs LS sa xs p l e R s m args below meth c Q cE sE hF hcE hsE hFin H locs ls cells slots hc hs hRep hS hl
  have k2 := fun q => kf q D ρ cA bs LS sa xs p l e R s m args below meth c Q cE sE hF hcE hsE hFin H locs ls cells slots hc hs hRep hS hl
  obtain ⟨hx, hb, hml, hown, htab, hlocks, hr, hl0, hfr, hlo, hV, hH, hLS⟩ := hF
  exact lv_icmp_lt hx hb hdg ht k1 k2
theorem aw_if_ge {mi d pc nx : Nat} {loc : List (Option mAV)} {stk : List mAV} {M : mM} {o : mOut} {M1 : mM} {n : Nat} {x : Int32} {off : Int} (t : Nat) (hd : mD mi pc 3 nx (.ifCond .ge off)) (ht : (pc : Int) + off = (t : Int)) (kt : 0 ≤ x → AW mi d t loc stk M o M1 n) (kf : ¬ 0 ≤ x → AW mi d nx loc stk M o M1 n) : AW mi d pc loc (vI x :: stk) M o M1 n := by
  intro D ρ cA bs LS sa xs p l e R s m args below meth c Q cE sE hF hcE hsE hFin H locs ls cells slots hc hs hRep hS hl
  obtain ⟨hdg, rfl⟩ := hd
  have k1 := fun q => kt q D ρ cA bs LS sa xs p l e R s m args below meth c Q cE sE hF hcE hsE hFin H locs ls cells slots hc hs hRep hS hl
  have k2 := fun q => kf q D ρ cA bs LS sa xs p l e R s m args below meth c Q cE sE hF hcE hsE hFin H locs ls cells slots hc hs hRep hS hl
  obtain ⟨hx, hb, hml, hown, htab, hlocks, hr, hl0, hfr, hlo, hV, hH, hLS⟩ := hF
  exact lv_if_ge hx hb hdg ht k1 k2
theorem aw_icmp_ge {mi d pc nx : Nat} {loc : List (Option mAV)} {stk : List mAV} {M : mM} {o : mOut} {M1 : mM} {n : Nat} {x y : Int32} {off : Int} (t : Nat) (hd : mD mi pc 3 nx (.if_icmp .ge off)) (ht : (pc : Int) + off = (t : Int)) (kt : y ≤ x → AW mi d t loc stk M o M1 n) (kf : ¬ y ≤ x → AW mi d nx loc stk M o M1 n) : AW mi d pc loc (vI y :: vI x :: stk) M o M1 n := by
  intro D ρ cA bs LS sa xs p l e R s m args below meth c Q cE sE hF hcE hsE hFin H locs ls cells slots hc hs hRep hS hl
  obtain ⟨hdg, rfl⟩ := hd
  have k1 := fun q => kt q D ρ cA bs LS sa xs p l e R s m args below meth c Q cE sE hF hcE hsE hFin H locs ls cells slots hc hs hRep hS hl
  have k2 := fun q => kf q D ρ cA bs LS sa xs p l e R s m args below meth c Q cE sE hF hcE hsE hFin H locs ls cells slots hc hs hRep hS hl
  obtain ⟨hx, hb, hml, hown, htab, hlocks, hr, hl0, hfr, hlo, hV, hH, hLS⟩ := hF
  exact lv_icmp_ge hx hb hdg ht k1 k2
theorem aw_if_gt {mi d pc nx : Nat} {loc : List (Option mAV)} {stk : List mAV} {M : mM} {o : mOut} {M1 : mM} {n : Nat} {x : Int32} {off : Int} (t : Nat) (hd : mD mi pc 3 nx (.ifCond .gt off)) (ht : (pc : Int) + off = (t : Int)) (kt : 0 < x → AW mi d t loc stk M o M1 n) (kf : ¬ 0 < x → AW mi d nx loc stk M o M1 n) : AW mi d pc loc (vI x :: stk) M o M1 n := by
  intro D ρ cA bs LS sa xs p l e R s m args below meth c Q cE sE hF hcE hsE hFin H locs ls cells slots hc hs hRep hS hl
  obtain ⟨hdg, rfl⟩ := hd
  have k1 := fun q => kt q D ρ cA bs LS sa xs p l e R s m args below meth c Q cE sE hF hcE hsE hFin H locs ls cells slots hc hs hRep hS hl
  have k2 := fun q => kf q D ρ cA bs LS sa xs p l e R s m args below meth c Q cE sE hF hcE hsE hFin H locs ls cells slots hc hs hRep hS hl
  obtain ⟨hx, hb, hml, hown, htab, hlocks, hr, hl0, hfr, hlo, hV, hH, hLS⟩ := hF
  exact lv_if_gt hx hb hdg ht k1 k2
theorem aw_icmp_gt {mi d pc nx : Nat} {loc : List (Option mAV)} {stk : List mAV} {M : mM} {o : mOut} {M1 : mM} {n : Nat} {x y : Int32} {off : Int} (t : Nat) (hd : mD mi pc 3 nx (.if_icmp .gt off)) (ht : (pc : Int) + off = (t : Int)) (kt : y < x → AW mi d t loc stk M o M1 n) (kf : ¬ y < x → AW mi d nx loc stk M o M1 n) : AW mi d pc loc (vI y :: vI x :: stk) M o M1 n := by
  intro D ρ cA bs LS sa xs p l e R s m args below meth c Q cE sE hF hcE hsE hFin H locs ls cells slots hc hs hRep hS hl
  obtain ⟨hdg, rfl⟩ := hd
  have k1 := fun q => kt q D ρ cA bs LS sa xs p l e R s m args below meth c Q cE sE hF hcE hsE hFin H locs ls cells slots hc hs hRep hS hl
  have k2 := fun q => kf q D ρ cA bs LS sa xs p l e R s m args below meth c Q cE sE hF hcE hsE hFin H locs ls cells slots hc hs hRep hS hl
  obtain ⟨hx, hb, hml, hown, htab, hlocks, hr, hl0, hfr, hlo, hV, hH, hLS⟩ := hF
  exact lv_icmp_gt hx hb hdg ht k1 k2
theorem aw_if_le {mi d pc nx : Nat} {loc : List (Option mAV)} {stk : List mAV} {M : mM} {o : mOut} {M1 : mM} {n : Nat} {x : Int32} {off : Int} (t : Nat) (hd : mD mi pc 3 nx (.ifCond .le off)) (ht : (pc : Int) + off = (t : Int)) (kt : x ≤ 0 → AW mi d t loc stk M o M1 n) (kf : ¬ x ≤ 0 → AW mi d nx loc stk M o M1 n) : AW mi d pc loc (vI x :: stk) M o M1 n := by
  intro D ρ cA bs LS sa xs p l e R s m args below meth c Q cE sE hF hcE hsE hFin H locs ls cells slots hc hs hRep hS hl
  obtain ⟨hdg, rfl⟩ := hd
  have k1 := fun q => kt q D ρ cA bs LS sa xs p l e R s m args below meth c Q cE sE hF hcE hsE hFin H locs ls cells slots hc hs hRep hS hl
  have k2 := fun q => kf q D ρ cA bs LS sa xs p l e R s m args below meth c Q cE sE hF hcE hsE hFin H locs ls cells slots hc hs hRep hS hl
  obtain ⟨hx, hb, hml, hown, htab, hlocks, hr, hl0, hfr, hlo, hV, hH, hLS⟩ := hF
  exact lv_if_le hx hb hdg ht k1 k2
theorem aw_icmp_le {mi d pc nx : Nat} {loc : List (Option mAV)} {stk : List mAV} {M : mM} {o : mOut} {M1 : mM} {n : Nat} {x y : Int32} {off : Int} (t : Nat) (hd : mD mi pc 3 nx (.if_icmp .le off)) (ht : (pc : Int) + off = (t : Int)) (kt : x ≤ y → AW mi d t loc stk M o M1 n) (kf : ¬ x ≤ y → AW mi d nx loc stk M o M1 n) : AW mi d pc loc (vI y :: vI x :: stk) M o M1 n := by
  intro D ρ cA bs LS sa xs p l e R s m args below meth c Q cE sE hF hcE hsE hFin H locs ls cells slots hc hs hRep hS hl
  obtain ⟨hdg, rfl⟩ := hd
  have k1 := fun q => kt q D ρ cA bs LS sa xs p l e R s m args below meth c Q cE sE hF hcE hsE hFin H locs ls cells slots hc hs hRep hS hl
  have k2 := fun q => kf q D ρ cA bs LS sa xs p l e R s m args below meth c Q cE sE hF hcE hsE hFin H locs ls cells slots hc hs hRep hS hl
  obtain ⟨hx, hb, hml, hown, htab, hlocks, hr, hl0, hfr, hlo, hV, hH, hLS⟩ := hF
  exact lv_icmp_le hx hb hdg ht k1 k2
theorem aw_lcmp_eq {mi d pc nx : Nat} {loc : List (Option mAV)} {stk : List mAV} {M : mM} {o : mOut} {M1 : mM} {n : Nat} {x y : Int64} {off : Int} {nx2 : Nat} (t : Nat) (hd0 : mD mi pc 1 nx .lcmp) (hd : mD mi nx 3 nx2 (.ifCond .eq off)) (ht : (nx : Int) + off = (t : Int)) (kt : x = y → AW mi d t loc stk M o M1 n) (kf : ¬ x = y → AW mi d nx2 loc stk M o M1 n) : AW mi d pc loc (vL y :: vL x :: stk) M o M1 n :=
  aw_lcmp hd0 (aw_if_eq t hd ht (fun q => kt ((lg_cmp_eq x y).mp q)) (fun q => kf (fun w => q ((lg_cmp_eq x y).mpr w))))
theorem aw_lcmp_ne {mi d pc nx : Nat} {loc : List (Option mAV)} {stk : List mAV} {M : mM} {o : mOut} {M1 : mM} {n : Nat} {x y : Int64} {off : Int} {nx2 : Nat} (t : Nat) (hd0 : mD mi pc 1 nx .lcmp) (hd : mD mi nx 3 nx2 (.ifCond .ne off)) (ht : (nx : Int) + off = (t : Int)) (kt : ¬ x = y → AW mi d t loc stk M o M1 n) (kf : x = y → AW mi d nx2 loc stk M o M1 n) : AW mi d pc loc (vL y :: vL x :: stk) M o M1 n :=
  aw_lcmp hd0 (aw_if_ne t hd ht (fun q => kt (fun w => q ((lg_cmp_eq x y).mpr w))) (fun q => kf ((lg_cmp_eq x y).mp q)))
theorem aw_lcmp_lt {mi d pc nx : Nat} {loc : List (Option mAV)} {stk : List mAV} {M : mM} {o : mOut} {M1 : mM} {n : Nat} {x y : Int64} {off : Int} {nx2 : Nat} (t : Nat) (hd0 : mD mi pc 1 nx .lcmp) (hd : mD mi nx 3 nx2 (.ifCond .lt off)) (ht : (nx : Int) + off = (t : Int)) (kt : x < y → AW mi d t loc stk M o M1 n) (kf : ¬ x < y → AW mi d nx2 loc stk M o M1 n) : AW mi d pc loc (vL y :: vL x :: stk) M o M1 n :=
  aw_lcmp hd0 (aw_if_lt t hd ht (fun q => kt ((lg_cmp_lt x y).mp q)) (fun q => kf (fun w => q ((lg_cmp_lt x y).mpr w))))
theorem aw_lcmp_ge {mi d pc nx : Nat} {loc : List (Option mAV)} {stk : List mAV} {M : mM} {o : mOut} {M1 : mM} {n : Nat} {x y : Int64} {off : Int} {nx2 : Nat} (t : Nat) (hd0 : mD mi pc 1 nx .lcmp) (hd : mD mi nx 3 nx2 (.ifCond .ge off)) (ht : (nx : Int) + off = (t : Int)) (kt : y ≤ x → AW mi d t loc stk M o M1 n) (kf : ¬ y ≤ x → AW mi d nx2 loc stk M o M1 n) : AW mi d pc loc (vL y :: vL x :: stk) M o M1 n :=
  aw_lcmp hd0 (aw_if_ge t hd ht (fun q => kt ((lg_cmp_ge x y).mp q)) (fun q => kf (fun w => q ((lg_cmp_ge x y).mpr w))))
theorem aw_lcmp_gt {mi d pc nx : Nat} {loc : List (Option mAV)} {stk : List mAV} {M : mM} {o : mOut} {M1 : mM} {n : Nat} {x y : Int64} {off : Int} {nx2 : Nat} (t : Nat) (hd0 : mD mi pc 1 nx .lcmp) (hd : mD mi nx 3 nx2 (.ifCond .gt off)) (ht : (nx : Int) + off = (t : Int)) (kt : y < x → AW mi d t loc stk M o M1 n) (kf : ¬ y < x → AW mi d nx2 loc stk M o M1 n) : AW mi d pc loc (vL y :: vL x :: stk) M o M1 n :=
  aw_lcmp hd0 (aw_if_gt t hd ht (fun q => kt ((lg_cmp_gt x y).mp q)) (fun q => kf (fun w => q ((lg_cmp_gt x y).mpr w))))
theorem aw_lcmp_le {mi d pc nx : Nat} {loc : List (Option mAV)} {stk : List mAV} {M : mM} {o : mOut} {M1 : mM} {n : Nat} {x y : Int64} {off : Int} {nx2 : Nat} (t : Nat) (hd0 : mD mi pc 1 nx .lcmp) (hd : mD mi nx 3 nx2 (.ifCond .le off)) (ht : (nx : Int) + off = (t : Int)) (kt : x ≤ y → AW mi d t loc stk M o M1 n) (kf : ¬ x ≤ y → AW mi d nx2 loc stk M o M1 n) : AW mi d pc loc (vL y :: vL x :: stk) M o M1 n :=
  aw_lcmp hd0 (aw_if_le t hd ht (fun q => kt ((lg_cmp_le x y).mp q)) (fun q => kf (fun w => q ((lg_cmp_le x y).mpr w))))
theorem aw_istore {mi d pc nx : Nat} {loc : List (Option mAV)} {stk : List mAV} {M : mM} {o : mOut} {M1 : mM} {n : Nat} {i : Nat} {x : Int32} {loc2 : List (Option mAV)} (hd : mD mi pc 2 nx (.istore i)) (hi : i < loc.length) (hq : mSt1 loc i (vI x) = loc2) (kk : AW mi d nx loc2 stk M o M1 n) : AW mi d pc loc (vI x :: stk) M o M1 n := by
  intro D ρ cA bs LS sa xs p l e R s m args below meth c Q cE sE hF hcE hsE hFin H locs ls cells slots hc hs hRep hS hl
  obtain ⟨hdg, rfl⟩ := hd
  subst hq
  have k := fun ls9 (h9 : lR ρ (mL mi) (mSt1 loc i (vI x)) ls9) => kk D ρ cA bs LS sa xs p l e R s m args below meth c Q cE sE hF hcE hsE hFin H locs ls9 cells slots hc hs hRep hS h9
  obtain ⟨hx, hb, hml, hown, htab, hlocks, hr, hl0, hfr, hlo, hV, hH, hLS⟩ := hF
  exact lv_istore hx hb hdg hl.has (by rw [← hl.2.2.1]; exact hi) rfl (fun ls9 h9 => k ls9 (hl.st1 h9))
theorem aw_istore_n {mi d pc nx : Nat} {loc : List (Option mAV)} {stk : List mAV} {M : mM} {o : mOut} {M1 : mM} {n : Nat} {i : Fin 4} {x : Int32} {loc2 : List (Option mAV)} (hd : mD mi pc 1 nx (.istore_n i)) (hi : (i : Nat) < loc.length) (hq : mSt1 loc (i : Nat) (vI x) = loc2) (kk : AW mi d nx loc2 stk M o M1 n) : AW mi d pc loc (vI x :: stk) M o M1 n := by
  intro D ρ cA bs LS sa xs p l e R s m args below meth c Q cE sE hF hcE hsE hFin H locs ls cells slots hc hs hRep hS hl
  obtain ⟨hdg, rfl⟩ := hd
  subst hq
  have k := fun ls9 (h9 : lR ρ (mL mi) (mSt1 loc (i : Nat) (vI x)) ls9) => kk D ρ cA bs LS sa xs p l e R s m args below meth c Q cE sE hF hcE hsE hFin H locs ls9 cells slots hc hs hRep hS h9
  obtain ⟨hx, hb, hml, hown, htab, hlocks, hr, hl0, hfr, hlo, hV, hH, hLS⟩ := hF
  exact lv_istore_n hx hb hdg rfl hl.has (by rw [← hl.2.2.1]; exact hi) rfl (fun ls9 h9 => k ls9 (hl.st1 h9))
theorem aw_lstore {mi d pc nx : Nat} {loc : List (Option mAV)} {stk : List mAV} {M : mM} {o : mOut} {M1 : mM} {n : Nat} {i : Nat} {x : Int64} {loc2 : List (Option mAV)} (hd : mD mi pc 2 nx (.lstore i)) (hi : i + 1 < loc.length) (hq : mSt2 loc i (vL x) = loc2) (kk : AW mi d nx loc2 stk M o M1 n) : AW mi d pc loc (vL x :: stk) M o M1 n := by
  intro D ρ cA bs LS sa xs p l e R s m args below meth c Q cE sE hF hcE hsE hFin H locs ls cells slots hc hs hRep hS hl
  obtain ⟨hdg, rfl⟩ := hd
  subst hq
  have k := fun ls9 (h9 : lR ρ (mL mi) (mSt2 loc i (vL x)) ls9) => kk D ρ cA bs LS sa xs p l e R s m args below meth c Q cE sE hF hcE hsE hFin H locs ls9 cells slots hc hs hRep hS h9
  obtain ⟨hx, hb, hml, hown, htab, hlocks, hr, hl0, hfr, hlo, hV, hH, hLS⟩ := hF
  exact lv_lstore hx hb hdg hl.has (by rw [← hl.2.2.1]; exact hi) rfl (fun ls9 h9 => k ls9 (hl.st2 h9))
theorem aw_lstore_n {mi d pc nx : Nat} {loc : List (Option mAV)} {stk : List mAV} {M : mM} {o : mOut} {M1 : mM} {n : Nat} {i : Fin 4} {x : Int64} {loc2 : List (Option mAV)} (hd : mD mi pc 1 nx (.lstore_n i)) (hi : (i : Nat) + 1 < loc.length) (hq : mSt2 loc (i : Nat) (vL x) = loc2) (kk : AW mi d nx loc2 stk M o M1 n) : AW mi d pc loc (vL x :: stk) M o M1 n := by
  intro D ρ cA bs LS sa xs p l e R s m args below meth c Q cE sE hF hcE hsE hFin H locs ls cells slots hc hs hRep hS hl
  obtain ⟨hdg, rfl⟩ := hd
  subst hq
  have k := fun ls9 (h9 : lR ρ (mL mi) (mSt2 loc (i : Nat) (vL x)) ls9) => kk D ρ cA bs LS sa xs p l e R s m args below meth c Q cE sE hF hcE hsE hFin H locs ls9 cells slots hc hs hRep hS h9
  obtain ⟨hx, hb, hml, hown, htab, hlocks, hr, hl0, hfr, hlo, hV, hH, hLS⟩ := hF
  exact lv_lstore_n hx hb hdg rfl hl.has (by rw [← hl.2.2.1]; exact hi) rfl (fun ls9 h9 => k ls9 (hl.st2 h9))
theorem aw_astore {mi d pc nx : Nat} {loc : List (Option mAV)} {stk : List mAV} {M : mM} {o : mOut} {M1 : mM} {n : Nat} {i : Nat} {a b c0 : Nat} {loc2 : List (Option mAV)} (hd : mD mi pc 2 nx (.astore i)) (hi : i < loc.length) (hq : mSt1 loc i (vR a b c0) = loc2) (kk : AW mi d nx loc2 stk M o M1 n) : AW mi d pc loc (vR a b c0 :: stk) M o M1 n := by
  intro D ρ cA bs LS sa xs p l e R s m args below meth c Q cE sE hF hcE hsE hFin H locs ls cells slots hc hs hRep hS hl
  obtain ⟨hdg, rfl⟩ := hd
  subst hq
  have k := fun ls9 (h9 : lR ρ (mL mi) (mSt1 loc i (vR a b c0)) ls9) => kk D ρ cA bs LS sa xs p l e R s m args below meth c Q cE sE hF hcE hsE hFin H locs ls9 cells slots hc hs hRep hS h9
  obtain ⟨hx, hb, hml, hown, htab, hlocks, hr, hl0, hfr, hlo, hV, hH, hLS⟩ := hF
  exact lv_astore hx hb hdg hl.has (by rw [← hl.2.2.1]; exact hi) rfl (fun ls9 h9 => k ls9 (hl.st1 h9))
theorem aw_astore_n {mi d pc nx : Nat} {loc : List (Option mAV)} {stk : List mAV} {M : mM} {o : mOut} {M1 : mM} {n : Nat} {i : Fin 4} {a b c0 : Nat} {loc2 : List (Option mAV)} (hd : mD mi pc 1 nx (.astore_n i)) (hi : (i : Nat) < loc.length) (hq : mSt1 loc (i : Nat) (vR a b c0) = loc2) (kk : AW mi d nx loc2 stk M o M1 n) : AW mi d pc loc (vR a b c0 :: stk) M o M1 n := by
  intro D ρ cA bs LS sa xs p l e R s m args below meth c Q cE sE hF hcE hsE hFin H locs ls cells slots hc hs hRep hS hl
  obtain ⟨hdg, rfl⟩ := hd
  subst hq
  have k := fun ls9 (h9 : lR ρ (mL mi) (mSt1 loc (i : Nat) (vR a b c0)) ls9) => kk D ρ cA bs LS sa xs p l e R s m args below meth c Q cE sE hF hcE hsE hFin H locs ls9 cells slots hc hs hRep hS h9
  obtain ⟨hx, hb, hml, hown, htab, hlocks, hr, hl0, hfr, hlo, hV, hH, hLS⟩ := hF
  exact lv_astore_n hx hb hdg rfl hl.has (by rw [← hl.2.2.1]; exact hi) rfl (fun ls9 h9 => k ls9 (hl.st1 h9))
theorem mkL_at {ρ : mRef → Nat} {loc : List (Option mAV)} {i : Nat} {a : mAV} (h : loc[i]? = some (some a)) : ∃ k : Nat, (mkL ρ loc)[k]? = some (i, cv ρ a) := List.getElem?_of_mem (mkL_mem.mpr ⟨a, h, rfl⟩)
theorem aw_iinc {mi d pc nx : Nat} {loc : List (Option mAV)} {stk : List mAV} {M : mM} {o : mOut} {M1 : mM} {n : Nat} {i : Nat} {v : Int} {x y : Int32} {loc2 : List (Option mAV)} (hd : mD mi pc 3 nx (.iinc i v)) (hv : loc[i]? = some (some (vI x))) (hy : Int32.ofInt v = y) (hq : mSt1 loc i (vI (x + y)) = loc2) (kk : AW mi d nx loc2 stk M o M1 n) : AW mi d pc loc stk M o M1 n := by
  intro D ρ cA bs LS sa xs p l e R s m args below meth c Q cE sE hF hcE hsE hFin H locs ls cells slots hc hs hRep hS hl
  obtain ⟨hdg, rfl⟩ := hd
  subst hq
  subst hy
  have k := fun ls9 (h9 : lR ρ (mL mi) (mSt1 loc i (vI (x + Int32.ofInt v))) ls9) => kk D ρ cA bs LS sa xs p l e R s m args below meth c Q cE sE hF hcE hsE hFin H locs ls9 cells slots hc hs hRep hS h9
  obtain ⟨hx, hb, hml, hown, htab, hlocks, hr, hl0, hfr, hlo, hV, hH, hLS⟩ := hF
  obtain ⟨k9, hk9⟩ := mkL_at (ρ := ρ) hv
  exact lv_iinc hx hb hdg hl.has (k := k9) hk9 rfl (by rw [← hl.2.2.1]; exact (List.getElem?_eq_some_iff.mp hv).1) rfl (fun ls9 h9 => k ls9 (hl.st1 h9))
theorem aw_ireturn {mi d pc nx : Nat} {loc : List (Option mAV)} {M : mM} {M1 : mM} {n : Nat} {x y : Int32} (hd : mD mi pc 1 nx .ireturn) (hr9 : mR mi = some .int) (h1 : x = y) (h2 : M = M1) : AW mi d pc loc [vI x] M (.inl (some (vI y))) M1 n := by
  intro D ρ cA bs LS sa xs p l e R s m args below meth c Q cE sE hF hcE hsE hFin H locs ls cells slots hc hs hRep hS hl
  obtain ⟨hdg, rfl⟩ := hd
  subst h2
  subst h1
  exact W.widen (by omega) (by omega) (hFin H locs ls pc _ ⟨rfl, _, hr9, rfl⟩ hdg hRep hS)
theorem aw_zreturn {mi d pc nx : Nat} {loc : List (Option mAV)} {M : mM} {M1 : mM} {n : Nat} {x y : Int32} (hd : mD mi pc 1 nx .ireturn) (hr9 : mR mi = some .boolean) (hz : x = 0 ∨ x = 1) (h1 : x = y) (h2 : M = M1) : AW mi d pc loc [vI x] M (.inl (some (vI y))) M1 n := by
  intro D ρ cA bs LS sa xs p l e R s m args below meth c Q cE sE hF hcE hsE hFin H locs ls cells slots hc hs hRep hS hl
  obtain ⟨hdg, rfl⟩ := hd
  subst h2
  subst h1
  exact W.widen (by omega) (by omega) (hFin H locs ls pc _ ⟨rfl, _, hr9, by rcases hz with rfl | rfl <;> rfl⟩ hdg hRep hS)
theorem aw_lreturn {mi d pc nx : Nat} {loc : List (Option mAV)} {M : mM} {M1 : mM} {n : Nat} {x y : Int64} (hd : mD mi pc 1 nx .lreturn) (hr9 : mR mi = some .long) (h1 : x = y) (h2 : M = M1) : AW mi d pc loc [vL x] M (.inl (some (vL y))) M1 n := by
  intro D ρ cA bs LS sa xs p l e R s m args below meth c Q cE sE hF hcE hsE hFin H locs ls cells slots hc hs hRep hS hl
  obtain ⟨hdg, rfl⟩ := hd
  subst h2
  subst h1
  exact W.widen (by omega) (by omega) (hFin H locs ls pc _ ⟨rfl, hr9⟩ hdg hRep hS)
theorem aw_areturn {mi d pc nx : Nat} {loc : List (Option mAV)} {M : mM} {M1 : mM} {n : Nat} {a b c0 : Nat} (hd : mD mi pc 1 nx .areturn) (hr9 : ∃ C, mR mi = some (.object C)) (h2 : M = M1) : AW mi d pc loc [vR a b c0] M (.inl (some (vR a b c0))) M1 n := by
  intro D ρ cA bs LS sa xs p l e R s m args below meth c Q cE sE hF hcE hsE hFin H locs ls cells slots hc hs hRep hS hl
  obtain ⟨hdg, rfl⟩ := hd
  subst h2
  exact W.widen (by omega) (by omega) (hFin H locs ls pc _ ⟨rfl, hr9⟩ hdg hRep hS)
theorem aw_return {mi d pc nx : Nat} {loc : List (Option mAV)} {M : mM} {M1 : mM} {n : Nat} (hd : mD mi pc 1 nx .return_) (hr9 : mR mi = none) (h2 : M = M1) : AW mi d pc loc [] M (.inl none) M1 n := by
  intro D ρ cA bs LS sa xs p l e R s m args below meth c Q cE sE hF hcE hsE hFin H locs ls cells slots hc hs hRep hS hl
  obtain ⟨hdg, rfl⟩ := hd
  subst h2
  exact W.widen (by omega) (by omega) (hFin H locs ls pc _ ⟨rfl, hr9⟩ hdg hRep hS)
theorem aw_getI {mi d pc nx : Nat} {loc : List (Option mAV)} {stk : List mAV} {M : mM} {o : mOut} {M1 : mM} {n : Nat} {own : String} {ix ci k i j : Nat} (hd : mD mi pc 3 nx (.getfield ix)) (hC : mC mi = own) (hf : mFS own ix ci k) (hk : ci < 7 ∧ k < mN ci) (ho : mOk (ci, i, j)) (hr9 : mRf (ci, i, j) k = none) (kk : AW mi d nx loc (vI (M (ci, i, j) k) :: stk) M o M1 n) : AW mi d pc loc (vR ci i j :: stk) M o M1 n := by
  intro D ρ cA bs LS sa xs p l e R s m args below meth c Q cE sE hF hcE hsE hFin H locs ls cells slots hc hs hRep hS hl
  obtain ⟨hdg, rfl⟩ := hd
  have k9 := kk D ρ cA bs LS sa xs p l e R s m args below meth c Q cE sE hF hcE hsE hFin H locs ls cells slots hc hs hRep hS hl
  obtain ⟨hx, hb, hml, hown, htab, hlocks, hr, hl0, hfr, hlo, hV, hH, hLS⟩ := hF
  refine w_get hx hb (by rw [hC] at hown; exact hown) hV hRep hf hk.1 hk.2 ho hdg ?_
  unfold mFv
  rw [hr9]
  exact k9
theorem aw_getR {mi d pc nx : Nat} {loc : List (Option mAV)} {stk : List mAV} {M : mM} {o : mOut} {M1 : mM} {n : Nat} {own : String} {ix ci k i j a b c0 : Nat} (hd : mD mi pc 3 nx (.getfield ix)) (hC : mC mi = own) (hf : mFS own ix ci k) (hk : ci < 7 ∧ k < mN ci) (ho : mOk (ci, i, j)) (hr9 : mRf (ci, i, j) k = some (a, b, c0)) (kk : AW mi d nx loc (vR a b c0 :: stk) M o M1 n) : AW mi d pc loc (vR ci i j :: stk) M o M1 n := by
  intro D ρ cA bs LS sa xs p l e R s m args below meth c Q cE sE hF hcE hsE hFin H locs ls cells slots hc hs hRep hS hl
  obtain ⟨hdg, rfl⟩ := hd
  have k9 := kk D ρ cA bs LS sa xs p l e R s m args below meth c Q cE sE hF hcE hsE hFin H locs ls cells slots hc hs hRep hS hl
  obtain ⟨hx, hb, hml, hown, htab, hlocks, hr, hl0, hfr, hlo, hV, hH, hLS⟩ := hF
  refine w_get hx hb (by rw [hC] at hown; exact hown) hV hRep hf hk.1 hk.2 ho hdg ?_
  unfold mFv
  rw [hr9]
  exact k9
theorem aw_putI {mi d pc nx : Nat} {loc : List (Option mAV)} {stk : List mAV} {M : mM} {o : mOut} {M1 : mM} {n : Nat} {own : String} {ix ci k i j : Nat} {v : Int32} (hd : mD mi pc 3 nx (.putfield ix)) (hC : mC mi = own) (hf : mFS own ix ci k) (hk : ci < 7 ∧ k < mN ci) (ho : mOk (ci, i, j)) (hr9 : mRf (ci, i, j) k = none) (hpo : mPo ci k .int) (kk : AW mi d nx loc stk (mUp M (ci, i, j) k v) o M1 n) : AW mi d pc loc (vI v :: vR ci i j :: stk) M o M1 n := by
  intro D ρ cA bs LS sa xs p l e R s m args below meth c Q cE sE hF hcE hsE hFin H locs ls cells slots hc hs hRep hS hl
  obtain ⟨hdg, rfl⟩ := hd
  have k9 := fun H9 locs9 hR9 hS9 => kk D ρ cA bs LS sa xs p l e R s m args below meth c Q cE sE hF hcE hsE hFin H9 locs9 ls cells slots hc hs hR9 hS9 hl
  obtain ⟨hx, hb, hml, hown, htab, hlocks, hr, hl0, hfr, hlo, hV, hH, hLS⟩ := hF
  exact w_put hx hb (by rw [hC] at hown; exact hown) hV hRep hS hf hk.1 hk.2 ho hr9 hpo rfl rfl hdg k9
theorem aw_putZ {mi d pc nx : Nat} {loc : List (Option mAV)} {stk : List mAV} {M : mM} {o : mOut} {M1 : mM} {n : Nat} {own : String} {ix ci k i j : Nat} {v : Int32} (hd : mD mi pc 3 nx (.putfield ix)) (hC : mC mi = own) (hf : mFS own ix ci k) (hk : ci < 7 ∧ k < mN ci) (ho : mOk (ci, i, j)) (hr9 : mRf (ci, i, j) k = none) (hpo : mPo ci k .boolean) (hz : v = 0 ∨ v = 1) (kk : AW mi d nx loc stk (mUp M (ci, i, j) k v) o M1 n) : AW mi d pc loc (vI v :: vR ci i j :: stk) M o M1 n := by
  intro D ρ cA bs LS sa xs p l e R s m args below meth c Q cE sE hF hcE hsE hFin H locs ls cells slots hc hs hRep hS hl
  obtain ⟨hdg, rfl⟩ := hd
  have k9 := fun H9 locs9 hR9 hS9 => kk D ρ cA bs LS sa xs p l e R s m args below meth c Q cE sE hF hcE hsE hFin H9 locs9 ls cells slots hc hs hR9 hS9 hl
  obtain ⟨hx, hb, hml, hown, htab, hlocks, hr, hl0, hfr, hlo, hV, hH, hLS⟩ := hF
  exact w_put hx hb (by rw [hC] at hown; exact hown) hV hRep hS hf hk.1 hk.2 ho hr9 hpo (by rcases hz with rfl | rfl <;> rfl) (by rcases hz with rfl | rfl <;> rfl) hdg k9
theorem aw_iaload {mi d pc nx : Nat} {loc : List (Option mAV)} {stk : List mAV} {M : mM} {o : mOut} {M1 : mM} {n : Nat} {a b c0 : Nat} {i : Int32} (hd : mD mi pc 1 nx .iaload) (ho : mOk (a, b, c0)) (hk : mIsI (a, b, c0) = true) (ht : mTy (a, b, c0) = .int) (hin : vp_in i (mLen (a, b, c0))) (kk : AW mi d nx loc (vI (M (a, b, c0) i.toNatClampNeg) :: stk) M o M1 n) : AW mi d pc loc (vI i :: vR a b c0 :: stk) M o M1 n := by
  intro D ρ cA bs LS sa xs p l e R s m args below meth c Q cE sE hF hcE hsE hFin H locs ls cells slots hc hs hRep hS hl
  obtain ⟨hdg, rfl⟩ := hd
  have k9 := kk D ρ cA bs LS sa xs p l e R s m args below meth c Q cE sE hF hcE hsE hFin H locs ls cells slots hc hs hRep hS hl
  obtain ⟨hx, hb, hml, hown, htab, hlocks, hr, hl0, hfr, hlo, hV, hH, hLS⟩ := hF
  obtain ⟨q0, -, hw⟩ := mWs_at (ρ := ρ) (cA := cA) M (mOk_mem ho)
  obtain ⟨e1, e2⟩ := mCell_arr (ρ := ρ) (cA := cA) (M := M) hk
  rw [e1] at hw
  have hK := hV.KA (mOk_mem ho) e2
  exact va_iald hx hb hK hRep.1.1 q0 0 hw (by rw [ht]; rfl) hin hdg k9
theorem aw_caload {mi d pc nx : Nat} {loc : List (Option mAV)} {stk : List mAV} {M : mM} {o : mOut} {M1 : mM} {n : Nat} {a b c0 : Nat} {i : Int32} (hd : mD mi pc 1 nx .caload) (ho : mOk (a, b, c0)) (hk : mIsI (a, b, c0) = true) (ht : mTy (a, b, c0) = .char) (hin : vp_in i (mLen (a, b, c0))) (kk : AW mi d nx loc (vI (M (a, b, c0) i.toNatClampNeg) :: stk) M o M1 n) : AW mi d pc loc (vI i :: vR a b c0 :: stk) M o M1 n := by
  intro D ρ cA bs LS sa xs p l e R s m args below meth c Q cE sE hF hcE hsE hFin H locs ls cells slots hc hs hRep hS hl
  obtain ⟨hdg, rfl⟩ := hd
  have k9 := kk D ρ cA bs LS sa xs p l e R s m args below meth c Q cE sE hF hcE hsE hFin H locs ls cells slots hc hs hRep hS hl
  obtain ⟨hx, hb, hml, hown, htab, hlocks, hr, hl0, hfr, hlo, hV, hH, hLS⟩ := hF
  obtain ⟨q0, -, hw⟩ := mWs_at (ρ := ρ) (cA := cA) M (mOk_mem ho)
  obtain ⟨e1, e2⟩ := mCell_arr (ρ := ρ) (cA := cA) (M := M) hk
  rw [e1] at hw
  have hK := hV.KA (mOk_mem ho) e2
  exact va_cald hx hb hK hRep.1.1 q0 0 hw (by rw [ht]; rfl) hin hdg k9
theorem mCell_up {ρ : mRef → Nat} {cA : mRef → ClassId} {M : mM} {r : mRef} {k : Nat} {v : Int32} (h : mIsI r = true) : mCell ρ cA (mUp M r k v) r = .inl (cA r, mLen r, .inl (upd (M r) k v)) := by
  rw [(mCell_arr (ρ := ρ) (cA := cA) (M := mUp M r k v) h).1]
  have e : mUp M r k v r = upd (M r) k v := by
    funext q
    unfold mUp upd
    simp
  rw [e]
theorem aw_iastore {mi d pc nx : Nat} {loc : List (Option mAV)} {stk : List mAV} {M : mM} {o : mOut} {M1 : mM} {n : Nat} {a b c0 : Nat} {i v : Int32} (hd : mD mi pc 1 nx .iastore) (ho : mOk (a, b, c0)) (hk : mIsI (a, b, c0) = true) (ht : mTy (a, b, c0) = .int) (hin : vp_in i (mLen (a, b, c0))) (kk : AW mi d nx loc stk (mUp M (a, b, c0) i.toNatClampNeg v) o M1 n) : AW mi d pc loc (vI v :: vI i :: vR a b c0 :: stk) M o M1 n := by
  intro D ρ cA bs LS sa xs p l e R s m args below meth c Q cE sE hF hcE hsE hFin H locs ls cells slots hc hs hRep hS hl
  obtain ⟨hdg, rfl⟩ := hd
  have k9 := fun H9 locs9 hR9 hS9 => kk D ρ cA bs LS sa xs p l e R s m args below meth c Q cE sE hF hcE hsE hFin H9 locs9 ls cells slots hc hs hR9 hS9 hl
  obtain ⟨hx, hb, hml, hown, htab, hlocks, hr, hl0, hfr, hlo, hV, hH, hLS⟩ := hF
  obtain ⟨q0, hq0, hw⟩ := mWs_at (ρ := ρ) (cA := cA) M (mOk_mem ho)
  obtain ⟨e1, e2⟩ := mCell_arr (ρ := ρ) (cA := cA) (M := M) hk
  rw [e1] at hw
  have hK := hV.KA (mOk_mem ho) e2
  refine va_iast hx hb hK hRep.1.1 hRep.1.2.1 hS q0 0 hw (by rw [ht]; rfl) hin hdg (fun H1 locs1 a1 a2 a3 => ?_)
  have e3 : upd (M (a, b, c0)) i.toNatClampNeg (vp_nar .int v) = upd (M (a, b, c0)) i.toNatClampNeg v := rfl
  try rw [e3] at a1 a2
  rw [← mCell_up (ρ := ρ) (cA := cA) hk] at a1 a2
  exact k9 H1 locs1 (hRep.set (mOk_mem ho) hq0 (fun r' h => mUp_ne h) a1 a2) a3
theorem aw_castore {mi d pc nx : Nat} {loc : List (Option mAV)} {stk : List mAV} {M : mM} {o : mOut} {M1 : mM} {n : Nat} {a b c0 : Nat} {i v : Int32} (hd : mD mi pc 1 nx .castore) (ho : mOk (a, b, c0)) (hk : mIsI (a, b, c0) = true) (ht : mTy (a, b, c0) = .char) (hin : vp_in i (mLen (a, b, c0))) (kk : AW mi d nx loc stk (mUp M (a, b, c0) i.toNatClampNeg (vp_nar .char v)) o M1 n) : AW mi d pc loc (vI v :: vI i :: vR a b c0 :: stk) M o M1 n := by
  intro D ρ cA bs LS sa xs p l e R s m args below meth c Q cE sE hF hcE hsE hFin H locs ls cells slots hc hs hRep hS hl
  obtain ⟨hdg, rfl⟩ := hd
  have k9 := fun H9 locs9 hR9 hS9 => kk D ρ cA bs LS sa xs p l e R s m args below meth c Q cE sE hF hcE hsE hFin H9 locs9 ls cells slots hc hs hR9 hS9 hl
  obtain ⟨hx, hb, hml, hown, htab, hlocks, hr, hl0, hfr, hlo, hV, hH, hLS⟩ := hF
  obtain ⟨q0, hq0, hw⟩ := mWs_at (ρ := ρ) (cA := cA) M (mOk_mem ho)
  obtain ⟨e1, e2⟩ := mCell_arr (ρ := ρ) (cA := cA) (M := M) hk
  rw [e1] at hw
  have hK := hV.KA (mOk_mem ho) e2
  refine va_cast hx hb hK hRep.1.1 hRep.1.2.1 hS q0 0 hw (by rw [ht]; rfl) hin hdg (fun H1 locs1 a1 a2 a3 => ?_)
  rw [← mCell_up (ρ := ρ) (cA := cA) hk] at a1 a2
  exact k9 H1 locs1 (hRep.set (mOk_mem ho) hq0 (fun r' h => mUp_ne h) a1 a2) a3
theorem aw_alen {mi d pc nx : Nat} {loc : List (Option mAV)} {stk : List mAV} {M : mM} {o : mOut} {M1 : mM} {n : Nat} {a b c0 : Nat} (hd : mD mi pc 1 nx .arraylength) (ho : mOk (a, b, c0)) (hk : mIsI (a, b, c0) = true) (kk : AW mi d nx loc (vI (nI (mLen (a, b, c0))) :: stk) M o M1 n) : AW mi d pc loc (vR a b c0 :: stk) M o M1 n := by
  intro D ρ cA bs LS sa xs p l e R s m args below meth c Q cE sE hF hcE hsE hFin H locs ls cells slots hc hs hRep hS hl
  obtain ⟨hdg, rfl⟩ := hd
  have k9 := kk D ρ cA bs LS sa xs p l e R s m args below meth c Q cE sE hF hcE hsE hFin H locs ls cells slots hc hs hRep hS hl
  obtain ⟨hx, hb, hml, hown, htab, hlocks, hr, hl0, hfr, hlo, hV, hH, hLS⟩ := hF
  obtain ⟨q0, -, hw⟩ := mWs_at (ρ := ρ) (cA := cA) M (mOk_mem ho)
  obtain ⟨e1, e2⟩ := mCell_arr (ρ := ρ) (cA := cA) (M := M) hk
  rw [e1] at hw
  have hK := hV.KA (mOk_mem ho) e2
  exact va_alen hx hb hK hRep.1.1 q0 0 hw rfl rfl hdg k9
theorem aw_aaloadF {mi d pc nx : Nat} {loc : List (Option mAV)} {stk : List mAV} {M : mM} {o : mOut} {M1 : mM} {n : Nat} {b : Nat} {i : Int32} (hd : mD mi pc 1 nx .aaload) (ho : b < 7) (hin : vp_in i 6) (kk : AW mi d nx loc (vR 0 b i.toNatClampNeg :: stk) M o M1 n) : AW mi d pc loc (vI i :: vR 10 b 0 :: stk) M o M1 n := by
  intro D ρ cA bs LS sa xs p l e R s m args below meth c Q cE sE hF hcE hsE hFin H locs ls cells slots hc hs hRep hS hl
  obtain ⟨hdg, rfl⟩ := hd
  have k9 := kk D ρ cA bs LS sa xs p l e R s m args below meth c Q cE sE hF hcE hsE hFin H locs ls cells slots hc hs hRep hS hl
  obtain ⟨hx, hb, hml, hown, htab, hlocks, hr, hl0, hfr, hlo, hV, hH, hLS⟩ := hF
  have hm : ((10, b, 0) : mRef) ∈ mAll := mOk_mem (show mOk (10, b, 0) from ⟨ho, rfl⟩)
  obtain ⟨q0, -, hw⟩ := mWs_at (ρ := ρ) (cA := cA) M hm
  have hK := hV.KA hm (show 7 ≤ 10 by decide)
  exact va_aldq hx hb hK hRep.1.1 q0 0 hw rfl hin hdg k9
theorem aw_aaloadS {mi d pc nx : Nat} {loc : List (Option mAV)} {stk : List mAV} {M : mM} {o : mOut} {M1 : mM} {n : Nat} {i : Int32} (hd : mD mi pc 1 nx .aaload) (hin : vp_in i 4) (kk : AW mi d nx loc (vR 3 (3 + i.toNatClampNeg) 0 :: stk) M o M1 n) : AW mi d pc loc (vI i :: vR 11 0 0 :: stk) M o M1 n := by
  intro D ρ cA bs LS sa xs p l e R s m args below meth c Q cE sE hF hcE hsE hFin H locs ls cells slots hc hs hRep hS hl
  obtain ⟨hdg, rfl⟩ := hd
  have k9 := kk D ρ cA bs LS sa xs p l e R s m args below meth c Q cE sE hF hcE hsE hFin H locs ls cells slots hc hs hRep hS hl
  obtain ⟨hx, hb, hml, hown, htab, hlocks, hr, hl0, hfr, hlo, hV, hH, hLS⟩ := hF
  have hm : ((11, 0, 0) : mRef) ∈ mAll := mIn_1.2.2.2.2.1
  obtain ⟨q0, -, hw⟩ := mWs_at (ρ := ρ) (cA := cA) M hm
  have hK := hV.KA hm (by decide)
  exact va_aldq hx hb hK hRep.1.1 q0 0 hw rfl hin hdg k9
theorem aw_laload {mi d pc nx : Nat} {loc : List (Option mAV)} {stk : List mAV} {M : mM} {o : mOut} {M1 : mM} {n : Nat} (hd : mD mi pc 1 nx .laload) (kk : AW mi d nx loc (vL (mJ (M (14, 0, 0) 0) (M (14, 0, 0) 1)) :: stk) M o M1 n) : AW mi d pc loc (vI 0 :: vR 14 0 0 :: stk) M o M1 n := by
  intro D ρ cA bs LS sa xs p l e R s m args below meth c Q cE sE hF hcE hsE hFin H locs ls cells slots hc hs hRep hS hl
  obtain ⟨hdg, rfl⟩ := hd
  have k9 := kk D ρ cA bs LS sa xs p l e R s m args below meth c Q cE sE hF hcE hsE hFin H locs ls cells slots hc hs hRep hS hl
  obtain ⟨hx, hb, hml, hown, htab, hlocks, hr, hl0, hfr, hlo, hV, hH, hLS⟩ := hF
  have hm : ((14, 0, 0) : mRef) ∈ mAll := mIn_1.2.2.2.2.2
  obtain ⟨q0, -, hw⟩ := mWs_at (ρ := ρ) (cA := cA) M hm
  have hK := hV.KA hm (by decide)
  exact va_lald hx hb hK hRep.1.1 q0 0 hw rfl (by unfold vp_in; decide) hdg k9
theorem aw_lastore {mi d pc nx : Nat} {loc : List (Option mAV)} {stk : List mAV} {M : mM} {o : mOut} {M1 : mM} {n : Nat} {x : Int64} (hd : mD mi pc 1 nx .lastore) (kk : AW mi d nx loc stk (mUp (mUp M (14, 0, 0) 0 (mLo x)) (14, 0, 0) 1 (mHi x)) o M1 n) : AW mi d pc loc (vL x :: vI 0 :: vR 14 0 0 :: stk) M o M1 n := by
  intro D ρ cA bs LS sa xs p l e R s m args below meth c Q cE sE hF hcE hsE hFin H locs ls cells slots hc hs hRep hS hl
  obtain ⟨hdg, rfl⟩ := hd
  have k9 := fun H9 locs9 hR9 hS9 => kk D ρ cA bs LS sa xs p l e R s m args below meth c Q cE sE hF hcE hsE hFin H9 locs9 ls cells slots hc hs hR9 hS9 hl
  obtain ⟨hx, hb, hml, hown, htab, hlocks, hr, hl0, hfr, hlo, hV, hH, hLS⟩ := hF
  have hm : ((14, 0, 0) : mRef) ∈ mAll := mIn_1.2.2.2.2.2
  obtain ⟨q0, hq0, hw⟩ := mWs_at (ρ := ρ) (cA := cA) M hm
  have hK := hV.KA hm (by decide)
  have e9 : vp_updL (fun a => mJ (M (14, 0, 0) (2 * a)) (M (14, 0, 0) (2 * a + 1))) ((0 : Int32).toNatClampNeg) x = (fun a => mJ ((mUp (mUp M (14, 0, 0) 0 (mLo x)) (14, 0, 0) 1 (mHi x)) (14, 0, 0) (2 * a)) ((mUp (mUp M (14, 0, 0) 0 (mLo x)) (14, 0, 0) 1 (mHi x)) (14, 0, 0) (2 * a + 1))) := by
    funext a
    show (if a = 0 then x else _) = _
    by_cases ha : a = 0
    · subst ha
      rw [if_pos rfl]
      exact (mJ_lh x).symm
    · rw [if_neg ha]
      have h1 : ¬ 2 * a = 1 := by omega
      have h2 : ¬ 2 * a = 0 := by omega
      have h3 : ¬ 2 * a + 1 = 1 := by omega
      simp [mUp, h1, h2, h3, ha]
  refine va_last hx hb hK hRep.1.1 hRep.1.2.1 hS q0 0 hw rfl (by unfold vp_in; decide) hdg (fun H1 locs1 a1 a2 a3 => ?_)
  rw [e9] at a1 a2
  exact k9 H1 locs1 (hRep.set (M' := mUp (mUp M (14, 0, 0) 0 (mLo x)) (14, 0, 0) 1 (mHi x)) hm hq0 (fun r' h => by rw [mUp_ne h, mUp_ne h]) a1 a2) a3
end
section
/-! CALLS: a method's contract out of its run, and a call out of the contract -/
def CT (mi d : Nat) (as : List mAV) (M : mM) (o : mOut) (M' : mM) (n : Nat) : Prop := AW mi d 0 (mEntry (mL mi) as) [] M o M' n
def mCodeW (j : Nat) : Cond := if mHH j = [] then Cond.code (mY j) (mB j) (mL j) (mR j) else Cond.codeWith (mY j) (mB j) (mL j) (mR j) (mHH j)
theorem mCodeW_spec {j : Nat} {args : Array Value} {s : State} {m : MethodId} (hn : s.methodNamed? (mY j) = some m) (h : (mCodeW j).before args s = true) :
    ∃ meth c, s.vm.method? m = some meth ∧ meth.code = some c ∧ c.code = mB j ∧ c.maxLocals = mL j ∧ meth.sig.returnType = mR j ∧ meth.locks = false ∧ c.exceptionTable.toList = tableOf (mHH j) := by
  unfold mCodeW at h
  by_cases e : mHH j = []
  · rw [if_pos e] at h
    obtain ⟨meth, c, h1, h2, h3, h4, h5, h6, h7, -⟩ := Cond.code_spec hn h
    refine ⟨meth, c, h1, h2, h3, h4, h5, h6, ?_⟩
    rw [e, Array.isEmpty_iff.mp h7]
    rfl
  · rw [if_neg e] at h
    obtain ⟨m9, meth, c, hn9, h1, h2, h3, h4, h5, h6, h7, -⟩ := Cond.codeWith_spec h
    cases hn.symm.trans hn9
    refine ⟨meth, c, h1, h2, h3, h4, h6, h7, ?_⟩
    rw [← h5, table_eq]
theorem mCodeW_keeps (j : Nat) : goodWord (mCodeW j) = true := by
  unfold mCodeW
  split <;> rfl
def mPc (D : va_G) (ρ : mRef → Nat) (cA : mRef → ClassId) (bs LS : Nat) (sa : Nat → Nat) (xs : Nat → Int32) (as : List mAV) (M : mM) : Array Value → State → Prop := fun args U =>
  args = (as.map (cv ρ)).toArray ∧ mVF D cA sa U ∧ mHF ρ bs LS xs U U.heap ∧ mRp D ρ cA bs LS xs M U.heap
def mQc (D : va_G) (ρ : mRef → Nat) (cA : mRef → ClassId) (bs LS : Nat) (xs : Nat → Int32) (o : mOut) (M : mM) : Array Value → State → Outcome → State → Prop := fun _ st oc t =>
  (∃ v, o = .inl v ∧ oc = .returned (v.map (cv ρ))) ∧ mRp D ρ cA bs LS xs M t.heap ∧ va_F (mA0 bs) st t
def mXC (D : va_G) (ρ : mRef → Nat) (cA : mRef → ClassId) (bs LS : Nat) (xs : Nat → Int32) (o : mOut) (M : mM) : String → State → State → Prop := fun E st t =>
  o = .inr E ∧ mRp D ρ cA bs LS xs M t.heap ∧ va_F (mA0 bs) st t
theorem mPc_blind {D : va_G} {ρ : mRef → Nat} {cA : mRef → ClassId} {bs LS : Nat} {sa : Nat → Nat} {xs : Nat → Int32} {as : List mAV} {M : mM} : FrameBlind (mPc D ρ cA bs LS sa xs as M) := by
  intro a U g mk h
  obtain ⟨h1, h2, h3, h4⟩ := h
  exact ⟨h1, mVF.warm (U := U.calling g mk a) (State.WarmedH.refl U) h2, mHF.go (U := U.calling g mk a) (locs := []) (Vm.Alike.refl U.vm) va_S.rf h3, h4⟩
theorem mEntL_len (ρ : mRef → Nat) (as : List mAV) : (lg_sl (as.map (cv ρ))).length = (mEntL as).length := by
  induction as with
  | nil => rfl
  | cons a as ih =>
    have hc : ∀ v : Value, ∀ vs : List Value, lg_sl (v :: vs) = (if v.category = 2 then [.val v, .second] else [.val v]) ++ lg_sl vs := fun v vs => rfl
    rw [List.map_cons, hc]
    match a with
    | .inl x => simp [mEntL, cv, Value.category, ih]
    | .inr (.inl x) => simp [mEntL, cv, Value.category, ih]
    | .inr (.inr r) => simp [mEntL, cv, Value.category, ih]
theorem mEntL_at (ρ : mRef → Nat) (as : List mAV) : ∀ (k i : Nat) (a : mAV), (mEntL as)[i]? = some (some a) → (i + k, cv ρ a) ∈ lv_args k (as.map (cv ρ)) := by
  induction as with
  | nil => intro k i a h; simp [mEntL] at h
  | cons b as ih =>
    intro k i a h
    have hs : ∀ (v : Value) (vs : List Value), lv_args k (v :: vs) = (k, v) :: lv_args (if v.category = 2 then k + 2 else k + 1) vs := fun v vs => rfl
    rw [List.map_cons, hs]
    match b with
    | .inl x =>
      cases i with
      | zero =>
        simp [mEntL] at h
        subst h
        simp
      | succ i =>
        simp [mEntL] at h
        have := ih (k + 1) i a h
        refine List.mem_cons_of_mem _ ?_
        rw [show i + 1 + k = i + (k + 1) by omega]
        exact this
    | .inr (.inl x) =>
      cases i with
      | zero =>
        simp [mEntL] at h
        subst h
        simp
      | succ i =>
        cases i with
        | zero => simp [mEntL] at h
        | succ i =>
          simp [mEntL] at h
          have := ih (k + 2) i a h
          refine List.mem_cons_of_mem _ ?_
          rw [show i + 1 + 1 + k = i + (k + 2) by omega]
          exact this
    | .inr (.inr r) =>
      cases i with
      | zero =>
        simp [mEntL] at h
        subst h
        simp
      | succ i =>
        simp [mEntL] at h
        have := ih (k + 1) i a h
        refine List.mem_cons_of_mem _ ?_
        rw [show i + 1 + k = i + (k + 1) by omega]
        exact this
theorem mEntry_lR (ρ : mRef → Nat) {n : Nat} {as : List mAV} (h : (mEntL as).length ≤ n) : lR ρ n (mEntry n as) ((lg_sl (as.map (cv ρ)) ++ List.replicate (n - (lg_sl (as.map (cv ρ))).length) Slot.unset).toArray) := by
  have hh := lv_entry (as.map (cv ρ)) (n := n) (by rw [mEntL_len]; exact h)
  refine ⟨hh.1, hh.2.1, by unfold mEntry; simp; omega, fun i a hi => ?_⟩
  unfold mEntry at hi
  by_cases hl : i < (mEntL as).length
  · rw [List.getElem?_append_left hl] at hi
    exact hh.2.2 (i, cv ρ a) (by have := mEntL_at ρ as 0 i a hi; simpa using this)
  · rw [List.getElem?_append_right (by omega)] at hi
    have := List.eq_of_mem_replicate (List.mem_of_getElem? hi)
    cases this
set_option maxHeartbeats 4000000 in
theorem ct_met {l : Launch} {D : va_G} {ρ : mRef → Nat} {cA : mRef → ClassId} {bs LS : Nat} {sa : Nat → Nat} {xs : Nat → Int32} {mi d nA : Nat} {as : List mAV} {M M' : mM} {o : mOut} {n : Nat} (hl0 : l.stackTraces = false) (hLS : LS < 2 ^ 31) (hok : mCodeOk mi nA) (hlen : (mEntL as).length ≤ mL mi) (h : CT mi d as M o M' n) :
    vx_Met l (mY mi) [mCodeW mi] { frames := d, cells := n, slots := 6 * n, locals := 34 * d } (mPc D ρ cA bs LS sa xs as M) (mQc D ρ cA bs LS xs o M') (mXC D ρ cA bs LS xs o M') n (6 * n) (mA0 bs) := by
  refine MetFree.of_bodySF (code := mB mi) (maxLocals := mL mi) (ret := mR mi) hok.2.2.1 ?_ ?_
  · intro args s m h hn
    obtain ⟨meth, c, h1, h2, h3, h4, h5, h6, -⟩ := mCodeW_spec hn (atoms_spec (ws := [mCodeW mi]) h _ List.mem_cons_self)
    exact ⟨meth, c, h1, h2, h3, h4, h5, h6⟩
  · intro p e s m args below meth c s₁ B hml hP _
    have hh0 : s₁.heap = s.heap := by rw [B.state]; rfl
    obtain ⟨rfl, hV, hH, hR⟩ := hP
    have htab : c.exceptionTable.toList = tableOf (mHH mi) := by
      obtain ⟨meth9, c9, h1, h2, -, -, -, -, h7⟩ := mCodeW_spec B.named (atoms_spec (ws := [mCodeW mi]) B.pre _ List.mem_cons_self)
      cases Option.some.inj (h1.symm.trans B.method)
      cases Option.some.inj (h2.symm.trans (Stand.of_body B).code)
      exact h7
    have hown : s.vm.findClass (mC mi) = some m.cls := findClass_of_methodNamed B.named
    have hF : mFR D ρ cA bs LS sa xs p l e (headSpec [mCodeW mi] { frames := d, cells := n, slots := 6 * n, locals := 34 * d }).room s m (as.map (cv ρ)).toArray below meth c mi d :=
      ⟨B.exec, B.bytes, hml, hown, htab, B.notSynchronized, B.returns, hl0, Nat.le_refl _, Nat.le_refl _, hV, hH, hLS⟩
    have hFin : mFin D ρ cA bs LS xs p l e (headSpec [mCodeW mi] { frames := d, cells := n, slots := 6 * n, locals := 34 * d }).room s m (as.map (cv ρ)).toArray below meth c mi o M' n (6 * n) (vx_MQ below (mQc D ρ cA bs LS xs o M') (mXC D ρ cA bs LS xs o M') (as.map (cv ρ)).toArray s n (6 * n) (mA0 bs)) := by
      cases o with
      | inl v =>
        intro H locs ls pc ins hret hdg hR9 hS9
        refine vx_ret ?_
        have hq : ∀ t : State, t.heap = H → s.WarmedH t.vm → mQc D ρ cA bs LS xs (.inl v) M' (as.map (cv ρ)).toArray s (.returned (v.map (cv ρ))) t := fun t ht hW => ⟨⟨v, rfl, rfl⟩, by rw [ht]; exact hR9, hS9.F ht⟩
        match v, hret, hq with
        | none, hret, hq =>
          obtain ⟨rfl, hr⟩ := hret
          exact W.vret B.exec B.bytes (B.returns.trans hr) hq hS9.2.2 hdg
        | some (.inl x), hret, hq =>
          obtain ⟨rfl, ty, hr, hn⟩ := hret
          exact W.zret B.exec B.bytes (B.returns.trans hr) hn hq hS9.2.2 hdg
        | some (.inr (.inl x)), hret, hq =>
          obtain ⟨rfl, hr⟩ := hret
          exact W.lret B.exec B.bytes (B.returns.trans hr) hq hS9.2.2 hdg
        | some (.inr (.inr r)), hret, hq =>
          obtain ⟨rfl, C, hr⟩ := hret
          exact W.aret B.exec B.bytes (B.returns.trans hr) (Or.inl ⟨C, rfl⟩) (Or.inr ⟨_, rfl⟩) hq hS9.2.2 hdg
      | inr E =>
        intro H locs ls pc rest q ce hcov hR9 hS9 hcell hv hcl
        exact vx_out hcov B.notSynchronized hcell hv hcl (fun t ht hvm => ⟨rfl, by rw [ht]; exact hR9, hS9.F ht⟩) hS9.2.2 (Nat.le_refl _) (Nat.le_refl _)
    have K := h D ρ cA bs LS sa xs p l e _ s m _ below meth c _ n (6 * n) hF (Nat.le_refl _) (Nat.le_refl _) hFin s.heap [] _ 0 0 (by omega) (by omega) hR va_S.rf (mEntry_lR ρ hlen)
    have K2 : W p l e (headSpec [mCodeW mi] { frames := d, cells := n, slots := 6 * n, locals := 34 * d }).room s m (as.map (cv ρ)).toArray below meth c s.heap [] 0 0 (vx_MQ below (mQc D ρ cA bs LS xs o M') (mXC D ρ cA bs LS xs o M') (as.map (cv ρ)).toArray s n (6 * n) (mA0 bs)) (entryFrame m (as.map (cv ρ)).toArray (mL mi)) := by
      rw [lg_entry_eq]
      exact K
    obtain ⟨t, a1, o9, b1, b2, b3⟩ := K2 s₁ hh0 (Stand.of_body B)
    exact ⟨t, o9, a1, b1, b2, b3⟩
theorem mPc_at {D : va_G} {ρ : mRef → Nat} {cA : mRef → ClassId} {bs LS : Nat} {sa : Nat → Nat} {xs : Nat → Int32} {as : List mAV} {M : mM} {s : State} {H : Heap} {locs : List Loc} (hV : mVF D cA sa s) (hH : mHF ρ bs LS xs s s.heap) (hS : va_S (mA0 bs) s.heap H locs) (hR : mRp D ρ cA bs LS xs M H) : ∀ U : State, U.heap = H → s.WarmedH U.vm → mPc D ρ cA bs LS sa xs as M (as.map (cv ρ)).toArray U := by
  intro U hU hW
  exact ⟨rfl, hV.warm hW, by rw [hU]; exact hH.go hW.alike hS, by rw [hU]; exact hR⟩
theorem mCodeOk.callB {own : String} {ix mj nA d n : Nat} {s : State} {args : Array Value} {R : Room} {D : va_G} {cA : mRef → ClassId} {sa : Nat → Nat} (hok : mCodeOk mj nA) (hV : mVF D cA sa s) (hh : mHH mj = []) (hl : (Cond.methodLink own ix (mY mj)) ∈ lw_tbl) (hfr : d + 1 ≤ R.frames) (hlo : 34 * (d + 1) ≤ R.locals) :
    CallB R s args own ix (mY mj) (mB mj) (mL mj) (mR mj) [mCodeW mj] { frames := d, cells := n, slots := 6 * n, locals := 34 * d } n (6 * n) nA := by
  obtain ⟨h1, h2, h3, h4, h5, h6⟩ := hok
  have hw : mCodeW mj = Cond.code (mY mj) (mB mj) (mL mj) (mR mj) := by unfold mCodeW; rw [if_pos hh]
  rw [if_pos hh] at h1
  have hb : (Cond.code (mY mj) (mB mj) (mL mj) (mR mj)).before args s = true := hV.w h1 rfl
  refine ⟨rfl, rfl, hfr, ?_, ?_, by rw [hw]; exact List.mem_cons_self, hb, hV.w h2 rfl, h4, ?_, hV.w hl rfl⟩
  · show 8 + (mL mj + 11) + 34 * d ≤ R.locals
    omega
  · intro w hw9 a' U hW
    rw [List.mem_singleton.mp hw9, hw]
    exact word_at hW (Or.inl rfl) hb
  · intro sig hs
    rw [hs] at h5
    exact (Option.some.inj h5).symm
theorem mCl_name : ∀ ci < 7, ∀ q ∈ mCl[ci]?, q.1 = [RX0, RX1, RX2, RX3, RX4, RX5, RX6].getD ci "" := by
  intro ci h q hq
  match ci, h with
  | 0, _ => cases hq; rfl
  | 1, _ => cases hq; rfl
  | 2, _ => cases hq; rfl
  | 3, _ => cases hq; rfl
  | 4, _ => cases hq; rfl
  | 5, _ => cases hq; rfl
  | 6, _ => cases hq; rfl
theorem m_recv {D : va_G} {ρ : mRef → Nat} {cA : mRef → ClassId} {bs LS : Nat} {sa : Nat → Nat} {xs : Nat → Int32} {M : mM} {s : State} {H : Heap} {a b c0 : Nat} {C : String} (hV : mVF D cA sa s) (hR : mRp D ρ cA bs LS xs M H) (ho : mOk (a, b, c0)) (ha : a < 7) (hC : [RX0, RX1, RX2, RX3, RX4, RX5, RX6].getD a "" = C) : ∃ cell : Cell, H[ρ (a, b, c0)]? = some cell ∧ cell.vm.isStatics = false ∧ s.vm.findClass C = some cell.cls := by
  obtain ⟨q0, -, hw⟩ := mWs_at (ρ := ρ) (cA := cA) M (mOk_mem ho)
  rw [mCell_obj ha] at hw
  have hq : ∃ q, mCl[a]? = some q := by
    match a, ha with
    | 0, _ => exact ⟨_, rfl⟩
    | 1, _ => exact ⟨_, rfl⟩
    | 2, _ => exact ⟨_, rfl⟩
    | 3, _ => exact ⟨_, rfl⟩
    | 4, _ => exact ⟨_, rfl⟩
    | 5, _ => exact ⟨_, rfl⟩
    | 6, _ => exact ⟨_, rfl⟩
  obtain ⟨q, hq⟩ := hq
  have h := va_recv hV.K hR.1.1 hq hw
  rw [mCl_name a ha q hq, hC] at h
  exact h
theorem cv_sum8 {ρ : mRef → Nat} {stk : List mAV} (h : (stk.map (fun a => match a with | .inr (.inl _) => 2 | _ => 1)).sum ≤ 8) : ((stk.map (cv ρ)).map fun v => v.category).sum ≤ 8 := by
  have e : (stk.map (cv ρ)).map (fun v => v.category) = stk.map (fun a => match a with | .inr (.inl _) => 2 | _ => 1) := by
    rw [List.map_map]
    refine List.map_congr_left fun a _ => ?_
    match a with
    | .inl x => rfl
    | .inr (.inl x) => rfl
    | .inr (.inr r) => rfl
  rw [e]
  exact h
abbrev mW8 (stk : List mAV) : Nat := (stk.map (fun a => match a with | .inr (.inl _) => 2 | _ => 1)).sum
set_option maxHeartbeats 4000000 in
theorem aw_callV {mi d pc nx : Nat} {loc : List (Option mAV)} {stk : List mAV} {M : mM} {own : String} {ix mj nA : Nat} {as : List mAV} {a b c0 : Nat} {o : mOut} {v : Option mAV} {M1 M2 : mM} {n1 n2 : Nat} (hd : mD mi pc 3 nx (.invokevirtual ix)) (hC : mC mi = own) (hok : mCodeOk mj nA) (hs9 : mSiteV own ix mj) (hh : mHH mj = []) (ho : mOk (a, b, c0)) (ha : a < 7) (hCn : [RX0, RX1, RX2, RX3, RX4, RX5, RX6].getD a "" = (mY mj).cls) (hn : as.length = nA) (hlen : (mEntL (vR a b c0 :: as)).length ≤ mL mj) (h8 : mW8 stk ≤ 8) (hcall : CT mj d (vR a b c0 :: as) M (.inl v) M1 n1) (kk : AW mi (d + 1) nx loc (v.toList ++ stk) M1 o M2 n2) : AW mi (d + 1) pc loc (as.reverse ++ vR a b c0 :: stk) M o M2 (n1 + n2) := by
  intro D ρ cA bs LS sa xs p l e R s m args below meth c Q cE sE hF hcE hsE hFin H locs ls cells slots hc hs hRep hS hl
  obtain ⟨hdg, rfl⟩ := hd
  obtain ⟨hx, hb, hml, hown, htab, hlocks, hr, hl0, hfr, hlo, hV, hH, hLS⟩ := id hF
  rw [hC] at hown
  have hM := ct_met (l := l) (D := D) (ρ := ρ) (cA := cA) (bs := bs) (LS := LS) (sa := sa) (xs := xs) hl0 hLS hok hlen hcall
  have hRun : vx_Run p l e R s m args below meth c H locs cells slots n1 (6 * n1) (F0 m pc ls ((as.reverse ++ vR a b c0 :: stk).map (cv ρ))) (stk.map (cv ρ)) (mQc D ρ cA bs LS xs (.inl v) M1 (Value.ref (ρ (a, b, c0)) :: as.map (cv ρ)).toArray) (mXC D ρ cA bs LS xs (.inl v) M1) (mA0 bs) := vx_runV (As := as.map (cv ρ)) (rest := stk.map (cv ρ)) (H := H) (locs := locs) (cells := cells) (slots := slots) (g := F0 m pc ls ((as.reverse ++ vR a b c0 :: stk).map (cv ρ))) (Ts := []) ⟨hx, hb, hml, hown, fun _ h => nomatch h⟩ hM ⟨hok.callB hV hh hs9.1 hfr hlo, hV.w hs9.2.1 rfl, hV.w hs9.2.2 rfl⟩ ⟨mPc_blind, m_recv hV hRep ho ha hCn, mPc_at (as := vR a b c0 :: as) hV hH hS hRep⟩ rfl (by rw [List.length_map]; exact hn) hl.1 (by simp; try rfl) (lv_room (cv_sum8 h8)) hdg ⟨by omega, by omega⟩
  intro T hT X
  rcases hRun T hT X with ⟨v9, st₀, t, T', L, h0, X', hL, e1, e2, ⟨⟨v8, hv8, hv9⟩, hR9, hF9⟩, st⟩ | ⟨q, st₀, t, T', L, E, ce, h0, X', hL, e1, e2, ⟨hoE, -⟩, -⟩
  · cases hv8
    cases hv9
    obtain ⟨k1, k2, k3⟩ := vx_keep h0 e1 hS (fun _ _ h => h) (fun _ h => h) hL hF9
    have K := kk D ρ cA bs LS sa xs p l e R s m args below meth c Q cE sE hF hcE hsE hFin T'.heap (locs ++ L) ls (cells + n1) (slots + 6 * n1) (by omega) (by omega) (by rw [e1]; exact hR9) k3 hl
    rw [List.map_append] at K
    obtain ⟨t2, a1, b1⟩ := K T' rfl X'
    have e5 : (v.map (cv ρ)).toList = v.toList.map (cv ρ) := by cases v <;> rfl
    rw [← e5] at a1
    exact ⟨t2, st t2 a1, b1⟩
  · cases hoE
set_option maxHeartbeats 4000000 in
theorem aw_callVX {mi d pc nx : Nat} {loc : List (Option mAV)} {stk : List mAV} {M : mM} {own : String} {ix mj nA : Nat} {as : List mAV} {a b c0 : Nat} {E : String} {M1 : mM} {n1 : Nat} (hd : mD mi pc 3 nx (.invokevirtual ix)) (hC : mC mi = own) (hok : mCodeOk mj nA) (hs9 : mSiteV own ix mj) (hh : mHH mj = []) (ho : mOk (a, b, c0)) (ha : a < 7) (hCn : [RX0, RX1, RX2, RX3, RX4, RX5, RX6].getD a "" = (mY mj).cls) (hn : as.length = nA) (hlen : (mEntL (vR a b c0 :: as)).length ≤ mL mj) (h8 : mW8 stk ≤ 8) (hhi : mHH mi = []) (hcall : CT mj d (vR a b c0 :: as) M (.inr E) M1 n1) : AW mi (d + 1) pc loc (as.reverse ++ vR a b c0 :: stk) M (.inr E) M1 n1 := by
  intro D ρ cA bs LS sa xs p l e R s m args below meth c Q cE sE hF hcE hsE hFin H locs ls cells slots hc hs hRep hS hl
  obtain ⟨hdg, rfl⟩ := hd
  obtain ⟨hx, hb, hml, hown, htab, hlocks, hr, hl0, hfr, hlo, hV, hH, hLS⟩ := id hF
  rw [hC] at hown
  have hM := ct_met (l := l) (D := D) (ρ := ρ) (cA := cA) (bs := bs) (LS := LS) (sa := sa) (xs := xs) hl0 hLS hok hlen hcall
  have hRun : vx_Run p l e R s m args below meth c H locs cells slots n1 (6 * n1) (F0 m pc ls ((as.reverse ++ vR a b c0 :: stk).map (cv ρ))) (stk.map (cv ρ)) (mQc D ρ cA bs LS xs (.inr E) M1 (Value.ref (ρ (a, b, c0)) :: as.map (cv ρ)).toArray) (mXC D ρ cA bs LS xs (.inr E) M1) (mA0 bs) := vx_runV (As := as.map (cv ρ)) (rest := stk.map (cv ρ)) (H := H) (locs := locs) (cells := cells) (slots := slots) (g := F0 m pc ls ((as.reverse ++ vR a b c0 :: stk).map (cv ρ))) (Ts := []) ⟨hx, hb, hml, hown, fun _ h => nomatch h⟩ hM ⟨hok.callB hV hh hs9.1 hfr hlo, hV.w hs9.2.1 rfl, hV.w hs9.2.2 rfl⟩ ⟨mPc_blind, m_recv hV hRep ho ha hCn, mPc_at (as := vR a b c0 :: as) hV hH hS hRep⟩ rfl (by rw [List.length_map]; exact hn) hl.1 (by simp; try rfl) (lv_room (cv_sum8 h8)) hdg ⟨by omega, by omega⟩
  intro T hT X
  rcases hRun T hT X with ⟨v9, st₀, t, T', L, h0, X', hL, e1, e2, ⟨⟨v8, hv8, hv9⟩, hR9, hF9⟩, st⟩ | ⟨q, st₀, t, T', L, E9, ce, h0, X', hL, e1, e2, ⟨hoE, hR9, hF9⟩, hce, hcv, hcl, st⟩
  · cases hv8
  · cases hoE
    obtain ⟨k1, k2, k3⟩ := vx_keep h0 e1 hS (fun _ _ h => h) (fun _ h => h) hL hF9
    have K := hFin T'.heap (locs ++ L) ls pc (stk.map (cv ρ)) q ce (by rw [htab, hhi]; intro x hx9; cases hx9) (by rw [e1]; exact hR9) k3 (by rw [e1]; exact hce) hcv hcl
    obtain ⟨t2, a1, b1⟩ := (vx_widen (by omega) (by omega) K) T' rfl X'
    exact ⟨t2, st.trans a1, b1⟩
set_option maxHeartbeats 4000000 in
theorem aw_callS {mi d pc nx : Nat} {loc : List (Option mAV)} {stk : List mAV} {M : mM} {own : String} {ix mj nA : Nat} {as : List mAV} {o : mOut} {v : Option mAV} {M1 M2 : mM} {n1 n2 : Nat} (hd : mD mi pc 3 nx (.invokestatic ix)) (hC : mC mi = own) (hok : mCodeOk mj nA) (hs9 : mSiteS own ix mj) (hh : mHH mj = []) (hn : as.length = nA) (hlen : (mEntL as).length ≤ mL mj) (h8 : mW8 stk ≤ 8) (hcall : CT mj d as M (.inl v) M1 n1) (kk : AW mi (d + 1) nx loc (v.toList ++ stk) M1 o M2 n2) : AW mi (d + 1) pc loc (as.reverse ++ stk) M o M2 (n1 + n2) := by
  intro D ρ cA bs LS sa xs p l e R s m args below meth c Q cE sE hF hcE hsE hFin H locs ls cells slots hc hs hRep hS hl
  obtain ⟨hdg, rfl⟩ := hd
  obtain ⟨hx, hb, hml, hown, htab, hlocks, hr, hl0, hfr, hlo, hV, hH, hLS⟩ := id hF
  rw [hC] at hown
  have hM := ct_met (l := l) (D := D) (ρ := ρ) (cA := cA) (bs := bs) (LS := LS) (sa := sa) (xs := xs) hl0 hLS hok hlen hcall
  have hRun : vx_Run p l e R s m args below meth c H locs cells slots n1 (6 * n1) (F0 m pc ls ((as.reverse ++ stk).map (cv ρ))) (stk.map (cv ρ)) (mQc D ρ cA bs LS xs (.inl v) M1 (as.map (cv ρ)).toArray) (mXC D ρ cA bs LS xs (.inl v) M1) (mA0 bs) := vx_runS (As := as.map (cv ρ)) (rest := stk.map (cv ρ)) (H := H) (locs := locs) (cells := cells) (slots := slots) (g := F0 m pc ls ((as.reverse ++ stk).map (cv ρ))) (Ts := []) ⟨hx, hb, hml, hown, fun _ h => nomatch h⟩ hM ⟨hok.callB hV hh hs9.1 hfr hlo, hV.w hs9.2 rfl⟩ ⟨mPc_blind, mPc_at (as := as) hV hH hS hRep⟩ rfl (by rw [List.length_map]; exact hn) hl.1 (by simp; try rfl) (lv_room (cv_sum8 h8)) hdg ⟨by omega, by omega⟩
  intro T hT X
  rcases hRun T hT X with ⟨v9, st₀, t, T', L, h0, X', hL, e1, e2, ⟨⟨v8, hv8, hv9⟩, hR9, hF9⟩, st⟩ | ⟨q, st₀, t, T', L, E, ce, h0, X', hL, e1, e2, ⟨hoE, -⟩, -⟩
  · cases hv8
    cases hv9
    obtain ⟨k1, k2, k3⟩ := vx_keep h0 e1 hS (fun _ _ h => h) (fun _ h => h) hL hF9
    have K := kk D ρ cA bs LS sa xs p l e R s m args below meth c Q cE sE hF hcE hsE hFin T'.heap (locs ++ L) ls (cells + n1) (slots + 6 * n1) (by omega) (by omega) (by rw [e1]; exact hR9) k3 hl
    rw [List.map_append] at K
    obtain ⟨t2, a1, b1⟩ := K T' rfl X'
    have e5 : (v.map (cv ρ)).toList = v.toList.map (cv ρ) := by cases v <;> rfl
    rw [← e5] at a1
    exact ⟨t2, st t2 a1, b1⟩
  · cases hoE
set_option maxHeartbeats 4000000 in
theorem aw_callSX {mi d pc nx : Nat} {loc : List (Option mAV)} {stk : List mAV} {M : mM} {own : String} {ix mj nA : Nat} {as : List mAV} {E : String} {M1 : mM} {n1 : Nat} (hd : mD mi pc 3 nx (.invokestatic ix)) (hC : mC mi = own) (hok : mCodeOk mj nA) (hs9 : mSiteS own ix mj) (hh : mHH mj = []) (hn : as.length = nA) (hlen : (mEntL as).length ≤ mL mj) (h8 : mW8 stk ≤ 8) (hhi : mHH mi = []) (hcall : CT mj d as M (.inr E) M1 n1) : AW mi (d + 1) pc loc (as.reverse ++ stk) M (.inr E) M1 n1 := by
  intro D ρ cA bs LS sa xs p l e R s m args below meth c Q cE sE hF hcE hsE hFin H locs ls cells slots hc hs hRep hS hl
  obtain ⟨hdg, rfl⟩ := hd
  obtain ⟨hx, hb, hml, hown, htab, hlocks, hr, hl0, hfr, hlo, hV, hH, hLS⟩ := id hF
  rw [hC] at hown
  have hM := ct_met (l := l) (D := D) (ρ := ρ) (cA := cA) (bs := bs) (LS := LS) (sa := sa) (xs := xs) hl0 hLS hok hlen hcall
  have hRun : vx_Run p l e R s m args below meth c H locs cells slots n1 (6 * n1) (F0 m pc ls ((as.reverse ++ stk).map (cv ρ))) (stk.map (cv ρ)) (mQc D ρ cA bs LS xs (.inr E) M1 (as.map (cv ρ)).toArray) (mXC D ρ cA bs LS xs (.inr E) M1) (mA0 bs) := vx_runS (As := as.map (cv ρ)) (rest := stk.map (cv ρ)) (H := H) (locs := locs) (cells := cells) (slots := slots) (g := F0 m pc ls ((as.reverse ++ stk).map (cv ρ))) (Ts := []) ⟨hx, hb, hml, hown, fun _ h => nomatch h⟩ hM ⟨hok.callB hV hh hs9.1 hfr hlo, hV.w hs9.2 rfl⟩ ⟨mPc_blind, mPc_at (as := as) hV hH hS hRep⟩ rfl (by rw [List.length_map]; exact hn) hl.1 (by simp; try rfl) (lv_room (cv_sum8 h8)) hdg ⟨by omega, by omega⟩
  intro T hT X
  rcases hRun T hT X with ⟨v9, st₀, t, T', L, h0, X', hL, e1, e2, ⟨⟨v8, hv8, hv9⟩, hR9, hF9⟩, st⟩ | ⟨q, st₀, t, T', L, E9, ce, h0, X', hL, e1, e2, ⟨hoE, hR9, hF9⟩, hce, hcv, hcl, st⟩
  · cases hv8
  · cases hoE
    obtain ⟨k1, k2, k3⟩ := vx_keep h0 e1 hS (fun _ _ h => h) (fun _ h => h) hL hF9
    have K := hFin T'.heap (locs ++ L) ls pc (stk.map (cv ρ)) q ce (by rw [htab, hhi]; intro x hx9; cases hx9) (by rw [e1]; exact hR9) k3 (by rw [e1]; exact hce) hcv hcl
    obtain ⟨t2, a1, b1⟩ := (vx_widen (by omega) (by omega) K) T' rfl X'
    exact ⟨t2, st.trans a1, b1⟩
set_option maxHeartbeats 4000000 in
theorem aw_callN {mi d pc nx : Nat} {loc : List (Option mAV)} {stk : List mAV} {M : mM} {own : String} {ix mj nA : Nat} {as : List mAV} {host : String} {o : mOut} {v : Option mAV} {M1 M2 : mM} {n1 n2 : Nat} (hd : mD mi pc 3 nx (.invokestatic ix)) (hC : mC mi = own) (hok : mCodeOk mj nA) (hs9 : mSiteN own ix mj host) (hh : mHH mj = []) (hn : as.length = nA) (hlen : (mEntL as).length ≤ mL mj) (h8 : mW8 stk ≤ 8) (hcall : CT mj d as M (.inl v) M1 n1) (kk : AW mi (d + 1) nx loc (v.toList ++ stk) M1 o M2 n2) : AW mi (d + 1) pc loc (as.reverse ++ stk) M o M2 (n1 + n2) := by
  intro D ρ cA bs LS sa xs p l e R s m args below meth c Q cE sE hF hcE hsE hFin H locs ls cells slots hc hs hRep hS hl
  obtain ⟨hdg, rfl⟩ := hd
  obtain ⟨hx, hb, hml, hown, htab, hlocks, hr, hl0, hfr, hlo, hV, hH, hLS⟩ := id hF
  rw [hC] at hown
  have hM := ct_met (l := l) (D := D) (ρ := ρ) (cA := cA) (bs := bs) (LS := LS) (sa := sa) (xs := xs) hl0 hLS hok hlen hcall
  have hw : mCodeW mj = Cond.code (mY mj) (mB mj) (mL mj) (mR mj) := by unfold mCodeW; rw [if_pos hh]
  have hcb : (Cond.code (mY mj) (mB mj) (mL mj) (mR mj)).before args s = true := by
    have h1 := hok.1
    rw [if_pos hh] at h1
    exact hV.w h1 rfl
  have hRun : vx_Run p l e R s m args below meth c H locs cells slots n1 (6 * n1) (F0 m pc ls ((as.reverse ++ stk).map (cv ρ))) (stk.map (cv ρ)) (mQc D ρ cA bs LS xs (.inl v) M1 (as.map (cv ρ)).toArray) (mXC D ρ cA bs LS xs (.inl v) M1) (mA0 bs) := vx_runSN (host := host) (As := as.map (cv ρ)) (rest := stk.map (cv ρ)) (H := H) (locs := locs) (cells := cells) (slots := slots) (g := F0 m pc ls ((as.reverse ++ stk).map (cv ρ))) (Ts := []) (index := ix) (n := nA) ⟨hx, hb, hml, hown, fun _ h => nomatch h⟩ hM ⟨⟨⟨rfl, rfl, hfr, by show 8 + (mL mj + 11) + 34 * d ≤ R.locals; have := hok.2.2.2.2.2; omega, fun w hw9 a' U hW => by rw [List.mem_singleton.mp hw9, hw]; exact word_at hW (Or.inl rfl) hcb, by rw [hw]; exact List.mem_cons_self⟩, hcb, hV.w hok.2.1 rfl, hok.2.2.2.1, fun sig hs => by have h5 := hok.2.2.2.2.1; rw [hs] at h5; exact (Option.some.inj h5).symm, hV.w hs9.1 rfl⟩, hV.w hs9.2 rfl, trivial⟩ ⟨mPc_blind, mPc_at (as := as) hV hH hS hRep⟩ rfl (by rw [List.length_map]; exact hn) hl.1 (by simp; try rfl) (lv_room (cv_sum8 h8)) hdg ⟨by omega, by omega⟩
  intro T hT X
  rcases hRun T hT X with ⟨v9, st₀, t, T', L, h0, X', hL, e1, e2, ⟨⟨v8, hv8, hv9⟩, hR9, hF9⟩, st⟩ | ⟨q, st₀, t, T', L, E, ce, h0, X', hL, e1, e2, ⟨hoE, -⟩, -⟩
  · cases hv8
    cases hv9
    obtain ⟨k1, k2, k3⟩ := vx_keep h0 e1 hS (fun _ _ h => h) (fun _ h => h) hL hF9
    have K := kk D ρ cA bs LS sa xs p l e R s m args below meth c Q cE sE hF hcE hsE hFin T'.heap (locs ++ L) ls (cells + n1) (slots + 6 * n1) (by omega) (by omega) (by rw [e1]; exact hR9) k3 hl
    rw [List.map_append] at K
    obtain ⟨t2, a1, b1⟩ := K T' rfl X'
    have e5 : (v.map (cv ρ)).toList = v.toList.map (cv ρ) := by cases v <;> rfl
    rw [← e5] at a1
    exact ⟨t2, st t2 a1, b1⟩
  · cases hoE
set_option maxHeartbeats 4000000 in
theorem aw_callNX {mi d pc nx : Nat} {loc : List (Option mAV)} {stk : List mAV} {M : mM} {own : String} {ix mj nA : Nat} {as : List mAV} {host : String} {E : String} {M1 : mM} {n1 : Nat} (hd : mD mi pc 3 nx (.invokestatic ix)) (hC : mC mi = own) (hok : mCodeOk mj nA) (hs9 : mSiteN own ix mj host) (hh : mHH mj = []) (hn : as.length = nA) (hlen : (mEntL as).length ≤ mL mj) (h8 : mW8 stk ≤ 8) (hhi : mHH mi = []) (hcall : CT mj d as M (.inr E) M1 n1) : AW mi (d + 1) pc loc (as.reverse ++ stk) M (.inr E) M1 n1 := by
  intro D ρ cA bs LS sa xs p l e R s m args below meth c Q cE sE hF hcE hsE hFin H locs ls cells slots hc hs hRep hS hl
  obtain ⟨hdg, rfl⟩ := hd
  obtain ⟨hx, hb, hml, hown, htab, hlocks, hr, hl0, hfr, hlo, hV, hH, hLS⟩ := id hF
  rw [hC] at hown
  have hM := ct_met (l := l) (D := D) (ρ := ρ) (cA := cA) (bs := bs) (LS := LS) (sa := sa) (xs := xs) hl0 hLS hok hlen hcall
  have hw : mCodeW mj = Cond.code (mY mj) (mB mj) (mL mj) (mR mj) := by unfold mCodeW; rw [if_pos hh]
  have hcb : (Cond.code (mY mj) (mB mj) (mL mj) (mR mj)).before args s = true := by
    have h1 := hok.1
    rw [if_pos hh] at h1
    exact hV.w h1 rfl
  have hRun : vx_Run p l e R s m args below meth c H locs cells slots n1 (6 * n1) (F0 m pc ls ((as.reverse ++ stk).map (cv ρ))) (stk.map (cv ρ)) (mQc D ρ cA bs LS xs (.inr E) M1 (as.map (cv ρ)).toArray) (mXC D ρ cA bs LS xs (.inr E) M1) (mA0 bs) := vx_runSN (host := host) (As := as.map (cv ρ)) (rest := stk.map (cv ρ)) (H := H) (locs := locs) (cells := cells) (slots := slots) (g := F0 m pc ls ((as.reverse ++ stk).map (cv ρ))) (Ts := []) (index := ix) (n := nA) ⟨hx, hb, hml, hown, fun _ h => nomatch h⟩ hM ⟨⟨⟨rfl, rfl, hfr, by show 8 + (mL mj + 11) + 34 * d ≤ R.locals; have := hok.2.2.2.2.2; omega, fun w hw9 a' U hW => by rw [List.mem_singleton.mp hw9, hw]; exact word_at hW (Or.inl rfl) hcb, by rw [hw]; exact List.mem_cons_self⟩, hcb, hV.w hok.2.1 rfl, hok.2.2.2.1, fun sig hs => by have h5 := hok.2.2.2.2.1; rw [hs] at h5; exact (Option.some.inj h5).symm, hV.w hs9.1 rfl⟩, hV.w hs9.2 rfl, trivial⟩ ⟨mPc_blind, mPc_at (as := as) hV hH hS hRep⟩ rfl (by rw [List.length_map]; exact hn) hl.1 (by simp; try rfl) (lv_room (cv_sum8 h8)) hdg ⟨by omega, by omega⟩
  intro T hT X
  rcases hRun T hT X with ⟨v9, st₀, t, T', L, h0, X', hL, e1, e2, ⟨⟨v8, hv8, hv9⟩, hR9, hF9⟩, st⟩ | ⟨q, st₀, t, T', L, E9, ce, h0, X', hL, e1, e2, ⟨hoE, hR9, hF9⟩, hce, hcv, hcl, st⟩
  · cases hv8
  · cases hoE
    obtain ⟨k1, k2, k3⟩ := vx_keep h0 e1 hS (fun _ _ h => h) (fun _ h => h) hL hF9
    have K := hFin T'.heap (locs ++ L) ls pc (stk.map (cv ρ)) q ce (by rw [htab, hhi]; intro x hx9; cases hx9) (by rw [e1]; exact hR9) k3 (by rw [e1]; exact hce) hcv hcl
    obtain ⟨t2, a1, b1⟩ := (vx_widen (by omega) (by omega) K) T' rfl X'
    exact ⟨t2, st.trans a1, b1⟩
theorem aw_callV0 {mi d pc nx : Nat} {loc : List (Option mAV)} {stk : List mAV} {M : mM} {own : String} {ix mj : Nat} {a b c0 : Nat} {o : mOut} {v : Option mAV} {M1 M2 : mM} {n1 n2 : Nat} (hd : mD mi pc 3 nx (.invokevirtual ix)) (hC : mC mi = own) (hok : mCodeOk mj 0) (hs9 : mSiteV own ix mj) (hh : mHH mj = []) (ho : mOk (a, b, c0)) (ha : a < 7) (hCn : [RX0, RX1, RX2, RX3, RX4, RX5, RX6].getD a "" = (mY mj).cls) (hlen : (mEntL [vR a b c0]).length ≤ mL mj) (h8 : mW8 stk ≤ 8) (hcall : CT mj d [vR a b c0] M (.inl v) M1 n1) (kk : AW mi (d + 1) nx loc (v.toList ++ stk) M1 o M2 n2) : AW mi (d + 1) pc loc (vR a b c0 :: stk) M o M2 (n1 + n2) := aw_callV (as := []) hd hC hok hs9 hh ho ha hCn rfl hlen h8 hcall kk
theorem aw_callVX0 {mi d pc nx : Nat} {loc : List (Option mAV)} {stk : List mAV} {M : mM} {own : String} {ix mj : Nat} {a b c0 : Nat} {E : String} {M1 : mM} {n1 : Nat} (hd : mD mi pc 3 nx (.invokevirtual ix)) (hC : mC mi = own) (hok : mCodeOk mj 0) (hs9 : mSiteV own ix mj) (hh : mHH mj = []) (ho : mOk (a, b, c0)) (ha : a < 7) (hCn : [RX0, RX1, RX2, RX3, RX4, RX5, RX6].getD a "" = (mY mj).cls) (hlen : (mEntL [vR a b c0]).length ≤ mL mj) (h8 : mW8 stk ≤ 8) (hhi : mHH mi = []) (hcall : CT mj d [vR a b c0] M (.inr E) M1 n1) : AW mi (d + 1) pc loc (vR a b c0 :: stk) M (.inr E) M1 n1 := aw_callVX (as := []) hd hC hok hs9 hh ho ha hCn rfl hlen h8 hhi hcall
theorem aw_callV1 {mi d pc nx : Nat} {loc : List (Option mAV)} {stk : List mAV} {M : mM} {own : String} {ix mj : Nat} {a b c0 : Nat} {x1 : mAV} {o : mOut} {v : Option mAV} {M1 M2 : mM} {n1 n2 : Nat} (hd : mD mi pc 3 nx (.invokevirtual ix)) (hC : mC mi = own) (hok : mCodeOk mj 1) (hs9 : mSiteV own ix mj) (hh : mHH mj = []) (ho : mOk (a, b, c0)) (ha : a < 7) (hCn : [RX0, RX1, RX2, RX3, RX4, RX5, RX6].getD a "" = (mY mj).cls) (hlen : (mEntL [vR a b c0, x1]).length ≤ mL mj) (h8 : mW8 stk ≤ 8) (hcall : CT mj d [vR a b c0, x1] M (.inl v) M1 n1) (kk : AW mi (d + 1) nx loc (v.toList ++ stk) M1 o M2 n2) : AW mi (d + 1) pc loc (x1 :: vR a b c0 :: stk) M o M2 (n1 + n2) := aw_callV (as := [x1]) hd hC hok hs9 hh ho ha hCn rfl hlen h8 hcall kk
theorem aw_callVX1 {mi d pc nx : Nat} {loc : List (Option mAV)} {stk : List mAV} {M : mM} {own : String} {ix mj : Nat} {a b c0 : Nat} {x1 : mAV} {E : String} {M1 : mM} {n1 : Nat} (hd : mD mi pc 3 nx (.invokevirtual ix)) (hC : mC mi = own) (hok : mCodeOk mj 1) (hs9 : mSiteV own ix mj) (hh : mHH mj = []) (ho : mOk (a, b, c0)) (ha : a < 7) (hCn : [RX0, RX1, RX2, RX3, RX4, RX5, RX6].getD a "" = (mY mj).cls) (hlen : (mEntL [vR a b c0, x1]).length ≤ mL mj) (h8 : mW8 stk ≤ 8) (hhi : mHH mi = []) (hcall : CT mj d [vR a b c0, x1] M (.inr E) M1 n1) : AW mi (d + 1) pc loc (x1 :: vR a b c0 :: stk) M (.inr E) M1 n1 := aw_callVX (as := [x1]) hd hC hok hs9 hh ho ha hCn rfl hlen h8 hhi hcall
theorem aw_callV2 {mi d pc nx : Nat} {loc : List (Option mAV)} {stk : List mAV} {M : mM} {own : String} {ix mj : Nat} {a b c0 : Nat} {x1 x2 : mAV} {o : mOut} {v : Option mAV} {M1 M2 : mM} {n1 n2 : Nat} (hd : mD mi pc 3 nx (.invokevirtual ix)) (hC : mC mi = own) (hok : mCodeOk mj 2) (hs9 : mSiteV own ix mj) (hh : mHH mj = []) (ho : mOk (a, b, c0)) (ha : a < 7) (hCn : [RX0, RX1, RX2, RX3, RX4, RX5, RX6].getD a "" = (mY mj).cls) (hlen : (mEntL [vR a b c0, x1, x2]).length ≤ mL mj) (h8 : mW8 stk ≤ 8) (hcall : CT mj d [vR a b c0, x1, x2] M (.inl v) M1 n1) (kk : AW mi (d + 1) nx loc (v.toList ++ stk) M1 o M2 n2) : AW mi (d + 1) pc loc (x2 :: x1 :: vR a b c0 :: stk) M o M2 (n1 + n2) := aw_callV (as := [x1, x2]) hd hC hok hs9 hh ho ha hCn rfl hlen h8 hcall kk
theorem aw_callVX2 {mi d pc nx : Nat} {loc : List (Option mAV)} {stk : List mAV} {M : mM} {own : String} {ix mj : Nat} {a b c0 : Nat} {x1 x2 : mAV} {E : String} {M1 : mM} {n1 : Nat} (hd : mD mi pc 3 nx (.invokevirtual ix)) (hC : mC mi = own) (hok : mCodeOk mj 2) (hs9 : mSiteV own ix mj) (hh : mHH mj = []) (ho : mOk (a, b, c0)) (ha : a < 7) (hCn : [RX0, RX1, RX2, RX3, RX4, RX5, RX6].getD a "" = (mY mj).cls) (hlen : (mEntL [vR a b c0, x1, x2]).length ≤ mL mj) (h8 : mW8 stk ≤ 8) (hhi : mHH mi = []) (hcall : CT mj d [vR a b c0, x1, x2] M (.inr E) M1 n1) : AW mi (d + 1) pc loc (x2 :: x1 :: vR a b c0 :: stk) M (.inr E) M1 n1 := aw_callVX (as := [x1, x2]) hd hC hok hs9 hh ho ha hCn rfl hlen h8 hhi hcall
theorem aw_callV3 {mi d pc nx : Nat} {loc : List (Option mAV)} {stk : List mAV} {M : mM} {own : String} {ix mj : Nat} {a b c0 : Nat} {x1 x2 x3 : mAV} {o : mOut} {v : Option mAV} {M1 M2 : mM} {n1 n2 : Nat} (hd : mD mi pc 3 nx (.invokevirtual ix)) (hC : mC mi = own) (hok : mCodeOk mj 3) (hs9 : mSiteV own ix mj) (hh : mHH mj = []) (ho : mOk (a, b, c0)) (ha : a < 7) (hCn : [RX0, RX1, RX2, RX3, RX4, RX5, RX6].getD a "" = (mY mj).cls) (hlen : (mEntL [vR a b c0, x1, x2, x3]).length ≤ mL mj) (h8 : mW8 stk ≤ 8) (hcall : CT mj d [vR a b c0, x1, x2, x3] M (.inl v) M1 n1) (kk : AW mi (d + 1) nx loc (v.toList ++ stk) M1 o M2 n2) : AW mi (d + 1) pc loc (x3 :: x2 :: x1 :: vR a b c0 :: stk) M o M2 (n1 + n2) := aw_callV (as := [x1, x2, x3]) hd hC hok hs9 hh ho ha hCn rfl hlen h8 hcall kk
theorem aw_callVX3 {mi d pc nx : Nat} {loc : List (Option mAV)} {stk : List mAV} {M : mM} {own : String} {ix mj : Nat} {a b c0 : Nat} {x1 x2 x3 : mAV} {E : String} {M1 : mM} {n1 : Nat} (hd : mD mi pc 3 nx (.invokevirtual ix)) (hC : mC mi = own) (hok : mCodeOk mj 3) (hs9 : mSiteV own ix mj) (hh : mHH mj = []) (ho : mOk (a, b, c0)) (ha : a < 7) (hCn : [RX0, RX1, RX2, RX3, RX4, RX5, RX6].getD a "" = (mY mj).cls) (hlen : (mEntL [vR a b c0, x1, x2, x3]).length ≤ mL mj) (h8 : mW8 stk ≤ 8) (hhi : mHH mi = []) (hcall : CT mj d [vR a b c0, x1, x2, x3] M (.inr E) M1 n1) : AW mi (d + 1) pc loc (x3 :: x2 :: x1 :: vR a b c0 :: stk) M (.inr E) M1 n1 := aw_callVX (as := [x1, x2, x3]) hd hC hok hs9 hh ho ha hCn rfl hlen h8 hhi hcall
theorem aw_callV4 {mi d pc nx : Nat} {loc : List (Option mAV)} {stk : List mAV} {M : mM} {own : String} {ix mj : Nat} {a b c0 : Nat} {x1 x2 x3 x4 : mAV} {o : mOut} {v : Option mAV} {M1 M2 : mM} {n1 n2 : Nat} (hd : mD mi pc 3 nx (.invokevirtual ix)) (hC : mC mi = own) (hok : mCodeOk mj 4) (hs9 : mSiteV own ix mj) (hh : mHH mj = []) (ho : mOk (a, b, c0)) (ha : a < 7) (hCn : [RX0, RX1, RX2, RX3, RX4, RX5, RX6].getD a "" = (mY mj).cls) (hlen : (mEntL [vR a b c0, x1, x2, x3, x4]).length ≤ mL mj) (h8 : mW8 stk ≤ 8) (hcall : CT mj d [vR a b c0, x1, x2, x3, x4] M (.inl v) M1 n1) (kk : AW mi (d + 1) nx loc (v.toList ++ stk) M1 o M2 n2) : AW mi (d + 1) pc loc (x4 :: x3 :: x2 :: x1 :: vR a b c0 :: stk) M o M2 (n1 + n2) := aw_callV (as := [x1, x2, x3, x4]) hd hC hok hs9 hh ho ha hCn rfl hlen h8 hcall kk
theorem aw_callVX4 {mi d pc nx : Nat} {loc : List (Option mAV)} {stk : List mAV} {M : mM} {own : String} {ix mj : Nat} {a b c0 : Nat} {x1 x2 x3 x4 : mAV} {E : String} {M1 : mM} {n1 : Nat} (hd : mD mi pc 3 nx (.invokevirtual ix)) (hC : mC mi = own) (hok : mCodeOk mj 4) (hs9 : mSiteV own ix mj) (hh : mHH mj = []) (ho : mOk (a, b, c0)) (ha : a < 7) (hCn : [RX0, RX1, RX2, RX3, RX4, RX5, RX6].getD a "" = (mY mj).cls) (hlen : (mEntL [vR a b c0, x1, x2, x3, x4]).length ≤ mL mj) (h8 : mW8 stk ≤ 8) (hhi : mHH mi = []) (hcall : CT mj d [vR a b c0, x1, x2, x3, x4] M (.inr E) M1 n1) : AW mi (d + 1) pc loc (x4 :: x3 :: x2 :: x1 :: vR a b c0 :: stk) M (.inr E) M1 n1 := aw_callVX (as := [x1, x2, x3, x4]) hd hC hok hs9 hh ho ha hCn rfl hlen h8 hhi hcall
theorem aw_callV5 {mi d pc nx : Nat} {loc : List (Option mAV)} {stk : List mAV} {M : mM} {own : String} {ix mj : Nat} {a b c0 : Nat} {x1 x2 x3 x4 x5 : mAV} {o : mOut} {v : Option mAV} {M1 M2 : mM} {n1 n2 : Nat} (hd : mD mi pc 3 nx (.invokevirtual ix)) (hC : mC mi = own) (hok : mCodeOk mj 5) (hs9 : mSiteV own ix mj) (hh : mHH mj = []) (ho : mOk (a, b, c0)) (ha : a < 7) (hCn : [RX0, RX1, RX2, RX3, RX4, RX5, RX6].getD a "" = (mY mj).cls) (hlen : (mEntL [vR a b c0, x1, x2, x3, x4, x5]).length ≤ mL mj) (h8 : mW8 stk ≤ 8) (hcall : CT mj d [vR a b c0, x1, x2, x3, x4, x5] M (.inl v) M1 n1) (kk : AW mi (d + 1) nx loc (v.toList ++ stk) M1 o M2 n2) : AW mi (d + 1) pc loc (x5 :: x4 :: x3 :: x2 :: x1 :: vR a b c0 :: stk) M o M2 (n1 + n2) := aw_callV (as := [x1, x2, x3, x4, x5]) hd hC hok hs9 hh ho ha hCn rfl hlen h8 hcall kk
theorem aw_callVX5 {mi d pc nx : Nat} {loc : List (Option mAV)} {stk : List mAV} {M : mM} {own : String} {ix mj : Nat} {a b c0 : Nat} {x1 x2 x3 x4 x5 : mAV} {E : String} {M1 : mM} {n1 : Nat} (hd : mD mi pc 3 nx (.invokevirtual ix)) (hC : mC mi = own) (hok : mCodeOk mj 5) (hs9 : mSiteV own ix mj) (hh : mHH mj = []) (ho : mOk (a, b, c0)) (ha : a < 7) (hCn : [RX0, RX1, RX2, RX3, RX4, RX5, RX6].getD a "" = (mY mj).cls) (hlen : (mEntL [vR a b c0, x1, x2, x3, x4, x5]).length ≤ mL mj) (h8 : mW8 stk ≤ 8) (hhi : mHH mi = []) (hcall : CT mj d [vR a b c0, x1, x2, x3, x4, x5] M (.inr E) M1 n1) : AW mi (d + 1) pc loc (x5 :: x4 :: x3 :: x2 :: x1 :: vR a b c0 :: stk) M (.inr E) M1 n1 := aw_callVX (as := [x1, x2, x3, x4, x5]) hd hC hok hs9 hh ho ha hCn rfl hlen h8 hhi hcall
theorem aw_callS0 {mi d pc nx : Nat} {loc : List (Option mAV)} {stk : List mAV} {M : mM} {own : String} {ix mj : Nat} {o : mOut} {v : Option mAV} {M1 M2 : mM} {n1 n2 : Nat} (hd : mD mi pc 3 nx (.invokestatic ix)) (hC : mC mi = own) (hok : mCodeOk mj 0) (hs9 : mSiteS own ix mj) (hh : mHH mj = []) (hlen : (mEntL []).length ≤ mL mj) (h8 : mW8 stk ≤ 8) (hcall : CT mj d [] M (.inl v) M1 n1) (kk : AW mi (d + 1) nx loc (v.toList ++ stk) M1 o M2 n2) : AW mi (d + 1) pc loc (stk) M o M2 (n1 + n2) := aw_callS (as := []) hd hC hok hs9 hh rfl hlen h8 hcall kk
theorem aw_callSX0 {mi d pc nx : Nat} {loc : List (Option mAV)} {stk : List mAV} {M : mM} {own : String} {ix mj : Nat} {E : String} {M1 : mM} {n1 : Nat} (hd : mD mi pc 3 nx (.invokestatic ix)) (hC : mC mi = own) (hok : mCodeOk mj 0) (hs9 : mSiteS own ix mj) (hh : mHH mj = []) (hlen : (mEntL []).length ≤ mL mj) (h8 : mW8 stk ≤ 8) (hhi : mHH mi = []) (hcall : CT mj d [] M (.inr E) M1 n1) : AW mi (d + 1) pc loc (stk) M (.inr E) M1 n1 := aw_callSX (as := []) hd hC hok hs9 hh rfl hlen h8 hhi hcall
theorem aw_callS1 {mi d pc nx : Nat} {loc : List (Option mAV)} {stk : List mAV} {M : mM} {own : String} {ix mj : Nat} {x1 : mAV} {o : mOut} {v : Option mAV} {M1 M2 : mM} {n1 n2 : Nat} (hd : mD mi pc 3 nx (.invokestatic ix)) (hC : mC mi = own) (hok : mCodeOk mj 1) (hs9 : mSiteS own ix mj) (hh : mHH mj = []) (hlen : (mEntL [x1]).length ≤ mL mj) (h8 : mW8 stk ≤ 8) (hcall : CT mj d [x1] M (.inl v) M1 n1) (kk : AW mi (d + 1) nx loc (v.toList ++ stk) M1 o M2 n2) : AW mi (d + 1) pc loc (x1 :: stk) M o M2 (n1 + n2) := aw_callS (as := [x1]) hd hC hok hs9 hh rfl hlen h8 hcall kk
theorem aw_callSX1 {mi d pc nx : Nat} {loc : List (Option mAV)} {stk : List mAV} {M : mM} {own : String} {ix mj : Nat} {x1 : mAV} {E : String} {M1 : mM} {n1 : Nat} (hd : mD mi pc 3 nx (.invokestatic ix)) (hC : mC mi = own) (hok : mCodeOk mj 1) (hs9 : mSiteS own ix mj) (hh : mHH mj = []) (hlen : (mEntL [x1]).length ≤ mL mj) (h8 : mW8 stk ≤ 8) (hhi : mHH mi = []) (hcall : CT mj d [x1] M (.inr E) M1 n1) : AW mi (d + 1) pc loc (x1 :: stk) M (.inr E) M1 n1 := aw_callSX (as := [x1]) hd hC hok hs9 hh rfl hlen h8 hhi hcall
theorem aw_callS2 {mi d pc nx : Nat} {loc : List (Option mAV)} {stk : List mAV} {M : mM} {own : String} {ix mj : Nat} {x1 x2 : mAV} {o : mOut} {v : Option mAV} {M1 M2 : mM} {n1 n2 : Nat} (hd : mD mi pc 3 nx (.invokestatic ix)) (hC : mC mi = own) (hok : mCodeOk mj 2) (hs9 : mSiteS own ix mj) (hh : mHH mj = []) (hlen : (mEntL [x1, x2]).length ≤ mL mj) (h8 : mW8 stk ≤ 8) (hcall : CT mj d [x1, x2] M (.inl v) M1 n1) (kk : AW mi (d + 1) nx loc (v.toList ++ stk) M1 o M2 n2) : AW mi (d + 1) pc loc (x2 :: x1 :: stk) M o M2 (n1 + n2) := aw_callS (as := [x1, x2]) hd hC hok hs9 hh rfl hlen h8 hcall kk
theorem aw_callSX2 {mi d pc nx : Nat} {loc : List (Option mAV)} {stk : List mAV} {M : mM} {own : String} {ix mj : Nat} {x1 x2 : mAV} {E : String} {M1 : mM} {n1 : Nat} (hd : mD mi pc 3 nx (.invokestatic ix)) (hC : mC mi = own) (hok : mCodeOk mj 2) (hs9 : mSiteS own ix mj) (hh : mHH mj = []) (hlen : (mEntL [x1, x2]).length ≤ mL mj) (h8 : mW8 stk ≤ 8) (hhi : mHH mi = []) (hcall : CT mj d [x1, x2] M (.inr E) M1 n1) : AW mi (d + 1) pc loc (x2 :: x1 :: stk) M (.inr E) M1 n1 := aw_callSX (as := [x1, x2]) hd hC hok hs9 hh rfl hlen h8 hhi hcall
theorem aw_callS3 {mi d pc nx : Nat} {loc : List (Option mAV)} {stk : List mAV} {M : mM} {own : String} {ix mj : Nat} {x1 x2 x3 : mAV} {o : mOut} {v : Option mAV} {M1 M2 : mM} {n1 n2 : Nat} (hd : mD mi pc 3 nx (.invokestatic ix)) (hC : mC mi = own) (hok : mCodeOk mj 3) (hs9 : mSiteS own ix mj) (hh : mHH mj = []) (hlen : (mEntL [x1, x2, x3]).length ≤ mL mj) (h8 : mW8 stk ≤ 8) (hcall : CT mj d [x1, x2, x3] M (.inl v) M1 n1) (kk : AW mi (d + 1) nx loc (v.toList ++ stk) M1 o M2 n2) : AW mi (d + 1) pc loc (x3 :: x2 :: x1 :: stk) M o M2 (n1 + n2) := aw_callS (as := [x1, x2, x3]) hd hC hok hs9 hh rfl hlen h8 hcall kk
theorem aw_callSX3 {mi d pc nx : Nat} {loc : List (Option mAV)} {stk : List mAV} {M : mM} {own : String} {ix mj : Nat} {x1 x2 x3 : mAV} {E : String} {M1 : mM} {n1 : Nat} (hd : mD mi pc 3 nx (.invokestatic ix)) (hC : mC mi = own) (hok : mCodeOk mj 3) (hs9 : mSiteS own ix mj) (hh : mHH mj = []) (hlen : (mEntL [x1, x2, x3]).length ≤ mL mj) (h8 : mW8 stk ≤ 8) (hhi : mHH mi = []) (hcall : CT mj d [x1, x2, x3] M (.inr E) M1 n1) : AW mi (d + 1) pc loc (x3 :: x2 :: x1 :: stk) M (.inr E) M1 n1 := aw_callSX (as := [x1, x2, x3]) hd hC hok hs9 hh rfl hlen h8 hhi hcall
theorem aw_callS4 {mi d pc nx : Nat} {loc : List (Option mAV)} {stk : List mAV} {M : mM} {own : String} {ix mj : Nat} {x1 x2 x3 x4 : mAV} {o : mOut} {v : Option mAV} {M1 M2 : mM} {n1 n2 : Nat} (hd : mD mi pc 3 nx (.invokestatic ix)) (hC : mC mi = own) (hok : mCodeOk mj 4) (hs9 : mSiteS own ix mj) (hh : mHH mj = []) (hlen : (mEntL [x1, x2, x3, x4]).length ≤ mL mj) (h8 : mW8 stk ≤ 8) (hcall : CT mj d [x1, x2, x3, x4] M (.inl v) M1 n1) (kk : AW mi (d + 1) nx loc (v.toList ++ stk) M1 o M2 n2) : AW mi (d + 1) pc loc (x4 :: x3 :: x2 :: x1 :: stk) M o M2 (n1 + n2) := aw_callS (as := [x1, x2, x3, x4]) hd hC hok hs9 hh rfl hlen h8 hcall kk
theorem aw_callSX4 {mi d pc nx : Nat} {loc : List (Option mAV)} {stk : List mAV} {M : mM} {own : String} {ix mj : Nat} {x1 x2 x3 x4 : mAV} {E : String} {M1 : mM} {n1 : Nat} (hd : mD mi pc 3 nx (.invokestatic ix)) (hC : mC mi = own) (hok : mCodeOk mj 4) (hs9 : mSiteS own ix mj) (hh : mHH mj = []) (hlen : (mEntL [x1, x2, x3, x4]).length ≤ mL mj) (h8 : mW8 stk ≤ 8) (hhi : mHH mi = []) (hcall : CT mj d [x1, x2, x3, x4] M (.inr E) M1 n1) : AW mi (d + 1) pc loc (x4 :: x3 :: x2 :: x1 :: stk) M (.inr E) M1 n1 := aw_callSX (as := [x1, x2, x3, x4]) hd hC hok hs9 hh rfl hlen h8 hhi hcall
theorem aw_callS5 {mi d pc nx : Nat} {loc : List (Option mAV)} {stk : List mAV} {M : mM} {own : String} {ix mj : Nat} {x1 x2 x3 x4 x5 : mAV} {o : mOut} {v : Option mAV} {M1 M2 : mM} {n1 n2 : Nat} (hd : mD mi pc 3 nx (.invokestatic ix)) (hC : mC mi = own) (hok : mCodeOk mj 5) (hs9 : mSiteS own ix mj) (hh : mHH mj = []) (hlen : (mEntL [x1, x2, x3, x4, x5]).length ≤ mL mj) (h8 : mW8 stk ≤ 8) (hcall : CT mj d [x1, x2, x3, x4, x5] M (.inl v) M1 n1) (kk : AW mi (d + 1) nx loc (v.toList ++ stk) M1 o M2 n2) : AW mi (d + 1) pc loc (x5 :: x4 :: x3 :: x2 :: x1 :: stk) M o M2 (n1 + n2) := aw_callS (as := [x1, x2, x3, x4, x5]) hd hC hok hs9 hh rfl hlen h8 hcall kk
theorem aw_callSX5 {mi d pc nx : Nat} {loc : List (Option mAV)} {stk : List mAV} {M : mM} {own : String} {ix mj : Nat} {x1 x2 x3 x4 x5 : mAV} {E : String} {M1 : mM} {n1 : Nat} (hd : mD mi pc 3 nx (.invokestatic ix)) (hC : mC mi = own) (hok : mCodeOk mj 5) (hs9 : mSiteS own ix mj) (hh : mHH mj = []) (hlen : (mEntL [x1, x2, x3, x4, x5]).length ≤ mL mj) (h8 : mW8 stk ≤ 8) (hhi : mHH mi = []) (hcall : CT mj d [x1, x2, x3, x4, x5] M (.inr E) M1 n1) : AW mi (d + 1) pc loc (x5 :: x4 :: x3 :: x2 :: x1 :: stk) M (.inr E) M1 n1 := aw_callSX (as := [x1, x2, x3, x4, x5]) hd hC hok hs9 hh rfl hlen h8 hhi hcall
theorem aw_callN0 {mi d pc nx : Nat} {loc : List (Option mAV)} {stk : List mAV} {M : mM} {own : String} {ix mj : Nat} {host : String} {o : mOut} {v : Option mAV} {M1 M2 : mM} {n1 n2 : Nat} (hd : mD mi pc 3 nx (.invokestatic ix)) (hC : mC mi = own) (hok : mCodeOk mj 0) (hs9 : mSiteN own ix mj host) (hh : mHH mj = []) (hlen : (mEntL []).length ≤ mL mj) (h8 : mW8 stk ≤ 8) (hcall : CT mj d [] M (.inl v) M1 n1) (kk : AW mi (d + 1) nx loc (v.toList ++ stk) M1 o M2 n2) : AW mi (d + 1) pc loc (stk) M o M2 (n1 + n2) := aw_callN (as := []) hd hC hok hs9 hh rfl hlen h8 hcall kk
theorem aw_callNX0 {mi d pc nx : Nat} {loc : List (Option mAV)} {stk : List mAV} {M : mM} {own : String} {ix mj : Nat} {host : String} {E : String} {M1 : mM} {n1 : Nat} (hd : mD mi pc 3 nx (.invokestatic ix)) (hC : mC mi = own) (hok : mCodeOk mj 0) (hs9 : mSiteN own ix mj host) (hh : mHH mj = []) (hlen : (mEntL []).length ≤ mL mj) (h8 : mW8 stk ≤ 8) (hhi : mHH mi = []) (hcall : CT mj d [] M (.inr E) M1 n1) : AW mi (d + 1) pc loc (stk) M (.inr E) M1 n1 := aw_callNX (as := []) hd hC hok hs9 hh rfl hlen h8 hhi hcall
theorem aw_callN1 {mi d pc nx : Nat} {loc : List (Option mAV)} {stk : List mAV} {M : mM} {own : String} {ix mj : Nat} {host : String} {x1 : mAV} {o : mOut} {v : Option mAV} {M1 M2 : mM} {n1 n2 : Nat} (hd : mD mi pc 3 nx (.invokestatic ix)) (hC : mC mi = own) (hok : mCodeOk mj 1) (hs9 : mSiteN own ix mj host) (hh : mHH mj = []) (hlen : (mEntL [x1]).length ≤ mL mj) (h8 : mW8 stk ≤ 8) (hcall : CT mj d [x1] M (.inl v) M1 n1) (kk : AW mi (d + 1) nx loc (v.toList ++ stk) M1 o M2 n2) : AW mi (d + 1) pc loc (x1 :: stk) M o M2 (n1 + n2) := aw_callN (as := [x1]) hd hC hok hs9 hh rfl hlen h8 hcall kk
theorem aw_callNX1 {mi d pc nx : Nat} {loc : List (Option mAV)} {stk : List mAV} {M : mM} {own : String} {ix mj : Nat} {host : String} {x1 : mAV} {E : String} {M1 : mM} {n1 : Nat} (hd : mD mi pc 3 nx (.invokestatic ix)) (hC : mC mi = own) (hok : mCodeOk mj 1) (hs9 : mSiteN own ix mj host) (hh : mHH mj = []) (hlen : (mEntL [x1]).length ≤ mL mj) (h8 : mW8 stk ≤ 8) (hhi : mHH mi = []) (hcall : CT mj d [x1] M (.inr E) M1 n1) : AW mi (d + 1) pc loc (x1 :: stk) M (.inr E) M1 n1 := aw_callNX (as := [x1]) hd hC hok hs9 hh rfl hlen h8 hhi hcall
theorem aw_callN2 {mi d pc nx : Nat} {loc : List (Option mAV)} {stk : List mAV} {M : mM} {own : String} {ix mj : Nat} {host : String} {x1 x2 : mAV} {o : mOut} {v : Option mAV} {M1 M2 : mM} {n1 n2 : Nat} (hd : mD mi pc 3 nx (.invokestatic ix)) (hC : mC mi = own) (hok : mCodeOk mj 2) (hs9 : mSiteN own ix mj host) (hh : mHH mj = []) (hlen : (mEntL [x1, x2]).length ≤ mL mj) (h8 : mW8 stk ≤ 8) (hcall : CT mj d [x1, x2] M (.inl v) M1 n1) (kk : AW mi (d + 1) nx loc (v.toList ++ stk) M1 o M2 n2) : AW mi (d + 1) pc loc (x2 :: x1 :: stk) M o M2 (n1 + n2) := aw_callN (as := [x1, x2]) hd hC hok hs9 hh rfl hlen h8 hcall kk
theorem aw_callNX2 {mi d pc nx : Nat} {loc : List (Option mAV)} {stk : List mAV} {M : mM} {own : String} {ix mj : Nat} {host : String} {x1 x2 : mAV} {E : String} {M1 : mM} {n1 : Nat} (hd : mD mi pc 3 nx (.invokestatic ix)) (hC : mC mi = own) (hok : mCodeOk mj 2) (hs9 : mSiteN own ix mj host) (hh : mHH mj = []) (hlen : (mEntL [x1, x2]).length ≤ mL mj) (h8 : mW8 stk ≤ 8) (hhi : mHH mi = []) (hcall : CT mj d [x1, x2] M (.inr E) M1 n1) : AW mi (d + 1) pc loc (x2 :: x1 :: stk) M (.inr E) M1 n1 := aw_callNX (as := [x1, x2]) hd hC hok hs9 hh rfl hlen h8 hhi hcall
theorem aw_callN3 {mi d pc nx : Nat} {loc : List (Option mAV)} {stk : List mAV} {M : mM} {own : String} {ix mj : Nat} {host : String} {x1 x2 x3 : mAV} {o : mOut} {v : Option mAV} {M1 M2 : mM} {n1 n2 : Nat} (hd : mD mi pc 3 nx (.invokestatic ix)) (hC : mC mi = own) (hok : mCodeOk mj 3) (hs9 : mSiteN own ix mj host) (hh : mHH mj = []) (hlen : (mEntL [x1, x2, x3]).length ≤ mL mj) (h8 : mW8 stk ≤ 8) (hcall : CT mj d [x1, x2, x3] M (.inl v) M1 n1) (kk : AW mi (d + 1) nx loc (v.toList ++ stk) M1 o M2 n2) : AW mi (d + 1) pc loc (x3 :: x2 :: x1 :: stk) M o M2 (n1 + n2) := aw_callN (as := [x1, x2, x3]) hd hC hok hs9 hh rfl hlen h8 hcall kk
theorem aw_callNX3 {mi d pc nx : Nat} {loc : List (Option mAV)} {stk : List mAV} {M : mM} {own : String} {ix mj : Nat} {host : String} {x1 x2 x3 : mAV} {E : String} {M1 : mM} {n1 : Nat} (hd : mD mi pc 3 nx (.invokestatic ix)) (hC : mC mi = own) (hok : mCodeOk mj 3) (hs9 : mSiteN own ix mj host) (hh : mHH mj = []) (hlen : (mEntL [x1, x2, x3]).length ≤ mL mj) (h8 : mW8 stk ≤ 8) (hhi : mHH mi = []) (hcall : CT mj d [x1, x2, x3] M (.inr E) M1 n1) : AW mi (d + 1) pc loc (x3 :: x2 :: x1 :: stk) M (.inr E) M1 n1 := aw_callNX (as := [x1, x2, x3]) hd hC hok hs9 hh rfl hlen h8 hhi hcall
theorem aw_callN4 {mi d pc nx : Nat} {loc : List (Option mAV)} {stk : List mAV} {M : mM} {own : String} {ix mj : Nat} {host : String} {x1 x2 x3 x4 : mAV} {o : mOut} {v : Option mAV} {M1 M2 : mM} {n1 n2 : Nat} (hd : mD mi pc 3 nx (.invokestatic ix)) (hC : mC mi = own) (hok : mCodeOk mj 4) (hs9 : mSiteN own ix mj host) (hh : mHH mj = []) (hlen : (mEntL [x1, x2, x3, x4]).length ≤ mL mj) (h8 : mW8 stk ≤ 8) (hcall : CT mj d [x1, x2, x3, x4] M (.inl v) M1 n1) (kk : AW mi (d + 1) nx loc (v.toList ++ stk) M1 o M2 n2) : AW mi (d + 1) pc loc (x4 :: x3 :: x2 :: x1 :: stk) M o M2 (n1 + n2) := aw_callN (as := [x1, x2, x3, x4]) hd hC hok hs9 hh rfl hlen h8 hcall kk
theorem aw_callNX4 {mi d pc nx : Nat} {loc : List (Option mAV)} {stk : List mAV} {M : mM} {own : String} {ix mj : Nat} {host : String} {x1 x2 x3 x4 : mAV} {E : String} {M1 : mM} {n1 : Nat} (hd : mD mi pc 3 nx (.invokestatic ix)) (hC : mC mi = own) (hok : mCodeOk mj 4) (hs9 : mSiteN own ix mj host) (hh : mHH mj = []) (hlen : (mEntL [x1, x2, x3, x4]).length ≤ mL mj) (h8 : mW8 stk ≤ 8) (hhi : mHH mi = []) (hcall : CT mj d [x1, x2, x3, x4] M (.inr E) M1 n1) : AW mi (d + 1) pc loc (x4 :: x3 :: x2 :: x1 :: stk) M (.inr E) M1 n1 := aw_callNX (as := [x1, x2, x3, x4]) hd hC hok hs9 hh rfl hlen h8 hhi hcall
theorem aw_callN5 {mi d pc nx : Nat} {loc : List (Option mAV)} {stk : List mAV} {M : mM} {own : String} {ix mj : Nat} {host : String} {x1 x2 x3 x4 x5 : mAV} {o : mOut} {v : Option mAV} {M1 M2 : mM} {n1 n2 : Nat} (hd : mD mi pc 3 nx (.invokestatic ix)) (hC : mC mi = own) (hok : mCodeOk mj 5) (hs9 : mSiteN own ix mj host) (hh : mHH mj = []) (hlen : (mEntL [x1, x2, x3, x4, x5]).length ≤ mL mj) (h8 : mW8 stk ≤ 8) (hcall : CT mj d [x1, x2, x3, x4, x5] M (.inl v) M1 n1) (kk : AW mi (d + 1) nx loc (v.toList ++ stk) M1 o M2 n2) : AW mi (d + 1) pc loc (x5 :: x4 :: x3 :: x2 :: x1 :: stk) M o M2 (n1 + n2) := aw_callN (as := [x1, x2, x3, x4, x5]) hd hC hok hs9 hh rfl hlen h8 hcall kk
theorem aw_callNX5 {mi d pc nx : Nat} {loc : List (Option mAV)} {stk : List mAV} {M : mM} {own : String} {ix mj : Nat} {host : String} {x1 x2 x3 x4 x5 : mAV} {E : String} {M1 : mM} {n1 : Nat} (hd : mD mi pc 3 nx (.invokestatic ix)) (hC : mC mi = own) (hok : mCodeOk mj 5) (hs9 : mSiteN own ix mj host) (hh : mHH mj = []) (hlen : (mEntL [x1, x2, x3, x4, x5]).length ≤ mL mj) (h8 : mW8 stk ≤ 8) (hhi : mHH mi = []) (hcall : CT mj d [x1, x2, x3, x4, x5] M (.inr E) M1 n1) : AW mi (d + 1) pc loc (x5 :: x4 :: x3 :: x2 :: x1 :: stk) M (.inr E) M1 n1 := aw_callNX (as := [x1, x2, x3, x4, x5]) hd hC hok hs9 hh rfl hlen h8 hhi hcall
end
