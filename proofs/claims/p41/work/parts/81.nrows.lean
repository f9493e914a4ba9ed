/-! THE ROWS OF A CONSTRUCTOR -/
def nF (D : va_G) (mi d : Nat) (p : Program) (R : Room) (s : State) (m : MethodId) (c : Code) : Prop := p.tables.exec = Jvm.exec ∧ c.code = mB mi ∧ c.maxLocals = mL mi ∧ s.vm.findClass (mC mi) = some m.cls ∧ d ≤ R.frames ∧ 40 * d ≤ R.locals ∧ kV D s
section NR
variable {D : va_G} {mi d : Nat} {A : Nat → Prop} {p : Program} {l : Launch} {e : Env} {R : Room} {s : State} {m : MethodId} {args : Array Value} {below : List Frame} {meth : Method} {c : Code} {Q : State → Prop} {H : Heap} {locs : List Loc} {ls : Array Slot} {cells slots : Nat} {pc nx : Nat} {rest : List Value} {ws : va_W}
theorem n_new {own C : String} {T : u_T} {N ci ix : Nat} {fs : List Value} {ty : Nat → FieldType} (hF : nF D mi d p R s m c) (hC : mC mi = own) (hc : mCl[ci]? = some (C, T, N)) (hty : ∀ k, k < N → parseFieldDescriptor (T k).2.2.1 = some (ty k)) (hin : ∀ w ∈ u_ws C T N, w ∈ lw_tbl) (hcl : Cond.classLink own ix C ∈ lw_tbl) (hinst : Cond.instantiable C N ∈ lw_tbl) (hini : Cond.initialized C ∈ lw_tbl) (hfs : ∀ j, j < N → defaultValue (ty j) = vp_V fs j)
    (hS : nS D A s.heap H locs ws) (hA : ∀ q, s.heap.size ≤ q → A q) (hcells : cells + 1 ≤ R.cells) (hslots : slots + N ≤ R.slots) (hdg : mD mi pc 3 nx (.new ix))
    (kk : ∀ (q : Nat) (H1 : Heap), nS D A s.heap H1 locs (ws ++ [(q, .inr (ci, fs))]) → W p l e R s m args below meth c H1 locs (cells + 1) (slots + N) Q (F0 m nx ls (.ref q :: rest))) : W p l e R s m args below meth c H locs cells slots Q (F0 m pc ls rest) := by
  obtain ⟨hdg, rfl⟩ := hdg
  obtain ⟨hx, hb, hml, hown, hfr, hlo, hV⟩ := hF
  rw [hC] at hown
  obtain ⟨hP, hD, hSS⟩ := hS
  exact va_new (Ts := u_ws C T N) hx hb (fun w h => hV.w (hin w h) (u_ws_warm h)) (fun w h => h) ty hty hown (hV.w hcl rfl) (hV.w hinst rfl) (hV.w hini rfl) hV.K hP hD hSS hA hc hfs hcells hslots hdg (fun q H1 a b c => kk q H1 ⟨a, b, c⟩)
theorem n_newa {atype : ArrayType} {ty : FieldType} {n : Int32} {N : Nat} {a0 : vp_A} (hF : nF D mi d p R s m c) (harr : Cond.arrayClass (newarray.typeOf atype) ∈ lw_tbl) (hty : newarray.typeOf atype = ty) (ha : ∀ cA : ClassId, vp_cell cA a0 = arrV cA N (fun _ => defaultValue ty)) (hn : ¬ n < 0) (hN : n.toNatClampNeg = N) (hbytes : N * componentBytes ty ≤ 536870912)
    (hS : nS D A s.heap H locs ws) (hA : ∀ q, s.heap.size ≤ q → A q) (hcells : cells + 1 ≤ R.cells) (hslots : slots + N ≤ R.slots) (hdg : mD mi pc 2 nx (.newarray atype))
    (kk : ∀ (q : Nat) (cA : ClassId) (H1 : Heap), nAr s cA ty → nS D A s.heap H1 locs (ws ++ [(q, .inl (cA, a0))]) → W p l e R s m args below meth c H1 locs (cells + 1) (slots + N) Q (F0 m nx ls (.ref q :: rest))) : W p l e R s m args below meth c H locs cells slots Q (F0 m pc ls (.int n :: rest)) := by
  obtain ⟨hdg, rfl⟩ := hdg
  obtain ⟨hx, hb, hml, hown, hfr, hlo, hV⟩ := hF
  obtain ⟨hP, hD, hSS⟩ := hS
  exact va_newa hx hb (hV.w harr rfl) hty hV.K hP hD hSS hA ha hn hN hbytes hcells hslots hdg (fun q cA H1 k a b c => kk q cA H1 (k.2 0 (cA, ty) rfl) ⟨a, b, c⟩)
theorem n_newq {own C : String} {ix : Nat} {n : Int32} {N : Nat} (hF : nF D mi d p R s m c) (hC : mC mi = own) (hcl : Cond.classLink own ix C ∈ lw_tbl) (hover : va_AO C s) (hn : ¬ n < 0) (hN : n.toNatClampNeg = N) (hbytes : N * 4 ≤ 536870912)
    (hS : nS D A s.heap H locs ws) (hA : ∀ q, s.heap.size ≤ q → A q) (hcells : cells + 1 ≤ R.cells) (hslots : slots + N ≤ R.slots) (hdg : mD mi pc 3 nx (.anewarray ix))
    (kk : ∀ (q : Nat) (cA : ClassId) (H1 : Heap), nAr s cA (.object C) → nS D A s.heap H1 locs (ws ++ [(q, .inl (cA, N, .inr (.inr (.inr (.inr (fun _ => none))))))]) → W p l e R s m args below meth c H1 locs (cells + 1) (slots + N) Q (F0 m nx ls (.ref q :: rest))) : W p l e R s m args below meth c H locs cells slots Q (F0 m pc ls (.int n :: rest)) := by
  obtain ⟨hdg, rfl⟩ := hdg
  obtain ⟨hx, hb, hml, hown, hfr, hlo, hV⟩ := hF
  rw [hC] at hown
  obtain ⟨hP, hD, hSS⟩ := hS
  exact va_newq hx hb hown (hV.w hcl rfl) hover hV.K hP hD hSS hA hn hN hbytes hcells hslots hdg (fun q cA H1 k a b c => kk q cA H1 (k.2 0 (cA, .object C) rfl) ⟨a, b, c⟩)
theorem n_put {own : String} {ix ci k a : Nat} {fs : List Value} {v : Value} {ty : FieldType} (q0 : Nat) (hF : nF D mi d p R s m c) (hC : mC mi = own) (hf : mFS own ix ci k) (hci : ci < 7) (hk : k < mN ci) (hlink : Cond.fieldLink own ix ([RX0, RX1, RX2, RX3, RX4, RX5, RX6].getD ci "") (([TX0, TX1, TX2, TX3, TX4, TX5, TX6].getD ci mTE) k).2.1 (([TX0, TX1, TX2, TX3, TX4, TX5, TX6].getD ci mTE) k).2.2.1 ∈ lw_tbl) (hin2 : (([TX0, TX1, TX2, TX3, TX4, TX5, TX6].getD ci mTE) k).2.2.2 = true → meth.name = "<init>" ∧ (([TX0, TX1, TX2, TX3, TX4, TX5, TX6].getD ci mTE) k).1 = own)
    (hty : parseFieldDescriptor (([TX0, TX1, TX2, TX3, TX4, TX5, TX6].getD ci mTE) k).2.2.1 = some ty) (hn : narrow ty v = v) (hfit : fits ty v = true) (hl : k < fs.length) (he : ws[q0]? = some (a, .inr (ci, fs)))
    (hS : nS D A s.heap H locs ws) (hdg : mD mi pc 3 nx (.putfield ix))
    (kk : ∀ (H1 : Heap) (locs1 : List Loc), nS D A s.heap H1 locs1 (ws.set q0 (a, .inr (ci, fs.set k v))) → W p l e R s m args below meth c H1 locs1 cells slots Q (F0 m nx ls rest)) : W p l e R s m args below meth c H locs cells slots Q (F0 m pc ls (v :: .ref a :: rest)) := by
  obtain ⟨hdg, rfl⟩ := hdg
  obtain ⟨hx, hb, hml, hown, hfr, hlo, hV⟩ := hF
  rw [hC] at hown
  obtain ⟨hP, hD, hSS⟩ := hS
  obtain ⟨⟨C, T, N⟩, hq, hsm, -⟩ := hf
  have hNm : N = mN ci := mCl_N ci hci _ hq
  have hinn := mCl_in ci hci _ hq
  obtain ⟨⟨ty0, hty0⟩, hnm⟩ := mCl_ty ci hci _ hq
  have hT : [TX0, TX1, TX2, TX3, TX4, TX5, TX6].getD ci mTE = T ∧ [RX0, RX1, RX2, RX3, RX4, RX5, RX6].getD ci "" = C := by
    match ci, hci, hq with
    | 0, _, hq => cases hq; exact ⟨rfl, rfl⟩
    | 1, _, hq => cases hq; exact ⟨rfl, rfl⟩
    | 2, _, hq => cases hq; exact ⟨rfl, rfl⟩
    | 3, _, hq => cases hq; exact ⟨rfl, rfl⟩
    | 4, _, hq => cases hq; exact ⟨rfl, rfl⟩
    | 5, _, hq => cases hq; exact ⟨rfl, rfl⟩
    | 6, _, hq => cases hq; exact ⟨rfl, rfl⟩
  obtain ⟨rfl, hT2⟩ := hT
  rw [hT2] at hlink
  have hsm' : (([TX0, TX1, TX2, TX3, TX4, TX5, TX6].getD ci mTE) k).1 = C := hsm
  by_cases hfin : (([TX0, TX1, TX2, TX3, TX4, TX5, TX6].getD ci mTE) k).2.2.2 = true
  · obtain ⟨i1, i2⟩ := hin2 hfin
    exact va_putF (Ts := u_ws C ([TX0, TX1, TX2, TX3, TX4, TX5, TX6].getD ci mTE) N) hx hb (fun w h => hV.w (hinn w h) (u_ws_warm h)) (fun w h => h) ty0 hty0 hnm hown hV.K hP hD hSS q0 he hq k (by rw [hNm]; exact hk) (hV.w hlink rfl) (fun x h => by rw [hsm'] at h; exact h) hfin i1 i2 hty hn hfit hl hdg (fun H1 locs1 a b c => kk H1 locs1 ⟨a, b, c⟩)
  · exact va_put (Ts := u_ws C ([TX0, TX1, TX2, TX3, TX4, TX5, TX6].getD ci mTE) N) hx hb (fun w h => hV.w (hinn w h) (u_ws_warm h)) (fun w h => h) ty0 hty0 hnm hown hV.K hP hD hSS q0 he hq k (by rw [hNm]; exact hk) (hV.w hlink rfl) (fun x h => by rw [hsm'] at h; exact h) (by cases h : (([TX0, TX1, TX2, TX3, TX4, TX5, TX6].getD ci mTE) k).2.2.2 <;> simp_all) hty hn hfit hl hdg (fun H1 locs1 a b c => kk H1 locs1 ⟨a, b, c⟩)
theorem n_get {own : String} {ix ci k a : Nat} {fs : List Value} {v : Value} (q0 : Nat) (hF : nF D mi d p R s m c) (hC : mC mi = own) (hf : mFS own ix ci k) (hci : ci < 7) (hk : k < mN ci) (hlink : Cond.fieldLink own ix ([RX0, RX1, RX2, RX3, RX4, RX5, RX6].getD ci "") (([TX0, TX1, TX2, TX3, TX4, TX5, TX6].getD ci mTE) k).2.1 (([TX0, TX1, TX2, TX3, TX4, TX5, TX6].getD ci mTE) k).2.2.1 ∈ lw_tbl) (he : ws[q0]? = some (a, .inr (ci, fs))) (hv : fs[k]? = some v)
    (hS : nS D A s.heap H locs ws) (hdg : mD mi pc 3 nx (.getfield ix))
    (kk : W p l e R s m args below meth c H locs cells slots Q (F0 m nx ls (v :: rest))) : W p l e R s m args below meth c H locs cells slots Q (F0 m pc ls (.ref a :: rest)) := by
  obtain ⟨hdg, rfl⟩ := hdg
  obtain ⟨hx, hb, hml, hown, hfr, hlo, hV⟩ := hF
  rw [hC] at hown
  obtain ⟨hP, hD, hSS⟩ := hS
  obtain ⟨⟨C, T, N⟩, hq, hsm, -⟩ := hf
  have hNm : N = mN ci := mCl_N ci hci _ hq
  have hinn := mCl_in ci hci _ hq
  have hT : [TX0, TX1, TX2, TX3, TX4, TX5, TX6].getD ci mTE = T ∧ [RX0, RX1, RX2, RX3, RX4, RX5, RX6].getD ci "" = C := by
    match ci, hci, hq with
    | 0, _, hq => cases hq; exact ⟨rfl, rfl⟩
    | 1, _, hq => cases hq; exact ⟨rfl, rfl⟩
    | 2, _, hq => cases hq; exact ⟨rfl, rfl⟩
    | 3, _, hq => cases hq; exact ⟨rfl, rfl⟩
    | 4, _, hq => cases hq; exact ⟨rfl, rfl⟩
    | 5, _, hq => cases hq; exact ⟨rfl, rfl⟩
    | 6, _, hq => cases hq; exact ⟨rfl, rfl⟩
  obtain ⟨rfl, hT2⟩ := hT
  rw [hT2] at hlink
  have hsm' : (([TX0, TX1, TX2, TX3, TX4, TX5, TX6].getD ci mTE) k).1 = C := hsm
  exact va_get (Ts := u_ws C ([TX0, TX1, TX2, TX3, TX4, TX5, TX6].getD ci mTE) N) hx hb (fun w h => hV.w (hinn w h) (u_ws_warm h)) (fun w h => h) hown hV.K hP q0 he hq k (by rw [hNm]; exact hk) (hV.w hlink rfl) (fun x h => by rw [hsm'] at h; exact h) hv hdg kk
theorem n_astq {r : vw_C} {ci a v n : Nat} {cA : ClassId} {vs : List Value} {f : Nat → Option Nat} {i : Int32} (q0 qk : Nat) (hF : nF D mi d p R s m c) (hT : nAr s cA (.object r.1)) (hc : mCl[ci]? = some r) (ha : ws[q0]? = some (a, .inl (cA, n, .inr (.inr (.inr (.inr f)))))) (hv : ws[qk]? = some (v, .inr (ci, vs))) (hin : vp_in i n)
    (hS : nS D A s.heap H locs ws) (hdg : mD mi pc 1 nx .aastore)
    (kk : ∀ (H1 : Heap) (locs1 : List Loc), nS D A s.heap H1 locs1 (ws.set q0 (a, .inl (cA, n, .inr (.inr (.inr (.inr (va_up f i.toNatClampNeg (some v)))))))) → W p l e R s m args below meth c H1 locs1 cells slots Q (F0 m nx ls rest)) : W p l e R s m args below meth c H locs cells slots Q (F0 m pc ls (.ref v :: .int i :: .ref a :: rest)) := by
  obtain ⟨hdg, rfl⟩ := hdg
  obtain ⟨hx, hb, hml, hown, hfr, hlo, hV⟩ := hF
  obtain ⟨hP, hD, hSS⟩ := hS
  exact va_astq hx hb (hV.KA hT) hP hD hSS q0 0 qk ci ha rfl hv hc hin hdg (fun H1 locs1 a b c => kk H1 locs1 ⟨a, b, c⟩)
theorem n_objInit {own : String} {ix : Nat} {a : Nat} (hF : nF D mi d p R s m c) (hC : mC mi = own) (hl : Cond.methodLink own ix Lib.objectInit ∈ lw_tbl) (hin : Cond.instanceMethod Lib.objectInit ∈ lw_tbl) (hco : Cond.code Lib.objectInit ⟨#[0xb1]⟩ 1 none ∈ lw_tbl) (hd1 : 1 ≤ d) (hls : ls.size = mL mi) (hrest : rest = [])
    (hdg : mD mi pc 3 nx (.invokespecial ix)) (kk : W p l e R s m args below meth c H locs cells slots Q (F0 m nx ls rest)) : W p l e R s m args below meth c H locs cells slots Q (F0 m pc ls (.ref a :: rest)) := by
  obtain ⟨hdg, rfl⟩ := hdg
  obtain ⟨hx, hb, hml, hown, hfr, hlo, hV⟩ := hF
  rw [hC] at hown
  subst hrest
  refine W.objInit hx hb hown (hV.w hl rfl) (hV.w hin rfl) (hV.w hco rfl) rfl (by rw [hml]; exact hls) rfl hdg (by omega) ?_ ?_
  · show 2 * 0 + 0 + 12 ≤ R.locals
    omega
  · exact W.eq (g2 := F0 m (pc + 3) ls []) rfl kk
end NR
