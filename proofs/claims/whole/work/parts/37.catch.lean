theorem kw_264 : Cond.codeWith y_La_row method_3_code 3 (some .int) [(0, 8, 11, 13)] ∈ xG := xG_at 280 rfl rfl
theorem kw_429 : Cond.codeWith y_La_skip method_4_code 4 (some .int) [(0, 9, 12, 19), (0, 9, 15, 13)] ∈ xG := xG_at 445 rfl rfl
theorem kw_458 : Cond.codeWith y_La_shut method_5_code 3 (some .int) [(0, 8, 11, 13)] ∈ xG := xG_at 474 rfl rfl
theorem kw_470 : Cond.codeWith y_La_black method_6_code 5 (some .int) [(0, 17, 20, 28)] ∈ xG := xG_at 486 rfl rfl
-- methods with handlers; a callee that throws, and the throw is caught
abbrev xwh (y : MethodName) (b : ByteArray) (n : Nat) (r : Option FieldType) (hs : List (Nat × Nat × Nat × Nat)) : List Cond := Cond.codeWith y b n r hs :: xG
def xMetH (l : Launch) (D : va_G) (tys : List (ClassId × FieldType)) (y : MethodName) (b : ByteArray) (n : Nat) (r : Option FieldType) (hs : List (Nat × Nat × Nat × Nat)) (rm : Room) (av : List Value) (ws : va_W) (post : Option Value → va_W → Prop) : Prop :=
  ∀ sz : Nat, Met l y (xwh y b n r hs) rm (xPc D tys xFt av ws sz) (xQ D (va_A ws sz) post) rm.cells rm.slots (va_A ws sz)
theorem x_metH {l : Launch} {D : va_G} {tys : List (ClassId × FieldType)} {y : MethodName} {b : ByteArray} {n : Nat} {r : Option FieldType} {hs : List (Nat × Nat × Nat × Nat)} {rm : Room} {av : List Value} {ws : va_W} {post : Option Value → va_W → Prop} (hy : plainName y.cls = true) (hav : (lg_sl av).length ≤ n)
    (body : ∀ (p : Program) (e : Env) (s : State) (m : MethodId) (below : List Frame) (meth : Method) (c : Code), p.tables.exec = Jvm.exec → c.code = b → meth.sig.returnType = r → c.maxLocals = n → (∀ w ∈ xG, w.before av.toArray s = true) → s.vm.findClass y.cls = some m.cls → meth.locks = false → c.exceptionTable.toList.map (fun h => (h.startPc, h.endPc, h.handlerPc, h.catchType)) = hs → xFt s →
      ∀ A : Nat → Prop, (∀ q : Nat, s.heap.size ≤ q → A q) → va_P D xcl ws s.heap → va_D A ws → va_K D xcl tys s → ∀ ls : Array Slot, lv_has ls n (lv_args 0 av) → va_S A s.heap s.heap [] →
      W p l e rm s m av.toArray below meth c s.heap [] 0 0 (MQ below (xQ D A post) av.toArray s rm.cells rm.slots A) (F0 m 0 ls [])) : xMetH l D tys y b n r hs rm av ws post := by
  intro sz
  refine MetFree.of_bodyS (code := b) (maxLocals := n) (ret := r) hy ?_ ?_
  · intro args s m h hn
    obtain ⟨m', meth, c, h0, h1, h2, h3, h4, -, h5, h6, -⟩ := Cond.codeWith_spec (atoms_spec (ws := xwh y b n r hs) h _ List.mem_cons_self)
    cases hn.symm.trans h0
    exact ⟨meth, c, h1, h2, h3, h4, h5, h6⟩
  · intro p e s m args below meth c s₁ B hml hv _
    obtain ⟨rfl, hsz, hP, hK, hD0, hF⟩ := hv
    subst hsz
    have hh0 : s₁.heap = s.heap := by rw [B.state]; rfl
    have hts0 := atoms_spec (ws := xwh y b n r hs) B.pre
    have X₀ : Stand p l e rm s m av.toArray below meth c s₁ [] 0 0 := Stand.of_body B
    obtain ⟨m', meth', c', g0, g1, g2, -, -, g5, -, -, -⟩ := Cond.codeWith_spec (hts0 _ List.mem_cons_self)
    cases B.named.symm.trans g0
    cases B.method.symm.trans g1
    cases X₀.code.symm.trans g2
    obtain ⟨t, a1, o, b1, b2, b3⟩ := body p e s m below meth c B.exec B.bytes B.returns hml (fun w h => hts0 w (List.mem_cons_of_mem _ h)) (findClass_of_methodNamed B.named) B.notSynchronized g5 hF (va_A ws s.heap.size) (fun q h => Or.inr h) hP hD0.self hK _ (lv_entry av hav) va_S.rf s₁ hh0 X₀
    rw [lg_entry_eq]
    exact ⟨t, o, a1, b1, b2, b3.1, b3.2⟩
theorem back_ofH {l : Launch} {R : Room} {p : Program} {e : Env} {below : List Frame} {s : State} {sargs : Array Value} {y : MethodName} {len W : Nat} {ws : List Cond} {rm : Room} {Pc : Array Value → State → Prop} {Qc : Array Value → State → Outcome → State → Prop} {mc ms : Nat} {free : Addr → Prop} {bytes : ByteArray} {maxL : Nat} {ret : Option FieldType} {hs : List (Nat × Nat × Nat × Nat)}
    (hM : Met l y ws rm Pc Qc mc ms free) (hblind : FrameBlind Pc) (hrc : rm.cells = mc) (hrs : rm.slots = ms)
    (hframes : rm.frames + 1 ≤ R.frames) (hlocals : W + (maxL + 11) + rm.locals ≤ R.locals)
    (hws : ∀ w ∈ ws, ∀ a' U, s.WarmedH U.vm → w.before a' U = true) (hcode : Cond.codeWith y bytes maxL ret hs ∈ ws) (hinit : ∀ a' U, s.WarmedH U.vm → (Cond.initialized y.cls).before a' U = true) :
    Back l R p e below s sargs y len W (PreOf R mc ms Pc) (PostOf Qc mc ms free) := by
  refine Back.of_freeWith (S := headSpec ws rm) (P := Pc) (K := fun _ _ _ _ _ => True) (Q := fun a st o t => Qc a st o t ∧ ∃ L, FrameEnd st o t L mc ms ∧ ∀ q ∈ L, free q.base) (bytes := bytes) (maxL := maxL) (ret := ret) (handlers := hs)
    (E := fun a st o t L k n => k = mc ∧ n = ms ∧ ∀ q ∈ L, free q.base) hM hframes hlocals ?_ ?_ (fun _ _ _ _ _ _ _ _ _ => trivial) ?_ ?_
  · intro m meth c A a X hp
    exact ⟨atoms_intro fun w hw => hws w hw _ _ X.warmed, hws _ hcode _ _ X.warmed, hinit _ _ X.warmed, by rw [show (headSpec ws rm).room.cells = mc from hrc]; exact hp.1, by rw [show (headSpec ws rm).room.slots = ms from hrs]; exact hp.2.1⟩
  · intro m meth c A a g mk X hp
    exact hblind _ _ _ _ hp.2.2
  · intro a st o t ⟨hq, L, hF, hL⟩
    exact ⟨L, mc, ms, hF, rfl, rfl, hL⟩
  · intro m meth c A a g mk v t L k n X hp hq hF ⟨e1, e2, hL⟩
    subst e1; subst e2
    exact ⟨g, mk, t, L, rfl, rfl, hq.1, rfl, hL, rfl, rfl⟩
section XH
variable {p : Program} {l : Launch} {e : Env} {R : Room} {s : State} {m : MethodId} {args : Array Value} {below : List Frame} {meth : Method} {c : Code} {T : State} {H : Heap} {locs : List Loc} {cells slots : Nat} {Q : State → Prop}
variable {D : va_G} {tys : List (ClassId × FieldType)} {y : MethodName} {own C : String} {bytes cc : ByteArray} {maxL nL index pc : Nat} {ret : Option FieldType} {rm : Room} {b : Nat} {As rest st : List Value} {ws wc : va_W} {post : Option Value → va_W → Prop} {ls : Array Slot} {A : Nat → Prop} {hs : List (Nat × Nat × Nat × Nat)}
theorem callSH (X : Stand p l e R s m args below meth c T locs cells slots) (hexec : p.tables.exec = Jvm.exec)
    (hown : s.vm.findClass own = some m.cls) (hlink : (Cond.methodLink own index y).before args s = true) (hstat : (Cond.static y).before args s = true) (hinit : (Cond.initialized y.cls).before args s = true)
    (hcode : (Cond.codeWith y bytes maxL ret hs).before args s = true) (hy : y.cls ≠ "java/lang/invoke/MethodHandle" ∧ y.cls ≠ "java/lang/invoke/VarHandle")
    {W : Nat} {Pre : Pt → Array Value → Prop} {Post : Pt → Array Value → Option Value → Pt → Prop} (hK : Back l R p e below s args y 3 W Pre Post)
    {g : JFrame} (hg : g.method = m) (hsize : g.locals.size = c.maxLocals) {argsL rest : List Value} (hlen : ∀ sig, parseMethodDescriptor y.desc = some sig → argsL.length = sig.parameters.length)
    (hstack : g.stack = argsL.reverse ++ rest) (hW : 2 * g.monitorRoom + (rest.map fun v => v.category).sum ≤ W) (hdg : decode c.code g.pc = .ok (.invokestatic index, 3))
    (hpre : ∀ vm₁, s.WarmedH vm₁ → Pre ⟨T.setVm vm₁, locs, cells, slots⟩ argsL.toArray) :
    ∃ (v : Option Value) (vm₁ : Vm) (B : Pt), s.WarmedH vm₁ ∧ Stand p l e R s m args below meth c B.U B.locs B.cells B.slots ∧ Post ⟨T.setVm vm₁, locs, cells, slots⟩ argsL.toArray v B ∧
      ∀ target, Steps p.tables e below (B.U.setTop { g with pc := g.pc + 3, stack := v.toList ++ rest }) target → Steps p.tables e below (T.setTop g) target := by
  obtain ⟨mk, methM, cM, hnamed, hmethM, -, -, -, -, -, -, hsigM⟩ := Cond.codeWith_spec hcode
  have hstatic : methM.isStatic = true := Cond.static_spec hnamed hmethM hstat
  obtain ⟨kP, hkP, -⟩ := className_of_methodNamed hnamed
  have hinitP : kP.init = .initialized := Cond.initialized_spec (findClass_of_methodNamed hnamed) hkP hinit
  obtain ⟨vm₁, X₁, hstep₁⟩ := X.invokestatic hexec hown hlink hnamed hmethM hstatic hkP hinitP hy (g := g) hg (argsL := argsL) (rest := rest) (hlen _ hsigM) hstack hdg
  obtain ⟨v, B, X', hpost, hsteps⟩ := hK m meth c ⟨T.setVm vm₁, locs, cells, slots⟩ { g with stack := rest } (.invokestatic index) mk argsL.toArray X₁ hg hsize hdg hW (X₁.named hnamed) (hpre vm₁ X₁.warmed)
  exact ⟨v, vm₁, B, X₁.warmed, X', hpost, fun target h => hstep₁ _ fun acts => by rw [doInvoke_state]; exact hsteps.trans h⟩
theorem xlen {y : MethodName} {n : Nat} (hd : xDesc y n) : ∀ sig, parseMethodDescriptor y.desc = some sig → n = sig.parameters.length := fun sig h => by
  have h2 := hd.2.2
  rw [h] at h2
  exact (Option.some.inj h2).symm
theorem x_runSH (hx : p.tables.exec = Jvm.exec) (hb : c.code = cc) (hml : c.maxLocals = nL) (hown : s.vm.findClass own = some m.cls) (hts : ∀ w ∈ xG, w.before args s = true) (hF : xFt s) (hz : s.heap.size ≤ H.size) (hq : ∀ a : Nat, a < s.heap.size → H[a]? = s.heap[a]?)
    (hM : xMetH l D tys y bytes maxL ret hs rm As wc post) (hl : Cond.methodLink own index y ∈ xG) (hstt : Cond.static y ∈ xG) (hini : Cond.initialized y.cls ∈ xG) (hc : Cond.codeWith y bytes maxL ret hs ∈ xG) (hd : xDesc y As.length) (hR : xRoom R rm maxL cells slots)
    (hK : va_K D xcl tys s) (hP : va_P D xcl wc H) (hD : va_D A wc)
    (hls : ls.size = nL) (hst : st = As.reverse ++ rest) (hW : (rest.map fun v => v.category).sum ≤ 8) (hdg : decode cc pc = .ok (.invokestatic index, 3)) :
    va_Run p l e R s m args below meth c H locs cells slots rm.cells rm.slots (F0 m pc ls st) rest (xQ D (va_A wc H.size) post As.toArray) (va_A wc H.size) := by
  have hws := pay_in hts (xG_good hc)
  have hB : Back l R p e below s args y 3 8 (PreOf R rm.cells rm.slots (xPc D tys xFt As wc H.size)) (PostOf (xQ D (va_A wc H.size) post) rm.cells rm.slots (va_A wc H.size)) :=
    back_ofH (hM H.size) (x_blind (fun a U g mk h => h.calling g mk a)) rfl rfl hR.1.1 hR.1.2 hws List.mem_cons_self (fun a' U hW => hws _ (List.mem_cons_of_mem _ hini) a' U hW)
  intro T hT X
  obtain ⟨v, vm₁, ⟨U', l2, c2, s2⟩, hW₁, X', ⟨g', mk, t, L, e1, e2, hq', h1, hL, h2, h3⟩, stp⟩ := callSH X hx (bytes := bytes) (maxL := maxL) (ret := ret) (hs := hs) hown (hts _ hl) (hts _ hstt) (hts _ hini) (hts _ hc) ⟨hd.1, hd.2.1⟩ hB (g := F0 m pc ls st) rfl (hls.trans hml.symm) (argsL := As) (rest := rest) (xlen hd) hst (lv_room hW) (by rw [hb]; exact hdg)
    (fun vm₁ hW₁ => ⟨hR.2.1, hR.2.2, rfl, by rw [← hT]; rfl, by show va_P D xcl wc T.heap; rw [hT]; exact hP, va_K.moved hW₁.alike hK, hD.weaken (fun _ _ _ _ => trivial), xFt.go (s := s) (U := T.setVm vm₁) hW₁ (by show _ ≤ T.heap.size; rw [hT]; exact hz) (fun a ha => by show T.heap[a]? = _; rw [hT]; exact hq a ha) hF⟩)
  dsimp only [Pt.U, Pt.locs, Pt.cells, Pt.slots] at X' e1 e2 h1 h2 h3 stp
  subst h1; subst h2; subst h3
  exact ⟨v, (T.setVm vm₁).calling g' mk As.toArray, t, U', L, hT, X', hL, e1, e2, hq', stp⟩
theorem callVT (X : Stand p l e R s m args below meth c T locs cells slots) (hexec : p.tables.exec = Jvm.exec)
    (hown : s.vm.findClass own = some m.cls) (hlink : (Cond.methodLink own index y).before args s = true) (hinst : (Cond.instanceMethod y).before args s = true) (hsel : (Cond.selects C y y).before args s = true)
    (hcode : (Cond.code y bytes maxL ret).before args s = true) (hy : y.cls ≠ "java/lang/invoke/MethodHandle" ∧ y.cls ≠ "java/lang/invoke/VarHandle")
    {W : Nat} {Pre : Pt → Array Value → Prop} {Post : Pt → Array Value → Addr → Pt → Prop} (hK : Jvm.Free.BackT l R p e below s args y 3 W Pre Post)
    {b : Addr} {cellB : Cell} (hcell : T.heap[b]? = some cellB) (hobj : cellB.vm.isStatics = false) (hcls : s.vm.findClass C = some cellB.cls)
    {g : JFrame} (hg : g.method = m) (hsize : g.locals.size = c.maxLocals) {argsL rest : List Value} (hlen : ∀ sig, parseMethodDescriptor y.desc = some sig → argsL.length = sig.parameters.length)
    (hstack : g.stack = argsL.reverse ++ .ref b :: rest) (hW : 2 * g.monitorRoom + (rest.map fun v => v.category).sum ≤ W) (hdg : decode c.code g.pc = .ok (.invokevirtual index, 3))
    (hpre : ∀ vm₁, s.WarmedH vm₁ → Pre ⟨T.setVm vm₁, locs, cells, slots⟩ (Value.ref b :: argsL).toArray) :
    ∃ (v : Addr) (vm₁ : Vm) (B : Pt), s.WarmedH vm₁ ∧ Stand p l e R s m args below meth c B.U B.locs B.cells B.slots ∧ Post ⟨T.setVm vm₁, locs, cells, slots⟩ (Value.ref b :: argsL).toArray v B ∧
      ∀ target, Steps p.tables e below ((B.U.setTop { g with stack := rest }).pushFrame (.throwing v)) target → Steps p.tables e below (T.setTop g) target := by
  obtain ⟨mk, methM, hnamed, hmethM, hstM, habM⟩ := Cond.instanceMethod_spec hinst
  obtain ⟨methM', cM, hmethM', -, -, -, -, -, -, hsigM⟩ := Cond.code_spec hnamed hcode
  cases hmethM.symm.trans hmethM'
  obtain ⟨c2, r2, m2, q1, q2, q3, q4, kP, hkP, hkPi⟩ := Cond.selects_spec hsel
  cases hcls.symm.trans q1
  cases (State.methodFound?_of_named hnamed hy).symm.trans q2
  cases hnamed.symm.trans q3
  have hselP : selectMethod e.platform s.vm cellB.cls mk = .method mk := by rw [Launch.admits_selectMethod X.admits]; exact q4
  obtain ⟨vm₁, X₁, hstep₁⟩ := X.invokevirtual hexec hown hlink hnamed hmethM hstM hkP hkPi hy (a := b) (cell := cellB) hcell
    (fun z h => by rw [h] at hobj; cases hobj) hselP hmethM habM hkP hkPi (g := g) hg (argsL := argsL) (rest := rest) (hlen _ hsigM) hstack hdg
  obtain ⟨v, B, X', hpost, hsteps⟩ := hK m meth c ⟨T.setVm vm₁, locs, cells, slots⟩ { g with stack := rest } (.invokevirtual index) mk (Value.ref b :: argsL).toArray X₁ hg hsize hdg hW (X₁.named hnamed) (hpre vm₁ X₁.warmed)
  exact ⟨v, vm₁, B, X₁.warmed, X', hpost, fun target h => hstep₁ _ fun acts => by rw [doInvoke_state]; exact hsteps.trans h⟩
def xPoT (X : String) (mc ms : Nat) : Pt → Array Value → Addr → Pt → Prop := fun A _ v B =>
  (∃ ce : Cell, B.U.heap[v]? = some ce ∧ A.U.vm.findClass X = some ce.cls ∧ ce.vm = .none) ∧ A.U.heap.size ≤ B.U.heap.size ∧ (∀ q : Nat, q < A.U.heap.size → B.U.heap[q]? = A.U.heap[q]?) ∧ B.locs = A.locs ++ [] ∧ B.cells = A.cells + mc ∧ B.slots = A.slots + ms
theorem x_backT {X : String} {av : List Value} {sz : Nat} (hM : xThr l D tys y bytes maxL ret rm X av wc) (hts : ∀ w ∈ xG, w.before args s = true) (hc : Cond.code y bytes maxL ret ∈ xG) (hini : Cond.initialized y.cls ∈ xG) (hR : rm.frames + 1 ≤ R.frames ∧ 8 + (maxL + 11) + rm.locals ≤ R.locals) :
    Jvm.Free.BackT l R p e below s args y 3 8 (PreOf R rm.cells rm.slots (xPc D tys xFt av wc sz)) (xPoT X rm.cells rm.slots) := by
  have hws := pay_in hts (xG_good hc)
  refine Jvm.Free.BackT.of_free (S := headSpec (xw y bytes maxL ret) rm) (bytes := bytes) (maxL := maxL) (ret := ret) (E := fun a st o t L k n => L = [] ∧ k = rm.cells ∧ n = rm.slots) (hM sz) hR.1 hR.2 ?_ ?_ (fun _ _ _ _ _ _ _ _ _ => trivial) ?_ ?_
  · intro m meth c A a X hp
    exact ⟨atoms_intro fun w hw => hws w hw _ _ X.warmed, hws _ List.mem_cons_self _ _ X.warmed, hws _ (List.mem_cons_of_mem _ hini) _ _ X.warmed, hp.1, hp.2.1⟩
  · intro m meth c A a g mk X hp
    exact x_blind (fun a U g mk h => h.calling g mk a) _ _ _ _ hp.2.2
  · intro a st o t ⟨x, h1, h2, h3⟩
    exact ⟨[], rm.cells, rm.slots, h2, rfl, rfl, rfl⟩
  · intro m meth c A a g mk v t L k n X hp hq hF2 ⟨e1, e2, e3⟩
    subst e1; subst e2; subst e3
    obtain ⟨x, hx', hfe, hsz, ce, g1, g2, g3⟩ := hq
    cases hx'
    have hsz' : A.U.heap.size ≤ v := hsz
    have hlt : v < t.heap.size := (Array.getElem?_eq_some_iff.mp g1).1
    refine ⟨⟨ce, g1, g2, g3⟩, show A.U.heap.size ≤ t.heap.size from Nat.le_of_lt (Nat.lt_of_le_of_lt hsz' hlt), fun q hq => ?_, rfl, rfl, rfl⟩
    have hc0 : A.U.heap[q]? = some A.U.heap[q] := Array.getElem?_eq_getElem hq
    have h9 := State.sameButNew.old_cell hfe.2.2 (a := q) (c := A.U.heap[q]) hc0
    exact (show t.heap[q]? = some A.U.heap[q] from h9).trans hc0.symm
/-- a callee throws X, and the method's own handler takes it -/
theorem x_catch {ci q0 : Nat} {qc : vw_C} {fs : List Value} {X : String} (hx : p.tables.exec = Jvm.exec) (hb : c.code = cc) (hml : c.maxLocals = nL) (hown : s.vm.findClass own = some m.cls) (hts : ∀ w ∈ xG, w.before args s = true) (hF : xFt s)
    (hM : xThr l D tys y bytes maxL ret rm X (.ref b :: As) wc) (hl : Cond.methodLink own index y ∈ xG) (hin : Cond.instanceMethod y ∈ xG) (hse : Cond.selects C y y ∈ xG) (hini : Cond.initialized y.cls ∈ xG) (hc : Cond.code y bytes maxL ret ∈ xG) (hd : xDesc y As.length) (hR : xRoom R rm maxL cells slots)
    (hK : va_K D xcl tys s) (hP : va_P D xcl ws s.heap) (hS : va_S A s.heap s.heap locs) (hPc : va_P D xcl wc s.heap) (hDc : va_D A wc) (hcl : xcl[ci]? = some qc) (hqc : qc.1 = C) (he : wc[q0]? = some (b, .inr (ci, fs)))
    (hls : ls.size = nL) (hst : st = As.reverse ++ .ref b :: rest) (hW : (rest.map fun v => v.category).sum ≤ 8) (hdg : decode cc pc = .ok (.invokevirtual index, 3))
    (pre : List ExceptionTableEntry) (xe : ExceptionTableEntry) (rst : List ExceptionTableEntry) (hsplit : c.exceptionTable.toList = pre ++ xe :: rst) (hcov : covers xe pc = true) {hpc ct : Nat} (hhp : xe.handlerPc = hpc) (hct : xe.catchType = ct) (h0 : ct ≠ 0) (hlink : Cond.classLink own ct X ∈ xG) (hcast : va_Nw (.castable X X) s)
    (hpass : ∀ pl : Platform, pl.magicAccessors = ({} : Platform).magicAccessors → ∀ cX : ClassId, s.vm.findClass X = some cX → ∀ z ∈ pre, RowPassed pl s m.cls pc cX z)
    (kk : ∀ (a : Nat) (H1 : Heap), va_P D xcl ws H1 → va_S A s.heap H1 locs → W p l e R s m args below meth c H1 locs (cells + rm.cells) (slots + rm.slots) Q (F0 m hpc ls [.ref a])) : W p l e R s m args below meth c s.heap locs cells slots Q (F0 m pc ls st) := by
  subst hqc
  subst hhp
  subst hct
  obtain ⟨cellB, hcB, hoB, hclB⟩ := va_recv hK hPc hcl he
  intro T hT X0
  obtain ⟨v, vm₁, ⟨U', l2, c2, s2⟩, hW₁, X', ⟨⟨ce, g1, g2, g3⟩, hz, hk, h1, h2, h3⟩, stp⟩ := callVT X0 hx (C := qc.1) (bytes := bytes) (maxL := maxL) (ret := ret) hown (hts _ hl) (hts _ hin) (hts _ hse) (hts _ hc) ⟨hd.1, hd.2.1⟩ (x_backT (sz := s.heap.size) hM hts hc hini hR.1) (b := b) (by rw [hT]; exact hcB) hoB hclB (g := F0 m pc ls st) rfl (hls.trans hml.symm) (argsL := As) (rest := rest) (xlen hd) hst (lv_room hW) (by rw [hb]; exact hdg)
    (fun vm₁ hW₁ => ⟨hR.2.1, hR.2.2, rfl, by rw [← hT]; rfl, by show va_P D xcl wc T.heap; rw [hT]; exact hPc, va_K.moved hW₁.alike hK, hDc.weaken (fun _ _ _ _ => trivial), xFt.go (s := s) (U := T.setVm vm₁) hW₁ (by show _ ≤ T.heap.size; rw [hT]; exact Nat.le_refl _) (fun a ha => by show T.heap[a]? = _; rw [hT]) hF⟩)
  dsimp only [Pt.U, Pt.locs, Pt.cells, Pt.slots] at X' g1 g2 hz hk h1 h2 h3 stp
  subst h1; subst h2; subst h3
  have hfX : s.vm.findClass X = some ce.cls := by
    have := g2
    rw [show (T.setVm vm₁).vm = vm₁ from rfl, hW₁.alike.findClass] at this
    exact this
  obtain ⟨c3, cT, hc3, hcT, hasg⟩ := Cond.castable_spec (va_Nw.use (A := args) rfl hcast)
  cases hfX.symm.trans hc3
  obtain ⟨hend, hk0⟩ := X'.catches_of_link hown h0 (hts _ hlink) hcT hasg
  have hpl : e.platform.magicAccessors = ({} : Platform).magicAccessors := by rw [X0.admits.platform]
  obtain ⟨vm', XV, stV⟩ := X'.caughtThrough v (g := { F0 m pc ls st with stack := rest }) rfl g1 (by rw [g3]; rfl) hk0 pre xe rst hsplit (hpass e.platform hpl _ hfX) hcov hend
  have hz' : s.heap.size ≤ U'.heap.size := by rw [← hT]; exact hz
  have hk' : ∀ q : Nat, q < s.heap.size → U'.heap[q]? = s.heap[q]? := fun q hq => by
    have := hk q (by show q < T.heap.size; rw [hT]; exact hq)
    rw [this]; show T.heap[q]? = _; rw [hT]
  obtain ⟨t, a1, b1⟩ := kk v U'.heap (fun k q hq => (hP k q hq).kept (hk' q.1 (hP k q hq).lt)) ⟨hz', fun q h1 h2 => hk' q h1, hS.2.2⟩ (U'.setVm vm') rfl (by rw [List.append_nil] at XV; exact XV)
  refine ⟨t, stp t ?_, b1⟩
  rw [X'.pushThrowing_eq]
  exact stV t a1
end XH
theorem xtab1 {c : Code} {a b h t : Nat} (q : c.exceptionTable.toList.map (fun h => (h.startPc, h.endPc, h.handlerPc, h.catchType)) = [(a, b, h, t)]) : ∃ z : ExceptionTableEntry, c.exceptionTable.toList = [z] ∧ z.startPc = a ∧ z.endPc = b ∧ z.handlerPc = h ∧ z.catchType = t := by
  match hl : c.exceptionTable.toList with
  | [] => rw [hl] at q; cases q
  | [z] =>
    rw [hl] at q
    simp only [List.map_cons, List.map_nil, List.cons.injEq, Prod.mk.injEq, and_true] at q
    exact ⟨z, rfl, q.1, q.2.1, q.2.2.1, q.2.2.2⟩
  | _ :: _ :: _ => rw [hl] at q; simp at q
theorem xtab2 {c : Code} {a b h t a2 b2 h2 t2 : Nat} (q : c.exceptionTable.toList.map (fun h => (h.startPc, h.endPc, h.handlerPc, h.catchType)) = [(a, b, h, t), (a2, b2, h2, t2)]) : ∃ z z2 : ExceptionTableEntry, c.exceptionTable.toList = [z, z2] ∧ (z.startPc = a ∧ z.endPc = b ∧ z.handlerPc = h ∧ z.catchType = t) ∧ z2.startPc = a2 ∧ z2.endPc = b2 ∧ z2.handlerPc = h2 ∧ z2.catchType = t2 := by
  match hl : c.exceptionTable.toList with
  | [] => rw [hl] at q; cases q
  | [z] => rw [hl] at q; simp at q
  | [z, z2] =>
    rw [hl] at q
    simp only [List.map_cons, List.map_nil, List.cons.injEq, Prod.mk.injEq, and_true] at q
    exact ⟨z, z2, rfl, ⟨q.1.1, q.1.2.1, q.1.2.2.1, q.1.2.2.2⟩, q.2.1, q.2.2.1, q.2.2.2.1, q.2.2.2.2⟩
  | _ :: _ :: _ :: _ => rw [hl] at q; simp at q
theorem xcov {z : ExceptionTableEntry} {a b pc : Nat} (h1 : z.startPc = a) (h2 : z.endPc = b) (h : a ≤ pc ∧ pc < b) : covers z pc = true := by
  simp [covers, h1, h2, h.1, h.2]
