-- contracts and calls in one shape
theorem xG_good {w0 : Cond} (h : w0 ∈ xG) : GoodIn xG (w0 :: xG) := fun w hw => by
  have hm : w ∈ xG := by
    rcases List.mem_cons.mp hw with rfl | h1
    · exact h
    · exact h1
  exact ⟨hm, good_of_word (List.mem_filter.mp hm).2⟩
abbrev xw (y : MethodName) (b : ByteArray) (n : Nat) (r : Option FieldType) : List Cond := Cond.code y b n r :: xG
def xPc (D : va_G) (tys : List (ClassId × FieldType)) (F : State → Prop) (av : List Value) (ws : va_W) (sz : Nat) : Array Value → State → Prop := va_Pc av (fun U => U.heap.size = sz ∧ va_P D xcl ws U.heap ∧ va_K D xcl tys U ∧ va_D (fun _ => True) ws ∧ F U)
def xQ (D : va_G) (A : Nat → Prop) (post : Option Value → va_W → Prop) : Array Value → State → Outcome → State → Prop := fun _ st oc t => (∃ (v : Option Value) (ws : va_W), oc = .returned v ∧ post v ws ∧ va_P D xcl ws t.heap ∧ va_D A ws) ∧ va_F A st t
def xMetF (l : Launch) (D : va_G) (tys : List (ClassId × FieldType)) (F : State → Prop) (y : MethodName) (b : ByteArray) (n : Nat) (r : Option FieldType) (rm : Room) (av : List Value) (ws : va_W) (post : Option Value → va_W → Prop) : Prop :=
  ∀ sz : Nat, Met l y (xw y b n r) rm (xPc D tys F av ws sz) (xQ D (va_A ws sz) post) rm.cells rm.slots (va_A ws sz)
abbrev xNo : State → Prop := fun _ => True
abbrev xMet (l : Launch) (D : va_G) (tys : List (ClassId × FieldType)) (y : MethodName) (b : ByteArray) (n : Nat) (r : Option FieldType) (rm : Room) (av : List Value) (ws : va_W) (post : Option Value → va_W → Prop) : Prop := xMetF l D tys xNo y b n r rm av ws post
/-- a contract out of a walk of the body -/
theorem x_met {l : Launch} {D : va_G} {tys : List (ClassId × FieldType)} {F : State → Prop} {y : MethodName} {b : ByteArray} {n : Nat} {r : Option FieldType} {rm : Room} {av : List Value} {ws : va_W} {post : Option Value → va_W → Prop} (hy : plainName y.cls = true) (hav : (lg_sl av).length ≤ n)
    (body : ∀ (p : Program) (e : Env) (s : State) (m : MethodId) (below : List Frame) (meth : Method) (c : Code), p.tables.exec = Jvm.exec → c.code = b → meth.sig.returnType = r → c.maxLocals = n → (∀ w ∈ xG, w.before av.toArray s = true) → s.vm.findClass y.cls = some m.cls → meth.locks = false → meth.name = y.name → F s →
      ∀ A : Nat → Prop, (∀ q : Nat, s.heap.size ≤ q → A q) → va_P D xcl ws s.heap → va_D A ws → va_K D xcl tys s → ∀ ls : Array Slot, lv_has ls n (lv_args 0 av) → va_S A s.heap s.heap [] →
      W p l e rm s m av.toArray below meth c s.heap [] 0 0 (MQ below (xQ D A post) av.toArray s rm.cells rm.slots A) (F0 m 0 ls [])) : xMetF l D tys F y b n r rm av ws post := by
  intro sz
  refine Met.ofW (cc := b) (maxL := n) (ret := r) hy rfl ?_
  intro p e s m args below meth c s₁ B hml hv
  obtain ⟨rfl, hsz, hP, hK, hD0, hF⟩ := hv
  subst hsz
  have hts0 := atoms_spec (ws := xw y b n r) B.pre
  rw [lg_entry_eq]
  exact body p e s m below meth c B.exec B.bytes B.returns hml (fun w h => hts0 w (List.mem_cons_of_mem _ h)) (findClass_of_methodNamed B.named) B.notSynchronized (name_of_methodNamed B.named B.method).1 hF (va_A ws s.heap.size) (fun q h => Or.inr h) hP hD0.self hK _ (lv_entry av hav) va_S.rf
section XR
variable {p : Program} {l : Launch} {e : Env} {R : Room} {s : State} {m : MethodId} {args : Array Value} {below : List Frame} {meth : Method} {c : Code} {H : Heap} {locs : List Loc} {cells slots : Nat} {Q : State → Prop}
variable {cc : ByteArray} {pc : Nat} {ls : Array Slot} {D : va_G} {A : Nat → Prop} {ws : va_W} {post : Option Value → va_W → Prop} {mc ms : Nat}
theorem x_vret (hx : p.tables.exec = Jvm.exec) (hb : c.code = cc) (hr : meth.sig.returnType = none) (hlocks : meth.locks = false) (hP : va_P D xcl ws H) (hD : va_D A ws) (hS : va_S A s.heap H locs) (h1 : cells ≤ mc) (h2 : slots ≤ ms) (hq : post none ws) (hd : decode cc pc = .ok (.return_, 1)) :
    W p l e R s m args below meth c H locs cells slots (MQ below (xQ D A post) args s mc ms A) (F0 m pc ls []) :=
  W.widen h1 h2 (W.vret hx hb hr (fun t ht hW => ⟨⟨none, ws, rfl, hq, by rw [ht]; exact hP, hD⟩, hS.F ht⟩) hS.2.2 hd)
theorem x_iret {v : Int32} (hx : p.tables.exec = Jvm.exec) (hb : c.code = cc) (hr : meth.sig.returnType = some .int) (hlocks : meth.locks = false) (hP : va_P D xcl ws H) (hD : va_D A ws) (hS : va_S A s.heap H locs) (h1 : cells ≤ mc) (h2 : slots ≤ ms) (hq : post (some (.int v)) ws) (hd : decode cc pc = .ok (.ireturn, 1)) :
    W p l e R s m args below meth c H locs cells slots (MQ below (xQ D A post) args s mc ms A) (F0 m pc ls [.int v]) :=
  W.widen h1 h2 (W.iret hx hb hr (fun t ht hW => ⟨⟨_, ws, rfl, hq, by rw [ht]; exact hP, hD⟩, hS.F ht⟩) hS.2.2 hd)
theorem x_zret {v : Int32} (hx : p.tables.exec = Jvm.exec) (hb : c.code = cc) (hr : meth.sig.returnType = some .boolean) (hlocks : meth.locks = false) (hP : va_P D xcl ws H) (hD : va_D A ws) (hS : va_S A s.heap H locs) (h1 : cells ≤ mc) (h2 : slots ≤ ms) (hn : narrow .boolean (.int v) = .int v) (hq : post (some (.int v)) ws) (hd : decode cc pc = .ok (.ireturn, 1)) :
    W p l e R s m args below meth c H locs cells slots (MQ below (xQ D A post) args s mc ms A) (F0 m pc ls [.int v]) :=
  W.widen h1 h2 (W.zret hx hb hr hn (fun t ht hW => ⟨⟨_, ws, rfl, hq, by rw [ht]; exact hP, hD⟩, hS.F ht⟩) hS.2.2 hd)
theorem x_lret {v : Int64} (hx : p.tables.exec = Jvm.exec) (hb : c.code = cc) (hr : meth.sig.returnType = some .long) (hlocks : meth.locks = false) (hP : va_P D xcl ws H) (hD : va_D A ws) (hS : va_S A s.heap H locs) (h1 : cells ≤ mc) (h2 : slots ≤ ms) (hq : post (some (.long v)) ws) (hd : decode cc pc = .ok (.lreturn, 1)) :
    W p l e R s m args below meth c H locs cells slots (MQ below (xQ D A post) args s mc ms A) (F0 m pc ls [.long v]) :=
  W.widen h1 h2 (W.lret hx hb hr (fun t ht hW => ⟨⟨_, ws, rfl, hq, by rw [ht]; exact hP, hD⟩, hS.F ht⟩) hS.2.2 hd)
end XR
section XC
variable {p : Program} {l : Launch} {e : Env} {R : Room} {s : State} {m : MethodId} {args : Array Value} {below : List Frame} {meth : Method} {c : Code} {H : Heap} {locs : List Loc} {cells slots : Nat} {Q : State → Prop}
variable {D : va_G} {tys : List (ClassId × FieldType)} {F : State → Prop} {y : MethodName} {own C : String} {bytes cc : ByteArray} {maxL nL index pc : Nat} {ret : Option FieldType} {rm : Room} {b : Nat} {As rest st : List Value} {wc : va_W} {post : Option Value → va_W → Prop} {ls : Array Slot} {A : Nat → Prop}
theorem x_blind {av : List Value} {sz : Nat} (hF : ∀ (a : Array Value) (U : State) (g : JFrame) (mk : MethodId), F U → F (U.calling g mk a)) : FrameBlind (xPc D tys F av wc sz) := fun a U g mk q => by
  obtain ⟨q0, q1, qP, qK, qD, qF⟩ := q
  exact ⟨q0, q1, qP, va_K.moved (u := U) (U := U.calling g mk a) (Vm.Alike.refl U.vm) qK, qD, hF a U g mk qF⟩
abbrev xDesc (y : MethodName) (n : Nat) : Prop := y.cls ≠ "java/lang/invoke/MethodHandle" ∧ y.cls ≠ "java/lang/invoke/VarHandle" ∧ (parseMethodDescriptor y.desc).map (fun d => d.parameters.length) = some n
abbrev xRoom (R rm : Room) (maxL cells slots : Nat) : Prop := (rm.frames + 1 ≤ R.frames ∧ 8 + (maxL + 11) + rm.locals ≤ R.locals) ∧ cells + rm.cells ≤ R.cells ∧ slots + rm.slots ≤ R.slots
theorem x_runV {ci q0 : Nat} {qc : vw_C} {fs : List Value} (hx : p.tables.exec = Jvm.exec) (hb : c.code = cc) (hml : c.maxLocals = nL) (hown : s.vm.findClass own = some m.cls) (hts : ∀ w ∈ xG, w.before args s = true)
    (hM : xMet l D tys y bytes maxL ret rm (.ref b :: As) wc post) (hl : Cond.methodLink own index y ∈ xG) (hin : Cond.instanceMethod y ∈ xG) (hse : Cond.selects C y y ∈ xG) (hini : Cond.initialized y.cls ∈ xG) (hc : Cond.code y bytes maxL ret ∈ xG) (hd : xDesc y As.length) (hR : xRoom R rm maxL cells slots)
    (hK : va_K D xcl tys s) (hP : va_P D xcl wc H) (hD : va_D A wc) (hcl : xcl[ci]? = some qc) (hqc : qc.1 = C) (he : wc[q0]? = some (b, .inr (ci, fs)))
    (hls : ls.size = nL) (hst : st = As.reverse ++ .ref b :: rest) (hW : (rest.map fun v => v.category).sum ≤ 8) (hdg : decode cc pc = .ok (.invokevirtual index, 3)) :
    va_Run p l e R s m args below meth c H locs cells slots rm.cells rm.slots (F0 m pc ls st) rest (xQ D (va_A wc H.size) post (Value.ref b :: As).toArray) (va_A wc H.size) := by
  subst hqc
  exact va_runV (Ts := xG) ⟨hx, hb, hml, hown, hts⟩ (hM H.size) ⟨callB_of As.length hts (xG_good hc) rfl rfl rfl (hts _ hini) (hts _ hl) hd hR.1, hts _ hin, hts _ hse⟩
    ⟨x_blind (fun _ _ _ _ _ => trivial), va_recv hK hP hcl he, fun U hU hW => ⟨rfl, by rw [hU], by rw [hU]; exact hP, va_K.moved hW.alike hK, hD.weaken (fun _ _ _ _ => trivial), trivial⟩⟩ rfl rfl hls hst (lv_room hW) hdg hR.2
theorem x_runS (hx : p.tables.exec = Jvm.exec) (hb : c.code = cc) (hml : c.maxLocals = nL) (hown : s.vm.findClass own = some m.cls) (hts : ∀ w ∈ xG, w.before args s = true)
    (hM : xMet l D tys y bytes maxL ret rm As wc post) (hl : Cond.methodLink own index y ∈ xG) (hstt : Cond.static y ∈ xG) (hini : Cond.initialized y.cls ∈ xG) (hc : Cond.code y bytes maxL ret ∈ xG) (hd : xDesc y As.length) (hR : xRoom R rm maxL cells slots)
    (hK : va_K D xcl tys s) (hP : va_P D xcl wc H) (hD : va_D A wc)
    (hls : ls.size = nL) (hst : st = As.reverse ++ rest) (hW : (rest.map fun v => v.category).sum ≤ 8) (hdg : decode cc pc = .ok (.invokestatic index, 3)) :
    va_Run p l e R s m args below meth c H locs cells slots rm.cells rm.slots (F0 m pc ls st) rest (xQ D (va_A wc H.size) post As.toArray) (va_A wc H.size) :=
  va_runS (Ts := xG) ⟨hx, hb, hml, hown, hts⟩ (hM H.size) ⟨callB_of As.length hts (xG_good hc) rfl rfl rfl (hts _ hini) (hts _ hl) hd hR.1, hts _ hstt⟩
    ⟨x_blind (fun _ _ _ _ _ => trivial), fun U hU hW => ⟨rfl, by rw [hU], by rw [hU]; exact hP, va_K.moved hW.alike hK, hD.weaken (fun _ _ _ _ => trivial), trivial⟩⟩ rfl rfl hls hst (lv_room hW) hdg hR.2
theorem x_runI (hx : p.tables.exec = Jvm.exec) (hb : c.code = cc) (hml : c.maxLocals = nL) (hown : s.vm.findClass own = some m.cls) (hts : ∀ w ∈ xG, w.before args s = true)
    (hM : xMet l D tys y bytes maxL none rm (.ref b :: As) wc post) (hl : Cond.methodLink own index y ∈ xG) (hin : Cond.instanceMethod y ∈ xG) (hini : Cond.initialized y.cls ∈ xG) (hc : Cond.code y bytes maxL none ∈ xG) (hy1 : y.name = "<init>") (hd : xDesc y As.length) (hR : xRoom R rm maxL cells slots)
    (hK : va_K D xcl tys s) (hP : va_P D xcl wc H) (hD : va_D A wc)
    (hls : ls.size = nL) (hst : st = As.reverse ++ .ref b :: rest) (hW : (rest.map fun v => v.category).sum ≤ 8) (hdg : decode cc pc = .ok (.invokespecial index, 3)) :
    va_Run p l e R s m args below meth c H locs cells slots rm.cells rm.slots (F0 m pc ls st) rest (xQ D (va_A wc H.size) post (Value.ref b :: As).toArray) (va_A wc H.size) :=
  va_runI (Ts := xG) ⟨hx, hb, hml, hown, hts⟩ (hM H.size) ⟨callB_of As.length hts (xG_good hc) rfl rfl rfl (hts _ hini) (hts _ hl) hd hR.1, hy1, hts _ hin⟩
    ⟨x_blind (fun _ _ _ _ _ => trivial), fun U hU hW => ⟨rfl, by rw [hU], by rw [hU]; exact hP, va_K.moved hW.alike hK, hD.weaken (fun _ _ _ _ => trivial), trivial⟩⟩ rfl rfl hls hst (lv_room hW) hdg hR.2
end XC
section XB
variable {p : Program} {l : Launch} {e : Env} {R : Room} {s : State} {m : MethodId} {args : Array Value} {below : List Frame} {meth : Method} {c : Code} {H : Heap} {locs : List Loc} {cells slots : Nat} {Q : State → Prop}
variable {D : va_G} {pc : Nat} {rest st : List Value} {ws wc wr X pl : va_W} {post : Option Value → va_W → Prop} {ls : Array Slot} {A : Nat → Prop} {H0 : Heap} {mc ms : Nat} {a : Array Value}
/-- behind a call: what the callee had is new, the rest is as it was -/
theorem x_aft0 (hr : va_Run p l e R s m args below meth c H locs cells slots mc ms (F0 m pc ls st) rest (xQ D (va_A wc H.size) post a) (va_A wc H.size)) (hS : va_S A H0 H locs) (hF : ∀ q, va_A wc H.size q → A q)
    (kk : ∀ (v : Option Value) (w1 : va_W) (H1 : Heap) (locs1 : List Loc), post v w1 → va_P D xcl w1 H1 → va_D (va_A wc H.size) w1 → (∀ q : Nat, q < H.size → ¬ va_A wc H.size q → H1[q]? = H[q]?) → va_S A H0 H1 locs1 → W p l e R s m args below meth c H1 locs1 (cells + mc) (slots + ms) Q (F0 m (pc + 3) ls (v.toList ++ rest))) : W p l e R s m args below meth c H locs cells slots Q (F0 m pc ls st) := by
  intro T hT X
  obtain ⟨v, st₀, t, T', L, h0, X', hL, e1, e2, ⟨⟨v', w1, hv, hp, hP1, hD1⟩, hz, hk⟩, stp⟩ := hr T hT X
  cases hv
  rw [h0] at hz hk
  obtain ⟨t2, a1, b1⟩ := kk v w1 T'.heap (locs ++ L) hp (by rw [e1]; exact hP1) hD1 (fun q h1 h2 => by rw [e1]; exact hk q h1 h2)
    ⟨Nat.le_trans hS.1 (by rw [e1]; exact hz), fun q h1 h2 => by rw [e1, hk q (Nat.lt_of_lt_of_le h1 hS.1) (fun z => h2 (hF q z))]; exact hS.2.1 q h1 h2, fun q hq => by
      rcases List.mem_append.mp hq with h | h
      · exact hS.2.2 q h
      · exact hF _ (hL q h)⟩ T' rfl X'
  exact ⟨t2, stp t2 a1, b1⟩
theorem x_aft (hr : va_Run p l e R s m args below meth c H locs cells slots mc ms (F0 m pc ls st) rest (xQ D (va_A wc H.size) post a) (va_A wc H.size)) (hP : va_P D xcl ws H) (hD : va_D A ws) (hS : va_S A H0 H locs) (hA : ∀ q, H0.size ≤ q → A q)
    (isC isR : List Nat) (hC : isC.map (fun i => ws[i]?) = wc.map some) (hR : isR.map (fun i => ws[i]?) = wr.map some) (hn : va_nd isR = true) (hdis : ∀ i ∈ isR, i ∉ isC)
    (kk : ∀ (v : Option Value) (w1 : va_W) (H1 : Heap) (locs1 : List Loc), post v w1 → va_P D xcl (wr ++ w1) H1 → va_D A (wr ++ w1) → va_S A H0 H1 locs1 → W p l e R s m args below meth c H1 locs1 (cells + mc) (slots + ms) Q (F0 m (pc + 3) ls (v.toList ++ rest))) : W p l e R s m args below meth c H locs cells slots Q (F0 m pc ls st) := by
  have hF := va_free hD hS hA isC hC
  refine x_aft0 hr hS hF (fun v w1 H1 locs1 hp hP1 hD1 hk hS1 => ?_)
  obtain ⟨hP2, hD2⟩ := va_join hP hD isC isR hC hR hn hdis hk hF hP1 hD1
  exact kk v w1 H1 locs1 hp hP2 hD2 hS1
/-- the same where a pool stands behind, and the callee has no part of it -/
theorem x_aftQ (hr : va_Run p l e R s m args below meth c H locs cells slots mc ms (F0 m pc ls st) rest (xQ D (va_A wc H.size) post a) (va_A wc H.size)) (hP : va_P D xcl (X ++ pl) H) (hD : va_D A (X ++ pl)) (hS : va_S A H0 H locs) (hA : ∀ q, H0.size ≤ q → A q)
    (isC isR : List Nat) (hC : isC.map (fun i => X[i]?) = wc.map some) (hC' : isC.map (fun i => (X ++ pl)[i]?) = wc.map some) (hR : isR.map (fun i => X[i]?) = wr.map some) (hn : va_nd isR = true) (hdis : ∀ i ∈ isR, i ∉ isC)
    (kk : ∀ (v : Option Value) (w1 : va_W) (H1 : Heap) (locs1 : List Loc), post v w1 → va_P D xcl ((wr ++ w1) ++ pl) H1 → va_D A ((wr ++ w1) ++ pl) → va_S A H0 H1 locs1 → W p l e R s m args below meth c H1 locs1 (cells + mc) (slots + ms) Q (F0 m (pc + 3) ls (v.toList ++ rest))) : W p l e R s m args below meth c H locs cells slots Q (F0 m pc ls st) := by
  have hF := va_free hD hS hA isC hC'
  refine x_aft0 hr hS hF (fun v w1 H1 locs1 hp hP1 hD1 hk hS1 => ?_)
  obtain ⟨hP2, hD2⟩ := va_joinQ hP hD isC isR hC hR hn hdis hk hF hP1 hD1
  exact kk v w1 H1 locs1 hp hP2 hD2 hS1
/-- the same where the callee has the pool -/
theorem x_aftP {cx : va_W} (hr : va_Run p l e R s m args below meth c H locs cells slots mc ms (F0 m pc ls st) rest (xQ D (va_A (cx ++ pl) H.size) post a) (va_A (cx ++ pl) H.size)) (hP : va_P D xcl (X ++ pl) H) (hD : va_D A (X ++ pl)) (hS : va_S A H0 H locs) (hA : ∀ q, H0.size ≤ q → A q)
    (isC isR : List Nat) (hC : isC.map (fun i => X[i]?) = cx.map some) (hR : isR.map (fun i => X[i]?) = wr.map some) (hn : va_nd isR = true) (hdis : ∀ i ∈ isR, i ∉ isC)
    (kk : ∀ (v : Option Value) (w1 : va_W) (H1 : Heap) (locs1 : List Loc), post v w1 → (∀ rx pl1 : va_W, w1 = rx ++ pl1 → va_P D xcl ((wr ++ rx) ++ pl1) H1 ∧ va_D A ((wr ++ rx) ++ pl1)) → va_S A H0 H1 locs1 → W p l e R s m args below meth c H1 locs1 (cells + mc) (slots + ms) Q (F0 m (pc + 3) ls (v.toList ++ rest))) : W p l e R s m args below meth c H locs cells slots Q (F0 m pc ls st) := by
  have hF := va_freeP hD hS hA isC hC
  refine x_aft0 hr hS hF (fun v w1 H1 locs1 hp hP1 hD1 hk hS1 => kk v w1 H1 locs1 hp (fun rx pl1 e1 => ?_) hS1)
  subst e1
  exact va_joinP hP hD isC isR hC hR hn hdis hk hF hP1 hD1
end XB
