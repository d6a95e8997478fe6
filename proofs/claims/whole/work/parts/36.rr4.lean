def xMetP (l : Launch) (D : va_G) (tys : List (ClassId × FieldType)) (y : MethodName) (b : ByteArray) (n : Nat) (r : Option FieldType) (rm : Room) (av : List Value) (ws : va_W) (v : Value) : Prop :=
  ∀ sz : Nat, Met l y (xw y b n r) rm (xPc D tys xNo av ws sz) (k2_QcV v) 0 0 (fun _ => False)
theorem x_metP {l : Launch} {D : va_G} {tys : List (ClassId × FieldType)} {y : MethodName} {b : ByteArray} {n : Nat} {r : Option FieldType} {rm : Room} {av : List Value} {ws : va_W} {v : Value} (hy : plainName y.cls = true) (hav : (lg_sl av).length ≤ n)
    (body : ∀ (p : Program) (e : Env) (s : State) (m : MethodId) (below : List Frame) (meth : Method) (c : Code), p.tables.exec = Jvm.exec → c.code = b → meth.sig.returnType = r → c.maxLocals = n → (∀ w ∈ xG, w.before av.toArray s = true) → s.vm.findClass y.cls = some m.cls → meth.locks = false →
      va_P D xcl ws s.heap → va_K D xcl tys s → ∀ ls : Array Slot, lv_has ls n (lv_args 0 av) →
      W p l e rm s m av.toArray below meth c s.heap [] 0 0 (MQ below (k2_QcV v) av.toArray s 0 0 (fun _ => False)) (F0 m 0 ls [])) : xMetP l D tys y b n r rm av ws v := by
  intro sz
  refine Met.ofW (cc := b) (maxL := n) (ret := r) hy rfl ?_
  intro p e s m args below meth c s₁ B hml hv
  obtain ⟨rfl, hsz, hP, hK, hD0, hF⟩ := hv
  subst hsz
  have hts0 := atoms_spec (ws := xw y b n r) B.pre
  rw [lg_entry_eq]
  exact body p e s m below meth c B.exec B.bytes B.returns hml (fun w h => hts0 w (List.mem_cons_of_mem _ h)) (findClass_of_methodNamed B.named) B.notSynchronized hP hK _ (lv_entry av hav)
theorem x_runP {p : Program} {l : Launch} {e : Env} {R : Room} {s : State} {m : MethodId} {args : Array Value} {below : List Frame} {meth : Method} {c : Code} {H : Heap} {locs : List Loc} {cells slots : Nat} {Q : State → Prop} {D : va_G} {tys : List (ClassId × FieldType)} {y : MethodName} {own C : String} {bytes cc : ByteArray} {maxL nL index pc : Nat} {ret : Option FieldType} {rm : Room} {b : Nat} {As rest st : List Value} {wc : va_W} {ls : Array Slot} {v : Value} {ci q0 : Nat} {qc : vw_C} {fs : List Value} (hx : p.tables.exec = Jvm.exec) (hb : c.code = cc) (hml : c.maxLocals = nL) (hown : s.vm.findClass own = some m.cls) (hts : ∀ w ∈ xG, w.before args s = true)
    (hM : xMetP l D tys y bytes maxL ret rm (.ref b :: As) wc v) (hrc : rm.cells = 0 ∧ rm.slots = 0) (hl : Cond.methodLink own index y ∈ xG) (hin : Cond.instanceMethod y ∈ xG) (hse : Cond.selects C y y ∈ xG) (hini : Cond.initialized y.cls ∈ xG) (hc : Cond.code y bytes maxL ret ∈ xG) (hd : xDesc y As.length) (hR : xRoom R rm maxL cells slots)
    (hK : va_K D xcl tys s) (hP : va_P D xcl wc H) (hD : va_D (fun _ => True) wc) (hcl : xcl[ci]? = some qc) (hqc : qc.1 = C) (he : wc[q0]? = some (b, .inr (ci, fs)))
    (hls : ls.size = nL) (hst : st = As.reverse ++ .ref b :: rest) (hW : (rest.map fun v => v.category).sum ≤ 8) (hdg : decode cc pc = .ok (.invokevirtual index, 3))
    (kk : W p l e R s m args below meth c H locs cells slots Q (F0 m (pc + 3) ls (v :: rest))) : W p l e R s m args below meth c H locs cells slots Q (F0 m pc ls st) := by
  subst hqc
  have h0 := va_runV (Ts := xG) (p := p) (l := l) (e := e) (R := R) (s := s) (m := m) (args := args) (below := below) (meth := meth) (c := c) (H := H) (locs := locs) (cells := cells) (slots := slots) (g := F0 m pc ls st) (rest := rest) ⟨hx, hb, hml, hown, hts⟩ (hM H.size) ⟨callB_of As.length hts (xG_good hc) rfl hrc.1 hrc.2 (hts _ hini) (hts _ hl) hd hR.1, hts _ hin, hts _ hse⟩
    ⟨x_blind (fun _ _ _ _ _ => trivial), va_recv hK hP hcl he, fun U hU hW => ⟨rfl, by rw [hU], by rw [hU]; exact hP, va_K.moved hW.alike hK, hD, trivial⟩⟩ rfl rfl hls hst (lv_room hW) hdg ⟨Nat.le_trans (Nat.le_add_right _ _) hR.2.1, Nat.le_trans (Nat.le_add_right _ _) hR.2.2⟩
  exact W.callV h0.run kk

abbrev rt_RR_row : Room := { frames := 6, cells := 1, slots := 6, locals := 82 }
set_option maxHeartbeats 4000000 in
set_option maxRecDepth 100000 in
theorem t_RR_row (l : Launch) (hfl : l.flags = Jvm.pinnedFlags ++ [Jvm.noTraceFlag]) (D : va_G) (cI cJ cQ : ClassId) (o : Nat) (dp : Int) (rs : Int) (mt : Int) (nW : Int) (nH : Int) (hs : Nat) (h : Nat) (gp : Nat) (a : Nat) (op : Int) (x : Int) (y : Int) (sc : Int) (wd : Int) (ht : Int) (ln : Int) (rw : Int) (hop : op = 0) : xThr l D (xT cI cJ cQ) y_RR_row b_RR_row 2 (some .int) rt_RR_row "java/lang/IllegalStateException" [.ref o] [(o, .inr (4, [.int (iI dp), .ref hs, .ref h, .ref gp, .int (iI rs), .int (iI mt), .int (iI nW), .int (iI nH)])), (h, .inr (2, [.ref a, .int (iI op), .int (iI x), .int (iI y), .int (iI sc), .int (iI wd), .int (iI ht), .int (iI ln), .int (iI rw)]))] := by
  refine x_thr (by decide) (Nat.le_of_ble_eq_true rfl) ?_
  intro p e s m below meth c hx hb hex hml hts hown hlocks hF hP hK hD0 ls hl
  have hl : lv_has ls 2 [(0, .ref o)] := hl
  refine lv_aload_n hx hb d_RR_row_0 rfl (lv_at hl 0 rfl) ?_
  refine va_get (D := D) (cl := xcl) (ci := 4) (v := .ref h) (C := R_RR) (T := T_RR) (N := 8) hx hb hts i_RR hown hK hP 0 rfl rfl 2 (by decide) (hts _ kw_143) (fun _ h9 => h9) rfl d_RR_row_1 ?_
  refine va_get (D := D) (cl := xcl) (ci := 2) (v := .int (iI op)) (C := R_Ra) (T := T_Ra) (N := 9) hx hb hts i_Ra hown hK hP 1 rfl rfl 1 (by decide) (hts _ kw_95) (fun _ h9 => h9) rfl d_RR_row_4 ?_
  refine xi_if_ne (tgt := 20) hx hb d_RR_row_7 (by decide) ⟨by omega, by omega⟩ (fun c_7 => ?_) (fun c_7 => ?_)
  ·
    exact absurd hop c_7
  ·
    exact x_throw (pc := 10) hfl hx hb hex hml hl.1 hlocks hown (own_S hts hF) (hts _ kw_270) (hts _ kw_271) (hts _ kw_12) (by decide) hF.2.2.2.2.2.2.1.1 (by decide) d_RR_row_10 d_RR_row_13 d_RR_row_14 d_RR_row_16 d_RR_row_19

abbrev rt_RR_shut : Room := { frames := 6, cells := 1, slots := 6, locals := 82 }
set_option maxHeartbeats 4000000 in
set_option maxRecDepth 100000 in
theorem t_RR_shut (l : Launch) (hfl : l.flags = Jvm.pinnedFlags ++ [Jvm.noTraceFlag]) (D : va_G) (cI cJ cQ : ClassId) (o : Nat) (dp : Int) (rs : Int) (mt : Int) (nW : Int) (nH : Int) (hs : Nat) (h : Nat) (gp : Nat) (a : Nat) (op : Int) (x : Int) (y : Int) (sc : Int) (wd : Int) (ht : Int) (ln : Int) (rw : Int) (hop : op = 0) : xThr l D (xT cI cJ cQ) y_RR_shut b_RR_shut 1 (some .int) rt_RR_shut "java/lang/IllegalStateException" [.ref o] [(o, .inr (4, [.int (iI dp), .ref hs, .ref h, .ref gp, .int (iI rs), .int (iI mt), .int (iI nW), .int (iI nH)])), (h, .inr (2, [.ref a, .int (iI op), .int (iI x), .int (iI y), .int (iI sc), .int (iI wd), .int (iI ht), .int (iI ln), .int (iI rw)]))] := by
  refine x_thr (by decide) (Nat.le_of_ble_eq_true rfl) ?_
  intro p e s m below meth c hx hb hex hml hts hown hlocks hF hP hK hD0 ls hl
  have hl : lv_has ls 1 [(0, .ref o)] := hl
  refine lv_aload_n hx hb d_RR_shut_0 rfl (lv_at hl 0 rfl) ?_
  refine va_get (D := D) (cl := xcl) (ci := 4) (v := .ref h) (C := R_RR) (T := T_RR) (N := 8) hx hb hts i_RR hown hK hP 0 rfl rfl 2 (by decide) (hts _ kw_143) (fun _ h9 => h9) rfl d_RR_shut_1 ?_
  refine va_get (D := D) (cl := xcl) (ci := 2) (v := .int (iI op)) (C := R_Ra) (T := T_Ra) (N := 9) hx hb hts i_Ra hown hK hP 1 rfl rfl 1 (by decide) (hts _ kw_95) (fun _ h9 => h9) rfl d_RR_shut_4 ?_
  refine xi_if_ne (tgt := 20) hx hb d_RR_shut_7 (by decide) ⟨by omega, by omega⟩ (fun c_7 => ?_) (fun c_7 => ?_)
  ·
    exact absurd hop c_7
  ·
    exact x_throw (pc := 10) hfl hx hb hex hml hl.1 hlocks hown (own_S hts hF) (hts _ kw_270) (hts _ kw_271) (hts _ kw_12) (by decide) hF.2.2.2.2.2.2.1.1 (by decide) d_RR_shut_10 d_RR_shut_13 d_RR_shut_14 d_RR_shut_16 d_RR_shut_19

abbrev rt_RR_skipA : Room := { frames := 6, cells := 1, slots := 6, locals := 82 }
set_option maxHeartbeats 4000000 in
set_option maxRecDepth 100000 in
theorem t_RR_skipA (l : Launch) (hfl : l.flags = Jvm.pinnedFlags ++ [Jvm.noTraceFlag]) (D : va_G) (cI cJ cQ : ClassId) (o : Nat) (dp : Int) (rs : Int) (mt : Int) (nW : Int) (nH : Int) (hs : Nat) (h : Nat) (gp : Nat) (n : Int) (hn_ : inR n) (hn : n < 0 ∨ 10000 < n) : xThr l D (xT cI cJ cQ) y_RR_skip b_RR_skip 2 (some .int) rt_RR_skipA "java/lang/IllegalArgumentException" [.ref o, .int (iI n)] [(o, .inr (4, [.int (iI dp), .ref hs, .ref h, .ref gp, .int (iI rs), .int (iI mt), .int (iI nW), .int (iI nH)]))] := by
  refine x_thr (by decide) (Nat.le_of_ble_eq_true rfl) ?_
  intro p e s m below meth c hx hb hex hml hts hown hlocks hF hP hK hD0 ls hl
  have hl : lv_has ls 2 [(0, .ref o), (1, .int (iI n))] := hl
  refine lv_iload_n hx hb d_RR_skip_0 rfl (lv_at hl 1 rfl) ?_
  refine xi_if_lt (tgt := 11) hx hb d_RR_skip_1 (by decide) ⟨by omega, by omega⟩ (fun c_1 => ?_) (fun c_1 => ?_)
  ·
    exact x_throw (pc := 11) hfl hx hb hex hml hl.1 hlocks hown (own_A hts hF) (hts _ kw_435) (hts _ kw_436) (hts _ kw_14) (by decide) hF.2.2.2.2.2.2.1.2.1 (by decide) d_RR_skip_11 d_RR_skip_14 d_RR_skip_15 d_RR_skip_17 d_RR_skip_20
  ·
    refine lv_iload_n hx hb d_RR_skip_4 rfl (lv_at hl 1 rfl) ?_
    refine xi_sipush hx hb d_RR_skip_5 (by decide) ?_
    refine xi_icmp_le (tgt := 21) hx hb d_RR_skip_8 (by decide) ⟨by omega, by omega⟩ ⟨by decide, by decide⟩ (fun c_8 => ?_) (fun c_8 => ?_)
    ·
      exfalso; omega
    ·
      exact x_throw (pc := 11) hfl hx hb hex hml hl.1 hlocks hown (own_A hts hF) (hts _ kw_435) (hts _ kw_436) (hts _ kw_14) (by decide) hF.2.2.2.2.2.2.1.2.1 (by decide) d_RR_skip_11 d_RR_skip_14 d_RR_skip_15 d_RR_skip_17 d_RR_skip_20

abbrev rt_RR_skipS : Room := { frames := 6, cells := 1, slots := 6, locals := 82 }
set_option maxHeartbeats 4000000 in
set_option maxRecDepth 100000 in
theorem t_RR_skipS (l : Launch) (hfl : l.flags = Jvm.pinnedFlags ++ [Jvm.noTraceFlag]) (D : va_G) (cI cJ cQ : ClassId) (o : Nat) (dp : Int) (rs : Int) (mt : Int) (nW : Int) (nH : Int) (hs : Nat) (h : Nat) (gp : Nat) (a : Nat) (op : Int) (x : Int) (y : Int) (sc : Int) (wd : Int) (ht : Int) (ln : Int) (rw : Int) (n : Int) (hop : op = 0) (hn : 0 ≤ n ∧ n ≤ 10000) : xThr l D (xT cI cJ cQ) y_RR_skip b_RR_skip 2 (some .int) rt_RR_skipS "java/lang/IllegalStateException" [.ref o, .int (iI n)] [(o, .inr (4, [.int (iI dp), .ref hs, .ref h, .ref gp, .int (iI rs), .int (iI mt), .int (iI nW), .int (iI nH)])), (h, .inr (2, [.ref a, .int (iI op), .int (iI x), .int (iI y), .int (iI sc), .int (iI wd), .int (iI ht), .int (iI ln), .int (iI rw)]))] := by
  refine x_thr (by decide) (Nat.le_of_ble_eq_true rfl) ?_
  intro p e s m below meth c hx hb hex hml hts hown hlocks hF hP hK hD0 ls hl
  have hl : lv_has ls 2 [(0, .ref o), (1, .int (iI n))] := hl
  refine lv_iload_n hx hb d_RR_skip_0 rfl (lv_at hl 1 rfl) ?_
  refine xi_if_lt (tgt := 11) hx hb d_RR_skip_1 (by decide) ⟨by omega, by omega⟩ (fun c_1 => ?_) (fun c_1 => ?_)
  ·
    exfalso; omega
  ·
    refine lv_iload_n hx hb d_RR_skip_4 rfl (lv_at hl 1 rfl) ?_
    refine xi_sipush hx hb d_RR_skip_5 (by decide) ?_
    refine xi_icmp_le (tgt := 21) hx hb d_RR_skip_8 (by decide) ⟨by omega, by omega⟩ ⟨by decide, by decide⟩ (fun c_8 => ?_) (fun c_8 => ?_)
    ·
      refine lv_aload_n hx hb d_RR_skip_21 rfl (lv_at hl 0 rfl) ?_
      refine va_get (D := D) (cl := xcl) (ci := 4) (v := .ref h) (C := R_RR) (T := T_RR) (N := 8) hx hb hts i_RR hown hK hP 0 rfl rfl 2 (by decide) (hts _ kw_143) (fun _ h9 => h9) rfl d_RR_skip_22 ?_
      refine va_get (D := D) (cl := xcl) (ci := 2) (v := .int (iI op)) (C := R_Ra) (T := T_Ra) (N := 9) hx hb hts i_Ra hown hK hP 1 rfl rfl 1 (by decide) (hts _ kw_95) (fun _ h9 => h9) rfl d_RR_skip_25 ?_
      refine xi_if_ne (tgt := 41) hx hb d_RR_skip_28 (by decide) ⟨by omega, by omega⟩ (fun c_28 => ?_) (fun c_28 => ?_)
      ·
        exact absurd hop c_28
      ·
        exact x_throw (pc := 31) hfl hx hb hex hml hl.1 hlocks hown (own_S hts hF) (hts _ kw_270) (hts _ kw_271) (hts _ kw_12) (by decide) hF.2.2.2.2.2.2.1.1 (by decide) d_RR_skip_31 d_RR_skip_34 d_RR_skip_35 d_RR_skip_37 d_RR_skip_40
    ·
      exfalso; omega

abbrev rt_Sh_hasP : Room := { frames := 0, cells := 0, slots := 0, locals := 0 }
set_option maxHeartbeats 4000000 in
set_option maxRecDepth 100000 in
theorem t_Sh_hasP (l : Launch) (D : va_G) (cI cJ cQ : ClassId) (hs : Nat) (la : Nat) (st : Nat) (ac : Int) (dI : Int) (kr : Int) (kb : Int) (ov : Int) (bd : Int) (xx : Int) (yy : Int) (hac : 1 ≤ ac ∧ ac ≤ 5100) (hdI : 1 ≤ dI ∧ dI ≤ 5100) (hx_ : inR xx) (hy_ : inR yy) (hno : xx < 0 ∨ ac ≤ xx ∨ yy < 0 ∨ dI ≤ yy) : xMetP l D (xT cI cJ cQ) y_Sh_has b_Sh_has 3 (some .boolean) rt_Sh_hasP [.ref hs, .int (iI xx), .int (iI yy)] [(hs, .inr (3, [.int (iI ac), .int (iI dI), .ref la, .ref st, .int (iI kr), .int (iI kb), .int (iI ov), .int (iI bd)]))] (.int (iI 0)) := by
  refine x_metP (by decide) (Nat.le_of_ble_eq_true rfl) ?_
  intro p e s m below meth c hx hb hr hml hts hown hlocks hP hK ls hl
  have hl : lv_has ls 3 [(0, .ref hs), (1, .int (iI xx)), (2, .int (iI yy))] := hl
  refine lv_iload_n hx hb d_Sh_has_0 rfl (lv_at hl 1 rfl) ?_
  refine xi_if_lt (tgt := 28) hx hb d_Sh_has_1 (by decide) ⟨by omega, by omega⟩ (fun c_1 => ?_) (fun c_1 => ?_)
  ·
    refine xi_iconst hx hb d_Sh_has_28 ?_
    exact W.zret hx hb hr rfl (fun t ht hW => ⟨rfl, ht⟩) (fun q h => by cases h) d_Sh_has_29 hlocks
  ·
    refine lv_iload_n hx hb d_Sh_has_4 rfl (lv_at hl 1 rfl) ?_
    refine lv_aload_n hx hb d_Sh_has_5 rfl (lv_at hl 0 rfl) ?_
    refine va_get (D := D) (cl := xcl) (ci := 3) (v := .int (iI ac)) (C := R_Sh) (T := T_Sh) (N := 8) hx hb hts i_Sh hown hK hP 0 rfl rfl 0 (by decide) (hts _ kw_55) (fun _ h9 => h9) rfl d_Sh_has_6 ?_
    refine xi_icmp_ge (tgt := 28) hx hb d_Sh_has_9 (by decide) ⟨by omega, by omega⟩ ⟨by omega, by omega⟩ (fun c_9 => ?_) (fun c_9 => ?_)
    ·
      refine xi_iconst hx hb d_Sh_has_28 ?_
      exact W.zret hx hb hr rfl (fun t ht hW => ⟨rfl, ht⟩) (fun q h => by cases h) d_Sh_has_29 hlocks
    ·
      refine lv_iload_n hx hb d_Sh_has_12 rfl (lv_at hl 2 rfl) ?_
      refine xi_if_lt (tgt := 28) hx hb d_Sh_has_13 (by decide) ⟨by omega, by omega⟩ (fun c_13 => ?_) (fun c_13 => ?_)
      ·
        refine xi_iconst hx hb d_Sh_has_28 ?_
        exact W.zret hx hb hr rfl (fun t ht hW => ⟨rfl, ht⟩) (fun q h => by cases h) d_Sh_has_29 hlocks
      ·
        refine lv_iload_n hx hb d_Sh_has_16 rfl (lv_at hl 2 rfl) ?_
        refine lv_aload_n hx hb d_Sh_has_17 rfl (lv_at hl 0 rfl) ?_
        refine va_get (D := D) (cl := xcl) (ci := 3) (v := .int (iI dI)) (C := R_Sh) (T := T_Sh) (N := 8) hx hb hts i_Sh hown hK hP 0 rfl rfl 1 (by decide) (hts _ kw_57) (fun _ h9 => h9) rfl d_Sh_has_18 ?_
        refine xi_icmp_ge (tgt := 28) hx hb d_Sh_has_21 (by decide) ⟨by omega, by omega⟩ ⟨by omega, by omega⟩ (fun c_21 => ?_) (fun c_21 => ?_)
        ·
          refine xi_iconst hx hb d_Sh_has_28 ?_
          exact W.zret hx hb hr rfl (fun t ht hW => ⟨rfl, ht⟩) (fun q h => by cases h) d_Sh_has_29 hlocks
        ·
          refine xi_iconst hx hb d_Sh_has_24 ?_
          refine lv_goto (tgt := 29) hx hb d_Sh_has_25 (by decide) ?_
          exfalso; omega

abbrev rt_RR_black : Room := { frames := 6, cells := 1, slots := 6, locals := 82 }
set_option maxHeartbeats 4000000 in
set_option maxRecDepth 100000 in
theorem t_RR_black (l : Launch) (hfl : l.flags = Jvm.pinnedFlags ++ [Jvm.noTraceFlag]) (D : va_G) (cI cJ cQ : ClassId) (o : Nat) (dp : Int) (rs : Int) (mt : Int) (nW : Int) (nH : Int) (h : Nat) (gp : Nat) (hs : Nat) (la : Nat) (st : Nat) (ac : Int) (dI : Int) (kr : Int) (kb : Int) (ov : Int) (bd : Int) (xx : Int) (yy : Int) (hac : 1 ≤ ac ∧ ac ≤ 5100) (hdI : 1 ≤ dI ∧ dI ≤ 5100) (hx_ : inR xx) (hy_ : inR yy) (hno : xx < 0 ∨ ac ≤ xx ∨ yy < 0 ∨ dI ≤ yy) : xThr l D (xT cI cJ cQ) y_RR_black b_RR_black 3 (some .boolean) rt_RR_black "java/lang/IndexOutOfBoundsException" [.ref o, .int (iI xx), .int (iI yy)] [(o, .inr (4, [.int (iI dp), .ref hs, .ref h, .ref gp, .int (iI rs), .int (iI mt), .int (iI nW), .int (iI nH)])), (hs, .inr (3, [.int (iI ac), .int (iI dI), .ref la, .ref st, .int (iI kr), .int (iI kb), .int (iI ov), .int (iI bd)]))] := by
  refine x_thr (by decide) (Nat.le_of_ble_eq_true rfl) ?_
  intro p e s m below meth c hx hb hex hml hts hown hlocks hF hP hK hD0 ls hl
  have hl : lv_has ls 3 [(0, .ref o), (1, .int (iI xx)), (2, .int (iI yy))] := hl
  refine lv_aload_n hx hb d_RR_black_0 rfl (lv_at hl 0 rfl) ?_
  refine va_get (D := D) (cl := xcl) (ci := 4) (v := .ref hs) (C := R_RR) (T := T_RR) (N := 8) hx hb hts i_RR hown hK hP 0 rfl rfl 1 (by decide) (hts _ kw_142) (fun _ h9 => h9) rfl d_RR_black_1 ?_
  refine lv_iload_n hx hb d_RR_black_4 rfl (lv_at hl 1 rfl) ?_
  refine lv_iload_n hx hb d_RR_black_5 rfl (lv_at hl 2 rfl) ?_
  refine x_runP (C := "RasterRows$Sheet") (v := .int (iI 0)) (As := [.int (iI xx), .int (iI yy)]) (rest := []) (ci := 3) (q0 := 0) (locs := []) hx hb hml hown hts (t_Sh_hasP l D cI cJ cQ hs la st ac dI kr kb ov bd xx yy hac hdI hx_ hy_ hno) ⟨rfl, rfl⟩ kw_476 kw_477 kw_478 kw_2 kw_479 ds_Sh_has (by decide) hK (hP.sub (ws' := [(hs, .inr (3, [.int (iI ac), .int (iI dI), .ref la, .ref st, .int (iI kr), .int (iI kb), .int (iI ov), .int (iI bd)]))]) [1] rfl) (hD0.sub (ws' := [(hs, .inr (3, [.int (iI ac), .int (iI dI), .ref la, .ref st, .int (iI kr), .int (iI kb), .int (iI ov), .int (iI bd)]))]) [1] (by decide) rfl) rfl rfl rfl hl.1 rfl (Nat.le_of_ble_eq_true rfl) d_RR_black_6 ?_
  refine W.eq (g2 := F0 m 9 ls [.int (iI 0)]) rfl ?_
  refine xi_if_ne (tgt := 22) hx hb d_RR_black_9 (by decide) ⟨by decide, by decide⟩ (fun c_9 => ?_) (fun c_9 => ?_)
  ·
    exact absurd c_9 (by decide)
  ·
    exact x_throw (pc := 12) hfl hx hb hex hml hl.1 hlocks hown (own_B hts hF) (hts _ kw_480) (hts _ kw_481) (hts _ kw_15) (by decide) hF.2.2.2.2.2.2.1.2.2 (by decide) d_RR_black_12 d_RR_black_15 d_RR_black_16 d_RR_black_18 d_RR_black_21
