abbrev rm_Mo_row0 : Room := { frames := 0, cells := 0, slots := 0, locals := 0 }
set_option maxHeartbeats 4000000 in
set_option maxRecDepth 100000 in
theorem c_Mo_row0 (l : Launch) (D : va_G) (cI cJ cQ : ClassId) (q : Nat) (th : Int) (ac : Int) (dI : Int) (dp : Int) (sa : Nat) (bk : Int) (rs : Int) (nW : Int) (nH : Int) (mt : Int) (op : Int) (x : Int) (y : Int) (wd : Int) (ht : Int) (sc : Int) (rw : Int) (ln : Int) (ea : Nat) (fa : Nat) (ca : Nat) (ct : Int) (kr : Int) (kb : Int) (ov : Int) (hop : op = 0) : xMet l D (xT cI cJ cQ) y_Mo_row b_Mo_row 5 (some .int) rm_Mo_row0 [.ref q] [(q, .inr (5, [.int (iI th), .int (iI ac), .int (iI dI), .int (iI dp), .ref sa, .int (iI bk), .int (iI rs), .int (iI nW), .int (iI nH), .int (iI mt), .int (iI op), .int (iI x), .int (iI y), .int (iI wd), .int (iI ht), .int (iI sc), .int (iI rw), .int (iI ln), .ref ea, .ref fa, .ref ca, .int (iI ct), .int (iI kr), .int (iI kb), .int (iI ov)]))] (fun v ws => v = some (.int (iI 0)) ∧ ws = [(q, .inr (5, [.int (iI 1), .int (iI ac), .int (iI dI), .int (iI dp), .ref sa, .int (iI bk), .int (iI rs), .int (iI nW), .int (iI nH), .int (iI mt), .int (iI op), .int (iI x), .int (iI y), .int (iI wd), .int (iI ht), .int (iI sc), .int (iI rw), .int (iI ln), .ref ea, .ref fa, .ref ca, .int (iI ct), .int (iI kr), .int (iI kb), .int (iI ov)]))]) := by
  refine x_met (by decide) (Nat.le_of_ble_eq_true rfl) ?_
  intro p e s m below meth c hx hb hr hml hts hown hlocks hin hF0 A hA hP hD hK ls hl hS
  have hl : lv_has ls 5 [(0, .ref q)] := hl
  refine lv_aload_n hx hb d_Mo_row_0 rfl (lv_at hl 0 rfl) ?_
  refine lv_aload_n hx hb d_Mo_row_1 rfl (lv_at hl 0 rfl) ?_
  refine va_get (D := D) (cl := xcl) (ci := 5) (v := .int (iI op)) (C := R_Mo) (T := T_Mo) (N := 25) hx hb hts i_Mo hown hK hP 0 rfl rfl 10 (by decide) (hts _ kw_513) (fun _ h9 => h9) rfl d_Mo_row_2 ?_
  refine xi_if_eq (tgt := 12) hx hb d_Mo_row_5 (by decide) ⟨by omega, by omega⟩ (fun c_5 => ?_) (fun c_5 => ?_)
  ·
    refine xi_iconst hx hb d_Mo_row_12 ?_
    refine va_put (D := D) (cl := xcl) (ci := 5) (v := .int (iI 1)) (ty := .int) (C := R_Mo) (T := T_Mo) (N := 25) hx hb hts i_Mo ty_Mo ty_Mo_ok nm_Mo hown hK hP hD hS 0 rfl rfl 0 (by decide) (hts _ kw_503) (fun _ h9 => h9) rfl (by decide +kernel) rfl rfl (Nat.le_of_ble_eq_true rfl) d_Mo_row_13 (fun H locs hP hD hS => ?_)
    have hP : va_P D xcl [(q, .inr (5, [.int (iI 1), .int (iI ac), .int (iI dI), .int (iI dp), .ref sa, .int (iI bk), .int (iI rs), .int (iI nW), .int (iI nH), .int (iI mt), .int (iI op), .int (iI x), .int (iI y), .int (iI wd), .int (iI ht), .int (iI sc), .int (iI rw), .int (iI ln), .ref ea, .ref fa, .ref ca, .int (iI ct), .int (iI kr), .int (iI kb), .int (iI ov)]))] _ := hP
    have hD : va_D A [(q, .inr (5, [.int (iI 1), .int (iI ac), .int (iI dI), .int (iI dp), .ref sa, .int (iI bk), .int (iI rs), .int (iI nW), .int (iI nH), .int (iI mt), .int (iI op), .int (iI x), .int (iI y), .int (iI wd), .int (iI ht), .int (iI sc), .int (iI rw), .int (iI ln), .ref ea, .ref fa, .ref ca, .int (iI ct), .int (iI kr), .int (iI kb), .int (iI ov)]))] := hD
    refine lv_aload_n hx hb d_Mo_row_16 rfl (lv_at hl 0 rfl) ?_
    refine va_get (D := D) (cl := xcl) (ci := 5) (v := .int (iI 1)) (C := R_Mo) (T := T_Mo) (N := 25) hx hb hts i_Mo hown hK hP 0 rfl rfl 0 (by decide) (hts _ kw_503) (fun _ h9 => h9) rfl d_Mo_row_17 ?_
    refine xi_if_le (tgt := 25) hx hb d_Mo_row_20 (by decide) ⟨by decide, by decide⟩ (fun c_20 => ?_) (fun c_20 => ?_)
    ·
      exact absurd c_20 (by decide)
    ·
      refine xi_iconst hx hb d_Mo_row_23 ?_
      exact x_iret hx hb hr hlocks hP hD hS (by decide) (by decide) ⟨rfl, rfl⟩ d_Mo_row_24
  ·
    exact absurd hop c_5

theorem d_La_cell_0 : decode b_La_cell 0 = .ok (.iload_n 1, 1) := by decide +kernel
theorem d_La_cell_1 : decode b_La_cell 1 = .ok (.aload_n 0, 1) := by decide +kernel
theorem d_La_cell_2 : decode b_La_cell 2 = .ok (.arraylength, 1) := by decide +kernel
theorem d_La_cell_3 : decode b_La_cell 3 = .ok (.if_icmp .ge 9, 3) := by decide +kernel
theorem d_La_cell_6 : decode b_La_cell 6 = .ok (.aload_n 0, 1) := by decide +kernel
theorem d_La_cell_7 : decode b_La_cell 7 = .ok (.iload_n 1, 1) := by decide +kernel
theorem d_La_cell_8 : decode b_La_cell 8 = .ok (.iaload, 1) := by decide +kernel
theorem d_La_cell_9 : decode b_La_cell 9 = .ok (.goto 4, 3) := by decide +kernel
theorem d_La_cell_12 : decode b_La_cell 12 = .ok (.iconst 0, 1) := by decide +kernel
theorem d_La_cell_13 : decode b_La_cell 13 = .ok (.ireturn, 1) := by decide +kernel
theorem ds_La_cell : xDesc y_La_cell 2 := by decide +kernel

-- the script
abbrev xZ (xs : Nat → Int32) (j : Nat) : Int := (xs j).toInt
theorem xZ_r (xs : Nat → Int32) (j : Nat) : inR (xZ xs j) := ⟨Int32.le_toInt _, Int32.toInt_lt _⟩
def cV (xs : Nat → Int32) (L : Nat) (k : Int) : Int := if k < (L : Int) then xZ xs k.toNat else 0
theorem cV_r (xs : Nat → Int32) (L : Nat) (k : Int) : inR (cV xs L k) := by
  unfold cV
  split
  · exact xZ_r _ _
  · exact inR_0
section XSc
variable {p : Program} {l : Launch} {e : Env} {R : Room} {s : State} {m : MethodId} {args : Array Value} {below : List Frame} {meth : Method} {c : Code} {H : Heap} {locs : List Loc} {cells slots : Nat} {Q : State → Prop} {cc : ByteArray} {pc : Nat} {ls : Array Slot} {rest : List Value} {A : Nat → Prop} {H0 : Heap} {b L : Nat} {xs : Nat → Int32}
theorem xi_sld (hx : p.tables.exec = Jvm.exec) (hb : c.code = cc) (hX : va_X b L xs s H0) (hbl : b < H0.size) (hbA : ¬ A b) (hS : va_S A H0 H locs) {z v : Int} (h1 : 0 ≤ z) (h2 : z < (L : Int)) (h3 : z < 2147483648) (hv : xZ xs z.toNat = v) (hd : decode cc pc = .ok (.iaload, 1))
    (kk : W p l e R s m args below meth c H locs cells slots Q (F0 m (pc + 1) ls (.int (iI v) :: rest))) : W p l e R s m args below meth c H locs cells slots Q (F0 m pc ls (.int (iI z) :: .ref b :: rest)) := by
  refine va_sld hx hb hX hbl hbA hS (iI_in h1 h2 h3) hd ?_
  rw [iI_clamp h1 h3, ← iI_self (xs z.toNat)]
  rw [← hv] at kk
  exact kk
theorem xi_slen (hx : p.tables.exec = Jvm.exec) (hb : c.code = cc) (hX : va_X b L xs s H0) (hbl : b < H0.size) (hbA : ¬ A b) (hS : va_S A H0 H locs) (hd : decode cc pc = .ok (.arraylength, 1))
    (kk : W p l e R s m args below meth c H locs cells slots Q (F0 m (pc + 1) ls (.int (iI (L : Int)) :: rest))) : W p l e R s m args below meth c H locs cells slots Q (F0 m pc ls (.ref b :: rest)) := by
  refine va_slen hx hb hX hbl hbA hS hd ?_
  rw [iI_nat] at kk
  exact kk
end XSc
abbrev rm_La_cell : Room := { frames := 0, cells := 0, slots := 0, locals := 0 }
set_option maxHeartbeats 1000000 in
theorem c_La_cell (l : Launch) (b L : Nat) (xs : Nat → Int32) (k : Int) (hk : 0 ≤ k ∧ k < 100) (hL : L ≤ 2051) : Met l y_La_cell (xw y_La_cell b_La_cell 2 (some .int)) rm_La_cell (va_Pc [.ref b, .int (iI k)] (fun U => va_X b L xs U U.heap)) (k2_QcV (.int (iI (cV xs L k)))) 0 0 (fun _ => False) := by
  refine Met.ofW (cc := b_La_cell) (maxL := 2) (ret := some .int) (by decide) rfl ?_
  intro p e s m args below meth c s₁ B hml hv
  obtain ⟨rfl, hX⟩ := hv
  have hx := B.exec
  have hb := B.bytes
  have hr := B.returns
  have hlocks := B.notSynchronized
  have hbl : b < s.heap.size := by
    obtain ⟨scr, h1, -⟩ := hX
    exact (Array.getElem?_eq_some_iff.mp h1).1
  have hS : va_S (fun _ => False) s.heap s.heap [] := va_S.rf
  rw [lg_entry_eq]
  generalize hls : (lg_sl [Value.ref b, Value.int (iI k)] ++ List.replicate (2 - (lg_sl [Value.ref b, Value.int (iI k)]).length) Slot.unset).toArray = ls
  have hl : lv_has ls 2 [(0, .ref b), (1, .int (iI k))] := by rw [← hls]; exact lv_entry [Value.ref b, Value.int (iI k)] (Nat.le_of_ble_eq_true rfl)
  refine lv_iload_n hx hb d_La_cell_0 rfl (lv_at hl 1 rfl) ?_
  refine lv_aload_n hx hb d_La_cell_1 rfl (lv_at hl 0 rfl) ?_
  refine xi_slen hx hb hX hbl (fun z => z) hS d_La_cell_2 ?_
  refine xi_icmp_ge (tgt := 12) hx hb d_La_cell_3 (by decide) ⟨by omega, by omega⟩ ⟨by omega, by omega⟩ (fun c_3 => ?_) (fun c_3 => ?_)
  · refine xi_iconst hx hb d_La_cell_12 ?_
    refine W.iret hx hb hr (fun t ht hW => ⟨?_, ht⟩) (fun q h => by cases h) d_La_cell_13 hlocks
    unfold cV
    rw [if_neg (by omega)]
  · refine lv_aload_n hx hb d_La_cell_6 rfl (lv_at hl 0 rfl) ?_
    refine lv_iload_n hx hb d_La_cell_7 rfl (lv_at hl 1 rfl) ?_
    refine xi_sld hx hb hX hbl (fun z => z) hS hk.1 c_3 (by omega) rfl d_La_cell_8 ?_
    refine lv_goto (tgt := 13) hx hb d_La_cell_9 (by decide) ?_
    refine W.iret hx hb hr (fun t ht hW => ⟨?_, ht⟩) (fun q h => by cases h) d_La_cell_13 hlocks
    unfold cV
    rw [if_pos c_3]
theorem x_cell {p : Program} {l : Launch} {e : Env} {R : Room} {s : State} {m : MethodId} {args : Array Value} {below : List Frame} {meth : Method} {c : Code} {H : Heap} {locs : List Loc} {cells slots : Nat} {Q : State → Prop} {cc : ByteArray} {pc nL : Nat} {ls : Array Slot} {rest : List Value} {A : Nat → Prop} {b L : Nat} {xs : Nat → Int32} {k : Int} (hx : p.tables.exec = Jvm.exec) (hb : c.code = cc) (hml : c.maxLocals = nL) (hown : s.vm.findClass "RasterRowsLaw" = some m.cls) (hts : ∀ w ∈ xG, w.before args s = true)
    (hL : L ≤ 2051) (hX : va_X b L xs s s.heap) (hbl : b < s.heap.size) (hbA : ¬ A b) (hS : va_S A s.heap H locs) (hk : 0 ≤ k ∧ k < 100) (hR : xRoom R rm_La_cell 2 cells slots) (hls : ls.size = nL) (hW : (rest.map fun v => v.category).sum ≤ 8) (hdg : decode cc pc = .ok (.invokestatic 30, 3))
    (kk : W p l e R s m args below meth c H locs cells slots Q (F0 m (pc + 3) ls (.int (iI (cV xs L k)) :: rest))) : W p l e R s m args below meth c H locs cells slots Q (F0 m pc ls (.int (iI k) :: .ref b :: rest)) := by
  have h0 := va_runS (Ts := xG) (p := p) (l := l) (e := e) (R := R) (s := s) (m := m) (args := args) (below := below) (meth := meth) (c := c) (H := H) (locs := locs) (cells := cells) (slots := slots) (g := F0 m pc ls (.int (iI k) :: .ref b :: rest)) (rest := rest) (As := [.ref b, .int (iI k)]) ⟨hx, hb, hml, hown, hts⟩ (c_La_cell l b L xs k hk hL) ⟨callB_of 2 hts (xG_good kw_261) rfl rfl rfl (hts _ kw_0) (hts _ kw_259) ds_La_cell hR.1, hts _ kw_260⟩
    ⟨fun a U g mk q => ⟨q.1, va_X.moved (u := U) (U := U.calling g mk a) (Vm.Alike.refl U.vm) q.2⟩, fun U hU hW => ⟨rfl, by show va_X b L xs U U.heap; rw [hU]; exact va_X.moved hW.alike (hX.kept (hS.2.1 b hbl hbA))⟩⟩ rfl rfl hls rfl (lv_room hW) hdg ⟨hR.2.1, hR.2.2⟩
  exact W.callV h0.run kk

def R_law : String := "RasterRowsLaw"
def lw_P (b : Addr) (xs : List Int32) (args : Array Value) (s : State) : Prop := args = #[.ref b] ∧ s.IntsAt b xs ∧ xs.length ≤ 2051 ∧ (Jvm.Cond.and given_1 narrow_1).before args s = true
def lw_Q (_ : Array Value) (s : State) (o : Outcome) (t : State) : Prop := o = .returned (some (.int 1)) ∧ Framed s o t [] room_1.cells room_1.slots
def lw_Z (below : List Frame) (a : Array Value) (s : State) : State → Prop := fun t => ∃ o, t.status = .running ∧ Ended t below o ∧ lw_Q a s o t
/-- the law's own end, with 1 on the stack, nothing written that was there before, its room as the claim has it -/
theorem lw_ret {p : Program} {l : Launch} {e : Env} {s : State} {m : MethodId} {below : List Frame} {meth : Method} {c : Code} {b : Nat} (hx : p.tables.exec = Jvm.exec) (hb : c.code = code) (hr : meth.sig.returnType = ret) (hlocks : meth.locks = false) {pc : Nat} {H : Heap} {ls : Array Slot} (hdg : decode code pc = .ok (.ireturn, 1)) : W p l e room_1 s m #[Value.ref b] below meth c H [] room_1.cells room_1.slots (lw_Z below #[Value.ref b] s) (F0 m pc ls [.int 1]) := by
  intro T hT X
  obtain ⟨fs, hret, hrun, hended, hW, hframe⟩ := X.leave (v := some (.int 1)) (hlocks := hlocks) (fun h => by rw [hr] at h; cases h)
  have hmeth' : T.vm.method? m = some meth := X.method'
  refine ⟨T.setFrames fs, ?_, .returned (some (.int 1)), hrun, hended, rfl, ⟨_, rfl⟩, hW, hframe⟩
  jvm_step X.here [X.here.top, hx, hb, hdg, hmeth', hr, ret, narrow_b1]
  (try refine ⟨rfl, ?_⟩); (try refine ⟨rfl, ?_⟩)
  first | (intro acts; rw [hret _ acts rfl rfl rfl]) | rw [hret _ _ rfl rfl rfl]
  exact Steps.refl _
/-- what holds at the law's entry: the machine, the code, the tables' words (any of lw_tbl by 'hts w (by decide +kernel)'), the script of L ints xs at the cell b, what the Statement gives of the start (any of its parts by flat_of_before) -/
def lw_At (p : Program) (s : State) (m : MethodId) (meth : Method) (c : Code) (b L : Nat) (xs : Nat → Int32) : Prop :=
  p.tables.exec = Jvm.exec ∧ c.code = code ∧ meth.sig.returnType = ret ∧ c.maxLocals = 7 ∧ s.vm.findClass R_law = some m.cls ∧ (∀ w ∈ lw_tbl, w.before #[Value.ref b] s = true) ∧ va_X b L xs s s.heap ∧ b < s.heap.size ∧ meth.locks = false ∧ (Jvm.Cond.and given_1 narrow_1).before #[Value.ref b] s = true
