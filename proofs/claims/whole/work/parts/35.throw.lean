theorem kw_292 : Cond.superclass "java/lang/Throwable" "java/lang/Object" ∈ xG := xG_at 308 rfl rfl
theorem kw_305 : Cond.codeSync ⟨"java/lang/Throwable", "fillInStackTrace", "()Ljava/lang/Throwable;"⟩ prog_16_method_18_code 1 (Option.some (.object "java/lang/Throwable")) ∈ xG := xG_at 321 rfl rfl
theorem kw_310 : Cond.native ⟨"java/lang/Throwable", "fillInStackTrace", "(I)Ljava/lang/Throwable;"⟩ ∈ xG := xG_at 326 rfl rfl
-- what a method needs in order to throw
def sTat (C n d : String) (U : State) (H : Heap) (b : Nat) : Prop := ∃ (c : ClassId) (k : Class) (i : Nat) (f : Field) (a : Nat) (cell : Cell) (v : Value), U.vm.findClass C = some c ∧ U.fieldFound? C n d = some (c, k, i, f) ∧ f.isStatic = true ∧ k.statics = some a ∧ H[a]? = some cell ∧ cell.vm.isStatics = true ∧ cell.cls = c ∧ f.slot < cell.slots.size ∧ k.staticTypes[f.slot]? = some f.type ∧ cell.slots[f.slot]? = some v ∧ (v = .null ∨ ∃ t, v = .ref t) ∧ a < b
theorem sTat.of {args : Array Value} {s : State} {C n d : String} (hl : (Cond.laysStatic C n d).before args s = true) (h : (Cond.isRef (.static C n d)).before args s = true) : sTat C n d s s.heap s.heap.size := by
  obtain ⟨c, k, i, f, a, cell, hc, hi, hst, ha, hcell, hs, hcls, hlt, hty⟩ := Cond.laysStatic_spec hl
  cases hv : (Term.static C n d).eval args s none [] s with
  | none => simp [Cond.before, Cond.holds, Cond.value, hv] at h
  | some w =>
    obtain ⟨hst', a', cell', ha', hcell', -, hslot⟩ := Term.static_spec hi hv
    cases ha.symm.trans ha'
    cases hcell.symm.trans hcell'
    refine ⟨c, k, i, f, a, cell, w, hc, hi, hst, ha, hcell, hs, hcls, hlt, hty, hslot, ?_, (Array.getElem?_eq_some_iff.mp hcell).1⟩
    simp only [Cond.before, Cond.holds, Cond.value, hv] at h
    cases w with
    | null => exact Or.inl rfl
    | ref t => exact Or.inr ⟨t, rfl⟩
    | _ => simp at h
theorem sTat.moved {C n d : String} {u U : State} {H H1 : Heap} {b b1 : Nat} (hvm : u.vm.Alike U.vm) (hq : ∀ a : Nat, a < b → H1[a]? = H[a]?) (hb : b ≤ b1) (h : sTat C n d u H b) : sTat C n d U H1 b1 := by
  obtain ⟨c, k, i, f, a, cell, v, h0, h1, h2, h3, h4, h5, h6, h7, h8, h9, h10, h11⟩ := h
  obtain ⟨k', hi', he⟩ := State.fieldFound?_setVm hvm h1
  exact ⟨c, k', i, f, a, cell, v, by rw [hvm.findClass]; exact h0, hi', h2, by rw [he]; exact h3, by rw [hq a h11]; exact h4, h5, h6, h7, by rw [he]; exact h8, h9, h10, by omega⟩
theorem sTat.lays {C n d : String} {U : State} {b : Nat} {args : Array Value} (h : sTat C n d U U.heap b) : (Cond.laysStatic C n d).before args U = true := by
  obtain ⟨c, k, i, f, a, cell, v, h0, h1, h2, h3, h4, h5, h6, h7, h8, h9, h10, h11⟩ := h
  simp [Cond.before, Cond.holds, Cond.value, h0, h1, h2, h3, h4, h5, h6, h7, h8]
theorem sTat.ref {C n d : String} {U : State} {b : Nat} {args : Array Value} (h : sTat C n d U U.heap b) : (Cond.isRef (.static C n d)).before args U = true := by
  obtain ⟨c, k, i, f, a, cell, v, h0, h1, h2, h3, h4, h5, h6, h7, h8, h9, h10, h11⟩ := h
  have he : (Term.static C n d).eval args U none [] U = some v := by
    simp [Term.eval, State.fieldNamed?, h1, h2, h3, h4, h5, h9]
  simp only [Cond.before, Cond.holds, Cond.value, he]
  rcases h10 with e | ⟨x, e⟩ <;> simp [e]
def xFt (U : State) : Prop := sTat "java/lang/Throwable" "UNASSIGNED_STACK" "[Ljava/lang/StackTraceElement;" U U.heap U.heap.size ∧ sTat "java/lang/Throwable" "SUPPRESSED_SENTINEL" "Ljava/util/List;" U U.heap U.heap.size ∧ (va_Nw (.castable "java/lang/IllegalStateException" "java/lang/IllegalStateException") U ∧ va_Nw (.castable "java/lang/IllegalArgumentException" "java/lang/IllegalArgumentException") U ∧ va_Nw (.castable "java/lang/IndexOutOfBoundsException" "java/lang/IndexOutOfBoundsException") U) ∧ va_Nw (.declares ⟨"java/lang/RuntimeException", "<init>", "(Ljava/lang/String;)V"⟩) U ∧ va_Nw (.declares ⟨"java/lang/Exception", "<init>", "(Ljava/lang/String;)V"⟩) U ∧ va_Nw (.declares ⟨"java/lang/Throwable", "<init>", "(Ljava/lang/String;)V"⟩) U ∧ ((∃ q : Nat, vk_R "RasterRows" 79 "no raster is open" q U) ∧ (∃ q : Nat, vk_R "RasterRows" 104 "n is not 0 .. 10000" q U) ∧ (∃ q : Nat, vk_R "RasterRows" 132 "the sheet has no such dot" q U)) ∧ va_Nc "java/lang/IllegalStateException" "java/lang/IllegalArgumentException" U
theorem xFt.go {s U : State} (hW : s.WarmedH U.vm) (hz : s.heap.size ≤ U.heap.size) (hq : ∀ a : Nat, a < s.heap.size → U.heap[a]? = s.heap[a]?) (h : xFt s) : xFt U := by
  obtain ⟨h1, h2, ⟨c1, c2, c3⟩, d1, d2, d3, ⟨⟨q1, s1⟩, ⟨q2, s2⟩, q3, s3⟩, hn⟩ := h
  exact ⟨h1.moved hW.alike hq hz, h2.moved hW.alike hq hz, ⟨va_Nw.warmC hW c1, va_Nw.warmC hW c2, va_Nw.warmC hW c3⟩, va_Nw.warmD hW d1, va_Nw.warmD hW d2, va_Nw.warmD hW d3, ⟨⟨q1, vk_R.warm hW s1⟩, ⟨q2, vk_R.warm hW s2⟩, q3, vk_R.warm hW s3⟩, va_Nc.moved hW.alike hn⟩
theorem xFt.calling {U : State} (g : JFrame) (mk : MethodId) (a : Array Value) (h : xFt U) : xFt (U.calling g mk a) := xFt.go (s := U) (U := U.calling g mk a) (State.WarmedH.refl U) (Nat.le_refl _) (fun _ _ => rfl) h
abbrev xNm : List String := ["java/lang/RuntimeException", "java/lang/Exception"]
theorem own_S {args : Array Value} {s : State} (hts : ∀ w ∈ xG, w.before args s = true) (hF : xFt s) : ∀ a ∈ Jvm.Bundle.ownAtoms "RasterRows" 81 "java/lang/IllegalStateException" xNm, a.before args s = true := by
  have hc : (Cond.castable "java/lang/IllegalStateException" "java/lang/IllegalStateException").before args s = true := va_Nw.use rfl hF.2.2.1.1
  refine List.forall_mem_cons.mpr ⟨hts _ kw_9, ?_⟩
  refine List.forall_mem_cons.mpr ⟨hts _ kw_292, ?_⟩
  refine List.forall_mem_cons.mpr ⟨hts _ kw_301, ?_⟩
  refine List.forall_mem_cons.mpr ⟨hts _ kw_305, ?_⟩
  refine List.forall_mem_cons.mpr ⟨hts _ kw_308, ?_⟩
  refine List.forall_mem_cons.mpr ⟨hts _ kw_310, ?_⟩
  refine List.forall_mem_cons.mpr ⟨hts _ kw_293, ?_⟩
  refine List.forall_mem_cons.mpr ⟨hts _ kw_294, ?_⟩
  refine List.forall_mem_cons.mpr ⟨hts _ kw_22, ?_⟩
  refine List.forall_mem_cons.mpr ⟨hts _ kw_23, ?_⟩
  refine List.forall_mem_cons.mpr ⟨hts _ kw_295, ?_⟩
  refine List.forall_mem_cons.mpr ⟨hts _ kw_300, ?_⟩
  refine List.forall_mem_cons.mpr ⟨hts _ kw_306, ?_⟩
  refine List.forall_mem_cons.mpr ⟨hts _ kw_326, ?_⟩
  refine List.forall_mem_cons.mpr ⟨hts _ kw_282, ?_⟩
  refine List.forall_mem_cons.mpr ⟨hts _ kw_327, ?_⟩
  refine List.forall_mem_cons.mpr ⟨hts _ kw_284, ?_⟩
  refine List.forall_mem_cons.mpr ⟨hts _ kw_328, ?_⟩
  refine List.forall_mem_cons.mpr ⟨hts _ kw_286, ?_⟩
  refine List.forall_mem_cons.mpr ⟨hts _ kw_296, ?_⟩
  refine List.forall_mem_cons.mpr ⟨hF.1.lays, ?_⟩
  refine List.forall_mem_cons.mpr ⟨hts _ kw_298, ?_⟩
  refine List.forall_mem_cons.mpr ⟨hF.2.1.lays, ?_⟩
  refine List.forall_mem_cons.mpr ⟨hts _ kw_288, ?_⟩
  refine List.forall_mem_cons.mpr ⟨hts _ kw_322, ?_⟩
  refine List.forall_mem_cons.mpr ⟨hts _ kw_323, ?_⟩
  refine List.forall_mem_cons.mpr ⟨hts _ kw_325, ?_⟩
  refine List.forall_mem_cons.mpr ⟨hts _ kw_288, ?_⟩
  refine List.forall_mem_cons.mpr ⟨hts _ kw_313, ?_⟩
  refine List.forall_mem_cons.mpr ⟨hts _ kw_314, ?_⟩
  refine List.forall_mem_cons.mpr ⟨hts _ kw_315, ?_⟩
  refine List.forall_mem_cons.mpr ⟨hts _ kw_316, ?_⟩
  refine List.forall_mem_cons.mpr ⟨va_Nw.use rfl hF.2.2.2.1, ?_⟩
  refine List.forall_mem_cons.mpr ⟨hts _ kw_316, ?_⟩
  refine List.forall_mem_cons.mpr ⟨hts _ kw_317, ?_⟩
  refine List.forall_mem_cons.mpr ⟨hts _ kw_318, ?_⟩
  refine List.forall_mem_cons.mpr ⟨hts _ kw_319, ?_⟩
  refine List.forall_mem_cons.mpr ⟨va_Nw.use rfl hF.2.2.2.2.1, ?_⟩
  refine List.forall_mem_cons.mpr ⟨hts _ kw_319, ?_⟩
  refine List.forall_mem_cons.mpr ⟨hts _ kw_320, ?_⟩
  refine List.forall_mem_cons.mpr ⟨hts _ kw_321, ?_⟩
  refine List.forall_mem_cons.mpr ⟨hts _ kw_322, ?_⟩
  refine List.forall_mem_cons.mpr ⟨va_Nw.use rfl hF.2.2.2.2.2.1, ?_⟩
  refine List.forall_mem_cons.mpr ⟨hts _ kw_312, ?_⟩
  refine List.forall_mem_cons.mpr ⟨hts _ kw_271, ?_⟩
  refine List.forall_mem_cons.mpr ⟨hc, ?_⟩
  refine List.forall_mem_cons.mpr ⟨hts _ kw_279, ?_⟩
  refine List.forall_mem_cons.mpr ⟨hts _ kw_280, ?_⟩
  refine List.forall_mem_cons.mpr ⟨hts _ kw_281, ?_⟩
  refine List.forall_mem_cons.mpr ⟨hts _ kw_283, ?_⟩
  refine List.forall_mem_cons.mpr ⟨hts _ kw_285, ?_⟩
  refine List.forall_mem_cons.mpr ⟨hts _ kw_287, ?_⟩
  refine List.forall_mem_cons.mpr ⟨hF.1.ref, ?_⟩
  refine List.forall_mem_cons.mpr ⟨hF.2.1.ref, ?_⟩
  refine List.forall_mem_cons.mpr ⟨hts _ kw_291, ?_⟩
  refine List.forall_mem_cons.mpr ⟨hts _ kw_290, ?_⟩
  refine List.forall_mem_cons.mpr ⟨hts _ kw_289, ?_⟩
  exact fun _ h => absurd h List.not_mem_nil
theorem own_A {args : Array Value} {s : State} (hts : ∀ w ∈ xG, w.before args s = true) (hF : xFt s) : ∀ a ∈ Jvm.Bundle.ownAtoms "RasterRows" 106 "java/lang/IllegalArgumentException" xNm, a.before args s = true := by
  have hc : (Cond.castable "java/lang/IllegalArgumentException" "java/lang/IllegalArgumentException").before args s = true := va_Nw.use rfl hF.2.2.1.2.1
  refine List.forall_mem_cons.mpr ⟨hts _ kw_9, ?_⟩
  refine List.forall_mem_cons.mpr ⟨hts _ kw_292, ?_⟩
  refine List.forall_mem_cons.mpr ⟨hts _ kw_301, ?_⟩
  refine List.forall_mem_cons.mpr ⟨hts _ kw_305, ?_⟩
  refine List.forall_mem_cons.mpr ⟨hts _ kw_308, ?_⟩
  refine List.forall_mem_cons.mpr ⟨hts _ kw_310, ?_⟩
  refine List.forall_mem_cons.mpr ⟨hts _ kw_293, ?_⟩
  refine List.forall_mem_cons.mpr ⟨hts _ kw_294, ?_⟩
  refine List.forall_mem_cons.mpr ⟨hts _ kw_22, ?_⟩
  refine List.forall_mem_cons.mpr ⟨hts _ kw_23, ?_⟩
  refine List.forall_mem_cons.mpr ⟨hts _ kw_295, ?_⟩
  refine List.forall_mem_cons.mpr ⟨hts _ kw_300, ?_⟩
  refine List.forall_mem_cons.mpr ⟨hts _ kw_306, ?_⟩
  refine List.forall_mem_cons.mpr ⟨hts _ kw_326, ?_⟩
  refine List.forall_mem_cons.mpr ⟨hts _ kw_282, ?_⟩
  refine List.forall_mem_cons.mpr ⟨hts _ kw_327, ?_⟩
  refine List.forall_mem_cons.mpr ⟨hts _ kw_284, ?_⟩
  refine List.forall_mem_cons.mpr ⟨hts _ kw_328, ?_⟩
  refine List.forall_mem_cons.mpr ⟨hts _ kw_286, ?_⟩
  refine List.forall_mem_cons.mpr ⟨hts _ kw_296, ?_⟩
  refine List.forall_mem_cons.mpr ⟨hF.1.lays, ?_⟩
  refine List.forall_mem_cons.mpr ⟨hts _ kw_298, ?_⟩
  refine List.forall_mem_cons.mpr ⟨hF.2.1.lays, ?_⟩
  refine List.forall_mem_cons.mpr ⟨hts _ kw_288, ?_⟩
  refine List.forall_mem_cons.mpr ⟨hts _ kw_322, ?_⟩
  refine List.forall_mem_cons.mpr ⟨hts _ kw_323, ?_⟩
  refine List.forall_mem_cons.mpr ⟨hts _ kw_325, ?_⟩
  refine List.forall_mem_cons.mpr ⟨hts _ kw_288, ?_⟩
  refine List.forall_mem_cons.mpr ⟨hts _ kw_446, ?_⟩
  refine List.forall_mem_cons.mpr ⟨hts _ kw_447, ?_⟩
  refine List.forall_mem_cons.mpr ⟨hts _ kw_448, ?_⟩
  refine List.forall_mem_cons.mpr ⟨hts _ kw_316, ?_⟩
  refine List.forall_mem_cons.mpr ⟨va_Nw.use rfl hF.2.2.2.1, ?_⟩
  refine List.forall_mem_cons.mpr ⟨hts _ kw_316, ?_⟩
  refine List.forall_mem_cons.mpr ⟨hts _ kw_317, ?_⟩
  refine List.forall_mem_cons.mpr ⟨hts _ kw_318, ?_⟩
  refine List.forall_mem_cons.mpr ⟨hts _ kw_319, ?_⟩
  refine List.forall_mem_cons.mpr ⟨va_Nw.use rfl hF.2.2.2.2.1, ?_⟩
  refine List.forall_mem_cons.mpr ⟨hts _ kw_319, ?_⟩
  refine List.forall_mem_cons.mpr ⟨hts _ kw_320, ?_⟩
  refine List.forall_mem_cons.mpr ⟨hts _ kw_321, ?_⟩
  refine List.forall_mem_cons.mpr ⟨hts _ kw_322, ?_⟩
  refine List.forall_mem_cons.mpr ⟨va_Nw.use rfl hF.2.2.2.2.2.1, ?_⟩
  refine List.forall_mem_cons.mpr ⟨hts _ kw_445, ?_⟩
  refine List.forall_mem_cons.mpr ⟨hts _ kw_436, ?_⟩
  refine List.forall_mem_cons.mpr ⟨hc, ?_⟩
  refine List.forall_mem_cons.mpr ⟨hts _ kw_438, ?_⟩
  refine List.forall_mem_cons.mpr ⟨hts _ kw_303, ?_⟩
  refine List.forall_mem_cons.mpr ⟨hts _ kw_439, ?_⟩
  refine List.forall_mem_cons.mpr ⟨hts _ kw_440, ?_⟩
  refine List.forall_mem_cons.mpr ⟨hts _ kw_441, ?_⟩
  refine List.forall_mem_cons.mpr ⟨hts _ kw_442, ?_⟩
  refine List.forall_mem_cons.mpr ⟨hF.1.ref, ?_⟩
  refine List.forall_mem_cons.mpr ⟨hF.2.1.ref, ?_⟩
  refine List.forall_mem_cons.mpr ⟨hts _ kw_291, ?_⟩
  refine List.forall_mem_cons.mpr ⟨hts _ kw_290, ?_⟩
  refine List.forall_mem_cons.mpr ⟨hts _ kw_443, ?_⟩
  exact fun _ h => absurd h List.not_mem_nil
theorem own_B {args : Array Value} {s : State} (hts : ∀ w ∈ xG, w.before args s = true) (hF : xFt s) : ∀ a ∈ Jvm.Bundle.ownAtoms "RasterRows" 134 "java/lang/IndexOutOfBoundsException" xNm, a.before args s = true := by
  have hc : (Cond.castable "java/lang/IndexOutOfBoundsException" "java/lang/IndexOutOfBoundsException").before args s = true := va_Nw.use rfl hF.2.2.1.2.2
  refine List.forall_mem_cons.mpr ⟨hts _ kw_9, ?_⟩
  refine List.forall_mem_cons.mpr ⟨hts _ kw_292, ?_⟩
  refine List.forall_mem_cons.mpr ⟨hts _ kw_301, ?_⟩
  refine List.forall_mem_cons.mpr ⟨hts _ kw_305, ?_⟩
  refine List.forall_mem_cons.mpr ⟨hts _ kw_308, ?_⟩
  refine List.forall_mem_cons.mpr ⟨hts _ kw_310, ?_⟩
  refine List.forall_mem_cons.mpr ⟨hts _ kw_293, ?_⟩
  refine List.forall_mem_cons.mpr ⟨hts _ kw_294, ?_⟩
  refine List.forall_mem_cons.mpr ⟨hts _ kw_22, ?_⟩
  refine List.forall_mem_cons.mpr ⟨hts _ kw_23, ?_⟩
  refine List.forall_mem_cons.mpr ⟨hts _ kw_295, ?_⟩
  refine List.forall_mem_cons.mpr ⟨hts _ kw_300, ?_⟩
  refine List.forall_mem_cons.mpr ⟨hts _ kw_306, ?_⟩
  refine List.forall_mem_cons.mpr ⟨hts _ kw_326, ?_⟩
  refine List.forall_mem_cons.mpr ⟨hts _ kw_282, ?_⟩
  refine List.forall_mem_cons.mpr ⟨hts _ kw_327, ?_⟩
  refine List.forall_mem_cons.mpr ⟨hts _ kw_284, ?_⟩
  refine List.forall_mem_cons.mpr ⟨hts _ kw_328, ?_⟩
  refine List.forall_mem_cons.mpr ⟨hts _ kw_286, ?_⟩
  refine List.forall_mem_cons.mpr ⟨hts _ kw_296, ?_⟩
  refine List.forall_mem_cons.mpr ⟨hF.1.lays, ?_⟩
  refine List.forall_mem_cons.mpr ⟨hts _ kw_298, ?_⟩
  refine List.forall_mem_cons.mpr ⟨hF.2.1.lays, ?_⟩
  refine List.forall_mem_cons.mpr ⟨hts _ kw_288, ?_⟩
  refine List.forall_mem_cons.mpr ⟨hts _ kw_322, ?_⟩
  refine List.forall_mem_cons.mpr ⟨hts _ kw_323, ?_⟩
  refine List.forall_mem_cons.mpr ⟨hts _ kw_325, ?_⟩
  refine List.forall_mem_cons.mpr ⟨hts _ kw_288, ?_⟩
  refine List.forall_mem_cons.mpr ⟨hts _ kw_491, ?_⟩
  refine List.forall_mem_cons.mpr ⟨hts _ kw_492, ?_⟩
  refine List.forall_mem_cons.mpr ⟨hts _ kw_493, ?_⟩
  refine List.forall_mem_cons.mpr ⟨hts _ kw_316, ?_⟩
  refine List.forall_mem_cons.mpr ⟨va_Nw.use rfl hF.2.2.2.1, ?_⟩
  refine List.forall_mem_cons.mpr ⟨hts _ kw_316, ?_⟩
  refine List.forall_mem_cons.mpr ⟨hts _ kw_317, ?_⟩
  refine List.forall_mem_cons.mpr ⟨hts _ kw_318, ?_⟩
  refine List.forall_mem_cons.mpr ⟨hts _ kw_319, ?_⟩
  refine List.forall_mem_cons.mpr ⟨va_Nw.use rfl hF.2.2.2.2.1, ?_⟩
  refine List.forall_mem_cons.mpr ⟨hts _ kw_319, ?_⟩
  refine List.forall_mem_cons.mpr ⟨hts _ kw_320, ?_⟩
  refine List.forall_mem_cons.mpr ⟨hts _ kw_321, ?_⟩
  refine List.forall_mem_cons.mpr ⟨hts _ kw_322, ?_⟩
  refine List.forall_mem_cons.mpr ⟨va_Nw.use rfl hF.2.2.2.2.2.1, ?_⟩
  refine List.forall_mem_cons.mpr ⟨hts _ kw_490, ?_⟩
  refine List.forall_mem_cons.mpr ⟨hts _ kw_481, ?_⟩
  refine List.forall_mem_cons.mpr ⟨hc, ?_⟩
  refine List.forall_mem_cons.mpr ⟨hts _ kw_483, ?_⟩
  refine List.forall_mem_cons.mpr ⟨hts _ kw_304, ?_⟩
  refine List.forall_mem_cons.mpr ⟨hts _ kw_484, ?_⟩
  refine List.forall_mem_cons.mpr ⟨hts _ kw_485, ?_⟩
  refine List.forall_mem_cons.mpr ⟨hts _ kw_486, ?_⟩
  refine List.forall_mem_cons.mpr ⟨hts _ kw_487, ?_⟩
  refine List.forall_mem_cons.mpr ⟨hF.1.ref, ?_⟩
  refine List.forall_mem_cons.mpr ⟨hF.2.1.ref, ?_⟩
  refine List.forall_mem_cons.mpr ⟨hts _ kw_291, ?_⟩
  refine List.forall_mem_cons.mpr ⟨hts _ kw_290, ?_⟩
  refine List.forall_mem_cons.mpr ⟨hts _ kw_488, ?_⟩
  exact fun _ h => absurd h List.not_mem_nil
def xTh (X : String) (st : State) (o : Outcome) (t : State) (mc ms : Nat) : Prop := ∃ x, o = .threw x ∧ Jvm.Free.FrameEndT st o t [] mc ms ∧ st.heap.size ≤ x ∧ ∃ ce : Cell, t.heap[x]? = some ce ∧ st.vm.findClass X = some ce.cls ∧ ce.vm = .none
def xThr (l : Launch) (D : va_G) (tys : List (ClassId × FieldType)) (y : MethodName) (b : ByteArray) (n : Nat) (r : Option FieldType) (rm : Room) (X : String) (av : List Value) (ws : va_W) : Prop :=
  ∀ sz : Nat, MetFree l y (headSpec (xw y b n r) rm) (xPc D tys xFt av ws sz) (fun _ _ _ _ _ => True) (fun _ st o t => xTh X st o t rm.cells rm.slots)
def xTQ (below : List Frame) (X : String) (s : State) (mc ms : Nat) : State → Prop := fun t => ∃ o, t.status = .running ∧ Ended t below o ∧ xTh X s o t mc ms
/-- a throwing contract out of a walk of the body -/
theorem x_thr {l : Launch} {D : va_G} {tys : List (ClassId × FieldType)} {y : MethodName} {b : ByteArray} {n : Nat} {r : Option FieldType} {rm : Room} {X : String} {av : List Value} {ws : va_W} (hy : plainName y.cls = true) (hav : (lg_sl av).length ≤ n)
    (body : ∀ (p : Program) (e : Env) (s : State) (m : MethodId) (below : List Frame) (meth : Method) (c : Code), p.tables.exec = Jvm.exec → c.code = b → c.exceptionTable.toList = [] → c.maxLocals = n → (∀ w ∈ xG, w.before av.toArray s = true) → s.vm.findClass y.cls = some m.cls → meth.locks = false → xFt s →
      va_P D xcl ws s.heap → va_K D xcl tys s → va_D (fun _ => True) ws → ∀ ls : Array Slot, lv_has ls n (lv_args 0 av) →
      W p l e rm s m av.toArray below meth c s.heap [] 0 0 (xTQ below X s rm.cells rm.slots) (F0 m 0 ls [])) : xThr l D tys y b n r rm X av ws := by
  intro sz
  refine MetFree.of_bodyS (code := b) (maxLocals := n) (ret := r) hy ?_ ?_
  · intro args s m h hn
    obtain ⟨meth, c, h1, h2, h3, h4, h5, h6, -, -⟩ := Cond.code_spec hn (atoms_spec (ws := xw y b n r) h _ List.mem_cons_self)
    exact ⟨meth, c, h1, h2, h3, h4, h5, h6⟩
  · intro p e s m args below meth c s₁ B hml hP _
    obtain ⟨rfl, hsz, hP, hK, hD0, hF⟩ := hP
    subst hsz
    have hh0 : s₁.heap = s.heap := by rw [B.state]; rfl
    have hts0 := atoms_spec (ws := xw y b n r) B.pre
    have X₀ : Stand p l e rm s m av.toArray below meth c s₁ [] 0 0 := Stand.of_body B
    obtain ⟨meth', c', g1, g2, -, -, -, -, g7, -⟩ := Cond.code_spec B.named (hts0 _ List.mem_cons_self)
    cases B.method.symm.trans g1
    cases X₀.code.symm.trans g2
    have hex : c.exceptionTable.toList = [] := by simpa using g7
    obtain ⟨t, a1, o, b1, b2, b3⟩ := body p e s m below meth c B.exec B.bytes hex hml (fun w h => hts0 w (List.mem_cons_of_mem _ h)) (findClass_of_methodNamed B.named) B.notSynchronized hF hP hK hD0 _ (lv_entry av hav) s₁ hh0 X₀
    rw [lg_entry_eq]
    exact ⟨t, o, a1, b1, b2, b3⟩
section XTh
variable {p : Program} {l : Launch} {e : Env} {R : Room} {s : State} {m : MethodId} {args : Array Value} {below : List Frame} {meth : Method} {c : Code} {H : Heap} {locs : List Loc} {cells slots : Nat} {Q : State → Prop} {cc : ByteArray} {pc : Nat} {ls : Array Slot}
/-- new, dup, the message, the constructor, athrow -/
theorem x_throw {X tx : String} {i0 it ic nL : Nat} (hfl : l.flags = Jvm.pinnedFlags ++ [Jvm.noTraceFlag]) (hx : p.tables.exec = Jvm.exec) (hb : c.code = cc) (hex : c.exceptionTable.toList = []) (hml : c.maxLocals = nL) (hls : ls.size = nL) (hlocks : meth.locks = false) (hown : s.vm.findClass "RasterRows" = some m.cls)
    (hat : ∀ a ∈ Jvm.Bundle.ownAtoms "RasterRows" ic X xNm, a.before args s = true) (hcl : (Cond.classLink "RasterRows" i0 X).before args s = true) (hin : (Cond.instantiable X 6).before args s = true) (hini : (Cond.initialized X).before args s = true) (hfit : Jvm.Bundle.fit X = true)
    (hstr : ∃ q : Nat, vk_R "RasterRows" it tx q s) (hR : 6 ≤ R.frames ∧ 82 ≤ R.locals ∧ 1 ≤ R.cells ∧ 6 ≤ R.slots)
    (d0 : decode cc pc = .ok (.new i0, 3)) (d3 : decode cc (pc + 3) = .ok (.dup, 1)) (d4 : decode cc (pc + 4) = .ok (.ldc it, 2)) (d6 : decode cc (pc + 6) = .ok (.invokespecial ic, 3)) (d9 : decode cc (pc + 9) = .ok (.athrow, 1)) :
    W p l e R s m args below meth c s.heap [] 0 0 (xTQ below X s 1 6) (F0 m pc ls []) := by
  obtain ⟨q, hq⟩ := hstr
  refine W.newc hx hb hown hcl hin hini (g := F0 m pc ls []) rfl d0 (by omega) (by omega) (fun cC kC h1 h2 h3 h4 => ?_)
  refine W.eq (g2 := F0 m (pc + 3) ls [.ref s.heap.size]) rfl ?_
  refine lv_dup hx hb d3 rfl ?_
  refine va_ldcS hx hb hown hq d4 ?_
  intro T hT X0
  obtain ⟨U, st, hrun, hend, hW, hsame, ce, hce, hoc⟩ := X0.ctorThrowS hx (Launch.traces_off hfl X0.admits) (names := xNm) hown hfit (by intro n hn; simp only [xNm, List.mem_cons, List.not_mem_nil, or_false] at hn; rcases hn with rfl | rfl <;> decide) hat (fun x hx => by cases hx) (a := s.heap.size) h1 h2 (by rw [hT]; simp) (Nat.le_refl _) (msg := .ref q) rfl (g := F0 m (pc + 6) ls [.ref q, .ref s.heap.size, .ref s.heap.size]) rfl (hls.trans hml.symm) rfl rfl (rest := []) rfl (by rw [hb]; exact d6) (by rw [hb]; exact d9) (fun x hx => by rw [hex] at hx; cases hx) (show 2 + 3 < R.frames by omega) (show 0 + 1 + (13 * 3 + 42) ≤ R.locals by omega) hlocks
  exact ⟨U, st, _, hrun, hend, _, rfl, ⟨⟨_, rfl⟩, hW, hsame⟩, Nat.le_refl _, ce, hce, hoc.cls, hoc.vm⟩
end XTh
