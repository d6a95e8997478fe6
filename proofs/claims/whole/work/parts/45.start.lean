theorem tb_at {w : Cond} (k : Nat) (h : tables_1[k]? = some w) : w ∈ lw_tbl := List.mem_append_right _ (List.mem_of_getElem? h)
theorem ao_prim {s : State} {args : Array Value} {ty : FieldType} (h : (Cond.arrayClass ty).before args s = true) : ∃ cA : ClassId, ArrOfT s cA ty ∧ s.vm.findClass ("[" ++ ty.toString) = some cA := by
  obtain ⟨cA, kA, comp, h1, h2, h3⟩ := Cond.arrayClass_spec h
  exact ⟨cA, fun n z => ⟨fun k h => (by cases h), kA, h2, comp, h3⟩, h1⟩
theorem ao_obj {s : State} {args : Array Value} {C : String} (h : (Cond.arrayOver (.object C)).before args s = true) : ∃ cA : ClassId, ArrOfT s cA (.object C) ∧ va_RA s cA (.object C) := by
  obtain ⟨comp, cA, kA, h1, h2, h3, h4, h5⟩ := Cond.arrayOver_spec h
  exact ⟨cA, fun n z => ⟨fun k h => (by cases h), kA, h3, comp, h4⟩, kA, comp, h3, h4, h1, h5⟩
theorem str_at {s : State} {args : Array Value} {own tx : String} {k : Nat} (h1 : (Cond.stringRef own k tx).before args s = true) (h : (Cond.exactly (.string own k) "java/lang/String").before args s = true) : ∃ q : Nat, vk_R own k tx q s := by
  obtain ⟨a, c, cA, kA, q1, -⟩ := Cond.exactly_spec (args := args) (first := s) (o := none) (s := s) (idx := []) h
  exact ⟨a, vk_R.of h1 q1⟩
theorem at_xG {s : State} {b : Nat} (hts : ∀ w ∈ lw_tbl, w.before #[Value.ref b] s = true) : ∀ w ∈ xG, w.before #[Value.ref b] s = true := fun w hw => hts w (List.mem_filter.mp hw).1
theorem at_K {s : State} {b : Nat} (hts : ∀ w ∈ lw_tbl, w.before #[Value.ref b] s = true) : ∃ (D : va_G) (cI cJ cQ : ClassId), va_K D xcl (xT cI cJ cQ) s := by
  have hxg := at_xG hts
  obtain ⟨c0, i0, hKn0⟩ := u_known (C := R_Ln) (T := T_Ln) (N := 2) (n := 2) hxg i_Ln (hxg _ kw_41)
  obtain ⟨c1, i1, hKn1⟩ := u_known (C := R_Pk) (T := T_Pk) (N := 2) (n := 2) hxg i_Pk (hxg _ kw_128)
  obtain ⟨c2, i2, hKn2⟩ := u_known (C := R_Ra) (T := T_Ra) (N := 9) (n := 9) hxg i_Ra (hxg _ kw_87)
  obtain ⟨c3, i3, hKn3⟩ := u_known (C := R_Sh) (T := T_Sh) (N := 8) (n := 8) hxg i_Sh (hxg _ kw_25)
  obtain ⟨c4, i4, hKn4⟩ := u_known (C := R_RR) (T := T_RR) (N := 8) (n := 8) hxg i_RR (hxg _ kw_17)
  obtain ⟨c5, i5, hKn5⟩ := u_known (C := R_Mo) (T := T_Mo) (N := 25) (n := 25) hxg i_Mo (hxg _ kw_498)
  obtain ⟨cI, aI, nI⟩ := ao_prim (hxg _ kw_126)
  obtain ⟨cJ, aJ, nJ⟩ := ao_prim (hxg _ kw_54)
  obtain ⟨cQ, aQ, nQ⟩ := ao_obj (hts _ (tb_at 40 rfl))
  refine ⟨(fun k => if k = 0 then c0 else if k = 1 then c1 else if k = 2 then c2 else if k = 3 then c3 else if k = 4 then c4 else c5, fun k => if k = 0 then i0 else if k = 1 then i1 else if k = 2 then i2 else if k = 3 then i3 else if k = 4 then i4 else i5), cI, cJ, cQ, ?_, ?_⟩
  · intro k q hq
    match k, hq with
    | 0, hq => cases hq; exact hKn0
    | 1, hq => cases hq; exact hKn1
    | 2, hq => cases hq; exact hKn2
    | 3, hq => cases hq; exact hKn3
    | 4, hq => cases hq; exact hKn4
    | 5, hq => cases hq; exact hKn5
    | k + 6, hq => simp [xcl] at hq
  · intro k q hq
    match k, hq with
    | 0, hq => cases hq; exact ⟨aI, nI⟩
    | 1, hq => cases hq; exact ⟨aJ, nJ⟩
    | 2, hq => cases hq; exact ⟨aQ, nQ⟩
    | k + 3, hq => simp [xT] at hq
theorem at_F0 {s : State} {b : Nat} (hts : ∀ w ∈ lw_tbl, w.before #[Value.ref b] s = true) : xF0 s := ⟨va_AO.of (hts _ (tb_at 40 rfl)), va_Nw.of rfl (hts _ (tb_at 88 rfl)), va_Nw.of rfl (hts _ (tb_at 129 rfl)), va_Nw.of rfl (hts _ (tb_at 30 rfl))⟩
set_option maxRecDepth 100000 in
theorem at_Ft {s : State} {b : Nat} (hts : ∀ w ∈ lw_tbl, w.before #[Value.ref b] s = true) (hgv : (Jvm.Cond.and given_1 narrow_1).before #[Value.ref b] s = true) : xFt s := by
  have hg := flat_of_before _ hgv
  exact ⟨sTat.of (hts _ (tb_at 297 rfl)) (hg _ (by decide +kernel)), sTat.of (hts _ (tb_at 299 rfl)) (hg _ (by decide +kernel)),
    ⟨va_Nw.of rfl (hts _ (tb_at 272 rfl)), va_Nw.of rfl (hts _ (tb_at 437 rfl)), va_Nw.of rfl (hts _ (tb_at 482 rfl))⟩,
    va_Nw.of rfl (hts _ (tb_at 274 rfl)), va_Nw.of rfl (hts _ (tb_at 276 rfl)), va_Nw.of rfl (hts _ (tb_at 278 rfl)),
    ⟨str_at (hts _ (tb_at 311 rfl)) (hg _ (by decide +kernel)), str_at (hts _ (tb_at 444 rfl)) (hg _ (by decide +kernel)), str_at (hts _ (tb_at 489 rfl)) (hg _ (by decide +kernel))⟩,
    va_Nc.of (args := #[Value.ref b]) (hg _ (by decide +kernel))⟩
