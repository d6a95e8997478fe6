theorem lawI_has {D : va_G} {cI cJ cQ : ClassId} {A : Nat → Prop} {s : State} {b : Nat} {i : Int} {H : Heap} {locs : List Loc} {ls : Array Slot} (hI : lawI D cI cJ cQ A s b i H locs ls) : (3 ≤ i ∧ i ≤ 2055) ∧ va_S A s.heap H locs ∧ ∃ o q oa : Nat, lv_has ls 7 [(4, .int (iI i)), (0, .ref b), (1, .ref o), (2, .ref q), (3, .ref oa)] :=
  lawI_el hI (fun o dp rs mt nW nH hs h gp la st sw ac dI dn nw g sf kr kb ov bd Wd a B op x y sc wd ht ln rw bp P ct q th sa bk mx my mwd mht msc mrw mln ea fa ca MB Fr nS S oa Ou pl hi hdp hrs hmt hnW hnH hac hdn hnw hL hdI hop hov hkr hkb hct hPb hln hB hwd hsc hxx hyy hh hrw htr hE hmh hmr hml_ hnS hSW hbd hbk hP hD hS hl => ⟨hi, hS, o, q, oa, hl⟩)
theorem cfL_e {i : Int} (hi : 3 ≤ i ∧ i ≤ 2055) : cfL i ≤ room_1.cells := Nat.le_trans (cfL_0 hi) (show 600000 ≤ room_1.cells by decide)
theorem sfL_e {i : Int} (hi : 3 ≤ i ∧ i ≤ 2055) : sfL i ≤ room_1.slots := Nat.le_trans (sfL_0 hi) (show 7000000 ≤ room_1.slots by decide)
theorem mu_lt {i : Int} (hi : 3 ≤ i ∧ i ≤ 2055) : (3000 - (i + 4)).toNat < (3000 - i).toNat := by omega
theorem sw16 (k : Int) (h : 0 ≤ k ∧ k < 16) : (k < 0 ∨ 12 < k) ∨ k = 0 ∨ k = 1 ∨ k = 2 ∨ k = 3 ∨ k = 4 ∨ k = 5 ∨ k = 6 ∨ k = 7 ∨ k = 8 ∨ k = 9 ∨ k = 10 ∨ k = 11 ∨ k = 12 := by omega
theorem law_loop {p : Program} {e : Env} {s : State} {m : MethodId} {below : List Frame} {meth : Method} {c : Code} (l : Launch) (hfl : l.flags = Jvm.pinnedFlags ++ [Jvm.noTraceFlag]) (D : va_G) (cI cJ cQ : ClassId) {b L : Nat} {xs : Nat → Int32} {A : Nat → Prop} (hx : p.tables.exec = Jvm.exec) (hb : c.code = b_La_law) (hml : c.maxLocals = 7) (hown : s.vm.findClass "RasterRowsLaw" = some m.cls) (hts : ∀ w ∈ xG, w.before #[Value.ref b] s = true) (hK : va_K D xcl (xT cI cJ cQ) s) (hF : xFt s) (hX : va_X b L xs s s.heap) (hbl : b < s.heap.size) (hbA : ¬ A b) (hA : ∀ q, s.heap.size ≤ q → A q) (hAn : ∀ q, A q → s.heap.size ≤ q) (hLL : L ≤ 2051) (hr : meth.sig.returnType = ret) (hlocks : meth.locks = false) {H : Heap} {locs : List Loc} {ls : Array Slot} (hI : lawI D cI cJ cQ A s b 3 H locs ls) : W p l e room_1 s m #[Value.ref b] below meth c H locs (cfL 3) (sfL 3) (lw_Z below #[Value.ref b] s) (F0 m 53 ls []) := by
  refine x_loopc1 (fun i : Int => cfL i) (fun i : Int => sfL i) (fun (i : Int) H locs ls => lawI D cI cJ cQ A s b i H locs ls) (fun i : Int => (3000 - i).toNat) 3 hI ?_
  intro i H locs ls hI ih
  obtain ⟨hi, hS, o, q, oa, hl⟩ := lawI_has hI
  have ih2 : ∀ (H : Heap) (locs : List Loc) (ls : Array Slot), lawI D cI cJ cQ A s b (i + 4) H locs ls → W p l e room_1 s m #[Value.ref b] below meth c H locs (cfL (i + 4)) (sfL (i + 4)) (lw_Z below #[Value.ref b] s) (F0 m 53 ls []) := fun H locs ls h => ih (i + 4) H locs ls (mu_lt hi) h
  clear ih
  show W p l e room_1 s m #[Value.ref b] below meth c H locs (cfL i) (sfL i) (lw_Z below #[Value.ref b] s) (F0 m 53 ls [])
  refine lv_iload hx hb d_La_law_53 (lv_at hl 0 rfl) ?_
  refine lv_aload_n hx hb d_La_law_55 rfl (lv_at hl 1 rfl) ?_
  refine xi_slen hx hb hX hbl hbA hS d_La_law_56 ?_
  refine xi_iconst hx hb d_La_law_57 ?_
  refine xi_isub hx hb d_La_law_58 ?_
  refine xi_icmp_gt (tgt := 669) hx hb d_La_law_59 (by decide) ⟨by omega, by omega⟩ ⟨by omega, by omega⟩ (fun c_59 => ?_) (fun c_59 => ?_)
  · refine xi_iconst hx hb d_La_law_669 ?_
    refine va_forget (fun q hq => hAn _ (hS.2.2 q hq)) ?_
    refine W.widen (k := room_1.cells) (n := room_1.slots) (cfL_e hi) (sfL_e hi) ?_
    exact lw_ret hx hb hr hlocks d_La_law_670
  · have hi4 : i + 4 ≤ (L : Int) := by omega
    obtain ⟨z0, hz0, ez0⟩ : ∃ z : Int, inR z ∧ xZ xs i.toNat = z := ⟨_, xZ_r _ _, rfl⟩
    refine lv_aload_n hx hb d_La_law_62 rfl (lv_at hl 1 rfl) ?_
    refine lv_iload hx hb d_La_law_63 (lv_at hl 0 rfl) ?_
    refine xi_sld hx hb hX hbl hbA hS (by omega) (by omega) (by omega) ez0 d_La_law_65 ?_
    refine xi_bipush hx hb d_La_law_66 (by decide) ?_
    refine lv_iand hx hb d_La_law_68 ?_
    rw [iI_and15]
    obtain ⟨k, hk⟩ : ∃ k : Int, k = z0 % 16 := ⟨_, rfl⟩
    rw [← hk]
    have hkr : 0 ≤ k ∧ k < 16 := by omega
    clear hk
    rcases sw16 k hkr with t_69 | t_69 | t_69 | t_69 | t_69 | t_69 | t_69 | t_69 | t_69 | t_69 | t_69 | t_69 | t_69 | t_69
    · refine lv_tableOut (tgt := 663) hx hb d_La_law_69 (by rw [iI_toInt ⟨by omega, by omega⟩]; omega) (by decide) ?_
      exact law_d l hfl D cI cJ cQ hx hb hml hown hts hK hF hX hbl hbA hA hAn hLL hi4 hI ih2
    · subst t_69
      refine lv_tableIn (off := 67) (tgt := 136) hx hb d_La_law_69 (by decide) (by decide) rfl (by decide) ?_
      exact law_0 l hfl D cI cJ cQ hx hb hml hown hts hK hF hX hbl hbA hA hAn hLL hi4 hI ih2
    · subst t_69
      refine lv_tableIn (off := 92) (tgt := 161) hx hb d_La_law_69 (by decide) (by decide) rfl (by decide) ?_
      exact law_1 l hfl D cI cJ cQ hx hb hml hown hts hK hF hX hbl hbA hA hAn hLL hi4 hI ih2
    · subst t_69
      refine lv_tableIn (off := 145) (tgt := 214) hx hb d_La_law_69 (by decide) (by decide) rfl (by decide) ?_
      exact law_2 l hfl D cI cJ cQ hx hb hml hown hts hK hF hX hbl hbA hA hAn hLL hi4 hI ih2
    · subst t_69
      refine lv_tableIn (off := 170) (tgt := 239) hx hb d_La_law_69 (by decide) (by decide) rfl (by decide) ?_
      exact law_3 l hfl D cI cJ cQ hx hb hml hown hts hK hF hX hbl hbA hA hAn hLL hi4 hI ih2
    · subst t_69
      refine lv_tableIn (off := 207) (tgt := 276) hx hb d_La_law_69 (by decide) (by decide) rfl (by decide) ?_
      exact law_4 l hfl D cI cJ cQ hx hb hml hown hts hK hF hX hbl hbA hA hAn hLL hi4 hI ih2
    · subst t_69
      refine lv_tableIn (off := 276) (tgt := 345) hx hb d_La_law_69 (by decide) (by decide) rfl (by decide) ?_
      exact law_5 l hfl D cI cJ cQ hx hb hml hown hts hK hF hX hbl hbA hA hAn hLL hi4 hI ih2
    · subst t_69
      refine lv_tableIn (off := 320) (tgt := 389) hx hb d_La_law_69 (by decide) (by decide) rfl (by decide) ?_
      exact law_6 l hfl D cI cJ cQ hx hb hml hown hts hK hF hX hbl hbA hA hAn hLL hi4 hI ih2
    · subst t_69
      refine lv_tableIn (off := 376) (tgt := 445) hx hb d_La_law_69 (by decide) (by decide) rfl (by decide) ?_
      exact law_7 l hfl D cI cJ cQ hx hb hml hown hts hK hF hX hbl hbA hA hAn hLL hi4 hI ih2
    · subst t_69
      refine lv_tableIn (off := 420) (tgt := 489) hx hb d_La_law_69 (by decide) (by decide) rfl (by decide) ?_
      exact law_8 l hfl D cI cJ cQ hx hb hml hown hts hK hF hX hbl hbA hA hAn hLL hi4 hI ih2
    · subst t_69
      refine lv_tableIn (off := 431) (tgt := 500) hx hb d_La_law_69 (by decide) (by decide) rfl (by decide) ?_
      exact law_9 l hfl D cI cJ cQ hx hb hml hown hts hK hF hX hbl hbA hA hAn hLL hi4 hI ih2
    · subst t_69
      refine lv_tableIn (off := 469) (tgt := 538) hx hb d_La_law_69 (by decide) (by decide) rfl (by decide) ?_
      exact law_10 l hfl D cI cJ cQ hx hb hml hown hts hK hF hX hbl hbA hA hAn hLL hi4 hI ih2
    · subst t_69
      refine lv_tableIn (off := 544) (tgt := 613) hx hb d_La_law_69 (by decide) (by decide) rfl (by decide) ?_
      exact law_11 l hfl D cI cJ cQ hx hb hml hown hts hK hF hX hbl hbA hA hAn hLL hi4 hI ih2
    · subst t_69
      refine lv_tableIn (off := 569) (tgt := 638) hx hb d_La_law_69 (by decide) (by decide) rfl (by decide) ?_
      exact law_12 l hfl D cI cJ cQ hx hb hml hown hts hK hF hX hbl hbA hA hAn hLL hi4 hI ih2
