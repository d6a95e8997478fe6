theorem d_Ra_shownByte_0 : decode b_Ra_shownByte 0 = .ok (.aload_n 0, 1) := by decide +kernel
theorem d_Ra_shownByte_1 : decode b_Ra_shownByte 1 = .ok (.iload_n 1, 1) := by decide +kernel
theorem d_Ra_shownByte_2 : decode b_Ra_shownByte 2 = .ok (.invokevirtual 56, 3) := by decide +kernel
theorem d_Ra_shownByte_5 : decode b_Ra_shownByte 5 = .ok (.ifCond .ne 5, 3) := by decide +kernel
theorem d_Ra_shownByte_8 : decode b_Ra_shownByte 8 = .ok (.iconst 0, 1) := by decide +kernel
theorem d_Ra_shownByte_9 : decode b_Ra_shownByte 9 = .ok (.ireturn, 1) := by decide +kernel
theorem d_Ra_shownByte_10 : decode b_Ra_shownByte 10 = .ok (.aload_n 0, 1) := by decide +kernel
theorem d_Ra_shownByte_11 : decode b_Ra_shownByte 11 = .ok (.getfield 29, 3) := by decide +kernel
theorem d_Ra_shownByte_14 : decode b_Ra_shownByte 14 = .ok (.ifCond .le 17, 3) := by decide +kernel
theorem d_Ra_shownByte_17 : decode b_Ra_shownByte 17 = .ok (.bipush 8, 2) := by decide +kernel
theorem d_Ra_shownByte_19 : decode b_Ra_shownByte 19 = .ok (.iload_n 1, 1) := by decide +kernel
theorem d_Ra_shownByte_20 : decode b_Ra_shownByte 20 = .ok (.iconst 1, 1) := by decide +kernel
theorem d_Ra_shownByte_21 : decode b_Ra_shownByte 21 = .ok (.iadd, 1) := by decide +kernel
theorem d_Ra_shownByte_22 : decode b_Ra_shownByte 22 = .ok (.imul, 1) := by decide +kernel
theorem d_Ra_shownByte_23 : decode b_Ra_shownByte 23 = .ok (.aload_n 0, 1) := by decide +kernel
theorem d_Ra_shownByte_24 : decode b_Ra_shownByte 24 = .ok (.getfield 29, 3) := by decide +kernel
theorem d_Ra_shownByte_27 : decode b_Ra_shownByte 27 = .ok (.isub, 1) := by decide +kernel
theorem d_Ra_shownByte_28 : decode b_Ra_shownByte 28 = .ok (.goto 4, 3) := by decide +kernel
theorem d_Ra_shownByte_31 : decode b_Ra_shownByte 31 = .ok (.iconst 0, 1) := by decide +kernel
theorem d_Ra_shownByte_32 : decode b_Ra_shownByte 32 = .ok (.istore_n 2, 1) := by decide +kernel
theorem d_Ra_shownByte_33 : decode b_Ra_shownByte 33 = .ok (.iload_n 2, 1) := by decide +kernel
theorem d_Ra_shownByte_34 : decode b_Ra_shownByte 34 = .ok (.ifCond .le 23, 3) := by decide +kernel
theorem d_Ra_shownByte_37 : decode b_Ra_shownByte 37 = .ok (.aload_n 0, 1) := by decide +kernel
theorem d_Ra_shownByte_38 : decode b_Ra_shownByte 38 = .ok (.getfield 9, 3) := by decide +kernel
theorem d_Ra_shownByte_41 : decode b_Ra_shownByte 41 = .ok (.iload_n 1, 1) := by decide +kernel
theorem d_Ra_shownByte_42 : decode b_Ra_shownByte 42 = .ok (.iaload, 1) := by decide +kernel
theorem d_Ra_shownByte_43 : decode b_Ra_shownByte 43 = .ok (.sipush 255, 3) := by decide +kernel
theorem d_Ra_shownByte_46 : decode b_Ra_shownByte 46 = .ok (.iload_n 2, 1) := by decide +kernel
theorem d_Ra_shownByte_47 : decode b_Ra_shownByte 47 = .ok (.bipush 8, 2) := by decide +kernel
theorem d_Ra_shownByte_49 : decode b_Ra_shownByte 49 = .ok (.invokestatic 44, 3) := by decide +kernel
theorem d_Ra_shownByte_52 : decode b_Ra_shownByte 52 = .ok (.ishl, 1) := by decide +kernel
theorem d_Ra_shownByte_53 : decode b_Ra_shownByte 53 = .ok (.iand, 1) := by decide +kernel
theorem d_Ra_shownByte_54 : decode b_Ra_shownByte 54 = .ok (.goto 9, 3) := by decide +kernel
theorem d_Ra_shownByte_57 : decode b_Ra_shownByte 57 = .ok (.aload_n 0, 1) := by decide +kernel
theorem d_Ra_shownByte_58 : decode b_Ra_shownByte 58 = .ok (.getfield 9, 3) := by decide +kernel
theorem d_Ra_shownByte_61 : decode b_Ra_shownByte 61 = .ok (.iload_n 1, 1) := by decide +kernel
theorem d_Ra_shownByte_62 : decode b_Ra_shownByte 62 = .ok (.iaload, 1) := by decide +kernel
theorem d_Ra_shownByte_63 : decode b_Ra_shownByte 63 = .ok (.ireturn, 1) := by decide +kernel
theorem ds_Ra_shownByte : xDesc y_Ra_shownByte 1 := by decide +kernel

abbrev rm_Ra_shownByte : Room := { frames := 1, cells := 0, slots := 0, locals := 21 }
set_option maxHeartbeats 4000000 in
set_option maxRecDepth 100000 in
/-- Raster.shownByte -/
theorem c_Ra_shownByte (l : Launch) (D : va_G) (cI cJ cQ : ClassId) (h : Nat) (a : Nat) (B : Nat → Int) (op : Int) (x : Int) (y : Int) (sc : Int) (wd : Int) (ht : Int) (ln : Int) (rw : Int) (i : Int) (hln : 0 ≤ ln ∧ ln ≤ 640) (hB : ∀ j : Nat, 0 ≤ B j ∧ B j < 256) (hwd : 0 ≤ wd ∧ wd ≤ 5119) (hi : 0 ≤ i ∧ i < ln) : xMet l D (xT cI cJ cQ) y_Ra_shownByte b_Ra_shownByte 3 (some .int) rm_Ra_shownByte [.ref h, .int (iI i)] [(h, .inr (2, [.ref a, .int (iI op), .int (iI x), .int (iI y), .int (iI sc), .int (iI wd), .int (iI ht), .int (iI ln), .int (iI rw)])), (a, .inl (cI, 640, .inl (iA B)))] (fun v ws => ∃ (r : Int), v = some (.int (iI r)) ∧ ws = [(h, .inr (2, [.ref a, .int (iI op), .int (iI x), .int (iI y), .int (iI sc), .int (iI wd), .int (iI ht), .int (iI ln), .int (iI rw)])), (a, .inl (cI, 640, .inl (iA B)))] ∧ (0 ≤ r ∧ r < 256) ∧ (∀ t : Nat, t < 8 → bb r t = ((decide (wd = 0) || decide (8 * i + (t : Int) < wd)) && bb (B i.toNat) t))) := by
  refine x_met (by decide) (Nat.le_of_ble_eq_true rfl) ?_
  intro p e s m below meth c hx hb hr hml hts hown hlocks hin hF0 A hA hP hD hK ls hl hS
  have hl : lv_has ls 3 [(0, .ref h), (1, .int (iI i))] := hl
  refine lv_aload_n hx hb d_Ra_shownByte_0 rfl (lv_at hl 0 rfl) ?_
  refine lv_iload_n hx hb d_Ra_shownByte_1 rfl (lv_at hl 1 rfl) ?_
  refine x_aft (x_runV (C := "RasterRows$Raster") (As := [.int (iI i)]) (rest := []) (ci := 2) (q0 := 0) hx hb hml hown hts (c_Ra_hasByte l D cI cJ cQ h a B op x y sc wd ht ln rw i (hln) (⟨by omega, by omega⟩)) kw_363 kw_252 kw_253 kw_5 kw_254 ds_Ra_hasByte (by decide) hK (hP.sub (ws' := [(h, .inr (2, [.ref a, .int (iI op), .int (iI x), .int (iI y), .int (iI sc), .int (iI wd), .int (iI ht), .int (iI ln), .int (iI rw)])), (a, .inl (cI, 640, .inl (iA B)))]) [0, 1] rfl) (hD.sub (ws' := [(h, .inr (2, [.ref a, .int (iI op), .int (iI x), .int (iI y), .int (iI sc), .int (iI wd), .int (iI ht), .int (iI ln), .int (iI rw)])), (a, .inl (cI, 640, .inl (iA B)))]) [0, 1] (by decide) rfl) rfl rfl rfl hl.1 rfl (Nat.le_of_ble_eq_true rfl) d_Ra_shownByte_2) hP hD hS hA [0, 1] [] rfl (wr := []) rfl (by decide) (by decide) (fun v w1 H locs hq hP hD hS => ?_)
  obtain ⟨r_2, rfl, rfl, hr_2⟩ := hq
  refine W.cs (cells' := 0) (slots' := 0) rfl rfl ?_
  refine W.eq (g2 := F0 m 5 ls [.int (iI r_2)]) rfl ?_
  have hP : va_P D xcl [(h, .inr (2, [.ref a, .int (iI op), .int (iI x), .int (iI y), .int (iI sc), .int (iI wd), .int (iI ht), .int (iI ln), .int (iI rw)])), (a, .inl (cI, 640, .inl (iA B)))] _ := hP
  have hD : va_D A [(h, .inr (2, [.ref a, .int (iI op), .int (iI x), .int (iI y), .int (iI sc), .int (iI wd), .int (iI ht), .int (iI ln), .int (iI rw)])), (a, .inl (cI, 640, .inl (iA B)))] := hD
  refine xi_if_ne (tgt := 10) hx hb d_Ra_shownByte_5 (by decide) ⟨by omega, by omega⟩ (fun c_5 => ?_) (fun c_5 => ?_)
  ·
    refine lv_aload_n hx hb d_Ra_shownByte_10 rfl (lv_at hl 0 rfl) ?_
    refine va_get (D := D) (cl := xcl) (ci := 2) (v := .int (iI wd)) (C := R_Ra) (T := T_Ra) (N := 9) hx hb hts i_Ra hown hK hP 0 rfl rfl 5 (by decide) (hts _ kw_101) (fun _ h9 => h9) rfl d_Ra_shownByte_11 ?_
    refine xi_if_le (tgt := 31) hx hb d_Ra_shownByte_14 (by decide) ⟨by omega, by omega⟩ (fun c_14 => ?_) (fun c_14 => ?_)
    ·
      refine xi_iconst hx hb d_Ra_shownByte_31 ?_
      refine lv_istore_n (lv' := [(2, .int (iI 0)), (0, .ref h), (1, .int (iI i))]) hx hb d_Ra_shownByte_32 rfl hl (by decide) rfl (fun ls hl => ?_)
      refine lv_iload_n hx hb d_Ra_shownByte_33 rfl (lv_at hl 0 rfl) ?_
      refine xi_if_le (tgt := 57) hx hb d_Ra_shownByte_34 (by decide) ⟨by decide, by decide⟩ (fun c_34 => ?_) (fun c_34 => ?_)
      ·
        refine lv_aload_n hx hb d_Ra_shownByte_57 rfl (lv_at hl 1 rfl) ?_
        refine va_get (D := D) (cl := xcl) (ci := 2) (v := .ref a) (C := R_Ra) (T := T_Ra) (N := 9) hx hb hts i_Ra hown hK hP 0 rfl rfl 0 (by decide) (hts _ kw_92) (fun _ h9 => h9) rfl d_Ra_shownByte_58 ?_
        refine lv_iload_n hx hb d_Ra_shownByte_61 rfl (lv_at hl 2 rfl) ?_
        refine xi_iald hx hb hK hP 1 0 rfl rfl (by omega) (by omega) (by omega) d_Ra_shownByte_62 ?_
        exact x_iret hx hb hr hlocks hP hD hS (by decide) (by decide) ⟨(B i.toNat), rfl, rfl, hB _, fun t ht => by rw [← Bool.decide_or, decide_eq_true (show wd = 0 ∨ 8 * i + (t : Int) < wd by omega), Bool.true_and]⟩ d_Ra_shownByte_63
      ·
        exact absurd c_34 (by decide)
    ·
      refine xi_bipush hx hb d_Ra_shownByte_17 (by decide) ?_
      refine lv_iload_n hx hb d_Ra_shownByte_19 rfl (lv_at hl 1 rfl) ?_
      refine xi_iconst hx hb d_Ra_shownByte_20 ?_
      refine xi_iadd hx hb d_Ra_shownByte_21 ?_
      refine xi_imul hx hb d_Ra_shownByte_22 ?_
      refine lv_aload_n hx hb d_Ra_shownByte_23 rfl (lv_at hl 0 rfl) ?_
      refine va_get (D := D) (cl := xcl) (ci := 2) (v := .int (iI wd)) (C := R_Ra) (T := T_Ra) (N := 9) hx hb hts i_Ra hown hK hP 0 rfl rfl 5 (by decide) (hts _ kw_101) (fun _ h9 => h9) rfl d_Ra_shownByte_24 ?_
      refine xi_isub hx hb d_Ra_shownByte_27 ?_
      refine lv_goto (tgt := 32) hx hb d_Ra_shownByte_28 (by decide) ?_
      refine lv_istore_n (lv' := [(2, .int (iI ((8 * (i + 1)) - wd))), (0, .ref h), (1, .int (iI i))]) hx hb d_Ra_shownByte_32 rfl hl (by decide) rfl (fun ls hl => ?_)
      refine lv_iload_n hx hb d_Ra_shownByte_33 rfl (lv_at hl 0 rfl) ?_
      refine xi_if_le (tgt := 57) hx hb d_Ra_shownByte_34 (by decide) ⟨by omega, by omega⟩ (fun c_34 => ?_) (fun c_34 => ?_)
      ·
        refine lv_aload_n hx hb d_Ra_shownByte_57 rfl (lv_at hl 1 rfl) ?_
        refine va_get (D := D) (cl := xcl) (ci := 2) (v := .ref a) (C := R_Ra) (T := T_Ra) (N := 9) hx hb hts i_Ra hown hK hP 0 rfl rfl 0 (by decide) (hts _ kw_92) (fun _ h9 => h9) rfl d_Ra_shownByte_58 ?_
        refine lv_iload_n hx hb d_Ra_shownByte_61 rfl (lv_at hl 2 rfl) ?_
        refine xi_iald hx hb hK hP 1 0 rfl rfl (by omega) (by omega) (by omega) d_Ra_shownByte_62 ?_
        exact x_iret hx hb hr hlocks hP hD hS (by decide) (by decide) ⟨(B i.toNat), rfl, rfl, hB _, fun t ht => by rw [← Bool.decide_or, decide_eq_true (show wd = 0 ∨ 8 * i + (t : Int) < wd by omega), Bool.true_and]⟩ d_Ra_shownByte_63
      ·
        refine lv_aload_n hx hb d_Ra_shownByte_37 rfl (lv_at hl 1 rfl) ?_
        refine va_get (D := D) (cl := xcl) (ci := 2) (v := .ref a) (C := R_Ra) (T := T_Ra) (N := 9) hx hb hts i_Ra hown hK hP 0 rfl rfl 0 (by decide) (hts _ kw_92) (fun _ h9 => h9) rfl d_Ra_shownByte_38 ?_
        refine lv_iload_n hx hb d_Ra_shownByte_41 rfl (lv_at hl 2 rfl) ?_
        refine xi_iald hx hb hK hP 1 0 rfl rfl (by omega) (by omega) (by omega) d_Ra_shownByte_42 ?_
        refine xi_sipush hx hb d_Ra_shownByte_43 (by decide) ?_
        refine lv_iload_n hx hb d_Ra_shownByte_46 rfl (lv_at hl 0 rfl) ?_
        refine xi_bipush hx hb d_Ra_shownByte_47 (by decide) ?_
        refine xi_mmin hx hb (hml.trans hl.1.symm) hown hts kw_207 (by decide) (Nat.le_of_ble_eq_true rfl) (by decide) (by decide) ⟨by omega, by omega⟩ ⟨by decide, by decide⟩ d_Ra_shownByte_49 ?_
        refine lv_ishl hx hb d_Ra_shownByte_52 ?_
        obtain ⟨v53, hv53, ev53⟩ := byteN (hB i.toNat)
        obtain ⟨t53, ht53, et53⟩ : ∃ t : Nat, t < 9 ∧ min ((8 * (i + 1)) - wd) 8 = (t : Int) := ⟨(min ((8 * (i + 1)) - wd) 8).toNat, by omega, by omega⟩
        refine xk_iand (v := iI (B i.toNat - B i.toNat % 2 ^ t53)) hx hb d_Ra_shownByte_53 (by rw [et53, ev53]; exact bb_t2 v53 hv53 t53 ht53) ?_
        refine lv_goto (tgt := 63) hx hb d_Ra_shownByte_54 (by decide) ?_
        exact x_iret hx hb hr hlocks hP hD hS (by decide) (by decide) ⟨(B i.toNat - B i.toNat % 2 ^ t53), rfl, rfl, by rw [ev53]; exact bb_cutr v53 hv53 t53 ht53, fun t ht => by rw [ev53, bb_cut v53 hv53 t53 ht53 t ht, show decide (wd = 0) = false from decide_eq_false (by omega), Bool.false_or]; congr 1; exact decide_eq_decide.mpr (by omega)⟩ d_Ra_shownByte_63
  ·
    exact absurd c_5 (by omega)

theorem d_Ra_usedBytes_0 : decode b_Ra_usedBytes 0 = .ok (.aload_n 0, 1) := by decide +kernel
theorem d_Ra_usedBytes_1 : decode b_Ra_usedBytes 1 = .ok (.getfield 35, 3) := by decide +kernel
theorem d_Ra_usedBytes_4 : decode b_Ra_usedBytes 4 = .ok (.istore_n 1, 1) := by decide +kernel
theorem d_Ra_usedBytes_5 : decode b_Ra_usedBytes 5 = .ok (.iload_n 1, 1) := by decide +kernel
theorem d_Ra_usedBytes_6 : decode b_Ra_usedBytes 6 = .ok (.ifCond .le 21, 3) := by decide +kernel
theorem d_Ra_usedBytes_9 : decode b_Ra_usedBytes 9 = .ok (.aload_n 0, 1) := by decide +kernel
theorem d_Ra_usedBytes_10 : decode b_Ra_usedBytes 10 = .ok (.iload_n 1, 1) := by decide +kernel
theorem d_Ra_usedBytes_11 : decode b_Ra_usedBytes 11 = .ok (.iconst 1, 1) := by decide +kernel
theorem d_Ra_usedBytes_12 : decode b_Ra_usedBytes 12 = .ok (.isub, 1) := by decide +kernel
theorem d_Ra_usedBytes_13 : decode b_Ra_usedBytes 13 = .ok (.invokevirtual 64, 3) := by decide +kernel
theorem d_Ra_usedBytes_16 : decode b_Ra_usedBytes 16 = .ok (.ifCond .eq 5, 3) := by decide +kernel
theorem d_Ra_usedBytes_19 : decode b_Ra_usedBytes 19 = .ok (.iload_n 1, 1) := by decide +kernel
theorem d_Ra_usedBytes_20 : decode b_Ra_usedBytes 20 = .ok (.ireturn, 1) := by decide +kernel
theorem d_Ra_usedBytes_21 : decode b_Ra_usedBytes 21 = .ok (.iinc 1 (-1), 3) := by decide +kernel
theorem d_Ra_usedBytes_24 : decode b_Ra_usedBytes 24 = .ok (.goto (-19), 3) := by decide +kernel
theorem d_Ra_usedBytes_27 : decode b_Ra_usedBytes 27 = .ok (.iconst 0, 1) := by decide +kernel
theorem d_Ra_usedBytes_28 : decode b_Ra_usedBytes 28 = .ok (.ireturn, 1) := by decide +kernel
theorem ds_Ra_usedBytes : xDesc y_Ra_usedBytes 0 := by decide +kernel

abbrev rm_Ra_usedBytes : Room := { frames := 2, cells := 0, slots := 0, locals := 43 }
set_option maxHeartbeats 4000000 in
set_option maxRecDepth 100000 in
/-- Raster.usedBytes -/
theorem c_Ra_usedBytes (l : Launch) (D : va_G) (cI cJ cQ : ClassId) (h : Nat) (a : Nat) (B : Nat → Int) (op : Int) (x : Int) (y : Int) (sc : Int) (wd : Int) (ht : Int) (ln : Int) (rw : Int) (hln : 0 ≤ ln ∧ ln ≤ 640) (hB : ∀ j : Nat, 0 ≤ B j ∧ B j < 256) (hwd : 0 ≤ wd ∧ wd ≤ 5119) : xMet l D (xT cI cJ cQ) y_Ra_usedBytes b_Ra_usedBytes 2 (some .int) rm_Ra_usedBytes [.ref h] [(h, .inr (2, [.ref a, .int (iI op), .int (iI x), .int (iI y), .int (iI sc), .int (iI wd), .int (iI ht), .int (iI ln), .int (iI rw)])), (a, .inl (cI, 640, .inl (iA B)))] (fun v ws => ∃ (r : Int), v = some (.int (iI r)) ∧ ws = [(h, .inr (2, [.ref a, .int (iI op), .int (iI x), .int (iI y), .int (iI sc), .int (iI wd), .int (iI ht), .int (iI ln), .int (iI rw)])), (a, .inl (cI, 640, .inl (iA B)))] ∧ (0 ≤ r ∧ r ≤ ln) ∧ (∀ k : Nat, 8 * r ≤ (k : Int) → (k : Int) < 8 * ln → vis B wd k = false) ∧ (0 < r → ∃ k : Nat, 8 * (r - 1) ≤ (k : Int) ∧ (k : Int) < 8 * r ∧ vis B wd k = true)) := by
  refine x_met (by decide) (Nat.le_of_ble_eq_true rfl) ?_
  intro p e s m below meth c hx hb hr hml hts hown hlocks hin hF0 A hA hP hD hK ls hl hS
  have hl : lv_has ls 2 [(0, .ref h)] := hl
  refine lv_aload_n hx hb d_Ra_usedBytes_0 rfl (lv_at hl 0 rfl) ?_
  refine va_get (D := D) (cl := xcl) (ci := 2) (v := .int (iI ln)) (C := R_Ra) (T := T_Ra) (N := 9) hx hb hts i_Ra hown hK hP 0 rfl rfl 7 (by decide) (hts _ kw_103) (fun _ h9 => h9) rfl d_Ra_usedBytes_1 ?_
  refine lv_istore_n (lv' := [(1, .int (iI ln)), (0, .ref h)]) hx hb d_Ra_usedBytes_4 rfl hl (by decide) rfl (fun ls hl => ?_)
  refine x_loop1 (fun (n : Int) H locs ls => (0 ≤ n ∧ n ≤ ln) ∧ (∀ k : Nat, 8 * n ≤ (k : Int) → (k : Int) < 8 * ln → vis B wd k = false) ∧ va_P D xcl [(h, .inr (2, [.ref a, .int (iI op), .int (iI x), .int (iI y), .int (iI sc), .int (iI wd), .int (iI ht), .int (iI ln), .int (iI rw)])), (a, .inl (cI, 640, .inl (iA B)))] H ∧ va_D A [(h, .inr (2, [.ref a, .int (iI op), .int (iI x), .int (iI y), .int (iI sc), .int (iI wd), .int (iI ht), .int (iI ln), .int (iI rw)])), (a, .inl (cI, 640, .inl (iA B)))] ∧ va_S A s.heap H locs ∧ lv_has ls 2 [(1, .int (iI n)), (0, .ref h)]) (fun (n : Int) => n.toNat) ln ⟨by omega, fun k a b => by omega, hP, hD, hS, hl⟩ ?_
  intro n H locs ls hI ih_5
  obtain ⟨k1, k2, hP, hD, hS, hl⟩ := hI
  refine lv_iload_n hx hb d_Ra_usedBytes_5 rfl (lv_at hl 0 rfl) ?_
  refine xi_if_le (tgt := 27) hx hb d_Ra_usedBytes_6 (by decide) ⟨by omega, by omega⟩ (fun c_6 => ?_) (fun c_6 => ?_)
  ·
    refine xi_iconst hx hb d_Ra_usedBytes_27 ?_
    exact x_iret hx hb hr hlocks hP hD hS (by decide) (by decide) ⟨0, rfl, rfl, by omega, fun k a b => k2 k (by omega) b, fun q => by omega⟩ d_Ra_usedBytes_28
  ·
    refine lv_aload_n hx hb d_Ra_usedBytes_9 rfl (lv_at hl 1 rfl) ?_
    refine lv_iload_n hx hb d_Ra_usedBytes_10 rfl (lv_at hl 0 rfl) ?_
    refine xi_iconst hx hb d_Ra_usedBytes_11 ?_
    refine xi_isub hx hb d_Ra_usedBytes_12 ?_
    refine x_aft (x_runV (C := "RasterRows$Raster") (As := [.int (iI (n - 1))]) (rest := []) (ci := 2) (q0 := 0) hx hb hml hown hts (c_Ra_shownByte l D cI cJ cQ h a B op x y sc wd ht ln rw (n - 1) (hln) (hB) (hwd) (by omega)) kw_386 kw_387 kw_388 kw_5 kw_389 ds_Ra_shownByte (by decide) hK (hP.sub (ws' := [(h, .inr (2, [.ref a, .int (iI op), .int (iI x), .int (iI y), .int (iI sc), .int (iI wd), .int (iI ht), .int (iI ln), .int (iI rw)])), (a, .inl (cI, 640, .inl (iA B)))]) [0, 1] rfl) (hD.sub (ws' := [(h, .inr (2, [.ref a, .int (iI op), .int (iI x), .int (iI y), .int (iI sc), .int (iI wd), .int (iI ht), .int (iI ln), .int (iI rw)])), (a, .inl (cI, 640, .inl (iA B)))]) [0, 1] (by decide) rfl) rfl rfl rfl hl.1 rfl (Nat.le_of_ble_eq_true rfl) d_Ra_usedBytes_13) hP hD hS hA [0, 1] [] rfl (wr := []) rfl (by decide) (by decide) (fun v w1 H locs hq hP hD hS => ?_)
    obtain ⟨r_13, rfl, rfl, hr0_13, hrb_13⟩ := hq
    refine W.cs (cells' := 0) (slots' := 0) rfl rfl ?_
    refine W.eq (g2 := F0 m 16 ls [.int (iI r_13)]) rfl ?_
    have hP : va_P D xcl [(h, .inr (2, [.ref a, .int (iI op), .int (iI x), .int (iI y), .int (iI sc), .int (iI wd), .int (iI ht), .int (iI ln), .int (iI rw)])), (a, .inl (cI, 640, .inl (iA B)))] _ := hP
    have hD : va_D A [(h, .inr (2, [.ref a, .int (iI op), .int (iI x), .int (iI y), .int (iI sc), .int (iI wd), .int (iI ht), .int (iI ln), .int (iI rw)])), (a, .inl (cI, 640, .inl (iA B)))] := hD
    refine xi_if_eq (tgt := 21) hx hb d_Ra_usedBytes_16 (by decide) ⟨by omega, by omega⟩ (fun c_16 => ?_) (fun c_16 => ?_)
    ·
      refine xi_iinc (lv' := [(1, .int (iI (n + (-1)))), (0, .ref h)]) hx hb d_Ra_usedBytes_21 hl (k := 0) rfl (by decide) rfl (fun ls hl => ?_)
      refine lv_goto (tgt := 5) hx hb d_Ra_usedBytes_24 (by decide) ?_
      exact ih_5 (n + (-1)) _ _ _ (by omega) ⟨by omega, fun k a b => by
            by_cases q : 8 * n ≤ (k : Int)
            · exact k2 k q b
            · rw [vis_byte (by omega) hrb_13 (by omega) (by omega), c_16]; exact bb_0 _ (Nat.mod_lt _ (by decide)), hP, hD, hS, hl⟩
    ·
      refine lv_iload_n hx hb d_Ra_usedBytes_19 rfl (lv_at hl 0 rfl) ?_
      exact x_iret hx hb hr hlocks hP hD hS (by decide) (by decide) ⟨n, rfl, rfl, by omega, k2, fun _ => by
            obtain ⟨t, ht, hb⟩ := bb_nz hr0_13 c_16
            refine ⟨(8 * (n - 1)).toNat + t, by omega, by omega, ?_⟩
            rw [vis_byte (by omega) hrb_13 (by omega) (by omega), show ((8 * (n - 1)).toNat + t) % 8 = t by omega]
            exact hb⟩ d_Ra_usedBytes_20

theorem d_Ra_drawOn_0 : decode b_Ra_drawOn 0 = .ok (.iconst 0, 1) := by decide +kernel
theorem d_Ra_drawOn_1 : decode b_Ra_drawOn 1 = .ok (.istore_n 2, 1) := by decide +kernel
theorem d_Ra_drawOn_2 : decode b_Ra_drawOn 2 = .ok (.iload_n 2, 1) := by decide +kernel
theorem d_Ra_drawOn_3 : decode b_Ra_drawOn 3 = .ok (.aload_n 0, 1) := by decide +kernel
theorem d_Ra_drawOn_4 : decode b_Ra_drawOn 4 = .ok (.getfield 35, 3) := by decide +kernel
theorem d_Ra_drawOn_7 : decode b_Ra_drawOn 7 = .ok (.if_icmp .ge 71, 3) := by decide +kernel
theorem d_Ra_drawOn_10 : decode b_Ra_drawOn 10 = .ok (.aload_n 0, 1) := by decide +kernel
theorem d_Ra_drawOn_11 : decode b_Ra_drawOn 11 = .ok (.iload_n 2, 1) := by decide +kernel
theorem d_Ra_drawOn_12 : decode b_Ra_drawOn 12 = .ok (.invokevirtual 64, 3) := by decide +kernel
theorem d_Ra_drawOn_15 : decode b_Ra_drawOn 15 = .ok (.istore_n 3, 1) := by decide +kernel
theorem d_Ra_drawOn_16 : decode b_Ra_drawOn 16 = .ok (.iconst 0, 1) := by decide +kernel
theorem d_Ra_drawOn_17 : decode b_Ra_drawOn 17 = .ok (.istore 4, 2) := by decide +kernel
theorem d_Ra_drawOn_19 : decode b_Ra_drawOn 19 = .ok (.iload 4, 2) := by decide +kernel
theorem d_Ra_drawOn_21 : decode b_Ra_drawOn 21 = .ok (.bipush 8, 2) := by decide +kernel
theorem d_Ra_drawOn_23 : decode b_Ra_drawOn 23 = .ok (.if_icmp .ge 49, 3) := by decide +kernel
theorem d_Ra_drawOn_26 : decode b_Ra_drawOn 26 = .ok (.iload_n 3, 1) := by decide +kernel
theorem d_Ra_drawOn_27 : decode b_Ra_drawOn 27 = .ok (.ifCond .eq 45, 3) := by decide +kernel
theorem d_Ra_drawOn_30 : decode b_Ra_drawOn 30 = .ok (.iload_n 3, 1) := by decide +kernel
theorem d_Ra_drawOn_31 : decode b_Ra_drawOn 31 = .ok (.sipush 128, 3) := by decide +kernel
theorem d_Ra_drawOn_34 : decode b_Ra_drawOn 34 = .ok (.iload 4, 2) := by decide +kernel
theorem d_Ra_drawOn_36 : decode b_Ra_drawOn 36 = .ok (.ishr, 1) := by decide +kernel
theorem d_Ra_drawOn_37 : decode b_Ra_drawOn 37 = .ok (.iand, 1) := by decide +kernel
theorem d_Ra_drawOn_38 : decode b_Ra_drawOn 38 = .ok (.ifCond .eq 28, 3) := by decide +kernel
theorem d_Ra_drawOn_41 : decode b_Ra_drawOn 41 = .ok (.aload_n 1, 1) := by decide +kernel
theorem d_Ra_drawOn_42 : decode b_Ra_drawOn 42 = .ok (.aload_n 0, 1) := by decide +kernel
theorem d_Ra_drawOn_43 : decode b_Ra_drawOn 43 = .ok (.getfield 19, 3) := by decide +kernel
theorem d_Ra_drawOn_46 : decode b_Ra_drawOn 46 = .ok (.aload_n 0, 1) := by decide +kernel
theorem d_Ra_drawOn_47 : decode b_Ra_drawOn 47 = .ok (.getfield 26, 3) := by decide +kernel
theorem d_Ra_drawOn_50 : decode b_Ra_drawOn 50 = .ok (.bipush 8, 2) := by decide +kernel
theorem d_Ra_drawOn_52 : decode b_Ra_drawOn 52 = .ok (.iload_n 2, 1) := by decide +kernel
theorem d_Ra_drawOn_53 : decode b_Ra_drawOn 53 = .ok (.imul, 1) := by decide +kernel
theorem d_Ra_drawOn_54 : decode b_Ra_drawOn 54 = .ok (.iload 4, 2) := by decide +kernel
theorem d_Ra_drawOn_56 : decode b_Ra_drawOn 56 = .ok (.iadd, 1) := by decide +kernel
theorem d_Ra_drawOn_57 : decode b_Ra_drawOn 57 = .ok (.imul, 1) := by decide +kernel
theorem d_Ra_drawOn_58 : decode b_Ra_drawOn 58 = .ok (.iadd, 1) := by decide +kernel
theorem d_Ra_drawOn_59 : decode b_Ra_drawOn 59 = .ok (.aload_n 0, 1) := by decide +kernel
theorem d_Ra_drawOn_60 : decode b_Ra_drawOn 60 = .ok (.getfield 26, 3) := by decide +kernel
theorem d_Ra_drawOn_63 : decode b_Ra_drawOn 63 = .ok (.invokevirtual 68, 3) := by decide +kernel
theorem d_Ra_drawOn_66 : decode b_Ra_drawOn 66 = .ok (.iinc 4 1, 3) := by decide +kernel
theorem d_Ra_drawOn_69 : decode b_Ra_drawOn 69 = .ok (.goto (-50), 3) := by decide +kernel
theorem d_Ra_drawOn_72 : decode b_Ra_drawOn 72 = .ok (.iinc 2 1, 3) := by decide +kernel
theorem d_Ra_drawOn_75 : decode b_Ra_drawOn 75 = .ok (.goto (-73), 3) := by decide +kernel
theorem d_Ra_drawOn_78 : decode b_Ra_drawOn 78 = .ok (.return_, 1) := by decide +kernel
theorem ds_Ra_drawOn : xDesc y_Ra_drawOn 1 := by decide +kernel

abbrev rm_Ra_drawOn : Room := { frames := 2, cells := 0, slots := 0, locals := 45 }
set_option maxHeartbeats 4000000 in
set_option maxRecDepth 100000 in
/-- Raster.drawOn -/
theorem c_Ra_drawOn (l : Launch) (D : va_G) (cI cJ cQ : ClassId) (h : Nat) (a : Nat) (B : Nat → Int) (op : Int) (x : Int) (y : Int) (sc : Int) (wd : Int) (ht : Int) (ln : Int) (rw : Int) (h2 : Nat) (dots : Int) (w : Nat) (nw : Nat) (f : Nat → Int64) (hln : 0 ≤ ln ∧ ln ≤ 640) (hB : ∀ j : Nat, 0 ≤ B j ∧ B j < 256) (hwd : 0 ≤ wd ∧ wd ≤ 5119) (hsc : 1 ≤ sc ∧ sc ≤ 4) (hxx : -10000 ≤ x ∧ x ≤ 10000) (hd1 : 1 ≤ dots) (hd2 : dots ≤ 5100) (hnw : (nw : Int) = (dots + 63) / 64) : xMet l D (xT cI cJ cQ) y_Ra_drawOn b_Ra_drawOn 5 none rm_Ra_drawOn [.ref h, .ref h2] [(h, .inr (2, [.ref a, .int (iI op), .int (iI x), .int (iI y), .int (iI sc), .int (iI wd), .int (iI ht), .int (iI ln), .int (iI rw)])), (a, .inl (cI, 640, .inl (iA B))), (h2, .inr (0, [.int (iI dots), .ref w])), (w, .inl (cJ, nw, .inr (.inl f)))] (fun v ws => ∃ (f2 : Nat → Int64), v = none ∧ ws = [(h, .inr (2, [.ref a, .int (iI op), .int (iI x), .int (iI y), .int (iI sc), .int (iI wd), .int (iI ht), .int (iI ln), .int (iI rw)])), (a, .inl (cI, 640, .inl (iA B))), (h2, .inr (0, [.int (iI dots), .ref w])), (w, .inl (cJ, nw, .inr (.inl f2)))] ∧ (∀ y : Nat, dt f2 y = true ↔ drw B wd x sc dots f (8 * ln) y)) := by
  refine x_met (by decide) (Nat.le_of_ble_eq_true rfl) ?_
  intro p e s m below meth c hx hb hr hml hts hown hlocks hin hF0 A hA hP hD hK ls hl hS
  have hl : lv_has ls 5 [(0, .ref h), (1, .ref h2)] := hl
  refine xi_iconst hx hb d_Ra_drawOn_0 ?_
  refine lv_istore_n (lv' := [(2, .int (iI 0)), (0, .ref h), (1, .ref h2)]) hx hb d_Ra_drawOn_1 rfl hl (by decide) rfl (fun ls hl => ?_)
  refine x_loop2 (fun (i : Int) (f2 : Nat → Int64) H locs ls => (0 ≤ i ∧ i ≤ ln) ∧ (∀ y : Nat, dt f2 y = true ↔ drw B wd x sc dots f (8 * i) y) ∧ va_P D xcl [(h, .inr (2, [.ref a, .int (iI op), .int (iI x), .int (iI y), .int (iI sc), .int (iI wd), .int (iI ht), .int (iI ln), .int (iI rw)])), (a, .inl (cI, 640, .inl (iA B))), (h2, .inr (0, [.int (iI dots), .ref w])), (w, .inl (cJ, nw, .inr (.inl f2)))] H ∧ va_D A [(h, .inr (2, [.ref a, .int (iI op), .int (iI x), .int (iI y), .int (iI sc), .int (iI wd), .int (iI ht), .int (iI ln), .int (iI rw)])), (a, .inl (cI, 640, .inl (iA B))), (h2, .inr (0, [.int (iI dots), .ref w])), (w, .inl (cJ, nw, .inr (.inl f2)))] ∧ va_S A s.heap H locs ∧ lv_has ls 5 [(2, .int (iI i)), (0, .ref h), (1, .ref h2)]) (fun (i : Int) (f2 : Nat → Int64) => (ln - i).toNat) 0 f ⟨by omega, fun y => drw_0, hP, hD, hS, hl⟩ ?_
  intro i f2 H locs ls hI ih_2
  obtain ⟨k1, k2, hP, hD, hS, hl⟩ := hI
  refine lv_iload_n hx hb d_Ra_drawOn_2 rfl (lv_at hl 0 rfl) ?_
  refine lv_aload_n hx hb d_Ra_drawOn_3 rfl (lv_at hl 1 rfl) ?_
  refine va_get (D := D) (cl := xcl) (ci := 2) (v := .int (iI ln)) (C := R_Ra) (T := T_Ra) (N := 9) hx hb hts i_Ra hown hK hP 0 rfl rfl 7 (by decide) (hts _ kw_103) (fun _ h9 => h9) rfl d_Ra_drawOn_4 ?_
  refine xi_icmp_ge (tgt := 78) hx hb d_Ra_drawOn_7 (by decide) ⟨by omega, by omega⟩ ⟨by omega, by omega⟩ (fun c_7 => ?_) (fun c_7 => ?_)
  ·
    exact x_vret hx hb hr hlocks hP hD hS (by decide) (by decide) ⟨f2, rfl, rfl, fun y => by rw [k2 y, show i = ln by omega]⟩ d_Ra_drawOn_78
  ·
    refine lv_aload_n hx hb d_Ra_drawOn_10 rfl (lv_at hl 1 rfl) ?_
    refine lv_iload_n hx hb d_Ra_drawOn_11 rfl (lv_at hl 0 rfl) ?_
    refine x_aft (x_runV (C := "RasterRows$Raster") (As := [.int (iI i)]) (rest := []) (ci := 2) (q0 := 0) hx hb hml hown hts (c_Ra_shownByte l D cI cJ cQ h a B op x y sc wd ht ln rw i (hln) (hB) (hwd) (by omega)) kw_386 kw_387 kw_388 kw_5 kw_389 ds_Ra_shownByte (by decide) hK (hP.sub (ws' := [(h, .inr (2, [.ref a, .int (iI op), .int (iI x), .int (iI y), .int (iI sc), .int (iI wd), .int (iI ht), .int (iI ln), .int (iI rw)])), (a, .inl (cI, 640, .inl (iA B)))]) [0, 1] rfl) (hD.sub (ws' := [(h, .inr (2, [.ref a, .int (iI op), .int (iI x), .int (iI y), .int (iI sc), .int (iI wd), .int (iI ht), .int (iI ln), .int (iI rw)])), (a, .inl (cI, 640, .inl (iA B)))]) [0, 1] (by decide) rfl) rfl rfl rfl hl.1 rfl (Nat.le_of_ble_eq_true rfl) d_Ra_drawOn_12) hP hD hS hA [0, 1] [2, 3] rfl (wr := [(h2, .inr (0, [.int (iI dots), .ref w])), (w, .inl (cJ, nw, .inr (.inl f2)))]) rfl (by decide) (by decide) (fun v w1 H locs hq hP hD hS => ?_)
    obtain ⟨r_12, rfl, rfl, hr0_12, hrb_12⟩ := hq
    refine W.cs (cells' := 0) (slots' := 0) rfl rfl ?_
    refine W.eq (g2 := F0 m 15 ls [.int (iI r_12)]) rfl ?_
    have hP : va_P D xcl [(h2, .inr (0, [.int (iI dots), .ref w])), (w, .inl (cJ, nw, .inr (.inl f2))), (h, .inr (2, [.ref a, .int (iI op), .int (iI x), .int (iI y), .int (iI sc), .int (iI wd), .int (iI ht), .int (iI ln), .int (iI rw)])), (a, .inl (cI, 640, .inl (iA B)))] _ := hP
    have hD : va_D A [(h2, .inr (0, [.int (iI dots), .ref w])), (w, .inl (cJ, nw, .inr (.inl f2))), (h, .inr (2, [.ref a, .int (iI op), .int (iI x), .int (iI y), .int (iI sc), .int (iI wd), .int (iI ht), .int (iI ln), .int (iI rw)])), (a, .inl (cI, 640, .inl (iA B)))] := hD
    refine lv_istore_n (lv' := [(3, .int (iI r_12)), (2, .int (iI i)), (0, .ref h), (1, .ref h2)]) hx hb d_Ra_drawOn_15 rfl hl (by decide) rfl (fun ls hl => ?_)
    refine xi_iconst hx hb d_Ra_drawOn_16 ?_
    refine lv_istore (lv' := [(4, .int (iI 0)), (3, .int (iI r_12)), (2, .int (iI i)), (0, .ref h), (1, .ref h2)]) hx hb d_Ra_drawOn_17 hl (by decide) rfl (fun ls hl => ?_)
    refine x_loop2 (fun (b : Int) (f3 : Nat → Int64) H locs ls => (0 ≤ b ∧ b ≤ 8) ∧ (∀ y : Nat, dt f3 y = true ↔ drw B wd x sc dots f (8 * i + b) y) ∧ va_P D xcl [(h, .inr (2, [.ref a, .int (iI op), .int (iI x), .int (iI y), .int (iI sc), .int (iI wd), .int (iI ht), .int (iI ln), .int (iI rw)])), (a, .inl (cI, 640, .inl (iA B))), (h2, .inr (0, [.int (iI dots), .ref w])), (w, .inl (cJ, nw, .inr (.inl f3)))] H ∧ va_D A [(h, .inr (2, [.ref a, .int (iI op), .int (iI x), .int (iI y), .int (iI sc), .int (iI wd), .int (iI ht), .int (iI ln), .int (iI rw)])), (a, .inl (cI, 640, .inl (iA B))), (h2, .inr (0, [.int (iI dots), .ref w])), (w, .inl (cJ, nw, .inr (.inl f3)))] ∧ va_S A s.heap H locs ∧ lv_has ls 5 [(4, .int (iI b)), (3, .int (iI r_12)), (2, .int (iI i)), (0, .ref h), (1, .ref h2)]) (fun (b : Int) (f3 : Nat → Int64) => (8 - b).toNat) 0 f2 ⟨by omega, fun y => by rw [k2 y, show 8 * i + 0 = 8 * i by omega], (hP.sub (ws' := [(h, .inr (2, [.ref a, .int (iI op), .int (iI x), .int (iI y), .int (iI sc), .int (iI wd), .int (iI ht), .int (iI ln), .int (iI rw)])), (a, .inl (cI, 640, .inl (iA B))), (h2, .inr (0, [.int (iI dots), .ref w])), (w, .inl (cJ, nw, .inr (.inl f2)))]) [2, 3, 0, 1] rfl), (hD.sub (ws' := [(h, .inr (2, [.ref a, .int (iI op), .int (iI x), .int (iI y), .int (iI sc), .int (iI wd), .int (iI ht), .int (iI ln), .int (iI rw)])), (a, .inl (cI, 640, .inl (iA B))), (h2, .inr (0, [.int (iI dots), .ref w])), (w, .inl (cJ, nw, .inr (.inl f2)))]) [2, 3, 0, 1] (by decide) rfl), hS, hl⟩ ?_
    intro b f3 H locs ls hI ih_19
    obtain ⟨j1, j2, hP, hD, hS, hl⟩ := hI
    refine lv_iload hx hb d_Ra_drawOn_19 (lv_at hl 0 rfl) ?_
    refine xi_bipush hx hb d_Ra_drawOn_21 (by decide) ?_
    refine xi_icmp_ge (tgt := 72) hx hb d_Ra_drawOn_23 (by decide) ⟨by omega, by omega⟩ ⟨by decide, by decide⟩ (fun c_23 => ?_) (fun c_23 => ?_)
    ·
      refine xi_iinc (lv' := [(2, .int (iI (i + 1))), (4, .int (iI b)), (3, .int (iI r_12)), (0, .ref h), (1, .ref h2)]) hx hb d_Ra_drawOn_72 hl (k := 2) rfl (by decide) rfl (fun ls hl => ?_)
      refine lv_goto (tgt := 2) hx hb d_Ra_drawOn_75 (by decide) ?_
      exact ih_2 (i + 1) f3 _ _ _ (by omega) ⟨by omega, fun y => by
                rw [j2 y]
                exact drw_skip (by omega) (fun k a b => by rw [vis_byte k1.1 hrb_12 (by omega) (by omega)]; first | omega | (rw [c_27]; exact bb_0 _ (Nat.mod_lt _ (by decide)))) y, hP, hD, hS, (lv_sub hl [0, 3, 4] rfl)⟩
    ·
      refine lv_iload_n hx hb d_Ra_drawOn_26 rfl (lv_at hl 1 rfl) ?_
      refine xi_if_eq (tgt := 72) hx hb d_Ra_drawOn_27 (by decide) ⟨by omega, by omega⟩ (fun c_27 => ?_) (fun c_27 => ?_)
      ·
        refine xi_iinc (lv' := [(2, .int (iI (i + 1))), (4, .int (iI b)), (3, .int (iI r_12)), (0, .ref h), (1, .ref h2)]) hx hb d_Ra_drawOn_72 hl (k := 2) rfl (by decide) rfl (fun ls hl => ?_)
        refine lv_goto (tgt := 2) hx hb d_Ra_drawOn_75 (by decide) ?_
        exact ih_2 (i + 1) f3 _ _ _ (by omega) ⟨by omega, fun y => by
                rw [j2 y]
                exact drw_skip (by omega) (fun k a b => by rw [vis_byte k1.1 hrb_12 (by omega) (by omega)]; first | omega | (rw [c_27]; exact bb_0 _ (Nat.mod_lt _ (by decide)))) y, hP, hD, hS, (lv_sub hl [0, 3, 4] rfl)⟩
      ·
        refine lv_iload_n hx hb d_Ra_drawOn_30 rfl (lv_at hl 1 rfl) ?_
        refine xi_sipush hx hb d_Ra_drawOn_31 (by decide) ?_
        refine lv_iload hx hb d_Ra_drawOn_34 (lv_at hl 0 rfl) ?_
        refine lv_ishr hx hb d_Ra_drawOn_36 ?_
        refine lv_iand hx hb d_Ra_drawOn_37 ?_
        refine lv_if_eq (tgt := 66) hx hb d_Ra_drawOn_38 (by decide)  (fun c_38 => ?_) (fun c_38 => ?_)
        ·
          refine xi_iinc (lv' := [(4, .int (iI (b + 1))), (3, .int (iI r_12)), (2, .int (iI i)), (0, .ref h), (1, .ref h2)]) hx hb d_Ra_drawOn_66 hl (k := 0) rfl (by decide) rfl (fun ls hl => ?_)
          refine lv_goto (tgt := 19) hx hb d_Ra_drawOn_69 (by decide) ?_
          exact ih_19 (b + 1) f3 _ _ _ (by omega) ⟨by omega, fun y => by
                  have q38 := bb_and hr0_12 j1.1 c_23
                  rw [show 8 * i + (b + 1) = 8 * i + b + 1 by omega]
                  first
                  | exact (j2 y).trans (drw_skip (by omega) (fun k a bq => by rw [vis_byte k1.1 hrb_12 (by omega) (by omega), show k % 8 = b.toNat by omega]; exact q38.mp c_38) y)
                  | exact drw_add (by omega) (by rw [vis_byte k1.1 hrb_12 (by omega) (by omega), show (8 * i + b).toNat % 8 = b.toNat by omega]; exact (Bool.not_eq_false _).mp (fun z => c_38 (q38.mpr z))) (j2 y) (hf_63 y), hP, hD, hS, hl⟩
        ·
          refine lv_aload_n hx hb d_Ra_drawOn_41 rfl (lv_at hl 4 rfl) ?_
          refine lv_aload_n hx hb d_Ra_drawOn_42 rfl (lv_at hl 3 rfl) ?_
          refine va_get (D := D) (cl := xcl) (ci := 2) (v := .int (iI x)) (C := R_Ra) (T := T_Ra) (N := 9) hx hb hts i_Ra hown hK hP 0 rfl rfl 2 (by decide) (hts _ kw_96) (fun _ h9 => h9) rfl d_Ra_drawOn_43 ?_
          refine lv_aload_n hx hb d_Ra_drawOn_46 rfl (lv_at hl 3 rfl) ?_
          refine va_get (D := D) (cl := xcl) (ci := 2) (v := .int (iI sc)) (C := R_Ra) (T := T_Ra) (N := 9) hx hb hts i_Ra hown hK hP 0 rfl rfl 4 (by decide) (hts _ kw_98) (fun _ h9 => h9) rfl d_Ra_drawOn_47 ?_
          refine xi_bipush hx hb d_Ra_drawOn_50 (by decide) ?_
          refine lv_iload_n hx hb d_Ra_drawOn_52 rfl (lv_at hl 2 rfl) ?_
          refine xi_imul hx hb d_Ra_drawOn_53 ?_
          refine lv_iload hx hb d_Ra_drawOn_54 (lv_at hl 0 rfl) ?_
          refine xi_iadd hx hb d_Ra_drawOn_56 ?_
          refine xi_imul hx hb d_Ra_drawOn_57 ?_
          refine xi_iadd hx hb d_Ra_drawOn_58 ?_
          refine lv_aload_n hx hb d_Ra_drawOn_59 rfl (lv_at hl 3 rfl) ?_
          refine va_get (D := D) (cl := xcl) (ci := 2) (v := .int (iI sc)) (C := R_Ra) (T := T_Ra) (N := 9) hx hb hts i_Ra hown hK hP 0 rfl rfl 4 (by decide) (hts _ kw_98) (fun _ h9 => h9) rfl d_Ra_drawOn_60 ?_
          have m63 := mulB (a := sc) (b := 8 * i + b) (A := 4) (B := 5120) (by omega) (by omega) (by omega) (by omega)
          refine x_aft (x_runV (C := "RasterRows$Line") (As := [.int (iI (x + (sc * ((8 * i) + b)))), .int (iI sc)]) (rest := []) (ci := 0) (q0 := 0) hx hb hml hown hts (c_Ln_blacken l D cI cJ cQ h2 dots w nw f3 (x + (sc * ((8 * i) + b))) sc (by omega) (by omega) (by omega) (by omega) (by omega) (by omega) (by omega)) kw_399 kw_400 kw_401 kw_4 kw_402 ds_Ln_blacken (by decide) hK (hP.sub (ws' := [(h2, .inr (0, [.int (iI dots), .ref w])), (w, .inl (cJ, nw, .inr (.inl f3)))]) [2, 3] rfl) (hD.sub (ws' := [(h2, .inr (0, [.int (iI dots), .ref w])), (w, .inl (cJ, nw, .inr (.inl f3)))]) [2, 3] (by decide) rfl) rfl rfl rfl hl.1 rfl (Nat.le_of_ble_eq_true rfl) d_Ra_drawOn_63) hP hD hS hA [2, 3] [0, 1] rfl (wr := [(h, .inr (2, [.ref a, .int (iI op), .int (iI x), .int (iI y), .int (iI sc), .int (iI wd), .int (iI ht), .int (iI ln), .int (iI rw)])), (a, .inl (cI, 640, .inl (iA B)))]) rfl (by decide) (by decide) (fun v w1 H locs hq hP hD hS => ?_)
          obtain ⟨f2_63, rfl, rfl, hf_63⟩ := hq
          refine W.cs (cells' := 0) (slots' := 0) rfl rfl ?_
          refine W.eq (g2 := F0 m 66 ls []) rfl ?_
          have hP : va_P D xcl [(h, .inr (2, [.ref a, .int (iI op), .int (iI x), .int (iI y), .int (iI sc), .int (iI wd), .int (iI ht), .int (iI ln), .int (iI rw)])), (a, .inl (cI, 640, .inl (iA B))), (h2, .inr (0, [.int (iI dots), .ref w])), (w, .inl (cJ, nw, .inr (.inl f2_63)))] _ := hP
          have hD : va_D A [(h, .inr (2, [.ref a, .int (iI op), .int (iI x), .int (iI y), .int (iI sc), .int (iI wd), .int (iI ht), .int (iI ln), .int (iI rw)])), (a, .inl (cI, 640, .inl (iA B))), (h2, .inr (0, [.int (iI dots), .ref w])), (w, .inl (cJ, nw, .inr (.inl f2_63)))] := hD
          refine xi_iinc (lv' := [(4, .int (iI (b + 1))), (3, .int (iI r_12)), (2, .int (iI i)), (0, .ref h), (1, .ref h2)]) hx hb d_Ra_drawOn_66 hl (k := 0) rfl (by decide) rfl (fun ls hl => ?_)
          refine lv_goto (tgt := 19) hx hb d_Ra_drawOn_69 (by decide) ?_
          exact ih_19 (b + 1) f2_63 _ _ _ (by omega) ⟨by omega, fun y => by
                  have q38 := bb_and hr0_12 j1.1 c_23
                  rw [show 8 * i + (b + 1) = 8 * i + b + 1 by omega]
                  first
                  | exact (j2 y).trans (drw_skip (by omega) (fun k a bq => by rw [vis_byte k1.1 hrb_12 (by omega) (by omega), show k % 8 = b.toNat by omega]; exact q38.mp c_38) y)
                  | exact drw_add (by omega) (by rw [vis_byte k1.1 hrb_12 (by omega) (by omega), show (8 * i + b).toNat % 8 = b.toNat by omega]; exact (Bool.not_eq_false _).mp (fun z => c_38 (q38.mpr z))) (j2 y) (hf_63 y), hP, hD, hS, hl⟩
