theorem d_RR_shut_0 : decode b_RR_shut 0 = .ok (.aload_n 0, 1) := by decide +kernel
theorem d_RR_shut_1 : decode b_RR_shut 1 = .ok (.getfield 25, 3) := by decide +kernel
theorem d_RR_shut_4 : decode b_RR_shut 4 = .ok (.getfield 48, 3) := by decide +kernel
theorem d_RR_shut_7 : decode b_RR_shut 7 = .ok (.ifCond .ne 13, 3) := by decide +kernel
theorem d_RR_shut_10 : decode b_RR_shut 10 = .ok (.new 77, 3) := by decide +kernel
theorem d_RR_shut_13 : decode b_RR_shut 13 = .ok (.dup, 1) := by decide +kernel
theorem d_RR_shut_14 : decode b_RR_shut 14 = .ok (.ldc 79, 2) := by decide +kernel
theorem d_RR_shut_16 : decode b_RR_shut 16 = .ok (.invokespecial 81, 3) := by decide +kernel
theorem d_RR_shut_19 : decode b_RR_shut 19 = .ok (.athrow, 1) := by decide +kernel
theorem d_RR_shut_20 : decode b_RR_shut 20 = .ok (.aload_n 0, 1) := by decide +kernel
theorem d_RR_shut_21 : decode b_RR_shut 21 = .ok (.getfield 25, 3) := by decide +kernel
theorem d_RR_shut_24 : decode b_RR_shut 24 = .ok (.invokevirtual 113, 3) := by decide +kernel
theorem d_RR_shut_27 : decode b_RR_shut 27 = .ok (.aload_n 0, 1) := by decide +kernel
theorem d_RR_shut_28 : decode b_RR_shut 28 = .ok (.iconst 0, 1) := by decide +kernel
theorem d_RR_shut_29 : decode b_RR_shut 29 = .ok (.putfield 39, 3) := by decide +kernel
theorem d_RR_shut_32 : decode b_RR_shut 32 = .ok (.aload_n 0, 1) := by decide +kernel
theorem d_RR_shut_33 : decode b_RR_shut 33 = .ok (.getfield 25, 3) := by decide +kernel
theorem d_RR_shut_36 : decode b_RR_shut 36 = .ok (.invokevirtual 116, 3) := by decide +kernel
theorem d_RR_shut_39 : decode b_RR_shut 39 = .ok (.ireturn, 1) := by decide +kernel
theorem ds_RR_shut : xDesc y_RR_shut 0 := by decide +kernel

abbrev rm_RR_shut : Room := { frames := 1, cells := 0, slots := 0, locals := 20 }
set_option maxHeartbeats 4000000 in
set_option maxRecDepth 100000 in
/-- shut, a raster open -/
theorem c_RR_shut (l : Launch) (D : va_G) (cI cJ cQ : ClassId) (o : Nat) (dp : Int) (rs : Int) (mt : Int) (nW : Int) (nH : Int) (hs : Nat) (h : Nat) (gp : Nat) (a : Nat) (B : Nat → Int) (op : Int) (x : Int) (y : Int) (sc : Int) (wd : Int) (ht : Int) (ln : Int) (rw : Int) (hop : op = 1) (hh : 0 ≤ ht ∧ ht ≤ 5119) : xMet l D (xT cI cJ cQ) y_RR_shut b_RR_shut 1 (some .int) rm_RR_shut [.ref o] [(o, .inr (4, [.int (iI dp), .ref hs, .ref h, .ref gp, .int (iI rs), .int (iI mt), .int (iI nW), .int (iI nH)])), (h, .inr (2, [.ref a, .int (iI op), .int (iI x), .int (iI y), .int (iI sc), .int (iI wd), .int (iI ht), .int (iI ln), .int (iI rw)])), (a, .inl (cI, 640, .inl (iA B)))] (fun v ws => ∃ (w2 : Int), v = some (.int (iI (y + sc * w2))) ∧ ws = [(o, .inr (4, [.int (iI dp), .ref hs, .ref h, .ref gp, .int (iI rs), .int (iI 0), .int (iI nW), .int (iI nH)])), (h, .inr (2, [.ref a, .int (iI 0), .int (iI x), .int (iI y), .int (iI sc), .int (iI wd), .int (iI ht), .int (iI ln), .int (iI w2)])), (a, .inl (cI, 640, .inl (iA B)))] ∧ ((0 < ht ∧ w2 = ht) ∨ (ht = 0 ∧ w2 = rw))) := by
  refine x_met (by decide) (Nat.le_of_ble_eq_true rfl) ?_
  intro p e s m below meth c hx hb hr hml hts hown hlocks hin hF0 A hA hP hD hK ls hl hS
  have hl : lv_has ls 1 [(0, .ref o)] := hl
  refine lv_aload_n hx hb d_RR_shut_0 rfl (lv_at hl 0 rfl) ?_
  refine va_get (D := D) (cl := xcl) (ci := 4) (v := .ref h) (C := R_RR) (T := T_RR) (N := 8) hx hb hts i_RR hown hK hP 0 rfl rfl 2 (by decide) (hts _ kw_143) (fun _ h9 => h9) rfl d_RR_shut_1 ?_
  refine va_get (D := D) (cl := xcl) (ci := 2) (v := .int (iI op)) (C := R_Ra) (T := T_Ra) (N := 9) hx hb hts i_Ra hown hK hP 1 rfl rfl 1 (by decide) (hts _ kw_95) (fun _ h9 => h9) rfl d_RR_shut_4 ?_
  refine xi_if_ne (tgt := 20) hx hb d_RR_shut_7 (by decide) ⟨by omega, by omega⟩ (fun c_7 => ?_) (fun c_7 => ?_)
  ·
    refine lv_aload_n hx hb d_RR_shut_20 rfl (lv_at hl 0 rfl) ?_
    refine va_get (D := D) (cl := xcl) (ci := 4) (v := .ref h) (C := R_RR) (T := T_RR) (N := 8) hx hb hts i_RR hown hK hP 0 rfl rfl 2 (by decide) (hts _ kw_143) (fun _ h9 => h9) rfl d_RR_shut_21 ?_
    refine x_aft (x_runV (C := "RasterRows$Raster") (As := []) (rest := []) (ci := 2) (q0 := 0) hx hb hml hown hts (c_Ra_end l D cI cJ cQ h a B op x y sc wd ht ln rw (hh)) kw_463 kw_464 kw_465 kw_5 kw_466 ds_Ra_end (by decide) hK (hP.sub (ws' := [(h, .inr (2, [.ref a, .int (iI op), .int (iI x), .int (iI y), .int (iI sc), .int (iI wd), .int (iI ht), .int (iI ln), .int (iI rw)])), (a, .inl (cI, 640, .inl (iA B)))]) [1, 2] rfl) (hD.sub (ws' := [(h, .inr (2, [.ref a, .int (iI op), .int (iI x), .int (iI y), .int (iI sc), .int (iI wd), .int (iI ht), .int (iI ln), .int (iI rw)])), (a, .inl (cI, 640, .inl (iA B)))]) [1, 2] (by decide) rfl) rfl rfl rfl hl.1 rfl (Nat.le_of_ble_eq_true rfl) d_RR_shut_24) hP hD hS hA [1, 2] [0] rfl (wr := [(o, .inr (4, [.int (iI dp), .ref hs, .ref h, .ref gp, .int (iI rs), .int (iI mt), .int (iI nW), .int (iI nH)]))]) rfl (by decide) (by decide) (fun v w1 H locs hq hP hD hS => ?_)
    obtain ⟨r2_24, rfl, rfl, hr2_24⟩ := hq
    refine W.cs (cells' := 0) (slots' := 0) rfl rfl ?_
    refine W.eq (g2 := F0 m 27 ls []) rfl ?_
    have hP : va_P D xcl [(o, .inr (4, [.int (iI dp), .ref hs, .ref h, .ref gp, .int (iI rs), .int (iI mt), .int (iI nW), .int (iI nH)])), (h, .inr (2, [.ref a, .int (iI 0), .int (iI x), .int (iI y), .int (iI sc), .int (iI wd), .int (iI ht), .int (iI ln), .int (iI r2_24)])), (a, .inl (cI, 640, .inl (iA B)))] _ := hP
    have hD : va_D A [(o, .inr (4, [.int (iI dp), .ref hs, .ref h, .ref gp, .int (iI rs), .int (iI mt), .int (iI nW), .int (iI nH)])), (h, .inr (2, [.ref a, .int (iI 0), .int (iI x), .int (iI y), .int (iI sc), .int (iI wd), .int (iI ht), .int (iI ln), .int (iI r2_24)])), (a, .inl (cI, 640, .inl (iA B)))] := hD
    refine lv_aload_n hx hb d_RR_shut_27 rfl (lv_at hl 0 rfl) ?_
    refine xi_iconst hx hb d_RR_shut_28 ?_
    refine va_put (D := D) (cl := xcl) (ci := 4) (v := .int (iI 0)) (ty := .int) (C := R_RR) (T := T_RR) (N := 8) hx hb hts i_RR ty_RR ty_RR_ok nm_RR hown hK hP hD hS 0 rfl rfl 5 (by decide) (hts _ kw_146) (fun _ h9 => h9) rfl (by decide +kernel) rfl rfl (Nat.le_of_ble_eq_true rfl) d_RR_shut_29 (fun H locs hP hD hS => ?_)
    have hP : va_P D xcl [(o, .inr (4, [.int (iI dp), .ref hs, .ref h, .ref gp, .int (iI rs), .int (iI 0), .int (iI nW), .int (iI nH)])), (h, .inr (2, [.ref a, .int (iI 0), .int (iI x), .int (iI y), .int (iI sc), .int (iI wd), .int (iI ht), .int (iI ln), .int (iI r2_24)])), (a, .inl (cI, 640, .inl (iA B)))] _ := hP
    have hD : va_D A [(o, .inr (4, [.int (iI dp), .ref hs, .ref h, .ref gp, .int (iI rs), .int (iI 0), .int (iI nW), .int (iI nH)])), (h, .inr (2, [.ref a, .int (iI 0), .int (iI x), .int (iI y), .int (iI sc), .int (iI wd), .int (iI ht), .int (iI ln), .int (iI r2_24)])), (a, .inl (cI, 640, .inl (iA B)))] := hD
    refine lv_aload_n hx hb d_RR_shut_32 rfl (lv_at hl 0 rfl) ?_
    refine va_get (D := D) (cl := xcl) (ci := 4) (v := .ref h) (C := R_RR) (T := T_RR) (N := 8) hx hb hts i_RR hown hK hP 0 rfl rfl 2 (by decide) (hts _ kw_143) (fun _ h9 => h9) rfl d_RR_shut_33 ?_
    refine x_aft (x_runV (C := "RasterRows$Raster") (As := []) (rest := []) (ci := 2) (q0 := 0) hx hb hml hown hts (c_Ra_top l D cI cJ cQ h a B 0 x y sc wd ht ln r2_24 ) kw_467 kw_408 kw_409 kw_5 kw_410 ds_Ra_top (by decide) hK (hP.sub (ws' := [(h, .inr (2, [.ref a, .int (iI 0), .int (iI x), .int (iI y), .int (iI sc), .int (iI wd), .int (iI ht), .int (iI ln), .int (iI r2_24)])), (a, .inl (cI, 640, .inl (iA B)))]) [1, 2] rfl) (hD.sub (ws' := [(h, .inr (2, [.ref a, .int (iI 0), .int (iI x), .int (iI y), .int (iI sc), .int (iI wd), .int (iI ht), .int (iI ln), .int (iI r2_24)])), (a, .inl (cI, 640, .inl (iA B)))]) [1, 2] (by decide) rfl) rfl rfl rfl hl.1 rfl (Nat.le_of_ble_eq_true rfl) d_RR_shut_36) hP hD hS hA [1, 2] [0] rfl (wr := [(o, .inr (4, [.int (iI dp), .ref hs, .ref h, .ref gp, .int (iI rs), .int (iI 0), .int (iI nW), .int (iI nH)]))]) rfl (by decide) (by decide) (fun v w1 H locs hq hP hD hS => ?_)
    obtain ⟨rfl, rfl⟩ := hq
    refine W.cs (cells' := 0) (slots' := 0) rfl rfl ?_
    refine W.eq (g2 := F0 m 39 ls [.int (iI (y + sc * r2_24))]) rfl ?_
    have hP : va_P D xcl [(o, .inr (4, [.int (iI dp), .ref hs, .ref h, .ref gp, .int (iI rs), .int (iI 0), .int (iI nW), .int (iI nH)])), (h, .inr (2, [.ref a, .int (iI 0), .int (iI x), .int (iI y), .int (iI sc), .int (iI wd), .int (iI ht), .int (iI ln), .int (iI r2_24)])), (a, .inl (cI, 640, .inl (iA B)))] _ := hP
    have hD : va_D A [(o, .inr (4, [.int (iI dp), .ref hs, .ref h, .ref gp, .int (iI rs), .int (iI 0), .int (iI nW), .int (iI nH)])), (h, .inr (2, [.ref a, .int (iI 0), .int (iI x), .int (iI y), .int (iI sc), .int (iI wd), .int (iI ht), .int (iI ln), .int (iI r2_24)])), (a, .inl (cI, 640, .inl (iA B)))] := hD
    exact x_iret hx hb hr hlocks hP hD hS (by decide) (by decide) ⟨r2_24, rfl, rfl, hr2_24⟩ d_RR_shut_39
  ·
    exact absurd c_7 (by omega)

theorem d_RR_skip_0 : decode b_RR_skip 0 = .ok (.iload_n 1, 1) := by decide +kernel
theorem d_RR_skip_1 : decode b_RR_skip 1 = .ok (.ifCond .lt 10, 3) := by decide +kernel
theorem d_RR_skip_4 : decode b_RR_skip 4 = .ok (.iload_n 1, 1) := by decide +kernel
theorem d_RR_skip_5 : decode b_RR_skip 5 = .ok (.sipush 10000, 3) := by decide +kernel
theorem d_RR_skip_8 : decode b_RR_skip 8 = .ok (.if_icmp .le 13, 3) := by decide +kernel
theorem d_RR_skip_11 : decode b_RR_skip 11 = .ok (.new 102, 3) := by decide +kernel
theorem d_RR_skip_14 : decode b_RR_skip 14 = .ok (.dup, 1) := by decide +kernel
theorem d_RR_skip_15 : decode b_RR_skip 15 = .ok (.ldc 104, 2) := by decide +kernel
theorem d_RR_skip_17 : decode b_RR_skip 17 = .ok (.invokespecial 106, 3) := by decide +kernel
theorem d_RR_skip_20 : decode b_RR_skip 20 = .ok (.athrow, 1) := by decide +kernel
theorem d_RR_skip_21 : decode b_RR_skip 21 = .ok (.aload_n 0, 1) := by decide +kernel
theorem d_RR_skip_22 : decode b_RR_skip 22 = .ok (.getfield 25, 3) := by decide +kernel
theorem d_RR_skip_25 : decode b_RR_skip 25 = .ok (.getfield 48, 3) := by decide +kernel
theorem d_RR_skip_28 : decode b_RR_skip 28 = .ok (.ifCond .ne 13, 3) := by decide +kernel
theorem d_RR_skip_31 : decode b_RR_skip 31 = .ok (.new 77, 3) := by decide +kernel
theorem d_RR_skip_34 : decode b_RR_skip 34 = .ok (.dup, 1) := by decide +kernel
theorem d_RR_skip_35 : decode b_RR_skip 35 = .ok (.ldc 79, 2) := by decide +kernel
theorem d_RR_skip_37 : decode b_RR_skip 37 = .ok (.invokespecial 81, 3) := by decide +kernel
theorem d_RR_skip_40 : decode b_RR_skip 40 = .ok (.athrow, 1) := by decide +kernel
theorem d_RR_skip_41 : decode b_RR_skip 41 = .ok (.aload_n 0, 1) := by decide +kernel
theorem d_RR_skip_42 : decode b_RR_skip 42 = .ok (.getfield 25, 3) := by decide +kernel
theorem d_RR_skip_45 : decode b_RR_skip 45 = .ok (.iload_n 1, 1) := by decide +kernel
theorem d_RR_skip_46 : decode b_RR_skip 46 = .ok (.invokevirtual 107, 3) := by decide +kernel
theorem d_RR_skip_49 : decode b_RR_skip 49 = .ok (.aload_n 0, 1) := by decide +kernel
theorem d_RR_skip_50 : decode b_RR_skip 50 = .ok (.getfield 25, 3) := by decide +kernel
theorem d_RR_skip_53 : decode b_RR_skip 53 = .ok (.invokevirtual 110, 3) := by decide +kernel
theorem d_RR_skip_56 : decode b_RR_skip 56 = .ok (.aload_n 0, 1) := by decide +kernel
theorem d_RR_skip_57 : decode b_RR_skip 57 = .ok (.getfield 25, 3) := by decide +kernel
theorem d_RR_skip_60 : decode b_RR_skip 60 = .ok (.getfield 88, 3) := by decide +kernel
theorem d_RR_skip_63 : decode b_RR_skip 63 = .ok (.ireturn, 1) := by decide +kernel
theorem ds_RR_skip : xDesc y_RR_skip 1 := by decide +kernel

abbrev rm_RR_skip : Room := { frames := 2, cells := 0, slots := 0, locals := 43 }
set_option maxHeartbeats 4000000 in
set_option maxRecDepth 100000 in
/-- skip, a raster open and n good -/
theorem c_RR_skip (l : Launch) (D : va_G) (cI cJ cQ : ClassId) (o : Nat) (dp : Int) (rs : Int) (mt : Int) (nW : Int) (nH : Int) (hs : Nat) (h : Nat) (gp : Nat) (a : Nat) (B : Nat → Int) (op : Int) (x : Int) (y : Int) (sc : Int) (wd : Int) (ht : Int) (ln : Int) (rw : Int) (n : Int) (hop : op = 1) (hh : 0 ≤ ht ∧ ht ≤ 5119) (hrw : 0 ≤ rw ∧ rw ≤ 1000000000) (hn : 0 ≤ n ∧ n ≤ 10000) : xMet l D (xT cI cJ cQ) y_RR_skip b_RR_skip 2 (some .int) rm_RR_skip [.ref o, .int (iI n)] [(o, .inr (4, [.int (iI dp), .ref hs, .ref h, .ref gp, .int (iI rs), .int (iI mt), .int (iI nW), .int (iI nH)])), (h, .inr (2, [.ref a, .int (iI op), .int (iI x), .int (iI y), .int (iI sc), .int (iI wd), .int (iI ht), .int (iI ln), .int (iI rw)])), (a, .inl (cI, 640, .inl (iA B)))] (fun v ws => ∃ (w2 : Int), v = some (.int (iI w2)) ∧ ws = [(o, .inr (4, [.int (iI dp), .ref hs, .ref h, .ref gp, .int (iI rs), .int (iI mt), .int (iI nW), .int (iI nH)])), (h, .inr (2, [.ref a, .int (iI op), .int (iI x), .int (iI y), .int (iI sc), .int (iI wd), .int (iI ht), .int (iI ln), .int (iI w2)])), (a, .inl (cI, 640, .inl (iA (fun _ => 0))))] ∧ ((0 < ht ∧ w2 = min (rw + n) ht) ∨ (ht = 0 ∧ w2 = rw + n))) := by
  refine x_met (by decide) (Nat.le_of_ble_eq_true rfl) ?_
  intro p e s m below meth c hx hb hr hml hts hown hlocks hin hF0 A hA hP hD hK ls hl hS
  have hl : lv_has ls 2 [(0, .ref o), (1, .int (iI n))] := hl
  refine lv_iload_n hx hb d_RR_skip_0 rfl (lv_at hl 1 rfl) ?_
  refine xi_if_lt (tgt := 11) hx hb d_RR_skip_1 (by decide) ⟨by omega, by omega⟩ (fun c_1 => ?_) (fun c_1 => ?_)
  ·
    exact absurd c_1 (by omega)
  ·
    refine lv_iload_n hx hb d_RR_skip_4 rfl (lv_at hl 1 rfl) ?_
    refine xi_sipush hx hb d_RR_skip_5 (by decide) ?_
    refine xi_icmp_le (tgt := 21) hx hb d_RR_skip_8 (by decide) ⟨by omega, by omega⟩ ⟨by decide, by decide⟩ (fun c_8 => ?_) (fun c_8 => ?_)
    ·
      refine lv_aload_n hx hb d_RR_skip_21 rfl (lv_at hl 0 rfl) ?_
      refine va_get (D := D) (cl := xcl) (ci := 4) (v := .ref h) (C := R_RR) (T := T_RR) (N := 8) hx hb hts i_RR hown hK hP 0 rfl rfl 2 (by decide) (hts _ kw_143) (fun _ h9 => h9) rfl d_RR_skip_22 ?_
      refine va_get (D := D) (cl := xcl) (ci := 2) (v := .int (iI op)) (C := R_Ra) (T := T_Ra) (N := 9) hx hb hts i_Ra hown hK hP 1 rfl rfl 1 (by decide) (hts _ kw_95) (fun _ h9 => h9) rfl d_RR_skip_25 ?_
      refine xi_if_ne (tgt := 41) hx hb d_RR_skip_28 (by decide) ⟨by omega, by omega⟩ (fun c_28 => ?_) (fun c_28 => ?_)
      ·
        refine lv_aload_n hx hb d_RR_skip_41 rfl (lv_at hl 0 rfl) ?_
        refine va_get (D := D) (cl := xcl) (ci := 4) (v := .ref h) (C := R_RR) (T := T_RR) (N := 8) hx hb hts i_RR hown hK hP 0 rfl rfl 2 (by decide) (hts _ kw_143) (fun _ h9 => h9) rfl d_RR_skip_42 ?_
        refine lv_iload_n hx hb d_RR_skip_45 rfl (lv_at hl 1 rfl) ?_
        refine x_aft (x_runV (C := "RasterRows$Raster") (As := [.int (iI n)]) (rest := []) (ci := 2) (q0 := 0) hx hb hml hown hts (c_Ra_pass l D cI cJ cQ h a B op x y sc wd ht ln rw n (hh) (hrw) (hn)) kw_451 kw_452 kw_453 kw_5 kw_454 ds_Ra_pass (by decide) hK (hP.sub (ws' := [(h, .inr (2, [.ref a, .int (iI op), .int (iI x), .int (iI y), .int (iI sc), .int (iI wd), .int (iI ht), .int (iI ln), .int (iI rw)])), (a, .inl (cI, 640, .inl (iA B)))]) [1, 2] rfl) (hD.sub (ws' := [(h, .inr (2, [.ref a, .int (iI op), .int (iI x), .int (iI y), .int (iI sc), .int (iI wd), .int (iI ht), .int (iI ln), .int (iI rw)])), (a, .inl (cI, 640, .inl (iA B)))]) [1, 2] (by decide) rfl) rfl rfl rfl hl.1 rfl (Nat.le_of_ble_eq_true rfl) d_RR_skip_46) hP hD hS hA [1, 2] [0] rfl (wr := [(o, .inr (4, [.int (iI dp), .ref hs, .ref h, .ref gp, .int (iI rs), .int (iI mt), .int (iI nW), .int (iI nH)]))]) rfl (by decide) (by decide) (fun v w1 H locs hq hP hD hS => ?_)
        obtain ⟨r2_46, rfl, rfl, hr2_46⟩ := hq
        refine W.cs (cells' := 0) (slots' := 0) rfl rfl ?_
        refine W.eq (g2 := F0 m 49 ls []) rfl ?_
        have hP : va_P D xcl [(o, .inr (4, [.int (iI dp), .ref hs, .ref h, .ref gp, .int (iI rs), .int (iI mt), .int (iI nW), .int (iI nH)])), (h, .inr (2, [.ref a, .int (iI op), .int (iI x), .int (iI y), .int (iI sc), .int (iI wd), .int (iI ht), .int (iI ln), .int (iI r2_46)])), (a, .inl (cI, 640, .inl (iA B)))] _ := hP
        have hD : va_D A [(o, .inr (4, [.int (iI dp), .ref hs, .ref h, .ref gp, .int (iI rs), .int (iI mt), .int (iI nW), .int (iI nH)])), (h, .inr (2, [.ref a, .int (iI op), .int (iI x), .int (iI y), .int (iI sc), .int (iI wd), .int (iI ht), .int (iI ln), .int (iI r2_46)])), (a, .inl (cI, 640, .inl (iA B)))] := hD
        refine lv_aload_n hx hb d_RR_skip_49 rfl (lv_at hl 0 rfl) ?_
        refine va_get (D := D) (cl := xcl) (ci := 4) (v := .ref h) (C := R_RR) (T := T_RR) (N := 8) hx hb hts i_RR hown hK hP 0 rfl rfl 2 (by decide) (hts _ kw_143) (fun _ h9 => h9) rfl d_RR_skip_50 ?_
        refine x_aft (x_runV (C := "RasterRows$Raster") (As := []) (rest := []) (ci := 2) (q0 := 0) hx hb hml hown hts (c_Ra_clearSeed l D cI cJ cQ h a B op x y sc wd ht ln r2_46 ) kw_455 kw_197 kw_198 kw_5 kw_199 ds_Ra_clearSeed (by decide) hK (hP.sub (ws' := [(h, .inr (2, [.ref a, .int (iI op), .int (iI x), .int (iI y), .int (iI sc), .int (iI wd), .int (iI ht), .int (iI ln), .int (iI r2_46)])), (a, .inl (cI, 640, .inl (iA B)))]) [1, 2] rfl) (hD.sub (ws' := [(h, .inr (2, [.ref a, .int (iI op), .int (iI x), .int (iI y), .int (iI sc), .int (iI wd), .int (iI ht), .int (iI ln), .int (iI r2_46)])), (a, .inl (cI, 640, .inl (iA B)))]) [1, 2] (by decide) rfl) rfl rfl rfl hl.1 rfl (Nat.le_of_ble_eq_true rfl) d_RR_skip_53) hP hD hS hA [1, 2] [0] rfl (wr := [(o, .inr (4, [.int (iI dp), .ref hs, .ref h, .ref gp, .int (iI rs), .int (iI mt), .int (iI nW), .int (iI nH)]))]) rfl (by decide) (by decide) (fun v w1 H locs hq hP hD hS => ?_)
        obtain ⟨rfl, rfl⟩ := hq
        refine W.cs (cells' := 0) (slots' := 0) rfl rfl ?_
        refine W.eq (g2 := F0 m 56 ls []) rfl ?_
        have hP : va_P D xcl [(o, .inr (4, [.int (iI dp), .ref hs, .ref h, .ref gp, .int (iI rs), .int (iI mt), .int (iI nW), .int (iI nH)])), (h, .inr (2, [.ref a, .int (iI op), .int (iI x), .int (iI y), .int (iI sc), .int (iI wd), .int (iI ht), .int (iI ln), .int (iI r2_46)])), (a, .inl (cI, 640, .inl (iA (fun _ => 0))))] _ := hP
        have hD : va_D A [(o, .inr (4, [.int (iI dp), .ref hs, .ref h, .ref gp, .int (iI rs), .int (iI mt), .int (iI nW), .int (iI nH)])), (h, .inr (2, [.ref a, .int (iI op), .int (iI x), .int (iI y), .int (iI sc), .int (iI wd), .int (iI ht), .int (iI ln), .int (iI r2_46)])), (a, .inl (cI, 640, .inl (iA (fun _ => 0))))] := hD
        refine lv_aload_n hx hb d_RR_skip_56 rfl (lv_at hl 0 rfl) ?_
        refine va_get (D := D) (cl := xcl) (ci := 4) (v := .ref h) (C := R_RR) (T := T_RR) (N := 8) hx hb hts i_RR hown hK hP 0 rfl rfl 2 (by decide) (hts _ kw_143) (fun _ h9 => h9) rfl d_RR_skip_57 ?_
        refine va_get (D := D) (cl := xcl) (ci := 2) (v := .int (iI r2_46)) (C := R_Ra) (T := T_Ra) (N := 9) hx hb hts i_Ra hown hK hP 1 rfl rfl 8 (by decide) (hts _ kw_106) (fun _ h9 => h9) rfl d_RR_skip_60 ?_
        exact x_iret hx hb hr hlocks hP hD hS (by decide) (by decide) ⟨r2_46, rfl, rfl, hr2_46⟩ d_RR_skip_63
      ·
        exact absurd c_28 (by omega)
    ·
      exact absurd c_8 (by omega)

theorem d_RR_black_0 : decode b_RR_black 0 = .ok (.aload_n 0, 1) := by decide +kernel
theorem d_RR_black_1 : decode b_RR_black 1 = .ok (.getfield 18, 3) := by decide +kernel
theorem d_RR_black_4 : decode b_RR_black 4 = .ok (.iload_n 1, 1) := by decide +kernel
theorem d_RR_black_5 : decode b_RR_black 5 = .ok (.iload_n 2, 1) := by decide +kernel
theorem d_RR_black_6 : decode b_RR_black 6 = .ok (.invokevirtual 126, 3) := by decide +kernel
theorem d_RR_black_9 : decode b_RR_black 9 = .ok (.ifCond .ne 13, 3) := by decide +kernel
theorem d_RR_black_12 : decode b_RR_black 12 = .ok (.new 130, 3) := by decide +kernel
theorem d_RR_black_15 : decode b_RR_black 15 = .ok (.dup, 1) := by decide +kernel
theorem d_RR_black_16 : decode b_RR_black 16 = .ok (.ldc 132, 2) := by decide +kernel
theorem d_RR_black_18 : decode b_RR_black 18 = .ok (.invokespecial 134, 3) := by decide +kernel
theorem d_RR_black_21 : decode b_RR_black 21 = .ok (.athrow, 1) := by decide +kernel
theorem d_RR_black_22 : decode b_RR_black 22 = .ok (.aload_n 0, 1) := by decide +kernel
theorem d_RR_black_23 : decode b_RR_black 23 = .ok (.getfield 18, 3) := by decide +kernel
theorem d_RR_black_26 : decode b_RR_black 26 = .ok (.iload_n 2, 1) := by decide +kernel
theorem d_RR_black_27 : decode b_RR_black 27 = .ok (.iload_n 1, 1) := by decide +kernel
theorem d_RR_black_28 : decode b_RR_black 28 = .ok (.bipush 6, 2) := by decide +kernel
theorem d_RR_black_30 : decode b_RR_black 30 = .ok (.ishr, 1) := by decide +kernel
theorem d_RR_black_31 : decode b_RR_black 31 = .ok (.invokevirtual 122, 3) := by decide +kernel
theorem d_RR_black_34 : decode b_RR_black 34 = .ok (.iload_n 1, 1) := by decide +kernel
theorem d_RR_black_35 : decode b_RR_black 35 = .ok (.invokestatic 135, 3) := by decide +kernel
theorem d_RR_black_38 : decode b_RR_black 38 = .ok (.land, 1) := by decide +kernel
theorem d_RR_black_39 : decode b_RR_black 39 = .ok (.lconst 0, 1) := by decide +kernel
theorem d_RR_black_40 : decode b_RR_black 40 = .ok (.lcmp, 1) := by decide +kernel
theorem d_RR_black_41 : decode b_RR_black 41 = .ok (.ifCond .eq 7, 3) := by decide +kernel
theorem d_RR_black_44 : decode b_RR_black 44 = .ok (.iconst 1, 1) := by decide +kernel
theorem d_RR_black_45 : decode b_RR_black 45 = .ok (.goto 4, 3) := by decide +kernel
theorem d_RR_black_48 : decode b_RR_black 48 = .ok (.iconst 0, 1) := by decide +kernel
theorem d_RR_black_49 : decode b_RR_black 49 = .ok (.ireturn, 1) := by decide +kernel
theorem ds_RR_black : xDesc y_RR_black 2 := by decide +kernel

abbrev rm_RR_black : Room := { frames := 2, cells := 0, slots := 0, locals := 44 }
set_option maxHeartbeats 4000000 in
set_option maxRecDepth 100000 in
/-- black, a dot of the sheet -/
theorem c_RR_black (l : Launch) (D : va_G) (cI cJ cQ : ClassId) (o : Nat) (dp : Int) (rs : Int) (mt : Int) (nW : Int) (nH : Int) (h : Nat) (gp : Nat) (hs : Nat) (la : Nat) (st : Nat) (sw : Nat) (ac : Int) (dI : Int) (dn : Nat) (nw : Nat) (g : Nat → Option Nat) (sf : Nat → Int64) (kr : Int) (kb : Int) (ov : Int) (bd : Int) (pl : va_W) (Wd : Nat → Nat → Int64) (xx : Int) (yy : Int) (hac : 1 ≤ ac ∧ ac ≤ 5100) (hdn : dI = (dn : Int) ∧ dn ≤ 5100) (hnw : (nw : Int) = (ac + 63) / 64) (hL : LOK cJ ac nw dn g pl Wd) (hx_ : 0 ≤ xx ∧ xx < ac) (hy_ : 0 ≤ yy ∧ yy < dI) : xMet l D (xT cI cJ cQ) y_RR_black b_RR_black 3 (some .boolean) rm_RR_black [.ref o, .int (iI xx), .int (iI yy)] ([(o, .inr (4, [.int (iI dp), .ref hs, .ref h, .ref gp, .int (iI rs), .int (iI mt), .int (iI nW), .int (iI nH)])), (hs, .inr (3, [.int (iI ac), .int (iI dI), .ref la, .ref st, .int (iI kr), .int (iI kb), .int (iI ov), .int (iI bd)])), (la, .inl (cQ, dn, .inr (.inr (.inr (.inr g))))), (st, .inr (0, [.int (iI ac), .ref sw])), (sw, .inl (cJ, nw, .inr (.inl sf)))] ++ pl) (fun v ws => ∃ (r : Int) (pl2 : va_W), v = some (.int (iI r)) ∧ ws = ([(o, .inr (4, [.int (iI dp), .ref hs, .ref h, .ref gp, .int (iI rs), .int (iI mt), .int (iI nW), .int (iI nH)])), (hs, .inr (3, [.int (iI ac), .int (iI dI), .ref la, .ref st, .int (iI kr), .int (iI kb), .int (iI ov), .int (iI bd)])), (la, .inl (cQ, dn, .inr (.inr (.inr (.inr g))))), (st, .inr (0, [.int (iI ac), .ref sw])), (sw, .inl (cJ, nw, .inr (.inl sf)))] ++ pl2) ∧ ((r = 1 ∧ dt (Wd yy.toNat) xx.toNat = true) ∨ (r = 0 ∧ dt (Wd yy.toNat) xx.toNat = false)) ∧ (LOK cJ ac nw dn g pl2 Wd)) := by
  refine x_met (by decide) (Nat.le_of_ble_eq_true rfl) ?_
  intro p e s m below meth c hx hb hr hml hts hown hlocks hin hF0 A hA hP hD hK ls hl hS
  have hl : lv_has ls 3 [(0, .ref o), (1, .int (iI xx)), (2, .int (iI yy))] := hl
  refine lv_aload_n hx hb d_RR_black_0 rfl (lv_at hl 0 rfl) ?_
  refine va_get (D := D) (cl := xcl) (ci := 4) (v := .ref hs) (C := R_RR) (T := T_RR) (N := 8) hx hb hts i_RR hown hK hP 0 rfl rfl 1 (by decide) (hts _ kw_142) (fun _ h9 => h9) rfl d_RR_black_1 ?_
  refine lv_iload_n hx hb d_RR_black_4 rfl (lv_at hl 1 rfl) ?_
  refine lv_iload_n hx hb d_RR_black_5 rfl (lv_at hl 2 rfl) ?_
  refine x_aftQ (X := [(o, .inr (4, [.int (iI dp), .ref hs, .ref h, .ref gp, .int (iI rs), .int (iI mt), .int (iI nW), .int (iI nH)])), (hs, .inr (3, [.int (iI ac), .int (iI dI), .ref la, .ref st, .int (iI kr), .int (iI kb), .int (iI ov), .int (iI bd)])), (la, .inl (cQ, dn, .inr (.inr (.inr (.inr g))))), (st, .inr (0, [.int (iI ac), .ref sw])), (sw, .inl (cJ, nw, .inr (.inl sf)))]) (pl := pl) (x_runV (C := "RasterRows$Sheet") (As := [.int (iI xx), .int (iI yy)]) (rest := []) (ci := 3) (q0 := 0) hx hb hml hown hts (c_Sh_has l D cI cJ cQ hs la st sw ac dI dn nw g sf kr kb ov bd xx yy (hac) (hdn) (⟨by omega, by omega⟩) (⟨by omega, by omega⟩)) kw_476 kw_477 kw_478 kw_2 kw_479 ds_Sh_has (by decide) hK (hP.sub (ws' := [(hs, .inr (3, [.int (iI ac), .int (iI dI), .ref la, .ref st, .int (iI kr), .int (iI kb), .int (iI ov), .int (iI bd)])), (la, .inl (cQ, dn, .inr (.inr (.inr (.inr g))))), (st, .inr (0, [.int (iI ac), .ref sw])), (sw, .inl (cJ, nw, .inr (.inl sf)))]) [1, 2, 3, 4] rfl) (hD.sub (ws' := [(hs, .inr (3, [.int (iI ac), .int (iI dI), .ref la, .ref st, .int (iI kr), .int (iI kb), .int (iI ov), .int (iI bd)])), (la, .inl (cQ, dn, .inr (.inr (.inr (.inr g))))), (st, .inr (0, [.int (iI ac), .ref sw])), (sw, .inl (cJ, nw, .inr (.inl sf)))]) [1, 2, 3, 4] (by decide) rfl) rfl rfl rfl hl.1 rfl (Nat.le_of_ble_eq_true rfl) d_RR_black_6) hP hD hS hA [1, 2, 3, 4] [0] rfl rfl (wr := [(o, .inr (4, [.int (iI dp), .ref hs, .ref h, .ref gp, .int (iI rs), .int (iI mt), .int (iI nW), .int (iI nH)]))]) rfl (by decide) (by decide) (fun v w1 H locs hq hP hD hS => ?_)
  obtain ⟨r_6, rfl, rfl, hr_6⟩ := hq
  refine W.cs (cells' := 0) (slots' := 0) rfl rfl ?_
  refine W.eq (g2 := F0 m 9 ls [.int (iI r_6)]) rfl ?_
  have hP : va_P D xcl ([(o, .inr (4, [.int (iI dp), .ref hs, .ref h, .ref gp, .int (iI rs), .int (iI mt), .int (iI nW), .int (iI nH)])), (hs, .inr (3, [.int (iI ac), .int (iI dI), .ref la, .ref st, .int (iI kr), .int (iI kb), .int (iI ov), .int (iI bd)])), (la, .inl (cQ, dn, .inr (.inr (.inr (.inr g))))), (st, .inr (0, [.int (iI ac), .ref sw])), (sw, .inl (cJ, nw, .inr (.inl sf)))] ++ pl) _ := hP
  have hD : va_D A ([(o, .inr (4, [.int (iI dp), .ref hs, .ref h, .ref gp, .int (iI rs), .int (iI mt), .int (iI nW), .int (iI nH)])), (hs, .inr (3, [.int (iI ac), .int (iI dI), .ref la, .ref st, .int (iI kr), .int (iI kb), .int (iI ov), .int (iI bd)])), (la, .inl (cQ, dn, .inr (.inr (.inr (.inr g))))), (st, .inr (0, [.int (iI ac), .ref sw])), (sw, .inl (cJ, nw, .inr (.inl sf)))] ++ pl) := hD
  refine xi_if_ne (tgt := 22) hx hb d_RR_black_9 (by decide) ⟨by omega, by omega⟩ (fun c_9 => ?_) (fun c_9 => ?_)
  ·
    refine lv_aload_n hx hb d_RR_black_22 rfl (lv_at hl 0 rfl) ?_
    refine va_get (D := D) (cl := xcl) (ci := 4) (v := .ref hs) (C := R_RR) (T := T_RR) (N := 8) hx hb hts i_RR hown hK hP 0 rfl rfl 1 (by decide) (hts _ kw_142) (fun _ h9 => h9) rfl d_RR_black_23 ?_
    refine lv_iload_n hx hb d_RR_black_26 rfl (lv_at hl 2 rfl) ?_
    refine lv_iload_n hx hb d_RR_black_27 rfl (lv_at hl 1 rfl) ?_
    refine xi_bipush hx hb d_RR_black_28 (by decide) ?_
    refine xk_ishr (v := iI (xx / 64)) hx hb d_RR_black_30 (iI_shr6 ⟨by omega, by omega⟩) ?_
    refine x_aftP (X := [(o, .inr (4, [.int (iI dp), .ref hs, .ref h, .ref gp, .int (iI rs), .int (iI mt), .int (iI nW), .int (iI nH)])), (hs, .inr (3, [.int (iI ac), .int (iI dI), .ref la, .ref st, .int (iI kr), .int (iI kb), .int (iI ov), .int (iI bd)])), (la, .inl (cQ, dn, .inr (.inr (.inr (.inr g))))), (st, .inr (0, [.int (iI ac), .ref sw])), (sw, .inl (cJ, nw, .inr (.inl sf)))]) (pl := pl) (cx := [(hs, .inr (3, [.int (iI ac), .int (iI dI), .ref la, .ref st, .int (iI kr), .int (iI kb), .int (iI ov), .int (iI bd)])), (la, .inl (cQ, dn, .inr (.inr (.inr (.inr g))))), (st, .inr (0, [.int (iI ac), .ref sw])), (sw, .inl (cJ, nw, .inr (.inl sf)))]) (x_runV (C := "RasterRows$Sheet") (As := [.int (iI yy), .int (iI (xx / 64))]) (rest := []) (ci := 3) (q0 := 0) hx hb hml hown hts (c_Sh_wordOf l D cI cJ cQ hs la st sw ac dI dn nw g sf kr kb ov bd pl Wd yy (xx / 64) (hac) (hdn) (hnw) (hL) (⟨by omega, by omega⟩) (⟨by omega, by omega⟩)) kw_239 kw_240 kw_241 kw_2 kw_242 ds_Sh_wordOf (by decide) hK (hP.part (cx := [(hs, .inr (3, [.int (iI ac), .int (iI dI), .ref la, .ref st, .int (iI kr), .int (iI kb), .int (iI ov), .int (iI bd)])), (la, .inl (cQ, dn, .inr (.inr (.inr (.inr g))))), (st, .inr (0, [.int (iI ac), .ref sw])), (sw, .inl (cJ, nw, .inr (.inl sf)))]) [1, 2, 3, 4] rfl) (hD.part (cx := [(hs, .inr (3, [.int (iI ac), .int (iI dI), .ref la, .ref st, .int (iI kr), .int (iI kb), .int (iI ov), .int (iI bd)])), (la, .inl (cQ, dn, .inr (.inr (.inr (.inr g))))), (st, .inr (0, [.int (iI ac), .ref sw])), (sw, .inl (cJ, nw, .inr (.inl sf)))]) [1, 2, 3, 4] (by decide) rfl) rfl rfl rfl hl.1 rfl (Nat.le_of_ble_eq_true rfl) d_RR_black_31) hP hD hS hA [1, 2, 3, 4] [0] rfl (wr := [(o, .inr (4, [.int (iI dp), .ref hs, .ref h, .ref gp, .int (iI rs), .int (iI mt), .int (iI nW), .int (iI nH)]))]) rfl (by decide) (by decide) (fun v w1 H locs hq hPD hS => ?_)
    obtain ⟨r_31, pl2_31, rfl, hw1, hr1_31, hr2_31, hL2_31⟩ := hq
    obtain ⟨hP, hD⟩ := hPD [(hs, .inr (3, [.int (iI ac), .int (iI dI), .ref la, .ref st, .int (iI kr), .int (iI kb), .int (iI ov), .int (iI bd)])), (la, .inl (cQ, dn, .inr (.inr (.inr (.inr g))))), (st, .inr (0, [.int (iI ac), .ref sw])), (sw, .inl (cJ, nw, .inr (.inl sf)))] pl2_31 hw1
    refine W.cs (cells' := 0) (slots' := 0) rfl rfl ?_
    refine W.eq (g2 := F0 m 34 ls [.long r_31]) rfl ?_
    have hP : va_P D xcl ([(o, .inr (4, [.int (iI dp), .ref hs, .ref h, .ref gp, .int (iI rs), .int (iI mt), .int (iI nW), .int (iI nH)])), (hs, .inr (3, [.int (iI ac), .int (iI dI), .ref la, .ref st, .int (iI kr), .int (iI kb), .int (iI ov), .int (iI bd)])), (la, .inl (cQ, dn, .inr (.inr (.inr (.inr g))))), (st, .inr (0, [.int (iI ac), .ref sw])), (sw, .inl (cJ, nw, .inr (.inl sf)))] ++ pl2_31) _ := hP
    have hD : va_D A ([(o, .inr (4, [.int (iI dp), .ref hs, .ref h, .ref gp, .int (iI rs), .int (iI mt), .int (iI nW), .int (iI nH)])), (hs, .inr (3, [.int (iI ac), .int (iI dI), .ref la, .ref st, .int (iI kr), .int (iI kb), .int (iI ov), .int (iI bd)])), (la, .inl (cQ, dn, .inr (.inr (.inr (.inr g))))), (st, .inr (0, [.int (iI ac), .ref sw])), (sw, .inl (cJ, nw, .inr (.inl sf)))] ++ pl2_31) := hD
    refine lv_iload_n hx hb d_RR_black_34 rfl (lv_at hl 1 rfl) ?_
    refine x_aftQ (X := [(o, .inr (4, [.int (iI dp), .ref hs, .ref h, .ref gp, .int (iI rs), .int (iI mt), .int (iI nW), .int (iI nH)])), (hs, .inr (3, [.int (iI ac), .int (iI dI), .ref la, .ref st, .int (iI kr), .int (iI kb), .int (iI ov), .int (iI bd)])), (la, .inl (cQ, dn, .inr (.inr (.inr (.inr g))))), (st, .inr (0, [.int (iI ac), .ref sw])), (sw, .inl (cJ, nw, .inr (.inl sf)))]) (pl := pl2_31) (x_runS (As := [.int (iI xx)]) (rest := [.long r_31]) hx hb hml hown hts (c_Ln_bitOf l D cI cJ cQ xx ) kw_496 kw_405 kw_4 kw_406 ds_Ln_bitOf (by decide) hK (hP.sub (ws' := []) [] rfl) (hD.sub (ws' := []) [] (by decide) rfl) hl.1 rfl (Nat.le_of_ble_eq_true rfl) d_RR_black_35) hP hD hS hA [] [0, 1, 2, 3, 4] rfl rfl (wr := [(o, .inr (4, [.int (iI dp), .ref hs, .ref h, .ref gp, .int (iI rs), .int (iI mt), .int (iI nW), .int (iI nH)])), (hs, .inr (3, [.int (iI ac), .int (iI dI), .ref la, .ref st, .int (iI kr), .int (iI kb), .int (iI ov), .int (iI bd)])), (la, .inl (cQ, dn, .inr (.inr (.inr (.inr g))))), (st, .inr (0, [.int (iI ac), .ref sw])), (sw, .inl (cJ, nw, .inr (.inl sf)))]) rfl (by decide) (by decide) (fun v w1 H locs hq hP hD hS => ?_)
    obtain ⟨rfl, rfl⟩ := hq
    refine W.cs (cells' := 0) (slots' := 0) rfl rfl ?_
    refine W.eq (g2 := F0 m 38 ls [.long (bW (63 - xx % 64).toNat), .long r_31]) rfl ?_
    have hP : va_P D xcl ([(o, .inr (4, [.int (iI dp), .ref hs, .ref h, .ref gp, .int (iI rs), .int (iI mt), .int (iI nW), .int (iI nH)])), (hs, .inr (3, [.int (iI ac), .int (iI dI), .ref la, .ref st, .int (iI kr), .int (iI kb), .int (iI ov), .int (iI bd)])), (la, .inl (cQ, dn, .inr (.inr (.inr (.inr g))))), (st, .inr (0, [.int (iI ac), .ref sw])), (sw, .inl (cJ, nw, .inr (.inl sf)))] ++ pl2_31) _ := hP
    have hD : va_D A ([(o, .inr (4, [.int (iI dp), .ref hs, .ref h, .ref gp, .int (iI rs), .int (iI mt), .int (iI nW), .int (iI nH)])), (hs, .inr (3, [.int (iI ac), .int (iI dI), .ref la, .ref st, .int (iI kr), .int (iI kb), .int (iI ov), .int (iI bd)])), (la, .inl (cQ, dn, .inr (.inr (.inr (.inr g))))), (st, .inr (0, [.int (iI ac), .ref sw])), (sw, .inl (cJ, nw, .inr (.inl sf)))] ++ pl2_31) := hD
    refine lv_land hx hb d_RR_black_38 ?_
    refine lv_lconst (v := 0) hx hb d_RR_black_39 (by decide) ?_
    refine W.lcmp hx hb d_RR_black_40 ?_
    refine lv_if_eq (tgt := 48) hx hb d_RR_black_41 (by decide)  (fun c_41 => ?_) (fun c_41 => ?_)
    ·
      refine xi_iconst hx hb d_RR_black_48 ?_
      have e9 : dt (Wd yy.toNat) xx.toNat = tb (r_31) (63 - xx % 64).toNat := by rw [hr1_31 (by omega) (by omega) (by omega) (by omega)]; unfold dt; rw [show xx.toNat / 64 = (xx / 64).toNat by omega, show 63 - xx.toNat % 64 = (63 - xx % 64).toNat by omega]
      exact x_zret hx hb hr hlocks hP hD hS (by decide) (by decide) rfl ⟨0, pl2_31, rfl, rfl, Or.inr ⟨rfl, by rw [e9]; exact (bW_and (by omega)).mp (lgc0.mp c_41)⟩, hL2_31⟩ d_RR_black_49
    ·
      refine xi_iconst hx hb d_RR_black_44 ?_
      refine lv_goto (tgt := 49) hx hb d_RR_black_45 (by decide) ?_
      have e9 : dt (Wd yy.toNat) xx.toNat = tb (r_31) (63 - xx % 64).toNat := by rw [hr1_31 (by omega) (by omega) (by omega) (by omega)]; unfold dt; rw [show xx.toNat / 64 = (xx / 64).toNat by omega, show 63 - xx.toNat % 64 = (63 - xx % 64).toNat by omega]
      exact x_zret hx hb hr hlocks hP hD hS (by decide) (by decide) rfl ⟨1, pl2_31, rfl, rfl, Or.inl ⟨rfl, by rw [e9]; exact (Bool.not_eq_false _).mp (fun z => c_41 (lgc0.mpr ((bW_and (by omega)).mpr z)))⟩, hL2_31⟩ d_RR_black_49
  ·
    exact absurd c_9 (by omega)

theorem d_RR_row_0 : decode b_RR_row 0 = .ok (.aload_n 0, 1) := by decide +kernel
theorem d_RR_row_1 : decode b_RR_row 1 = .ok (.getfield 25, 3) := by decide +kernel
theorem d_RR_row_4 : decode b_RR_row 4 = .ok (.getfield 48, 3) := by decide +kernel
theorem d_RR_row_7 : decode b_RR_row 7 = .ok (.ifCond .ne 13, 3) := by decide +kernel
theorem d_RR_row_10 : decode b_RR_row 10 = .ok (.new 77, 3) := by decide +kernel
theorem d_RR_row_13 : decode b_RR_row 13 = .ok (.dup, 1) := by decide +kernel
theorem d_RR_row_14 : decode b_RR_row 14 = .ok (.ldc 79, 2) := by decide +kernel
theorem d_RR_row_16 : decode b_RR_row 16 = .ok (.invokespecial 81, 3) := by decide +kernel
theorem d_RR_row_19 : decode b_RR_row 19 = .ok (.athrow, 1) := by decide +kernel
theorem d_RR_row_20 : decode b_RR_row 20 = .ok (.iconst (-1), 1) := by decide +kernel
theorem d_RR_row_21 : decode b_RR_row 21 = .ok (.istore_n 1, 1) := by decide +kernel
theorem d_RR_row_22 : decode b_RR_row 22 = .ok (.aload_n 0, 1) := by decide +kernel
theorem d_RR_row_23 : decode b_RR_row 23 = .ok (.getfield 25, 3) := by decide +kernel
theorem d_RR_row_26 : decode b_RR_row 26 = .ok (.invokevirtual 84, 3) := by decide +kernel
theorem d_RR_row_29 : decode b_RR_row 29 = .ok (.ifCond .ne 50, 3) := by decide +kernel
theorem d_RR_row_32 : decode b_RR_row 32 = .ok (.aload_n 0, 1) := by decide +kernel
theorem d_RR_row_33 : decode b_RR_row 33 = .ok (.getfield 25, 3) := by decide +kernel
theorem d_RR_row_36 : decode b_RR_row 36 = .ok (.getfield 88, 3) := by decide +kernel
theorem d_RR_row_39 : decode b_RR_row 39 = .ok (.istore_n 1, 1) := by decide +kernel
theorem d_RR_row_40 : decode b_RR_row 40 = .ok (.aload_n 0, 1) := by decide +kernel
theorem d_RR_row_41 : decode b_RR_row 41 = .ok (.getfield 32, 3) := by decide +kernel
theorem d_RR_row_44 : decode b_RR_row 44 = .ok (.aload_n 0, 1) := by decide +kernel
theorem d_RR_row_45 : decode b_RR_row 45 = .ok (.getfield 39, 3) := by decide +kernel
theorem d_RR_row_48 : decode b_RR_row 48 = .ok (.aload_n 0, 1) := by decide +kernel
theorem d_RR_row_49 : decode b_RR_row 49 = .ok (.getfield 25, 3) := by decide +kernel
theorem d_RR_row_52 : decode b_RR_row 52 = .ok (.invokevirtual 91, 3) := by decide +kernel
theorem d_RR_row_55 : decode b_RR_row 55 = .ok (.aload_n 0, 1) := by decide +kernel
theorem d_RR_row_56 : decode b_RR_row 56 = .ok (.getfield 18, 3) := by decide +kernel
theorem d_RR_row_59 : decode b_RR_row 59 = .ok (.aload_n 0, 1) := by decide +kernel
theorem d_RR_row_60 : decode b_RR_row 60 = .ok (.getfield 25, 3) := by decide +kernel
theorem d_RR_row_63 : decode b_RR_row 63 = .ok (.invokevirtual 95, 3) := by decide +kernel
theorem d_RR_row_66 : decode b_RR_row 66 = .ok (.aload_n 0, 1) := by decide +kernel
theorem d_RR_row_67 : decode b_RR_row 67 = .ok (.getfield 25, 3) := by decide +kernel
theorem d_RR_row_70 : decode b_RR_row 70 = .ok (.dup, 1) := by decide +kernel
theorem d_RR_row_71 : decode b_RR_row 71 = .ok (.getfield 88, 3) := by decide +kernel
theorem d_RR_row_74 : decode b_RR_row 74 = .ok (.iconst 1, 1) := by decide +kernel
theorem d_RR_row_75 : decode b_RR_row 75 = .ok (.iadd, 1) := by decide +kernel
theorem d_RR_row_76 : decode b_RR_row 76 = .ok (.putfield 88, 3) := by decide +kernel
theorem d_RR_row_79 : decode b_RR_row 79 = .ok (.aload_n 0, 1) := by decide +kernel
theorem d_RR_row_80 : decode b_RR_row 80 = .ok (.getfield 32, 3) := by decide +kernel
theorem d_RR_row_83 : decode b_RR_row 83 = .ok (.iconst 0, 1) := by decide +kernel
theorem d_RR_row_84 : decode b_RR_row 84 = .ok (.putfield 99, 3) := by decide +kernel
theorem d_RR_row_87 : decode b_RR_row 87 = .ok (.iload_n 1, 1) := by decide +kernel
theorem d_RR_row_88 : decode b_RR_row 88 = .ok (.ireturn, 1) := by decide +kernel
theorem ds_RR_row : xDesc y_RR_row 0 := by decide +kernel

abbrev rm_RR_row : Room := { frames := 5, cells := 8, slots := 328, locals := 116 }
set_option maxHeartbeats 4000000 in
set_option maxRecDepth 100000 in
/-- row, a raster open -/
theorem c_RR_row (l : Launch) (D : va_G) (cI cJ cQ : ClassId) (o : Nat) (dp : Int) (rs : Int) (mt : Int) (nW : Int) (nH : Int) (hs : Nat) (h : Nat) (gp : Nat) (la : Nat) (st : Nat) (sw : Nat) (ac : Int) (dI : Int) (dn : Nat) (nw : Nat) (g : Nat → Option Nat) (sf : Nat → Int64) (kr : Int) (kb : Int) (ov : Int) (bd : Int) (pl : va_W) (Wd : Nat → Nat → Int64) (a : Nat) (B : Nat → Int) (op : Int) (x : Int) (y : Int) (sc : Int) (wd : Int) (ht : Int) (ln : Int) (rw : Int) (bp : Nat) (P : Nat → Int) (ct : Int) (hop : op = 1) (hmt : 0 ≤ mt ∧ mt ≤ 3) (hct : 0 ≤ ct ∧ ct ≤ 4096) (hPb : ∀ j : Nat, 0 ≤ P j ∧ P j < 256) (hac : 1 ≤ ac ∧ ac ≤ 5100) (hdn : dI = (dn : Int) ∧ dn ≤ 5100) (hnw : (nw : Int) = (ac + 63) / 64) (hL : LOK cJ ac nw dn g pl Wd) (hln : 0 ≤ ln ∧ ln ≤ 640) (hB : ∀ j : Nat, 0 ≤ B j ∧ B j < 256) (hwd : 0 ≤ wd ∧ wd ≤ 5119) (hsc : 1 ≤ sc ∧ sc ≤ 4) (hxx : -10000 ≤ x ∧ x ≤ 10000) (hyy : -10000 ≤ y ∧ y ≤ 10000) (hrw : 0 ≤ rw ∧ rw ≤ 100000000) (hh : 0 ≤ ht ∧ ht ≤ 5119) (hkr : 0 ≤ kr ∧ kr ≤ 4096) (hkb : 0 ≤ kb ∧ kb ≤ 65536) : xMet l D (xT cI cJ cQ) y_RR_row b_RR_row 2 (some .int) rm_RR_row [.ref o] ([(o, .inr (4, [.int (iI dp), .ref hs, .ref h, .ref gp, .int (iI rs), .int (iI mt), .int (iI nW), .int (iI nH)])), (hs, .inr (3, [.int (iI ac), .int (iI dI), .ref la, .ref st, .int (iI kr), .int (iI kb), .int (iI ov), .int (iI bd)])), (la, .inl (cQ, dn, .inr (.inr (.inr (.inr g))))), (st, .inr (0, [.int (iI ac), .ref sw])), (sw, .inl (cJ, nw, .inr (.inl sf))), (h, .inr (2, [.ref a, .int (iI op), .int (iI x), .int (iI y), .int (iI sc), .int (iI wd), .int (iI ht), .int (iI ln), .int (iI rw)])), (a, .inl (cI, 640, .inl (iA B))), (gp, .inr (1, [.ref bp, .int (iI ct)])), (bp, .inl (cI, 4096, .inl (iA P)))] ++ pl) (fun v ws => ∃ (r : Int) (B2 : Nat → Int) (w2 : Int) (sf2 : Nat → Int64) (g2 : Nat → Option Nat) (pl2 : va_W) (bd2 : Int) (kr2 : Int) (kb2 : Int) (ov2 : Int) (u : Int) (Wd2 : Nat → Nat → Int64), v = some (.int (iI r)) ∧ ws = ([(o, .inr (4, [.int (iI dp), .ref hs, .ref h, .ref gp, .int (iI rs), .int (iI mt), .int (iI nW), .int (iI nH)])), (hs, .inr (3, [.int (iI ac), .int (iI dI), .ref la, .ref st, .int (iI kr2), .int (iI kb2), .int (iI ov2), .int (iI bd2)])), (la, .inl (cQ, dn, .inr (.inr (.inr (.inr g2))))), (st, .inr (0, [.int (iI ac), .ref sw])), (sw, .inl (cJ, nw, .inr (.inl sf2))), (h, .inr (2, [.ref a, .int (iI op), .int (iI x), .int (iI y), .int (iI sc), .int (iI wd), .int (iI ht), .int (iI ln), .int (iI w2)])), (a, .inl (cI, 640, .inl (iA B2))), (gp, .inr (1, [.ref bp, .int (iI 0)])), (bp, .inl (cI, 4096, .inl (iA P)))] ++ pl2) ∧ (LOK cJ ac nw dn g2 pl2 Wd2) ∧ ((0 < ht ∧ ht ≤ rw ∧ r = -1 ∧ B2 = B ∧ w2 = rw ∧ kr2 = kr ∧ kb2 = kb ∧ ov2 = ov ∧ bd2 = bd ∧ Wd2 = Wd) ∨ ((ht = 0 ∨ rw < ht) ∧ r = rw ∧ B2 = unpS P ct ln mt B ∧ w2 = rw + 1 ∧ (0 ≤ u ∧ u ≤ ln) ∧ (∀ k : Nat, 8 * u ≤ (k : Int) → (k : Int) < 8 * ln → vis B2 wd k = false) ∧ (0 < u → ∃ k : Nat, 8 * (u - 1) ≤ (k : Int) ∧ (k : Int) < 8 * u ∧ vis B2 wd k = true) ∧ ((u = 0 ∧ kr2 = kr ∧ kb2 = kb ∧ ov2 = ov ∧ bd2 = bd ∧ Wd2 = Wd) ∨ (0 < u ∧ (4096 ≤ kr ∨ 65536 - kb < u) ∧ kr2 = kr ∧ kb2 = kb ∧ ov2 = 1 ∧ bd2 = bd ∧ Wd2 = Wd) ∨ (0 < u ∧ kr < 4096 ∧ u ≤ 65536 - kb ∧ kr2 = kr + 1 ∧ kb2 = kb + u ∧ ov2 = ov ∧ Wd2 = rowW Wd sf2 (y + sc * rw) sc ∧ (∀ u : Nat, dt sf2 u = true ↔ drw B2 wd x sc ac (fun _ => 0) (8 * ln) u) ∧ bd2 = bd + ((totW (Wd2) nw dn : Nat) : Int) - ((totW (Wd) nw dn : Nat) : Int)))))) := by
  refine x_met (by decide) (Nat.le_of_ble_eq_true rfl) ?_
  intro p e s m below meth c hx hb hr hml hts hown hlocks hin hF0 A hA hP hD hK ls hl hS
  have hl : lv_has ls 2 [(0, .ref o)] := hl
  refine lv_aload_n hx hb d_RR_row_0 rfl (lv_at hl 0 rfl) ?_
  refine va_get (D := D) (cl := xcl) (ci := 4) (v := .ref h) (C := R_RR) (T := T_RR) (N := 8) hx hb hts i_RR hown hK hP 0 rfl rfl 2 (by decide) (hts _ kw_143) (fun _ h9 => h9) rfl d_RR_row_1 ?_
  refine va_get (D := D) (cl := xcl) (ci := 2) (v := .int (iI op)) (C := R_Ra) (T := T_Ra) (N := 9) hx hb hts i_Ra hown hK hP 5 rfl rfl 1 (by decide) (hts _ kw_95) (fun _ h9 => h9) rfl d_RR_row_4 ?_
  refine xi_if_ne (tgt := 20) hx hb d_RR_row_7 (by decide) ⟨by omega, by omega⟩ (fun c_7 => ?_) (fun c_7 => ?_)
  ·
    refine xi_iconst hx hb d_RR_row_20 ?_
    refine lv_istore_n (lv' := [(1, .int (iI (-1))), (0, .ref o)]) hx hb d_RR_row_21 rfl hl (by decide) rfl (fun ls hl => ?_)
    refine lv_aload_n hx hb d_RR_row_22 rfl (lv_at hl 1 rfl) ?_
    refine va_get (D := D) (cl := xcl) (ci := 4) (v := .ref h) (C := R_RR) (T := T_RR) (N := 8) hx hb hts i_RR hown hK hP 0 rfl rfl 2 (by decide) (hts _ kw_143) (fun _ h9 => h9) rfl d_RR_row_23 ?_
    refine x_aftQ (X := [(o, .inr (4, [.int (iI dp), .ref hs, .ref h, .ref gp, .int (iI rs), .int (iI mt), .int (iI nW), .int (iI nH)])), (hs, .inr (3, [.int (iI ac), .int (iI dI), .ref la, .ref st, .int (iI kr), .int (iI kb), .int (iI ov), .int (iI bd)])), (la, .inl (cQ, dn, .inr (.inr (.inr (.inr g))))), (st, .inr (0, [.int (iI ac), .ref sw])), (sw, .inl (cJ, nw, .inr (.inl sf))), (h, .inr (2, [.ref a, .int (iI op), .int (iI x), .int (iI y), .int (iI sc), .int (iI wd), .int (iI ht), .int (iI ln), .int (iI rw)])), (a, .inl (cI, 640, .inl (iA B))), (gp, .inr (1, [.ref bp, .int (iI ct)])), (bp, .inl (cI, 4096, .inl (iA P)))]) (pl := pl) (x_runV (C := "RasterRows$Raster") (As := []) (rest := []) (ci := 2) (q0 := 0) hx hb hml hown hts (c_Ra_hasAllRows l D cI cJ cQ h a B op x y sc wd ht ln rw (hh) (by omega)) kw_338 kw_339 kw_340 kw_5 kw_341 ds_Ra_hasAllRows (by decide) hK (hP.sub (ws' := [(h, .inr (2, [.ref a, .int (iI op), .int (iI x), .int (iI y), .int (iI sc), .int (iI wd), .int (iI ht), .int (iI ln), .int (iI rw)])), (a, .inl (cI, 640, .inl (iA B)))]) [5, 6] rfl) (hD.sub (ws' := [(h, .inr (2, [.ref a, .int (iI op), .int (iI x), .int (iI y), .int (iI sc), .int (iI wd), .int (iI ht), .int (iI ln), .int (iI rw)])), (a, .inl (cI, 640, .inl (iA B)))]) [5, 6] (by decide) rfl) rfl rfl rfl hl.1 rfl (Nat.le_of_ble_eq_true rfl) d_RR_row_26) hP hD hS hA [5, 6] [0, 1, 2, 3, 4, 7, 8] rfl rfl (wr := [(o, .inr (4, [.int (iI dp), .ref hs, .ref h, .ref gp, .int (iI rs), .int (iI mt), .int (iI nW), .int (iI nH)])), (hs, .inr (3, [.int (iI ac), .int (iI dI), .ref la, .ref st, .int (iI kr), .int (iI kb), .int (iI ov), .int (iI bd)])), (la, .inl (cQ, dn, .inr (.inr (.inr (.inr g))))), (st, .inr (0, [.int (iI ac), .ref sw])), (sw, .inl (cJ, nw, .inr (.inl sf))), (gp, .inr (1, [.ref bp, .int (iI ct)])), (bp, .inl (cI, 4096, .inl (iA P)))]) rfl (by decide) (by decide) (fun v w1 H locs hq hP hD hS => ?_)
    obtain ⟨r_26, rfl, rfl, hr_26⟩ := hq
    refine W.cs (cells' := 0) (slots' := 0) rfl rfl ?_
    refine W.eq (g2 := F0 m 29 ls [.int (iI r_26)]) rfl ?_
    have hP : va_P D xcl ([(o, .inr (4, [.int (iI dp), .ref hs, .ref h, .ref gp, .int (iI rs), .int (iI mt), .int (iI nW), .int (iI nH)])), (hs, .inr (3, [.int (iI ac), .int (iI dI), .ref la, .ref st, .int (iI kr), .int (iI kb), .int (iI ov), .int (iI bd)])), (la, .inl (cQ, dn, .inr (.inr (.inr (.inr g))))), (st, .inr (0, [.int (iI ac), .ref sw])), (sw, .inl (cJ, nw, .inr (.inl sf))), (gp, .inr (1, [.ref bp, .int (iI ct)])), (bp, .inl (cI, 4096, .inl (iA P))), (h, .inr (2, [.ref a, .int (iI op), .int (iI x), .int (iI y), .int (iI sc), .int (iI wd), .int (iI ht), .int (iI ln), .int (iI rw)])), (a, .inl (cI, 640, .inl (iA B)))] ++ pl) _ := hP
    have hD : va_D A ([(o, .inr (4, [.int (iI dp), .ref hs, .ref h, .ref gp, .int (iI rs), .int (iI mt), .int (iI nW), .int (iI nH)])), (hs, .inr (3, [.int (iI ac), .int (iI dI), .ref la, .ref st, .int (iI kr), .int (iI kb), .int (iI ov), .int (iI bd)])), (la, .inl (cQ, dn, .inr (.inr (.inr (.inr g))))), (st, .inr (0, [.int (iI ac), .ref sw])), (sw, .inl (cJ, nw, .inr (.inl sf))), (gp, .inr (1, [.ref bp, .int (iI ct)])), (bp, .inl (cI, 4096, .inl (iA P))), (h, .inr (2, [.ref a, .int (iI op), .int (iI x), .int (iI y), .int (iI sc), .int (iI wd), .int (iI ht), .int (iI ln), .int (iI rw)])), (a, .inl (cI, 640, .inl (iA B)))] ++ pl) := hD
    refine xi_if_ne (tgt := 79) hx hb d_RR_row_29 (by decide) ⟨by omega, by omega⟩ (fun c_29 => ?_) (fun c_29 => ?_)
    ·
      refine lv_aload_n hx hb d_RR_row_79 rfl (lv_at hl 1 rfl) ?_
      refine va_get (D := D) (cl := xcl) (ci := 4) (v := .ref gp) (C := R_RR) (T := T_RR) (N := 8) hx hb hts i_RR hown hK hP 0 rfl rfl 3 (by decide) (hts _ kw_144) (fun _ h9 => h9) rfl d_RR_row_80 ?_
      refine xi_iconst hx hb d_RR_row_83 ?_
      refine va_put (D := D) (cl := xcl) (ci := 1) (v := .int (iI 0)) (ty := .int) (C := R_Pk) (T := T_Pk) (N := 2) hx hb hts i_Pk ty_Pk ty_Pk_ok nm_Pk hown hK hP hD hS 5 rfl rfl 1 (by decide) (hts _ kw_135) (fun _ h9 => h9) rfl (by decide +kernel) rfl rfl (Nat.le_of_ble_eq_true rfl) d_RR_row_84 (fun H locs hP hD hS => ?_)
      have hP : va_P D xcl ([(o, .inr (4, [.int (iI dp), .ref hs, .ref h, .ref gp, .int (iI rs), .int (iI mt), .int (iI nW), .int (iI nH)])), (hs, .inr (3, [.int (iI ac), .int (iI dI), .ref la, .ref st, .int (iI kr), .int (iI kb), .int (iI ov), .int (iI bd)])), (la, .inl (cQ, dn, .inr (.inr (.inr (.inr g))))), (st, .inr (0, [.int (iI ac), .ref sw])), (sw, .inl (cJ, nw, .inr (.inl sf))), (gp, .inr (1, [.ref bp, .int (iI 0)])), (bp, .inl (cI, 4096, .inl (iA P))), (h, .inr (2, [.ref a, .int (iI op), .int (iI x), .int (iI y), .int (iI sc), .int (iI wd), .int (iI ht), .int (iI ln), .int (iI rw)])), (a, .inl (cI, 640, .inl (iA B)))] ++ pl) _ := hP
      have hD : va_D A ([(o, .inr (4, [.int (iI dp), .ref hs, .ref h, .ref gp, .int (iI rs), .int (iI mt), .int (iI nW), .int (iI nH)])), (hs, .inr (3, [.int (iI ac), .int (iI dI), .ref la, .ref st, .int (iI kr), .int (iI kb), .int (iI ov), .int (iI bd)])), (la, .inl (cQ, dn, .inr (.inr (.inr (.inr g))))), (st, .inr (0, [.int (iI ac), .ref sw])), (sw, .inl (cJ, nw, .inr (.inl sf))), (gp, .inr (1, [.ref bp, .int (iI 0)])), (bp, .inl (cI, 4096, .inl (iA P))), (h, .inr (2, [.ref a, .int (iI op), .int (iI x), .int (iI y), .int (iI sc), .int (iI wd), .int (iI ht), .int (iI ln), .int (iI rw)])), (a, .inl (cI, 640, .inl (iA B)))] ++ pl) := hD
      refine lv_iload_n hx hb d_RR_row_87 rfl (lv_at hl 0 rfl) ?_
      exact x_iret hx hb hr hlocks (hP.part (cx := [(o, .inr (4, [.int (iI dp), .ref hs, .ref h, .ref gp, .int (iI rs), .int (iI mt), .int (iI nW), .int (iI nH)])), (hs, .inr (3, [.int (iI ac), .int (iI dI), .ref la, .ref st, .int (iI kr), .int (iI kb), .int (iI ov), .int (iI bd)])), (la, .inl (cQ, dn, .inr (.inr (.inr (.inr g))))), (st, .inr (0, [.int (iI ac), .ref sw])), (sw, .inl (cJ, nw, .inr (.inl sf))), (h, .inr (2, [.ref a, .int (iI op), .int (iI x), .int (iI y), .int (iI sc), .int (iI wd), .int (iI ht), .int (iI ln), .int (iI rw)])), (a, .inl (cI, 640, .inl (iA B))), (gp, .inr (1, [.ref bp, .int (iI 0)])), (bp, .inl (cI, 4096, .inl (iA P)))]) [0, 1, 2, 3, 4, 7, 8, 5, 6] rfl) (hD.part (cx := [(o, .inr (4, [.int (iI dp), .ref hs, .ref h, .ref gp, .int (iI rs), .int (iI mt), .int (iI nW), .int (iI nH)])), (hs, .inr (3, [.int (iI ac), .int (iI dI), .ref la, .ref st, .int (iI kr), .int (iI kb), .int (iI ov), .int (iI bd)])), (la, .inl (cQ, dn, .inr (.inr (.inr (.inr g))))), (st, .inr (0, [.int (iI ac), .ref sw])), (sw, .inl (cJ, nw, .inr (.inl sf))), (h, .inr (2, [.ref a, .int (iI op), .int (iI x), .int (iI y), .int (iI sc), .int (iI wd), .int (iI ht), .int (iI ln), .int (iI rw)])), (a, .inl (cI, 640, .inl (iA B))), (gp, .inr (1, [.ref bp, .int (iI 0)])), (bp, .inl (cI, 4096, .inl (iA P)))]) [0, 1, 2, 3, 4, 7, 8, 5, 6] (by decide) rfl) hS (by decide) (by decide) ⟨(-1), B, rw, sf, g, pl, bd, kr, kb, ov, 0, Wd, rfl, rfl, hL, Or.inl ⟨by omega, by omega, rfl, rfl, rfl, rfl, rfl, rfl, rfl, rfl⟩⟩ d_RR_row_88
    ·
      refine lv_aload_n hx hb d_RR_row_32 rfl (lv_at hl 1 rfl) ?_
      refine va_get (D := D) (cl := xcl) (ci := 4) (v := .ref h) (C := R_RR) (T := T_RR) (N := 8) hx hb hts i_RR hown hK hP 0 rfl rfl 2 (by decide) (hts _ kw_143) (fun _ h9 => h9) rfl d_RR_row_33 ?_
      refine va_get (D := D) (cl := xcl) (ci := 2) (v := .int (iI rw)) (C := R_Ra) (T := T_Ra) (N := 9) hx hb hts i_Ra hown hK hP 7 rfl rfl 8 (by decide) (hts _ kw_106) (fun _ h9 => h9) rfl d_RR_row_36 ?_
      refine lv_istore_n (lv' := [(1, .int (iI rw)), (0, .ref o)]) hx hb d_RR_row_39 rfl hl (by decide) rfl (fun ls hl => ?_)
      refine lv_aload_n hx hb d_RR_row_40 rfl (lv_at hl 1 rfl) ?_
      refine va_get (D := D) (cl := xcl) (ci := 4) (v := .ref gp) (C := R_RR) (T := T_RR) (N := 8) hx hb hts i_RR hown hK hP 0 rfl rfl 3 (by decide) (hts _ kw_144) (fun _ h9 => h9) rfl d_RR_row_41 ?_
      refine lv_aload_n hx hb d_RR_row_44 rfl (lv_at hl 1 rfl) ?_
      refine va_get (D := D) (cl := xcl) (ci := 4) (v := .int (iI mt)) (C := R_RR) (T := T_RR) (N := 8) hx hb hts i_RR hown hK hP 0 rfl rfl 5 (by decide) (hts _ kw_146) (fun _ h9 => h9) rfl d_RR_row_45 ?_
      refine lv_aload_n hx hb d_RR_row_48 rfl (lv_at hl 1 rfl) ?_
      refine va_get (D := D) (cl := xcl) (ci := 4) (v := .ref h) (C := R_RR) (T := T_RR) (N := 8) hx hb hts i_RR hown hK hP 0 rfl rfl 2 (by decide) (hts _ kw_143) (fun _ h9 => h9) rfl d_RR_row_49 ?_
      refine x_aftQ (X := [(o, .inr (4, [.int (iI dp), .ref hs, .ref h, .ref gp, .int (iI rs), .int (iI mt), .int (iI nW), .int (iI nH)])), (hs, .inr (3, [.int (iI ac), .int (iI dI), .ref la, .ref st, .int (iI kr), .int (iI kb), .int (iI ov), .int (iI bd)])), (la, .inl (cQ, dn, .inr (.inr (.inr (.inr g))))), (st, .inr (0, [.int (iI ac), .ref sw])), (sw, .inl (cJ, nw, .inr (.inl sf))), (gp, .inr (1, [.ref bp, .int (iI ct)])), (bp, .inl (cI, 4096, .inl (iA P))), (h, .inr (2, [.ref a, .int (iI op), .int (iI x), .int (iI y), .int (iI sc), .int (iI wd), .int (iI ht), .int (iI ln), .int (iI rw)])), (a, .inl (cI, 640, .inl (iA B)))]) (pl := pl) (x_runV (C := "RasterRows$Packed") (As := [.int (iI mt), .ref h]) (rest := []) (ci := 1) (q0 := 0) hx hb hml hown hts (c_Pk_unpack l D cI cJ cQ gp bp P ct h a B op x y sc wd ht ln rw mt (hct) (hPb) (hln) (hmt)) kw_342 kw_343 kw_344 kw_6 kw_345 ds_Pk_unpack (by decide) hK (hP.sub (ws' := [(gp, .inr (1, [.ref bp, .int (iI ct)])), (bp, .inl (cI, 4096, .inl (iA P))), (h, .inr (2, [.ref a, .int (iI op), .int (iI x), .int (iI y), .int (iI sc), .int (iI wd), .int (iI ht), .int (iI ln), .int (iI rw)])), (a, .inl (cI, 640, .inl (iA B)))]) [5, 6, 7, 8] rfl) (hD.sub (ws' := [(gp, .inr (1, [.ref bp, .int (iI ct)])), (bp, .inl (cI, 4096, .inl (iA P))), (h, .inr (2, [.ref a, .int (iI op), .int (iI x), .int (iI y), .int (iI sc), .int (iI wd), .int (iI ht), .int (iI ln), .int (iI rw)])), (a, .inl (cI, 640, .inl (iA B)))]) [5, 6, 7, 8] (by decide) rfl) rfl rfl rfl hl.1 rfl (Nat.le_of_ble_eq_true rfl) d_RR_row_52) hP hD hS hA [5, 6, 7, 8] [0, 1, 2, 3, 4] rfl rfl (wr := [(o, .inr (4, [.int (iI dp), .ref hs, .ref h, .ref gp, .int (iI rs), .int (iI mt), .int (iI nW), .int (iI nH)])), (hs, .inr (3, [.int (iI ac), .int (iI dI), .ref la, .ref st, .int (iI kr), .int (iI kb), .int (iI ov), .int (iI bd)])), (la, .inl (cQ, dn, .inr (.inr (.inr (.inr g))))), (st, .inr (0, [.int (iI ac), .ref sw])), (sw, .inl (cJ, nw, .inr (.inl sf)))]) rfl (by decide) (by decide) (fun v w1 H locs hq hP hD hS => ?_)
      obtain ⟨B2_52, rfl, rfl, hB2_52⟩ := hq
      refine W.cs (cells' := 0) (slots' := 0) rfl rfl ?_
      refine W.eq (g2 := F0 m 55 ls []) rfl ?_
      have hP : va_P D xcl ([(o, .inr (4, [.int (iI dp), .ref hs, .ref h, .ref gp, .int (iI rs), .int (iI mt), .int (iI nW), .int (iI nH)])), (hs, .inr (3, [.int (iI ac), .int (iI dI), .ref la, .ref st, .int (iI kr), .int (iI kb), .int (iI ov), .int (iI bd)])), (la, .inl (cQ, dn, .inr (.inr (.inr (.inr g))))), (st, .inr (0, [.int (iI ac), .ref sw])), (sw, .inl (cJ, nw, .inr (.inl sf))), (gp, .inr (1, [.ref bp, .int (iI ct)])), (bp, .inl (cI, 4096, .inl (iA P))), (h, .inr (2, [.ref a, .int (iI op), .int (iI x), .int (iI y), .int (iI sc), .int (iI wd), .int (iI ht), .int (iI ln), .int (iI rw)])), (a, .inl (cI, 640, .inl (iA B2_52)))] ++ pl) _ := hP
      have hD : va_D A ([(o, .inr (4, [.int (iI dp), .ref hs, .ref h, .ref gp, .int (iI rs), .int (iI mt), .int (iI nW), .int (iI nH)])), (hs, .inr (3, [.int (iI ac), .int (iI dI), .ref la, .ref st, .int (iI kr), .int (iI kb), .int (iI ov), .int (iI bd)])), (la, .inl (cQ, dn, .inr (.inr (.inr (.inr g))))), (st, .inr (0, [.int (iI ac), .ref sw])), (sw, .inl (cJ, nw, .inr (.inl sf))), (gp, .inr (1, [.ref bp, .int (iI ct)])), (bp, .inl (cI, 4096, .inl (iA P))), (h, .inr (2, [.ref a, .int (iI op), .int (iI x), .int (iI y), .int (iI sc), .int (iI wd), .int (iI ht), .int (iI ln), .int (iI rw)])), (a, .inl (cI, 640, .inl (iA B2_52)))] ++ pl) := hD
      have hq9 : ht = 0 ∨ rw < ht := by omega
      have hBn : ∀ j : Nat, 0 ≤ B2_52 j ∧ B2_52 j < 256 := by rw [hB2_52]; exact byte_unp hPb hB
      refine lv_aload_n hx hb d_RR_row_55 rfl (lv_at hl 1 rfl) ?_
      refine va_get (D := D) (cl := xcl) (ci := 4) (v := .ref hs) (C := R_RR) (T := T_RR) (N := 8) hx hb hts i_RR hown hK hP 0 rfl rfl 1 (by decide) (hts _ kw_142) (fun _ h9 => h9) rfl d_RR_row_56 ?_
      refine lv_aload_n hx hb d_RR_row_59 rfl (lv_at hl 1 rfl) ?_
      refine va_get (D := D) (cl := xcl) (ci := 4) (v := .ref h) (C := R_RR) (T := T_RR) (N := 8) hx hb hts i_RR hown hK hP 0 rfl rfl 2 (by decide) (hts _ kw_143) (fun _ h9 => h9) rfl d_RR_row_60 ?_
      refine x_aftP (X := [(o, .inr (4, [.int (iI dp), .ref hs, .ref h, .ref gp, .int (iI rs), .int (iI mt), .int (iI nW), .int (iI nH)])), (hs, .inr (3, [.int (iI ac), .int (iI dI), .ref la, .ref st, .int (iI kr), .int (iI kb), .int (iI ov), .int (iI bd)])), (la, .inl (cQ, dn, .inr (.inr (.inr (.inr g))))), (st, .inr (0, [.int (iI ac), .ref sw])), (sw, .inl (cJ, nw, .inr (.inl sf))), (gp, .inr (1, [.ref bp, .int (iI ct)])), (bp, .inl (cI, 4096, .inl (iA P))), (h, .inr (2, [.ref a, .int (iI op), .int (iI x), .int (iI y), .int (iI sc), .int (iI wd), .int (iI ht), .int (iI ln), .int (iI rw)])), (a, .inl (cI, 640, .inl (iA B2_52)))]) (pl := pl) (cx := [(hs, .inr (3, [.int (iI ac), .int (iI dI), .ref la, .ref st, .int (iI kr), .int (iI kb), .int (iI ov), .int (iI bd)])), (la, .inl (cQ, dn, .inr (.inr (.inr (.inr g))))), (st, .inr (0, [.int (iI ac), .ref sw])), (sw, .inl (cJ, nw, .inr (.inl sf))), (h, .inr (2, [.ref a, .int (iI op), .int (iI x), .int (iI y), .int (iI sc), .int (iI wd), .int (iI ht), .int (iI ln), .int (iI rw)])), (a, .inl (cI, 640, .inl (iA B2_52)))]) (x_runV (C := "RasterRows$Sheet") (As := [.ref h]) (rest := []) (ci := 3) (q0 := 0) hx hb hml hown hts (c_Sh_take l D cI cJ cQ hs la st sw ac dI dn nw g sf kr kb ov bd pl Wd h a B2_52 op x y sc wd ht ln rw (hac) (hdn) (hnw) (hL) (hln) (hBn) (hwd) (hsc) (hxx) (hyy) (hrw) (hkr) (hkb)) kw_378 kw_379 kw_380 kw_2 kw_381 ds_Sh_take (by decide) hK (hP.part (cx := [(hs, .inr (3, [.int (iI ac), .int (iI dI), .ref la, .ref st, .int (iI kr), .int (iI kb), .int (iI ov), .int (iI bd)])), (la, .inl (cQ, dn, .inr (.inr (.inr (.inr g))))), (st, .inr (0, [.int (iI ac), .ref sw])), (sw, .inl (cJ, nw, .inr (.inl sf))), (h, .inr (2, [.ref a, .int (iI op), .int (iI x), .int (iI y), .int (iI sc), .int (iI wd), .int (iI ht), .int (iI ln), .int (iI rw)])), (a, .inl (cI, 640, .inl (iA B2_52)))]) [1, 2, 3, 4, 7, 8] rfl) (hD.part (cx := [(hs, .inr (3, [.int (iI ac), .int (iI dI), .ref la, .ref st, .int (iI kr), .int (iI kb), .int (iI ov), .int (iI bd)])), (la, .inl (cQ, dn, .inr (.inr (.inr (.inr g))))), (st, .inr (0, [.int (iI ac), .ref sw])), (sw, .inl (cJ, nw, .inr (.inl sf))), (h, .inr (2, [.ref a, .int (iI op), .int (iI x), .int (iI y), .int (iI sc), .int (iI wd), .int (iI ht), .int (iI ln), .int (iI rw)])), (a, .inl (cI, 640, .inl (iA B2_52)))]) [1, 2, 3, 4, 7, 8] (by decide) rfl) rfl rfl rfl hl.1 rfl (Nat.le_of_ble_eq_true rfl) d_RR_row_63) hP hD hS hA [1, 2, 3, 4, 7, 8] [0, 5, 6] rfl (wr := [(o, .inr (4, [.int (iI dp), .ref hs, .ref h, .ref gp, .int (iI rs), .int (iI mt), .int (iI nW), .int (iI nH)])), (gp, .inr (1, [.ref bp, .int (iI ct)])), (bp, .inl (cI, 4096, .inl (iA P)))]) rfl (by decide) (by decide) (fun v w1 H locs hq hPD hS => ?_)
      obtain ⟨sf2_63, g2_63, pl2_63, bd2_63, kr2_63, kb2_63, ov2_63, u_63, Wd2_63, rfl, hw1, hu1_63, hu2_63, hu3_63, hL2_63, hc_63⟩ := hq
      obtain ⟨hP, hD⟩ := hPD [(hs, .inr (3, [.int (iI ac), .int (iI dI), .ref la, .ref st, .int (iI kr2_63), .int (iI kb2_63), .int (iI ov2_63), .int (iI bd2_63)])), (la, .inl (cQ, dn, .inr (.inr (.inr (.inr g2_63))))), (st, .inr (0, [.int (iI ac), .ref sw])), (sw, .inl (cJ, nw, .inr (.inl sf2_63))), (h, .inr (2, [.ref a, .int (iI op), .int (iI x), .int (iI y), .int (iI sc), .int (iI wd), .int (iI ht), .int (iI ln), .int (iI rw)])), (a, .inl (cI, 640, .inl (iA B2_52)))] pl2_63 hw1
      refine W.widen (k := 8) (n := 328) (by decide) (by decide) ?_
      refine W.eq (g2 := F0 m 66 ls []) rfl ?_
      have hP : va_P D xcl ([(o, .inr (4, [.int (iI dp), .ref hs, .ref h, .ref gp, .int (iI rs), .int (iI mt), .int (iI nW), .int (iI nH)])), (gp, .inr (1, [.ref bp, .int (iI ct)])), (bp, .inl (cI, 4096, .inl (iA P))), (hs, .inr (3, [.int (iI ac), .int (iI dI), .ref la, .ref st, .int (iI kr2_63), .int (iI kb2_63), .int (iI ov2_63), .int (iI bd2_63)])), (la, .inl (cQ, dn, .inr (.inr (.inr (.inr g2_63))))), (st, .inr (0, [.int (iI ac), .ref sw])), (sw, .inl (cJ, nw, .inr (.inl sf2_63))), (h, .inr (2, [.ref a, .int (iI op), .int (iI x), .int (iI y), .int (iI sc), .int (iI wd), .int (iI ht), .int (iI ln), .int (iI rw)])), (a, .inl (cI, 640, .inl (iA B2_52)))] ++ pl2_63) _ := hP
      have hD : va_D A ([(o, .inr (4, [.int (iI dp), .ref hs, .ref h, .ref gp, .int (iI rs), .int (iI mt), .int (iI nW), .int (iI nH)])), (gp, .inr (1, [.ref bp, .int (iI ct)])), (bp, .inl (cI, 4096, .inl (iA P))), (hs, .inr (3, [.int (iI ac), .int (iI dI), .ref la, .ref st, .int (iI kr2_63), .int (iI kb2_63), .int (iI ov2_63), .int (iI bd2_63)])), (la, .inl (cQ, dn, .inr (.inr (.inr (.inr g2_63))))), (st, .inr (0, [.int (iI ac), .ref sw])), (sw, .inl (cJ, nw, .inr (.inl sf2_63))), (h, .inr (2, [.ref a, .int (iI op), .int (iI x), .int (iI y), .int (iI sc), .int (iI wd), .int (iI ht), .int (iI ln), .int (iI rw)])), (a, .inl (cI, 640, .inl (iA B2_52)))] ++ pl2_63) := hD
      refine lv_aload_n hx hb d_RR_row_66 rfl (lv_at hl 1 rfl) ?_
      refine va_get (D := D) (cl := xcl) (ci := 4) (v := .ref h) (C := R_RR) (T := T_RR) (N := 8) hx hb hts i_RR hown hK hP 0 rfl rfl 2 (by decide) (hts _ kw_143) (fun _ h9 => h9) rfl d_RR_row_67 ?_
      refine lv_dup hx hb d_RR_row_70 rfl ?_
      refine va_get (D := D) (cl := xcl) (ci := 2) (v := .int (iI rw)) (C := R_Ra) (T := T_Ra) (N := 9) hx hb hts i_Ra hown hK hP 7 rfl rfl 8 (by decide) (hts _ kw_106) (fun _ h9 => h9) rfl d_RR_row_71 ?_
      refine xi_iconst hx hb d_RR_row_74 ?_
      refine xi_iadd hx hb d_RR_row_75 ?_
      refine va_put (D := D) (cl := xcl) (ci := 2) (v := .int (iI (rw + 1))) (ty := .int) (C := R_Ra) (T := T_Ra) (N := 9) hx hb hts i_Ra ty_Ra ty_Ra_ok nm_Ra hown hK hP hD hS 7 rfl rfl 8 (by decide) (hts _ kw_106) (fun _ h9 => h9) rfl (by decide +kernel) rfl rfl (Nat.le_of_ble_eq_true rfl) d_RR_row_76 (fun H locs hP hD hS => ?_)
      have hP : va_P D xcl ([(o, .inr (4, [.int (iI dp), .ref hs, .ref h, .ref gp, .int (iI rs), .int (iI mt), .int (iI nW), .int (iI nH)])), (gp, .inr (1, [.ref bp, .int (iI ct)])), (bp, .inl (cI, 4096, .inl (iA P))), (hs, .inr (3, [.int (iI ac), .int (iI dI), .ref la, .ref st, .int (iI kr2_63), .int (iI kb2_63), .int (iI ov2_63), .int (iI bd2_63)])), (la, .inl (cQ, dn, .inr (.inr (.inr (.inr g2_63))))), (st, .inr (0, [.int (iI ac), .ref sw])), (sw, .inl (cJ, nw, .inr (.inl sf2_63))), (h, .inr (2, [.ref a, .int (iI op), .int (iI x), .int (iI y), .int (iI sc), .int (iI wd), .int (iI ht), .int (iI ln), .int (iI (rw + 1))])), (a, .inl (cI, 640, .inl (iA B2_52)))] ++ pl2_63) _ := hP
      have hD : va_D A ([(o, .inr (4, [.int (iI dp), .ref hs, .ref h, .ref gp, .int (iI rs), .int (iI mt), .int (iI nW), .int (iI nH)])), (gp, .inr (1, [.ref bp, .int (iI ct)])), (bp, .inl (cI, 4096, .inl (iA P))), (hs, .inr (3, [.int (iI ac), .int (iI dI), .ref la, .ref st, .int (iI kr2_63), .int (iI kb2_63), .int (iI ov2_63), .int (iI bd2_63)])), (la, .inl (cQ, dn, .inr (.inr (.inr (.inr g2_63))))), (st, .inr (0, [.int (iI ac), .ref sw])), (sw, .inl (cJ, nw, .inr (.inl sf2_63))), (h, .inr (2, [.ref a, .int (iI op), .int (iI x), .int (iI y), .int (iI sc), .int (iI wd), .int (iI ht), .int (iI ln), .int (iI (rw + 1))])), (a, .inl (cI, 640, .inl (iA B2_52)))] ++ pl2_63) := hD
      refine lv_aload_n hx hb d_RR_row_79 rfl (lv_at hl 1 rfl) ?_
      refine va_get (D := D) (cl := xcl) (ci := 4) (v := .ref gp) (C := R_RR) (T := T_RR) (N := 8) hx hb hts i_RR hown hK hP 0 rfl rfl 3 (by decide) (hts _ kw_144) (fun _ h9 => h9) rfl d_RR_row_80 ?_
      refine xi_iconst hx hb d_RR_row_83 ?_
      refine va_put (D := D) (cl := xcl) (ci := 1) (v := .int (iI 0)) (ty := .int) (C := R_Pk) (T := T_Pk) (N := 2) hx hb hts i_Pk ty_Pk ty_Pk_ok nm_Pk hown hK hP hD hS 1 rfl rfl 1 (by decide) (hts _ kw_135) (fun _ h9 => h9) rfl (by decide +kernel) rfl rfl (Nat.le_of_ble_eq_true rfl) d_RR_row_84 (fun H locs hP hD hS => ?_)
      have hP : va_P D xcl ([(o, .inr (4, [.int (iI dp), .ref hs, .ref h, .ref gp, .int (iI rs), .int (iI mt), .int (iI nW), .int (iI nH)])), (gp, .inr (1, [.ref bp, .int (iI 0)])), (bp, .inl (cI, 4096, .inl (iA P))), (hs, .inr (3, [.int (iI ac), .int (iI dI), .ref la, .ref st, .int (iI kr2_63), .int (iI kb2_63), .int (iI ov2_63), .int (iI bd2_63)])), (la, .inl (cQ, dn, .inr (.inr (.inr (.inr g2_63))))), (st, .inr (0, [.int (iI ac), .ref sw])), (sw, .inl (cJ, nw, .inr (.inl sf2_63))), (h, .inr (2, [.ref a, .int (iI op), .int (iI x), .int (iI y), .int (iI sc), .int (iI wd), .int (iI ht), .int (iI ln), .int (iI (rw + 1))])), (a, .inl (cI, 640, .inl (iA B2_52)))] ++ pl2_63) _ := hP
      have hD : va_D A ([(o, .inr (4, [.int (iI dp), .ref hs, .ref h, .ref gp, .int (iI rs), .int (iI mt), .int (iI nW), .int (iI nH)])), (gp, .inr (1, [.ref bp, .int (iI 0)])), (bp, .inl (cI, 4096, .inl (iA P))), (hs, .inr (3, [.int (iI ac), .int (iI dI), .ref la, .ref st, .int (iI kr2_63), .int (iI kb2_63), .int (iI ov2_63), .int (iI bd2_63)])), (la, .inl (cQ, dn, .inr (.inr (.inr (.inr g2_63))))), (st, .inr (0, [.int (iI ac), .ref sw])), (sw, .inl (cJ, nw, .inr (.inl sf2_63))), (h, .inr (2, [.ref a, .int (iI op), .int (iI x), .int (iI y), .int (iI sc), .int (iI wd), .int (iI ht), .int (iI ln), .int (iI (rw + 1))])), (a, .inl (cI, 640, .inl (iA B2_52)))] ++ pl2_63) := hD
      refine lv_iload_n hx hb d_RR_row_87 rfl (lv_at hl 0 rfl) ?_
      exact x_iret hx hb hr hlocks (hP.part (cx := [(o, .inr (4, [.int (iI dp), .ref hs, .ref h, .ref gp, .int (iI rs), .int (iI mt), .int (iI nW), .int (iI nH)])), (hs, .inr (3, [.int (iI ac), .int (iI dI), .ref la, .ref st, .int (iI kr2_63), .int (iI kb2_63), .int (iI ov2_63), .int (iI bd2_63)])), (la, .inl (cQ, dn, .inr (.inr (.inr (.inr g2_63))))), (st, .inr (0, [.int (iI ac), .ref sw])), (sw, .inl (cJ, nw, .inr (.inl sf2_63))), (h, .inr (2, [.ref a, .int (iI op), .int (iI x), .int (iI y), .int (iI sc), .int (iI wd), .int (iI ht), .int (iI ln), .int (iI (rw + 1))])), (a, .inl (cI, 640, .inl (iA B2_52))), (gp, .inr (1, [.ref bp, .int (iI 0)])), (bp, .inl (cI, 4096, .inl (iA P)))]) [0, 3, 4, 5, 6, 7, 8, 1, 2] rfl) (hD.part (cx := [(o, .inr (4, [.int (iI dp), .ref hs, .ref h, .ref gp, .int (iI rs), .int (iI mt), .int (iI nW), .int (iI nH)])), (hs, .inr (3, [.int (iI ac), .int (iI dI), .ref la, .ref st, .int (iI kr2_63), .int (iI kb2_63), .int (iI ov2_63), .int (iI bd2_63)])), (la, .inl (cQ, dn, .inr (.inr (.inr (.inr g2_63))))), (st, .inr (0, [.int (iI ac), .ref sw])), (sw, .inl (cJ, nw, .inr (.inl sf2_63))), (h, .inr (2, [.ref a, .int (iI op), .int (iI x), .int (iI y), .int (iI sc), .int (iI wd), .int (iI ht), .int (iI ln), .int (iI (rw + 1))])), (a, .inl (cI, 640, .inl (iA B2_52))), (gp, .inr (1, [.ref bp, .int (iI 0)])), (bp, .inl (cI, 4096, .inl (iA P)))]) [0, 3, 4, 5, 6, 7, 8, 1, 2] (by decide) rfl) hS (by decide) (by decide) ⟨rw, B2_52, (rw + 1), sf2_63, g2_63, pl2_63, bd2_63, kr2_63, kb2_63, ov2_63, u_63, Wd2_63, rfl, rfl, hL2_63, Or.inr ⟨hq9, rfl, hB2_52, rfl, hu1_63, hu2_63, hu3_63, hc_63⟩⟩ d_RR_row_88
  ·
    exact absurd c_7 (by omega)
