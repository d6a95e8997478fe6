theorem d_Ra_init_0 : decode b_Ra_init 0 = .ok (.aload_n 0, 1) := by decide +kernel
theorem d_Ra_init_1 : decode b_Ra_init 1 = .ok (.invokespecial 3, 3) := by decide +kernel
theorem d_Ra_init_4 : decode b_Ra_init 4 = .ok (.aload_n 0, 1) := by decide +kernel
theorem d_Ra_init_5 : decode b_Ra_init 5 = .ok (.sipush 640, 3) := by decide +kernel
theorem d_Ra_init_8 : decode b_Ra_init 8 = .ok (.newarray .int, 2) := by decide +kernel
theorem d_Ra_init_10 : decode b_Ra_init 10 = .ok (.putfield 9, 3) := by decide +kernel
theorem d_Ra_init_13 : decode b_Ra_init 13 = .ok (.aload_n 0, 1) := by decide +kernel
theorem d_Ra_init_14 : decode b_Ra_init 14 = .ok (.iconst 0, 1) := by decide +kernel
theorem d_Ra_init_15 : decode b_Ra_init 15 = .ok (.putfield 15, 3) := by decide +kernel
theorem d_Ra_init_18 : decode b_Ra_init 18 = .ok (.aload_n 0, 1) := by decide +kernel
theorem d_Ra_init_19 : decode b_Ra_init 19 = .ok (.iconst 0, 1) := by decide +kernel
theorem d_Ra_init_20 : decode b_Ra_init 20 = .ok (.putfield 19, 3) := by decide +kernel
theorem d_Ra_init_23 : decode b_Ra_init 23 = .ok (.aload_n 0, 1) := by decide +kernel
theorem d_Ra_init_24 : decode b_Ra_init 24 = .ok (.iconst 0, 1) := by decide +kernel
theorem d_Ra_init_25 : decode b_Ra_init 25 = .ok (.putfield 23, 3) := by decide +kernel
theorem d_Ra_init_28 : decode b_Ra_init 28 = .ok (.aload_n 0, 1) := by decide +kernel
theorem d_Ra_init_29 : decode b_Ra_init 29 = .ok (.iconst 1, 1) := by decide +kernel
theorem d_Ra_init_30 : decode b_Ra_init 30 = .ok (.putfield 26, 3) := by decide +kernel
theorem d_Ra_init_33 : decode b_Ra_init 33 = .ok (.aload_n 0, 1) := by decide +kernel
theorem d_Ra_init_34 : decode b_Ra_init 34 = .ok (.iconst 0, 1) := by decide +kernel
theorem d_Ra_init_35 : decode b_Ra_init 35 = .ok (.putfield 29, 3) := by decide +kernel
theorem d_Ra_init_38 : decode b_Ra_init 38 = .ok (.aload_n 0, 1) := by decide +kernel
theorem d_Ra_init_39 : decode b_Ra_init 39 = .ok (.iconst 0, 1) := by decide +kernel
theorem d_Ra_init_40 : decode b_Ra_init 40 = .ok (.putfield 32, 3) := by decide +kernel
theorem d_Ra_init_43 : decode b_Ra_init 43 = .ok (.aload_n 0, 1) := by decide +kernel
theorem d_Ra_init_44 : decode b_Ra_init 44 = .ok (.iconst 0, 1) := by decide +kernel
theorem d_Ra_init_45 : decode b_Ra_init 45 = .ok (.putfield 35, 3) := by decide +kernel
theorem d_Ra_init_48 : decode b_Ra_init 48 = .ok (.aload_n 0, 1) := by decide +kernel
theorem d_Ra_init_49 : decode b_Ra_init 49 = .ok (.iconst 0, 1) := by decide +kernel
theorem d_Ra_init_50 : decode b_Ra_init 50 = .ok (.putfield 38, 3) := by decide +kernel
theorem d_Ra_init_53 : decode b_Ra_init 53 = .ok (.return_, 1) := by decide +kernel
theorem ds_Ra_init : xDesc y_Ra_init 0 := by decide +kernel

abbrev rm_Ra_init : Room := { frames := 1, cells := 1, slots := 640, locals := 12 }
set_option maxHeartbeats 4000000 in
set_option maxRecDepth 100000 in
/-- Raster() -/
theorem c_Ra_init (l : Launch) (D : va_G) (cI cJ cQ : ClassId) (h : Nat) : xMet l D (xT cI cJ cQ) y_Ra_init b_Ra_init 1 none rm_Ra_init [.ref h] [(h, .inr (2, [.null, .int (iI 0), .int (iI 0), .int (iI 0), .int (iI 0), .int (iI 0), .int (iI 0), .int (iI 0), .int (iI 0)]))] (fun v ws => ∃ (a : Nat), v = none ∧ ws = [(h, .inr (2, [.ref a, .int (iI 0), .int (iI 0), .int (iI 0), .int (iI 1), .int (iI 0), .int (iI 0), .int (iI 0), .int (iI 0)])), (a, .inl (cI, 640, .inl (iA (fun _ => 0))))]) := by
  refine x_met (by decide) (Nat.le_of_ble_eq_true rfl) ?_
  intro p e s m below meth c hx hb hr hml hts hown hlocks hin hF0 A hA hP hD hK ls hl hS
  have hl : lv_has ls 1 [(0, .ref h)] := hl
  refine lv_aload_n hx hb d_Ra_init_0 rfl (lv_at hl 0 rfl) ?_
  refine W.objInit hx hb hown (hts _ kw_91) (hts _ kw_22) (hts _ kw_23) rfl (by rw [hml]; exact hl.1) rfl d_Ra_init_1 (Nat.le_of_ble_eq_true rfl) (Nat.le_of_ble_eq_true rfl) ?_
  refine W.eq (g2 := F0 m 4 ls []) rfl ?_
  refine lv_aload_n hx hb d_Ra_init_4 rfl (lv_at hl 0 rfl) ?_
  refine xi_sipush hx hb d_Ra_init_5 (by decide) ?_
  refine xi_newi (N := 640) hx hb (hts _ kw_126) hK hP hD hS hA rfl (by decide) (by decide) (by decide) d_Ra_init_8 (fun q8 H hP hD hS => ?_)
  have hP : va_P D xcl [(h, .inr (2, [.null, .int (iI 0), .int (iI 0), .int (iI 0), .int (iI 0), .int (iI 0), .int (iI 0), .int (iI 0), .int (iI 0)])), (q8, .inl (cI, 640, .inl (iA (fun _ => 0))))] _ := hP
  have hD : va_D A [(h, .inr (2, [.null, .int (iI 0), .int (iI 0), .int (iI 0), .int (iI 0), .int (iI 0), .int (iI 0), .int (iI 0), .int (iI 0)])), (q8, .inl (cI, 640, .inl (iA (fun _ => 0))))] := hD
  refine W.widen (k := 1) (n := 640) (by decide) (by decide) ?_
  refine va_putF (D := D) (cl := xcl) (ci := 2) (v := .ref q8) (ty := .array (.int)) (C := R_Ra) (T := T_Ra) (N := 9) hx hb hts i_Ra ty_Ra ty_Ra_ok nm_Ra hown hK hP hD hS 0 rfl rfl 0 (by decide) (hts _ kw_92) (fun _ h9 => h9) rfl hin rfl (by decide +kernel) rfl rfl (Nat.le_of_ble_eq_true rfl) d_Ra_init_10 (fun H locs hP hD hS => ?_)
  have hP : va_P D xcl [(h, .inr (2, [.ref q8, .int (iI 0), .int (iI 0), .int (iI 0), .int (iI 0), .int (iI 0), .int (iI 0), .int (iI 0), .int (iI 0)])), (q8, .inl (cI, 640, .inl (iA (fun _ => 0))))] _ := hP
  have hD : va_D A [(h, .inr (2, [.ref q8, .int (iI 0), .int (iI 0), .int (iI 0), .int (iI 0), .int (iI 0), .int (iI 0), .int (iI 0), .int (iI 0)])), (q8, .inl (cI, 640, .inl (iA (fun _ => 0))))] := hD
  refine lv_aload_n hx hb d_Ra_init_13 rfl (lv_at hl 0 rfl) ?_
  refine xi_iconst hx hb d_Ra_init_14 ?_
  refine va_put (D := D) (cl := xcl) (ci := 2) (v := .int (iI 0)) (ty := .boolean) (C := R_Ra) (T := T_Ra) (N := 9) hx hb hts i_Ra ty_Ra ty_Ra_ok nm_Ra hown hK hP hD hS 0 rfl rfl 1 (by decide) (hts _ kw_94) (fun _ h9 => h9) rfl (by decide +kernel) rfl rfl (Nat.le_of_ble_eq_true rfl) d_Ra_init_15 (fun H locs hP hD hS => ?_)
  have hP : va_P D xcl [(h, .inr (2, [.ref q8, .int (iI 0), .int (iI 0), .int (iI 0), .int (iI 0), .int (iI 0), .int (iI 0), .int (iI 0), .int (iI 0)])), (q8, .inl (cI, 640, .inl (iA (fun _ => 0))))] _ := hP
  have hD : va_D A [(h, .inr (2, [.ref q8, .int (iI 0), .int (iI 0), .int (iI 0), .int (iI 0), .int (iI 0), .int (iI 0), .int (iI 0), .int (iI 0)])), (q8, .inl (cI, 640, .inl (iA (fun _ => 0))))] := hD
  refine lv_aload_n hx hb d_Ra_init_18 rfl (lv_at hl 0 rfl) ?_
  refine xi_iconst hx hb d_Ra_init_19 ?_
  refine va_put (D := D) (cl := xcl) (ci := 2) (v := .int (iI 0)) (ty := .int) (C := R_Ra) (T := T_Ra) (N := 9) hx hb hts i_Ra ty_Ra ty_Ra_ok nm_Ra hown hK hP hD hS 0 rfl rfl 2 (by decide) (hts _ kw_96) (fun _ h9 => h9) rfl (by decide +kernel) rfl rfl (Nat.le_of_ble_eq_true rfl) d_Ra_init_20 (fun H locs hP hD hS => ?_)
  have hP : va_P D xcl [(h, .inr (2, [.ref q8, .int (iI 0), .int (iI 0), .int (iI 0), .int (iI 0), .int (iI 0), .int (iI 0), .int (iI 0), .int (iI 0)])), (q8, .inl (cI, 640, .inl (iA (fun _ => 0))))] _ := hP
  have hD : va_D A [(h, .inr (2, [.ref q8, .int (iI 0), .int (iI 0), .int (iI 0), .int (iI 0), .int (iI 0), .int (iI 0), .int (iI 0), .int (iI 0)])), (q8, .inl (cI, 640, .inl (iA (fun _ => 0))))] := hD
  refine lv_aload_n hx hb d_Ra_init_23 rfl (lv_at hl 0 rfl) ?_
  refine xi_iconst hx hb d_Ra_init_24 ?_
  refine va_put (D := D) (cl := xcl) (ci := 2) (v := .int (iI 0)) (ty := .int) (C := R_Ra) (T := T_Ra) (N := 9) hx hb hts i_Ra ty_Ra ty_Ra_ok nm_Ra hown hK hP hD hS 0 rfl rfl 3 (by decide) (hts _ kw_97) (fun _ h9 => h9) rfl (by decide +kernel) rfl rfl (Nat.le_of_ble_eq_true rfl) d_Ra_init_25 (fun H locs hP hD hS => ?_)
  have hP : va_P D xcl [(h, .inr (2, [.ref q8, .int (iI 0), .int (iI 0), .int (iI 0), .int (iI 0), .int (iI 0), .int (iI 0), .int (iI 0), .int (iI 0)])), (q8, .inl (cI, 640, .inl (iA (fun _ => 0))))] _ := hP
  have hD : va_D A [(h, .inr (2, [.ref q8, .int (iI 0), .int (iI 0), .int (iI 0), .int (iI 0), .int (iI 0), .int (iI 0), .int (iI 0), .int (iI 0)])), (q8, .inl (cI, 640, .inl (iA (fun _ => 0))))] := hD
  refine lv_aload_n hx hb d_Ra_init_28 rfl (lv_at hl 0 rfl) ?_
  refine xi_iconst hx hb d_Ra_init_29 ?_
  refine va_put (D := D) (cl := xcl) (ci := 2) (v := .int (iI 1)) (ty := .int) (C := R_Ra) (T := T_Ra) (N := 9) hx hb hts i_Ra ty_Ra ty_Ra_ok nm_Ra hown hK hP hD hS 0 rfl rfl 4 (by decide) (hts _ kw_98) (fun _ h9 => h9) rfl (by decide +kernel) rfl rfl (Nat.le_of_ble_eq_true rfl) d_Ra_init_30 (fun H locs hP hD hS => ?_)
  have hP : va_P D xcl [(h, .inr (2, [.ref q8, .int (iI 0), .int (iI 0), .int (iI 0), .int (iI 1), .int (iI 0), .int (iI 0), .int (iI 0), .int (iI 0)])), (q8, .inl (cI, 640, .inl (iA (fun _ => 0))))] _ := hP
  have hD : va_D A [(h, .inr (2, [.ref q8, .int (iI 0), .int (iI 0), .int (iI 0), .int (iI 1), .int (iI 0), .int (iI 0), .int (iI 0), .int (iI 0)])), (q8, .inl (cI, 640, .inl (iA (fun _ => 0))))] := hD
  refine lv_aload_n hx hb d_Ra_init_33 rfl (lv_at hl 0 rfl) ?_
  refine xi_iconst hx hb d_Ra_init_34 ?_
  refine va_put (D := D) (cl := xcl) (ci := 2) (v := .int (iI 0)) (ty := .int) (C := R_Ra) (T := T_Ra) (N := 9) hx hb hts i_Ra ty_Ra ty_Ra_ok nm_Ra hown hK hP hD hS 0 rfl rfl 5 (by decide) (hts _ kw_101) (fun _ h9 => h9) rfl (by decide +kernel) rfl rfl (Nat.le_of_ble_eq_true rfl) d_Ra_init_35 (fun H locs hP hD hS => ?_)
  have hP : va_P D xcl [(h, .inr (2, [.ref q8, .int (iI 0), .int (iI 0), .int (iI 0), .int (iI 1), .int (iI 0), .int (iI 0), .int (iI 0), .int (iI 0)])), (q8, .inl (cI, 640, .inl (iA (fun _ => 0))))] _ := hP
  have hD : va_D A [(h, .inr (2, [.ref q8, .int (iI 0), .int (iI 0), .int (iI 0), .int (iI 1), .int (iI 0), .int (iI 0), .int (iI 0), .int (iI 0)])), (q8, .inl (cI, 640, .inl (iA (fun _ => 0))))] := hD
  refine lv_aload_n hx hb d_Ra_init_38 rfl (lv_at hl 0 rfl) ?_
  refine xi_iconst hx hb d_Ra_init_39 ?_
  refine va_put (D := D) (cl := xcl) (ci := 2) (v := .int (iI 0)) (ty := .int) (C := R_Ra) (T := T_Ra) (N := 9) hx hb hts i_Ra ty_Ra ty_Ra_ok nm_Ra hown hK hP hD hS 0 rfl rfl 6 (by decide) (hts _ kw_102) (fun _ h9 => h9) rfl (by decide +kernel) rfl rfl (Nat.le_of_ble_eq_true rfl) d_Ra_init_40 (fun H locs hP hD hS => ?_)
  have hP : va_P D xcl [(h, .inr (2, [.ref q8, .int (iI 0), .int (iI 0), .int (iI 0), .int (iI 1), .int (iI 0), .int (iI 0), .int (iI 0), .int (iI 0)])), (q8, .inl (cI, 640, .inl (iA (fun _ => 0))))] _ := hP
  have hD : va_D A [(h, .inr (2, [.ref q8, .int (iI 0), .int (iI 0), .int (iI 0), .int (iI 1), .int (iI 0), .int (iI 0), .int (iI 0), .int (iI 0)])), (q8, .inl (cI, 640, .inl (iA (fun _ => 0))))] := hD
  refine lv_aload_n hx hb d_Ra_init_43 rfl (lv_at hl 0 rfl) ?_
  refine xi_iconst hx hb d_Ra_init_44 ?_
  refine va_put (D := D) (cl := xcl) (ci := 2) (v := .int (iI 0)) (ty := .int) (C := R_Ra) (T := T_Ra) (N := 9) hx hb hts i_Ra ty_Ra ty_Ra_ok nm_Ra hown hK hP hD hS 0 rfl rfl 7 (by decide) (hts _ kw_103) (fun _ h9 => h9) rfl (by decide +kernel) rfl rfl (Nat.le_of_ble_eq_true rfl) d_Ra_init_45 (fun H locs hP hD hS => ?_)
  have hP : va_P D xcl [(h, .inr (2, [.ref q8, .int (iI 0), .int (iI 0), .int (iI 0), .int (iI 1), .int (iI 0), .int (iI 0), .int (iI 0), .int (iI 0)])), (q8, .inl (cI, 640, .inl (iA (fun _ => 0))))] _ := hP
  have hD : va_D A [(h, .inr (2, [.ref q8, .int (iI 0), .int (iI 0), .int (iI 0), .int (iI 1), .int (iI 0), .int (iI 0), .int (iI 0), .int (iI 0)])), (q8, .inl (cI, 640, .inl (iA (fun _ => 0))))] := hD
  refine lv_aload_n hx hb d_Ra_init_48 rfl (lv_at hl 0 rfl) ?_
  refine xi_iconst hx hb d_Ra_init_49 ?_
  refine va_put (D := D) (cl := xcl) (ci := 2) (v := .int (iI 0)) (ty := .int) (C := R_Ra) (T := T_Ra) (N := 9) hx hb hts i_Ra ty_Ra ty_Ra_ok nm_Ra hown hK hP hD hS 0 rfl rfl 8 (by decide) (hts _ kw_105) (fun _ h9 => h9) rfl (by decide +kernel) rfl rfl (Nat.le_of_ble_eq_true rfl) d_Ra_init_50 (fun H locs hP hD hS => ?_)
  have hP : va_P D xcl [(h, .inr (2, [.ref q8, .int (iI 0), .int (iI 0), .int (iI 0), .int (iI 1), .int (iI 0), .int (iI 0), .int (iI 0), .int (iI 0)])), (q8, .inl (cI, 640, .inl (iA (fun _ => 0))))] _ := hP
  have hD : va_D A [(h, .inr (2, [.ref q8, .int (iI 0), .int (iI 0), .int (iI 0), .int (iI 1), .int (iI 0), .int (iI 0), .int (iI 0), .int (iI 0)])), (q8, .inl (cI, 640, .inl (iA (fun _ => 0))))] := hD
  exact x_vret hx hb hr hlocks hP hD hS (by decide) (by decide) ⟨q8, rfl, rfl⟩ d_Ra_init_53

theorem d_Ra_clearSeed_0 : decode b_Ra_clearSeed 0 = .ok (.aload_n 0, 1) := by decide +kernel
theorem d_Ra_clearSeed_1 : decode b_Ra_clearSeed 1 = .ok (.getfield 9, 3) := by decide +kernel
theorem d_Ra_clearSeed_4 : decode b_Ra_clearSeed 4 = .ok (.iconst 0, 1) := by decide +kernel
theorem d_Ra_clearSeed_5 : decode b_Ra_clearSeed 5 = .ok (.invokestatic 50, 3) := by decide +kernel
theorem d_Ra_clearSeed_8 : decode b_Ra_clearSeed 8 = .ok (.return_, 1) := by decide +kernel
theorem ds_Ra_clearSeed : xDesc y_Ra_clearSeed 0 := by decide +kernel

abbrev rm_Ra_clearSeed : Room := { frames := 1, cells := 0, slots := 0, locals := 23 }
set_option maxHeartbeats 4000000 in
set_option maxRecDepth 100000 in
/-- Raster.clearSeed -/
theorem c_Ra_clearSeed (l : Launch) (D : va_G) (cI cJ cQ : ClassId) (h : Nat) (a : Nat) (B : Nat → Int) (op : Int) (x : Int) (y : Int) (sc : Int) (wd : Int) (ht : Int) (ln : Int) (rw : Int) : xMet l D (xT cI cJ cQ) y_Ra_clearSeed b_Ra_clearSeed 1 none rm_Ra_clearSeed [.ref h] [(h, .inr (2, [.ref a, .int (iI op), .int (iI x), .int (iI y), .int (iI sc), .int (iI wd), .int (iI ht), .int (iI ln), .int (iI rw)])), (a, .inl (cI, 640, .inl (iA B)))] (fun v ws => v = none ∧ ws = [(h, .inr (2, [.ref a, .int (iI op), .int (iI x), .int (iI y), .int (iI sc), .int (iI wd), .int (iI ht), .int (iI ln), .int (iI rw)])), (a, .inl (cI, 640, .inl (iA (fun _ => 0))))]) := by
  refine x_met (by decide) (Nat.le_of_ble_eq_true rfl) ?_
  intro p e s m below meth c hx hb hr hml hts hown hlocks hin hF0 A hA hP hD hK ls hl hS
  have hl : lv_has ls 1 [(0, .ref h)] := hl
  refine lv_aload_n hx hb d_Ra_clearSeed_0 rfl (lv_at hl 0 rfl) ?_
  refine va_get (D := D) (cl := xcl) (ci := 2) (v := .ref a) (C := R_Ra) (T := T_Ra) (N := 9) hx hb hts i_Ra hown hK hP 0 rfl rfl 0 (by decide) (hts _ kw_92) (fun _ h9 => h9) rfl d_Ra_clearSeed_1 ?_
  refine xi_iconst hx hb d_Ra_clearSeed_4 ?_
  refine x_aft (x_runS (As := [.ref a, .int (iI 0)]) (rest := []) hx hb hml hown hts (c_Ar_fillI l D cI cJ cQ a 640 B 0 (by omega)) kw_200 kw_201 kw_8 kw_202 ds_Ar_fillI (by decide) hK (hP.sub (ws' := [(a, .inl (cI, 640, .inl (iA B)))]) [1] rfl) (hD.sub (ws' := [(a, .inl (cI, 640, .inl (iA B)))]) [1] (by decide) rfl) hl.1 rfl (Nat.le_of_ble_eq_true rfl) d_Ra_clearSeed_5) hP hD hS hA [1] [0] rfl (wr := [(h, .inr (2, [.ref a, .int (iI op), .int (iI x), .int (iI y), .int (iI sc), .int (iI wd), .int (iI ht), .int (iI ln), .int (iI rw)]))]) rfl (by decide) (by decide) (fun v w1 H locs hq hP hD hS => ?_)
  obtain ⟨rfl, rfl⟩ := hq
  refine W.cs (cells' := 0) (slots' := 0) rfl rfl ?_
  refine W.eq (g2 := F0 m 8 ls []) rfl ?_
  have hP : va_P D xcl [(h, .inr (2, [.ref a, .int (iI op), .int (iI x), .int (iI y), .int (iI sc), .int (iI wd), .int (iI ht), .int (iI ln), .int (iI rw)])), (a, .inl (cI, 640, .inl (iA (fun _ => 0))))] _ := hP
  have hD : va_D A [(h, .inr (2, [.ref a, .int (iI op), .int (iI x), .int (iI y), .int (iI sc), .int (iI wd), .int (iI ht), .int (iI ln), .int (iI rw)])), (a, .inl (cI, 640, .inl (iA (fun _ => 0))))] := hD
  exact x_vret hx hb hr hlocks hP hD hS (by decide) (by decide) ⟨rfl, rfl⟩ d_Ra_clearSeed_8

theorem d_Ra_begin_0 : decode b_Ra_begin 0 = .ok (.aload_n 0, 1) := by decide +kernel
theorem d_Ra_begin_1 : decode b_Ra_begin 1 = .ok (.iconst 1, 1) := by decide +kernel
theorem d_Ra_begin_2 : decode b_Ra_begin 2 = .ok (.putfield 15, 3) := by decide +kernel
theorem d_Ra_begin_5 : decode b_Ra_begin 5 = .ok (.aload_n 0, 1) := by decide +kernel
theorem d_Ra_begin_6 : decode b_Ra_begin 6 = .ok (.iload_n 1, 1) := by decide +kernel
theorem d_Ra_begin_7 : decode b_Ra_begin 7 = .ok (.putfield 19, 3) := by decide +kernel
theorem d_Ra_begin_10 : decode b_Ra_begin 10 = .ok (.aload_n 0, 1) := by decide +kernel
theorem d_Ra_begin_11 : decode b_Ra_begin 11 = .ok (.iload_n 2, 1) := by decide +kernel
theorem d_Ra_begin_12 : decode b_Ra_begin 12 = .ok (.putfield 23, 3) := by decide +kernel
theorem d_Ra_begin_15 : decode b_Ra_begin 15 = .ok (.aload_n 0, 1) := by decide +kernel
theorem d_Ra_begin_16 : decode b_Ra_begin 16 = .ok (.iload_n 3, 1) := by decide +kernel
theorem d_Ra_begin_17 : decode b_Ra_begin 17 = .ok (.putfield 26, 3) := by decide +kernel
theorem d_Ra_begin_20 : decode b_Ra_begin 20 = .ok (.aload_n 0, 1) := by decide +kernel
theorem d_Ra_begin_21 : decode b_Ra_begin 21 = .ok (.iconst 0, 1) := by decide +kernel
theorem d_Ra_begin_22 : decode b_Ra_begin 22 = .ok (.putfield 38, 3) := by decide +kernel
theorem d_Ra_begin_25 : decode b_Ra_begin 25 = .ok (.aload_n 0, 1) := by decide +kernel
theorem d_Ra_begin_26 : decode b_Ra_begin 26 = .ok (.invokevirtual 41, 3) := by decide +kernel
theorem d_Ra_begin_29 : decode b_Ra_begin 29 = .ok (.return_, 1) := by decide +kernel
theorem ds_Ra_begin : xDesc y_Ra_begin 3 := by decide +kernel

abbrev rm_Ra_begin : Room := { frames := 2, cells := 0, slots := 0, locals := 43 }
set_option maxHeartbeats 4000000 in
set_option maxRecDepth 100000 in
/-- Raster.begin -/
theorem c_Ra_begin (l : Launch) (D : va_G) (cI cJ cQ : ClassId) (h : Nat) (a : Nat) (B : Nat → Int) (op : Int) (x : Int) (y : Int) (sc : Int) (wd : Int) (ht : Int) (ln : Int) (rw : Int) (x2 : Int) (y2 : Int) (s2 : Int) : xMet l D (xT cI cJ cQ) y_Ra_begin b_Ra_begin 4 none rm_Ra_begin [.ref h, .int (iI x2), .int (iI y2), .int (iI s2)] [(h, .inr (2, [.ref a, .int (iI op), .int (iI x), .int (iI y), .int (iI sc), .int (iI wd), .int (iI ht), .int (iI ln), .int (iI rw)])), (a, .inl (cI, 640, .inl (iA B)))] (fun v ws => v = none ∧ ws = [(h, .inr (2, [.ref a, .int (iI 1), .int (iI x2), .int (iI y2), .int (iI s2), .int (iI wd), .int (iI ht), .int (iI ln), .int (iI 0)])), (a, .inl (cI, 640, .inl (iA (fun _ => 0))))]) := by
  refine x_met (by decide) (Nat.le_of_ble_eq_true rfl) ?_
  intro p e s m below meth c hx hb hr hml hts hown hlocks hin hF0 A hA hP hD hK ls hl hS
  have hl : lv_has ls 4 [(0, .ref h), (1, .int (iI x2)), (2, .int (iI y2)), (3, .int (iI s2))] := hl
  refine lv_aload_n hx hb d_Ra_begin_0 rfl (lv_at hl 0 rfl) ?_
  refine xi_iconst hx hb d_Ra_begin_1 ?_
  refine va_put (D := D) (cl := xcl) (ci := 2) (v := .int (iI 1)) (ty := .boolean) (C := R_Ra) (T := T_Ra) (N := 9) hx hb hts i_Ra ty_Ra ty_Ra_ok nm_Ra hown hK hP hD hS 0 rfl rfl 1 (by decide) (hts _ kw_94) (fun _ h9 => h9) rfl (by decide +kernel) rfl rfl (Nat.le_of_ble_eq_true rfl) d_Ra_begin_2 (fun H locs hP hD hS => ?_)
  have hP : va_P D xcl [(h, .inr (2, [.ref a, .int (iI 1), .int (iI x), .int (iI y), .int (iI sc), .int (iI wd), .int (iI ht), .int (iI ln), .int (iI rw)])), (a, .inl (cI, 640, .inl (iA B)))] _ := hP
  have hD : va_D A [(h, .inr (2, [.ref a, .int (iI 1), .int (iI x), .int (iI y), .int (iI sc), .int (iI wd), .int (iI ht), .int (iI ln), .int (iI rw)])), (a, .inl (cI, 640, .inl (iA B)))] := hD
  refine lv_aload_n hx hb d_Ra_begin_5 rfl (lv_at hl 0 rfl) ?_
  refine lv_iload_n hx hb d_Ra_begin_6 rfl (lv_at hl 1 rfl) ?_
  refine va_put (D := D) (cl := xcl) (ci := 2) (v := .int (iI x2)) (ty := .int) (C := R_Ra) (T := T_Ra) (N := 9) hx hb hts i_Ra ty_Ra ty_Ra_ok nm_Ra hown hK hP hD hS 0 rfl rfl 2 (by decide) (hts _ kw_96) (fun _ h9 => h9) rfl (by decide +kernel) rfl rfl (Nat.le_of_ble_eq_true rfl) d_Ra_begin_7 (fun H locs hP hD hS => ?_)
  have hP : va_P D xcl [(h, .inr (2, [.ref a, .int (iI 1), .int (iI x2), .int (iI y), .int (iI sc), .int (iI wd), .int (iI ht), .int (iI ln), .int (iI rw)])), (a, .inl (cI, 640, .inl (iA B)))] _ := hP
  have hD : va_D A [(h, .inr (2, [.ref a, .int (iI 1), .int (iI x2), .int (iI y), .int (iI sc), .int (iI wd), .int (iI ht), .int (iI ln), .int (iI rw)])), (a, .inl (cI, 640, .inl (iA B)))] := hD
  refine lv_aload_n hx hb d_Ra_begin_10 rfl (lv_at hl 0 rfl) ?_
  refine lv_iload_n hx hb d_Ra_begin_11 rfl (lv_at hl 2 rfl) ?_
  refine va_put (D := D) (cl := xcl) (ci := 2) (v := .int (iI y2)) (ty := .int) (C := R_Ra) (T := T_Ra) (N := 9) hx hb hts i_Ra ty_Ra ty_Ra_ok nm_Ra hown hK hP hD hS 0 rfl rfl 3 (by decide) (hts _ kw_97) (fun _ h9 => h9) rfl (by decide +kernel) rfl rfl (Nat.le_of_ble_eq_true rfl) d_Ra_begin_12 (fun H locs hP hD hS => ?_)
  have hP : va_P D xcl [(h, .inr (2, [.ref a, .int (iI 1), .int (iI x2), .int (iI y2), .int (iI sc), .int (iI wd), .int (iI ht), .int (iI ln), .int (iI rw)])), (a, .inl (cI, 640, .inl (iA B)))] _ := hP
  have hD : va_D A [(h, .inr (2, [.ref a, .int (iI 1), .int (iI x2), .int (iI y2), .int (iI sc), .int (iI wd), .int (iI ht), .int (iI ln), .int (iI rw)])), (a, .inl (cI, 640, .inl (iA B)))] := hD
  refine lv_aload_n hx hb d_Ra_begin_15 rfl (lv_at hl 0 rfl) ?_
  refine lv_iload_n hx hb d_Ra_begin_16 rfl (lv_at hl 3 rfl) ?_
  refine va_put (D := D) (cl := xcl) (ci := 2) (v := .int (iI s2)) (ty := .int) (C := R_Ra) (T := T_Ra) (N := 9) hx hb hts i_Ra ty_Ra ty_Ra_ok nm_Ra hown hK hP hD hS 0 rfl rfl 4 (by decide) (hts _ kw_98) (fun _ h9 => h9) rfl (by decide +kernel) rfl rfl (Nat.le_of_ble_eq_true rfl) d_Ra_begin_17 (fun H locs hP hD hS => ?_)
  have hP : va_P D xcl [(h, .inr (2, [.ref a, .int (iI 1), .int (iI x2), .int (iI y2), .int (iI s2), .int (iI wd), .int (iI ht), .int (iI ln), .int (iI rw)])), (a, .inl (cI, 640, .inl (iA B)))] _ := hP
  have hD : va_D A [(h, .inr (2, [.ref a, .int (iI 1), .int (iI x2), .int (iI y2), .int (iI s2), .int (iI wd), .int (iI ht), .int (iI ln), .int (iI rw)])), (a, .inl (cI, 640, .inl (iA B)))] := hD
  refine lv_aload_n hx hb d_Ra_begin_20 rfl (lv_at hl 0 rfl) ?_
  refine xi_iconst hx hb d_Ra_begin_21 ?_
  refine va_put (D := D) (cl := xcl) (ci := 2) (v := .int (iI 0)) (ty := .int) (C := R_Ra) (T := T_Ra) (N := 9) hx hb hts i_Ra ty_Ra ty_Ra_ok nm_Ra hown hK hP hD hS 0 rfl rfl 8 (by decide) (hts _ kw_105) (fun _ h9 => h9) rfl (by decide +kernel) rfl rfl (Nat.le_of_ble_eq_true rfl) d_Ra_begin_22 (fun H locs hP hD hS => ?_)
  have hP : va_P D xcl [(h, .inr (2, [.ref a, .int (iI 1), .int (iI x2), .int (iI y2), .int (iI s2), .int (iI wd), .int (iI ht), .int (iI ln), .int (iI 0)])), (a, .inl (cI, 640, .inl (iA B)))] _ := hP
  have hD : va_D A [(h, .inr (2, [.ref a, .int (iI 1), .int (iI x2), .int (iI y2), .int (iI s2), .int (iI wd), .int (iI ht), .int (iI ln), .int (iI 0)])), (a, .inl (cI, 640, .inl (iA B)))] := hD
  refine lv_aload_n hx hb d_Ra_begin_25 rfl (lv_at hl 0 rfl) ?_
  refine x_aft (x_runV (C := "RasterRows$Raster") (As := []) (rest := []) (ci := 2) (q0 := 0) hx hb hml hown hts (c_Ra_clearSeed l D cI cJ cQ h a B 1 x2 y2 s2 wd ht ln 0 ) kw_196 kw_197 kw_198 kw_5 kw_199 ds_Ra_clearSeed (by decide) hK (hP.sub (ws' := [(h, .inr (2, [.ref a, .int (iI 1), .int (iI x2), .int (iI y2), .int (iI s2), .int (iI wd), .int (iI ht), .int (iI ln), .int (iI 0)])), (a, .inl (cI, 640, .inl (iA B)))]) [0, 1] rfl) (hD.sub (ws' := [(h, .inr (2, [.ref a, .int (iI 1), .int (iI x2), .int (iI y2), .int (iI s2), .int (iI wd), .int (iI ht), .int (iI ln), .int (iI 0)])), (a, .inl (cI, 640, .inl (iA B)))]) [0, 1] (by decide) rfl) rfl rfl rfl hl.1 rfl (Nat.le_of_ble_eq_true rfl) d_Ra_begin_26) hP hD hS hA [0, 1] [] rfl (wr := []) rfl (by decide) (by decide) (fun v w1 H locs hq hP hD hS => ?_)
  obtain ⟨rfl, rfl⟩ := hq
  refine W.cs (cells' := 0) (slots' := 0) rfl rfl ?_
  refine W.eq (g2 := F0 m 29 ls []) rfl ?_
  have hP : va_P D xcl [(h, .inr (2, [.ref a, .int (iI 1), .int (iI x2), .int (iI y2), .int (iI s2), .int (iI wd), .int (iI ht), .int (iI ln), .int (iI 0)])), (a, .inl (cI, 640, .inl (iA (fun _ => 0))))] _ := hP
  have hD : va_D A [(h, .inr (2, [.ref a, .int (iI 1), .int (iI x2), .int (iI y2), .int (iI s2), .int (iI wd), .int (iI ht), .int (iI ln), .int (iI 0)])), (a, .inl (cI, 640, .inl (iA (fun _ => 0))))] := hD
  exact x_vret hx hb hr hlocks hP hD hS (by decide) (by decide) ⟨rfl, rfl⟩ d_Ra_begin_29

theorem d_Ra_limit_0 : decode b_Ra_limit 0 = .ok (.aload_n 0, 1) := by decide +kernel
theorem d_Ra_limit_1 : decode b_Ra_limit 1 = .ok (.iload_n 1, 1) := by decide +kernel
theorem d_Ra_limit_2 : decode b_Ra_limit 2 = .ok (.putfield 29, 3) := by decide +kernel
theorem d_Ra_limit_5 : decode b_Ra_limit 5 = .ok (.aload_n 0, 1) := by decide +kernel
theorem d_Ra_limit_6 : decode b_Ra_limit 6 = .ok (.iload_n 2, 1) := by decide +kernel
theorem d_Ra_limit_7 : decode b_Ra_limit 7 = .ok (.putfield 32, 3) := by decide +kernel
theorem d_Ra_limit_10 : decode b_Ra_limit 10 = .ok (.aload_n 0, 1) := by decide +kernel
theorem d_Ra_limit_11 : decode b_Ra_limit 11 = .ok (.iload_n 1, 1) := by decide +kernel
theorem d_Ra_limit_12 : decode b_Ra_limit 12 = .ok (.ifCond .le 19, 3) := by decide +kernel
theorem d_Ra_limit_15 : decode b_Ra_limit 15 = .ok (.iload_n 1, 1) := by decide +kernel
theorem d_Ra_limit_16 : decode b_Ra_limit 16 = .ok (.bipush 7, 2) := by decide +kernel
theorem d_Ra_limit_18 : decode b_Ra_limit 18 = .ok (.iadd, 1) := by decide +kernel
theorem d_Ra_limit_19 : decode b_Ra_limit 19 = .ok (.bipush 8, 2) := by decide +kernel
theorem d_Ra_limit_21 : decode b_Ra_limit 21 = .ok (.idiv, 1) := by decide +kernel
theorem d_Ra_limit_22 : decode b_Ra_limit 22 = .ok (.sipush 640, 3) := by decide +kernel
theorem d_Ra_limit_25 : decode b_Ra_limit 25 = .ok (.invokestatic 44, 3) := by decide +kernel
theorem d_Ra_limit_28 : decode b_Ra_limit 28 = .ok (.goto 6, 3) := by decide +kernel
theorem d_Ra_limit_31 : decode b_Ra_limit 31 = .ok (.sipush 640, 3) := by decide +kernel
theorem d_Ra_limit_34 : decode b_Ra_limit 34 = .ok (.putfield 35, 3) := by decide +kernel
theorem d_Ra_limit_37 : decode b_Ra_limit 37 = .ok (.return_, 1) := by decide +kernel
theorem ds_Ra_limit : xDesc y_Ra_limit 2 := by decide +kernel

abbrev rm_Ra_limit : Room := { frames := 1, cells := 0, slots := 0, locals := 14 }
set_option maxHeartbeats 4000000 in
set_option maxRecDepth 100000 in
/-- Raster.limit -/
theorem c_Ra_limit (l : Launch) (D : va_G) (cI cJ cQ : ClassId) (h : Nat) (a : Nat) (B : Nat → Int) (op : Int) (x : Int) (y : Int) (sc : Int) (wd : Int) (ht : Int) (ln : Int) (rw : Int) (w2 : Int) (t2 : Int) (hw : 0 ≤ w2 ∧ w2 ≤ 5119) : xMet l D (xT cI cJ cQ) y_Ra_limit b_Ra_limit 3 none rm_Ra_limit [.ref h, .int (iI w2), .int (iI t2)] [(h, .inr (2, [.ref a, .int (iI op), .int (iI x), .int (iI y), .int (iI sc), .int (iI wd), .int (iI ht), .int (iI ln), .int (iI rw)])), (a, .inl (cI, 640, .inl (iA B)))] (fun v ws => ∃ (l2 : Int), v = none ∧ ws = [(h, .inr (2, [.ref a, .int (iI op), .int (iI x), .int (iI y), .int (iI sc), .int (iI w2), .int (iI t2), .int (iI l2), .int (iI rw)])), (a, .inl (cI, 640, .inl (iA B)))] ∧ ((0 < w2 ∧ l2 = (w2 + 7) / 8) ∨ (w2 = 0 ∧ l2 = 640))) := by
  refine x_met (by decide) (Nat.le_of_ble_eq_true rfl) ?_
  intro p e s m below meth c hx hb hr hml hts hown hlocks hin hF0 A hA hP hD hK ls hl hS
  have hl : lv_has ls 3 [(0, .ref h), (1, .int (iI w2)), (2, .int (iI t2))] := hl
  refine lv_aload_n hx hb d_Ra_limit_0 rfl (lv_at hl 0 rfl) ?_
  refine lv_iload_n hx hb d_Ra_limit_1 rfl (lv_at hl 1 rfl) ?_
  refine va_put (D := D) (cl := xcl) (ci := 2) (v := .int (iI w2)) (ty := .int) (C := R_Ra) (T := T_Ra) (N := 9) hx hb hts i_Ra ty_Ra ty_Ra_ok nm_Ra hown hK hP hD hS 0 rfl rfl 5 (by decide) (hts _ kw_101) (fun _ h9 => h9) rfl (by decide +kernel) rfl rfl (Nat.le_of_ble_eq_true rfl) d_Ra_limit_2 (fun H locs hP hD hS => ?_)
  have hP : va_P D xcl [(h, .inr (2, [.ref a, .int (iI op), .int (iI x), .int (iI y), .int (iI sc), .int (iI w2), .int (iI ht), .int (iI ln), .int (iI rw)])), (a, .inl (cI, 640, .inl (iA B)))] _ := hP
  have hD : va_D A [(h, .inr (2, [.ref a, .int (iI op), .int (iI x), .int (iI y), .int (iI sc), .int (iI w2), .int (iI ht), .int (iI ln), .int (iI rw)])), (a, .inl (cI, 640, .inl (iA B)))] := hD
  refine lv_aload_n hx hb d_Ra_limit_5 rfl (lv_at hl 0 rfl) ?_
  refine lv_iload_n hx hb d_Ra_limit_6 rfl (lv_at hl 2 rfl) ?_
  refine va_put (D := D) (cl := xcl) (ci := 2) (v := .int (iI t2)) (ty := .int) (C := R_Ra) (T := T_Ra) (N := 9) hx hb hts i_Ra ty_Ra ty_Ra_ok nm_Ra hown hK hP hD hS 0 rfl rfl 6 (by decide) (hts _ kw_102) (fun _ h9 => h9) rfl (by decide +kernel) rfl rfl (Nat.le_of_ble_eq_true rfl) d_Ra_limit_7 (fun H locs hP hD hS => ?_)
  have hP : va_P D xcl [(h, .inr (2, [.ref a, .int (iI op), .int (iI x), .int (iI y), .int (iI sc), .int (iI w2), .int (iI t2), .int (iI ln), .int (iI rw)])), (a, .inl (cI, 640, .inl (iA B)))] _ := hP
  have hD : va_D A [(h, .inr (2, [.ref a, .int (iI op), .int (iI x), .int (iI y), .int (iI sc), .int (iI w2), .int (iI t2), .int (iI ln), .int (iI rw)])), (a, .inl (cI, 640, .inl (iA B)))] := hD
  refine lv_aload_n hx hb d_Ra_limit_10 rfl (lv_at hl 0 rfl) ?_
  refine lv_iload_n hx hb d_Ra_limit_11 rfl (lv_at hl 1 rfl) ?_
  refine xi_if_le (tgt := 31) hx hb d_Ra_limit_12 (by decide) ⟨by omega, by omega⟩ (fun c_12 => ?_) (fun c_12 => ?_)
  ·
    refine xi_sipush hx hb d_Ra_limit_31 (by decide) ?_
    refine va_put (D := D) (cl := xcl) (ci := 2) (v := .int (iI 640)) (ty := .int) (C := R_Ra) (T := T_Ra) (N := 9) hx hb hts i_Ra ty_Ra ty_Ra_ok nm_Ra hown hK hP hD hS 0 rfl rfl 7 (by decide) (hts _ kw_103) (fun _ h9 => h9) rfl (by decide +kernel) rfl rfl (Nat.le_of_ble_eq_true rfl) d_Ra_limit_34 (fun H locs hP hD hS => ?_)
    have hP : va_P D xcl [(h, .inr (2, [.ref a, .int (iI op), .int (iI x), .int (iI y), .int (iI sc), .int (iI w2), .int (iI t2), .int (iI 640), .int (iI rw)])), (a, .inl (cI, 640, .inl (iA B)))] _ := hP
    have hD : va_D A [(h, .inr (2, [.ref a, .int (iI op), .int (iI x), .int (iI y), .int (iI sc), .int (iI w2), .int (iI t2), .int (iI 640), .int (iI rw)])), (a, .inl (cI, 640, .inl (iA B)))] := hD
    exact x_vret hx hb hr hlocks hP hD hS (by decide) (by decide) ⟨640, rfl, rfl, by omega⟩ d_Ra_limit_37
  ·
    refine lv_iload_n hx hb d_Ra_limit_15 rfl (lv_at hl 1 rfl) ?_
    refine xi_bipush hx hb d_Ra_limit_16 (by decide) ?_
    refine xi_iadd hx hb d_Ra_limit_18 ?_
    refine xi_bipush hx hb d_Ra_limit_19 (by decide) ?_
    refine xi_idiv hx hb d_Ra_limit_21 ⟨by omega, by omega⟩ ⟨by omega, by omega⟩ ?_
    refine xi_sipush hx hb d_Ra_limit_22 (by decide) ?_
    refine xi_mmin hx hb (hml.trans hl.1.symm) hown hts kw_207 (by decide) (Nat.le_of_ble_eq_true rfl) (by decide) (by decide) ⟨by omega, by omega⟩ ⟨by decide, by decide⟩ d_Ra_limit_25 ?_
    refine lv_goto (tgt := 34) hx hb d_Ra_limit_28 (by decide) ?_
    refine va_put (D := D) (cl := xcl) (ci := 2) (v := .int (iI (min ((w2 + 7) / 8) 640))) (ty := .int) (C := R_Ra) (T := T_Ra) (N := 9) hx hb hts i_Ra ty_Ra ty_Ra_ok nm_Ra hown hK hP hD hS 0 rfl rfl 7 (by decide) (hts _ kw_103) (fun _ h9 => h9) rfl (by decide +kernel) rfl rfl (Nat.le_of_ble_eq_true rfl) d_Ra_limit_34 (fun H locs hP hD hS => ?_)
    have hP : va_P D xcl [(h, .inr (2, [.ref a, .int (iI op), .int (iI x), .int (iI y), .int (iI sc), .int (iI w2), .int (iI t2), .int (iI (min ((w2 + 7) / 8) 640)), .int (iI rw)])), (a, .inl (cI, 640, .inl (iA B)))] _ := hP
    have hD : va_D A [(h, .inr (2, [.ref a, .int (iI op), .int (iI x), .int (iI y), .int (iI sc), .int (iI w2), .int (iI t2), .int (iI (min ((w2 + 7) / 8) 640)), .int (iI rw)])), (a, .inl (cI, 640, .inl (iA B)))] := hD
    exact x_vret hx hb hr hlocks hP hD hS (by decide) (by decide) ⟨(min ((w2 + 7) / 8) 640), rfl, rfl, by omega⟩ d_Ra_limit_37

theorem d_Ra_end_0 : decode b_Ra_end 0 = .ok (.aload_n 0, 1) := by decide +kernel
theorem d_Ra_end_1 : decode b_Ra_end 1 = .ok (.iconst 0, 1) := by decide +kernel
theorem d_Ra_end_2 : decode b_Ra_end 2 = .ok (.putfield 15, 3) := by decide +kernel
theorem d_Ra_end_5 : decode b_Ra_end 5 = .ok (.aload_n 0, 1) := by decide +kernel
theorem d_Ra_end_6 : decode b_Ra_end 6 = .ok (.getfield 32, 3) := by decide +kernel
theorem d_Ra_end_9 : decode b_Ra_end 9 = .ok (.ifCond .le 11, 3) := by decide +kernel
theorem d_Ra_end_12 : decode b_Ra_end 12 = .ok (.aload_n 0, 1) := by decide +kernel
theorem d_Ra_end_13 : decode b_Ra_end 13 = .ok (.aload_n 0, 1) := by decide +kernel
theorem d_Ra_end_14 : decode b_Ra_end 14 = .ok (.getfield 32, 3) := by decide +kernel
theorem d_Ra_end_17 : decode b_Ra_end 17 = .ok (.putfield 38, 3) := by decide +kernel
theorem d_Ra_end_20 : decode b_Ra_end 20 = .ok (.return_, 1) := by decide +kernel
theorem ds_Ra_end : xDesc y_Ra_end 0 := by decide +kernel

abbrev rm_Ra_end : Room := { frames := 0, cells := 0, slots := 0, locals := 0 }
set_option maxHeartbeats 4000000 in
set_option maxRecDepth 100000 in
/-- Raster.end -/
theorem c_Ra_end (l : Launch) (D : va_G) (cI cJ cQ : ClassId) (h : Nat) (a : Nat) (B : Nat → Int) (op : Int) (x : Int) (y : Int) (sc : Int) (wd : Int) (ht : Int) (ln : Int) (rw : Int) (hh : 0 ≤ ht ∧ ht ≤ 5119) : xMet l D (xT cI cJ cQ) y_Ra_end b_Ra_end 1 none rm_Ra_end [.ref h] [(h, .inr (2, [.ref a, .int (iI op), .int (iI x), .int (iI y), .int (iI sc), .int (iI wd), .int (iI ht), .int (iI ln), .int (iI rw)])), (a, .inl (cI, 640, .inl (iA B)))] (fun v ws => ∃ (r2 : Int), v = none ∧ ws = [(h, .inr (2, [.ref a, .int (iI 0), .int (iI x), .int (iI y), .int (iI sc), .int (iI wd), .int (iI ht), .int (iI ln), .int (iI r2)])), (a, .inl (cI, 640, .inl (iA B)))] ∧ ((0 < ht ∧ r2 = ht) ∨ (ht = 0 ∧ r2 = rw))) := by
  refine x_met (by decide) (Nat.le_of_ble_eq_true rfl) ?_
  intro p e s m below meth c hx hb hr hml hts hown hlocks hin hF0 A hA hP hD hK ls hl hS
  have hl : lv_has ls 1 [(0, .ref h)] := hl
  refine lv_aload_n hx hb d_Ra_end_0 rfl (lv_at hl 0 rfl) ?_
  refine xi_iconst hx hb d_Ra_end_1 ?_
  refine va_put (D := D) (cl := xcl) (ci := 2) (v := .int (iI 0)) (ty := .boolean) (C := R_Ra) (T := T_Ra) (N := 9) hx hb hts i_Ra ty_Ra ty_Ra_ok nm_Ra hown hK hP hD hS 0 rfl rfl 1 (by decide) (hts _ kw_94) (fun _ h9 => h9) rfl (by decide +kernel) rfl rfl (Nat.le_of_ble_eq_true rfl) d_Ra_end_2 (fun H locs hP hD hS => ?_)
  have hP : va_P D xcl [(h, .inr (2, [.ref a, .int (iI 0), .int (iI x), .int (iI y), .int (iI sc), .int (iI wd), .int (iI ht), .int (iI ln), .int (iI rw)])), (a, .inl (cI, 640, .inl (iA B)))] _ := hP
  have hD : va_D A [(h, .inr (2, [.ref a, .int (iI 0), .int (iI x), .int (iI y), .int (iI sc), .int (iI wd), .int (iI ht), .int (iI ln), .int (iI rw)])), (a, .inl (cI, 640, .inl (iA B)))] := hD
  refine lv_aload_n hx hb d_Ra_end_5 rfl (lv_at hl 0 rfl) ?_
  refine va_get (D := D) (cl := xcl) (ci := 2) (v := .int (iI ht)) (C := R_Ra) (T := T_Ra) (N := 9) hx hb hts i_Ra hown hK hP 0 rfl rfl 6 (by decide) (hts _ kw_102) (fun _ h9 => h9) rfl d_Ra_end_6 ?_
  refine xi_if_le (tgt := 20) hx hb d_Ra_end_9 (by decide) ⟨by omega, by omega⟩ (fun c_9 => ?_) (fun c_9 => ?_)
  ·
    exact x_vret hx hb hr hlocks hP hD hS (by decide) (by decide) ⟨rw, rfl, rfl, by omega⟩ d_Ra_end_20
  ·
    refine lv_aload_n hx hb d_Ra_end_12 rfl (lv_at hl 0 rfl) ?_
    refine lv_aload_n hx hb d_Ra_end_13 rfl (lv_at hl 0 rfl) ?_
    refine va_get (D := D) (cl := xcl) (ci := 2) (v := .int (iI ht)) (C := R_Ra) (T := T_Ra) (N := 9) hx hb hts i_Ra hown hK hP 0 rfl rfl 6 (by decide) (hts _ kw_102) (fun _ h9 => h9) rfl d_Ra_end_14 ?_
    refine va_put (D := D) (cl := xcl) (ci := 2) (v := .int (iI ht)) (ty := .int) (C := R_Ra) (T := T_Ra) (N := 9) hx hb hts i_Ra ty_Ra ty_Ra_ok nm_Ra hown hK hP hD hS 0 rfl rfl 8 (by decide) (hts _ kw_105) (fun _ h9 => h9) rfl (by decide +kernel) rfl rfl (Nat.le_of_ble_eq_true rfl) d_Ra_end_17 (fun H locs hP hD hS => ?_)
    have hP : va_P D xcl [(h, .inr (2, [.ref a, .int (iI 0), .int (iI x), .int (iI y), .int (iI sc), .int (iI wd), .int (iI ht), .int (iI ln), .int (iI ht)])), (a, .inl (cI, 640, .inl (iA B)))] _ := hP
    have hD : va_D A [(h, .inr (2, [.ref a, .int (iI 0), .int (iI x), .int (iI y), .int (iI sc), .int (iI wd), .int (iI ht), .int (iI ln), .int (iI ht)])), (a, .inl (cI, 640, .inl (iA B)))] := hD
    exact x_vret hx hb hr hlocks hP hD hS (by decide) (by decide) ⟨ht, rfl, rfl, by omega⟩ d_Ra_end_20

theorem d_Ra_hasAllRows_0 : decode b_Ra_hasAllRows 0 = .ok (.aload_n 0, 1) := by decide +kernel
theorem d_Ra_hasAllRows_1 : decode b_Ra_hasAllRows 1 = .ok (.getfield 32, 3) := by decide +kernel
theorem d_Ra_hasAllRows_4 : decode b_Ra_hasAllRows 4 = .ok (.ifCond .le 18, 3) := by decide +kernel
theorem d_Ra_hasAllRows_7 : decode b_Ra_hasAllRows 7 = .ok (.aload_n 0, 1) := by decide +kernel
theorem d_Ra_hasAllRows_8 : decode b_Ra_hasAllRows 8 = .ok (.getfield 38, 3) := by decide +kernel
theorem d_Ra_hasAllRows_11 : decode b_Ra_hasAllRows 11 = .ok (.aload_n 0, 1) := by decide +kernel
theorem d_Ra_hasAllRows_12 : decode b_Ra_hasAllRows 12 = .ok (.getfield 32, 3) := by decide +kernel
theorem d_Ra_hasAllRows_15 : decode b_Ra_hasAllRows 15 = .ok (.if_icmp .lt 7, 3) := by decide +kernel
theorem d_Ra_hasAllRows_18 : decode b_Ra_hasAllRows 18 = .ok (.iconst 1, 1) := by decide +kernel
theorem d_Ra_hasAllRows_19 : decode b_Ra_hasAllRows 19 = .ok (.goto 4, 3) := by decide +kernel
theorem d_Ra_hasAllRows_22 : decode b_Ra_hasAllRows 22 = .ok (.iconst 0, 1) := by decide +kernel
theorem d_Ra_hasAllRows_23 : decode b_Ra_hasAllRows 23 = .ok (.ireturn, 1) := by decide +kernel
theorem ds_Ra_hasAllRows : xDesc y_Ra_hasAllRows 0 := by decide +kernel

abbrev rm_Ra_hasAllRows : Room := { frames := 0, cells := 0, slots := 0, locals := 0 }
set_option maxHeartbeats 4000000 in
set_option maxRecDepth 100000 in
/-- Raster.hasAllRows -/
theorem c_Ra_hasAllRows (l : Launch) (D : va_G) (cI cJ cQ : ClassId) (h : Nat) (a : Nat) (B : Nat → Int) (op : Int) (x : Int) (y : Int) (sc : Int) (wd : Int) (ht : Int) (ln : Int) (rw : Int) (hh : 0 ≤ ht ∧ ht ≤ 5119) (hrw : 0 ≤ rw ∧ rw ≤ 1000000000) : xMet l D (xT cI cJ cQ) y_Ra_hasAllRows b_Ra_hasAllRows 1 (some .boolean) rm_Ra_hasAllRows [.ref h] [(h, .inr (2, [.ref a, .int (iI op), .int (iI x), .int (iI y), .int (iI sc), .int (iI wd), .int (iI ht), .int (iI ln), .int (iI rw)])), (a, .inl (cI, 640, .inl (iA B)))] (fun v ws => ∃ (r : Int), v = some (.int (iI r)) ∧ ws = [(h, .inr (2, [.ref a, .int (iI op), .int (iI x), .int (iI y), .int (iI sc), .int (iI wd), .int (iI ht), .int (iI ln), .int (iI rw)])), (a, .inl (cI, 640, .inl (iA B)))] ∧ ((r = 1 ∧ 0 < ht ∧ ht ≤ rw) ∨ (r = 0 ∧ (ht = 0 ∨ rw < ht)))) := by
  refine x_met (by decide) (Nat.le_of_ble_eq_true rfl) ?_
  intro p e s m below meth c hx hb hr hml hts hown hlocks hin hF0 A hA hP hD hK ls hl hS
  have hl : lv_has ls 1 [(0, .ref h)] := hl
  refine lv_aload_n hx hb d_Ra_hasAllRows_0 rfl (lv_at hl 0 rfl) ?_
  refine va_get (D := D) (cl := xcl) (ci := 2) (v := .int (iI ht)) (C := R_Ra) (T := T_Ra) (N := 9) hx hb hts i_Ra hown hK hP 0 rfl rfl 6 (by decide) (hts _ kw_102) (fun _ h9 => h9) rfl d_Ra_hasAllRows_1 ?_
  refine xi_if_le (tgt := 22) hx hb d_Ra_hasAllRows_4 (by decide) ⟨by omega, by omega⟩ (fun c_4 => ?_) (fun c_4 => ?_)
  ·
    refine xi_iconst hx hb d_Ra_hasAllRows_22 ?_
    exact x_zret hx hb hr hlocks hP hD hS (by decide) (by decide) rfl ⟨0, rfl, rfl, by omega⟩ d_Ra_hasAllRows_23
  ·
    refine lv_aload_n hx hb d_Ra_hasAllRows_7 rfl (lv_at hl 0 rfl) ?_
    refine va_get (D := D) (cl := xcl) (ci := 2) (v := .int (iI rw)) (C := R_Ra) (T := T_Ra) (N := 9) hx hb hts i_Ra hown hK hP 0 rfl rfl 8 (by decide) (hts _ kw_105) (fun _ h9 => h9) rfl d_Ra_hasAllRows_8 ?_
    refine lv_aload_n hx hb d_Ra_hasAllRows_11 rfl (lv_at hl 0 rfl) ?_
    refine va_get (D := D) (cl := xcl) (ci := 2) (v := .int (iI ht)) (C := R_Ra) (T := T_Ra) (N := 9) hx hb hts i_Ra hown hK hP 0 rfl rfl 6 (by decide) (hts _ kw_102) (fun _ h9 => h9) rfl d_Ra_hasAllRows_12 ?_
    refine xi_icmp_lt (tgt := 22) hx hb d_Ra_hasAllRows_15 (by decide) ⟨by omega, by omega⟩ ⟨by omega, by omega⟩ (fun c_15 => ?_) (fun c_15 => ?_)
    ·
      refine xi_iconst hx hb d_Ra_hasAllRows_22 ?_
      exact x_zret hx hb hr hlocks hP hD hS (by decide) (by decide) rfl ⟨0, rfl, rfl, by omega⟩ d_Ra_hasAllRows_23
    ·
      refine xi_iconst hx hb d_Ra_hasAllRows_18 ?_
      refine lv_goto (tgt := 23) hx hb d_Ra_hasAllRows_19 (by decide) ?_
      exact x_zret hx hb hr hlocks hP hD hS (by decide) (by decide) rfl ⟨1, rfl, rfl, by omega⟩ d_Ra_hasAllRows_23

theorem d_Ra_pass_0 : decode b_Ra_pass 0 = .ok (.aload_n 0, 1) := by decide +kernel
theorem d_Ra_pass_1 : decode b_Ra_pass 1 = .ok (.aload_n 0, 1) := by decide +kernel
theorem d_Ra_pass_2 : decode b_Ra_pass 2 = .ok (.getfield 32, 3) := by decide +kernel
theorem d_Ra_pass_5 : decode b_Ra_pass 5 = .ok (.ifCond .le 19, 3) := by decide +kernel
theorem d_Ra_pass_8 : decode b_Ra_pass 8 = .ok (.aload_n 0, 1) := by decide +kernel
theorem d_Ra_pass_9 : decode b_Ra_pass 9 = .ok (.getfield 38, 3) := by decide +kernel
theorem d_Ra_pass_12 : decode b_Ra_pass 12 = .ok (.iload_n 1, 1) := by decide +kernel
theorem d_Ra_pass_13 : decode b_Ra_pass 13 = .ok (.iadd, 1) := by decide +kernel
theorem d_Ra_pass_14 : decode b_Ra_pass 14 = .ok (.aload_n 0, 1) := by decide +kernel
theorem d_Ra_pass_15 : decode b_Ra_pass 15 = .ok (.getfield 32, 3) := by decide +kernel
theorem d_Ra_pass_18 : decode b_Ra_pass 18 = .ok (.invokestatic 44, 3) := by decide +kernel
theorem d_Ra_pass_21 : decode b_Ra_pass 21 = .ok (.goto 9, 3) := by decide +kernel
theorem d_Ra_pass_24 : decode b_Ra_pass 24 = .ok (.aload_n 0, 1) := by decide +kernel
theorem d_Ra_pass_25 : decode b_Ra_pass 25 = .ok (.getfield 38, 3) := by decide +kernel
theorem d_Ra_pass_28 : decode b_Ra_pass 28 = .ok (.iload_n 1, 1) := by decide +kernel
theorem d_Ra_pass_29 : decode b_Ra_pass 29 = .ok (.iadd, 1) := by decide +kernel
theorem d_Ra_pass_30 : decode b_Ra_pass 30 = .ok (.putfield 38, 3) := by decide +kernel
theorem d_Ra_pass_33 : decode b_Ra_pass 33 = .ok (.return_, 1) := by decide +kernel
theorem ds_Ra_pass : xDesc y_Ra_pass 1 := by decide +kernel

abbrev rm_Ra_pass : Room := { frames := 1, cells := 0, slots := 0, locals := 14 }
set_option maxHeartbeats 4000000 in
set_option maxRecDepth 100000 in
/-- Raster.pass -/
theorem c_Ra_pass (l : Launch) (D : va_G) (cI cJ cQ : ClassId) (h : Nat) (a : Nat) (B : Nat → Int) (op : Int) (x : Int) (y : Int) (sc : Int) (wd : Int) (ht : Int) (ln : Int) (rw : Int) (n : Int) (hh : 0 ≤ ht ∧ ht ≤ 5119) (hrw : 0 ≤ rw ∧ rw ≤ 1000000000) (hn : 0 ≤ n ∧ n ≤ 10000) : xMet l D (xT cI cJ cQ) y_Ra_pass b_Ra_pass 2 none rm_Ra_pass [.ref h, .int (iI n)] [(h, .inr (2, [.ref a, .int (iI op), .int (iI x), .int (iI y), .int (iI sc), .int (iI wd), .int (iI ht), .int (iI ln), .int (iI rw)])), (a, .inl (cI, 640, .inl (iA B)))] (fun v ws => ∃ (r2 : Int), v = none ∧ ws = [(h, .inr (2, [.ref a, .int (iI op), .int (iI x), .int (iI y), .int (iI sc), .int (iI wd), .int (iI ht), .int (iI ln), .int (iI r2)])), (a, .inl (cI, 640, .inl (iA B)))] ∧ ((0 < ht ∧ r2 = min (rw + n) ht) ∨ (ht = 0 ∧ r2 = rw + n))) := by
  refine x_met (by decide) (Nat.le_of_ble_eq_true rfl) ?_
  intro p e s m below meth c hx hb hr hml hts hown hlocks hin hF0 A hA hP hD hK ls hl hS
  have hl : lv_has ls 2 [(0, .ref h), (1, .int (iI n))] := hl
  refine lv_aload_n hx hb d_Ra_pass_0 rfl (lv_at hl 0 rfl) ?_
  refine lv_aload_n hx hb d_Ra_pass_1 rfl (lv_at hl 0 rfl) ?_
  refine va_get (D := D) (cl := xcl) (ci := 2) (v := .int (iI ht)) (C := R_Ra) (T := T_Ra) (N := 9) hx hb hts i_Ra hown hK hP 0 rfl rfl 6 (by decide) (hts _ kw_102) (fun _ h9 => h9) rfl d_Ra_pass_2 ?_
  refine xi_if_le (tgt := 24) hx hb d_Ra_pass_5 (by decide) ⟨by omega, by omega⟩ (fun c_5 => ?_) (fun c_5 => ?_)
  ·
    refine lv_aload_n hx hb d_Ra_pass_24 rfl (lv_at hl 0 rfl) ?_
    refine va_get (D := D) (cl := xcl) (ci := 2) (v := .int (iI rw)) (C := R_Ra) (T := T_Ra) (N := 9) hx hb hts i_Ra hown hK hP 0 rfl rfl 8 (by decide) (hts _ kw_105) (fun _ h9 => h9) rfl d_Ra_pass_25 ?_
    refine lv_iload_n hx hb d_Ra_pass_28 rfl (lv_at hl 1 rfl) ?_
    refine xi_iadd hx hb d_Ra_pass_29 ?_
    refine va_put (D := D) (cl := xcl) (ci := 2) (v := .int (iI (rw + n))) (ty := .int) (C := R_Ra) (T := T_Ra) (N := 9) hx hb hts i_Ra ty_Ra ty_Ra_ok nm_Ra hown hK hP hD hS 0 rfl rfl 8 (by decide) (hts _ kw_105) (fun _ h9 => h9) rfl (by decide +kernel) rfl rfl (Nat.le_of_ble_eq_true rfl) d_Ra_pass_30 (fun H locs hP hD hS => ?_)
    have hP : va_P D xcl [(h, .inr (2, [.ref a, .int (iI op), .int (iI x), .int (iI y), .int (iI sc), .int (iI wd), .int (iI ht), .int (iI ln), .int (iI (rw + n))])), (a, .inl (cI, 640, .inl (iA B)))] _ := hP
    have hD : va_D A [(h, .inr (2, [.ref a, .int (iI op), .int (iI x), .int (iI y), .int (iI sc), .int (iI wd), .int (iI ht), .int (iI ln), .int (iI (rw + n))])), (a, .inl (cI, 640, .inl (iA B)))] := hD
    exact x_vret hx hb hr hlocks hP hD hS (by decide) (by decide) ⟨(rw + n), rfl, rfl, by omega⟩ d_Ra_pass_33
  ·
    refine lv_aload_n hx hb d_Ra_pass_8 rfl (lv_at hl 0 rfl) ?_
    refine va_get (D := D) (cl := xcl) (ci := 2) (v := .int (iI rw)) (C := R_Ra) (T := T_Ra) (N := 9) hx hb hts i_Ra hown hK hP 0 rfl rfl 8 (by decide) (hts _ kw_105) (fun _ h9 => h9) rfl d_Ra_pass_9 ?_
    refine lv_iload_n hx hb d_Ra_pass_12 rfl (lv_at hl 1 rfl) ?_
    refine xi_iadd hx hb d_Ra_pass_13 ?_
    refine lv_aload_n hx hb d_Ra_pass_14 rfl (lv_at hl 0 rfl) ?_
    refine va_get (D := D) (cl := xcl) (ci := 2) (v := .int (iI ht)) (C := R_Ra) (T := T_Ra) (N := 9) hx hb hts i_Ra hown hK hP 0 rfl rfl 6 (by decide) (hts _ kw_102) (fun _ h9 => h9) rfl d_Ra_pass_15 ?_
    refine xi_mmin hx hb (hml.trans hl.1.symm) hown hts kw_207 (by decide) (Nat.le_of_ble_eq_true rfl) (by decide) (by decide) ⟨by omega, by omega⟩ ⟨by omega, by omega⟩ d_Ra_pass_18 ?_
    refine lv_goto (tgt := 30) hx hb d_Ra_pass_21 (by decide) ?_
    refine va_put (D := D) (cl := xcl) (ci := 2) (v := .int (iI (min (rw + n) ht))) (ty := .int) (C := R_Ra) (T := T_Ra) (N := 9) hx hb hts i_Ra ty_Ra ty_Ra_ok nm_Ra hown hK hP hD hS 0 rfl rfl 8 (by decide) (hts _ kw_105) (fun _ h9 => h9) rfl (by decide +kernel) rfl rfl (Nat.le_of_ble_eq_true rfl) d_Ra_pass_30 (fun H locs hP hD hS => ?_)
    have hP : va_P D xcl [(h, .inr (2, [.ref a, .int (iI op), .int (iI x), .int (iI y), .int (iI sc), .int (iI wd), .int (iI ht), .int (iI ln), .int (iI (min (rw + n) ht))])), (a, .inl (cI, 640, .inl (iA B)))] _ := hP
    have hD : va_D A [(h, .inr (2, [.ref a, .int (iI op), .int (iI x), .int (iI y), .int (iI sc), .int (iI wd), .int (iI ht), .int (iI ln), .int (iI (min (rw + n) ht))])), (a, .inl (cI, 640, .inl (iA B)))] := hD
    exact x_vret hx hb hr hlocks hP hD hS (by decide) (by decide) ⟨(min (rw + n) ht), rfl, rfl, by omega⟩ d_Ra_pass_33

theorem d_Ra_top_0 : decode b_Ra_top 0 = .ok (.aload_n 0, 1) := by decide +kernel
theorem d_Ra_top_1 : decode b_Ra_top 1 = .ok (.getfield 23, 3) := by decide +kernel
theorem d_Ra_top_4 : decode b_Ra_top 4 = .ok (.aload_n 0, 1) := by decide +kernel
theorem d_Ra_top_5 : decode b_Ra_top 5 = .ok (.getfield 26, 3) := by decide +kernel
theorem d_Ra_top_8 : decode b_Ra_top 8 = .ok (.aload_n 0, 1) := by decide +kernel
theorem d_Ra_top_9 : decode b_Ra_top 9 = .ok (.getfield 38, 3) := by decide +kernel
theorem d_Ra_top_12 : decode b_Ra_top 12 = .ok (.imul, 1) := by decide +kernel
theorem d_Ra_top_13 : decode b_Ra_top 13 = .ok (.iadd, 1) := by decide +kernel
theorem d_Ra_top_14 : decode b_Ra_top 14 = .ok (.ireturn, 1) := by decide +kernel
theorem ds_Ra_top : xDesc y_Ra_top 0 := by decide +kernel

abbrev rm_Ra_top : Room := { frames := 0, cells := 0, slots := 0, locals := 0 }
set_option maxHeartbeats 4000000 in
set_option maxRecDepth 100000 in
/-- Raster.top -/
theorem c_Ra_top (l : Launch) (D : va_G) (cI cJ cQ : ClassId) (h : Nat) (a : Nat) (B : Nat → Int) (op : Int) (x : Int) (y : Int) (sc : Int) (wd : Int) (ht : Int) (ln : Int) (rw : Int) : xMet l D (xT cI cJ cQ) y_Ra_top b_Ra_top 1 (some .int) rm_Ra_top [.ref h] [(h, .inr (2, [.ref a, .int (iI op), .int (iI x), .int (iI y), .int (iI sc), .int (iI wd), .int (iI ht), .int (iI ln), .int (iI rw)])), (a, .inl (cI, 640, .inl (iA B)))] (fun v ws => v = some (.int (iI (y + sc * rw))) ∧ ws = [(h, .inr (2, [.ref a, .int (iI op), .int (iI x), .int (iI y), .int (iI sc), .int (iI wd), .int (iI ht), .int (iI ln), .int (iI rw)])), (a, .inl (cI, 640, .inl (iA B)))]) := by
  refine x_met (by decide) (Nat.le_of_ble_eq_true rfl) ?_
  intro p e s m below meth c hx hb hr hml hts hown hlocks hin hF0 A hA hP hD hK ls hl hS
  have hl : lv_has ls 1 [(0, .ref h)] := hl
  refine lv_aload_n hx hb d_Ra_top_0 rfl (lv_at hl 0 rfl) ?_
  refine va_get (D := D) (cl := xcl) (ci := 2) (v := .int (iI y)) (C := R_Ra) (T := T_Ra) (N := 9) hx hb hts i_Ra hown hK hP 0 rfl rfl 3 (by decide) (hts _ kw_97) (fun _ h9 => h9) rfl d_Ra_top_1 ?_
  refine lv_aload_n hx hb d_Ra_top_4 rfl (lv_at hl 0 rfl) ?_
  refine va_get (D := D) (cl := xcl) (ci := 2) (v := .int (iI sc)) (C := R_Ra) (T := T_Ra) (N := 9) hx hb hts i_Ra hown hK hP 0 rfl rfl 4 (by decide) (hts _ kw_98) (fun _ h9 => h9) rfl d_Ra_top_5 ?_
  refine lv_aload_n hx hb d_Ra_top_8 rfl (lv_at hl 0 rfl) ?_
  refine va_get (D := D) (cl := xcl) (ci := 2) (v := .int (iI rw)) (C := R_Ra) (T := T_Ra) (N := 9) hx hb hts i_Ra hown hK hP 0 rfl rfl 8 (by decide) (hts _ kw_105) (fun _ h9 => h9) rfl d_Ra_top_9 ?_
  refine xi_imul hx hb d_Ra_top_12 ?_
  refine xi_iadd hx hb d_Ra_top_13 ?_
  -- MISMATCH at return 14: [('y + sc * rw', 'y + sc * rw', 'y + (sc * rw)')]
  exact x_iret hx hb hr hlocks hP hD hS (by decide) (by decide) ⟨rfl, rfl⟩ d_Ra_top_14

theorem d_Ra_hasByte_0 : decode b_Ra_hasByte 0 = .ok (.iload_n 1, 1) := by decide +kernel
theorem d_Ra_hasByte_1 : decode b_Ra_hasByte 1 = .ok (.ifCond .lt 24, 3) := by decide +kernel
theorem d_Ra_hasByte_4 : decode b_Ra_hasByte 4 = .ok (.iload_n 1, 1) := by decide +kernel
theorem d_Ra_hasByte_5 : decode b_Ra_hasByte 5 = .ok (.aload_n 0, 1) := by decide +kernel
theorem d_Ra_hasByte_6 : decode b_Ra_hasByte 6 = .ok (.getfield 35, 3) := by decide +kernel
theorem d_Ra_hasByte_9 : decode b_Ra_hasByte 9 = .ok (.if_icmp .ge 16, 3) := by decide +kernel
theorem d_Ra_hasByte_12 : decode b_Ra_hasByte 12 = .ok (.iload_n 1, 1) := by decide +kernel
theorem d_Ra_hasByte_13 : decode b_Ra_hasByte 13 = .ok (.aload_n 0, 1) := by decide +kernel
theorem d_Ra_hasByte_14 : decode b_Ra_hasByte 14 = .ok (.getfield 9, 3) := by decide +kernel
theorem d_Ra_hasByte_17 : decode b_Ra_hasByte 17 = .ok (.arraylength, 1) := by decide +kernel
theorem d_Ra_hasByte_18 : decode b_Ra_hasByte 18 = .ok (.if_icmp .ge 7, 3) := by decide +kernel
theorem d_Ra_hasByte_21 : decode b_Ra_hasByte 21 = .ok (.iconst 1, 1) := by decide +kernel
theorem d_Ra_hasByte_22 : decode b_Ra_hasByte 22 = .ok (.goto 4, 3) := by decide +kernel
theorem d_Ra_hasByte_25 : decode b_Ra_hasByte 25 = .ok (.iconst 0, 1) := by decide +kernel
theorem d_Ra_hasByte_26 : decode b_Ra_hasByte 26 = .ok (.ireturn, 1) := by decide +kernel
theorem ds_Ra_hasByte : xDesc y_Ra_hasByte 1 := by decide +kernel

abbrev rm_Ra_hasByte : Room := { frames := 0, cells := 0, slots := 0, locals := 0 }
set_option maxHeartbeats 4000000 in
set_option maxRecDepth 100000 in
/-- Raster.hasByte -/
theorem c_Ra_hasByte (l : Launch) (D : va_G) (cI cJ cQ : ClassId) (h : Nat) (a : Nat) (B : Nat → Int) (op : Int) (x : Int) (y : Int) (sc : Int) (wd : Int) (ht : Int) (ln : Int) (rw : Int) (i : Int) (hln : 0 ≤ ln ∧ ln ≤ 640) (hi : inR i) : xMet l D (xT cI cJ cQ) y_Ra_hasByte b_Ra_hasByte 2 (some .boolean) rm_Ra_hasByte [.ref h, .int (iI i)] [(h, .inr (2, [.ref a, .int (iI op), .int (iI x), .int (iI y), .int (iI sc), .int (iI wd), .int (iI ht), .int (iI ln), .int (iI rw)])), (a, .inl (cI, 640, .inl (iA B)))] (fun v ws => ∃ (r : Int), v = some (.int (iI r)) ∧ ws = [(h, .inr (2, [.ref a, .int (iI op), .int (iI x), .int (iI y), .int (iI sc), .int (iI wd), .int (iI ht), .int (iI ln), .int (iI rw)])), (a, .inl (cI, 640, .inl (iA B)))] ∧ ((r = 1 ∧ 0 ≤ i ∧ i < ln) ∨ (r = 0 ∧ (i < 0 ∨ ln ≤ i)))) := by
  refine x_met (by decide) (Nat.le_of_ble_eq_true rfl) ?_
  intro p e s m below meth c hx hb hr hml hts hown hlocks hin hF0 A hA hP hD hK ls hl hS
  have hl : lv_has ls 2 [(0, .ref h), (1, .int (iI i))] := hl
  refine lv_iload_n hx hb d_Ra_hasByte_0 rfl (lv_at hl 1 rfl) ?_
  refine xi_if_lt (tgt := 25) hx hb d_Ra_hasByte_1 (by decide) ⟨by omega, by omega⟩ (fun c_1 => ?_) (fun c_1 => ?_)
  ·
    refine xi_iconst hx hb d_Ra_hasByte_25 ?_
    exact x_zret hx hb hr hlocks hP hD hS (by decide) (by decide) rfl ⟨0, rfl, rfl, by omega⟩ d_Ra_hasByte_26
  ·
    refine lv_iload_n hx hb d_Ra_hasByte_4 rfl (lv_at hl 1 rfl) ?_
    refine lv_aload_n hx hb d_Ra_hasByte_5 rfl (lv_at hl 0 rfl) ?_
    refine va_get (D := D) (cl := xcl) (ci := 2) (v := .int (iI ln)) (C := R_Ra) (T := T_Ra) (N := 9) hx hb hts i_Ra hown hK hP 0 rfl rfl 7 (by decide) (hts _ kw_103) (fun _ h9 => h9) rfl d_Ra_hasByte_6 ?_
    refine xi_icmp_ge (tgt := 25) hx hb d_Ra_hasByte_9 (by decide) ⟨by omega, by omega⟩ ⟨by omega, by omega⟩ (fun c_9 => ?_) (fun c_9 => ?_)
    ·
      refine xi_iconst hx hb d_Ra_hasByte_25 ?_
      exact x_zret hx hb hr hlocks hP hD hS (by decide) (by decide) rfl ⟨0, rfl, rfl, by omega⟩ d_Ra_hasByte_26
    ·
      refine lv_iload_n hx hb d_Ra_hasByte_12 rfl (lv_at hl 1 rfl) ?_
      refine lv_aload_n hx hb d_Ra_hasByte_13 rfl (lv_at hl 0 rfl) ?_
      refine va_get (D := D) (cl := xcl) (ci := 2) (v := .ref a) (C := R_Ra) (T := T_Ra) (N := 9) hx hb hts i_Ra hown hK hP 0 rfl rfl 0 (by decide) (hts _ kw_92) (fun _ h9 => h9) rfl d_Ra_hasByte_14 ?_
      refine xi_alen (z := 640) hx hb hK hP 1 0 rfl rfl rfl d_Ra_hasByte_17 ?_
      refine xi_icmp_ge (tgt := 25) hx hb d_Ra_hasByte_18 (by decide) ⟨by omega, by omega⟩ ⟨by decide, by decide⟩ (fun c_18 => ?_) (fun c_18 => ?_)
      ·
        refine xi_iconst hx hb d_Ra_hasByte_25 ?_
        exact x_zret hx hb hr hlocks hP hD hS (by decide) (by decide) rfl ⟨0, rfl, rfl, by omega⟩ d_Ra_hasByte_26
      ·
        refine xi_iconst hx hb d_Ra_hasByte_21 ?_
        refine lv_goto (tgt := 26) hx hb d_Ra_hasByte_22 (by decide) ?_
        exact x_zret hx hb hr hlocks hP hD hS (by decide) (by decide) rfl ⟨1, rfl, rfl, by omega⟩ d_Ra_hasByte_26

theorem d_Ra_put_0 : decode b_Ra_put 0 = .ok (.aload_n 0, 1) := by decide +kernel
theorem d_Ra_put_1 : decode b_Ra_put 1 = .ok (.iload_n 1, 1) := by decide +kernel
theorem d_Ra_put_2 : decode b_Ra_put 2 = .ok (.invokevirtual 56, 3) := by decide +kernel
theorem d_Ra_put_5 : decode b_Ra_put 5 = .ok (.ifCond .eq 10, 3) := by decide +kernel
theorem d_Ra_put_8 : decode b_Ra_put 8 = .ok (.aload_n 0, 1) := by decide +kernel
theorem d_Ra_put_9 : decode b_Ra_put 9 = .ok (.getfield 9, 3) := by decide +kernel
theorem d_Ra_put_12 : decode b_Ra_put 12 = .ok (.iload_n 1, 1) := by decide +kernel
theorem d_Ra_put_13 : decode b_Ra_put 13 = .ok (.iload_n 2, 1) := by decide +kernel
theorem d_Ra_put_14 : decode b_Ra_put 14 = .ok (.iastore, 1) := by decide +kernel
theorem d_Ra_put_15 : decode b_Ra_put 15 = .ok (.return_, 1) := by decide +kernel
theorem ds_Ra_put : xDesc y_Ra_put 2 := by decide +kernel

abbrev rm_Ra_put : Room := { frames := 1, cells := 0, slots := 0, locals := 21 }
set_option maxHeartbeats 4000000 in
set_option maxRecDepth 100000 in
/-- Raster.put -/
theorem c_Ra_put (l : Launch) (D : va_G) (cI cJ cQ : ClassId) (h : Nat) (a : Nat) (B : Nat → Int) (op : Int) (x : Int) (y : Int) (sc : Int) (wd : Int) (ht : Int) (ln : Int) (rw : Int) (pp : Int) (b : Int) (hln : 0 ≤ ln ∧ ln ≤ 640) (hp : inR pp) : xMet l D (xT cI cJ cQ) y_Ra_put b_Ra_put 3 none rm_Ra_put [.ref h, .int (iI pp), .int (iI b)] [(h, .inr (2, [.ref a, .int (iI op), .int (iI x), .int (iI y), .int (iI sc), .int (iI wd), .int (iI ht), .int (iI ln), .int (iI rw)])), (a, .inl (cI, 640, .inl (iA B)))] (fun v ws => ∃ (B2 : Nat → Int), v = none ∧ ws = [(h, .inr (2, [.ref a, .int (iI op), .int (iI x), .int (iI y), .int (iI sc), .int (iI wd), .int (iI ht), .int (iI ln), .int (iI rw)])), (a, .inl (cI, 640, .inl (iA B2)))] ∧ (B2 = putB B ln pp b)) := by
  refine x_met (by decide) (Nat.le_of_ble_eq_true rfl) ?_
  intro p e s m below meth c hx hb hr hml hts hown hlocks hin hF0 A hA hP hD hK ls hl hS
  have hl : lv_has ls 3 [(0, .ref h), (1, .int (iI pp)), (2, .int (iI b))] := hl
  refine lv_aload_n hx hb d_Ra_put_0 rfl (lv_at hl 0 rfl) ?_
  refine lv_iload_n hx hb d_Ra_put_1 rfl (lv_at hl 1 rfl) ?_
  refine x_aft (x_runV (C := "RasterRows$Raster") (As := [.int (iI pp)]) (rest := []) (ci := 2) (q0 := 0) hx hb hml hown hts (c_Ra_hasByte l D cI cJ cQ h a B op x y sc wd ht ln rw pp (hln) (hp)) kw_363 kw_252 kw_253 kw_5 kw_254 ds_Ra_hasByte (by decide) hK (hP.sub (ws' := [(h, .inr (2, [.ref a, .int (iI op), .int (iI x), .int (iI y), .int (iI sc), .int (iI wd), .int (iI ht), .int (iI ln), .int (iI rw)])), (a, .inl (cI, 640, .inl (iA B)))]) [0, 1] rfl) (hD.sub (ws' := [(h, .inr (2, [.ref a, .int (iI op), .int (iI x), .int (iI y), .int (iI sc), .int (iI wd), .int (iI ht), .int (iI ln), .int (iI rw)])), (a, .inl (cI, 640, .inl (iA B)))]) [0, 1] (by decide) rfl) rfl rfl rfl hl.1 rfl (Nat.le_of_ble_eq_true rfl) d_Ra_put_2) hP hD hS hA [0, 1] [] rfl (wr := []) rfl (by decide) (by decide) (fun v w1 H locs hq hP hD hS => ?_)
  obtain ⟨r_2, rfl, rfl, hr_2⟩ := hq
  refine W.cs (cells' := 0) (slots' := 0) rfl rfl ?_
  refine W.eq (g2 := F0 m 5 ls [.int (iI r_2)]) rfl ?_
  have hP : va_P D xcl [(h, .inr (2, [.ref a, .int (iI op), .int (iI x), .int (iI y), .int (iI sc), .int (iI wd), .int (iI ht), .int (iI ln), .int (iI rw)])), (a, .inl (cI, 640, .inl (iA B)))] _ := hP
  have hD : va_D A [(h, .inr (2, [.ref a, .int (iI op), .int (iI x), .int (iI y), .int (iI sc), .int (iI wd), .int (iI ht), .int (iI ln), .int (iI rw)])), (a, .inl (cI, 640, .inl (iA B)))] := hD
  refine xi_if_eq (tgt := 15) hx hb d_Ra_put_5 (by decide) ⟨by omega, by omega⟩ (fun c_5 => ?_) (fun c_5 => ?_)
  ·
    exact x_vret hx hb hr hlocks hP hD hS (by decide) (by decide) ⟨B, rfl, rfl, (if_neg (by omega)).symm⟩ d_Ra_put_15
  ·
    refine lv_aload_n hx hb d_Ra_put_8 rfl (lv_at hl 0 rfl) ?_
    refine va_get (D := D) (cl := xcl) (ci := 2) (v := .ref a) (C := R_Ra) (T := T_Ra) (N := 9) hx hb hts i_Ra hown hK hP 0 rfl rfl 0 (by decide) (hts _ kw_92) (fun _ h9 => h9) rfl d_Ra_put_9 ?_
    refine lv_iload_n hx hb d_Ra_put_12 rfl (lv_at hl 1 rfl) ?_
    refine lv_iload_n hx hb d_Ra_put_13 rfl (lv_at hl 2 rfl) ?_
    refine xi_iast hx hb hK hP hD hS 1 0 rfl rfl (by omega) (by omega) (by omega) d_Ra_put_14 (fun H locs hP hD hS => ?_)
    have hP : va_P D xcl [(h, .inr (2, [.ref a, .int (iI op), .int (iI x), .int (iI y), .int (iI sc), .int (iI wd), .int (iI ht), .int (iI ln), .int (iI rw)])), (a, .inl (cI, 640, .inl (iA (va_up B pp.toNat b))))] _ := hP
    have hD : va_D A [(h, .inr (2, [.ref a, .int (iI op), .int (iI x), .int (iI y), .int (iI sc), .int (iI wd), .int (iI ht), .int (iI ln), .int (iI rw)])), (a, .inl (cI, 640, .inl (iA (va_up B pp.toNat b))))] := hD
    exact x_vret hx hb hr hlocks hP hD hS (by decide) (by decide) ⟨(va_up B pp.toNat b), rfl, rfl, (if_pos (by omega)).symm⟩ d_Ra_put_15

theorem d_Ra_repeat_0 : decode b_Ra_repeat 0 = .ok (.iload_n 1, 1) := by decide +kernel
theorem d_Ra_repeat_1 : decode b_Ra_repeat 1 = .ok (.iload_n 2, 1) := by decide +kernel
theorem d_Ra_repeat_2 : decode b_Ra_repeat 2 = .ok (.iadd, 1) := by decide +kernel
theorem d_Ra_repeat_3 : decode b_Ra_repeat 3 = .ok (.aload_n 0, 1) := by decide +kernel
theorem d_Ra_repeat_4 : decode b_Ra_repeat 4 = .ok (.getfield 35, 3) := by decide +kernel
theorem d_Ra_repeat_7 : decode b_Ra_repeat 7 = .ok (.invokestatic 44, 3) := by decide +kernel
theorem d_Ra_repeat_10 : decode b_Ra_repeat 10 = .ok (.istore 4, 2) := by decide +kernel
theorem d_Ra_repeat_12 : decode b_Ra_repeat 12 = .ok (.iload_n 1, 1) := by decide +kernel
theorem d_Ra_repeat_13 : decode b_Ra_repeat 13 = .ok (.istore 5, 2) := by decide +kernel
theorem d_Ra_repeat_15 : decode b_Ra_repeat 15 = .ok (.iload 5, 2) := by decide +kernel
theorem d_Ra_repeat_17 : decode b_Ra_repeat 17 = .ok (.iload 4, 2) := by decide +kernel
theorem d_Ra_repeat_19 : decode b_Ra_repeat 19 = .ok (.if_icmp .ge 16, 3) := by decide +kernel
theorem d_Ra_repeat_22 : decode b_Ra_repeat 22 = .ok (.aload_n 0, 1) := by decide +kernel
theorem d_Ra_repeat_23 : decode b_Ra_repeat 23 = .ok (.iload 5, 2) := by decide +kernel
theorem d_Ra_repeat_25 : decode b_Ra_repeat 25 = .ok (.iload_n 3, 1) := by decide +kernel
theorem d_Ra_repeat_26 : decode b_Ra_repeat 26 = .ok (.invokevirtual 60, 3) := by decide +kernel
theorem d_Ra_repeat_29 : decode b_Ra_repeat 29 = .ok (.iinc 5 1, 3) := by decide +kernel
theorem d_Ra_repeat_32 : decode b_Ra_repeat 32 = .ok (.goto (-17), 3) := by decide +kernel
theorem d_Ra_repeat_35 : decode b_Ra_repeat 35 = .ok (.return_, 1) := by decide +kernel
theorem ds_Ra_repeat : xDesc y_Ra_repeat 3 := by decide +kernel

abbrev rm_Ra_repeat : Room := { frames := 2, cells := 0, slots := 0, locals := 43 }
set_option maxHeartbeats 4000000 in
set_option maxRecDepth 100000 in
/-- Raster.repeat -/
theorem c_Ra_repeat (l : Launch) (D : va_G) (cI cJ cQ : ClassId) (h : Nat) (a : Nat) (B : Nat → Int) (op : Int) (x : Int) (y : Int) (sc : Int) (wd : Int) (ht : Int) (ln : Int) (rw : Int) (pp : Int) (t : Int) (b : Int) (hln : 0 ≤ ln ∧ ln ≤ 640) (hp : 0 ≤ pp ∧ pp ≤ 100000000) (ht_ : 0 ≤ t ∧ t ≤ 1000) : xMet l D (xT cI cJ cQ) y_Ra_repeat b_Ra_repeat 6 none rm_Ra_repeat [.ref h, .int (iI pp), .int (iI t), .int (iI b)] [(h, .inr (2, [.ref a, .int (iI op), .int (iI x), .int (iI y), .int (iI sc), .int (iI wd), .int (iI ht), .int (iI ln), .int (iI rw)])), (a, .inl (cI, 640, .inl (iA B)))] (fun v ws => ∃ (B2 : Nat → Int), v = none ∧ ws = [(h, .inr (2, [.ref a, .int (iI op), .int (iI x), .int (iI y), .int (iI sc), .int (iI wd), .int (iI ht), .int (iI ln), .int (iI rw)])), (a, .inl (cI, 640, .inl (iA B2)))] ∧ (B2 = fillB B ln pp t b)) := by
  refine x_met (by decide) (Nat.le_of_ble_eq_true rfl) ?_
  intro p e s m below meth c hx hb hr hml hts hown hlocks hin hF0 A hA hP hD hK ls hl hS
  have hl : lv_has ls 6 [(0, .ref h), (1, .int (iI pp)), (2, .int (iI t)), (3, .int (iI b))] := hl
  refine lv_iload_n hx hb d_Ra_repeat_0 rfl (lv_at hl 1 rfl) ?_
  refine lv_iload_n hx hb d_Ra_repeat_1 rfl (lv_at hl 2 rfl) ?_
  refine xi_iadd hx hb d_Ra_repeat_2 ?_
  refine lv_aload_n hx hb d_Ra_repeat_3 rfl (lv_at hl 0 rfl) ?_
  refine va_get (D := D) (cl := xcl) (ci := 2) (v := .int (iI ln)) (C := R_Ra) (T := T_Ra) (N := 9) hx hb hts i_Ra hown hK hP 0 rfl rfl 7 (by decide) (hts _ kw_103) (fun _ h9 => h9) rfl d_Ra_repeat_4 ?_
  refine xi_mmin hx hb (hml.trans hl.1.symm) hown hts kw_207 (by decide) (Nat.le_of_ble_eq_true rfl) (by decide) (by decide) ⟨by omega, by omega⟩ ⟨by omega, by omega⟩ d_Ra_repeat_7 ?_
  refine lv_istore (lv' := [(4, .int (iI (min (pp + t) ln))), (0, .ref h), (1, .int (iI pp)), (2, .int (iI t)), (3, .int (iI b))]) hx hb d_Ra_repeat_10 hl (by decide) rfl (fun ls hl => ?_)
  refine lv_iload_n hx hb d_Ra_repeat_12 rfl (lv_at hl 2 rfl) ?_
  refine lv_istore (lv' := [(5, .int (iI pp)), (4, .int (iI (min (pp + t) ln))), (0, .ref h), (1, .int (iI pp)), (2, .int (iI t)), (3, .int (iI b))]) hx hb d_Ra_repeat_13 hl (by decide) rfl (fun ls hl => ?_)
  refine x_loop2 (fun (i : Int) (B2 : Nat → Int) H locs ls => (pp ≤ i) ∧ (i = pp ∨ i ≤ min (pp + t) ln) ∧ (B2 = fillB B ln pp (i - pp) b) ∧ va_P D xcl [(h, .inr (2, [.ref a, .int (iI op), .int (iI x), .int (iI y), .int (iI sc), .int (iI wd), .int (iI ht), .int (iI ln), .int (iI rw)])), (a, .inl (cI, 640, .inl (iA B2)))] H ∧ va_D A [(h, .inr (2, [.ref a, .int (iI op), .int (iI x), .int (iI y), .int (iI sc), .int (iI wd), .int (iI ht), .int (iI ln), .int (iI rw)])), (a, .inl (cI, 640, .inl (iA B2)))] ∧ va_S A s.heap H locs ∧ lv_has ls 6 [(5, .int (iI i)), (4, .int (iI (min (pp + t) ln))), (0, .ref h), (1, .int (iI pp)), (2, .int (iI t)), (3, .int (iI b))]) (fun (i : Int) (B2 : Nat → Int) => (min (pp + t) ln - i).toNat) pp B ⟨by omega, by omega, (fillB_0 (by omega)).symm, hP, hD, hS, hl⟩ ?_
  intro i B2 H locs ls hI ih_15
  obtain ⟨k1, k2, k3, hP, hD, hS, hl⟩ := hI
  refine lv_iload hx hb d_Ra_repeat_15 (lv_at hl 0 rfl) ?_
  refine lv_iload hx hb d_Ra_repeat_17 (lv_at hl 1 rfl) ?_
  refine xi_icmp_ge (tgt := 35) hx hb d_Ra_repeat_19 (by decide) ⟨by omega, by omega⟩ ⟨by omega, by omega⟩ (fun c_19 => ?_) (fun c_19 => ?_)
  ·
    exact x_vret hx hb hr hlocks hP hD hS (by decide) (by decide) ⟨B2, rfl, rfl, by rw [k3]; exact fillB_end (by omega)⟩ d_Ra_repeat_35
  ·
    refine lv_aload_n hx hb d_Ra_repeat_22 rfl (lv_at hl 2 rfl) ?_
    refine lv_iload hx hb d_Ra_repeat_23 (lv_at hl 0 rfl) ?_
    refine lv_iload_n hx hb d_Ra_repeat_25 rfl (lv_at hl 5 rfl) ?_
    refine x_aft (x_runV (C := "RasterRows$Raster") (As := [.int (iI i), .int (iI b)]) (rest := []) (ci := 2) (q0 := 0) hx hb hml hown hts (c_Ra_put l D cI cJ cQ h a B2 op x y sc wd ht ln rw i b (hln) (⟨by omega, by omega⟩)) kw_373 kw_360 kw_361 kw_5 kw_362 ds_Ra_put (by decide) hK (hP.sub (ws' := [(h, .inr (2, [.ref a, .int (iI op), .int (iI x), .int (iI y), .int (iI sc), .int (iI wd), .int (iI ht), .int (iI ln), .int (iI rw)])), (a, .inl (cI, 640, .inl (iA B2)))]) [0, 1] rfl) (hD.sub (ws' := [(h, .inr (2, [.ref a, .int (iI op), .int (iI x), .int (iI y), .int (iI sc), .int (iI wd), .int (iI ht), .int (iI ln), .int (iI rw)])), (a, .inl (cI, 640, .inl (iA B2)))]) [0, 1] (by decide) rfl) rfl rfl rfl hl.1 rfl (Nat.le_of_ble_eq_true rfl) d_Ra_repeat_26) hP hD hS hA [0, 1] [] rfl (wr := []) rfl (by decide) (by decide) (fun v w1 H locs hq hP hD hS => ?_)
    obtain ⟨B2_26, rfl, rfl, hB2_26⟩ := hq
    refine W.cs (cells' := 0) (slots' := 0) rfl rfl ?_
    refine W.eq (g2 := F0 m 29 ls []) rfl ?_
    have hP : va_P D xcl [(h, .inr (2, [.ref a, .int (iI op), .int (iI x), .int (iI y), .int (iI sc), .int (iI wd), .int (iI ht), .int (iI ln), .int (iI rw)])), (a, .inl (cI, 640, .inl (iA B2_26)))] _ := hP
    have hD : va_D A [(h, .inr (2, [.ref a, .int (iI op), .int (iI x), .int (iI y), .int (iI sc), .int (iI wd), .int (iI ht), .int (iI ln), .int (iI rw)])), (a, .inl (cI, 640, .inl (iA B2_26)))] := hD
    refine xi_iinc (lv' := [(5, .int (iI (i + 1))), (4, .int (iI (min (pp + t) ln))), (0, .ref h), (1, .int (iI pp)), (2, .int (iI t)), (3, .int (iI b))]) hx hb d_Ra_repeat_29 hl (k := 0) rfl (by decide) rfl (fun ls hl => ?_)
    refine lv_goto (tgt := 15) hx hb d_Ra_repeat_32 (by decide) ?_
    exact ih_15 (i + 1) B2_26 _ _ _ (by omega) ⟨by omega, by omega, by rw [hB2_26, k3]; exact fillB_step k1 hp.1 (by omega), hP, hD, hS, hl⟩
