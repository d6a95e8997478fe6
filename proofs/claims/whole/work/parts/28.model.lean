theorem d_Mo_thrown_0 : decode b_Mo_thrown 0 = .ok (.aload_n 0, 1) := by decide +kernel
theorem d_Mo_thrown_1 : decode b_Mo_thrown 1 = .ok (.getfield 36, 3) := by decide +kernel
theorem d_Mo_thrown_4 : decode b_Mo_thrown 4 = .ok (.ireturn, 1) := by decide +kernel
theorem ds_Mo_thrown : xDesc y_Mo_thrown 0 := by decide +kernel

abbrev rm_Mo_thrown : Room := { frames := 0, cells := 0, slots := 0, locals := 0 }
set_option maxHeartbeats 4000000 in
set_option maxRecDepth 100000 in
/-- Model.thrown -/
theorem c_Mo_thrown (l : Launch) (D : va_G) (cI cJ cQ : ClassId) (q : Nat) (th : Int) (ac : Int) (dI : Int) (dp : Int) (sa : Nat) (bk : Int) (rs : Int) (nW : Int) (nH : Int) (mt : Int) (op : Int) (x : Int) (y : Int) (wd : Int) (ht : Int) (sc : Int) (rw : Int) (ln : Int) (ea : Nat) (fa : Nat) (ca : Nat) (ct : Int) (kr : Int) (kb : Int) (ov : Int) : xMet l D (xT cI cJ cQ) y_Mo_thrown b_Mo_thrown 1 (some .int) rm_Mo_thrown [.ref q] [(q, .inr (5, [.int (iI th), .int (iI ac), .int (iI dI), .int (iI dp), .ref sa, .int (iI bk), .int (iI rs), .int (iI nW), .int (iI nH), .int (iI mt), .int (iI op), .int (iI x), .int (iI y), .int (iI wd), .int (iI ht), .int (iI sc), .int (iI rw), .int (iI ln), .ref ea, .ref fa, .ref ca, .int (iI ct), .int (iI kr), .int (iI kb), .int (iI ov)]))] (fun v ws => v = some (.int (iI th)) ∧ ws = [(q, .inr (5, [.int (iI th), .int (iI ac), .int (iI dI), .int (iI dp), .ref sa, .int (iI bk), .int (iI rs), .int (iI nW), .int (iI nH), .int (iI mt), .int (iI op), .int (iI x), .int (iI y), .int (iI wd), .int (iI ht), .int (iI sc), .int (iI rw), .int (iI ln), .ref ea, .ref fa, .ref ca, .int (iI ct), .int (iI kr), .int (iI kb), .int (iI ov)]))]) := by
  refine x_met (by decide) (Nat.le_of_ble_eq_true rfl) ?_
  intro p e s m below meth c hx hb hr hml hts hown hlocks hin hF0 A hA hP hD hK ls hl hS
  have hl : lv_has ls 1 [(0, .ref q)] := hl
  refine lv_aload_n hx hb d_Mo_thrown_0 rfl (lv_at hl 0 rfl) ?_
  refine va_get (D := D) (cl := xcl) (ci := 5) (v := .int (iI th)) (C := R_Mo) (T := T_Mo) (N := 25) hx hb hts i_Mo hown hK hP 0 rfl rfl 0 (by decide) (hts _ kw_503) (fun _ h9 => h9) rfl d_Mo_thrown_1 ?_
  exact x_iret hx hb hr hlocks hP hD hS (by decide) (by decide) ⟨rfl, rfl⟩ d_Mo_thrown_4

theorem d_Mo_resolution_0 : decode b_Mo_resolution 0 = .ok (.aload_n 0, 1) := by decide +kernel
theorem d_Mo_resolution_1 : decode b_Mo_resolution 1 = .ok (.iconst 0, 1) := by decide +kernel
theorem d_Mo_resolution_2 : decode b_Mo_resolution 2 = .ok (.putfield 36, 3) := by decide +kernel
theorem d_Mo_resolution_5 : decode b_Mo_resolution 5 = .ok (.aload_n 0, 1) := by decide +kernel
theorem d_Mo_resolution_6 : decode b_Mo_resolution 6 = .ok (.getfield 39, 3) := by decide +kernel
theorem d_Mo_resolution_9 : decode b_Mo_resolution 9 = .ok (.ifCond .ne 29, 3) := by decide +kernel
theorem d_Mo_resolution_12 : decode b_Mo_resolution 12 = .ok (.iload_n 1, 1) := by decide +kernel
theorem d_Mo_resolution_13 : decode b_Mo_resolution 13 = .ok (.bipush 75, 2) := by decide +kernel
theorem d_Mo_resolution_15 : decode b_Mo_resolution 15 = .ok (.if_icmp .eq 25, 3) := by decide +kernel
theorem d_Mo_resolution_18 : decode b_Mo_resolution 18 = .ok (.iload_n 1, 1) := by decide +kernel
theorem d_Mo_resolution_19 : decode b_Mo_resolution 19 = .ok (.bipush 100, 2) := by decide +kernel
theorem d_Mo_resolution_21 : decode b_Mo_resolution 21 = .ok (.if_icmp .eq 19, 3) := by decide +kernel
theorem d_Mo_resolution_24 : decode b_Mo_resolution 24 = .ok (.iload_n 1, 1) := by decide +kernel
theorem d_Mo_resolution_25 : decode b_Mo_resolution 25 = .ok (.sipush 150, 3) := by decide +kernel
theorem d_Mo_resolution_28 : decode b_Mo_resolution 28 = .ok (.if_icmp .eq 12, 3) := by decide +kernel
theorem d_Mo_resolution_31 : decode b_Mo_resolution 31 = .ok (.iload_n 1, 1) := by decide +kernel
theorem d_Mo_resolution_32 : decode b_Mo_resolution 32 = .ok (.sipush 300, 3) := by decide +kernel
theorem d_Mo_resolution_35 : decode b_Mo_resolution 35 = .ok (.if_icmp .eq 5, 3) := by decide +kernel
theorem d_Mo_resolution_38 : decode b_Mo_resolution 38 = .ok (.iconst 0, 1) := by decide +kernel
theorem d_Mo_resolution_39 : decode b_Mo_resolution 39 = .ok (.ireturn, 1) := by decide +kernel
theorem d_Mo_resolution_40 : decode b_Mo_resolution 40 = .ok (.aload_n 0, 1) := by decide +kernel
theorem d_Mo_resolution_41 : decode b_Mo_resolution 41 = .ok (.iload_n 1, 1) := by decide +kernel
theorem d_Mo_resolution_42 : decode b_Mo_resolution 42 = .ok (.putfield 7, 3) := by decide +kernel
theorem d_Mo_resolution_45 : decode b_Mo_resolution 45 = .ok (.iconst 1, 1) := by decide +kernel
theorem d_Mo_resolution_46 : decode b_Mo_resolution 46 = .ok (.ireturn, 1) := by decide +kernel
theorem ds_Mo_resolution : xDesc y_Mo_resolution 1 := by decide +kernel

abbrev rm_Mo_resolution : Room := { frames := 0, cells := 0, slots := 0, locals := 0 }
set_option maxHeartbeats 4000000 in
set_option maxRecDepth 100000 in
/-- Model.resolution -/
theorem c_Mo_resolution (l : Launch) (D : va_G) (cI cJ cQ : ClassId) (q : Nat) (th : Int) (ac : Int) (dI : Int) (dp : Int) (sa : Nat) (bk : Int) (rs : Int) (nW : Int) (nH : Int) (mt : Int) (op : Int) (x : Int) (y : Int) (wd : Int) (ht : Int) (sc : Int) (rw : Int) (ln : Int) (ea : Nat) (fa : Nat) (ca : Nat) (ct : Int) (kr : Int) (kb : Int) (ov : Int) (z : Int) (hop : op = 0 ∨ op = 1) (hz : inR z) : xMet l D (xT cI cJ cQ) y_Mo_resolution b_Mo_resolution 2 (some .boolean) rm_Mo_resolution [.ref q, .int (iI z)] [(q, .inr (5, [.int (iI th), .int (iI ac), .int (iI dI), .int (iI dp), .ref sa, .int (iI bk), .int (iI rs), .int (iI nW), .int (iI nH), .int (iI mt), .int (iI op), .int (iI x), .int (iI y), .int (iI wd), .int (iI ht), .int (iI sc), .int (iI rw), .int (iI ln), .ref ea, .ref fa, .ref ca, .int (iI ct), .int (iI kr), .int (iI kb), .int (iI ov)]))] (fun v ws => ∃ (r : Int) (rs2 : Int), v = some (.int (iI r)) ∧ ws = [(q, .inr (5, [.int (iI 0), .int (iI ac), .int (iI dI), .int (iI dp), .ref sa, .int (iI bk), .int (iI rs2), .int (iI nW), .int (iI nH), .int (iI mt), .int (iI op), .int (iI x), .int (iI y), .int (iI wd), .int (iI ht), .int (iI sc), .int (iI rw), .int (iI ln), .ref ea, .ref fa, .ref ca, .int (iI ct), .int (iI kr), .int (iI kb), .int (iI ov)]))] ∧ ((r = 1 ∧ op = 0 ∧ (z = 75 ∨ z = 100 ∨ z = 150 ∨ z = 300) ∧ rs2 = z) ∨ (r = 0 ∧ (op = 1 ∨ (z ≠ 75 ∧ z ≠ 100 ∧ z ≠ 150 ∧ z ≠ 300)) ∧ rs2 = rs))) := by
  refine x_met (by decide) (Nat.le_of_ble_eq_true rfl) ?_
  intro p e s m below meth c hx hb hr hml hts hown hlocks hin hF0 A hA hP hD hK ls hl hS
  have hl : lv_has ls 2 [(0, .ref q), (1, .int (iI z))] := hl
  refine lv_aload_n hx hb d_Mo_resolution_0 rfl (lv_at hl 0 rfl) ?_
  refine xi_iconst hx hb d_Mo_resolution_1 ?_
  refine va_put (D := D) (cl := xcl) (ci := 5) (v := .int (iI 0)) (ty := .int) (C := R_Mo) (T := T_Mo) (N := 25) hx hb hts i_Mo ty_Mo ty_Mo_ok nm_Mo hown hK hP hD hS 0 rfl rfl 0 (by decide) (hts _ kw_503) (fun _ h9 => h9) rfl (by decide +kernel) rfl rfl (Nat.le_of_ble_eq_true rfl) d_Mo_resolution_2 (fun H locs hP hD hS => ?_)
  have hP : va_P D xcl [(q, .inr (5, [.int (iI 0), .int (iI ac), .int (iI dI), .int (iI dp), .ref sa, .int (iI bk), .int (iI rs), .int (iI nW), .int (iI nH), .int (iI mt), .int (iI op), .int (iI x), .int (iI y), .int (iI wd), .int (iI ht), .int (iI sc), .int (iI rw), .int (iI ln), .ref ea, .ref fa, .ref ca, .int (iI ct), .int (iI kr), .int (iI kb), .int (iI ov)]))] _ := hP
  have hD : va_D A [(q, .inr (5, [.int (iI 0), .int (iI ac), .int (iI dI), .int (iI dp), .ref sa, .int (iI bk), .int (iI rs), .int (iI nW), .int (iI nH), .int (iI mt), .int (iI op), .int (iI x), .int (iI y), .int (iI wd), .int (iI ht), .int (iI sc), .int (iI rw), .int (iI ln), .ref ea, .ref fa, .ref ca, .int (iI ct), .int (iI kr), .int (iI kb), .int (iI ov)]))] := hD
  refine lv_aload_n hx hb d_Mo_resolution_5 rfl (lv_at hl 0 rfl) ?_
  refine va_get (D := D) (cl := xcl) (ci := 5) (v := .int (iI op)) (C := R_Mo) (T := T_Mo) (N := 25) hx hb hts i_Mo hown hK hP 0 rfl rfl 10 (by decide) (hts _ kw_513) (fun _ h9 => h9) rfl d_Mo_resolution_6 ?_
  refine xi_if_ne (tgt := 38) hx hb d_Mo_resolution_9 (by decide) ⟨by omega, by omega⟩ (fun c_9 => ?_) (fun c_9 => ?_)
  ·
    refine xi_iconst hx hb d_Mo_resolution_38 ?_
    exact x_zret hx hb hr hlocks hP hD hS (by decide) (by decide) rfl ⟨0, rs, rfl, rfl, by omega⟩ d_Mo_resolution_39
  ·
    refine lv_iload_n hx hb d_Mo_resolution_12 rfl (lv_at hl 1 rfl) ?_
    refine xi_bipush hx hb d_Mo_resolution_13 (by decide) ?_
    refine xi_icmp_eq (tgt := 40) hx hb d_Mo_resolution_15 (by decide) ⟨by omega, by omega⟩ ⟨by decide, by decide⟩ (fun c_15 => ?_) (fun c_15 => ?_)
    ·
      refine lv_aload_n hx hb d_Mo_resolution_40 rfl (lv_at hl 0 rfl) ?_
      refine lv_iload_n hx hb d_Mo_resolution_41 rfl (lv_at hl 1 rfl) ?_
      refine va_put (D := D) (cl := xcl) (ci := 5) (v := .int (iI z)) (ty := .int) (C := R_Mo) (T := T_Mo) (N := 25) hx hb hts i_Mo ty_Mo ty_Mo_ok nm_Mo hown hK hP hD hS 0 rfl rfl 6 (by decide) (hts _ kw_509) (fun _ h9 => h9) rfl (by decide +kernel) rfl rfl (Nat.le_of_ble_eq_true rfl) d_Mo_resolution_42 (fun H locs hP hD hS => ?_)
      have hP : va_P D xcl [(q, .inr (5, [.int (iI 0), .int (iI ac), .int (iI dI), .int (iI dp), .ref sa, .int (iI bk), .int (iI z), .int (iI nW), .int (iI nH), .int (iI mt), .int (iI op), .int (iI x), .int (iI y), .int (iI wd), .int (iI ht), .int (iI sc), .int (iI rw), .int (iI ln), .ref ea, .ref fa, .ref ca, .int (iI ct), .int (iI kr), .int (iI kb), .int (iI ov)]))] _ := hP
      have hD : va_D A [(q, .inr (5, [.int (iI 0), .int (iI ac), .int (iI dI), .int (iI dp), .ref sa, .int (iI bk), .int (iI z), .int (iI nW), .int (iI nH), .int (iI mt), .int (iI op), .int (iI x), .int (iI y), .int (iI wd), .int (iI ht), .int (iI sc), .int (iI rw), .int (iI ln), .ref ea, .ref fa, .ref ca, .int (iI ct), .int (iI kr), .int (iI kb), .int (iI ov)]))] := hD
      refine xi_iconst hx hb d_Mo_resolution_45 ?_
      exact x_zret hx hb hr hlocks hP hD hS (by decide) (by decide) rfl ⟨1, z, rfl, rfl, by omega⟩ d_Mo_resolution_46
    ·
      refine lv_iload_n hx hb d_Mo_resolution_18 rfl (lv_at hl 1 rfl) ?_
      refine xi_bipush hx hb d_Mo_resolution_19 (by decide) ?_
      refine xi_icmp_eq (tgt := 40) hx hb d_Mo_resolution_21 (by decide) ⟨by omega, by omega⟩ ⟨by decide, by decide⟩ (fun c_21 => ?_) (fun c_21 => ?_)
      ·
        refine lv_aload_n hx hb d_Mo_resolution_40 rfl (lv_at hl 0 rfl) ?_
        refine lv_iload_n hx hb d_Mo_resolution_41 rfl (lv_at hl 1 rfl) ?_
        refine va_put (D := D) (cl := xcl) (ci := 5) (v := .int (iI z)) (ty := .int) (C := R_Mo) (T := T_Mo) (N := 25) hx hb hts i_Mo ty_Mo ty_Mo_ok nm_Mo hown hK hP hD hS 0 rfl rfl 6 (by decide) (hts _ kw_509) (fun _ h9 => h9) rfl (by decide +kernel) rfl rfl (Nat.le_of_ble_eq_true rfl) d_Mo_resolution_42 (fun H locs hP hD hS => ?_)
        have hP : va_P D xcl [(q, .inr (5, [.int (iI 0), .int (iI ac), .int (iI dI), .int (iI dp), .ref sa, .int (iI bk), .int (iI z), .int (iI nW), .int (iI nH), .int (iI mt), .int (iI op), .int (iI x), .int (iI y), .int (iI wd), .int (iI ht), .int (iI sc), .int (iI rw), .int (iI ln), .ref ea, .ref fa, .ref ca, .int (iI ct), .int (iI kr), .int (iI kb), .int (iI ov)]))] _ := hP
        have hD : va_D A [(q, .inr (5, [.int (iI 0), .int (iI ac), .int (iI dI), .int (iI dp), .ref sa, .int (iI bk), .int (iI z), .int (iI nW), .int (iI nH), .int (iI mt), .int (iI op), .int (iI x), .int (iI y), .int (iI wd), .int (iI ht), .int (iI sc), .int (iI rw), .int (iI ln), .ref ea, .ref fa, .ref ca, .int (iI ct), .int (iI kr), .int (iI kb), .int (iI ov)]))] := hD
        refine xi_iconst hx hb d_Mo_resolution_45 ?_
        exact x_zret hx hb hr hlocks hP hD hS (by decide) (by decide) rfl ⟨1, z, rfl, rfl, by omega⟩ d_Mo_resolution_46
      ·
        refine lv_iload_n hx hb d_Mo_resolution_24 rfl (lv_at hl 1 rfl) ?_
        refine xi_sipush hx hb d_Mo_resolution_25 (by decide) ?_
        refine xi_icmp_eq (tgt := 40) hx hb d_Mo_resolution_28 (by decide) ⟨by omega, by omega⟩ ⟨by decide, by decide⟩ (fun c_28 => ?_) (fun c_28 => ?_)
        ·
          refine lv_aload_n hx hb d_Mo_resolution_40 rfl (lv_at hl 0 rfl) ?_
          refine lv_iload_n hx hb d_Mo_resolution_41 rfl (lv_at hl 1 rfl) ?_
          refine va_put (D := D) (cl := xcl) (ci := 5) (v := .int (iI z)) (ty := .int) (C := R_Mo) (T := T_Mo) (N := 25) hx hb hts i_Mo ty_Mo ty_Mo_ok nm_Mo hown hK hP hD hS 0 rfl rfl 6 (by decide) (hts _ kw_509) (fun _ h9 => h9) rfl (by decide +kernel) rfl rfl (Nat.le_of_ble_eq_true rfl) d_Mo_resolution_42 (fun H locs hP hD hS => ?_)
          have hP : va_P D xcl [(q, .inr (5, [.int (iI 0), .int (iI ac), .int (iI dI), .int (iI dp), .ref sa, .int (iI bk), .int (iI z), .int (iI nW), .int (iI nH), .int (iI mt), .int (iI op), .int (iI x), .int (iI y), .int (iI wd), .int (iI ht), .int (iI sc), .int (iI rw), .int (iI ln), .ref ea, .ref fa, .ref ca, .int (iI ct), .int (iI kr), .int (iI kb), .int (iI ov)]))] _ := hP
          have hD : va_D A [(q, .inr (5, [.int (iI 0), .int (iI ac), .int (iI dI), .int (iI dp), .ref sa, .int (iI bk), .int (iI z), .int (iI nW), .int (iI nH), .int (iI mt), .int (iI op), .int (iI x), .int (iI y), .int (iI wd), .int (iI ht), .int (iI sc), .int (iI rw), .int (iI ln), .ref ea, .ref fa, .ref ca, .int (iI ct), .int (iI kr), .int (iI kb), .int (iI ov)]))] := hD
          refine xi_iconst hx hb d_Mo_resolution_45 ?_
          exact x_zret hx hb hr hlocks hP hD hS (by decide) (by decide) rfl ⟨1, z, rfl, rfl, by omega⟩ d_Mo_resolution_46
        ·
          refine lv_iload_n hx hb d_Mo_resolution_31 rfl (lv_at hl 1 rfl) ?_
          refine xi_sipush hx hb d_Mo_resolution_32 (by decide) ?_
          refine xi_icmp_eq (tgt := 40) hx hb d_Mo_resolution_35 (by decide) ⟨by omega, by omega⟩ ⟨by decide, by decide⟩ (fun c_35 => ?_) (fun c_35 => ?_)
          ·
            refine lv_aload_n hx hb d_Mo_resolution_40 rfl (lv_at hl 0 rfl) ?_
            refine lv_iload_n hx hb d_Mo_resolution_41 rfl (lv_at hl 1 rfl) ?_
            refine va_put (D := D) (cl := xcl) (ci := 5) (v := .int (iI z)) (ty := .int) (C := R_Mo) (T := T_Mo) (N := 25) hx hb hts i_Mo ty_Mo ty_Mo_ok nm_Mo hown hK hP hD hS 0 rfl rfl 6 (by decide) (hts _ kw_509) (fun _ h9 => h9) rfl (by decide +kernel) rfl rfl (Nat.le_of_ble_eq_true rfl) d_Mo_resolution_42 (fun H locs hP hD hS => ?_)
            have hP : va_P D xcl [(q, .inr (5, [.int (iI 0), .int (iI ac), .int (iI dI), .int (iI dp), .ref sa, .int (iI bk), .int (iI z), .int (iI nW), .int (iI nH), .int (iI mt), .int (iI op), .int (iI x), .int (iI y), .int (iI wd), .int (iI ht), .int (iI sc), .int (iI rw), .int (iI ln), .ref ea, .ref fa, .ref ca, .int (iI ct), .int (iI kr), .int (iI kb), .int (iI ov)]))] _ := hP
            have hD : va_D A [(q, .inr (5, [.int (iI 0), .int (iI ac), .int (iI dI), .int (iI dp), .ref sa, .int (iI bk), .int (iI z), .int (iI nW), .int (iI nH), .int (iI mt), .int (iI op), .int (iI x), .int (iI y), .int (iI wd), .int (iI ht), .int (iI sc), .int (iI rw), .int (iI ln), .ref ea, .ref fa, .ref ca, .int (iI ct), .int (iI kr), .int (iI kb), .int (iI ov)]))] := hD
            refine xi_iconst hx hb d_Mo_resolution_45 ?_
            exact x_zret hx hb hr hlocks hP hD hS (by decide) (by decide) rfl ⟨1, z, rfl, rfl, by omega⟩ d_Mo_resolution_46
          ·
            refine xi_iconst hx hb d_Mo_resolution_38 ?_
            exact x_zret hx hb hr hlocks hP hD hS (by decide) (by decide) rfl ⟨0, rs, rfl, rfl, by omega⟩ d_Mo_resolution_39

theorem d_Mo_size_0 : decode b_Mo_size 0 = .ok (.aload_n 0, 1) := by decide +kernel
theorem d_Mo_size_1 : decode b_Mo_size 1 = .ok (.iconst 0, 1) := by decide +kernel
theorem d_Mo_size_2 : decode b_Mo_size 2 = .ok (.putfield 36, 3) := by decide +kernel
theorem d_Mo_size_5 : decode b_Mo_size 5 = .ok (.iload_n 2, 1) := by decide +kernel
theorem d_Mo_size_6 : decode b_Mo_size 6 = .ok (.ifCond .lt 10, 3) := by decide +kernel
theorem d_Mo_size_9 : decode b_Mo_size 9 = .ok (.iload_n 2, 1) := by decide +kernel
theorem d_Mo_size_10 : decode b_Mo_size 10 = .ok (.sipush 5119, 3) := by decide +kernel
theorem d_Mo_size_13 : decode b_Mo_size 13 = .ok (.if_icmp .le 5, 3) := by decide +kernel
theorem d_Mo_size_16 : decode b_Mo_size 16 = .ok (.iconst 0, 1) := by decide +kernel
theorem d_Mo_size_17 : decode b_Mo_size 17 = .ok (.ireturn, 1) := by decide +kernel
theorem d_Mo_size_18 : decode b_Mo_size 18 = .ok (.aload_n 0, 1) := by decide +kernel
theorem d_Mo_size_19 : decode b_Mo_size 19 = .ok (.iload_n 1, 1) := by decide +kernel
theorem d_Mo_size_20 : decode b_Mo_size 20 = .ok (.ifCond .eq 7, 3) := by decide +kernel
theorem d_Mo_size_23 : decode b_Mo_size 23 = .ok (.iload_n 2, 1) := by decide +kernel
theorem d_Mo_size_24 : decode b_Mo_size 24 = .ok (.goto 7, 3) := by decide +kernel
theorem d_Mo_size_27 : decode b_Mo_size 27 = .ok (.aload_n 0, 1) := by decide +kernel
theorem d_Mo_size_28 : decode b_Mo_size 28 = .ok (.getfield 43, 3) := by decide +kernel
theorem d_Mo_size_31 : decode b_Mo_size 31 = .ok (.putfield 43, 3) := by decide +kernel
theorem d_Mo_size_34 : decode b_Mo_size 34 = .ok (.aload_n 0, 1) := by decide +kernel
theorem d_Mo_size_35 : decode b_Mo_size 35 = .ok (.iload_n 1, 1) := by decide +kernel
theorem d_Mo_size_36 : decode b_Mo_size 36 = .ok (.ifCond .eq 10, 3) := by decide +kernel
theorem d_Mo_size_39 : decode b_Mo_size 39 = .ok (.aload_n 0, 1) := by decide +kernel
theorem d_Mo_size_40 : decode b_Mo_size 40 = .ok (.getfield 46, 3) := by decide +kernel
theorem d_Mo_size_43 : decode b_Mo_size 43 = .ok (.goto 4, 3) := by decide +kernel
theorem d_Mo_size_46 : decode b_Mo_size 46 = .ok (.iload_n 2, 1) := by decide +kernel
theorem d_Mo_size_47 : decode b_Mo_size 47 = .ok (.putfield 46, 3) := by decide +kernel
theorem d_Mo_size_50 : decode b_Mo_size 50 = .ok (.iconst 1, 1) := by decide +kernel
theorem d_Mo_size_51 : decode b_Mo_size 51 = .ok (.ireturn, 1) := by decide +kernel
theorem ds_Mo_size : xDesc y_Mo_size 2 := by decide +kernel

abbrev rm_Mo_size : Room := { frames := 0, cells := 0, slots := 0, locals := 0 }
set_option maxHeartbeats 4000000 in
set_option maxRecDepth 100000 in
/-- Model.size -/
theorem c_Mo_size (l : Launch) (D : va_G) (cI cJ cQ : ClassId) (q : Nat) (th : Int) (ac : Int) (dI : Int) (dp : Int) (sa : Nat) (bk : Int) (rs : Int) (nW : Int) (nH : Int) (mt : Int) (op : Int) (x : Int) (y : Int) (wd : Int) (ht : Int) (sc : Int) (rw : Int) (ln : Int) (ea : Nat) (fa : Nat) (ca : Nat) (ct : Int) (kr : Int) (kb : Int) (ov : Int) (hg : Int) (n : Int) (hhg : hg = 0 ∨ hg = 1) (hn : inR n) : xMet l D (xT cI cJ cQ) y_Mo_size b_Mo_size 3 (some .boolean) rm_Mo_size [.ref q, .int (iI hg), .int (iI n)] [(q, .inr (5, [.int (iI th), .int (iI ac), .int (iI dI), .int (iI dp), .ref sa, .int (iI bk), .int (iI rs), .int (iI nW), .int (iI nH), .int (iI mt), .int (iI op), .int (iI x), .int (iI y), .int (iI wd), .int (iI ht), .int (iI sc), .int (iI rw), .int (iI ln), .ref ea, .ref fa, .ref ca, .int (iI ct), .int (iI kr), .int (iI kb), .int (iI ov)]))] (fun v ws => ∃ (r : Int) (w2 : Int) (t2 : Int), v = some (.int (iI r)) ∧ ws = [(q, .inr (5, [.int (iI 0), .int (iI ac), .int (iI dI), .int (iI dp), .ref sa, .int (iI bk), .int (iI rs), .int (iI w2), .int (iI t2), .int (iI mt), .int (iI op), .int (iI x), .int (iI y), .int (iI wd), .int (iI ht), .int (iI sc), .int (iI rw), .int (iI ln), .ref ea, .ref fa, .ref ca, .int (iI ct), .int (iI kr), .int (iI kb), .int (iI ov)]))] ∧ ((r = 1 ∧ 0 ≤ n ∧ n ≤ 5119 ∧ ((hg = 1 ∧ w2 = nW ∧ t2 = n) ∨ (hg = 0 ∧ w2 = n ∧ t2 = nH))) ∨ (r = 0 ∧ (n < 0 ∨ 5119 < n) ∧ w2 = nW ∧ t2 = nH))) := by
  refine x_met (by decide) (Nat.le_of_ble_eq_true rfl) ?_
  intro p e s m below meth c hx hb hr hml hts hown hlocks hin hF0 A hA hP hD hK ls hl hS
  have hl : lv_has ls 3 [(0, .ref q), (1, .int (iI hg)), (2, .int (iI n))] := hl
  refine lv_aload_n hx hb d_Mo_size_0 rfl (lv_at hl 0 rfl) ?_
  refine xi_iconst hx hb d_Mo_size_1 ?_
  refine va_put (D := D) (cl := xcl) (ci := 5) (v := .int (iI 0)) (ty := .int) (C := R_Mo) (T := T_Mo) (N := 25) hx hb hts i_Mo ty_Mo ty_Mo_ok nm_Mo hown hK hP hD hS 0 rfl rfl 0 (by decide) (hts _ kw_503) (fun _ h9 => h9) rfl (by decide +kernel) rfl rfl (Nat.le_of_ble_eq_true rfl) d_Mo_size_2 (fun H locs hP hD hS => ?_)
  have hP : va_P D xcl [(q, .inr (5, [.int (iI 0), .int (iI ac), .int (iI dI), .int (iI dp), .ref sa, .int (iI bk), .int (iI rs), .int (iI nW), .int (iI nH), .int (iI mt), .int (iI op), .int (iI x), .int (iI y), .int (iI wd), .int (iI ht), .int (iI sc), .int (iI rw), .int (iI ln), .ref ea, .ref fa, .ref ca, .int (iI ct), .int (iI kr), .int (iI kb), .int (iI ov)]))] _ := hP
  have hD : va_D A [(q, .inr (5, [.int (iI 0), .int (iI ac), .int (iI dI), .int (iI dp), .ref sa, .int (iI bk), .int (iI rs), .int (iI nW), .int (iI nH), .int (iI mt), .int (iI op), .int (iI x), .int (iI y), .int (iI wd), .int (iI ht), .int (iI sc), .int (iI rw), .int (iI ln), .ref ea, .ref fa, .ref ca, .int (iI ct), .int (iI kr), .int (iI kb), .int (iI ov)]))] := hD
  refine lv_iload_n hx hb d_Mo_size_5 rfl (lv_at hl 2 rfl) ?_
  refine xi_if_lt (tgt := 16) hx hb d_Mo_size_6 (by decide) ⟨by omega, by omega⟩ (fun c_6 => ?_) (fun c_6 => ?_)
  ·
    refine xi_iconst hx hb d_Mo_size_16 ?_
    exact x_zret hx hb hr hlocks hP hD hS (by decide) (by decide) rfl ⟨0, nW, nH, rfl, rfl, by omega⟩ d_Mo_size_17
  ·
    refine lv_iload_n hx hb d_Mo_size_9 rfl (lv_at hl 2 rfl) ?_
    refine xi_sipush hx hb d_Mo_size_10 (by decide) ?_
    refine xi_icmp_le (tgt := 18) hx hb d_Mo_size_13 (by decide) ⟨by omega, by omega⟩ ⟨by decide, by decide⟩ (fun c_13 => ?_) (fun c_13 => ?_)
    ·
      refine lv_aload_n hx hb d_Mo_size_18 rfl (lv_at hl 0 rfl) ?_
      refine lv_iload_n hx hb d_Mo_size_19 rfl (lv_at hl 1 rfl) ?_
      refine xi_if_eq (tgt := 27) hx hb d_Mo_size_20 (by decide) ⟨by omega, by omega⟩ (fun c_20 => ?_) (fun c_20 => ?_)
      ·
        refine lv_aload_n hx hb d_Mo_size_27 rfl (lv_at hl 0 rfl) ?_
        refine va_get (D := D) (cl := xcl) (ci := 5) (v := .int (iI nH)) (C := R_Mo) (T := T_Mo) (N := 25) hx hb hts i_Mo hown hK hP 0 rfl rfl 8 (by decide) (hts _ kw_511) (fun _ h9 => h9) rfl d_Mo_size_28 ?_
        refine va_put (D := D) (cl := xcl) (ci := 5) (v := .int (iI nH)) (ty := .int) (C := R_Mo) (T := T_Mo) (N := 25) hx hb hts i_Mo ty_Mo ty_Mo_ok nm_Mo hown hK hP hD hS 0 rfl rfl 8 (by decide) (hts _ kw_511) (fun _ h9 => h9) rfl (by decide +kernel) rfl rfl (Nat.le_of_ble_eq_true rfl) d_Mo_size_31 (fun H locs hP hD hS => ?_)
        have hP : va_P D xcl [(q, .inr (5, [.int (iI 0), .int (iI ac), .int (iI dI), .int (iI dp), .ref sa, .int (iI bk), .int (iI rs), .int (iI nW), .int (iI nH), .int (iI mt), .int (iI op), .int (iI x), .int (iI y), .int (iI wd), .int (iI ht), .int (iI sc), .int (iI rw), .int (iI ln), .ref ea, .ref fa, .ref ca, .int (iI ct), .int (iI kr), .int (iI kb), .int (iI ov)]))] _ := hP
        have hD : va_D A [(q, .inr (5, [.int (iI 0), .int (iI ac), .int (iI dI), .int (iI dp), .ref sa, .int (iI bk), .int (iI rs), .int (iI nW), .int (iI nH), .int (iI mt), .int (iI op), .int (iI x), .int (iI y), .int (iI wd), .int (iI ht), .int (iI sc), .int (iI rw), .int (iI ln), .ref ea, .ref fa, .ref ca, .int (iI ct), .int (iI kr), .int (iI kb), .int (iI ov)]))] := hD
        refine lv_aload_n hx hb d_Mo_size_34 rfl (lv_at hl 0 rfl) ?_
        refine lv_iload_n hx hb d_Mo_size_35 rfl (lv_at hl 1 rfl) ?_
        refine xi_if_eq (tgt := 46) hx hb d_Mo_size_36 (by decide) ⟨by omega, by omega⟩ (fun c_36 => ?_) (fun c_36 => ?_)
        ·
          refine lv_iload_n hx hb d_Mo_size_46 rfl (lv_at hl 2 rfl) ?_
          refine va_put (D := D) (cl := xcl) (ci := 5) (v := .int (iI n)) (ty := .int) (C := R_Mo) (T := T_Mo) (N := 25) hx hb hts i_Mo ty_Mo ty_Mo_ok nm_Mo hown hK hP hD hS 0 rfl rfl 7 (by decide) (hts _ kw_510) (fun _ h9 => h9) rfl (by decide +kernel) rfl rfl (Nat.le_of_ble_eq_true rfl) d_Mo_size_47 (fun H locs hP hD hS => ?_)
          have hP : va_P D xcl [(q, .inr (5, [.int (iI 0), .int (iI ac), .int (iI dI), .int (iI dp), .ref sa, .int (iI bk), .int (iI rs), .int (iI n), .int (iI nH), .int (iI mt), .int (iI op), .int (iI x), .int (iI y), .int (iI wd), .int (iI ht), .int (iI sc), .int (iI rw), .int (iI ln), .ref ea, .ref fa, .ref ca, .int (iI ct), .int (iI kr), .int (iI kb), .int (iI ov)]))] _ := hP
          have hD : va_D A [(q, .inr (5, [.int (iI 0), .int (iI ac), .int (iI dI), .int (iI dp), .ref sa, .int (iI bk), .int (iI rs), .int (iI n), .int (iI nH), .int (iI mt), .int (iI op), .int (iI x), .int (iI y), .int (iI wd), .int (iI ht), .int (iI sc), .int (iI rw), .int (iI ln), .ref ea, .ref fa, .ref ca, .int (iI ct), .int (iI kr), .int (iI kb), .int (iI ov)]))] := hD
          refine xi_iconst hx hb d_Mo_size_50 ?_
          exact x_zret hx hb hr hlocks hP hD hS (by decide) (by decide) rfl ⟨1, n, nH, rfl, rfl, by omega⟩ d_Mo_size_51
        ·
          refine lv_aload_n hx hb d_Mo_size_39 rfl (lv_at hl 0 rfl) ?_
          refine va_get (D := D) (cl := xcl) (ci := 5) (v := .int (iI nW)) (C := R_Mo) (T := T_Mo) (N := 25) hx hb hts i_Mo hown hK hP 0 rfl rfl 7 (by decide) (hts _ kw_510) (fun _ h9 => h9) rfl d_Mo_size_40 ?_
          refine lv_goto (tgt := 47) hx hb d_Mo_size_43 (by decide) ?_
          refine va_put (D := D) (cl := xcl) (ci := 5) (v := .int (iI nW)) (ty := .int) (C := R_Mo) (T := T_Mo) (N := 25) hx hb hts i_Mo ty_Mo ty_Mo_ok nm_Mo hown hK hP hD hS 0 rfl rfl 7 (by decide) (hts _ kw_510) (fun _ h9 => h9) rfl (by decide +kernel) rfl rfl (Nat.le_of_ble_eq_true rfl) d_Mo_size_47 (fun H locs hP hD hS => ?_)
          have hP : va_P D xcl [(q, .inr (5, [.int (iI 0), .int (iI ac), .int (iI dI), .int (iI dp), .ref sa, .int (iI bk), .int (iI rs), .int (iI nW), .int (iI nH), .int (iI mt), .int (iI op), .int (iI x), .int (iI y), .int (iI wd), .int (iI ht), .int (iI sc), .int (iI rw), .int (iI ln), .ref ea, .ref fa, .ref ca, .int (iI ct), .int (iI kr), .int (iI kb), .int (iI ov)]))] _ := hP
          have hD : va_D A [(q, .inr (5, [.int (iI 0), .int (iI ac), .int (iI dI), .int (iI dp), .ref sa, .int (iI bk), .int (iI rs), .int (iI nW), .int (iI nH), .int (iI mt), .int (iI op), .int (iI x), .int (iI y), .int (iI wd), .int (iI ht), .int (iI sc), .int (iI rw), .int (iI ln), .ref ea, .ref fa, .ref ca, .int (iI ct), .int (iI kr), .int (iI kb), .int (iI ov)]))] := hD
          refine xi_iconst hx hb d_Mo_size_50 ?_
          exact x_zret hx hb hr hlocks hP hD hS (by decide) (by decide) rfl ⟨1, nW, nH, rfl, rfl, by omega⟩ d_Mo_size_51
      ·
        refine lv_iload_n hx hb d_Mo_size_23 rfl (lv_at hl 2 rfl) ?_
        refine lv_goto (tgt := 31) hx hb d_Mo_size_24 (by decide) ?_
        refine va_put (D := D) (cl := xcl) (ci := 5) (v := .int (iI n)) (ty := .int) (C := R_Mo) (T := T_Mo) (N := 25) hx hb hts i_Mo ty_Mo ty_Mo_ok nm_Mo hown hK hP hD hS 0 rfl rfl 8 (by decide) (hts _ kw_511) (fun _ h9 => h9) rfl (by decide +kernel) rfl rfl (Nat.le_of_ble_eq_true rfl) d_Mo_size_31 (fun H locs hP hD hS => ?_)
        have hP : va_P D xcl [(q, .inr (5, [.int (iI 0), .int (iI ac), .int (iI dI), .int (iI dp), .ref sa, .int (iI bk), .int (iI rs), .int (iI nW), .int (iI n), .int (iI mt), .int (iI op), .int (iI x), .int (iI y), .int (iI wd), .int (iI ht), .int (iI sc), .int (iI rw), .int (iI ln), .ref ea, .ref fa, .ref ca, .int (iI ct), .int (iI kr), .int (iI kb), .int (iI ov)]))] _ := hP
        have hD : va_D A [(q, .inr (5, [.int (iI 0), .int (iI ac), .int (iI dI), .int (iI dp), .ref sa, .int (iI bk), .int (iI rs), .int (iI nW), .int (iI n), .int (iI mt), .int (iI op), .int (iI x), .int (iI y), .int (iI wd), .int (iI ht), .int (iI sc), .int (iI rw), .int (iI ln), .ref ea, .ref fa, .ref ca, .int (iI ct), .int (iI kr), .int (iI kb), .int (iI ov)]))] := hD
        refine lv_aload_n hx hb d_Mo_size_34 rfl (lv_at hl 0 rfl) ?_
        refine lv_iload_n hx hb d_Mo_size_35 rfl (lv_at hl 1 rfl) ?_
        refine xi_if_eq (tgt := 46) hx hb d_Mo_size_36 (by decide) ⟨by omega, by omega⟩ (fun c_36 => ?_) (fun c_36 => ?_)
        ·
          refine lv_iload_n hx hb d_Mo_size_46 rfl (lv_at hl 2 rfl) ?_
          refine va_put (D := D) (cl := xcl) (ci := 5) (v := .int (iI n)) (ty := .int) (C := R_Mo) (T := T_Mo) (N := 25) hx hb hts i_Mo ty_Mo ty_Mo_ok nm_Mo hown hK hP hD hS 0 rfl rfl 7 (by decide) (hts _ kw_510) (fun _ h9 => h9) rfl (by decide +kernel) rfl rfl (Nat.le_of_ble_eq_true rfl) d_Mo_size_47 (fun H locs hP hD hS => ?_)
          have hP : va_P D xcl [(q, .inr (5, [.int (iI 0), .int (iI ac), .int (iI dI), .int (iI dp), .ref sa, .int (iI bk), .int (iI rs), .int (iI n), .int (iI n), .int (iI mt), .int (iI op), .int (iI x), .int (iI y), .int (iI wd), .int (iI ht), .int (iI sc), .int (iI rw), .int (iI ln), .ref ea, .ref fa, .ref ca, .int (iI ct), .int (iI kr), .int (iI kb), .int (iI ov)]))] _ := hP
          have hD : va_D A [(q, .inr (5, [.int (iI 0), .int (iI ac), .int (iI dI), .int (iI dp), .ref sa, .int (iI bk), .int (iI rs), .int (iI n), .int (iI n), .int (iI mt), .int (iI op), .int (iI x), .int (iI y), .int (iI wd), .int (iI ht), .int (iI sc), .int (iI rw), .int (iI ln), .ref ea, .ref fa, .ref ca, .int (iI ct), .int (iI kr), .int (iI kb), .int (iI ov)]))] := hD
          refine xi_iconst hx hb d_Mo_size_50 ?_
          exact x_zret hx hb hr hlocks hP hD hS (by decide) (by decide) rfl ⟨1, n, n, rfl, rfl, by omega⟩ d_Mo_size_51
        ·
          refine lv_aload_n hx hb d_Mo_size_39 rfl (lv_at hl 0 rfl) ?_
          refine va_get (D := D) (cl := xcl) (ci := 5) (v := .int (iI nW)) (C := R_Mo) (T := T_Mo) (N := 25) hx hb hts i_Mo hown hK hP 0 rfl rfl 7 (by decide) (hts _ kw_510) (fun _ h9 => h9) rfl d_Mo_size_40 ?_
          refine lv_goto (tgt := 47) hx hb d_Mo_size_43 (by decide) ?_
          refine va_put (D := D) (cl := xcl) (ci := 5) (v := .int (iI nW)) (ty := .int) (C := R_Mo) (T := T_Mo) (N := 25) hx hb hts i_Mo ty_Mo ty_Mo_ok nm_Mo hown hK hP hD hS 0 rfl rfl 7 (by decide) (hts _ kw_510) (fun _ h9 => h9) rfl (by decide +kernel) rfl rfl (Nat.le_of_ble_eq_true rfl) d_Mo_size_47 (fun H locs hP hD hS => ?_)
          have hP : va_P D xcl [(q, .inr (5, [.int (iI 0), .int (iI ac), .int (iI dI), .int (iI dp), .ref sa, .int (iI bk), .int (iI rs), .int (iI nW), .int (iI n), .int (iI mt), .int (iI op), .int (iI x), .int (iI y), .int (iI wd), .int (iI ht), .int (iI sc), .int (iI rw), .int (iI ln), .ref ea, .ref fa, .ref ca, .int (iI ct), .int (iI kr), .int (iI kb), .int (iI ov)]))] _ := hP
          have hD : va_D A [(q, .inr (5, [.int (iI 0), .int (iI ac), .int (iI dI), .int (iI dp), .ref sa, .int (iI bk), .int (iI rs), .int (iI nW), .int (iI n), .int (iI mt), .int (iI op), .int (iI x), .int (iI y), .int (iI wd), .int (iI ht), .int (iI sc), .int (iI rw), .int (iI ln), .ref ea, .ref fa, .ref ca, .int (iI ct), .int (iI kr), .int (iI kb), .int (iI ov)]))] := hD
          refine xi_iconst hx hb d_Mo_size_50 ?_
          exact x_zret hx hb hr hlocks hP hD hS (by decide) (by decide) rfl ⟨1, nW, n, rfl, rfl, by omega⟩ d_Mo_size_51
    ·
      refine xi_iconst hx hb d_Mo_size_16 ?_
      exact x_zret hx hb hr hlocks hP hD hS (by decide) (by decide) rfl ⟨0, nW, nH, rfl, rfl, by omega⟩ d_Mo_size_17

theorem d_Mo_method_0 : decode b_Mo_method 0 = .ok (.aload_n 0, 1) := by decide +kernel
theorem d_Mo_method_1 : decode b_Mo_method 1 = .ok (.iconst 0, 1) := by decide +kernel
theorem d_Mo_method_2 : decode b_Mo_method 2 = .ok (.putfield 36, 3) := by decide +kernel
theorem d_Mo_method_5 : decode b_Mo_method 5 = .ok (.iload_n 1, 1) := by decide +kernel
theorem d_Mo_method_6 : decode b_Mo_method 6 = .ok (.ifCond .lt 8, 3) := by decide +kernel
theorem d_Mo_method_9 : decode b_Mo_method 9 = .ok (.iload_n 1, 1) := by decide +kernel
theorem d_Mo_method_10 : decode b_Mo_method 10 = .ok (.iconst 3, 1) := by decide +kernel
theorem d_Mo_method_11 : decode b_Mo_method 11 = .ok (.if_icmp .le 5, 3) := by decide +kernel
theorem d_Mo_method_14 : decode b_Mo_method 14 = .ok (.iconst 0, 1) := by decide +kernel
theorem d_Mo_method_15 : decode b_Mo_method 15 = .ok (.ireturn, 1) := by decide +kernel
theorem d_Mo_method_16 : decode b_Mo_method 16 = .ok (.aload_n 0, 1) := by decide +kernel
theorem d_Mo_method_17 : decode b_Mo_method 17 = .ok (.iload_n 1, 1) := by decide +kernel
theorem d_Mo_method_18 : decode b_Mo_method 18 = .ok (.putfield 49, 3) := by decide +kernel
theorem d_Mo_method_21 : decode b_Mo_method 21 = .ok (.iconst 1, 1) := by decide +kernel
theorem d_Mo_method_22 : decode b_Mo_method 22 = .ok (.ireturn, 1) := by decide +kernel
theorem ds_Mo_method : xDesc y_Mo_method 1 := by decide +kernel

abbrev rm_Mo_method : Room := { frames := 0, cells := 0, slots := 0, locals := 0 }
set_option maxHeartbeats 4000000 in
set_option maxRecDepth 100000 in
/-- Model.method -/
theorem c_Mo_method (l : Launch) (D : va_G) (cI cJ cQ : ClassId) (q : Nat) (th : Int) (ac : Int) (dI : Int) (dp : Int) (sa : Nat) (bk : Int) (rs : Int) (nW : Int) (nH : Int) (mt : Int) (op : Int) (x : Int) (y : Int) (wd : Int) (ht : Int) (sc : Int) (rw : Int) (ln : Int) (ea : Nat) (fa : Nat) (ca : Nat) (ct : Int) (kr : Int) (kb : Int) (ov : Int) (n : Int) (hn : inR n) : xMet l D (xT cI cJ cQ) y_Mo_method b_Mo_method 2 (some .boolean) rm_Mo_method [.ref q, .int (iI n)] [(q, .inr (5, [.int (iI th), .int (iI ac), .int (iI dI), .int (iI dp), .ref sa, .int (iI bk), .int (iI rs), .int (iI nW), .int (iI nH), .int (iI mt), .int (iI op), .int (iI x), .int (iI y), .int (iI wd), .int (iI ht), .int (iI sc), .int (iI rw), .int (iI ln), .ref ea, .ref fa, .ref ca, .int (iI ct), .int (iI kr), .int (iI kb), .int (iI ov)]))] (fun v ws => ∃ (r : Int) (m2 : Int), v = some (.int (iI r)) ∧ ws = [(q, .inr (5, [.int (iI 0), .int (iI ac), .int (iI dI), .int (iI dp), .ref sa, .int (iI bk), .int (iI rs), .int (iI nW), .int (iI nH), .int (iI m2), .int (iI op), .int (iI x), .int (iI y), .int (iI wd), .int (iI ht), .int (iI sc), .int (iI rw), .int (iI ln), .ref ea, .ref fa, .ref ca, .int (iI ct), .int (iI kr), .int (iI kb), .int (iI ov)]))] ∧ ((r = 1 ∧ 0 ≤ n ∧ n ≤ 3 ∧ m2 = n) ∨ (r = 0 ∧ (n < 0 ∨ 3 < n) ∧ m2 = mt))) := by
  refine x_met (by decide) (Nat.le_of_ble_eq_true rfl) ?_
  intro p e s m below meth c hx hb hr hml hts hown hlocks hin hF0 A hA hP hD hK ls hl hS
  have hl : lv_has ls 2 [(0, .ref q), (1, .int (iI n))] := hl
  refine lv_aload_n hx hb d_Mo_method_0 rfl (lv_at hl 0 rfl) ?_
  refine xi_iconst hx hb d_Mo_method_1 ?_
  refine va_put (D := D) (cl := xcl) (ci := 5) (v := .int (iI 0)) (ty := .int) (C := R_Mo) (T := T_Mo) (N := 25) hx hb hts i_Mo ty_Mo ty_Mo_ok nm_Mo hown hK hP hD hS 0 rfl rfl 0 (by decide) (hts _ kw_503) (fun _ h9 => h9) rfl (by decide +kernel) rfl rfl (Nat.le_of_ble_eq_true rfl) d_Mo_method_2 (fun H locs hP hD hS => ?_)
  have hP : va_P D xcl [(q, .inr (5, [.int (iI 0), .int (iI ac), .int (iI dI), .int (iI dp), .ref sa, .int (iI bk), .int (iI rs), .int (iI nW), .int (iI nH), .int (iI mt), .int (iI op), .int (iI x), .int (iI y), .int (iI wd), .int (iI ht), .int (iI sc), .int (iI rw), .int (iI ln), .ref ea, .ref fa, .ref ca, .int (iI ct), .int (iI kr), .int (iI kb), .int (iI ov)]))] _ := hP
  have hD : va_D A [(q, .inr (5, [.int (iI 0), .int (iI ac), .int (iI dI), .int (iI dp), .ref sa, .int (iI bk), .int (iI rs), .int (iI nW), .int (iI nH), .int (iI mt), .int (iI op), .int (iI x), .int (iI y), .int (iI wd), .int (iI ht), .int (iI sc), .int (iI rw), .int (iI ln), .ref ea, .ref fa, .ref ca, .int (iI ct), .int (iI kr), .int (iI kb), .int (iI ov)]))] := hD
  refine lv_iload_n hx hb d_Mo_method_5 rfl (lv_at hl 1 rfl) ?_
  refine xi_if_lt (tgt := 14) hx hb d_Mo_method_6 (by decide) ⟨by omega, by omega⟩ (fun c_6 => ?_) (fun c_6 => ?_)
  ·
    refine xi_iconst hx hb d_Mo_method_14 ?_
    exact x_zret hx hb hr hlocks hP hD hS (by decide) (by decide) rfl ⟨0, mt, rfl, rfl, by omega⟩ d_Mo_method_15
  ·
    refine lv_iload_n hx hb d_Mo_method_9 rfl (lv_at hl 1 rfl) ?_
    refine xi_iconst hx hb d_Mo_method_10 ?_
    refine xi_icmp_le (tgt := 16) hx hb d_Mo_method_11 (by decide) ⟨by omega, by omega⟩ ⟨by decide, by decide⟩ (fun c_11 => ?_) (fun c_11 => ?_)
    ·
      refine lv_aload_n hx hb d_Mo_method_16 rfl (lv_at hl 0 rfl) ?_
      refine lv_iload_n hx hb d_Mo_method_17 rfl (lv_at hl 1 rfl) ?_
      refine va_put (D := D) (cl := xcl) (ci := 5) (v := .int (iI n)) (ty := .int) (C := R_Mo) (T := T_Mo) (N := 25) hx hb hts i_Mo ty_Mo ty_Mo_ok nm_Mo hown hK hP hD hS 0 rfl rfl 9 (by decide) (hts _ kw_512) (fun _ h9 => h9) rfl (by decide +kernel) rfl rfl (Nat.le_of_ble_eq_true rfl) d_Mo_method_18 (fun H locs hP hD hS => ?_)
      have hP : va_P D xcl [(q, .inr (5, [.int (iI 0), .int (iI ac), .int (iI dI), .int (iI dp), .ref sa, .int (iI bk), .int (iI rs), .int (iI nW), .int (iI nH), .int (iI n), .int (iI op), .int (iI x), .int (iI y), .int (iI wd), .int (iI ht), .int (iI sc), .int (iI rw), .int (iI ln), .ref ea, .ref fa, .ref ca, .int (iI ct), .int (iI kr), .int (iI kb), .int (iI ov)]))] _ := hP
      have hD : va_D A [(q, .inr (5, [.int (iI 0), .int (iI ac), .int (iI dI), .int (iI dp), .ref sa, .int (iI bk), .int (iI rs), .int (iI nW), .int (iI nH), .int (iI n), .int (iI op), .int (iI x), .int (iI y), .int (iI wd), .int (iI ht), .int (iI sc), .int (iI rw), .int (iI ln), .ref ea, .ref fa, .ref ca, .int (iI ct), .int (iI kr), .int (iI kb), .int (iI ov)]))] := hD
      refine xi_iconst hx hb d_Mo_method_21 ?_
      exact x_zret hx hb hr hlocks hP hD hS (by decide) (by decide) rfl ⟨1, n, rfl, rfl, by omega⟩ d_Mo_method_22
    ·
      refine xi_iconst hx hb d_Mo_method_14 ?_
      exact x_zret hx hb hr hlocks hP hD hS (by decide) (by decide) rfl ⟨0, mt, rfl, rfl, by omega⟩ d_Mo_method_15

theorem d_Mo_isPlace_0 : decode b_Mo_isPlace 0 = .ok (.iload_n 0, 1) := by decide +kernel
theorem d_Mo_isPlace_1 : decode b_Mo_isPlace 1 = .ok (.sipush (-10000), 3) := by decide +kernel
theorem d_Mo_isPlace_4 : decode b_Mo_isPlace 4 = .ok (.if_icmp .lt 14, 3) := by decide +kernel
theorem d_Mo_isPlace_7 : decode b_Mo_isPlace 7 = .ok (.iload_n 0, 1) := by decide +kernel
theorem d_Mo_isPlace_8 : decode b_Mo_isPlace 8 = .ok (.sipush 10000, 3) := by decide +kernel
theorem d_Mo_isPlace_11 : decode b_Mo_isPlace 11 = .ok (.if_icmp .gt 7, 3) := by decide +kernel
theorem d_Mo_isPlace_14 : decode b_Mo_isPlace 14 = .ok (.iconst 1, 1) := by decide +kernel
theorem d_Mo_isPlace_15 : decode b_Mo_isPlace 15 = .ok (.goto 4, 3) := by decide +kernel
theorem d_Mo_isPlace_18 : decode b_Mo_isPlace 18 = .ok (.iconst 0, 1) := by decide +kernel
theorem d_Mo_isPlace_19 : decode b_Mo_isPlace 19 = .ok (.ireturn, 1) := by decide +kernel
theorem ds_Mo_isPlace : xDesc y_Mo_isPlace 1 := by decide +kernel

abbrev rm_Mo_isPlace : Room := { frames := 0, cells := 0, slots := 0, locals := 0 }
set_option maxHeartbeats 4000000 in
set_option maxRecDepth 100000 in
/-- Model.isPlace -/
theorem c_Mo_isPlace (l : Launch) (D : va_G) (cI cJ cQ : ClassId) (z : Int) (hz : inR z) : xMet l D (xT cI cJ cQ) y_Mo_isPlace b_Mo_isPlace 1 (some .boolean) rm_Mo_isPlace [.int (iI z)] [] (fun v ws => ∃ (r : Int), v = some (.int (iI r)) ∧ ws = [] ∧ ((r = 1 ∧ -10000 ≤ z ∧ z ≤ 10000) ∨ (r = 0 ∧ (z < -10000 ∨ 10000 < z)))) := by
  refine x_met (by decide) (Nat.le_of_ble_eq_true rfl) ?_
  intro p e s m below meth c hx hb hr hml hts hown hlocks hin hF0 A hA hP hD hK ls hl hS
  have hl : lv_has ls 1 [(0, .int (iI z))] := hl
  refine lv_iload_n hx hb d_Mo_isPlace_0 rfl (lv_at hl 0 rfl) ?_
  refine xi_sipush hx hb d_Mo_isPlace_1 (by decide) ?_
  refine xi_icmp_lt (tgt := 18) hx hb d_Mo_isPlace_4 (by decide) ⟨by omega, by omega⟩ ⟨by decide, by decide⟩ (fun c_4 => ?_) (fun c_4 => ?_)
  ·
    refine xi_iconst hx hb d_Mo_isPlace_18 ?_
    exact x_zret hx hb hr hlocks hP hD hS (by decide) (by decide) rfl ⟨0, rfl, rfl, by omega⟩ d_Mo_isPlace_19
  ·
    refine lv_iload_n hx hb d_Mo_isPlace_7 rfl (lv_at hl 0 rfl) ?_
    refine xi_sipush hx hb d_Mo_isPlace_8 (by decide) ?_
    refine xi_icmp_gt (tgt := 18) hx hb d_Mo_isPlace_11 (by decide) ⟨by omega, by omega⟩ ⟨by decide, by decide⟩ (fun c_11 => ?_) (fun c_11 => ?_)
    ·
      refine xi_iconst hx hb d_Mo_isPlace_18 ?_
      exact x_zret hx hb hr hlocks hP hD hS (by decide) (by decide) rfl ⟨0, rfl, rfl, by omega⟩ d_Mo_isPlace_19
    ·
      refine xi_iconst hx hb d_Mo_isPlace_14 ?_
      refine lv_goto (tgt := 19) hx hb d_Mo_isPlace_15 (by decide) ?_
      exact x_zret hx hb hr hlocks hP hD hS (by decide) (by decide) rfl ⟨1, rfl, rfl, by omega⟩ d_Mo_isPlace_19

theorem d_Mo_blank_0 : decode b_Mo_blank 0 = .ok (.iconst 0, 1) := by decide +kernel
theorem d_Mo_blank_1 : decode b_Mo_blank 1 = .ok (.istore_n 1, 1) := by decide +kernel
theorem d_Mo_blank_2 : decode b_Mo_blank 2 = .ok (.iload_n 1, 1) := by decide +kernel
theorem d_Mo_blank_3 : decode b_Mo_blank 3 = .ok (.sipush 640, 3) := by decide +kernel
theorem d_Mo_blank_6 : decode b_Mo_blank 6 = .ok (.if_icmp .ge 16, 3) := by decide +kernel
theorem d_Mo_blank_9 : decode b_Mo_blank 9 = .ok (.aload_n 0, 1) := by decide +kernel
theorem d_Mo_blank_10 : decode b_Mo_blank 10 = .ok (.getfield 13, 3) := by decide +kernel
theorem d_Mo_blank_13 : decode b_Mo_blank 13 = .ok (.iload_n 1, 1) := by decide +kernel
theorem d_Mo_blank_14 : decode b_Mo_blank 14 = .ok (.iconst 0, 1) := by decide +kernel
theorem d_Mo_blank_15 : decode b_Mo_blank 15 = .ok (.iastore, 1) := by decide +kernel
theorem d_Mo_blank_16 : decode b_Mo_blank 16 = .ok (.iinc 1 1, 3) := by decide +kernel
theorem d_Mo_blank_19 : decode b_Mo_blank 19 = .ok (.goto (-17), 3) := by decide +kernel
theorem d_Mo_blank_22 : decode b_Mo_blank 22 = .ok (.return_, 1) := by decide +kernel
theorem ds_Mo_blank : xDesc y_Mo_blank 0 := by decide +kernel

abbrev rm_Mo_blank : Room := { frames := 0, cells := 0, slots := 0, locals := 0 }
set_option maxHeartbeats 4000000 in
set_option maxRecDepth 100000 in
/-- Model.blank -/
theorem c_Mo_blank (l : Launch) (D : va_G) (cI cJ cQ : ClassId) (q : Nat) (th : Int) (ac : Int) (dI : Int) (dp : Int) (sa : Nat) (bk : Int) (rs : Int) (nW : Int) (nH : Int) (mt : Int) (op : Int) (x : Int) (y : Int) (wd : Int) (ht : Int) (sc : Int) (rw : Int) (ln : Int) (ea : Nat) (fa : Nat) (ca : Nat) (ct : Int) (kr : Int) (kb : Int) (ov : Int) (B : Nat → Int) : xMet l D (xT cI cJ cQ) y_Mo_blank b_Mo_blank 2 none rm_Mo_blank [.ref q] [(q, .inr (5, [.int (iI th), .int (iI ac), .int (iI dI), .int (iI dp), .ref sa, .int (iI bk), .int (iI rs), .int (iI nW), .int (iI nH), .int (iI mt), .int (iI op), .int (iI x), .int (iI y), .int (iI wd), .int (iI ht), .int (iI sc), .int (iI rw), .int (iI ln), .ref ea, .ref fa, .ref ca, .int (iI ct), .int (iI kr), .int (iI kb), .int (iI ov)])), (ea, .inl (cI, 640, .inl (iA B)))] (fun v ws => v = none ∧ ws = [(q, .inr (5, [.int (iI th), .int (iI ac), .int (iI dI), .int (iI dp), .ref sa, .int (iI bk), .int (iI rs), .int (iI nW), .int (iI nH), .int (iI mt), .int (iI op), .int (iI x), .int (iI y), .int (iI wd), .int (iI ht), .int (iI sc), .int (iI rw), .int (iI ln), .ref ea, .ref fa, .ref ca, .int (iI ct), .int (iI kr), .int (iI kb), .int (iI ov)])), (ea, .inl (cI, 640, .inl (iA (fun _ => 0))))]) := by
  refine x_met (by decide) (Nat.le_of_ble_eq_true rfl) ?_
  intro p e s m below meth c hx hb hr hml hts hown hlocks hin hF0 A hA hP hD hK ls hl hS
  have hl : lv_has ls 2 [(0, .ref q)] := hl
  refine xi_iconst hx hb d_Mo_blank_0 ?_
  refine lv_istore_n (lv' := [(1, .int (iI 0)), (0, .ref q)]) hx hb d_Mo_blank_1 rfl hl (by decide) rfl (fun ls hl => ?_)
  refine x_loop2 (fun (i : Int) (B1 : Nat → Int) H locs ls => (0 ≤ i ∧ i ≤ 640) ∧ (∀ j : Nat, (j : Int) < i → B1 j = 0) ∧ va_P D xcl [(q, .inr (5, [.int (iI th), .int (iI ac), .int (iI dI), .int (iI dp), .ref sa, .int (iI bk), .int (iI rs), .int (iI nW), .int (iI nH), .int (iI mt), .int (iI op), .int (iI x), .int (iI y), .int (iI wd), .int (iI ht), .int (iI sc), .int (iI rw), .int (iI ln), .ref ea, .ref fa, .ref ca, .int (iI ct), .int (iI kr), .int (iI kb), .int (iI ov)])), (ea, .inl (cI, 640, .inl (iA B1)))] H ∧ va_D A [(q, .inr (5, [.int (iI th), .int (iI ac), .int (iI dI), .int (iI dp), .ref sa, .int (iI bk), .int (iI rs), .int (iI nW), .int (iI nH), .int (iI mt), .int (iI op), .int (iI x), .int (iI y), .int (iI wd), .int (iI ht), .int (iI sc), .int (iI rw), .int (iI ln), .ref ea, .ref fa, .ref ca, .int (iI ct), .int (iI kr), .int (iI kb), .int (iI ov)])), (ea, .inl (cI, 640, .inl (iA B1)))] ∧ va_S A s.heap H locs ∧ lv_has ls 2 [(1, .int (iI i)), (0, .ref q)]) (fun (i : Int) (B1 : Nat → Int) => (640 - i).toNat) 0 B ⟨by omega, fun j hj => by omega, hP, hD, hS, hl⟩ ?_
  intro i B1 H locs ls hI ih_2
  obtain ⟨k1, k2, hP, hD, hS, hl⟩ := hI
  refine lv_iload_n hx hb d_Mo_blank_2 rfl (lv_at hl 0 rfl) ?_
  refine xi_sipush hx hb d_Mo_blank_3 (by decide) ?_
  refine xi_icmp_ge (tgt := 22) hx hb d_Mo_blank_6 (by decide) ⟨by omega, by omega⟩ ⟨by decide, by decide⟩ (fun c_6 => ?_) (fun c_6 => ?_)
  ·
    obtain ⟨hP, hD⟩ := norm_i (fun _ => 0) 1 hP hD rfl (fun j hj => k2 j (by omega))
    have hP : va_P D xcl [(q, .inr (5, [.int (iI th), .int (iI ac), .int (iI dI), .int (iI dp), .ref sa, .int (iI bk), .int (iI rs), .int (iI nW), .int (iI nH), .int (iI mt), .int (iI op), .int (iI x), .int (iI y), .int (iI wd), .int (iI ht), .int (iI sc), .int (iI rw), .int (iI ln), .ref ea, .ref fa, .ref ca, .int (iI ct), .int (iI kr), .int (iI kb), .int (iI ov)])), (ea, .inl (cI, 640, .inl (iA (fun _ => 0))))] _ := hP
    have hD : va_D A [(q, .inr (5, [.int (iI th), .int (iI ac), .int (iI dI), .int (iI dp), .ref sa, .int (iI bk), .int (iI rs), .int (iI nW), .int (iI nH), .int (iI mt), .int (iI op), .int (iI x), .int (iI y), .int (iI wd), .int (iI ht), .int (iI sc), .int (iI rw), .int (iI ln), .ref ea, .ref fa, .ref ca, .int (iI ct), .int (iI kr), .int (iI kb), .int (iI ov)])), (ea, .inl (cI, 640, .inl (iA (fun _ => 0))))] := hD
    exact x_vret hx hb hr hlocks hP hD hS (by decide) (by decide) ⟨rfl, rfl⟩ d_Mo_blank_22
  ·
    refine lv_aload_n hx hb d_Mo_blank_9 rfl (lv_at hl 1 rfl) ?_
    refine va_get (D := D) (cl := xcl) (ci := 5) (v := .ref ea) (C := R_Mo) (T := T_Mo) (N := 25) hx hb hts i_Mo hown hK hP 0 rfl rfl 18 (by decide) (hts _ kw_521) (fun _ h9 => h9) rfl d_Mo_blank_10 ?_
    refine lv_iload_n hx hb d_Mo_blank_13 rfl (lv_at hl 0 rfl) ?_
    refine xi_iconst hx hb d_Mo_blank_14 ?_
    refine xi_iast hx hb hK hP hD hS 1 0 rfl rfl (by omega) (by omega) (by omega) d_Mo_blank_15 (fun H locs hP hD hS => ?_)
    have hP : va_P D xcl [(q, .inr (5, [.int (iI th), .int (iI ac), .int (iI dI), .int (iI dp), .ref sa, .int (iI bk), .int (iI rs), .int (iI nW), .int (iI nH), .int (iI mt), .int (iI op), .int (iI x), .int (iI y), .int (iI wd), .int (iI ht), .int (iI sc), .int (iI rw), .int (iI ln), .ref ea, .ref fa, .ref ca, .int (iI ct), .int (iI kr), .int (iI kb), .int (iI ov)])), (ea, .inl (cI, 640, .inl (iA (va_up B1 i.toNat 0))))] _ := hP
    have hD : va_D A [(q, .inr (5, [.int (iI th), .int (iI ac), .int (iI dI), .int (iI dp), .ref sa, .int (iI bk), .int (iI rs), .int (iI nW), .int (iI nH), .int (iI mt), .int (iI op), .int (iI x), .int (iI y), .int (iI wd), .int (iI ht), .int (iI sc), .int (iI rw), .int (iI ln), .ref ea, .ref fa, .ref ca, .int (iI ct), .int (iI kr), .int (iI kb), .int (iI ov)])), (ea, .inl (cI, 640, .inl (iA (va_up B1 i.toNat 0))))] := hD
    refine xi_iinc (lv' := [(1, .int (iI (i + 1))), (0, .ref q)]) hx hb d_Mo_blank_16 hl (k := 0) rfl (by decide) rfl (fun ls hl => ?_)
    refine lv_goto (tgt := 2) hx hb d_Mo_blank_19 (by decide) ?_
    exact ih_2 (i + 1) (va_up B1 i.toNat 0) _ _ _ (by omega) ⟨by omega, fun j hj => by
          by_cases e : j = i.toNat
          · subst e; exact up_s _ _ _
          · rw [up_n _ _ e]; exact k2 j (by omega), hP, hD, hS, hl⟩

theorem d_Mo_open_0 : decode b_Mo_open 0 = .ok (.aload_n 0, 1) := by decide +kernel
theorem d_Mo_open_1 : decode b_Mo_open 1 = .ok (.iconst 0, 1) := by decide +kernel
theorem d_Mo_open_2 : decode b_Mo_open 2 = .ok (.putfield 36, 3) := by decide +kernel
theorem d_Mo_open_5 : decode b_Mo_open 5 = .ok (.aload_n 0, 1) := by decide +kernel
theorem d_Mo_open_6 : decode b_Mo_open 6 = .ok (.getfield 39, 3) := by decide +kernel
theorem d_Mo_open_9 : decode b_Mo_open 9 = .ok (.ifCond .ne 17, 3) := by decide +kernel
theorem d_Mo_open_12 : decode b_Mo_open 12 = .ok (.iload_n 1, 1) := by decide +kernel
theorem d_Mo_open_13 : decode b_Mo_open 13 = .ok (.invokestatic 52, 3) := by decide +kernel
theorem d_Mo_open_16 : decode b_Mo_open 16 = .ok (.ifCond .eq 10, 3) := by decide +kernel
theorem d_Mo_open_19 : decode b_Mo_open 19 = .ok (.iload_n 2, 1) := by decide +kernel
theorem d_Mo_open_20 : decode b_Mo_open 20 = .ok (.invokestatic 52, 3) := by decide +kernel
theorem d_Mo_open_23 : decode b_Mo_open 23 = .ok (.ifCond .ne 5, 3) := by decide +kernel
theorem d_Mo_open_26 : decode b_Mo_open 26 = .ok (.iconst 0, 1) := by decide +kernel
theorem d_Mo_open_27 : decode b_Mo_open 27 = .ok (.ireturn, 1) := by decide +kernel
theorem d_Mo_open_28 : decode b_Mo_open 28 = .ok (.aload_n 0, 1) := by decide +kernel
theorem d_Mo_open_29 : decode b_Mo_open 29 = .ok (.iconst 1, 1) := by decide +kernel
theorem d_Mo_open_30 : decode b_Mo_open 30 = .ok (.putfield 39, 3) := by decide +kernel
theorem d_Mo_open_33 : decode b_Mo_open 33 = .ok (.aload_n 0, 1) := by decide +kernel
theorem d_Mo_open_34 : decode b_Mo_open 34 = .ok (.iload_n 1, 1) := by decide +kernel
theorem d_Mo_open_35 : decode b_Mo_open 35 = .ok (.putfield 56, 3) := by decide +kernel
theorem d_Mo_open_38 : decode b_Mo_open 38 = .ok (.aload_n 0, 1) := by decide +kernel
theorem d_Mo_open_39 : decode b_Mo_open 39 = .ok (.iload_n 2, 1) := by decide +kernel
theorem d_Mo_open_40 : decode b_Mo_open 40 = .ok (.putfield 59, 3) := by decide +kernel
theorem d_Mo_open_43 : decode b_Mo_open 43 = .ok (.aload_n 0, 1) := by decide +kernel
theorem d_Mo_open_44 : decode b_Mo_open 44 = .ok (.aload_n 0, 1) := by decide +kernel
theorem d_Mo_open_45 : decode b_Mo_open 45 = .ok (.getfield 46, 3) := by decide +kernel
theorem d_Mo_open_48 : decode b_Mo_open 48 = .ok (.putfield 62, 3) := by decide +kernel
theorem d_Mo_open_51 : decode b_Mo_open 51 = .ok (.aload_n 0, 1) := by decide +kernel
theorem d_Mo_open_52 : decode b_Mo_open 52 = .ok (.aload_n 0, 1) := by decide +kernel
theorem d_Mo_open_53 : decode b_Mo_open 53 = .ok (.getfield 43, 3) := by decide +kernel
theorem d_Mo_open_56 : decode b_Mo_open 56 = .ok (.putfield 65, 3) := by decide +kernel
theorem d_Mo_open_59 : decode b_Mo_open 59 = .ok (.aload_n 0, 1) := by decide +kernel
theorem d_Mo_open_60 : decode b_Mo_open 60 = .ok (.aload_n 0, 1) := by decide +kernel
theorem d_Mo_open_61 : decode b_Mo_open 61 = .ok (.getfield 33, 3) := by decide +kernel
theorem d_Mo_open_64 : decode b_Mo_open 64 = .ok (.aload_n 0, 1) := by decide +kernel
theorem d_Mo_open_65 : decode b_Mo_open 65 = .ok (.getfield 7, 3) := by decide +kernel
theorem d_Mo_open_68 : decode b_Mo_open 68 = .ok (.idiv, 1) := by decide +kernel
theorem d_Mo_open_69 : decode b_Mo_open 69 = .ok (.iconst 1, 1) := by decide +kernel
theorem d_Mo_open_70 : decode b_Mo_open 70 = .ok (.if_icmp .ge 7, 3) := by decide +kernel
theorem d_Mo_open_73 : decode b_Mo_open 73 = .ok (.iconst 1, 1) := by decide +kernel
theorem d_Mo_open_74 : decode b_Mo_open 74 = .ok (.goto 12, 3) := by decide +kernel
theorem d_Mo_open_77 : decode b_Mo_open 77 = .ok (.aload_n 0, 1) := by decide +kernel
theorem d_Mo_open_78 : decode b_Mo_open 78 = .ok (.getfield 33, 3) := by decide +kernel
theorem d_Mo_open_81 : decode b_Mo_open 81 = .ok (.aload_n 0, 1) := by decide +kernel
theorem d_Mo_open_82 : decode b_Mo_open 82 = .ok (.getfield 7, 3) := by decide +kernel
theorem d_Mo_open_85 : decode b_Mo_open 85 = .ok (.idiv, 1) := by decide +kernel
theorem d_Mo_open_86 : decode b_Mo_open 86 = .ok (.putfield 68, 3) := by decide +kernel
theorem d_Mo_open_89 : decode b_Mo_open 89 = .ok (.aload_n 0, 1) := by decide +kernel
theorem d_Mo_open_90 : decode b_Mo_open 90 = .ok (.iconst 0, 1) := by decide +kernel
theorem d_Mo_open_91 : decode b_Mo_open 91 = .ok (.putfield 71, 3) := by decide +kernel
theorem d_Mo_open_94 : decode b_Mo_open 94 = .ok (.aload_n 0, 1) := by decide +kernel
theorem d_Mo_open_95 : decode b_Mo_open 95 = .ok (.aload_n 0, 1) := by decide +kernel
theorem d_Mo_open_96 : decode b_Mo_open 96 = .ok (.getfield 62, 3) := by decide +kernel
theorem d_Mo_open_99 : decode b_Mo_open 99 = .ok (.ifCond .ne 9, 3) := by decide +kernel
theorem d_Mo_open_102 : decode b_Mo_open 102 = .ok (.sipush 640, 3) := by decide +kernel
theorem d_Mo_open_105 : decode b_Mo_open 105 = .ok (.goto 13, 3) := by decide +kernel
theorem d_Mo_open_108 : decode b_Mo_open 108 = .ok (.aload_n 0, 1) := by decide +kernel
theorem d_Mo_open_109 : decode b_Mo_open 109 = .ok (.getfield 62, 3) := by decide +kernel
theorem d_Mo_open_112 : decode b_Mo_open 112 = .ok (.bipush 7, 2) := by decide +kernel
theorem d_Mo_open_114 : decode b_Mo_open 114 = .ok (.iadd, 1) := by decide +kernel
theorem d_Mo_open_115 : decode b_Mo_open 115 = .ok (.bipush 8, 2) := by decide +kernel
theorem d_Mo_open_117 : decode b_Mo_open 117 = .ok (.idiv, 1) := by decide +kernel
theorem d_Mo_open_118 : decode b_Mo_open 118 = .ok (.putfield 74, 3) := by decide +kernel
theorem d_Mo_open_121 : decode b_Mo_open 121 = .ok (.aload_n 0, 1) := by decide +kernel
theorem d_Mo_open_122 : decode b_Mo_open 122 = .ok (.invokevirtual 77, 3) := by decide +kernel
theorem d_Mo_open_125 : decode b_Mo_open 125 = .ok (.iconst 1, 1) := by decide +kernel
theorem d_Mo_open_126 : decode b_Mo_open 126 = .ok (.ireturn, 1) := by decide +kernel
theorem ds_Mo_open : xDesc y_Mo_open 2 := by decide +kernel

abbrev rm_Mo_open : Room := { frames := 1, cells := 0, slots := 0, locals := 21 }
set_option maxHeartbeats 4000000 in
set_option maxRecDepth 100000 in
/-- Model.open -/
theorem c_Mo_open (l : Launch) (D : va_G) (cI cJ cQ : ClassId) (q : Nat) (th : Int) (ac : Int) (dI : Int) (dp : Int) (sa : Nat) (bk : Int) (rs : Int) (nW : Int) (nH : Int) (mt : Int) (op : Int) (x : Int) (y : Int) (wd : Int) (ht : Int) (sc : Int) (rw : Int) (ln : Int) (ea : Nat) (fa : Nat) (ca : Nat) (ct : Int) (kr : Int) (kb : Int) (ov : Int) (B : Nat → Int) (zx : Int) (zy : Int) (hop : op = 0 ∨ op = 1) (hdp : dp = 75 ∨ dp = 150 ∨ dp = 300) (hrs : rs = 75 ∨ rs = 100 ∨ rs = 150 ∨ rs = 300) (hnW : 0 ≤ nW ∧ nW ≤ 5119) (hnH : 0 ≤ nH ∧ nH ≤ 5119) (hzx : inR zx) (hzy : inR zy) : xMet l D (xT cI cJ cQ) y_Mo_open b_Mo_open 3 (some .boolean) rm_Mo_open [.ref q, .int (iI zx), .int (iI zy)] [(q, .inr (5, [.int (iI th), .int (iI ac), .int (iI dI), .int (iI dp), .ref sa, .int (iI bk), .int (iI rs), .int (iI nW), .int (iI nH), .int (iI mt), .int (iI op), .int (iI x), .int (iI y), .int (iI wd), .int (iI ht), .int (iI sc), .int (iI rw), .int (iI ln), .ref ea, .ref fa, .ref ca, .int (iI ct), .int (iI kr), .int (iI kb), .int (iI ov)])), (ea, .inl (cI, 640, .inl (iA B)))] (fun v ws => ∃ (r : Int) (B2 : Nat → Int) (op2 : Int) (x2 : Int) (y2 : Int) (sc2 : Int) (wd2 : Int) (ht2 : Int) (ln2 : Int) (rw2 : Int), v = some (.int (iI r)) ∧ ws = [(q, .inr (5, [.int (iI 0), .int (iI ac), .int (iI dI), .int (iI dp), .ref sa, .int (iI bk), .int (iI rs), .int (iI nW), .int (iI nH), .int (iI mt), .int (iI op2), .int (iI x2), .int (iI y2), .int (iI wd2), .int (iI ht2), .int (iI sc2), .int (iI rw2), .int (iI ln2), .ref ea, .ref fa, .ref ca, .int (iI ct), .int (iI kr), .int (iI kb), .int (iI ov)])), (ea, .inl (cI, 640, .inl (iA B2)))] ∧ ((r = 0 ∧ (op = 1 ∨ zx < -10000 ∨ 10000 < zx ∨ zy < -10000 ∨ 10000 < zy) ∧ B2 = B ∧ op2 = op ∧ x2 = x ∧ y2 = y ∧ sc2 = sc ∧ wd2 = wd ∧ ht2 = ht ∧ ln2 = ln ∧ rw2 = rw) ∨ (r = 1 ∧ op = 0 ∧ -10000 ≤ zx ∧ zx ≤ 10000 ∧ -10000 ≤ zy ∧ zy ≤ 10000 ∧ B2 = (fun _ => 0) ∧ op2 = 1 ∧ x2 = zx ∧ y2 = zy ∧ ((dp / rs < 1 ∧ sc2 = 1) ∨ (1 ≤ dp / rs ∧ sc2 = dp / rs)) ∧ wd2 = nW ∧ ht2 = nH ∧ ((0 < nW ∧ ln2 = (nW + 7) / 8) ∨ (nW = 0 ∧ ln2 = 640)) ∧ rw2 = 0))) := by
  refine x_met (by decide) (Nat.le_of_ble_eq_true rfl) ?_
  intro p e s m below meth c hx hb hr hml hts hown hlocks hin hF0 A hA hP hD hK ls hl hS
  have hl : lv_has ls 3 [(0, .ref q), (1, .int (iI zx)), (2, .int (iI zy))] := hl
  refine lv_aload_n hx hb d_Mo_open_0 rfl (lv_at hl 0 rfl) ?_
  refine xi_iconst hx hb d_Mo_open_1 ?_
  refine va_put (D := D) (cl := xcl) (ci := 5) (v := .int (iI 0)) (ty := .int) (C := R_Mo) (T := T_Mo) (N := 25) hx hb hts i_Mo ty_Mo ty_Mo_ok nm_Mo hown hK hP hD hS 0 rfl rfl 0 (by decide) (hts _ kw_503) (fun _ h9 => h9) rfl (by decide +kernel) rfl rfl (Nat.le_of_ble_eq_true rfl) d_Mo_open_2 (fun H locs hP hD hS => ?_)
  have hP : va_P D xcl [(q, .inr (5, [.int (iI 0), .int (iI ac), .int (iI dI), .int (iI dp), .ref sa, .int (iI bk), .int (iI rs), .int (iI nW), .int (iI nH), .int (iI mt), .int (iI op), .int (iI x), .int (iI y), .int (iI wd), .int (iI ht), .int (iI sc), .int (iI rw), .int (iI ln), .ref ea, .ref fa, .ref ca, .int (iI ct), .int (iI kr), .int (iI kb), .int (iI ov)])), (ea, .inl (cI, 640, .inl (iA B)))] _ := hP
  have hD : va_D A [(q, .inr (5, [.int (iI 0), .int (iI ac), .int (iI dI), .int (iI dp), .ref sa, .int (iI bk), .int (iI rs), .int (iI nW), .int (iI nH), .int (iI mt), .int (iI op), .int (iI x), .int (iI y), .int (iI wd), .int (iI ht), .int (iI sc), .int (iI rw), .int (iI ln), .ref ea, .ref fa, .ref ca, .int (iI ct), .int (iI kr), .int (iI kb), .int (iI ov)])), (ea, .inl (cI, 640, .inl (iA B)))] := hD
  refine lv_aload_n hx hb d_Mo_open_5 rfl (lv_at hl 0 rfl) ?_
  refine va_get (D := D) (cl := xcl) (ci := 5) (v := .int (iI op)) (C := R_Mo) (T := T_Mo) (N := 25) hx hb hts i_Mo hown hK hP 0 rfl rfl 10 (by decide) (hts _ kw_513) (fun _ h9 => h9) rfl d_Mo_open_6 ?_
  refine xi_if_ne (tgt := 26) hx hb d_Mo_open_9 (by decide) ⟨by omega, by omega⟩ (fun c_9 => ?_) (fun c_9 => ?_)
  ·
    refine xi_iconst hx hb d_Mo_open_26 ?_
    exact x_zret hx hb hr hlocks hP hD hS (by decide) (by decide) rfl ⟨0, B, op, x, y, sc, wd, ht, ln, rw, rfl, rfl, Or.inl ⟨rfl, by omega, rfl, rfl, rfl, rfl, rfl, rfl, rfl, rfl, rfl⟩⟩ d_Mo_open_27
  ·
    refine lv_iload_n hx hb d_Mo_open_12 rfl (lv_at hl 1 rfl) ?_
    refine x_aft (x_runS (As := [.int (iI zx)]) (rest := []) hx hb hml hown hts (c_Mo_isPlace l D cI cJ cQ zx (hzx)) kw_599 kw_600 kw_7 kw_601 ds_Mo_isPlace (by decide) hK (hP.sub (ws' := []) [] rfl) (hD.sub (ws' := []) [] (by decide) rfl) hl.1 rfl (Nat.le_of_ble_eq_true rfl) d_Mo_open_13) hP hD hS hA [] [0, 1] rfl (wr := [(q, .inr (5, [.int (iI 0), .int (iI ac), .int (iI dI), .int (iI dp), .ref sa, .int (iI bk), .int (iI rs), .int (iI nW), .int (iI nH), .int (iI mt), .int (iI op), .int (iI x), .int (iI y), .int (iI wd), .int (iI ht), .int (iI sc), .int (iI rw), .int (iI ln), .ref ea, .ref fa, .ref ca, .int (iI ct), .int (iI kr), .int (iI kb), .int (iI ov)])), (ea, .inl (cI, 640, .inl (iA B)))]) rfl (by decide) (by decide) (fun v w1 H locs hq hP hD hS => ?_)
    obtain ⟨r_13, rfl, rfl, hr__13⟩ := hq
    refine W.cs (cells' := 0) (slots' := 0) rfl rfl ?_
    refine W.eq (g2 := F0 m 16 ls [.int (iI r_13)]) rfl ?_
    have hP : va_P D xcl [(q, .inr (5, [.int (iI 0), .int (iI ac), .int (iI dI), .int (iI dp), .ref sa, .int (iI bk), .int (iI rs), .int (iI nW), .int (iI nH), .int (iI mt), .int (iI op), .int (iI x), .int (iI y), .int (iI wd), .int (iI ht), .int (iI sc), .int (iI rw), .int (iI ln), .ref ea, .ref fa, .ref ca, .int (iI ct), .int (iI kr), .int (iI kb), .int (iI ov)])), (ea, .inl (cI, 640, .inl (iA B)))] _ := hP
    have hD : va_D A [(q, .inr (5, [.int (iI 0), .int (iI ac), .int (iI dI), .int (iI dp), .ref sa, .int (iI bk), .int (iI rs), .int (iI nW), .int (iI nH), .int (iI mt), .int (iI op), .int (iI x), .int (iI y), .int (iI wd), .int (iI ht), .int (iI sc), .int (iI rw), .int (iI ln), .ref ea, .ref fa, .ref ca, .int (iI ct), .int (iI kr), .int (iI kb), .int (iI ov)])), (ea, .inl (cI, 640, .inl (iA B)))] := hD
    refine xi_if_eq (tgt := 26) hx hb d_Mo_open_16 (by decide) ⟨by omega, by omega⟩ (fun c_16 => ?_) (fun c_16 => ?_)
    ·
      refine xi_iconst hx hb d_Mo_open_26 ?_
      exact x_zret hx hb hr hlocks hP hD hS (by decide) (by decide) rfl ⟨0, B, op, x, y, sc, wd, ht, ln, rw, rfl, rfl, Or.inl ⟨rfl, by omega, rfl, rfl, rfl, rfl, rfl, rfl, rfl, rfl, rfl⟩⟩ d_Mo_open_27
    ·
      refine lv_iload_n hx hb d_Mo_open_19 rfl (lv_at hl 2 rfl) ?_
      refine x_aft (x_runS (As := [.int (iI zy)]) (rest := []) hx hb hml hown hts (c_Mo_isPlace l D cI cJ cQ zy (hzy)) kw_599 kw_600 kw_7 kw_601 ds_Mo_isPlace (by decide) hK (hP.sub (ws' := []) [] rfl) (hD.sub (ws' := []) [] (by decide) rfl) hl.1 rfl (Nat.le_of_ble_eq_true rfl) d_Mo_open_20) hP hD hS hA [] [0, 1] rfl (wr := [(q, .inr (5, [.int (iI 0), .int (iI ac), .int (iI dI), .int (iI dp), .ref sa, .int (iI bk), .int (iI rs), .int (iI nW), .int (iI nH), .int (iI mt), .int (iI op), .int (iI x), .int (iI y), .int (iI wd), .int (iI ht), .int (iI sc), .int (iI rw), .int (iI ln), .ref ea, .ref fa, .ref ca, .int (iI ct), .int (iI kr), .int (iI kb), .int (iI ov)])), (ea, .inl (cI, 640, .inl (iA B)))]) rfl (by decide) (by decide) (fun v w1 H locs hq hP hD hS => ?_)
      obtain ⟨r_20, rfl, rfl, hr__20⟩ := hq
      refine W.cs (cells' := 0) (slots' := 0) rfl rfl ?_
      refine W.eq (g2 := F0 m 23 ls [.int (iI r_20)]) rfl ?_
      have hP : va_P D xcl [(q, .inr (5, [.int (iI 0), .int (iI ac), .int (iI dI), .int (iI dp), .ref sa, .int (iI bk), .int (iI rs), .int (iI nW), .int (iI nH), .int (iI mt), .int (iI op), .int (iI x), .int (iI y), .int (iI wd), .int (iI ht), .int (iI sc), .int (iI rw), .int (iI ln), .ref ea, .ref fa, .ref ca, .int (iI ct), .int (iI kr), .int (iI kb), .int (iI ov)])), (ea, .inl (cI, 640, .inl (iA B)))] _ := hP
      have hD : va_D A [(q, .inr (5, [.int (iI 0), .int (iI ac), .int (iI dI), .int (iI dp), .ref sa, .int (iI bk), .int (iI rs), .int (iI nW), .int (iI nH), .int (iI mt), .int (iI op), .int (iI x), .int (iI y), .int (iI wd), .int (iI ht), .int (iI sc), .int (iI rw), .int (iI ln), .ref ea, .ref fa, .ref ca, .int (iI ct), .int (iI kr), .int (iI kb), .int (iI ov)])), (ea, .inl (cI, 640, .inl (iA B)))] := hD
      refine xi_if_ne (tgt := 28) hx hb d_Mo_open_23 (by decide) ⟨by omega, by omega⟩ (fun c_23 => ?_) (fun c_23 => ?_)
      ·
        refine lv_aload_n hx hb d_Mo_open_28 rfl (lv_at hl 0 rfl) ?_
        refine xi_iconst hx hb d_Mo_open_29 ?_
        refine va_put (D := D) (cl := xcl) (ci := 5) (v := .int (iI 1)) (ty := .boolean) (C := R_Mo) (T := T_Mo) (N := 25) hx hb hts i_Mo ty_Mo ty_Mo_ok nm_Mo hown hK hP hD hS 0 rfl rfl 10 (by decide) (hts _ kw_513) (fun _ h9 => h9) rfl (by decide +kernel) rfl rfl (Nat.le_of_ble_eq_true rfl) d_Mo_open_30 (fun H locs hP hD hS => ?_)
        have hP : va_P D xcl [(q, .inr (5, [.int (iI 0), .int (iI ac), .int (iI dI), .int (iI dp), .ref sa, .int (iI bk), .int (iI rs), .int (iI nW), .int (iI nH), .int (iI mt), .int (iI 1), .int (iI x), .int (iI y), .int (iI wd), .int (iI ht), .int (iI sc), .int (iI rw), .int (iI ln), .ref ea, .ref fa, .ref ca, .int (iI ct), .int (iI kr), .int (iI kb), .int (iI ov)])), (ea, .inl (cI, 640, .inl (iA B)))] _ := hP
        have hD : va_D A [(q, .inr (5, [.int (iI 0), .int (iI ac), .int (iI dI), .int (iI dp), .ref sa, .int (iI bk), .int (iI rs), .int (iI nW), .int (iI nH), .int (iI mt), .int (iI 1), .int (iI x), .int (iI y), .int (iI wd), .int (iI ht), .int (iI sc), .int (iI rw), .int (iI ln), .ref ea, .ref fa, .ref ca, .int (iI ct), .int (iI kr), .int (iI kb), .int (iI ov)])), (ea, .inl (cI, 640, .inl (iA B)))] := hD
        refine lv_aload_n hx hb d_Mo_open_33 rfl (lv_at hl 0 rfl) ?_
        refine lv_iload_n hx hb d_Mo_open_34 rfl (lv_at hl 1 rfl) ?_
        refine va_put (D := D) (cl := xcl) (ci := 5) (v := .int (iI zx)) (ty := .int) (C := R_Mo) (T := T_Mo) (N := 25) hx hb hts i_Mo ty_Mo ty_Mo_ok nm_Mo hown hK hP hD hS 0 rfl rfl 11 (by decide) (hts _ kw_514) (fun _ h9 => h9) rfl (by decide +kernel) rfl rfl (Nat.le_of_ble_eq_true rfl) d_Mo_open_35 (fun H locs hP hD hS => ?_)
        have hP : va_P D xcl [(q, .inr (5, [.int (iI 0), .int (iI ac), .int (iI dI), .int (iI dp), .ref sa, .int (iI bk), .int (iI rs), .int (iI nW), .int (iI nH), .int (iI mt), .int (iI 1), .int (iI zx), .int (iI y), .int (iI wd), .int (iI ht), .int (iI sc), .int (iI rw), .int (iI ln), .ref ea, .ref fa, .ref ca, .int (iI ct), .int (iI kr), .int (iI kb), .int (iI ov)])), (ea, .inl (cI, 640, .inl (iA B)))] _ := hP
        have hD : va_D A [(q, .inr (5, [.int (iI 0), .int (iI ac), .int (iI dI), .int (iI dp), .ref sa, .int (iI bk), .int (iI rs), .int (iI nW), .int (iI nH), .int (iI mt), .int (iI 1), .int (iI zx), .int (iI y), .int (iI wd), .int (iI ht), .int (iI sc), .int (iI rw), .int (iI ln), .ref ea, .ref fa, .ref ca, .int (iI ct), .int (iI kr), .int (iI kb), .int (iI ov)])), (ea, .inl (cI, 640, .inl (iA B)))] := hD
        refine lv_aload_n hx hb d_Mo_open_38 rfl (lv_at hl 0 rfl) ?_
        refine lv_iload_n hx hb d_Mo_open_39 rfl (lv_at hl 2 rfl) ?_
        refine va_put (D := D) (cl := xcl) (ci := 5) (v := .int (iI zy)) (ty := .int) (C := R_Mo) (T := T_Mo) (N := 25) hx hb hts i_Mo ty_Mo ty_Mo_ok nm_Mo hown hK hP hD hS 0 rfl rfl 12 (by decide) (hts _ kw_515) (fun _ h9 => h9) rfl (by decide +kernel) rfl rfl (Nat.le_of_ble_eq_true rfl) d_Mo_open_40 (fun H locs hP hD hS => ?_)
        have hP : va_P D xcl [(q, .inr (5, [.int (iI 0), .int (iI ac), .int (iI dI), .int (iI dp), .ref sa, .int (iI bk), .int (iI rs), .int (iI nW), .int (iI nH), .int (iI mt), .int (iI 1), .int (iI zx), .int (iI zy), .int (iI wd), .int (iI ht), .int (iI sc), .int (iI rw), .int (iI ln), .ref ea, .ref fa, .ref ca, .int (iI ct), .int (iI kr), .int (iI kb), .int (iI ov)])), (ea, .inl (cI, 640, .inl (iA B)))] _ := hP
        have hD : va_D A [(q, .inr (5, [.int (iI 0), .int (iI ac), .int (iI dI), .int (iI dp), .ref sa, .int (iI bk), .int (iI rs), .int (iI nW), .int (iI nH), .int (iI mt), .int (iI 1), .int (iI zx), .int (iI zy), .int (iI wd), .int (iI ht), .int (iI sc), .int (iI rw), .int (iI ln), .ref ea, .ref fa, .ref ca, .int (iI ct), .int (iI kr), .int (iI kb), .int (iI ov)])), (ea, .inl (cI, 640, .inl (iA B)))] := hD
        refine lv_aload_n hx hb d_Mo_open_43 rfl (lv_at hl 0 rfl) ?_
        refine lv_aload_n hx hb d_Mo_open_44 rfl (lv_at hl 0 rfl) ?_
        refine va_get (D := D) (cl := xcl) (ci := 5) (v := .int (iI nW)) (C := R_Mo) (T := T_Mo) (N := 25) hx hb hts i_Mo hown hK hP 0 rfl rfl 7 (by decide) (hts _ kw_510) (fun _ h9 => h9) rfl d_Mo_open_45 ?_
        refine va_put (D := D) (cl := xcl) (ci := 5) (v := .int (iI nW)) (ty := .int) (C := R_Mo) (T := T_Mo) (N := 25) hx hb hts i_Mo ty_Mo ty_Mo_ok nm_Mo hown hK hP hD hS 0 rfl rfl 13 (by decide) (hts _ kw_516) (fun _ h9 => h9) rfl (by decide +kernel) rfl rfl (Nat.le_of_ble_eq_true rfl) d_Mo_open_48 (fun H locs hP hD hS => ?_)
        have hP : va_P D xcl [(q, .inr (5, [.int (iI 0), .int (iI ac), .int (iI dI), .int (iI dp), .ref sa, .int (iI bk), .int (iI rs), .int (iI nW), .int (iI nH), .int (iI mt), .int (iI 1), .int (iI zx), .int (iI zy), .int (iI nW), .int (iI ht), .int (iI sc), .int (iI rw), .int (iI ln), .ref ea, .ref fa, .ref ca, .int (iI ct), .int (iI kr), .int (iI kb), .int (iI ov)])), (ea, .inl (cI, 640, .inl (iA B)))] _ := hP
        have hD : va_D A [(q, .inr (5, [.int (iI 0), .int (iI ac), .int (iI dI), .int (iI dp), .ref sa, .int (iI bk), .int (iI rs), .int (iI nW), .int (iI nH), .int (iI mt), .int (iI 1), .int (iI zx), .int (iI zy), .int (iI nW), .int (iI ht), .int (iI sc), .int (iI rw), .int (iI ln), .ref ea, .ref fa, .ref ca, .int (iI ct), .int (iI kr), .int (iI kb), .int (iI ov)])), (ea, .inl (cI, 640, .inl (iA B)))] := hD
        refine lv_aload_n hx hb d_Mo_open_51 rfl (lv_at hl 0 rfl) ?_
        refine lv_aload_n hx hb d_Mo_open_52 rfl (lv_at hl 0 rfl) ?_
        refine va_get (D := D) (cl := xcl) (ci := 5) (v := .int (iI nH)) (C := R_Mo) (T := T_Mo) (N := 25) hx hb hts i_Mo hown hK hP 0 rfl rfl 8 (by decide) (hts _ kw_511) (fun _ h9 => h9) rfl d_Mo_open_53 ?_
        refine va_put (D := D) (cl := xcl) (ci := 5) (v := .int (iI nH)) (ty := .int) (C := R_Mo) (T := T_Mo) (N := 25) hx hb hts i_Mo ty_Mo ty_Mo_ok nm_Mo hown hK hP hD hS 0 rfl rfl 14 (by decide) (hts _ kw_517) (fun _ h9 => h9) rfl (by decide +kernel) rfl rfl (Nat.le_of_ble_eq_true rfl) d_Mo_open_56 (fun H locs hP hD hS => ?_)
        have hP : va_P D xcl [(q, .inr (5, [.int (iI 0), .int (iI ac), .int (iI dI), .int (iI dp), .ref sa, .int (iI bk), .int (iI rs), .int (iI nW), .int (iI nH), .int (iI mt), .int (iI 1), .int (iI zx), .int (iI zy), .int (iI nW), .int (iI nH), .int (iI sc), .int (iI rw), .int (iI ln), .ref ea, .ref fa, .ref ca, .int (iI ct), .int (iI kr), .int (iI kb), .int (iI ov)])), (ea, .inl (cI, 640, .inl (iA B)))] _ := hP
        have hD : va_D A [(q, .inr (5, [.int (iI 0), .int (iI ac), .int (iI dI), .int (iI dp), .ref sa, .int (iI bk), .int (iI rs), .int (iI nW), .int (iI nH), .int (iI mt), .int (iI 1), .int (iI zx), .int (iI zy), .int (iI nW), .int (iI nH), .int (iI sc), .int (iI rw), .int (iI ln), .ref ea, .ref fa, .ref ca, .int (iI ct), .int (iI kr), .int (iI kb), .int (iI ov)])), (ea, .inl (cI, 640, .inl (iA B)))] := hD
        refine x_cut1 86 (cJ := 0) (sJ := 0) (fun (sv : Int) => [.int (iI sv), .ref q]) (fun (sv : Int) H locs ls => ((dp / rs < 1 ∧ sv = 1) ∨ (1 ≤ dp / rs ∧ sv = dp / rs)) ∧ va_P D xcl [(q, .inr (5, [.int (iI 0), .int (iI ac), .int (iI dI), .int (iI dp), .ref sa, .int (iI bk), .int (iI rs), .int (iI nW), .int (iI nH), .int (iI mt), .int (iI 1), .int (iI zx), .int (iI zy), .int (iI nW), .int (iI nH), .int (iI sc), .int (iI rw), .int (iI ln), .ref ea, .ref fa, .ref ca, .int (iI ct), .int (iI kr), .int (iI kb), .int (iI ov)])), (ea, .inl (cI, 640, .inl (iA B)))] H ∧ va_D A [(q, .inr (5, [.int (iI 0), .int (iI ac), .int (iI dI), .int (iI dp), .ref sa, .int (iI bk), .int (iI rs), .int (iI nW), .int (iI nH), .int (iI mt), .int (iI 1), .int (iI zx), .int (iI zy), .int (iI nW), .int (iI nH), .int (iI sc), .int (iI rw), .int (iI ln), .ref ea, .ref fa, .ref ca, .int (iI ct), .int (iI kr), .int (iI kb), .int (iI ov)])), (ea, .inl (cI, 640, .inl (iA B)))] ∧ va_S A s.heap H locs ∧ lv_has ls 3 [(0, .ref q), (1, .int (iI zx)), (2, .int (iI zy))]) ?_ ?_
        ·
          intro sv H locs ls hI
          obtain ⟨hsv, hP, hD, hS, hl⟩ := hI
          refine va_put (D := D) (cl := xcl) (ci := 5) (v := .int (iI sv)) (ty := .int) (C := R_Mo) (T := T_Mo) (N := 25) hx hb hts i_Mo ty_Mo ty_Mo_ok nm_Mo hown hK hP hD hS 0 rfl rfl 15 (by decide) (hts _ kw_518) (fun _ h9 => h9) rfl (by decide +kernel) rfl rfl (Nat.le_of_ble_eq_true rfl) d_Mo_open_86 (fun H locs hP hD hS => ?_)
          have hP : va_P D xcl [(q, .inr (5, [.int (iI 0), .int (iI ac), .int (iI dI), .int (iI dp), .ref sa, .int (iI bk), .int (iI rs), .int (iI nW), .int (iI nH), .int (iI mt), .int (iI 1), .int (iI zx), .int (iI zy), .int (iI nW), .int (iI nH), .int (iI sv), .int (iI rw), .int (iI ln), .ref ea, .ref fa, .ref ca, .int (iI ct), .int (iI kr), .int (iI kb), .int (iI ov)])), (ea, .inl (cI, 640, .inl (iA B)))] _ := hP
          have hD : va_D A [(q, .inr (5, [.int (iI 0), .int (iI ac), .int (iI dI), .int (iI dp), .ref sa, .int (iI bk), .int (iI rs), .int (iI nW), .int (iI nH), .int (iI mt), .int (iI 1), .int (iI zx), .int (iI zy), .int (iI nW), .int (iI nH), .int (iI sv), .int (iI rw), .int (iI ln), .ref ea, .ref fa, .ref ca, .int (iI ct), .int (iI kr), .int (iI kb), .int (iI ov)])), (ea, .inl (cI, 640, .inl (iA B)))] := hD
          refine lv_aload_n hx hb d_Mo_open_89 rfl (lv_at hl 0 rfl) ?_
          refine xi_iconst hx hb d_Mo_open_90 ?_
          refine va_put (D := D) (cl := xcl) (ci := 5) (v := .int (iI 0)) (ty := .int) (C := R_Mo) (T := T_Mo) (N := 25) hx hb hts i_Mo ty_Mo ty_Mo_ok nm_Mo hown hK hP hD hS 0 rfl rfl 16 (by decide) (hts _ kw_519) (fun _ h9 => h9) rfl (by decide +kernel) rfl rfl (Nat.le_of_ble_eq_true rfl) d_Mo_open_91 (fun H locs hP hD hS => ?_)
          have hP : va_P D xcl [(q, .inr (5, [.int (iI 0), .int (iI ac), .int (iI dI), .int (iI dp), .ref sa, .int (iI bk), .int (iI rs), .int (iI nW), .int (iI nH), .int (iI mt), .int (iI 1), .int (iI zx), .int (iI zy), .int (iI nW), .int (iI nH), .int (iI sv), .int (iI 0), .int (iI ln), .ref ea, .ref fa, .ref ca, .int (iI ct), .int (iI kr), .int (iI kb), .int (iI ov)])), (ea, .inl (cI, 640, .inl (iA B)))] _ := hP
          have hD : va_D A [(q, .inr (5, [.int (iI 0), .int (iI ac), .int (iI dI), .int (iI dp), .ref sa, .int (iI bk), .int (iI rs), .int (iI nW), .int (iI nH), .int (iI mt), .int (iI 1), .int (iI zx), .int (iI zy), .int (iI nW), .int (iI nH), .int (iI sv), .int (iI 0), .int (iI ln), .ref ea, .ref fa, .ref ca, .int (iI ct), .int (iI kr), .int (iI kb), .int (iI ov)])), (ea, .inl (cI, 640, .inl (iA B)))] := hD
          refine lv_aload_n hx hb d_Mo_open_94 rfl (lv_at hl 0 rfl) ?_
          refine lv_aload_n hx hb d_Mo_open_95 rfl (lv_at hl 0 rfl) ?_
          refine va_get (D := D) (cl := xcl) (ci := 5) (v := .int (iI nW)) (C := R_Mo) (T := T_Mo) (N := 25) hx hb hts i_Mo hown hK hP 0 rfl rfl 13 (by decide) (hts _ kw_516) (fun _ h9 => h9) rfl d_Mo_open_96 ?_
          refine xi_if_ne (tgt := 108) hx hb d_Mo_open_99 (by decide) ⟨by omega, by omega⟩ (fun c_99 => ?_) (fun c_99 => ?_)
          ·
            refine lv_aload_n hx hb d_Mo_open_108 rfl (lv_at hl 0 rfl) ?_
            refine va_get (D := D) (cl := xcl) (ci := 5) (v := .int (iI nW)) (C := R_Mo) (T := T_Mo) (N := 25) hx hb hts i_Mo hown hK hP 0 rfl rfl 13 (by decide) (hts _ kw_516) (fun _ h9 => h9) rfl d_Mo_open_109 ?_
            refine xi_bipush hx hb d_Mo_open_112 (by decide) ?_
            refine xi_iadd hx hb d_Mo_open_114 ?_
            refine xi_bipush hx hb d_Mo_open_115 (by decide) ?_
            refine xi_idiv hx hb d_Mo_open_117 ⟨by omega, by omega⟩ ⟨by omega, by omega⟩ ?_
            refine va_put (D := D) (cl := xcl) (ci := 5) (v := .int (iI ((nW + 7) / 8))) (ty := .int) (C := R_Mo) (T := T_Mo) (N := 25) hx hb hts i_Mo ty_Mo ty_Mo_ok nm_Mo hown hK hP hD hS 0 rfl rfl 17 (by decide) (hts _ kw_520) (fun _ h9 => h9) rfl (by decide +kernel) rfl rfl (Nat.le_of_ble_eq_true rfl) d_Mo_open_118 (fun H locs hP hD hS => ?_)
            have hP : va_P D xcl [(q, .inr (5, [.int (iI 0), .int (iI ac), .int (iI dI), .int (iI dp), .ref sa, .int (iI bk), .int (iI rs), .int (iI nW), .int (iI nH), .int (iI mt), .int (iI 1), .int (iI zx), .int (iI zy), .int (iI nW), .int (iI nH), .int (iI sv), .int (iI 0), .int (iI ((nW + 7) / 8)), .ref ea, .ref fa, .ref ca, .int (iI ct), .int (iI kr), .int (iI kb), .int (iI ov)])), (ea, .inl (cI, 640, .inl (iA B)))] _ := hP
            have hD : va_D A [(q, .inr (5, [.int (iI 0), .int (iI ac), .int (iI dI), .int (iI dp), .ref sa, .int (iI bk), .int (iI rs), .int (iI nW), .int (iI nH), .int (iI mt), .int (iI 1), .int (iI zx), .int (iI zy), .int (iI nW), .int (iI nH), .int (iI sv), .int (iI 0), .int (iI ((nW + 7) / 8)), .ref ea, .ref fa, .ref ca, .int (iI ct), .int (iI kr), .int (iI kb), .int (iI ov)])), (ea, .inl (cI, 640, .inl (iA B)))] := hD
            refine lv_aload_n hx hb d_Mo_open_121 rfl (lv_at hl 0 rfl) ?_
            refine x_aft (x_runV (C := "RasterRowsModel") (As := []) (rest := []) (ci := 5) (q0 := 0) hx hb hml hown hts (c_Mo_blank l D cI cJ cQ q 0 ac dI dp sa bk rs nW nH mt 1 zx zy nW nH sv 0 ((nW + 7) / 8) ea fa ca ct kr kb ov B ) kw_602 kw_604 kp_8 kw_7 kw_605 ds_Mo_blank (by decide) hK (hP.sub (ws' := [(q, .inr (5, [.int (iI 0), .int (iI ac), .int (iI dI), .int (iI dp), .ref sa, .int (iI bk), .int (iI rs), .int (iI nW), .int (iI nH), .int (iI mt), .int (iI 1), .int (iI zx), .int (iI zy), .int (iI nW), .int (iI nH), .int (iI sv), .int (iI 0), .int (iI ((nW + 7) / 8)), .ref ea, .ref fa, .ref ca, .int (iI ct), .int (iI kr), .int (iI kb), .int (iI ov)])), (ea, .inl (cI, 640, .inl (iA B)))]) [0, 1] rfl) (hD.sub (ws' := [(q, .inr (5, [.int (iI 0), .int (iI ac), .int (iI dI), .int (iI dp), .ref sa, .int (iI bk), .int (iI rs), .int (iI nW), .int (iI nH), .int (iI mt), .int (iI 1), .int (iI zx), .int (iI zy), .int (iI nW), .int (iI nH), .int (iI sv), .int (iI 0), .int (iI ((nW + 7) / 8)), .ref ea, .ref fa, .ref ca, .int (iI ct), .int (iI kr), .int (iI kb), .int (iI ov)])), (ea, .inl (cI, 640, .inl (iA B)))]) [0, 1] (by decide) rfl) rfl rfl rfl hl.1 rfl (Nat.le_of_ble_eq_true rfl) d_Mo_open_122) hP hD hS hA [0, 1] [] rfl (wr := []) rfl (by decide) (by decide) (fun v w1 H locs hq hP hD hS => ?_)
            obtain ⟨rfl, rfl⟩ := hq
            refine W.cs (cells' := 0) (slots' := 0) rfl rfl ?_
            refine W.eq (g2 := F0 m 125 ls []) rfl ?_
            have hP : va_P D xcl [(q, .inr (5, [.int (iI 0), .int (iI ac), .int (iI dI), .int (iI dp), .ref sa, .int (iI bk), .int (iI rs), .int (iI nW), .int (iI nH), .int (iI mt), .int (iI 1), .int (iI zx), .int (iI zy), .int (iI nW), .int (iI nH), .int (iI sv), .int (iI 0), .int (iI ((nW + 7) / 8)), .ref ea, .ref fa, .ref ca, .int (iI ct), .int (iI kr), .int (iI kb), .int (iI ov)])), (ea, .inl (cI, 640, .inl (iA (fun _ => 0))))] _ := hP
            have hD : va_D A [(q, .inr (5, [.int (iI 0), .int (iI ac), .int (iI dI), .int (iI dp), .ref sa, .int (iI bk), .int (iI rs), .int (iI nW), .int (iI nH), .int (iI mt), .int (iI 1), .int (iI zx), .int (iI zy), .int (iI nW), .int (iI nH), .int (iI sv), .int (iI 0), .int (iI ((nW + 7) / 8)), .ref ea, .ref fa, .ref ca, .int (iI ct), .int (iI kr), .int (iI kb), .int (iI ov)])), (ea, .inl (cI, 640, .inl (iA (fun _ => 0))))] := hD
            refine xi_iconst hx hb d_Mo_open_125 ?_
            exact x_zret hx hb hr hlocks hP hD hS (by decide) (by decide) rfl ⟨1, (fun _ => 0), 1, zx, zy, sv, nW, nH, ((nW + 7) / 8), 0, rfl, rfl, Or.inr ⟨rfl, by omega, by omega, by omega, by omega, by omega, rfl, rfl, rfl, rfl, hsv, rfl, rfl, by omega, rfl⟩⟩ d_Mo_open_126
          ·
            refine xi_sipush hx hb d_Mo_open_102 (by decide) ?_
            refine lv_goto (tgt := 118) hx hb d_Mo_open_105 (by decide) ?_
            refine va_put (D := D) (cl := xcl) (ci := 5) (v := .int (iI 640)) (ty := .int) (C := R_Mo) (T := T_Mo) (N := 25) hx hb hts i_Mo ty_Mo ty_Mo_ok nm_Mo hown hK hP hD hS 0 rfl rfl 17 (by decide) (hts _ kw_520) (fun _ h9 => h9) rfl (by decide +kernel) rfl rfl (Nat.le_of_ble_eq_true rfl) d_Mo_open_118 (fun H locs hP hD hS => ?_)
            have hP : va_P D xcl [(q, .inr (5, [.int (iI 0), .int (iI ac), .int (iI dI), .int (iI dp), .ref sa, .int (iI bk), .int (iI rs), .int (iI nW), .int (iI nH), .int (iI mt), .int (iI 1), .int (iI zx), .int (iI zy), .int (iI nW), .int (iI nH), .int (iI sv), .int (iI 0), .int (iI 640), .ref ea, .ref fa, .ref ca, .int (iI ct), .int (iI kr), .int (iI kb), .int (iI ov)])), (ea, .inl (cI, 640, .inl (iA B)))] _ := hP
            have hD : va_D A [(q, .inr (5, [.int (iI 0), .int (iI ac), .int (iI dI), .int (iI dp), .ref sa, .int (iI bk), .int (iI rs), .int (iI nW), .int (iI nH), .int (iI mt), .int (iI 1), .int (iI zx), .int (iI zy), .int (iI nW), .int (iI nH), .int (iI sv), .int (iI 0), .int (iI 640), .ref ea, .ref fa, .ref ca, .int (iI ct), .int (iI kr), .int (iI kb), .int (iI ov)])), (ea, .inl (cI, 640, .inl (iA B)))] := hD
            refine lv_aload_n hx hb d_Mo_open_121 rfl (lv_at hl 0 rfl) ?_
            refine x_aft (x_runV (C := "RasterRowsModel") (As := []) (rest := []) (ci := 5) (q0 := 0) hx hb hml hown hts (c_Mo_blank l D cI cJ cQ q 0 ac dI dp sa bk rs nW nH mt 1 zx zy nW nH sv 0 640 ea fa ca ct kr kb ov B ) kw_602 kw_604 kp_8 kw_7 kw_605 ds_Mo_blank (by decide) hK (hP.sub (ws' := [(q, .inr (5, [.int (iI 0), .int (iI ac), .int (iI dI), .int (iI dp), .ref sa, .int (iI bk), .int (iI rs), .int (iI nW), .int (iI nH), .int (iI mt), .int (iI 1), .int (iI zx), .int (iI zy), .int (iI nW), .int (iI nH), .int (iI sv), .int (iI 0), .int (iI 640), .ref ea, .ref fa, .ref ca, .int (iI ct), .int (iI kr), .int (iI kb), .int (iI ov)])), (ea, .inl (cI, 640, .inl (iA B)))]) [0, 1] rfl) (hD.sub (ws' := [(q, .inr (5, [.int (iI 0), .int (iI ac), .int (iI dI), .int (iI dp), .ref sa, .int (iI bk), .int (iI rs), .int (iI nW), .int (iI nH), .int (iI mt), .int (iI 1), .int (iI zx), .int (iI zy), .int (iI nW), .int (iI nH), .int (iI sv), .int (iI 0), .int (iI 640), .ref ea, .ref fa, .ref ca, .int (iI ct), .int (iI kr), .int (iI kb), .int (iI ov)])), (ea, .inl (cI, 640, .inl (iA B)))]) [0, 1] (by decide) rfl) rfl rfl rfl hl.1 rfl (Nat.le_of_ble_eq_true rfl) d_Mo_open_122) hP hD hS hA [0, 1] [] rfl (wr := []) rfl (by decide) (by decide) (fun v w1 H locs hq hP hD hS => ?_)
            obtain ⟨rfl, rfl⟩ := hq
            refine W.cs (cells' := 0) (slots' := 0) rfl rfl ?_
            refine W.eq (g2 := F0 m 125 ls []) rfl ?_
            have hP : va_P D xcl [(q, .inr (5, [.int (iI 0), .int (iI ac), .int (iI dI), .int (iI dp), .ref sa, .int (iI bk), .int (iI rs), .int (iI nW), .int (iI nH), .int (iI mt), .int (iI 1), .int (iI zx), .int (iI zy), .int (iI nW), .int (iI nH), .int (iI sv), .int (iI 0), .int (iI 640), .ref ea, .ref fa, .ref ca, .int (iI ct), .int (iI kr), .int (iI kb), .int (iI ov)])), (ea, .inl (cI, 640, .inl (iA (fun _ => 0))))] _ := hP
            have hD : va_D A [(q, .inr (5, [.int (iI 0), .int (iI ac), .int (iI dI), .int (iI dp), .ref sa, .int (iI bk), .int (iI rs), .int (iI nW), .int (iI nH), .int (iI mt), .int (iI 1), .int (iI zx), .int (iI zy), .int (iI nW), .int (iI nH), .int (iI sv), .int (iI 0), .int (iI 640), .ref ea, .ref fa, .ref ca, .int (iI ct), .int (iI kr), .int (iI kb), .int (iI ov)])), (ea, .inl (cI, 640, .inl (iA (fun _ => 0))))] := hD
            refine xi_iconst hx hb d_Mo_open_125 ?_
            exact x_zret hx hb hr hlocks hP hD hS (by decide) (by decide) rfl ⟨1, (fun _ => 0), 1, zx, zy, sv, nW, nH, 640, 0, rfl, rfl, Or.inr ⟨rfl, by omega, by omega, by omega, by omega, by omega, rfl, rfl, rfl, rfl, hsv, rfl, rfl, by omega, rfl⟩⟩ d_Mo_open_126
        ·
          intro hJ_86
          refine lv_aload_n hx hb d_Mo_open_59 rfl (lv_at hl 0 rfl) ?_
          refine lv_aload_n hx hb d_Mo_open_60 rfl (lv_at hl 0 rfl) ?_
          refine va_get (D := D) (cl := xcl) (ci := 5) (v := .int (iI dp)) (C := R_Mo) (T := T_Mo) (N := 25) hx hb hts i_Mo hown hK hP 0 rfl rfl 3 (by decide) (hts _ kw_506) (fun _ h9 => h9) rfl d_Mo_open_61 ?_
          refine lv_aload_n hx hb d_Mo_open_64 rfl (lv_at hl 0 rfl) ?_
          refine va_get (D := D) (cl := xcl) (ci := 5) (v := .int (iI rs)) (C := R_Mo) (T := T_Mo) (N := 25) hx hb hts i_Mo hown hK hP 0 rfl rfl 6 (by decide) (hts _ kw_509) (fun _ h9 => h9) rfl d_Mo_open_65 ?_
          refine xi_idiv hx hb d_Mo_open_68 ⟨by omega, by omega⟩ ⟨by omega, by omega⟩ ?_
          refine xi_iconst hx hb d_Mo_open_69 ?_
          refine xi_icmp_ge (tgt := 77) hx hb d_Mo_open_70 (by decide) (by rcases hdp with rfl | rfl | rfl <;> rcases hrs with rfl | rfl | rfl | rfl <;> decide) ⟨by decide, by decide⟩ (fun c_70 => ?_) (fun c_70 => ?_)
          ·
            refine lv_aload_n hx hb d_Mo_open_77 rfl (lv_at hl 0 rfl) ?_
            refine va_get (D := D) (cl := xcl) (ci := 5) (v := .int (iI dp)) (C := R_Mo) (T := T_Mo) (N := 25) hx hb hts i_Mo hown hK hP 0 rfl rfl 3 (by decide) (hts _ kw_506) (fun _ h9 => h9) rfl d_Mo_open_78 ?_
            refine lv_aload_n hx hb d_Mo_open_81 rfl (lv_at hl 0 rfl) ?_
            refine va_get (D := D) (cl := xcl) (ci := 5) (v := .int (iI rs)) (C := R_Mo) (T := T_Mo) (N := 25) hx hb hts i_Mo hown hK hP 0 rfl rfl 6 (by decide) (hts _ kw_509) (fun _ h9 => h9) rfl d_Mo_open_82 ?_
            refine xi_idiv hx hb d_Mo_open_85 ⟨by omega, by omega⟩ ⟨by omega, by omega⟩ ?_
            exact hJ_86 (dp / rs) _ _ _ ⟨by omega, hP, hD, hS, hl⟩
          ·
            refine xi_iconst hx hb d_Mo_open_73 ?_
            refine lv_goto (tgt := 86) hx hb d_Mo_open_74 (by decide) ?_
            exact hJ_86 1 _ _ _ ⟨by omega, hP, hD, hS, hl⟩
      ·
        refine xi_iconst hx hb d_Mo_open_26 ?_
        exact x_zret hx hb hr hlocks hP hD hS (by decide) (by decide) rfl ⟨0, B, op, x, y, sc, wd, ht, ln, rw, rfl, rfl, Or.inl ⟨rfl, by omega, rfl, rfl, rfl, rfl, rfl, rfl, rfl, rfl, rfl⟩⟩ d_Mo_open_27

theorem d_Mo_data_0 : decode b_Mo_data 0 = .ok (.aload_n 0, 1) := by decide +kernel
theorem d_Mo_data_1 : decode b_Mo_data 1 = .ok (.iconst 0, 1) := by decide +kernel
theorem d_Mo_data_2 : decode b_Mo_data 2 = .ok (.putfield 36, 3) := by decide +kernel
theorem d_Mo_data_5 : decode b_Mo_data 5 = .ok (.iload_n 3, 1) := by decide +kernel
theorem d_Mo_data_6 : decode b_Mo_data 6 = .ok (.iconst 1, 1) := by decide +kernel
theorem d_Mo_data_7 : decode b_Mo_data 7 = .ok (.if_icmp .lt 21, 3) := by decide +kernel
theorem d_Mo_data_10 : decode b_Mo_data 10 = .ok (.iload_n 3, 1) := by decide +kernel
theorem d_Mo_data_11 : decode b_Mo_data 11 = .ok (.bipush 8, 2) := by decide +kernel
theorem d_Mo_data_13 : decode b_Mo_data 13 = .ok (.if_icmp .gt 15, 3) := by decide +kernel
theorem d_Mo_data_16 : decode b_Mo_data 16 = .ok (.aload_n 0, 1) := by decide +kernel
theorem d_Mo_data_17 : decode b_Mo_data 17 = .ok (.getfield 80, 3) := by decide +kernel
theorem d_Mo_data_20 : decode b_Mo_data 20 = .ok (.iload_n 3, 1) := by decide +kernel
theorem d_Mo_data_21 : decode b_Mo_data 21 = .ok (.iadd, 1) := by decide +kernel
theorem d_Mo_data_22 : decode b_Mo_data 22 = .ok (.sipush 4096, 3) := by decide +kernel
theorem d_Mo_data_25 : decode b_Mo_data 25 = .ok (.if_icmp .le 5, 3) := by decide +kernel
theorem d_Mo_data_28 : decode b_Mo_data 28 = .ok (.iconst 0, 1) := by decide +kernel
theorem d_Mo_data_29 : decode b_Mo_data 29 = .ok (.ireturn, 1) := by decide +kernel
theorem d_Mo_data_30 : decode b_Mo_data 30 = .ok (.iload_n 3, 1) := by decide +kernel
theorem d_Mo_data_31 : decode b_Mo_data 31 = .ok (.iconst 1, 1) := by decide +kernel
theorem d_Mo_data_32 : decode b_Mo_data 32 = .ok (.isub, 1) := by decide +kernel
theorem d_Mo_data_33 : decode b_Mo_data 33 = .ok (.istore 4, 2) := by decide +kernel
theorem d_Mo_data_35 : decode b_Mo_data 35 = .ok (.iload 4, 2) := by decide +kernel
theorem d_Mo_data_37 : decode b_Mo_data 37 = .ok (.ifCond .lt 40, 3) := by decide +kernel
theorem d_Mo_data_40 : decode b_Mo_data 40 = .ok (.aload_n 0, 1) := by decide +kernel
theorem d_Mo_data_41 : decode b_Mo_data 41 = .ok (.getfield 20, 3) := by decide +kernel
theorem d_Mo_data_44 : decode b_Mo_data 44 = .ok (.aload_n 0, 1) := by decide +kernel
theorem d_Mo_data_45 : decode b_Mo_data 45 = .ok (.getfield 80, 3) := by decide +kernel
theorem d_Mo_data_48 : decode b_Mo_data 48 = .ok (.lload_n 1, 1) := by decide +kernel
theorem d_Mo_data_49 : decode b_Mo_data 49 = .ok (.bipush 8, 2) := by decide +kernel
theorem d_Mo_data_51 : decode b_Mo_data 51 = .ok (.iload 4, 2) := by decide +kernel
theorem d_Mo_data_53 : decode b_Mo_data 53 = .ok (.imul, 1) := by decide +kernel
theorem d_Mo_data_54 : decode b_Mo_data 54 = .ok (.lshr, 1) := by decide +kernel
theorem d_Mo_data_55 : decode b_Mo_data 55 = .ok (.ldc2_w 83, 3) := by decide +kernel
theorem d_Mo_data_58 : decode b_Mo_data 58 = .ok (.land, 1) := by decide +kernel
theorem d_Mo_data_59 : decode b_Mo_data 59 = .ok (.l2i, 1) := by decide +kernel
theorem d_Mo_data_60 : decode b_Mo_data 60 = .ok (.iastore, 1) := by decide +kernel
theorem d_Mo_data_61 : decode b_Mo_data 61 = .ok (.aload_n 0, 1) := by decide +kernel
theorem d_Mo_data_62 : decode b_Mo_data 62 = .ok (.dup, 1) := by decide +kernel
theorem d_Mo_data_63 : decode b_Mo_data 63 = .ok (.getfield 80, 3) := by decide +kernel
theorem d_Mo_data_66 : decode b_Mo_data 66 = .ok (.iconst 1, 1) := by decide +kernel
theorem d_Mo_data_67 : decode b_Mo_data 67 = .ok (.iadd, 1) := by decide +kernel
theorem d_Mo_data_68 : decode b_Mo_data 68 = .ok (.putfield 80, 3) := by decide +kernel
theorem d_Mo_data_71 : decode b_Mo_data 71 = .ok (.iinc 4 (-1), 3) := by decide +kernel
theorem d_Mo_data_74 : decode b_Mo_data 74 = .ok (.goto (-39), 3) := by decide +kernel
theorem d_Mo_data_77 : decode b_Mo_data 77 = .ok (.iconst 1, 1) := by decide +kernel
theorem d_Mo_data_78 : decode b_Mo_data 78 = .ok (.ireturn, 1) := by decide +kernel
theorem ds_Mo_data : xDesc y_Mo_data 2 := by decide +kernel

abbrev rm_Mo_data : Room := { frames := 0, cells := 0, slots := 0, locals := 0 }
set_option maxHeartbeats 4000000 in
set_option maxRecDepth 100000 in
/-- Model.data -/
theorem c_Mo_data (l : Launch) (D : va_G) (cI cJ cQ : ClassId) (q : Nat) (th : Int) (ac : Int) (dI : Int) (dp : Int) (sa : Nat) (bk : Int) (rs : Int) (nW : Int) (nH : Int) (mt : Int) (op : Int) (x : Int) (y : Int) (wd : Int) (ht : Int) (sc : Int) (rw : Int) (ln : Int) (ea : Nat) (fa : Nat) (ca : Nat) (ct : Int) (kr : Int) (kb : Int) (ov : Int) (P : Nat → Int) (w : Int64) (n : Int) (hct : 0 ≤ ct ∧ ct ≤ 4096) (hn : inR n) : xMet l D (xT cI cJ cQ) y_Mo_data b_Mo_data 5 (some .boolean) rm_Mo_data [.ref q, .long w, .int (iI n)] [(q, .inr (5, [.int (iI th), .int (iI ac), .int (iI dI), .int (iI dp), .ref sa, .int (iI bk), .int (iI rs), .int (iI nW), .int (iI nH), .int (iI mt), .int (iI op), .int (iI x), .int (iI y), .int (iI wd), .int (iI ht), .int (iI sc), .int (iI rw), .int (iI ln), .ref ea, .ref fa, .ref ca, .int (iI ct), .int (iI kr), .int (iI kb), .int (iI ov)])), (ca, .inl (cI, 4096, .inl (iA P)))] (fun v ws => ∃ (r : Int) (P2 : Nat → Int) (ct2 : Int), v = some (.int (iI r)) ∧ ws = [(q, .inr (5, [.int (iI 0), .int (iI ac), .int (iI dI), .int (iI dp), .ref sa, .int (iI bk), .int (iI rs), .int (iI nW), .int (iI nH), .int (iI mt), .int (iI op), .int (iI x), .int (iI y), .int (iI wd), .int (iI ht), .int (iI sc), .int (iI rw), .int (iI ln), .ref ea, .ref fa, .ref ca, .int (iI ct2), .int (iI kr), .int (iI kb), .int (iI ov)])), (ca, .inl (cI, 4096, .inl (iA P2)))] ∧ ((r = 0 ∧ (n < 1 ∨ 8 < n ∨ 4096 < ct + n) ∧ P2 = P ∧ ct2 = ct) ∨ (r = 1 ∧ 1 ≤ n ∧ n ≤ 8 ∧ ct + n ≤ 4096 ∧ P2 = dataS w n.toNat P ct ∧ ct2 = ct + n))) := by
  refine x_met (by decide) (Nat.le_of_ble_eq_true rfl) ?_
  intro p e s m below meth c hx hb hr hml hts hown hlocks hin hF0 A hA hP hD hK ls hl hS
  have hl : lv_has ls 5 [(0, .ref q), (1, .long w), (3, .int (iI n))] := hl
  refine lv_aload_n hx hb d_Mo_data_0 rfl (lv_at hl 0 rfl) ?_
  refine xi_iconst hx hb d_Mo_data_1 ?_
  refine va_put (D := D) (cl := xcl) (ci := 5) (v := .int (iI 0)) (ty := .int) (C := R_Mo) (T := T_Mo) (N := 25) hx hb hts i_Mo ty_Mo ty_Mo_ok nm_Mo hown hK hP hD hS 0 rfl rfl 0 (by decide) (hts _ kw_503) (fun _ h9 => h9) rfl (by decide +kernel) rfl rfl (Nat.le_of_ble_eq_true rfl) d_Mo_data_2 (fun H locs hP hD hS => ?_)
  have hP : va_P D xcl [(q, .inr (5, [.int (iI 0), .int (iI ac), .int (iI dI), .int (iI dp), .ref sa, .int (iI bk), .int (iI rs), .int (iI nW), .int (iI nH), .int (iI mt), .int (iI op), .int (iI x), .int (iI y), .int (iI wd), .int (iI ht), .int (iI sc), .int (iI rw), .int (iI ln), .ref ea, .ref fa, .ref ca, .int (iI ct), .int (iI kr), .int (iI kb), .int (iI ov)])), (ca, .inl (cI, 4096, .inl (iA P)))] _ := hP
  have hD : va_D A [(q, .inr (5, [.int (iI 0), .int (iI ac), .int (iI dI), .int (iI dp), .ref sa, .int (iI bk), .int (iI rs), .int (iI nW), .int (iI nH), .int (iI mt), .int (iI op), .int (iI x), .int (iI y), .int (iI wd), .int (iI ht), .int (iI sc), .int (iI rw), .int (iI ln), .ref ea, .ref fa, .ref ca, .int (iI ct), .int (iI kr), .int (iI kb), .int (iI ov)])), (ca, .inl (cI, 4096, .inl (iA P)))] := hD
  refine lv_iload_n hx hb d_Mo_data_5 rfl (lv_at hl 2 rfl) ?_
  refine xi_iconst hx hb d_Mo_data_6 ?_
  refine xi_icmp_lt (tgt := 28) hx hb d_Mo_data_7 (by decide) ⟨by omega, by omega⟩ ⟨by decide, by decide⟩ (fun c_7 => ?_) (fun c_7 => ?_)
  ·
    refine xi_iconst hx hb d_Mo_data_28 ?_
    exact x_zret hx hb hr hlocks hP hD hS (by decide) (by decide) rfl ⟨0, P, ct, rfl, rfl, Or.inl ⟨rfl, by omega, rfl, rfl⟩⟩ d_Mo_data_29
  ·
    refine lv_iload_n hx hb d_Mo_data_10 rfl (lv_at hl 2 rfl) ?_
    refine xi_bipush hx hb d_Mo_data_11 (by decide) ?_
    refine xi_icmp_gt (tgt := 28) hx hb d_Mo_data_13 (by decide) ⟨by omega, by omega⟩ ⟨by decide, by decide⟩ (fun c_13 => ?_) (fun c_13 => ?_)
    ·
      refine xi_iconst hx hb d_Mo_data_28 ?_
      exact x_zret hx hb hr hlocks hP hD hS (by decide) (by decide) rfl ⟨0, P, ct, rfl, rfl, Or.inl ⟨rfl, by omega, rfl, rfl⟩⟩ d_Mo_data_29
    ·
      refine lv_aload_n hx hb d_Mo_data_16 rfl (lv_at hl 0 rfl) ?_
      refine va_get (D := D) (cl := xcl) (ci := 5) (v := .int (iI ct)) (C := R_Mo) (T := T_Mo) (N := 25) hx hb hts i_Mo hown hK hP 0 rfl rfl 21 (by decide) (hts _ kw_524) (fun _ h9 => h9) rfl d_Mo_data_17 ?_
      refine lv_iload_n hx hb d_Mo_data_20 rfl (lv_at hl 2 rfl) ?_
      refine xi_iadd hx hb d_Mo_data_21 ?_
      refine xi_sipush hx hb d_Mo_data_22 (by decide) ?_
      refine xi_icmp_le (tgt := 30) hx hb d_Mo_data_25 (by decide) ⟨by omega, by omega⟩ ⟨by decide, by decide⟩ (fun c_25 => ?_) (fun c_25 => ?_)
      ·
        refine lv_iload_n hx hb d_Mo_data_30 rfl (lv_at hl 2 rfl) ?_
        refine xi_iconst hx hb d_Mo_data_31 ?_
        refine xi_isub hx hb d_Mo_data_32 ?_
        refine lv_istore (lv' := [(4, .int (iI (n - 1))), (0, .ref q), (1, .long w), (3, .int (iI n))]) hx hb d_Mo_data_33 hl (by decide) rfl (fun ls hl => ?_)
        refine x_loop3 (fun (i : Int) (P1 : Nat → Int) (c1 : Int) H locs ls => (-1 ≤ i ∧ i < n) ∧ (c1 = ct + (n - 1 - i)) ∧ (dataS w (i + 1).toNat P1 c1 = dataS w n.toNat P ct) ∧ va_P D xcl [(q, .inr (5, [.int (iI 0), .int (iI ac), .int (iI dI), .int (iI dp), .ref sa, .int (iI bk), .int (iI rs), .int (iI nW), .int (iI nH), .int (iI mt), .int (iI op), .int (iI x), .int (iI y), .int (iI wd), .int (iI ht), .int (iI sc), .int (iI rw), .int (iI ln), .ref ea, .ref fa, .ref ca, .int (iI c1), .int (iI kr), .int (iI kb), .int (iI ov)])), (ca, .inl (cI, 4096, .inl (iA P1)))] H ∧ va_D A [(q, .inr (5, [.int (iI 0), .int (iI ac), .int (iI dI), .int (iI dp), .ref sa, .int (iI bk), .int (iI rs), .int (iI nW), .int (iI nH), .int (iI mt), .int (iI op), .int (iI x), .int (iI y), .int (iI wd), .int (iI ht), .int (iI sc), .int (iI rw), .int (iI ln), .ref ea, .ref fa, .ref ca, .int (iI c1), .int (iI kr), .int (iI kb), .int (iI ov)])), (ca, .inl (cI, 4096, .inl (iA P1)))] ∧ va_S A s.heap H locs ∧ lv_has ls 5 [(4, .int (iI i)), (0, .ref q), (1, .long w), (3, .int (iI n))]) (fun (i : Int) (P1 : Nat → Int) (c1 : Int) => (i + 1).toNat) (n - 1) P ct ⟨by omega, by omega, by rw [show n - 1 + 1 = n by omega], hP, hD, hS, hl⟩ ?_
        intro i P1 c1 H locs ls hI ih_35
        obtain ⟨k1, k2, k3, hP, hD, hS, hl⟩ := hI
        refine lv_iload hx hb d_Mo_data_35 (lv_at hl 0 rfl) ?_
        refine xi_if_lt (tgt := 77) hx hb d_Mo_data_37 (by decide) ⟨by omega, by omega⟩ (fun c_37 => ?_) (fun c_37 => ?_)
        ·
          refine xi_iconst hx hb d_Mo_data_77 ?_
          exact x_zret hx hb hr hlocks hP hD hS (by decide) (by decide) rfl ⟨1, P1, c1, rfl, rfl, Or.inr ⟨rfl, by omega, by omega, by omega, by rw [← k3, show (i + 1).toNat = 0 by omega]; rfl, by omega⟩⟩ d_Mo_data_78
        ·
          refine lv_aload_n hx hb d_Mo_data_40 rfl (lv_at hl 1 rfl) ?_
          refine va_get (D := D) (cl := xcl) (ci := 5) (v := .ref ca) (C := R_Mo) (T := T_Mo) (N := 25) hx hb hts i_Mo hown hK hP 0 rfl rfl 20 (by decide) (hts _ kw_523) (fun _ h9 => h9) rfl d_Mo_data_41 ?_
          refine lv_aload_n hx hb d_Mo_data_44 rfl (lv_at hl 1 rfl) ?_
          refine va_get (D := D) (cl := xcl) (ci := 5) (v := .int (iI c1)) (C := R_Mo) (T := T_Mo) (N := 25) hx hb hts i_Mo hown hK hP 0 rfl rfl 21 (by decide) (hts _ kw_524) (fun _ h9 => h9) rfl d_Mo_data_45 ?_
          refine lv_lload_n hx hb d_Mo_data_48 rfl (lv_at hl 2 rfl) ?_
          refine xi_bipush hx hb d_Mo_data_49 (by decide) ?_
          refine lv_iload hx hb d_Mo_data_51 (lv_at hl 0 rfl) ?_
          refine xi_imul hx hb d_Mo_data_53 ?_
          refine lv_lshr (v := w >>> ((iI (8 * i)).toInt64 &&& 63)) hx hb d_Mo_data_54 rfl ?_
          refine lv_ldc2 hx hb hown (hts _ kw_610) d_Mo_data_55 ?_
          refine xl_land (v := lN (byt w i).toNat) hx hb d_Mo_data_58 (byt_s w (by omega) (by omega)) ?_
          refine lv_l2i (v := iI (byt w i)) hx hb d_Mo_data_59 (by rw [lN_i, ← iI_nat, Int.toNat_of_nonneg (byt_r w i).1]) ?_
          refine xi_iast hx hb hK hP hD hS 1 0 rfl rfl (by omega) (by omega) (by omega) d_Mo_data_60 (fun H locs hP hD hS => ?_)
          have hP : va_P D xcl [(q, .inr (5, [.int (iI 0), .int (iI ac), .int (iI dI), .int (iI dp), .ref sa, .int (iI bk), .int (iI rs), .int (iI nW), .int (iI nH), .int (iI mt), .int (iI op), .int (iI x), .int (iI y), .int (iI wd), .int (iI ht), .int (iI sc), .int (iI rw), .int (iI ln), .ref ea, .ref fa, .ref ca, .int (iI c1), .int (iI kr), .int (iI kb), .int (iI ov)])), (ca, .inl (cI, 4096, .inl (iA (va_up P1 c1.toNat (byt w i)))))] _ := hP
          have hD : va_D A [(q, .inr (5, [.int (iI 0), .int (iI ac), .int (iI dI), .int (iI dp), .ref sa, .int (iI bk), .int (iI rs), .int (iI nW), .int (iI nH), .int (iI mt), .int (iI op), .int (iI x), .int (iI y), .int (iI wd), .int (iI ht), .int (iI sc), .int (iI rw), .int (iI ln), .ref ea, .ref fa, .ref ca, .int (iI c1), .int (iI kr), .int (iI kb), .int (iI ov)])), (ca, .inl (cI, 4096, .inl (iA (va_up P1 c1.toNat (byt w i)))))] := hD
          refine lv_aload_n hx hb d_Mo_data_61 rfl (lv_at hl 1 rfl) ?_
          refine lv_dup hx hb d_Mo_data_62 rfl ?_
          refine va_get (D := D) (cl := xcl) (ci := 5) (v := .int (iI c1)) (C := R_Mo) (T := T_Mo) (N := 25) hx hb hts i_Mo hown hK hP 0 rfl rfl 21 (by decide) (hts _ kw_524) (fun _ h9 => h9) rfl d_Mo_data_63 ?_
          refine xi_iconst hx hb d_Mo_data_66 ?_
          refine xi_iadd hx hb d_Mo_data_67 ?_
          refine va_put (D := D) (cl := xcl) (ci := 5) (v := .int (iI (c1 + 1))) (ty := .int) (C := R_Mo) (T := T_Mo) (N := 25) hx hb hts i_Mo ty_Mo ty_Mo_ok nm_Mo hown hK hP hD hS 0 rfl rfl 21 (by decide) (hts _ kw_524) (fun _ h9 => h9) rfl (by decide +kernel) rfl rfl (Nat.le_of_ble_eq_true rfl) d_Mo_data_68 (fun H locs hP hD hS => ?_)
          have hP : va_P D xcl [(q, .inr (5, [.int (iI 0), .int (iI ac), .int (iI dI), .int (iI dp), .ref sa, .int (iI bk), .int (iI rs), .int (iI nW), .int (iI nH), .int (iI mt), .int (iI op), .int (iI x), .int (iI y), .int (iI wd), .int (iI ht), .int (iI sc), .int (iI rw), .int (iI ln), .ref ea, .ref fa, .ref ca, .int (iI (c1 + 1)), .int (iI kr), .int (iI kb), .int (iI ov)])), (ca, .inl (cI, 4096, .inl (iA (va_up P1 c1.toNat (byt w i)))))] _ := hP
          have hD : va_D A [(q, .inr (5, [.int (iI 0), .int (iI ac), .int (iI dI), .int (iI dp), .ref sa, .int (iI bk), .int (iI rs), .int (iI nW), .int (iI nH), .int (iI mt), .int (iI op), .int (iI x), .int (iI y), .int (iI wd), .int (iI ht), .int (iI sc), .int (iI rw), .int (iI ln), .ref ea, .ref fa, .ref ca, .int (iI (c1 + 1)), .int (iI kr), .int (iI kb), .int (iI ov)])), (ca, .inl (cI, 4096, .inl (iA (va_up P1 c1.toNat (byt w i)))))] := hD
          refine xi_iinc (lv' := [(4, .int (iI (i + (-1)))), (0, .ref q), (1, .long w), (3, .int (iI n))]) hx hb d_Mo_data_71 hl (k := 0) rfl (by decide) rfl (fun ls hl => ?_)
          refine lv_goto (tgt := 35) hx hb d_Mo_data_74 (by decide) ?_
          exact ih_35 (i + (-1)) (va_up P1 c1.toNat (byt w i)) (c1 + 1) _ _ _ (by omega) ⟨by omega, by omega, by rw [← k3, dataS_go w c_37, show i + -1 + 1 = i by omega], hP, hD, hS, hl⟩
      ·
        refine xi_iconst hx hb d_Mo_data_28 ?_
        exact x_zret hx hb hr hlocks hP hD hS (by decide) (by decide) rfl ⟨0, P, ct, rfl, rfl, Or.inl ⟨rfl, by omega, rfl, rfl⟩⟩ d_Mo_data_29

theorem d_Mo_isBlack_0 : decode b_Mo_isBlack 0 = .ok (.aload_n 0, 1) := by decide +kernel
theorem d_Mo_isBlack_1 : decode b_Mo_isBlack 1 = .ok (.getfield 62, 3) := by decide +kernel
theorem d_Mo_isBlack_4 : decode b_Mo_isBlack 4 = .ok (.ifCond .eq 11, 3) := by decide +kernel
theorem d_Mo_isBlack_7 : decode b_Mo_isBlack 7 = .ok (.iload_n 1, 1) := by decide +kernel
theorem d_Mo_isBlack_8 : decode b_Mo_isBlack 8 = .ok (.aload_n 0, 1) := by decide +kernel
theorem d_Mo_isBlack_9 : decode b_Mo_isBlack 9 = .ok (.getfield 62, 3) := by decide +kernel
theorem d_Mo_isBlack_12 : decode b_Mo_isBlack 12 = .ok (.if_icmp .ge 30, 3) := by decide +kernel
theorem d_Mo_isBlack_15 : decode b_Mo_isBlack 15 = .ok (.aload_n 0, 1) := by decide +kernel
theorem d_Mo_isBlack_16 : decode b_Mo_isBlack 16 = .ok (.getfield 13, 3) := by decide +kernel
theorem d_Mo_isBlack_19 : decode b_Mo_isBlack 19 = .ok (.iload_n 1, 1) := by decide +kernel
theorem d_Mo_isBlack_20 : decode b_Mo_isBlack 20 = .ok (.bipush 8, 2) := by decide +kernel
theorem d_Mo_isBlack_22 : decode b_Mo_isBlack 22 = .ok (.idiv, 1) := by decide +kernel
theorem d_Mo_isBlack_23 : decode b_Mo_isBlack 23 = .ok (.iaload, 1) := by decide +kernel
theorem d_Mo_isBlack_24 : decode b_Mo_isBlack 24 = .ok (.bipush 7, 2) := by decide +kernel
theorem d_Mo_isBlack_26 : decode b_Mo_isBlack 26 = .ok (.iload_n 1, 1) := by decide +kernel
theorem d_Mo_isBlack_27 : decode b_Mo_isBlack 27 = .ok (.bipush 8, 2) := by decide +kernel
theorem d_Mo_isBlack_29 : decode b_Mo_isBlack 29 = .ok (.irem, 1) := by decide +kernel
theorem d_Mo_isBlack_30 : decode b_Mo_isBlack 30 = .ok (.isub, 1) := by decide +kernel
theorem d_Mo_isBlack_31 : decode b_Mo_isBlack 31 = .ok (.ishr, 1) := by decide +kernel
theorem d_Mo_isBlack_32 : decode b_Mo_isBlack 32 = .ok (.iconst 1, 1) := by decide +kernel
theorem d_Mo_isBlack_33 : decode b_Mo_isBlack 33 = .ok (.iand, 1) := by decide +kernel
theorem d_Mo_isBlack_34 : decode b_Mo_isBlack 34 = .ok (.iconst 1, 1) := by decide +kernel
theorem d_Mo_isBlack_35 : decode b_Mo_isBlack 35 = .ok (.if_icmp .ne 7, 3) := by decide +kernel
theorem d_Mo_isBlack_38 : decode b_Mo_isBlack 38 = .ok (.iconst 1, 1) := by decide +kernel
theorem d_Mo_isBlack_39 : decode b_Mo_isBlack 39 = .ok (.goto 4, 3) := by decide +kernel
theorem d_Mo_isBlack_42 : decode b_Mo_isBlack 42 = .ok (.iconst 0, 1) := by decide +kernel
theorem d_Mo_isBlack_43 : decode b_Mo_isBlack 43 = .ok (.ireturn, 1) := by decide +kernel
theorem ds_Mo_isBlack : xDesc y_Mo_isBlack 1 := by decide +kernel

abbrev rm_Mo_isBlack : Room := { frames := 0, cells := 0, slots := 0, locals := 0 }
set_option maxHeartbeats 4000000 in
set_option maxRecDepth 100000 in
/-- Model.isBlack -/
theorem c_Mo_isBlack (l : Launch) (D : va_G) (cI cJ cQ : ClassId) (q : Nat) (th : Int) (ac : Int) (dI : Int) (dp : Int) (sa : Nat) (bk : Int) (rs : Int) (nW : Int) (nH : Int) (mt : Int) (op : Int) (x : Int) (y : Int) (wd : Int) (ht : Int) (sc : Int) (rw : Int) (ln : Int) (ea : Nat) (fa : Nat) (ca : Nat) (ct : Int) (kr : Int) (kb : Int) (ov : Int) (B : Nat → Int) (k : Int) (hB : ∀ j : Nat, 0 ≤ B j ∧ B j < 256) (hwd : 0 ≤ wd ∧ wd ≤ 5119) (hk : 0 ≤ k ∧ k < 5120) : xMet l D (xT cI cJ cQ) y_Mo_isBlack b_Mo_isBlack 2 (some .boolean) rm_Mo_isBlack [.ref q, .int (iI k)] [(q, .inr (5, [.int (iI th), .int (iI ac), .int (iI dI), .int (iI dp), .ref sa, .int (iI bk), .int (iI rs), .int (iI nW), .int (iI nH), .int (iI mt), .int (iI op), .int (iI x), .int (iI y), .int (iI wd), .int (iI ht), .int (iI sc), .int (iI rw), .int (iI ln), .ref ea, .ref fa, .ref ca, .int (iI ct), .int (iI kr), .int (iI kb), .int (iI ov)])), (ea, .inl (cI, 640, .inl (iA B)))] (fun v ws => ∃ (r : Int), v = some (.int (iI r)) ∧ ws = [(q, .inr (5, [.int (iI th), .int (iI ac), .int (iI dI), .int (iI dp), .ref sa, .int (iI bk), .int (iI rs), .int (iI nW), .int (iI nH), .int (iI mt), .int (iI op), .int (iI x), .int (iI y), .int (iI wd), .int (iI ht), .int (iI sc), .int (iI rw), .int (iI ln), .ref ea, .ref fa, .ref ca, .int (iI ct), .int (iI kr), .int (iI kb), .int (iI ov)])), (ea, .inl (cI, 640, .inl (iA B)))] ∧ ((r = 1 ∧ vis B wd k.toNat = true) ∨ (r = 0 ∧ vis B wd k.toNat = false))) := by
  refine x_met (by decide) (Nat.le_of_ble_eq_true rfl) ?_
  intro p e s m below meth c hx hb hr hml hts hown hlocks hin hF0 A hA hP hD hK ls hl hS
  have hl : lv_has ls 2 [(0, .ref q), (1, .int (iI k))] := hl
  refine lv_aload_n hx hb d_Mo_isBlack_0 rfl (lv_at hl 0 rfl) ?_
  refine va_get (D := D) (cl := xcl) (ci := 5) (v := .int (iI wd)) (C := R_Mo) (T := T_Mo) (N := 25) hx hb hts i_Mo hown hK hP 0 rfl rfl 13 (by decide) (hts _ kw_516) (fun _ h9 => h9) rfl d_Mo_isBlack_1 ?_
  refine xi_if_eq (tgt := 15) hx hb d_Mo_isBlack_4 (by decide) ⟨by omega, by omega⟩ (fun c_4 => ?_) (fun c_4 => ?_)
  ·
    refine lv_aload_n hx hb d_Mo_isBlack_15 rfl (lv_at hl 0 rfl) ?_
    refine va_get (D := D) (cl := xcl) (ci := 5) (v := .ref ea) (C := R_Mo) (T := T_Mo) (N := 25) hx hb hts i_Mo hown hK hP 0 rfl rfl 18 (by decide) (hts _ kw_521) (fun _ h9 => h9) rfl d_Mo_isBlack_16 ?_
    refine lv_iload_n hx hb d_Mo_isBlack_19 rfl (lv_at hl 1 rfl) ?_
    refine xi_bipush hx hb d_Mo_isBlack_20 (by decide) ?_
    refine xi_idiv hx hb d_Mo_isBlack_22 ⟨by omega, by omega⟩ ⟨by omega, by omega⟩ ?_
    refine xi_iald hx hb hK hP 1 0 rfl rfl (by omega) (by omega) (by omega) d_Mo_isBlack_23 ?_
    refine xi_bipush hx hb d_Mo_isBlack_24 (by decide) ?_
    refine lv_iload_n hx hb d_Mo_isBlack_26 rfl (lv_at hl 1 rfl) ?_
    refine xi_bipush hx hb d_Mo_isBlack_27 (by decide) ?_
    refine xi_irem hx hb d_Mo_isBlack_29 ⟨by omega, by omega⟩ ⟨by omega, by omega⟩ ?_
    refine xi_isub hx hb d_Mo_isBlack_30 ?_
    refine lv_ishr hx hb d_Mo_isBlack_31 ?_
    refine xi_iconst hx hb d_Mo_isBlack_32 ?_
    obtain ⟨z33, e33, r33⟩ := isb hB hk.1
    refine xk_iand (v := iI z33) hx hb d_Mo_isBlack_33 e33 ?_
    refine xi_iconst hx hb d_Mo_isBlack_34 ?_
    refine xi_icmp_ne (tgt := 42) hx hb d_Mo_isBlack_35 (by decide) ⟨by omega, by omega⟩ ⟨by decide, by decide⟩ (fun c_35 => ?_) (fun c_35 => ?_)
    ·
      refine xi_iconst hx hb d_Mo_isBlack_42 ?_
      exact x_zret hx hb hr hlocks hP hD hS (by decide) (by decide) rfl ⟨0, rfl, rfl, Or.inr ⟨rfl, by first | exact vis_no hk.1 ⟨c_4, c_12⟩ | (rw [vis_k hk.1 (by omega)]; rcases r33 with r33 | r33; omega; exact r33.2)⟩⟩ d_Mo_isBlack_43
    ·
      refine xi_iconst hx hb d_Mo_isBlack_38 ?_
      refine lv_goto (tgt := 43) hx hb d_Mo_isBlack_39 (by decide) ?_
      exact x_zret hx hb hr hlocks hP hD hS (by decide) (by decide) rfl ⟨1, rfl, rfl, Or.inl ⟨rfl, by rw [vis_k hk.1 (by omega)]; rcases r33 with r33 | r33; exact r33.2; omega⟩⟩ d_Mo_isBlack_43
  ·
    refine lv_iload_n hx hb d_Mo_isBlack_7 rfl (lv_at hl 1 rfl) ?_
    refine lv_aload_n hx hb d_Mo_isBlack_8 rfl (lv_at hl 0 rfl) ?_
    refine va_get (D := D) (cl := xcl) (ci := 5) (v := .int (iI wd)) (C := R_Mo) (T := T_Mo) (N := 25) hx hb hts i_Mo hown hK hP 0 rfl rfl 13 (by decide) (hts _ kw_516) (fun _ h9 => h9) rfl d_Mo_isBlack_9 ?_
    refine xi_icmp_ge (tgt := 42) hx hb d_Mo_isBlack_12 (by decide) ⟨by omega, by omega⟩ ⟨by omega, by omega⟩ (fun c_12 => ?_) (fun c_12 => ?_)
    ·
      refine xi_iconst hx hb d_Mo_isBlack_42 ?_
      exact x_zret hx hb hr hlocks hP hD hS (by decide) (by decide) rfl ⟨0, rfl, rfl, Or.inr ⟨rfl, by first | exact vis_no hk.1 ⟨c_4, c_12⟩ | (rw [vis_k hk.1 (by omega)]; rcases r33 with r33 | r33; omega; exact r33.2)⟩⟩ d_Mo_isBlack_43
    ·
      refine lv_aload_n hx hb d_Mo_isBlack_15 rfl (lv_at hl 0 rfl) ?_
      refine va_get (D := D) (cl := xcl) (ci := 5) (v := .ref ea) (C := R_Mo) (T := T_Mo) (N := 25) hx hb hts i_Mo hown hK hP 0 rfl rfl 18 (by decide) (hts _ kw_521) (fun _ h9 => h9) rfl d_Mo_isBlack_16 ?_
      refine lv_iload_n hx hb d_Mo_isBlack_19 rfl (lv_at hl 1 rfl) ?_
      refine xi_bipush hx hb d_Mo_isBlack_20 (by decide) ?_
      refine xi_idiv hx hb d_Mo_isBlack_22 ⟨by omega, by omega⟩ ⟨by omega, by omega⟩ ?_
      refine xi_iald hx hb hK hP 1 0 rfl rfl (by omega) (by omega) (by omega) d_Mo_isBlack_23 ?_
      refine xi_bipush hx hb d_Mo_isBlack_24 (by decide) ?_
      refine lv_iload_n hx hb d_Mo_isBlack_26 rfl (lv_at hl 1 rfl) ?_
      refine xi_bipush hx hb d_Mo_isBlack_27 (by decide) ?_
      refine xi_irem hx hb d_Mo_isBlack_29 ⟨by omega, by omega⟩ ⟨by omega, by omega⟩ ?_
      refine xi_isub hx hb d_Mo_isBlack_30 ?_
      refine lv_ishr hx hb d_Mo_isBlack_31 ?_
      refine xi_iconst hx hb d_Mo_isBlack_32 ?_
      obtain ⟨z33, e33, r33⟩ := isb hB hk.1
      refine xk_iand (v := iI z33) hx hb d_Mo_isBlack_33 e33 ?_
      refine xi_iconst hx hb d_Mo_isBlack_34 ?_
      refine xi_icmp_ne (tgt := 42) hx hb d_Mo_isBlack_35 (by decide) ⟨by omega, by omega⟩ ⟨by decide, by decide⟩ (fun c_35 => ?_) (fun c_35 => ?_)
      ·
        refine xi_iconst hx hb d_Mo_isBlack_42 ?_
        exact x_zret hx hb hr hlocks hP hD hS (by decide) (by decide) rfl ⟨0, rfl, rfl, Or.inr ⟨rfl, by first | exact vis_no hk.1 ⟨c_4, c_12⟩ | (rw [vis_k hk.1 (by omega)]; rcases r33 with r33 | r33; omega; exact r33.2)⟩⟩ d_Mo_isBlack_43
      ·
        refine xi_iconst hx hb d_Mo_isBlack_38 ?_
        refine lv_goto (tgt := 43) hx hb d_Mo_isBlack_39 (by decide) ?_
        exact x_zret hx hb hr hlocks hP hD hS (by decide) (by decide) rfl ⟨1, rfl, rfl, Or.inl ⟨rfl, by rw [vis_k hk.1 (by omega)]; rcases r33 with r33 | r33; exact r33.2; omega⟩⟩ d_Mo_isBlack_43

theorem d_Mo_seed_0 : decode b_Mo_seed 0 = .ok (.aload_n 0, 1) := by decide +kernel
theorem d_Mo_seed_1 : decode b_Mo_seed 1 = .ok (.iconst 0, 1) := by decide +kernel
theorem d_Mo_seed_2 : decode b_Mo_seed 2 = .ok (.putfield 36, 3) := by decide +kernel
theorem d_Mo_seed_5 : decode b_Mo_seed 5 = .ok (.aload_n 0, 1) := by decide +kernel
theorem d_Mo_seed_6 : decode b_Mo_seed 6 = .ok (.getfield 39, 3) := by decide +kernel
theorem d_Mo_seed_9 : decode b_Mo_seed 9 = .ok (.ifCond .eq 15, 3) := by decide +kernel
theorem d_Mo_seed_12 : decode b_Mo_seed 12 = .ok (.iload_n 1, 1) := by decide +kernel
theorem d_Mo_seed_13 : decode b_Mo_seed 13 = .ok (.ifCond .lt 11, 3) := by decide +kernel
theorem d_Mo_seed_16 : decode b_Mo_seed 16 = .ok (.iload_n 1, 1) := by decide +kernel
theorem d_Mo_seed_17 : decode b_Mo_seed 17 = .ok (.aload_n 0, 1) := by decide +kernel
theorem d_Mo_seed_18 : decode b_Mo_seed 18 = .ok (.getfield 74, 3) := by decide +kernel
theorem d_Mo_seed_21 : decode b_Mo_seed 21 = .ok (.if_icmp .lt 7, 3) := by decide +kernel
theorem d_Mo_seed_24 : decode b_Mo_seed 24 = .ok (.iconst (-1), 1) := by decide +kernel
theorem d_Mo_seed_25 : decode b_Mo_seed 25 = .ok (.goto 9, 3) := by decide +kernel
theorem d_Mo_seed_28 : decode b_Mo_seed 28 = .ok (.aload_n 0, 1) := by decide +kernel
theorem d_Mo_seed_29 : decode b_Mo_seed 29 = .ok (.getfield 13, 3) := by decide +kernel
theorem d_Mo_seed_32 : decode b_Mo_seed 32 = .ok (.iload_n 1, 1) := by decide +kernel
theorem d_Mo_seed_33 : decode b_Mo_seed 33 = .ok (.iaload, 1) := by decide +kernel
theorem d_Mo_seed_34 : decode b_Mo_seed 34 = .ok (.ireturn, 1) := by decide +kernel
theorem ds_Mo_seed : xDesc y_Mo_seed 1 := by decide +kernel

abbrev rm_Mo_seed : Room := { frames := 0, cells := 0, slots := 0, locals := 0 }
set_option maxHeartbeats 4000000 in
set_option maxRecDepth 100000 in
/-- Model.seed -/
theorem c_Mo_seed (l : Launch) (D : va_G) (cI cJ cQ : ClassId) (q : Nat) (th : Int) (ac : Int) (dI : Int) (dp : Int) (sa : Nat) (bk : Int) (rs : Int) (nW : Int) (nH : Int) (mt : Int) (op : Int) (x : Int) (y : Int) (wd : Int) (ht : Int) (sc : Int) (rw : Int) (ln : Int) (ea : Nat) (fa : Nat) (ca : Nat) (ct : Int) (kr : Int) (kb : Int) (ov : Int) (B : Nat → Int) (i : Int) (hop : op = 0 ∨ op = 1) (hln : 0 ≤ ln ∧ ln ≤ 640) (hi : inR i) : xMet l D (xT cI cJ cQ) y_Mo_seed b_Mo_seed 2 (some .int) rm_Mo_seed [.ref q, .int (iI i)] [(q, .inr (5, [.int (iI th), .int (iI ac), .int (iI dI), .int (iI dp), .ref sa, .int (iI bk), .int (iI rs), .int (iI nW), .int (iI nH), .int (iI mt), .int (iI op), .int (iI x), .int (iI y), .int (iI wd), .int (iI ht), .int (iI sc), .int (iI rw), .int (iI ln), .ref ea, .ref fa, .ref ca, .int (iI ct), .int (iI kr), .int (iI kb), .int (iI ov)])), (ea, .inl (cI, 640, .inl (iA B)))] (fun v ws => ∃ (r : Int), v = some (.int (iI r)) ∧ ws = [(q, .inr (5, [.int (iI 0), .int (iI ac), .int (iI dI), .int (iI dp), .ref sa, .int (iI bk), .int (iI rs), .int (iI nW), .int (iI nH), .int (iI mt), .int (iI op), .int (iI x), .int (iI y), .int (iI wd), .int (iI ht), .int (iI sc), .int (iI rw), .int (iI ln), .ref ea, .ref fa, .ref ca, .int (iI ct), .int (iI kr), .int (iI kb), .int (iI ov)])), (ea, .inl (cI, 640, .inl (iA B)))] ∧ ((r = B i.toNat ∧ op = 1 ∧ 0 ≤ i ∧ i < ln) ∨ (r = -1 ∧ (op = 0 ∨ i < 0 ∨ ln ≤ i)))) := by
  refine x_met (by decide) (Nat.le_of_ble_eq_true rfl) ?_
  intro p e s m below meth c hx hb hr hml hts hown hlocks hin hF0 A hA hP hD hK ls hl hS
  have hl : lv_has ls 2 [(0, .ref q), (1, .int (iI i))] := hl
  refine lv_aload_n hx hb d_Mo_seed_0 rfl (lv_at hl 0 rfl) ?_
  refine xi_iconst hx hb d_Mo_seed_1 ?_
  refine va_put (D := D) (cl := xcl) (ci := 5) (v := .int (iI 0)) (ty := .int) (C := R_Mo) (T := T_Mo) (N := 25) hx hb hts i_Mo ty_Mo ty_Mo_ok nm_Mo hown hK hP hD hS 0 rfl rfl 0 (by decide) (hts _ kw_503) (fun _ h9 => h9) rfl (by decide +kernel) rfl rfl (Nat.le_of_ble_eq_true rfl) d_Mo_seed_2 (fun H locs hP hD hS => ?_)
  have hP : va_P D xcl [(q, .inr (5, [.int (iI 0), .int (iI ac), .int (iI dI), .int (iI dp), .ref sa, .int (iI bk), .int (iI rs), .int (iI nW), .int (iI nH), .int (iI mt), .int (iI op), .int (iI x), .int (iI y), .int (iI wd), .int (iI ht), .int (iI sc), .int (iI rw), .int (iI ln), .ref ea, .ref fa, .ref ca, .int (iI ct), .int (iI kr), .int (iI kb), .int (iI ov)])), (ea, .inl (cI, 640, .inl (iA B)))] _ := hP
  have hD : va_D A [(q, .inr (5, [.int (iI 0), .int (iI ac), .int (iI dI), .int (iI dp), .ref sa, .int (iI bk), .int (iI rs), .int (iI nW), .int (iI nH), .int (iI mt), .int (iI op), .int (iI x), .int (iI y), .int (iI wd), .int (iI ht), .int (iI sc), .int (iI rw), .int (iI ln), .ref ea, .ref fa, .ref ca, .int (iI ct), .int (iI kr), .int (iI kb), .int (iI ov)])), (ea, .inl (cI, 640, .inl (iA B)))] := hD
  refine lv_aload_n hx hb d_Mo_seed_5 rfl (lv_at hl 0 rfl) ?_
  refine va_get (D := D) (cl := xcl) (ci := 5) (v := .int (iI op)) (C := R_Mo) (T := T_Mo) (N := 25) hx hb hts i_Mo hown hK hP 0 rfl rfl 10 (by decide) (hts _ kw_513) (fun _ h9 => h9) rfl d_Mo_seed_6 ?_
  refine xi_if_eq (tgt := 24) hx hb d_Mo_seed_9 (by decide) ⟨by omega, by omega⟩ (fun c_9 => ?_) (fun c_9 => ?_)
  ·
    refine xi_iconst hx hb d_Mo_seed_24 ?_
    refine lv_goto (tgt := 34) hx hb d_Mo_seed_25 (by decide) ?_
    exact x_iret hx hb hr hlocks hP hD hS (by decide) (by decide) ⟨(-1), rfl, rfl, Or.inr ⟨rfl, by omega⟩⟩ d_Mo_seed_34
  ·
    refine lv_iload_n hx hb d_Mo_seed_12 rfl (lv_at hl 1 rfl) ?_
    refine xi_if_lt (tgt := 24) hx hb d_Mo_seed_13 (by decide) ⟨by omega, by omega⟩ (fun c_13 => ?_) (fun c_13 => ?_)
    ·
      refine xi_iconst hx hb d_Mo_seed_24 ?_
      refine lv_goto (tgt := 34) hx hb d_Mo_seed_25 (by decide) ?_
      exact x_iret hx hb hr hlocks hP hD hS (by decide) (by decide) ⟨(-1), rfl, rfl, Or.inr ⟨rfl, by omega⟩⟩ d_Mo_seed_34
    ·
      refine lv_iload_n hx hb d_Mo_seed_16 rfl (lv_at hl 1 rfl) ?_
      refine lv_aload_n hx hb d_Mo_seed_17 rfl (lv_at hl 0 rfl) ?_
      refine va_get (D := D) (cl := xcl) (ci := 5) (v := .int (iI ln)) (C := R_Mo) (T := T_Mo) (N := 25) hx hb hts i_Mo hown hK hP 0 rfl rfl 17 (by decide) (hts _ kw_520) (fun _ h9 => h9) rfl d_Mo_seed_18 ?_
      refine xi_icmp_lt (tgt := 28) hx hb d_Mo_seed_21 (by decide) ⟨by omega, by omega⟩ ⟨by omega, by omega⟩ (fun c_21 => ?_) (fun c_21 => ?_)
      ·
        refine lv_aload_n hx hb d_Mo_seed_28 rfl (lv_at hl 0 rfl) ?_
        refine va_get (D := D) (cl := xcl) (ci := 5) (v := .ref ea) (C := R_Mo) (T := T_Mo) (N := 25) hx hb hts i_Mo hown hK hP 0 rfl rfl 18 (by decide) (hts _ kw_521) (fun _ h9 => h9) rfl d_Mo_seed_29 ?_
        refine lv_iload_n hx hb d_Mo_seed_32 rfl (lv_at hl 1 rfl) ?_
        refine xi_iald hx hb hK hP 1 0 rfl rfl (by omega) (by omega) (by omega) d_Mo_seed_33 ?_
        exact x_iret hx hb hr hlocks hP hD hS (by decide) (by decide) ⟨(B i.toNat), rfl, rfl, Or.inl ⟨rfl, by omega, by omega, by omega⟩⟩ d_Mo_seed_34
      ·
        refine xi_iconst hx hb d_Mo_seed_24 ?_
        refine lv_goto (tgt := 34) hx hb d_Mo_seed_25 (by decide) ?_
        exact x_iret hx hb hr hlocks hP hD hS (by decide) (by decide) ⟨(-1), rfl, rfl, Or.inr ⟨rfl, by omega⟩⟩ d_Mo_seed_34

theorem d_Mo_look_0 : decode b_Mo_look 0 = .ok (.aload_n 0, 1) := by decide +kernel
theorem d_Mo_look_1 : decode b_Mo_look 1 = .ok (.iconst 0, 1) := by decide +kernel
theorem d_Mo_look_2 : decode b_Mo_look 2 = .ok (.putfield 36, 3) := by decide +kernel
theorem d_Mo_look_5 : decode b_Mo_look 5 = .ok (.iload_n 1, 1) := by decide +kernel
theorem d_Mo_look_6 : decode b_Mo_look 6 = .ok (.tableswitch 189 0 13 #[70, 75, 80, 85, 90, 95, 108, 124, 140, 156, 161, 166, 171, 184], 70) := by decide +kernel
theorem d_Mo_look_76 : decode b_Mo_look 76 = .ok (.aload_n 0, 1) := by decide +kernel
theorem d_Mo_look_77 : decode b_Mo_look 77 = .ok (.getfield 23, 3) := by decide +kernel
theorem d_Mo_look_80 : decode b_Mo_look 80 = .ok (.ireturn, 1) := by decide +kernel
theorem d_Mo_look_81 : decode b_Mo_look 81 = .ok (.aload_n 0, 1) := by decide +kernel
theorem d_Mo_look_82 : decode b_Mo_look 82 = .ok (.getfield 26, 3) := by decide +kernel
theorem d_Mo_look_85 : decode b_Mo_look 85 = .ok (.ireturn, 1) := by decide +kernel
theorem d_Mo_look_86 : decode b_Mo_look 86 = .ok (.aload_n 0, 1) := by decide +kernel
theorem d_Mo_look_87 : decode b_Mo_look 87 = .ok (.getfield 33, 3) := by decide +kernel
theorem d_Mo_look_90 : decode b_Mo_look 90 = .ok (.ireturn, 1) := by decide +kernel
theorem d_Mo_look_91 : decode b_Mo_look 91 = .ok (.aload_n 0, 1) := by decide +kernel
theorem d_Mo_look_92 : decode b_Mo_look 92 = .ok (.getfield 7, 3) := by decide +kernel
theorem d_Mo_look_95 : decode b_Mo_look 95 = .ok (.ireturn, 1) := by decide +kernel
theorem d_Mo_look_96 : decode b_Mo_look 96 = .ok (.aload_n 0, 1) := by decide +kernel
theorem d_Mo_look_97 : decode b_Mo_look 97 = .ok (.getfield 49, 3) := by decide +kernel
theorem d_Mo_look_100 : decode b_Mo_look 100 = .ok (.ireturn, 1) := by decide +kernel
theorem d_Mo_look_101 : decode b_Mo_look 101 = .ok (.aload_n 0, 1) := by decide +kernel
theorem d_Mo_look_102 : decode b_Mo_look 102 = .ok (.getfield 39, 3) := by decide +kernel
theorem d_Mo_look_105 : decode b_Mo_look 105 = .ok (.ifCond .eq 7, 3) := by decide +kernel
theorem d_Mo_look_108 : decode b_Mo_look 108 = .ok (.iconst 1, 1) := by decide +kernel
theorem d_Mo_look_109 : decode b_Mo_look 109 = .ok (.goto 4, 3) := by decide +kernel
theorem d_Mo_look_112 : decode b_Mo_look 112 = .ok (.iconst 0, 1) := by decide +kernel
theorem d_Mo_look_113 : decode b_Mo_look 113 = .ok (.ireturn, 1) := by decide +kernel
theorem d_Mo_look_114 : decode b_Mo_look 114 = .ok (.aload_n 0, 1) := by decide +kernel
theorem d_Mo_look_115 : decode b_Mo_look 115 = .ok (.getfield 39, 3) := by decide +kernel
theorem d_Mo_look_118 : decode b_Mo_look 118 = .ok (.ifCond .eq 10, 3) := by decide +kernel
theorem d_Mo_look_121 : decode b_Mo_look 121 = .ok (.aload_n 0, 1) := by decide +kernel
theorem d_Mo_look_122 : decode b_Mo_look 122 = .ok (.getfield 71, 3) := by decide +kernel
theorem d_Mo_look_125 : decode b_Mo_look 125 = .ok (.goto 4, 3) := by decide +kernel
theorem d_Mo_look_128 : decode b_Mo_look 128 = .ok (.iconst (-1), 1) := by decide +kernel
theorem d_Mo_look_129 : decode b_Mo_look 129 = .ok (.ireturn, 1) := by decide +kernel
theorem d_Mo_look_130 : decode b_Mo_look 130 = .ok (.aload_n 0, 1) := by decide +kernel
theorem d_Mo_look_131 : decode b_Mo_look 131 = .ok (.getfield 39, 3) := by decide +kernel
theorem d_Mo_look_134 : decode b_Mo_look 134 = .ok (.ifCond .eq 10, 3) := by decide +kernel
theorem d_Mo_look_137 : decode b_Mo_look 137 = .ok (.aload_n 0, 1) := by decide +kernel
theorem d_Mo_look_138 : decode b_Mo_look 138 = .ok (.getfield 74, 3) := by decide +kernel
theorem d_Mo_look_141 : decode b_Mo_look 141 = .ok (.goto 4, 3) := by decide +kernel
theorem d_Mo_look_144 : decode b_Mo_look 144 = .ok (.iconst (-1), 1) := by decide +kernel
theorem d_Mo_look_145 : decode b_Mo_look 145 = .ok (.ireturn, 1) := by decide +kernel
theorem d_Mo_look_146 : decode b_Mo_look 146 = .ok (.aload_n 0, 1) := by decide +kernel
theorem d_Mo_look_147 : decode b_Mo_look 147 = .ok (.getfield 39, 3) := by decide +kernel
theorem d_Mo_look_150 : decode b_Mo_look 150 = .ok (.ifCond .eq 10, 3) := by decide +kernel
theorem d_Mo_look_153 : decode b_Mo_look 153 = .ok (.aload_n 0, 1) := by decide +kernel
theorem d_Mo_look_154 : decode b_Mo_look 154 = .ok (.getfield 68, 3) := by decide +kernel
theorem d_Mo_look_157 : decode b_Mo_look 157 = .ok (.goto 4, 3) := by decide +kernel
theorem d_Mo_look_160 : decode b_Mo_look 160 = .ok (.iconst (-1), 1) := by decide +kernel
theorem d_Mo_look_161 : decode b_Mo_look 161 = .ok (.ireturn, 1) := by decide +kernel
theorem d_Mo_look_162 : decode b_Mo_look 162 = .ok (.aload_n 0, 1) := by decide +kernel
theorem d_Mo_look_163 : decode b_Mo_look 163 = .ok (.getfield 80, 3) := by decide +kernel
theorem d_Mo_look_166 : decode b_Mo_look 166 = .ok (.ireturn, 1) := by decide +kernel
theorem d_Mo_look_167 : decode b_Mo_look 167 = .ok (.aload_n 0, 1) := by decide +kernel
theorem d_Mo_look_168 : decode b_Mo_look 168 = .ok (.getfield 107, 3) := by decide +kernel
theorem d_Mo_look_171 : decode b_Mo_look 171 = .ok (.ireturn, 1) := by decide +kernel
theorem d_Mo_look_172 : decode b_Mo_look 172 = .ok (.aload_n 0, 1) := by decide +kernel
theorem d_Mo_look_173 : decode b_Mo_look 173 = .ok (.getfield 110, 3) := by decide +kernel
theorem d_Mo_look_176 : decode b_Mo_look 176 = .ok (.ireturn, 1) := by decide +kernel
theorem d_Mo_look_177 : decode b_Mo_look 177 = .ok (.aload_n 0, 1) := by decide +kernel
theorem d_Mo_look_178 : decode b_Mo_look 178 = .ok (.getfield 118, 3) := by decide +kernel
theorem d_Mo_look_181 : decode b_Mo_look 181 = .ok (.ifCond .eq 7, 3) := by decide +kernel
theorem d_Mo_look_184 : decode b_Mo_look 184 = .ok (.iconst 1, 1) := by decide +kernel
theorem d_Mo_look_185 : decode b_Mo_look 185 = .ok (.goto 4, 3) := by decide +kernel
theorem d_Mo_look_188 : decode b_Mo_look 188 = .ok (.iconst 0, 1) := by decide +kernel
theorem d_Mo_look_189 : decode b_Mo_look 189 = .ok (.ireturn, 1) := by decide +kernel
theorem d_Mo_look_190 : decode b_Mo_look 190 = .ok (.aload_n 0, 1) := by decide +kernel
theorem d_Mo_look_191 : decode b_Mo_look 191 = .ok (.getfield 98, 3) := by decide +kernel
theorem d_Mo_look_194 : decode b_Mo_look 194 = .ok (.ireturn, 1) := by decide +kernel
theorem d_Mo_look_195 : decode b_Mo_look 195 = .ok (.iconst (-1), 1) := by decide +kernel
theorem d_Mo_look_196 : decode b_Mo_look 196 = .ok (.ireturn, 1) := by decide +kernel
theorem ds_Mo_look : xDesc y_Mo_look 1 := by decide +kernel

abbrev rm_Mo_look : Room := { frames := 0, cells := 0, slots := 0, locals := 0 }
set_option maxHeartbeats 4000000 in
set_option maxRecDepth 100000 in
/-- Model.look -/
theorem c_Mo_look (l : Launch) (D : va_G) (cI cJ cQ : ClassId) (q : Nat) (th : Int) (ac : Int) (dI : Int) (dp : Int) (sa : Nat) (bk : Int) (rs : Int) (nW : Int) (nH : Int) (mt : Int) (op : Int) (x : Int) (y : Int) (wd : Int) (ht : Int) (sc : Int) (rw : Int) (ln : Int) (ea : Nat) (fa : Nat) (ca : Nat) (ct : Int) (kr : Int) (kb : Int) (ov : Int) (wh : Int) (hop : op = 0 ∨ op = 1) (hov : ov = 0 ∨ ov = 1) (hwh : inR wh) : xMet l D (xT cI cJ cQ) y_Mo_look b_Mo_look 2 (some .int) rm_Mo_look [.ref q, .int (iI wh)] [(q, .inr (5, [.int (iI th), .int (iI ac), .int (iI dI), .int (iI dp), .ref sa, .int (iI bk), .int (iI rs), .int (iI nW), .int (iI nH), .int (iI mt), .int (iI op), .int (iI x), .int (iI y), .int (iI wd), .int (iI ht), .int (iI sc), .int (iI rw), .int (iI ln), .ref ea, .ref fa, .ref ca, .int (iI ct), .int (iI kr), .int (iI kb), .int (iI ov)]))] (fun v ws => v = some (.int (iI (lookS wh ac dI dp rs mt op rw ln sc ct kr kb ov bk))) ∧ ws = [(q, .inr (5, [.int (iI 0), .int (iI ac), .int (iI dI), .int (iI dp), .ref sa, .int (iI bk), .int (iI rs), .int (iI nW), .int (iI nH), .int (iI mt), .int (iI op), .int (iI x), .int (iI y), .int (iI wd), .int (iI ht), .int (iI sc), .int (iI rw), .int (iI ln), .ref ea, .ref fa, .ref ca, .int (iI ct), .int (iI kr), .int (iI kb), .int (iI ov)]))]) := by
  refine x_met (by decide) (Nat.le_of_ble_eq_true rfl) ?_
  intro p e s m below meth c hx hb hr hml hts hown hlocks hin hF0 A hA hP hD hK ls hl hS
  have hl : lv_has ls 2 [(0, .ref q), (1, .int (iI wh))] := hl
  refine lv_aload_n hx hb d_Mo_look_0 rfl (lv_at hl 0 rfl) ?_
  refine xi_iconst hx hb d_Mo_look_1 ?_
  refine va_put (D := D) (cl := xcl) (ci := 5) (v := .int (iI 0)) (ty := .int) (C := R_Mo) (T := T_Mo) (N := 25) hx hb hts i_Mo ty_Mo ty_Mo_ok nm_Mo hown hK hP hD hS 0 rfl rfl 0 (by decide) (hts _ kw_503) (fun _ h9 => h9) rfl (by decide +kernel) rfl rfl (Nat.le_of_ble_eq_true rfl) d_Mo_look_2 (fun H locs hP hD hS => ?_)
  have hP : va_P D xcl [(q, .inr (5, [.int (iI 0), .int (iI ac), .int (iI dI), .int (iI dp), .ref sa, .int (iI bk), .int (iI rs), .int (iI nW), .int (iI nH), .int (iI mt), .int (iI op), .int (iI x), .int (iI y), .int (iI wd), .int (iI ht), .int (iI sc), .int (iI rw), .int (iI ln), .ref ea, .ref fa, .ref ca, .int (iI ct), .int (iI kr), .int (iI kb), .int (iI ov)]))] _ := hP
  have hD : va_D A [(q, .inr (5, [.int (iI 0), .int (iI ac), .int (iI dI), .int (iI dp), .ref sa, .int (iI bk), .int (iI rs), .int (iI nW), .int (iI nH), .int (iI mt), .int (iI op), .int (iI x), .int (iI y), .int (iI wd), .int (iI ht), .int (iI sc), .int (iI rw), .int (iI ln), .ref ea, .ref fa, .ref ca, .int (iI ct), .int (iI kr), .int (iI kb), .int (iI ov)]))] := hD
  refine lv_iload_n hx hb d_Mo_look_5 rfl (lv_at hl 1 rfl) ?_
  rcases (show (wh < 0 ∨ 13 < wh) ∨ wh = 0 ∨ wh = 1 ∨ wh = 2 ∨ wh = 3 ∨ wh = 4 ∨ wh = 5 ∨ wh = 6 ∨ wh = 7 ∨ wh = 8 ∨ wh = 9 ∨ wh = 10 ∨ wh = 11 ∨ wh = 12 ∨ wh = 13 by omega) with t_6 | t_6 | t_6 | t_6 | t_6 | t_6 | t_6 | t_6 | t_6 | t_6 | t_6 | t_6 | t_6 | t_6 | t_6
  ·
    refine lv_tableOut (tgt := 195) hx hb d_Mo_look_6 (by rw [iI_toInt ⟨by omega, by omega⟩]; omega) (by decide) ?_
    refine xi_iconst hx hb d_Mo_look_195 ?_
    -- MISMATCH at return 196: [('lookS wh ac dI dp rs mt op rw ln sc ct kr kb ov bk', 'lookS wh ac dI dp rs mt op rw ln sc ct kr kb ov bk', '-1')]
    exact x_iret hx hb hr hlocks hP hD hS (by decide) (by decide) ⟨by rw [lookS_out t_6], rfl⟩ d_Mo_look_196
  ·
    subst t_6
    refine lv_tableIn (off := 70) (tgt := 76) hx hb d_Mo_look_6 (by decide) (by decide) rfl (by decide) ?_
    refine lv_aload_n hx hb d_Mo_look_76 rfl (lv_at hl 0 rfl) ?_
    refine va_get (D := D) (cl := xcl) (ci := 5) (v := .int (iI ac)) (C := R_Mo) (T := T_Mo) (N := 25) hx hb hts i_Mo hown hK hP 0 rfl rfl 1 (by decide) (hts _ kw_504) (fun _ h9 => h9) rfl d_Mo_look_77 ?_
    -- MISMATCH at return 80: [('lookS wh ac dI dp rs mt op rw ln sc ct kr kb ov bk', 'lookS wh ac dI dp rs mt op rw ln sc ct kr kb ov bk', 'ac')]
    exact x_iret hx hb hr hlocks hP hD hS (by decide) (by decide) ⟨by simp [lookS], rfl⟩ d_Mo_look_80
  ·
    subst t_6
    refine lv_tableIn (off := 75) (tgt := 81) hx hb d_Mo_look_6 (by decide) (by decide) rfl (by decide) ?_
    refine lv_aload_n hx hb d_Mo_look_81 rfl (lv_at hl 0 rfl) ?_
    refine va_get (D := D) (cl := xcl) (ci := 5) (v := .int (iI dI)) (C := R_Mo) (T := T_Mo) (N := 25) hx hb hts i_Mo hown hK hP 0 rfl rfl 2 (by decide) (hts _ kw_505) (fun _ h9 => h9) rfl d_Mo_look_82 ?_
    -- MISMATCH at return 85: [('lookS wh ac dI dp rs mt op rw ln sc ct kr kb ov bk', 'lookS wh ac dI dp rs mt op rw ln sc ct kr kb ov bk', 'dI')]
    exact x_iret hx hb hr hlocks hP hD hS (by decide) (by decide) ⟨by simp [lookS], rfl⟩ d_Mo_look_85
  ·
    subst t_6
    refine lv_tableIn (off := 80) (tgt := 86) hx hb d_Mo_look_6 (by decide) (by decide) rfl (by decide) ?_
    refine lv_aload_n hx hb d_Mo_look_86 rfl (lv_at hl 0 rfl) ?_
    refine va_get (D := D) (cl := xcl) (ci := 5) (v := .int (iI dp)) (C := R_Mo) (T := T_Mo) (N := 25) hx hb hts i_Mo hown hK hP 0 rfl rfl 3 (by decide) (hts _ kw_506) (fun _ h9 => h9) rfl d_Mo_look_87 ?_
    -- MISMATCH at return 90: [('lookS wh ac dI dp rs mt op rw ln sc ct kr kb ov bk', 'lookS wh ac dI dp rs mt op rw ln sc ct kr kb ov bk', 'dp')]
    exact x_iret hx hb hr hlocks hP hD hS (by decide) (by decide) ⟨by simp [lookS], rfl⟩ d_Mo_look_90
  ·
    subst t_6
    refine lv_tableIn (off := 85) (tgt := 91) hx hb d_Mo_look_6 (by decide) (by decide) rfl (by decide) ?_
    refine lv_aload_n hx hb d_Mo_look_91 rfl (lv_at hl 0 rfl) ?_
    refine va_get (D := D) (cl := xcl) (ci := 5) (v := .int (iI rs)) (C := R_Mo) (T := T_Mo) (N := 25) hx hb hts i_Mo hown hK hP 0 rfl rfl 6 (by decide) (hts _ kw_509) (fun _ h9 => h9) rfl d_Mo_look_92 ?_
    -- MISMATCH at return 95: [('lookS wh ac dI dp rs mt op rw ln sc ct kr kb ov bk', 'lookS wh ac dI dp rs mt op rw ln sc ct kr kb ov bk', 'rs')]
    exact x_iret hx hb hr hlocks hP hD hS (by decide) (by decide) ⟨by simp [lookS], rfl⟩ d_Mo_look_95
  ·
    subst t_6
    refine lv_tableIn (off := 90) (tgt := 96) hx hb d_Mo_look_6 (by decide) (by decide) rfl (by decide) ?_
    refine lv_aload_n hx hb d_Mo_look_96 rfl (lv_at hl 0 rfl) ?_
    refine va_get (D := D) (cl := xcl) (ci := 5) (v := .int (iI mt)) (C := R_Mo) (T := T_Mo) (N := 25) hx hb hts i_Mo hown hK hP 0 rfl rfl 9 (by decide) (hts _ kw_512) (fun _ h9 => h9) rfl d_Mo_look_97 ?_
    -- MISMATCH at return 100: [('lookS wh ac dI dp rs mt op rw ln sc ct kr kb ov bk', 'lookS wh ac dI dp rs mt op rw ln sc ct kr kb ov bk', 'mt')]
    exact x_iret hx hb hr hlocks hP hD hS (by decide) (by decide) ⟨by simp [lookS], rfl⟩ d_Mo_look_100
  ·
    subst t_6
    refine lv_tableIn (off := 95) (tgt := 101) hx hb d_Mo_look_6 (by decide) (by decide) rfl (by decide) ?_
    refine lv_aload_n hx hb d_Mo_look_101 rfl (lv_at hl 0 rfl) ?_
    refine va_get (D := D) (cl := xcl) (ci := 5) (v := .int (iI op)) (C := R_Mo) (T := T_Mo) (N := 25) hx hb hts i_Mo hown hK hP 0 rfl rfl 10 (by decide) (hts _ kw_513) (fun _ h9 => h9) rfl d_Mo_look_102 ?_
    refine xi_if_eq (tgt := 112) hx hb d_Mo_look_105 (by decide) ⟨by omega, by omega⟩ (fun c_105 => ?_) (fun c_105 => ?_)
    ·
      refine xi_iconst hx hb d_Mo_look_112 ?_
      -- MISMATCH at return 113: [('lookS wh ac dI dp rs mt op rw ln sc ct kr kb ov bk', 'lookS wh ac dI dp rs mt op rw ln sc ct kr kb ov bk', '0')]
      exact x_iret hx hb hr hlocks hP hD hS (by decide) (by decide) ⟨by simp [lookS, c_105], rfl⟩ d_Mo_look_113
    ·
      refine xi_iconst hx hb d_Mo_look_108 ?_
      refine lv_goto (tgt := 113) hx hb d_Mo_look_109 (by decide) ?_
      -- MISMATCH at return 113: [('lookS wh ac dI dp rs mt op rw ln sc ct kr kb ov bk', 'lookS wh ac dI dp rs mt op rw ln sc ct kr kb ov bk', '1')]
      exact x_iret hx hb hr hlocks hP hD hS (by decide) (by decide) ⟨by simp [lookS, c_105], rfl⟩ d_Mo_look_113
  ·
    subst t_6
    refine lv_tableIn (off := 108) (tgt := 114) hx hb d_Mo_look_6 (by decide) (by decide) rfl (by decide) ?_
    refine lv_aload_n hx hb d_Mo_look_114 rfl (lv_at hl 0 rfl) ?_
    refine va_get (D := D) (cl := xcl) (ci := 5) (v := .int (iI op)) (C := R_Mo) (T := T_Mo) (N := 25) hx hb hts i_Mo hown hK hP 0 rfl rfl 10 (by decide) (hts _ kw_513) (fun _ h9 => h9) rfl d_Mo_look_115 ?_
    refine xi_if_eq (tgt := 128) hx hb d_Mo_look_118 (by decide) ⟨by omega, by omega⟩ (fun c_118 => ?_) (fun c_118 => ?_)
    ·
      refine xi_iconst hx hb d_Mo_look_128 ?_
      -- MISMATCH at return 129: [('lookS wh ac dI dp rs mt op rw ln sc ct kr kb ov bk', 'lookS wh ac dI dp rs mt op rw ln sc ct kr kb ov bk', '-1')]
      exact x_iret hx hb hr hlocks hP hD hS (by decide) (by decide) ⟨by simp [lookS, c_118], rfl⟩ d_Mo_look_129
    ·
      refine lv_aload_n hx hb d_Mo_look_121 rfl (lv_at hl 0 rfl) ?_
      refine va_get (D := D) (cl := xcl) (ci := 5) (v := .int (iI rw)) (C := R_Mo) (T := T_Mo) (N := 25) hx hb hts i_Mo hown hK hP 0 rfl rfl 16 (by decide) (hts _ kw_519) (fun _ h9 => h9) rfl d_Mo_look_122 ?_
      refine lv_goto (tgt := 129) hx hb d_Mo_look_125 (by decide) ?_
      -- MISMATCH at return 129: [('lookS wh ac dI dp rs mt op rw ln sc ct kr kb ov bk', 'lookS wh ac dI dp rs mt op rw ln sc ct kr kb ov bk', 'rw')]
      exact x_iret hx hb hr hlocks hP hD hS (by decide) (by decide) ⟨by simp [lookS, c_118], rfl⟩ d_Mo_look_129
  ·
    subst t_6
    refine lv_tableIn (off := 124) (tgt := 130) hx hb d_Mo_look_6 (by decide) (by decide) rfl (by decide) ?_
    refine lv_aload_n hx hb d_Mo_look_130 rfl (lv_at hl 0 rfl) ?_
    refine va_get (D := D) (cl := xcl) (ci := 5) (v := .int (iI op)) (C := R_Mo) (T := T_Mo) (N := 25) hx hb hts i_Mo hown hK hP 0 rfl rfl 10 (by decide) (hts _ kw_513) (fun _ h9 => h9) rfl d_Mo_look_131 ?_
    refine xi_if_eq (tgt := 144) hx hb d_Mo_look_134 (by decide) ⟨by omega, by omega⟩ (fun c_134 => ?_) (fun c_134 => ?_)
    ·
      refine xi_iconst hx hb d_Mo_look_144 ?_
      -- MISMATCH at return 145: [('lookS wh ac dI dp rs mt op rw ln sc ct kr kb ov bk', 'lookS wh ac dI dp rs mt op rw ln sc ct kr kb ov bk', '-1')]
      exact x_iret hx hb hr hlocks hP hD hS (by decide) (by decide) ⟨by simp [lookS, c_134], rfl⟩ d_Mo_look_145
    ·
      refine lv_aload_n hx hb d_Mo_look_137 rfl (lv_at hl 0 rfl) ?_
      refine va_get (D := D) (cl := xcl) (ci := 5) (v := .int (iI ln)) (C := R_Mo) (T := T_Mo) (N := 25) hx hb hts i_Mo hown hK hP 0 rfl rfl 17 (by decide) (hts _ kw_520) (fun _ h9 => h9) rfl d_Mo_look_138 ?_
      refine lv_goto (tgt := 145) hx hb d_Mo_look_141 (by decide) ?_
      -- MISMATCH at return 145: [('lookS wh ac dI dp rs mt op rw ln sc ct kr kb ov bk', 'lookS wh ac dI dp rs mt op rw ln sc ct kr kb ov bk', 'ln')]
      exact x_iret hx hb hr hlocks hP hD hS (by decide) (by decide) ⟨by simp [lookS, c_134], rfl⟩ d_Mo_look_145
  ·
    subst t_6
    refine lv_tableIn (off := 140) (tgt := 146) hx hb d_Mo_look_6 (by decide) (by decide) rfl (by decide) ?_
    refine lv_aload_n hx hb d_Mo_look_146 rfl (lv_at hl 0 rfl) ?_
    refine va_get (D := D) (cl := xcl) (ci := 5) (v := .int (iI op)) (C := R_Mo) (T := T_Mo) (N := 25) hx hb hts i_Mo hown hK hP 0 rfl rfl 10 (by decide) (hts _ kw_513) (fun _ h9 => h9) rfl d_Mo_look_147 ?_
    refine xi_if_eq (tgt := 160) hx hb d_Mo_look_150 (by decide) ⟨by omega, by omega⟩ (fun c_150 => ?_) (fun c_150 => ?_)
    ·
      refine xi_iconst hx hb d_Mo_look_160 ?_
      -- MISMATCH at return 161: [('lookS wh ac dI dp rs mt op rw ln sc ct kr kb ov bk', 'lookS wh ac dI dp rs mt op rw ln sc ct kr kb ov bk', '-1')]
      exact x_iret hx hb hr hlocks hP hD hS (by decide) (by decide) ⟨by simp [lookS, c_150], rfl⟩ d_Mo_look_161
    ·
      refine lv_aload_n hx hb d_Mo_look_153 rfl (lv_at hl 0 rfl) ?_
      refine va_get (D := D) (cl := xcl) (ci := 5) (v := .int (iI sc)) (C := R_Mo) (T := T_Mo) (N := 25) hx hb hts i_Mo hown hK hP 0 rfl rfl 15 (by decide) (hts _ kw_518) (fun _ h9 => h9) rfl d_Mo_look_154 ?_
      refine lv_goto (tgt := 161) hx hb d_Mo_look_157 (by decide) ?_
      -- MISMATCH at return 161: [('lookS wh ac dI dp rs mt op rw ln sc ct kr kb ov bk', 'lookS wh ac dI dp rs mt op rw ln sc ct kr kb ov bk', 'sc')]
      exact x_iret hx hb hr hlocks hP hD hS (by decide) (by decide) ⟨by simp [lookS, c_150], rfl⟩ d_Mo_look_161
  ·
    subst t_6
    refine lv_tableIn (off := 156) (tgt := 162) hx hb d_Mo_look_6 (by decide) (by decide) rfl (by decide) ?_
    refine lv_aload_n hx hb d_Mo_look_162 rfl (lv_at hl 0 rfl) ?_
    refine va_get (D := D) (cl := xcl) (ci := 5) (v := .int (iI ct)) (C := R_Mo) (T := T_Mo) (N := 25) hx hb hts i_Mo hown hK hP 0 rfl rfl 21 (by decide) (hts _ kw_524) (fun _ h9 => h9) rfl d_Mo_look_163 ?_
    -- MISMATCH at return 166: [('lookS wh ac dI dp rs mt op rw ln sc ct kr kb ov bk', 'lookS wh ac dI dp rs mt op rw ln sc ct kr kb ov bk', 'ct')]
    exact x_iret hx hb hr hlocks hP hD hS (by decide) (by decide) ⟨by simp [lookS], rfl⟩ d_Mo_look_166
  ·
    subst t_6
    refine lv_tableIn (off := 161) (tgt := 167) hx hb d_Mo_look_6 (by decide) (by decide) rfl (by decide) ?_
    refine lv_aload_n hx hb d_Mo_look_167 rfl (lv_at hl 0 rfl) ?_
    refine va_get (D := D) (cl := xcl) (ci := 5) (v := .int (iI kr)) (C := R_Mo) (T := T_Mo) (N := 25) hx hb hts i_Mo hown hK hP 0 rfl rfl 22 (by decide) (hts _ kw_525) (fun _ h9 => h9) rfl d_Mo_look_168 ?_
    -- MISMATCH at return 171: [('lookS wh ac dI dp rs mt op rw ln sc ct kr kb ov bk', 'lookS wh ac dI dp rs mt op rw ln sc ct kr kb ov bk', 'kr')]
    exact x_iret hx hb hr hlocks hP hD hS (by decide) (by decide) ⟨by simp [lookS], rfl⟩ d_Mo_look_171
  ·
    subst t_6
    refine lv_tableIn (off := 166) (tgt := 172) hx hb d_Mo_look_6 (by decide) (by decide) rfl (by decide) ?_
    refine lv_aload_n hx hb d_Mo_look_172 rfl (lv_at hl 0 rfl) ?_
    refine va_get (D := D) (cl := xcl) (ci := 5) (v := .int (iI kb)) (C := R_Mo) (T := T_Mo) (N := 25) hx hb hts i_Mo hown hK hP 0 rfl rfl 23 (by decide) (hts _ kw_526) (fun _ h9 => h9) rfl d_Mo_look_173 ?_
    -- MISMATCH at return 176: [('lookS wh ac dI dp rs mt op rw ln sc ct kr kb ov bk', 'lookS wh ac dI dp rs mt op rw ln sc ct kr kb ov bk', 'kb')]
    exact x_iret hx hb hr hlocks hP hD hS (by decide) (by decide) ⟨by simp [lookS], rfl⟩ d_Mo_look_176
  ·
    subst t_6
    refine lv_tableIn (off := 171) (tgt := 177) hx hb d_Mo_look_6 (by decide) (by decide) rfl (by decide) ?_
    refine lv_aload_n hx hb d_Mo_look_177 rfl (lv_at hl 0 rfl) ?_
    refine va_get (D := D) (cl := xcl) (ci := 5) (v := .int (iI ov)) (C := R_Mo) (T := T_Mo) (N := 25) hx hb hts i_Mo hown hK hP 0 rfl rfl 24 (by decide) (hts _ kw_527) (fun _ h9 => h9) rfl d_Mo_look_178 ?_
    refine xi_if_eq (tgt := 188) hx hb d_Mo_look_181 (by decide) ⟨by omega, by omega⟩ (fun c_181 => ?_) (fun c_181 => ?_)
    ·
      refine xi_iconst hx hb d_Mo_look_188 ?_
      -- MISMATCH at return 189: [('lookS wh ac dI dp rs mt op rw ln sc ct kr kb ov bk', 'lookS wh ac dI dp rs mt op rw ln sc ct kr kb ov bk', '0')]
      exact x_iret hx hb hr hlocks hP hD hS (by decide) (by decide) ⟨by simp [lookS, c_181], rfl⟩ d_Mo_look_189
    ·
      refine xi_iconst hx hb d_Mo_look_184 ?_
      refine lv_goto (tgt := 189) hx hb d_Mo_look_185 (by decide) ?_
      -- MISMATCH at return 189: [('lookS wh ac dI dp rs mt op rw ln sc ct kr kb ov bk', 'lookS wh ac dI dp rs mt op rw ln sc ct kr kb ov bk', '1')]
      exact x_iret hx hb hr hlocks hP hD hS (by decide) (by decide) ⟨by simp [lookS, c_181], rfl⟩ d_Mo_look_189
  ·
    subst t_6
    refine lv_tableIn (off := 184) (tgt := 190) hx hb d_Mo_look_6 (by decide) (by decide) rfl (by decide) ?_
    refine lv_aload_n hx hb d_Mo_look_190 rfl (lv_at hl 0 rfl) ?_
    refine va_get (D := D) (cl := xcl) (ci := 5) (v := .int (iI bk)) (C := R_Mo) (T := T_Mo) (N := 25) hx hb hts i_Mo hown hK hP 0 rfl rfl 5 (by decide) (hts _ kw_508) (fun _ h9 => h9) rfl d_Mo_look_191 ?_
    -- MISMATCH at return 194: [('lookS wh ac dI dp rs mt op rw ln sc ct kr kb ov bk', 'lookS wh ac dI dp rs mt op rw ln sc ct kr kb ov bk', 'bk')]
    exact x_iret hx hb hr hlocks hP hD hS (by decide) (by decide) ⟨by simp [lookS], rfl⟩ d_Mo_look_194

theorem d_Mo_skip_0 : decode b_Mo_skip 0 = .ok (.aload_n 0, 1) := by decide +kernel
theorem d_Mo_skip_1 : decode b_Mo_skip 1 = .ok (.iload_n 1, 1) := by decide +kernel
theorem d_Mo_skip_2 : decode b_Mo_skip 2 = .ok (.ifCond .lt 10, 3) := by decide +kernel
theorem d_Mo_skip_5 : decode b_Mo_skip 5 = .ok (.iload_n 1, 1) := by decide +kernel
theorem d_Mo_skip_6 : decode b_Mo_skip 6 = .ok (.sipush 10000, 3) := by decide +kernel
theorem d_Mo_skip_9 : decode b_Mo_skip 9 = .ok (.if_icmp .le 7, 3) := by decide +kernel
theorem d_Mo_skip_12 : decode b_Mo_skip 12 = .ok (.iconst 1, 1) := by decide +kernel
theorem d_Mo_skip_13 : decode b_Mo_skip 13 = .ok (.goto 15, 3) := by decide +kernel
theorem d_Mo_skip_16 : decode b_Mo_skip 16 = .ok (.aload_n 0, 1) := by decide +kernel
theorem d_Mo_skip_17 : decode b_Mo_skip 17 = .ok (.getfield 39, 3) := by decide +kernel
theorem d_Mo_skip_20 : decode b_Mo_skip 20 = .ok (.ifCond .ne 7, 3) := by decide +kernel
theorem d_Mo_skip_23 : decode b_Mo_skip 23 = .ok (.iconst 2, 1) := by decide +kernel
theorem d_Mo_skip_24 : decode b_Mo_skip 24 = .ok (.goto 4, 3) := by decide +kernel
theorem d_Mo_skip_27 : decode b_Mo_skip 27 = .ok (.iconst 0, 1) := by decide +kernel
theorem d_Mo_skip_28 : decode b_Mo_skip 28 = .ok (.putfield 36, 3) := by decide +kernel
theorem d_Mo_skip_31 : decode b_Mo_skip 31 = .ok (.aload_n 0, 1) := by decide +kernel
theorem d_Mo_skip_32 : decode b_Mo_skip 32 = .ok (.getfield 36, 3) := by decide +kernel
theorem d_Mo_skip_35 : decode b_Mo_skip 35 = .ok (.ifCond .le 5, 3) := by decide +kernel
theorem d_Mo_skip_38 : decode b_Mo_skip 38 = .ok (.iconst 0, 1) := by decide +kernel
theorem d_Mo_skip_39 : decode b_Mo_skip 39 = .ok (.ireturn, 1) := by decide +kernel
theorem d_Mo_skip_40 : decode b_Mo_skip 40 = .ok (.aload_n 0, 1) := by decide +kernel
theorem d_Mo_skip_41 : decode b_Mo_skip 41 = .ok (.dup, 1) := by decide +kernel
theorem d_Mo_skip_42 : decode b_Mo_skip 42 = .ok (.getfield 71, 3) := by decide +kernel
theorem d_Mo_skip_45 : decode b_Mo_skip 45 = .ok (.iload_n 1, 1) := by decide +kernel
theorem d_Mo_skip_46 : decode b_Mo_skip 46 = .ok (.iadd, 1) := by decide +kernel
theorem d_Mo_skip_47 : decode b_Mo_skip 47 = .ok (.putfield 71, 3) := by decide +kernel
theorem d_Mo_skip_50 : decode b_Mo_skip 50 = .ok (.aload_n 0, 1) := by decide +kernel
theorem d_Mo_skip_51 : decode b_Mo_skip 51 = .ok (.aload_n 0, 1) := by decide +kernel
theorem d_Mo_skip_52 : decode b_Mo_skip 52 = .ok (.getfield 65, 3) := by decide +kernel
theorem d_Mo_skip_55 : decode b_Mo_skip 55 = .ok (.ifCond .le 21, 3) := by decide +kernel
theorem d_Mo_skip_58 : decode b_Mo_skip 58 = .ok (.aload_n 0, 1) := by decide +kernel
theorem d_Mo_skip_59 : decode b_Mo_skip 59 = .ok (.getfield 71, 3) := by decide +kernel
theorem d_Mo_skip_62 : decode b_Mo_skip 62 = .ok (.aload_n 0, 1) := by decide +kernel
theorem d_Mo_skip_63 : decode b_Mo_skip 63 = .ok (.getfield 65, 3) := by decide +kernel
theorem d_Mo_skip_66 : decode b_Mo_skip 66 = .ok (.if_icmp .le 10, 3) := by decide +kernel
theorem d_Mo_skip_69 : decode b_Mo_skip 69 = .ok (.aload_n 0, 1) := by decide +kernel
theorem d_Mo_skip_70 : decode b_Mo_skip 70 = .ok (.getfield 65, 3) := by decide +kernel
theorem d_Mo_skip_73 : decode b_Mo_skip 73 = .ok (.goto 7, 3) := by decide +kernel
theorem d_Mo_skip_76 : decode b_Mo_skip 76 = .ok (.aload_n 0, 1) := by decide +kernel
theorem d_Mo_skip_77 : decode b_Mo_skip 77 = .ok (.getfield 71, 3) := by decide +kernel
theorem d_Mo_skip_80 : decode b_Mo_skip 80 = .ok (.putfield 71, 3) := by decide +kernel
theorem d_Mo_skip_83 : decode b_Mo_skip 83 = .ok (.aload_n 0, 1) := by decide +kernel
theorem d_Mo_skip_84 : decode b_Mo_skip 84 = .ok (.invokevirtual 77, 3) := by decide +kernel
theorem d_Mo_skip_87 : decode b_Mo_skip 87 = .ok (.aload_n 0, 1) := by decide +kernel
theorem d_Mo_skip_88 : decode b_Mo_skip 88 = .ok (.getfield 71, 3) := by decide +kernel
theorem d_Mo_skip_91 : decode b_Mo_skip 91 = .ok (.ireturn, 1) := by decide +kernel
theorem ds_Mo_skip : xDesc y_Mo_skip 1 := by decide +kernel

abbrev rm_Mo_skip : Room := { frames := 1, cells := 0, slots := 0, locals := 21 }
set_option maxHeartbeats 4000000 in
set_option maxRecDepth 100000 in
/-- Model.skip -/
theorem c_Mo_skip (l : Launch) (D : va_G) (cI cJ cQ : ClassId) (q : Nat) (th : Int) (ac : Int) (dI : Int) (dp : Int) (sa : Nat) (bk : Int) (rs : Int) (nW : Int) (nH : Int) (mt : Int) (op : Int) (x : Int) (y : Int) (wd : Int) (ht : Int) (sc : Int) (rw : Int) (ln : Int) (ea : Nat) (fa : Nat) (ca : Nat) (ct : Int) (kr : Int) (kb : Int) (ov : Int) (B : Nat → Int) (n : Int) (hop : op = 0 ∨ op = 1) (hh : 0 ≤ ht ∧ ht ≤ 5119) (hrw : 0 ≤ rw ∧ rw ≤ 1000000000) (hn : inR n) : xMet l D (xT cI cJ cQ) y_Mo_skip b_Mo_skip 2 (some .int) rm_Mo_skip [.ref q, .int (iI n)] [(q, .inr (5, [.int (iI th), .int (iI ac), .int (iI dI), .int (iI dp), .ref sa, .int (iI bk), .int (iI rs), .int (iI nW), .int (iI nH), .int (iI mt), .int (iI op), .int (iI x), .int (iI y), .int (iI wd), .int (iI ht), .int (iI sc), .int (iI rw), .int (iI ln), .ref ea, .ref fa, .ref ca, .int (iI ct), .int (iI kr), .int (iI kb), .int (iI ov)])), (ea, .inl (cI, 640, .inl (iA B)))] (fun v ws => ∃ (r : Int) (th2 : Int) (rw2 : Int) (B2 : Nat → Int), v = some (.int (iI r)) ∧ ws = [(q, .inr (5, [.int (iI th2), .int (iI ac), .int (iI dI), .int (iI dp), .ref sa, .int (iI bk), .int (iI rs), .int (iI nW), .int (iI nH), .int (iI mt), .int (iI op), .int (iI x), .int (iI y), .int (iI wd), .int (iI ht), .int (iI sc), .int (iI rw2), .int (iI ln), .ref ea, .ref fa, .ref ca, .int (iI ct), .int (iI kr), .int (iI kb), .int (iI ov)])), (ea, .inl (cI, 640, .inl (iA B2)))] ∧ ((th2 = 1 ∧ (n < 0 ∨ 10000 < n) ∧ rw2 = rw ∧ B2 = B) ∨ (th2 = 2 ∧ 0 ≤ n ∧ n ≤ 10000 ∧ op = 0 ∧ rw2 = rw ∧ B2 = B) ∨ (th2 = 0 ∧ 0 ≤ n ∧ n ≤ 10000 ∧ op = 1 ∧ ((0 < ht ∧ rw2 = min (rw + n) ht) ∨ (ht = 0 ∧ rw2 = rw + n)) ∧ B2 = (fun _ => 0) ∧ r = rw2))) := by
  refine x_met (by decide) (Nat.le_of_ble_eq_true rfl) ?_
  intro p e s m below meth c hx hb hr hml hts hown hlocks hin hF0 A hA hP hD hK ls hl hS
  have hl : lv_has ls 2 [(0, .ref q), (1, .int (iI n))] := hl
  refine lv_aload_n hx hb d_Mo_skip_0 rfl (lv_at hl 0 rfl) ?_
  refine lv_iload_n hx hb d_Mo_skip_1 rfl (lv_at hl 1 rfl) ?_
  refine xi_if_lt (tgt := 12) hx hb d_Mo_skip_2 (by decide) ⟨by omega, by omega⟩ (fun c_2 => ?_) (fun c_2 => ?_)
  ·
    refine xi_iconst hx hb d_Mo_skip_12 ?_
    refine lv_goto (tgt := 28) hx hb d_Mo_skip_13 (by decide) ?_
    refine va_put (D := D) (cl := xcl) (ci := 5) (v := .int (iI 1)) (ty := .int) (C := R_Mo) (T := T_Mo) (N := 25) hx hb hts i_Mo ty_Mo ty_Mo_ok nm_Mo hown hK hP hD hS 0 rfl rfl 0 (by decide) (hts _ kw_503) (fun _ h9 => h9) rfl (by decide +kernel) rfl rfl (Nat.le_of_ble_eq_true rfl) d_Mo_skip_28 (fun H locs hP hD hS => ?_)
    have hP : va_P D xcl [(q, .inr (5, [.int (iI 1), .int (iI ac), .int (iI dI), .int (iI dp), .ref sa, .int (iI bk), .int (iI rs), .int (iI nW), .int (iI nH), .int (iI mt), .int (iI op), .int (iI x), .int (iI y), .int (iI wd), .int (iI ht), .int (iI sc), .int (iI rw), .int (iI ln), .ref ea, .ref fa, .ref ca, .int (iI ct), .int (iI kr), .int (iI kb), .int (iI ov)])), (ea, .inl (cI, 640, .inl (iA B)))] _ := hP
    have hD : va_D A [(q, .inr (5, [.int (iI 1), .int (iI ac), .int (iI dI), .int (iI dp), .ref sa, .int (iI bk), .int (iI rs), .int (iI nW), .int (iI nH), .int (iI mt), .int (iI op), .int (iI x), .int (iI y), .int (iI wd), .int (iI ht), .int (iI sc), .int (iI rw), .int (iI ln), .ref ea, .ref fa, .ref ca, .int (iI ct), .int (iI kr), .int (iI kb), .int (iI ov)])), (ea, .inl (cI, 640, .inl (iA B)))] := hD
    refine lv_aload_n hx hb d_Mo_skip_31 rfl (lv_at hl 0 rfl) ?_
    refine va_get (D := D) (cl := xcl) (ci := 5) (v := .int (iI 1)) (C := R_Mo) (T := T_Mo) (N := 25) hx hb hts i_Mo hown hK hP 0 rfl rfl 0 (by decide) (hts _ kw_503) (fun _ h9 => h9) rfl d_Mo_skip_32 ?_
    refine xi_if_le (tgt := 40) hx hb d_Mo_skip_35 (by decide) ⟨by decide, by decide⟩ (fun c_35 => ?_) (fun c_35 => ?_)
    ·
      exact absurd c_35 (by decide)
    ·
      refine xi_iconst hx hb d_Mo_skip_38 ?_
      exact x_iret hx hb hr hlocks hP hD hS (by decide) (by decide) ⟨0, 1, rw, B, rfl, rfl, by first | exact Or.inl ⟨rfl, by omega, rfl, rfl⟩ | exact Or.inr (Or.inl ⟨rfl, by omega, by omega, by omega, rfl, rfl⟩)⟩ d_Mo_skip_39
  ·
    refine lv_iload_n hx hb d_Mo_skip_5 rfl (lv_at hl 1 rfl) ?_
    refine xi_sipush hx hb d_Mo_skip_6 (by decide) ?_
    refine xi_icmp_le (tgt := 16) hx hb d_Mo_skip_9 (by decide) ⟨by omega, by omega⟩ ⟨by decide, by decide⟩ (fun c_9 => ?_) (fun c_9 => ?_)
    ·
      refine lv_aload_n hx hb d_Mo_skip_16 rfl (lv_at hl 0 rfl) ?_
      refine va_get (D := D) (cl := xcl) (ci := 5) (v := .int (iI op)) (C := R_Mo) (T := T_Mo) (N := 25) hx hb hts i_Mo hown hK hP 0 rfl rfl 10 (by decide) (hts _ kw_513) (fun _ h9 => h9) rfl d_Mo_skip_17 ?_
      refine xi_if_ne (tgt := 27) hx hb d_Mo_skip_20 (by decide) ⟨by omega, by omega⟩ (fun c_20 => ?_) (fun c_20 => ?_)
      ·
        refine xi_iconst hx hb d_Mo_skip_27 ?_
        refine va_put (D := D) (cl := xcl) (ci := 5) (v := .int (iI 0)) (ty := .int) (C := R_Mo) (T := T_Mo) (N := 25) hx hb hts i_Mo ty_Mo ty_Mo_ok nm_Mo hown hK hP hD hS 0 rfl rfl 0 (by decide) (hts _ kw_503) (fun _ h9 => h9) rfl (by decide +kernel) rfl rfl (Nat.le_of_ble_eq_true rfl) d_Mo_skip_28 (fun H locs hP hD hS => ?_)
        have hP : va_P D xcl [(q, .inr (5, [.int (iI 0), .int (iI ac), .int (iI dI), .int (iI dp), .ref sa, .int (iI bk), .int (iI rs), .int (iI nW), .int (iI nH), .int (iI mt), .int (iI op), .int (iI x), .int (iI y), .int (iI wd), .int (iI ht), .int (iI sc), .int (iI rw), .int (iI ln), .ref ea, .ref fa, .ref ca, .int (iI ct), .int (iI kr), .int (iI kb), .int (iI ov)])), (ea, .inl (cI, 640, .inl (iA B)))] _ := hP
        have hD : va_D A [(q, .inr (5, [.int (iI 0), .int (iI ac), .int (iI dI), .int (iI dp), .ref sa, .int (iI bk), .int (iI rs), .int (iI nW), .int (iI nH), .int (iI mt), .int (iI op), .int (iI x), .int (iI y), .int (iI wd), .int (iI ht), .int (iI sc), .int (iI rw), .int (iI ln), .ref ea, .ref fa, .ref ca, .int (iI ct), .int (iI kr), .int (iI kb), .int (iI ov)])), (ea, .inl (cI, 640, .inl (iA B)))] := hD
        refine lv_aload_n hx hb d_Mo_skip_31 rfl (lv_at hl 0 rfl) ?_
        refine va_get (D := D) (cl := xcl) (ci := 5) (v := .int (iI 0)) (C := R_Mo) (T := T_Mo) (N := 25) hx hb hts i_Mo hown hK hP 0 rfl rfl 0 (by decide) (hts _ kw_503) (fun _ h9 => h9) rfl d_Mo_skip_32 ?_
        refine xi_if_le (tgt := 40) hx hb d_Mo_skip_35 (by decide) ⟨by decide, by decide⟩ (fun c_35 => ?_) (fun c_35 => ?_)
        ·
          refine lv_aload_n hx hb d_Mo_skip_40 rfl (lv_at hl 0 rfl) ?_
          refine lv_dup hx hb d_Mo_skip_41 rfl ?_
          refine va_get (D := D) (cl := xcl) (ci := 5) (v := .int (iI rw)) (C := R_Mo) (T := T_Mo) (N := 25) hx hb hts i_Mo hown hK hP 0 rfl rfl 16 (by decide) (hts _ kw_519) (fun _ h9 => h9) rfl d_Mo_skip_42 ?_
          refine lv_iload_n hx hb d_Mo_skip_45 rfl (lv_at hl 1 rfl) ?_
          refine xi_iadd hx hb d_Mo_skip_46 ?_
          refine va_put (D := D) (cl := xcl) (ci := 5) (v := .int (iI (rw + n))) (ty := .int) (C := R_Mo) (T := T_Mo) (N := 25) hx hb hts i_Mo ty_Mo ty_Mo_ok nm_Mo hown hK hP hD hS 0 rfl rfl 16 (by decide) (hts _ kw_519) (fun _ h9 => h9) rfl (by decide +kernel) rfl rfl (Nat.le_of_ble_eq_true rfl) d_Mo_skip_47 (fun H locs hP hD hS => ?_)
          have hP : va_P D xcl [(q, .inr (5, [.int (iI 0), .int (iI ac), .int (iI dI), .int (iI dp), .ref sa, .int (iI bk), .int (iI rs), .int (iI nW), .int (iI nH), .int (iI mt), .int (iI op), .int (iI x), .int (iI y), .int (iI wd), .int (iI ht), .int (iI sc), .int (iI (rw + n)), .int (iI ln), .ref ea, .ref fa, .ref ca, .int (iI ct), .int (iI kr), .int (iI kb), .int (iI ov)])), (ea, .inl (cI, 640, .inl (iA B)))] _ := hP
          have hD : va_D A [(q, .inr (5, [.int (iI 0), .int (iI ac), .int (iI dI), .int (iI dp), .ref sa, .int (iI bk), .int (iI rs), .int (iI nW), .int (iI nH), .int (iI mt), .int (iI op), .int (iI x), .int (iI y), .int (iI wd), .int (iI ht), .int (iI sc), .int (iI (rw + n)), .int (iI ln), .ref ea, .ref fa, .ref ca, .int (iI ct), .int (iI kr), .int (iI kb), .int (iI ov)])), (ea, .inl (cI, 640, .inl (iA B)))] := hD
          refine lv_aload_n hx hb d_Mo_skip_50 rfl (lv_at hl 0 rfl) ?_
          refine lv_aload_n hx hb d_Mo_skip_51 rfl (lv_at hl 0 rfl) ?_
          refine va_get (D := D) (cl := xcl) (ci := 5) (v := .int (iI ht)) (C := R_Mo) (T := T_Mo) (N := 25) hx hb hts i_Mo hown hK hP 0 rfl rfl 14 (by decide) (hts _ kw_517) (fun _ h9 => h9) rfl d_Mo_skip_52 ?_
          refine xi_if_le (tgt := 76) hx hb d_Mo_skip_55 (by decide) ⟨by omega, by omega⟩ (fun c_55 => ?_) (fun c_55 => ?_)
          ·
            refine lv_aload_n hx hb d_Mo_skip_76 rfl (lv_at hl 0 rfl) ?_
            refine va_get (D := D) (cl := xcl) (ci := 5) (v := .int (iI (rw + n))) (C := R_Mo) (T := T_Mo) (N := 25) hx hb hts i_Mo hown hK hP 0 rfl rfl 16 (by decide) (hts _ kw_519) (fun _ h9 => h9) rfl d_Mo_skip_77 ?_
            refine va_put (D := D) (cl := xcl) (ci := 5) (v := .int (iI (rw + n))) (ty := .int) (C := R_Mo) (T := T_Mo) (N := 25) hx hb hts i_Mo ty_Mo ty_Mo_ok nm_Mo hown hK hP hD hS 0 rfl rfl 16 (by decide) (hts _ kw_519) (fun _ h9 => h9) rfl (by decide +kernel) rfl rfl (Nat.le_of_ble_eq_true rfl) d_Mo_skip_80 (fun H locs hP hD hS => ?_)
            have hP : va_P D xcl [(q, .inr (5, [.int (iI 0), .int (iI ac), .int (iI dI), .int (iI dp), .ref sa, .int (iI bk), .int (iI rs), .int (iI nW), .int (iI nH), .int (iI mt), .int (iI op), .int (iI x), .int (iI y), .int (iI wd), .int (iI ht), .int (iI sc), .int (iI (rw + n)), .int (iI ln), .ref ea, .ref fa, .ref ca, .int (iI ct), .int (iI kr), .int (iI kb), .int (iI ov)])), (ea, .inl (cI, 640, .inl (iA B)))] _ := hP
            have hD : va_D A [(q, .inr (5, [.int (iI 0), .int (iI ac), .int (iI dI), .int (iI dp), .ref sa, .int (iI bk), .int (iI rs), .int (iI nW), .int (iI nH), .int (iI mt), .int (iI op), .int (iI x), .int (iI y), .int (iI wd), .int (iI ht), .int (iI sc), .int (iI (rw + n)), .int (iI ln), .ref ea, .ref fa, .ref ca, .int (iI ct), .int (iI kr), .int (iI kb), .int (iI ov)])), (ea, .inl (cI, 640, .inl (iA B)))] := hD
            refine lv_aload_n hx hb d_Mo_skip_83 rfl (lv_at hl 0 rfl) ?_
            refine x_aft (x_runV (C := "RasterRowsModel") (As := []) (rest := []) (ci := 5) (q0 := 0) hx hb hml hown hts (c_Mo_blank l D cI cJ cQ q 0 ac dI dp sa bk rs nW nH mt op x y wd ht sc (rw + n) ln ea fa ca ct kr kb ov B ) kw_602 kw_604 kp_8 kw_7 kw_605 ds_Mo_blank (by decide) hK (hP.sub (ws' := [(q, .inr (5, [.int (iI 0), .int (iI ac), .int (iI dI), .int (iI dp), .ref sa, .int (iI bk), .int (iI rs), .int (iI nW), .int (iI nH), .int (iI mt), .int (iI op), .int (iI x), .int (iI y), .int (iI wd), .int (iI ht), .int (iI sc), .int (iI (rw + n)), .int (iI ln), .ref ea, .ref fa, .ref ca, .int (iI ct), .int (iI kr), .int (iI kb), .int (iI ov)])), (ea, .inl (cI, 640, .inl (iA B)))]) [0, 1] rfl) (hD.sub (ws' := [(q, .inr (5, [.int (iI 0), .int (iI ac), .int (iI dI), .int (iI dp), .ref sa, .int (iI bk), .int (iI rs), .int (iI nW), .int (iI nH), .int (iI mt), .int (iI op), .int (iI x), .int (iI y), .int (iI wd), .int (iI ht), .int (iI sc), .int (iI (rw + n)), .int (iI ln), .ref ea, .ref fa, .ref ca, .int (iI ct), .int (iI kr), .int (iI kb), .int (iI ov)])), (ea, .inl (cI, 640, .inl (iA B)))]) [0, 1] (by decide) rfl) rfl rfl rfl hl.1 rfl (Nat.le_of_ble_eq_true rfl) d_Mo_skip_84) hP hD hS hA [0, 1] [] rfl (wr := []) rfl (by decide) (by decide) (fun v w1 H locs hq hP hD hS => ?_)
            obtain ⟨rfl, rfl⟩ := hq
            refine W.cs (cells' := 0) (slots' := 0) rfl rfl ?_
            refine W.eq (g2 := F0 m 87 ls []) rfl ?_
            have hP : va_P D xcl [(q, .inr (5, [.int (iI 0), .int (iI ac), .int (iI dI), .int (iI dp), .ref sa, .int (iI bk), .int (iI rs), .int (iI nW), .int (iI nH), .int (iI mt), .int (iI op), .int (iI x), .int (iI y), .int (iI wd), .int (iI ht), .int (iI sc), .int (iI (rw + n)), .int (iI ln), .ref ea, .ref fa, .ref ca, .int (iI ct), .int (iI kr), .int (iI kb), .int (iI ov)])), (ea, .inl (cI, 640, .inl (iA (fun _ => 0))))] _ := hP
            have hD : va_D A [(q, .inr (5, [.int (iI 0), .int (iI ac), .int (iI dI), .int (iI dp), .ref sa, .int (iI bk), .int (iI rs), .int (iI nW), .int (iI nH), .int (iI mt), .int (iI op), .int (iI x), .int (iI y), .int (iI wd), .int (iI ht), .int (iI sc), .int (iI (rw + n)), .int (iI ln), .ref ea, .ref fa, .ref ca, .int (iI ct), .int (iI kr), .int (iI kb), .int (iI ov)])), (ea, .inl (cI, 640, .inl (iA (fun _ => 0))))] := hD
            refine lv_aload_n hx hb d_Mo_skip_87 rfl (lv_at hl 0 rfl) ?_
            refine va_get (D := D) (cl := xcl) (ci := 5) (v := .int (iI (rw + n))) (C := R_Mo) (T := T_Mo) (N := 25) hx hb hts i_Mo hown hK hP 0 rfl rfl 16 (by decide) (hts _ kw_519) (fun _ h9 => h9) rfl d_Mo_skip_88 ?_
            exact x_iret hx hb hr hlocks hP hD hS (by decide) (by decide) ⟨(rw + n), 0, (rw + n), (fun _ => 0), rfl, rfl, Or.inr (Or.inr ⟨rfl, by omega, by omega, by omega, by omega, rfl, rfl⟩)⟩ d_Mo_skip_91
          ·
            refine lv_aload_n hx hb d_Mo_skip_58 rfl (lv_at hl 0 rfl) ?_
            refine va_get (D := D) (cl := xcl) (ci := 5) (v := .int (iI (rw + n))) (C := R_Mo) (T := T_Mo) (N := 25) hx hb hts i_Mo hown hK hP 0 rfl rfl 16 (by decide) (hts _ kw_519) (fun _ h9 => h9) rfl d_Mo_skip_59 ?_
            refine lv_aload_n hx hb d_Mo_skip_62 rfl (lv_at hl 0 rfl) ?_
            refine va_get (D := D) (cl := xcl) (ci := 5) (v := .int (iI ht)) (C := R_Mo) (T := T_Mo) (N := 25) hx hb hts i_Mo hown hK hP 0 rfl rfl 14 (by decide) (hts _ kw_517) (fun _ h9 => h9) rfl d_Mo_skip_63 ?_
            refine xi_icmp_le (tgt := 76) hx hb d_Mo_skip_66 (by decide) ⟨by omega, by omega⟩ ⟨by omega, by omega⟩ (fun c_66 => ?_) (fun c_66 => ?_)
            ·
              refine lv_aload_n hx hb d_Mo_skip_76 rfl (lv_at hl 0 rfl) ?_
              refine va_get (D := D) (cl := xcl) (ci := 5) (v := .int (iI (rw + n))) (C := R_Mo) (T := T_Mo) (N := 25) hx hb hts i_Mo hown hK hP 0 rfl rfl 16 (by decide) (hts _ kw_519) (fun _ h9 => h9) rfl d_Mo_skip_77 ?_
              refine va_put (D := D) (cl := xcl) (ci := 5) (v := .int (iI (rw + n))) (ty := .int) (C := R_Mo) (T := T_Mo) (N := 25) hx hb hts i_Mo ty_Mo ty_Mo_ok nm_Mo hown hK hP hD hS 0 rfl rfl 16 (by decide) (hts _ kw_519) (fun _ h9 => h9) rfl (by decide +kernel) rfl rfl (Nat.le_of_ble_eq_true rfl) d_Mo_skip_80 (fun H locs hP hD hS => ?_)
              have hP : va_P D xcl [(q, .inr (5, [.int (iI 0), .int (iI ac), .int (iI dI), .int (iI dp), .ref sa, .int (iI bk), .int (iI rs), .int (iI nW), .int (iI nH), .int (iI mt), .int (iI op), .int (iI x), .int (iI y), .int (iI wd), .int (iI ht), .int (iI sc), .int (iI (rw + n)), .int (iI ln), .ref ea, .ref fa, .ref ca, .int (iI ct), .int (iI kr), .int (iI kb), .int (iI ov)])), (ea, .inl (cI, 640, .inl (iA B)))] _ := hP
              have hD : va_D A [(q, .inr (5, [.int (iI 0), .int (iI ac), .int (iI dI), .int (iI dp), .ref sa, .int (iI bk), .int (iI rs), .int (iI nW), .int (iI nH), .int (iI mt), .int (iI op), .int (iI x), .int (iI y), .int (iI wd), .int (iI ht), .int (iI sc), .int (iI (rw + n)), .int (iI ln), .ref ea, .ref fa, .ref ca, .int (iI ct), .int (iI kr), .int (iI kb), .int (iI ov)])), (ea, .inl (cI, 640, .inl (iA B)))] := hD
              refine lv_aload_n hx hb d_Mo_skip_83 rfl (lv_at hl 0 rfl) ?_
              refine x_aft (x_runV (C := "RasterRowsModel") (As := []) (rest := []) (ci := 5) (q0 := 0) hx hb hml hown hts (c_Mo_blank l D cI cJ cQ q 0 ac dI dp sa bk rs nW nH mt op x y wd ht sc (rw + n) ln ea fa ca ct kr kb ov B ) kw_602 kw_604 kp_8 kw_7 kw_605 ds_Mo_blank (by decide) hK (hP.sub (ws' := [(q, .inr (5, [.int (iI 0), .int (iI ac), .int (iI dI), .int (iI dp), .ref sa, .int (iI bk), .int (iI rs), .int (iI nW), .int (iI nH), .int (iI mt), .int (iI op), .int (iI x), .int (iI y), .int (iI wd), .int (iI ht), .int (iI sc), .int (iI (rw + n)), .int (iI ln), .ref ea, .ref fa, .ref ca, .int (iI ct), .int (iI kr), .int (iI kb), .int (iI ov)])), (ea, .inl (cI, 640, .inl (iA B)))]) [0, 1] rfl) (hD.sub (ws' := [(q, .inr (5, [.int (iI 0), .int (iI ac), .int (iI dI), .int (iI dp), .ref sa, .int (iI bk), .int (iI rs), .int (iI nW), .int (iI nH), .int (iI mt), .int (iI op), .int (iI x), .int (iI y), .int (iI wd), .int (iI ht), .int (iI sc), .int (iI (rw + n)), .int (iI ln), .ref ea, .ref fa, .ref ca, .int (iI ct), .int (iI kr), .int (iI kb), .int (iI ov)])), (ea, .inl (cI, 640, .inl (iA B)))]) [0, 1] (by decide) rfl) rfl rfl rfl hl.1 rfl (Nat.le_of_ble_eq_true rfl) d_Mo_skip_84) hP hD hS hA [0, 1] [] rfl (wr := []) rfl (by decide) (by decide) (fun v w1 H locs hq hP hD hS => ?_)
              obtain ⟨rfl, rfl⟩ := hq
              refine W.cs (cells' := 0) (slots' := 0) rfl rfl ?_
              refine W.eq (g2 := F0 m 87 ls []) rfl ?_
              have hP : va_P D xcl [(q, .inr (5, [.int (iI 0), .int (iI ac), .int (iI dI), .int (iI dp), .ref sa, .int (iI bk), .int (iI rs), .int (iI nW), .int (iI nH), .int (iI mt), .int (iI op), .int (iI x), .int (iI y), .int (iI wd), .int (iI ht), .int (iI sc), .int (iI (rw + n)), .int (iI ln), .ref ea, .ref fa, .ref ca, .int (iI ct), .int (iI kr), .int (iI kb), .int (iI ov)])), (ea, .inl (cI, 640, .inl (iA (fun _ => 0))))] _ := hP
              have hD : va_D A [(q, .inr (5, [.int (iI 0), .int (iI ac), .int (iI dI), .int (iI dp), .ref sa, .int (iI bk), .int (iI rs), .int (iI nW), .int (iI nH), .int (iI mt), .int (iI op), .int (iI x), .int (iI y), .int (iI wd), .int (iI ht), .int (iI sc), .int (iI (rw + n)), .int (iI ln), .ref ea, .ref fa, .ref ca, .int (iI ct), .int (iI kr), .int (iI kb), .int (iI ov)])), (ea, .inl (cI, 640, .inl (iA (fun _ => 0))))] := hD
              refine lv_aload_n hx hb d_Mo_skip_87 rfl (lv_at hl 0 rfl) ?_
              refine va_get (D := D) (cl := xcl) (ci := 5) (v := .int (iI (rw + n))) (C := R_Mo) (T := T_Mo) (N := 25) hx hb hts i_Mo hown hK hP 0 rfl rfl 16 (by decide) (hts _ kw_519) (fun _ h9 => h9) rfl d_Mo_skip_88 ?_
              exact x_iret hx hb hr hlocks hP hD hS (by decide) (by decide) ⟨(rw + n), 0, (rw + n), (fun _ => 0), rfl, rfl, Or.inr (Or.inr ⟨rfl, by omega, by omega, by omega, by omega, rfl, rfl⟩)⟩ d_Mo_skip_91
            ·
              refine lv_aload_n hx hb d_Mo_skip_69 rfl (lv_at hl 0 rfl) ?_
              refine va_get (D := D) (cl := xcl) (ci := 5) (v := .int (iI ht)) (C := R_Mo) (T := T_Mo) (N := 25) hx hb hts i_Mo hown hK hP 0 rfl rfl 14 (by decide) (hts _ kw_517) (fun _ h9 => h9) rfl d_Mo_skip_70 ?_
              refine lv_goto (tgt := 80) hx hb d_Mo_skip_73 (by decide) ?_
              refine va_put (D := D) (cl := xcl) (ci := 5) (v := .int (iI ht)) (ty := .int) (C := R_Mo) (T := T_Mo) (N := 25) hx hb hts i_Mo ty_Mo ty_Mo_ok nm_Mo hown hK hP hD hS 0 rfl rfl 16 (by decide) (hts _ kw_519) (fun _ h9 => h9) rfl (by decide +kernel) rfl rfl (Nat.le_of_ble_eq_true rfl) d_Mo_skip_80 (fun H locs hP hD hS => ?_)
              have hP : va_P D xcl [(q, .inr (5, [.int (iI 0), .int (iI ac), .int (iI dI), .int (iI dp), .ref sa, .int (iI bk), .int (iI rs), .int (iI nW), .int (iI nH), .int (iI mt), .int (iI op), .int (iI x), .int (iI y), .int (iI wd), .int (iI ht), .int (iI sc), .int (iI ht), .int (iI ln), .ref ea, .ref fa, .ref ca, .int (iI ct), .int (iI kr), .int (iI kb), .int (iI ov)])), (ea, .inl (cI, 640, .inl (iA B)))] _ := hP
              have hD : va_D A [(q, .inr (5, [.int (iI 0), .int (iI ac), .int (iI dI), .int (iI dp), .ref sa, .int (iI bk), .int (iI rs), .int (iI nW), .int (iI nH), .int (iI mt), .int (iI op), .int (iI x), .int (iI y), .int (iI wd), .int (iI ht), .int (iI sc), .int (iI ht), .int (iI ln), .ref ea, .ref fa, .ref ca, .int (iI ct), .int (iI kr), .int (iI kb), .int (iI ov)])), (ea, .inl (cI, 640, .inl (iA B)))] := hD
              refine lv_aload_n hx hb d_Mo_skip_83 rfl (lv_at hl 0 rfl) ?_
              refine x_aft (x_runV (C := "RasterRowsModel") (As := []) (rest := []) (ci := 5) (q0 := 0) hx hb hml hown hts (c_Mo_blank l D cI cJ cQ q 0 ac dI dp sa bk rs nW nH mt op x y wd ht sc ht ln ea fa ca ct kr kb ov B ) kw_602 kw_604 kp_8 kw_7 kw_605 ds_Mo_blank (by decide) hK (hP.sub (ws' := [(q, .inr (5, [.int (iI 0), .int (iI ac), .int (iI dI), .int (iI dp), .ref sa, .int (iI bk), .int (iI rs), .int (iI nW), .int (iI nH), .int (iI mt), .int (iI op), .int (iI x), .int (iI y), .int (iI wd), .int (iI ht), .int (iI sc), .int (iI ht), .int (iI ln), .ref ea, .ref fa, .ref ca, .int (iI ct), .int (iI kr), .int (iI kb), .int (iI ov)])), (ea, .inl (cI, 640, .inl (iA B)))]) [0, 1] rfl) (hD.sub (ws' := [(q, .inr (5, [.int (iI 0), .int (iI ac), .int (iI dI), .int (iI dp), .ref sa, .int (iI bk), .int (iI rs), .int (iI nW), .int (iI nH), .int (iI mt), .int (iI op), .int (iI x), .int (iI y), .int (iI wd), .int (iI ht), .int (iI sc), .int (iI ht), .int (iI ln), .ref ea, .ref fa, .ref ca, .int (iI ct), .int (iI kr), .int (iI kb), .int (iI ov)])), (ea, .inl (cI, 640, .inl (iA B)))]) [0, 1] (by decide) rfl) rfl rfl rfl hl.1 rfl (Nat.le_of_ble_eq_true rfl) d_Mo_skip_84) hP hD hS hA [0, 1] [] rfl (wr := []) rfl (by decide) (by decide) (fun v w1 H locs hq hP hD hS => ?_)
              obtain ⟨rfl, rfl⟩ := hq
              refine W.cs (cells' := 0) (slots' := 0) rfl rfl ?_
              refine W.eq (g2 := F0 m 87 ls []) rfl ?_
              have hP : va_P D xcl [(q, .inr (5, [.int (iI 0), .int (iI ac), .int (iI dI), .int (iI dp), .ref sa, .int (iI bk), .int (iI rs), .int (iI nW), .int (iI nH), .int (iI mt), .int (iI op), .int (iI x), .int (iI y), .int (iI wd), .int (iI ht), .int (iI sc), .int (iI ht), .int (iI ln), .ref ea, .ref fa, .ref ca, .int (iI ct), .int (iI kr), .int (iI kb), .int (iI ov)])), (ea, .inl (cI, 640, .inl (iA (fun _ => 0))))] _ := hP
              have hD : va_D A [(q, .inr (5, [.int (iI 0), .int (iI ac), .int (iI dI), .int (iI dp), .ref sa, .int (iI bk), .int (iI rs), .int (iI nW), .int (iI nH), .int (iI mt), .int (iI op), .int (iI x), .int (iI y), .int (iI wd), .int (iI ht), .int (iI sc), .int (iI ht), .int (iI ln), .ref ea, .ref fa, .ref ca, .int (iI ct), .int (iI kr), .int (iI kb), .int (iI ov)])), (ea, .inl (cI, 640, .inl (iA (fun _ => 0))))] := hD
              refine lv_aload_n hx hb d_Mo_skip_87 rfl (lv_at hl 0 rfl) ?_
              refine va_get (D := D) (cl := xcl) (ci := 5) (v := .int (iI ht)) (C := R_Mo) (T := T_Mo) (N := 25) hx hb hts i_Mo hown hK hP 0 rfl rfl 16 (by decide) (hts _ kw_519) (fun _ h9 => h9) rfl d_Mo_skip_88 ?_
              exact x_iret hx hb hr hlocks hP hD hS (by decide) (by decide) ⟨ht, 0, ht, (fun _ => 0), rfl, rfl, Or.inr (Or.inr ⟨rfl, by omega, by omega, by omega, by omega, rfl, rfl⟩)⟩ d_Mo_skip_91
        ·
          exact absurd c_35 (by decide)
      ·
        refine xi_iconst hx hb d_Mo_skip_23 ?_
        refine lv_goto (tgt := 28) hx hb d_Mo_skip_24 (by decide) ?_
        refine va_put (D := D) (cl := xcl) (ci := 5) (v := .int (iI 2)) (ty := .int) (C := R_Mo) (T := T_Mo) (N := 25) hx hb hts i_Mo ty_Mo ty_Mo_ok nm_Mo hown hK hP hD hS 0 rfl rfl 0 (by decide) (hts _ kw_503) (fun _ h9 => h9) rfl (by decide +kernel) rfl rfl (Nat.le_of_ble_eq_true rfl) d_Mo_skip_28 (fun H locs hP hD hS => ?_)
        have hP : va_P D xcl [(q, .inr (5, [.int (iI 2), .int (iI ac), .int (iI dI), .int (iI dp), .ref sa, .int (iI bk), .int (iI rs), .int (iI nW), .int (iI nH), .int (iI mt), .int (iI op), .int (iI x), .int (iI y), .int (iI wd), .int (iI ht), .int (iI sc), .int (iI rw), .int (iI ln), .ref ea, .ref fa, .ref ca, .int (iI ct), .int (iI kr), .int (iI kb), .int (iI ov)])), (ea, .inl (cI, 640, .inl (iA B)))] _ := hP
        have hD : va_D A [(q, .inr (5, [.int (iI 2), .int (iI ac), .int (iI dI), .int (iI dp), .ref sa, .int (iI bk), .int (iI rs), .int (iI nW), .int (iI nH), .int (iI mt), .int (iI op), .int (iI x), .int (iI y), .int (iI wd), .int (iI ht), .int (iI sc), .int (iI rw), .int (iI ln), .ref ea, .ref fa, .ref ca, .int (iI ct), .int (iI kr), .int (iI kb), .int (iI ov)])), (ea, .inl (cI, 640, .inl (iA B)))] := hD
        refine lv_aload_n hx hb d_Mo_skip_31 rfl (lv_at hl 0 rfl) ?_
        refine va_get (D := D) (cl := xcl) (ci := 5) (v := .int (iI 2)) (C := R_Mo) (T := T_Mo) (N := 25) hx hb hts i_Mo hown hK hP 0 rfl rfl 0 (by decide) (hts _ kw_503) (fun _ h9 => h9) rfl d_Mo_skip_32 ?_
        refine xi_if_le (tgt := 40) hx hb d_Mo_skip_35 (by decide) ⟨by decide, by decide⟩ (fun c_35 => ?_) (fun c_35 => ?_)
        ·
          exact absurd c_35 (by decide)
        ·
          refine xi_iconst hx hb d_Mo_skip_38 ?_
          exact x_iret hx hb hr hlocks hP hD hS (by decide) (by decide) ⟨0, 2, rw, B, rfl, rfl, by first | exact Or.inl ⟨rfl, by omega, rfl, rfl⟩ | exact Or.inr (Or.inl ⟨rfl, by omega, by omega, by omega, rfl, rfl⟩)⟩ d_Mo_skip_39
    ·
      refine xi_iconst hx hb d_Mo_skip_12 ?_
      refine lv_goto (tgt := 28) hx hb d_Mo_skip_13 (by decide) ?_
      refine va_put (D := D) (cl := xcl) (ci := 5) (v := .int (iI 1)) (ty := .int) (C := R_Mo) (T := T_Mo) (N := 25) hx hb hts i_Mo ty_Mo ty_Mo_ok nm_Mo hown hK hP hD hS 0 rfl rfl 0 (by decide) (hts _ kw_503) (fun _ h9 => h9) rfl (by decide +kernel) rfl rfl (Nat.le_of_ble_eq_true rfl) d_Mo_skip_28 (fun H locs hP hD hS => ?_)
      have hP : va_P D xcl [(q, .inr (5, [.int (iI 1), .int (iI ac), .int (iI dI), .int (iI dp), .ref sa, .int (iI bk), .int (iI rs), .int (iI nW), .int (iI nH), .int (iI mt), .int (iI op), .int (iI x), .int (iI y), .int (iI wd), .int (iI ht), .int (iI sc), .int (iI rw), .int (iI ln), .ref ea, .ref fa, .ref ca, .int (iI ct), .int (iI kr), .int (iI kb), .int (iI ov)])), (ea, .inl (cI, 640, .inl (iA B)))] _ := hP
      have hD : va_D A [(q, .inr (5, [.int (iI 1), .int (iI ac), .int (iI dI), .int (iI dp), .ref sa, .int (iI bk), .int (iI rs), .int (iI nW), .int (iI nH), .int (iI mt), .int (iI op), .int (iI x), .int (iI y), .int (iI wd), .int (iI ht), .int (iI sc), .int (iI rw), .int (iI ln), .ref ea, .ref fa, .ref ca, .int (iI ct), .int (iI kr), .int (iI kb), .int (iI ov)])), (ea, .inl (cI, 640, .inl (iA B)))] := hD
      refine lv_aload_n hx hb d_Mo_skip_31 rfl (lv_at hl 0 rfl) ?_
      refine va_get (D := D) (cl := xcl) (ci := 5) (v := .int (iI 1)) (C := R_Mo) (T := T_Mo) (N := 25) hx hb hts i_Mo hown hK hP 0 rfl rfl 0 (by decide) (hts _ kw_503) (fun _ h9 => h9) rfl d_Mo_skip_32 ?_
      refine xi_if_le (tgt := 40) hx hb d_Mo_skip_35 (by decide) ⟨by decide, by decide⟩ (fun c_35 => ?_) (fun c_35 => ?_)
      ·
        exact absurd c_35 (by decide)
      ·
        refine xi_iconst hx hb d_Mo_skip_38 ?_
        exact x_iret hx hb hr hlocks hP hD hS (by decide) (by decide) ⟨0, 1, rw, B, rfl, rfl, by first | exact Or.inl ⟨rfl, by omega, rfl, rfl⟩ | exact Or.inr (Or.inl ⟨rfl, by omega, by omega, by omega, rfl, rfl⟩)⟩ d_Mo_skip_39

theorem d_Mo_shut_0 : decode b_Mo_shut 0 = .ok (.aload_n 0, 1) := by decide +kernel
theorem d_Mo_shut_1 : decode b_Mo_shut 1 = .ok (.aload_n 0, 1) := by decide +kernel
theorem d_Mo_shut_2 : decode b_Mo_shut 2 = .ok (.getfield 39, 3) := by decide +kernel
theorem d_Mo_shut_5 : decode b_Mo_shut 5 = .ok (.ifCond .eq 7, 3) := by decide +kernel
theorem d_Mo_shut_8 : decode b_Mo_shut 8 = .ok (.iconst 0, 1) := by decide +kernel
theorem d_Mo_shut_9 : decode b_Mo_shut 9 = .ok (.goto 4, 3) := by decide +kernel
theorem d_Mo_shut_12 : decode b_Mo_shut 12 = .ok (.iconst 1, 1) := by decide +kernel
theorem d_Mo_shut_13 : decode b_Mo_shut 13 = .ok (.putfield 36, 3) := by decide +kernel
theorem d_Mo_shut_16 : decode b_Mo_shut 16 = .ok (.aload_n 0, 1) := by decide +kernel
theorem d_Mo_shut_17 : decode b_Mo_shut 17 = .ok (.getfield 36, 3) := by decide +kernel
theorem d_Mo_shut_20 : decode b_Mo_shut 20 = .ok (.ifCond .le 5, 3) := by decide +kernel
theorem d_Mo_shut_23 : decode b_Mo_shut 23 = .ok (.iconst 0, 1) := by decide +kernel
theorem d_Mo_shut_24 : decode b_Mo_shut 24 = .ok (.ireturn, 1) := by decide +kernel
theorem d_Mo_shut_25 : decode b_Mo_shut 25 = .ok (.aload_n 0, 1) := by decide +kernel
theorem d_Mo_shut_26 : decode b_Mo_shut 26 = .ok (.iconst 0, 1) := by decide +kernel
theorem d_Mo_shut_27 : decode b_Mo_shut 27 = .ok (.putfield 39, 3) := by decide +kernel
theorem d_Mo_shut_30 : decode b_Mo_shut 30 = .ok (.aload_n 0, 1) := by decide +kernel
theorem d_Mo_shut_31 : decode b_Mo_shut 31 = .ok (.iconst 0, 1) := by decide +kernel
theorem d_Mo_shut_32 : decode b_Mo_shut 32 = .ok (.putfield 49, 3) := by decide +kernel
theorem d_Mo_shut_35 : decode b_Mo_shut 35 = .ok (.aload_n 0, 1) := by decide +kernel
theorem d_Mo_shut_36 : decode b_Mo_shut 36 = .ok (.getfield 59, 3) := by decide +kernel
theorem d_Mo_shut_39 : decode b_Mo_shut 39 = .ok (.aload_n 0, 1) := by decide +kernel
theorem d_Mo_shut_40 : decode b_Mo_shut 40 = .ok (.getfield 68, 3) := by decide +kernel
theorem d_Mo_shut_43 : decode b_Mo_shut 43 = .ok (.aload_n 0, 1) := by decide +kernel
theorem d_Mo_shut_44 : decode b_Mo_shut 44 = .ok (.getfield 65, 3) := by decide +kernel
theorem d_Mo_shut_47 : decode b_Mo_shut 47 = .ok (.ifCond .le 10, 3) := by decide +kernel
theorem d_Mo_shut_50 : decode b_Mo_shut 50 = .ok (.aload_n 0, 1) := by decide +kernel
theorem d_Mo_shut_51 : decode b_Mo_shut 51 = .ok (.getfield 65, 3) := by decide +kernel
theorem d_Mo_shut_54 : decode b_Mo_shut 54 = .ok (.goto 7, 3) := by decide +kernel
theorem d_Mo_shut_57 : decode b_Mo_shut 57 = .ok (.aload_n 0, 1) := by decide +kernel
theorem d_Mo_shut_58 : decode b_Mo_shut 58 = .ok (.getfield 71, 3) := by decide +kernel
theorem d_Mo_shut_61 : decode b_Mo_shut 61 = .ok (.imul, 1) := by decide +kernel
theorem d_Mo_shut_62 : decode b_Mo_shut 62 = .ok (.iadd, 1) := by decide +kernel
theorem d_Mo_shut_63 : decode b_Mo_shut 63 = .ok (.ireturn, 1) := by decide +kernel
theorem ds_Mo_shut : xDesc y_Mo_shut 0 := by decide +kernel

abbrev rm_Mo_shut : Room := { frames := 0, cells := 0, slots := 0, locals := 0 }
set_option maxHeartbeats 4000000 in
set_option maxRecDepth 100000 in
/-- Model.shut -/
theorem c_Mo_shut (l : Launch) (D : va_G) (cI cJ cQ : ClassId) (q : Nat) (th : Int) (ac : Int) (dI : Int) (dp : Int) (sa : Nat) (bk : Int) (rs : Int) (nW : Int) (nH : Int) (mt : Int) (op : Int) (x : Int) (y : Int) (wd : Int) (ht : Int) (sc : Int) (rw : Int) (ln : Int) (ea : Nat) (fa : Nat) (ca : Nat) (ct : Int) (kr : Int) (kb : Int) (ov : Int) (hop : op = 0 ∨ op = 1) (hh : 0 ≤ ht ∧ ht ≤ 5119) : xMet l D (xT cI cJ cQ) y_Mo_shut b_Mo_shut 1 (some .int) rm_Mo_shut [.ref q] [(q, .inr (5, [.int (iI th), .int (iI ac), .int (iI dI), .int (iI dp), .ref sa, .int (iI bk), .int (iI rs), .int (iI nW), .int (iI nH), .int (iI mt), .int (iI op), .int (iI x), .int (iI y), .int (iI wd), .int (iI ht), .int (iI sc), .int (iI rw), .int (iI ln), .ref ea, .ref fa, .ref ca, .int (iI ct), .int (iI kr), .int (iI kb), .int (iI ov)]))] (fun v ws => ∃ (r : Int) (th2 : Int) (op2 : Int) (m2 : Int), v = some (.int (iI r)) ∧ ws = [(q, .inr (5, [.int (iI th2), .int (iI ac), .int (iI dI), .int (iI dp), .ref sa, .int (iI bk), .int (iI rs), .int (iI nW), .int (iI nH), .int (iI m2), .int (iI op2), .int (iI x), .int (iI y), .int (iI wd), .int (iI ht), .int (iI sc), .int (iI rw), .int (iI ln), .ref ea, .ref fa, .ref ca, .int (iI ct), .int (iI kr), .int (iI kb), .int (iI ov)]))] ∧ ((th2 = 1 ∧ op = 0 ∧ op2 = op ∧ m2 = mt) ∨ (th2 = 0 ∧ op = 1 ∧ op2 = 0 ∧ m2 = 0 ∧ ((0 < ht ∧ r = y + sc * ht) ∨ (ht = 0 ∧ r = y + sc * rw))))) := by
  refine x_met (by decide) (Nat.le_of_ble_eq_true rfl) ?_
  intro p e s m below meth c hx hb hr hml hts hown hlocks hin hF0 A hA hP hD hK ls hl hS
  have hl : lv_has ls 1 [(0, .ref q)] := hl
  refine lv_aload_n hx hb d_Mo_shut_0 rfl (lv_at hl 0 rfl) ?_
  refine lv_aload_n hx hb d_Mo_shut_1 rfl (lv_at hl 0 rfl) ?_
  refine va_get (D := D) (cl := xcl) (ci := 5) (v := .int (iI op)) (C := R_Mo) (T := T_Mo) (N := 25) hx hb hts i_Mo hown hK hP 0 rfl rfl 10 (by decide) (hts _ kw_513) (fun _ h9 => h9) rfl d_Mo_shut_2 ?_
  refine xi_if_eq (tgt := 12) hx hb d_Mo_shut_5 (by decide) ⟨by omega, by omega⟩ (fun c_5 => ?_) (fun c_5 => ?_)
  ·
    refine xi_iconst hx hb d_Mo_shut_12 ?_
    refine va_put (D := D) (cl := xcl) (ci := 5) (v := .int (iI 1)) (ty := .int) (C := R_Mo) (T := T_Mo) (N := 25) hx hb hts i_Mo ty_Mo ty_Mo_ok nm_Mo hown hK hP hD hS 0 rfl rfl 0 (by decide) (hts _ kw_503) (fun _ h9 => h9) rfl (by decide +kernel) rfl rfl (Nat.le_of_ble_eq_true rfl) d_Mo_shut_13 (fun H locs hP hD hS => ?_)
    have hP : va_P D xcl [(q, .inr (5, [.int (iI 1), .int (iI ac), .int (iI dI), .int (iI dp), .ref sa, .int (iI bk), .int (iI rs), .int (iI nW), .int (iI nH), .int (iI mt), .int (iI op), .int (iI x), .int (iI y), .int (iI wd), .int (iI ht), .int (iI sc), .int (iI rw), .int (iI ln), .ref ea, .ref fa, .ref ca, .int (iI ct), .int (iI kr), .int (iI kb), .int (iI ov)]))] _ := hP
    have hD : va_D A [(q, .inr (5, [.int (iI 1), .int (iI ac), .int (iI dI), .int (iI dp), .ref sa, .int (iI bk), .int (iI rs), .int (iI nW), .int (iI nH), .int (iI mt), .int (iI op), .int (iI x), .int (iI y), .int (iI wd), .int (iI ht), .int (iI sc), .int (iI rw), .int (iI ln), .ref ea, .ref fa, .ref ca, .int (iI ct), .int (iI kr), .int (iI kb), .int (iI ov)]))] := hD
    refine lv_aload_n hx hb d_Mo_shut_16 rfl (lv_at hl 0 rfl) ?_
    refine va_get (D := D) (cl := xcl) (ci := 5) (v := .int (iI 1)) (C := R_Mo) (T := T_Mo) (N := 25) hx hb hts i_Mo hown hK hP 0 rfl rfl 0 (by decide) (hts _ kw_503) (fun _ h9 => h9) rfl d_Mo_shut_17 ?_
    refine xi_if_le (tgt := 25) hx hb d_Mo_shut_20 (by decide) ⟨by decide, by decide⟩ (fun c_20 => ?_) (fun c_20 => ?_)
    ·
      exact absurd c_20 (by decide)
    ·
      refine xi_iconst hx hb d_Mo_shut_23 ?_
      exact x_iret hx hb hr hlocks hP hD hS (by decide) (by decide) ⟨0, 1, op, mt, rfl, rfl, Or.inl ⟨rfl, by omega, rfl, rfl⟩⟩ d_Mo_shut_24
  ·
    refine xi_iconst hx hb d_Mo_shut_8 ?_
    refine lv_goto (tgt := 13) hx hb d_Mo_shut_9 (by decide) ?_
    refine va_put (D := D) (cl := xcl) (ci := 5) (v := .int (iI 0)) (ty := .int) (C := R_Mo) (T := T_Mo) (N := 25) hx hb hts i_Mo ty_Mo ty_Mo_ok nm_Mo hown hK hP hD hS 0 rfl rfl 0 (by decide) (hts _ kw_503) (fun _ h9 => h9) rfl (by decide +kernel) rfl rfl (Nat.le_of_ble_eq_true rfl) d_Mo_shut_13 (fun H locs hP hD hS => ?_)
    have hP : va_P D xcl [(q, .inr (5, [.int (iI 0), .int (iI ac), .int (iI dI), .int (iI dp), .ref sa, .int (iI bk), .int (iI rs), .int (iI nW), .int (iI nH), .int (iI mt), .int (iI op), .int (iI x), .int (iI y), .int (iI wd), .int (iI ht), .int (iI sc), .int (iI rw), .int (iI ln), .ref ea, .ref fa, .ref ca, .int (iI ct), .int (iI kr), .int (iI kb), .int (iI ov)]))] _ := hP
    have hD : va_D A [(q, .inr (5, [.int (iI 0), .int (iI ac), .int (iI dI), .int (iI dp), .ref sa, .int (iI bk), .int (iI rs), .int (iI nW), .int (iI nH), .int (iI mt), .int (iI op), .int (iI x), .int (iI y), .int (iI wd), .int (iI ht), .int (iI sc), .int (iI rw), .int (iI ln), .ref ea, .ref fa, .ref ca, .int (iI ct), .int (iI kr), .int (iI kb), .int (iI ov)]))] := hD
    refine lv_aload_n hx hb d_Mo_shut_16 rfl (lv_at hl 0 rfl) ?_
    refine va_get (D := D) (cl := xcl) (ci := 5) (v := .int (iI 0)) (C := R_Mo) (T := T_Mo) (N := 25) hx hb hts i_Mo hown hK hP 0 rfl rfl 0 (by decide) (hts _ kw_503) (fun _ h9 => h9) rfl d_Mo_shut_17 ?_
    refine xi_if_le (tgt := 25) hx hb d_Mo_shut_20 (by decide) ⟨by decide, by decide⟩ (fun c_20 => ?_) (fun c_20 => ?_)
    ·
      refine lv_aload_n hx hb d_Mo_shut_25 rfl (lv_at hl 0 rfl) ?_
      refine xi_iconst hx hb d_Mo_shut_26 ?_
      refine va_put (D := D) (cl := xcl) (ci := 5) (v := .int (iI 0)) (ty := .boolean) (C := R_Mo) (T := T_Mo) (N := 25) hx hb hts i_Mo ty_Mo ty_Mo_ok nm_Mo hown hK hP hD hS 0 rfl rfl 10 (by decide) (hts _ kw_513) (fun _ h9 => h9) rfl (by decide +kernel) rfl rfl (Nat.le_of_ble_eq_true rfl) d_Mo_shut_27 (fun H locs hP hD hS => ?_)
      have hP : va_P D xcl [(q, .inr (5, [.int (iI 0), .int (iI ac), .int (iI dI), .int (iI dp), .ref sa, .int (iI bk), .int (iI rs), .int (iI nW), .int (iI nH), .int (iI mt), .int (iI 0), .int (iI x), .int (iI y), .int (iI wd), .int (iI ht), .int (iI sc), .int (iI rw), .int (iI ln), .ref ea, .ref fa, .ref ca, .int (iI ct), .int (iI kr), .int (iI kb), .int (iI ov)]))] _ := hP
      have hD : va_D A [(q, .inr (5, [.int (iI 0), .int (iI ac), .int (iI dI), .int (iI dp), .ref sa, .int (iI bk), .int (iI rs), .int (iI nW), .int (iI nH), .int (iI mt), .int (iI 0), .int (iI x), .int (iI y), .int (iI wd), .int (iI ht), .int (iI sc), .int (iI rw), .int (iI ln), .ref ea, .ref fa, .ref ca, .int (iI ct), .int (iI kr), .int (iI kb), .int (iI ov)]))] := hD
      refine lv_aload_n hx hb d_Mo_shut_30 rfl (lv_at hl 0 rfl) ?_
      refine xi_iconst hx hb d_Mo_shut_31 ?_
      refine va_put (D := D) (cl := xcl) (ci := 5) (v := .int (iI 0)) (ty := .int) (C := R_Mo) (T := T_Mo) (N := 25) hx hb hts i_Mo ty_Mo ty_Mo_ok nm_Mo hown hK hP hD hS 0 rfl rfl 9 (by decide) (hts _ kw_512) (fun _ h9 => h9) rfl (by decide +kernel) rfl rfl (Nat.le_of_ble_eq_true rfl) d_Mo_shut_32 (fun H locs hP hD hS => ?_)
      have hP : va_P D xcl [(q, .inr (5, [.int (iI 0), .int (iI ac), .int (iI dI), .int (iI dp), .ref sa, .int (iI bk), .int (iI rs), .int (iI nW), .int (iI nH), .int (iI 0), .int (iI 0), .int (iI x), .int (iI y), .int (iI wd), .int (iI ht), .int (iI sc), .int (iI rw), .int (iI ln), .ref ea, .ref fa, .ref ca, .int (iI ct), .int (iI kr), .int (iI kb), .int (iI ov)]))] _ := hP
      have hD : va_D A [(q, .inr (5, [.int (iI 0), .int (iI ac), .int (iI dI), .int (iI dp), .ref sa, .int (iI bk), .int (iI rs), .int (iI nW), .int (iI nH), .int (iI 0), .int (iI 0), .int (iI x), .int (iI y), .int (iI wd), .int (iI ht), .int (iI sc), .int (iI rw), .int (iI ln), .ref ea, .ref fa, .ref ca, .int (iI ct), .int (iI kr), .int (iI kb), .int (iI ov)]))] := hD
      refine lv_aload_n hx hb d_Mo_shut_35 rfl (lv_at hl 0 rfl) ?_
      refine va_get (D := D) (cl := xcl) (ci := 5) (v := .int (iI y)) (C := R_Mo) (T := T_Mo) (N := 25) hx hb hts i_Mo hown hK hP 0 rfl rfl 12 (by decide) (hts _ kw_515) (fun _ h9 => h9) rfl d_Mo_shut_36 ?_
      refine lv_aload_n hx hb d_Mo_shut_39 rfl (lv_at hl 0 rfl) ?_
      refine va_get (D := D) (cl := xcl) (ci := 5) (v := .int (iI sc)) (C := R_Mo) (T := T_Mo) (N := 25) hx hb hts i_Mo hown hK hP 0 rfl rfl 15 (by decide) (hts _ kw_518) (fun _ h9 => h9) rfl d_Mo_shut_40 ?_
      refine lv_aload_n hx hb d_Mo_shut_43 rfl (lv_at hl 0 rfl) ?_
      refine va_get (D := D) (cl := xcl) (ci := 5) (v := .int (iI ht)) (C := R_Mo) (T := T_Mo) (N := 25) hx hb hts i_Mo hown hK hP 0 rfl rfl 14 (by decide) (hts _ kw_517) (fun _ h9 => h9) rfl d_Mo_shut_44 ?_
      refine xi_if_le (tgt := 57) hx hb d_Mo_shut_47 (by decide) ⟨by omega, by omega⟩ (fun c_47 => ?_) (fun c_47 => ?_)
      ·
        refine lv_aload_n hx hb d_Mo_shut_57 rfl (lv_at hl 0 rfl) ?_
        refine va_get (D := D) (cl := xcl) (ci := 5) (v := .int (iI rw)) (C := R_Mo) (T := T_Mo) (N := 25) hx hb hts i_Mo hown hK hP 0 rfl rfl 16 (by decide) (hts _ kw_519) (fun _ h9 => h9) rfl d_Mo_shut_58 ?_
        refine xi_imul hx hb d_Mo_shut_61 ?_
        refine xi_iadd hx hb d_Mo_shut_62 ?_
        exact x_iret hx hb hr hlocks hP hD hS (by decide) (by decide) ⟨(y + (sc * rw)), 0, 0, 0, rfl, rfl, Or.inr ⟨rfl, by omega, rfl, rfl, Or.inr ⟨by omega, rfl⟩⟩⟩ d_Mo_shut_63
      ·
        refine lv_aload_n hx hb d_Mo_shut_50 rfl (lv_at hl 0 rfl) ?_
        refine va_get (D := D) (cl := xcl) (ci := 5) (v := .int (iI ht)) (C := R_Mo) (T := T_Mo) (N := 25) hx hb hts i_Mo hown hK hP 0 rfl rfl 14 (by decide) (hts _ kw_517) (fun _ h9 => h9) rfl d_Mo_shut_51 ?_
        refine lv_goto (tgt := 61) hx hb d_Mo_shut_54 (by decide) ?_
        refine xi_imul hx hb d_Mo_shut_61 ?_
        refine xi_iadd hx hb d_Mo_shut_62 ?_
        exact x_iret hx hb hr hlocks hP hD hS (by decide) (by decide) ⟨(y + (sc * ht)), 0, 0, 0, rfl, rfl, Or.inr ⟨rfl, by omega, rfl, rfl, Or.inl ⟨by omega, rfl⟩⟩⟩ d_Mo_shut_63
    ·
      exact absurd c_20 (by decide)
