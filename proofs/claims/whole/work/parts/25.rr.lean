theorem d_RR_isResolution_0 : decode b_RR_isResolution 0 = .ok (.iload_n 0, 1) := by decide +kernel
theorem d_RR_isResolution_1 : decode b_RR_isResolution 1 = .ok (.bipush 75, 2) := by decide +kernel
theorem d_RR_isResolution_3 : decode b_RR_isResolution 3 = .ok (.if_icmp .eq 23, 3) := by decide +kernel
theorem d_RR_isResolution_6 : decode b_RR_isResolution 6 = .ok (.iload_n 0, 1) := by decide +kernel
theorem d_RR_isResolution_7 : decode b_RR_isResolution 7 = .ok (.bipush 100, 2) := by decide +kernel
theorem d_RR_isResolution_9 : decode b_RR_isResolution 9 = .ok (.if_icmp .eq 17, 3) := by decide +kernel
theorem d_RR_isResolution_12 : decode b_RR_isResolution 12 = .ok (.iload_n 0, 1) := by decide +kernel
theorem d_RR_isResolution_13 : decode b_RR_isResolution 13 = .ok (.sipush 150, 3) := by decide +kernel
theorem d_RR_isResolution_16 : decode b_RR_isResolution 16 = .ok (.if_icmp .eq 10, 3) := by decide +kernel
theorem d_RR_isResolution_19 : decode b_RR_isResolution 19 = .ok (.iload_n 0, 1) := by decide +kernel
theorem d_RR_isResolution_20 : decode b_RR_isResolution 20 = .ok (.sipush 300, 3) := by decide +kernel
theorem d_RR_isResolution_23 : decode b_RR_isResolution 23 = .ok (.if_icmp .ne 7, 3) := by decide +kernel
theorem d_RR_isResolution_26 : decode b_RR_isResolution 26 = .ok (.iconst 1, 1) := by decide +kernel
theorem d_RR_isResolution_27 : decode b_RR_isResolution 27 = .ok (.goto 4, 3) := by decide +kernel
theorem d_RR_isResolution_30 : decode b_RR_isResolution 30 = .ok (.iconst 0, 1) := by decide +kernel
theorem d_RR_isResolution_31 : decode b_RR_isResolution 31 = .ok (.ireturn, 1) := by decide +kernel
theorem ds_RR_isResolution : xDesc y_RR_isResolution 1 := by decide +kernel

abbrev rm_RR_isResolution : Room := { frames := 0, cells := 0, slots := 0, locals := 0 }
set_option maxHeartbeats 4000000 in
set_option maxRecDepth 100000 in
/-- isResolution -/
theorem c_RR_isResolution (l : Launch) (D : va_G) (cI cJ cQ : ClassId) (z : Int) (hz : inR z) : xMet l D (xT cI cJ cQ) y_RR_isResolution b_RR_isResolution 1 (some .boolean) rm_RR_isResolution [.int (iI z)] [] (fun v ws => ∃ (r : Int), v = some (.int (iI r)) ∧ ws = [] ∧ ((r = 1 ∧ (z = 75 ∨ z = 100 ∨ z = 150 ∨ z = 300)) ∨ (r = 0 ∧ z ≠ 75 ∧ z ≠ 100 ∧ z ≠ 150 ∧ z ≠ 300))) := by
  refine x_met (by decide) (Nat.le_of_ble_eq_true rfl) ?_
  intro p e s m below meth c hx hb hr hml hts hown hlocks hin hF0 A hA hP hD hK ls hl hS
  have hl : lv_has ls 1 [(0, .int (iI z))] := hl
  refine lv_iload_n hx hb d_RR_isResolution_0 rfl (lv_at hl 0 rfl) ?_
  refine xi_bipush hx hb d_RR_isResolution_1 (by decide) ?_
  refine xi_icmp_eq (tgt := 26) hx hb d_RR_isResolution_3 (by decide) ⟨by omega, by omega⟩ ⟨by decide, by decide⟩ (fun c_3 => ?_) (fun c_3 => ?_)
  ·
    refine xi_iconst hx hb d_RR_isResolution_26 ?_
    refine lv_goto (tgt := 31) hx hb d_RR_isResolution_27 (by decide) ?_
    exact x_zret hx hb hr hlocks hP hD hS (by decide) (by decide) rfl ⟨1, rfl, rfl, by omega⟩ d_RR_isResolution_31
  ·
    refine lv_iload_n hx hb d_RR_isResolution_6 rfl (lv_at hl 0 rfl) ?_
    refine xi_bipush hx hb d_RR_isResolution_7 (by decide) ?_
    refine xi_icmp_eq (tgt := 26) hx hb d_RR_isResolution_9 (by decide) ⟨by omega, by omega⟩ ⟨by decide, by decide⟩ (fun c_9 => ?_) (fun c_9 => ?_)
    ·
      refine xi_iconst hx hb d_RR_isResolution_26 ?_
      refine lv_goto (tgt := 31) hx hb d_RR_isResolution_27 (by decide) ?_
      exact x_zret hx hb hr hlocks hP hD hS (by decide) (by decide) rfl ⟨1, rfl, rfl, by omega⟩ d_RR_isResolution_31
    ·
      refine lv_iload_n hx hb d_RR_isResolution_12 rfl (lv_at hl 0 rfl) ?_
      refine xi_sipush hx hb d_RR_isResolution_13 (by decide) ?_
      refine xi_icmp_eq (tgt := 26) hx hb d_RR_isResolution_16 (by decide) ⟨by omega, by omega⟩ ⟨by decide, by decide⟩ (fun c_16 => ?_) (fun c_16 => ?_)
      ·
        refine xi_iconst hx hb d_RR_isResolution_26 ?_
        refine lv_goto (tgt := 31) hx hb d_RR_isResolution_27 (by decide) ?_
        exact x_zret hx hb hr hlocks hP hD hS (by decide) (by decide) rfl ⟨1, rfl, rfl, by omega⟩ d_RR_isResolution_31
      ·
        refine lv_iload_n hx hb d_RR_isResolution_19 rfl (lv_at hl 0 rfl) ?_
        refine xi_sipush hx hb d_RR_isResolution_20 (by decide) ?_
        refine xi_icmp_ne (tgt := 30) hx hb d_RR_isResolution_23 (by decide) ⟨by omega, by omega⟩ ⟨by decide, by decide⟩ (fun c_23 => ?_) (fun c_23 => ?_)
        ·
          refine xi_iconst hx hb d_RR_isResolution_30 ?_
          exact x_zret hx hb hr hlocks hP hD hS (by decide) (by decide) rfl ⟨0, rfl, rfl, by omega⟩ d_RR_isResolution_31
        ·
          refine xi_iconst hx hb d_RR_isResolution_26 ?_
          refine lv_goto (tgt := 31) hx hb d_RR_isResolution_27 (by decide) ?_
          exact x_zret hx hb hr hlocks hP hD hS (by decide) (by decide) rfl ⟨1, rfl, rfl, by omega⟩ d_RR_isResolution_31

theorem d_RR_isPlace_0 : decode b_RR_isPlace 0 = .ok (.iload_n 0, 1) := by decide +kernel
theorem d_RR_isPlace_1 : decode b_RR_isPlace 1 = .ok (.sipush (-10000), 3) := by decide +kernel
theorem d_RR_isPlace_4 : decode b_RR_isPlace 4 = .ok (.if_icmp .lt 14, 3) := by decide +kernel
theorem d_RR_isPlace_7 : decode b_RR_isPlace 7 = .ok (.iload_n 0, 1) := by decide +kernel
theorem d_RR_isPlace_8 : decode b_RR_isPlace 8 = .ok (.sipush 10000, 3) := by decide +kernel
theorem d_RR_isPlace_11 : decode b_RR_isPlace 11 = .ok (.if_icmp .gt 7, 3) := by decide +kernel
theorem d_RR_isPlace_14 : decode b_RR_isPlace 14 = .ok (.iconst 1, 1) := by decide +kernel
theorem d_RR_isPlace_15 : decode b_RR_isPlace 15 = .ok (.goto 4, 3) := by decide +kernel
theorem d_RR_isPlace_18 : decode b_RR_isPlace 18 = .ok (.iconst 0, 1) := by decide +kernel
theorem d_RR_isPlace_19 : decode b_RR_isPlace 19 = .ok (.ireturn, 1) := by decide +kernel
theorem ds_RR_isPlace : xDesc y_RR_isPlace 1 := by decide +kernel

abbrev rm_RR_isPlace : Room := { frames := 0, cells := 0, slots := 0, locals := 0 }
set_option maxHeartbeats 4000000 in
set_option maxRecDepth 100000 in
/-- isPlace -/
theorem c_RR_isPlace (l : Launch) (D : va_G) (cI cJ cQ : ClassId) (z : Int) (hz : inR z) : xMet l D (xT cI cJ cQ) y_RR_isPlace b_RR_isPlace 1 (some .boolean) rm_RR_isPlace [.int (iI z)] [] (fun v ws => ∃ (r : Int), v = some (.int (iI r)) ∧ ws = [] ∧ ((r = 1 ∧ -10000 ≤ z ∧ z ≤ 10000) ∨ (r = 0 ∧ (z < -10000 ∨ 10000 < z)))) := by
  refine x_met (by decide) (Nat.le_of_ble_eq_true rfl) ?_
  intro p e s m below meth c hx hb hr hml hts hown hlocks hin hF0 A hA hP hD hK ls hl hS
  have hl : lv_has ls 1 [(0, .int (iI z))] := hl
  refine lv_iload_n hx hb d_RR_isPlace_0 rfl (lv_at hl 0 rfl) ?_
  refine xi_sipush hx hb d_RR_isPlace_1 (by decide) ?_
  refine xi_icmp_lt (tgt := 18) hx hb d_RR_isPlace_4 (by decide) ⟨by omega, by omega⟩ ⟨by decide, by decide⟩ (fun c_4 => ?_) (fun c_4 => ?_)
  ·
    refine xi_iconst hx hb d_RR_isPlace_18 ?_
    exact x_zret hx hb hr hlocks hP hD hS (by decide) (by decide) rfl ⟨0, rfl, rfl, by omega⟩ d_RR_isPlace_19
  ·
    refine lv_iload_n hx hb d_RR_isPlace_7 rfl (lv_at hl 0 rfl) ?_
    refine xi_sipush hx hb d_RR_isPlace_8 (by decide) ?_
    refine xi_icmp_gt (tgt := 18) hx hb d_RR_isPlace_11 (by decide) ⟨by omega, by omega⟩ ⟨by decide, by decide⟩ (fun c_11 => ?_) (fun c_11 => ?_)
    ·
      refine xi_iconst hx hb d_RR_isPlace_18 ?_
      exact x_zret hx hb hr hlocks hP hD hS (by decide) (by decide) rfl ⟨0, rfl, rfl, by omega⟩ d_RR_isPlace_19
    ·
      refine xi_iconst hx hb d_RR_isPlace_14 ?_
      refine lv_goto (tgt := 19) hx hb d_RR_isPlace_15 (by decide) ?_
      exact x_zret hx hb hr hlocks hP hD hS (by decide) (by decide) rfl ⟨1, rfl, rfl, by omega⟩ d_RR_isPlace_19

theorem d_RR_scaleNow_0 : decode b_RR_scaleNow 0 = .ok (.aload_n 0, 1) := by decide +kernel
theorem d_RR_scaleNow_1 : decode b_RR_scaleNow 1 = .ok (.getfield 36, 3) := by decide +kernel
theorem d_RR_scaleNow_4 : decode b_RR_scaleNow 4 = .ok (.ifCond .le 26, 3) := by decide +kernel
theorem d_RR_scaleNow_7 : decode b_RR_scaleNow 7 = .ok (.aload_n 0, 1) := by decide +kernel
theorem d_RR_scaleNow_8 : decode b_RR_scaleNow 8 = .ok (.getfield 36, 3) := by decide +kernel
theorem d_RR_scaleNow_11 : decode b_RR_scaleNow 11 = .ok (.aload_n 0, 1) := by decide +kernel
theorem d_RR_scaleNow_12 : decode b_RR_scaleNow 12 = .ok (.getfield 7, 3) := by decide +kernel
theorem d_RR_scaleNow_15 : decode b_RR_scaleNow 15 = .ok (.if_icmp .ge 15, 3) := by decide +kernel
theorem d_RR_scaleNow_18 : decode b_RR_scaleNow 18 = .ok (.aload_n 0, 1) := by decide +kernel
theorem d_RR_scaleNow_19 : decode b_RR_scaleNow 19 = .ok (.getfield 7, 3) := by decide +kernel
theorem d_RR_scaleNow_22 : decode b_RR_scaleNow 22 = .ok (.aload_n 0, 1) := by decide +kernel
theorem d_RR_scaleNow_23 : decode b_RR_scaleNow 23 = .ok (.getfield 36, 3) := by decide +kernel
theorem d_RR_scaleNow_26 : decode b_RR_scaleNow 26 = .ok (.idiv, 1) := by decide +kernel
theorem d_RR_scaleNow_27 : decode b_RR_scaleNow 27 = .ok (.goto 4, 3) := by decide +kernel
theorem d_RR_scaleNow_30 : decode b_RR_scaleNow 30 = .ok (.iconst 1, 1) := by decide +kernel
theorem d_RR_scaleNow_31 : decode b_RR_scaleNow 31 = .ok (.ireturn, 1) := by decide +kernel
theorem ds_RR_scaleNow : xDesc y_RR_scaleNow 0 := by decide +kernel

abbrev rm_RR_scaleNow : Room := { frames := 0, cells := 0, slots := 0, locals := 0 }
set_option maxHeartbeats 4000000 in
set_option maxRecDepth 100000 in
/-- scaleNow -/
theorem c_RR_scaleNow (l : Launch) (D : va_G) (cI cJ cQ : ClassId) (o : Nat) (dp : Int) (rs : Int) (mt : Int) (nW : Int) (nH : Int) (hs : Nat) (h : Nat) (gp : Nat) (hdp : dp = 75 ∨ dp = 150 ∨ dp = 300) (hrs : rs = 75 ∨ rs = 100 ∨ rs = 150 ∨ rs = 300) : xMet l D (xT cI cJ cQ) y_RR_scaleNow b_RR_scaleNow 1 (some .int) rm_RR_scaleNow [.ref o] [(o, .inr (4, [.int (iI dp), .ref hs, .ref h, .ref gp, .int (iI rs), .int (iI mt), .int (iI nW), .int (iI nH)]))] (fun v ws => ∃ (r : Int), v = some (.int (iI r)) ∧ ws = [(o, .inr (4, [.int (iI dp), .ref hs, .ref h, .ref gp, .int (iI rs), .int (iI mt), .int (iI nW), .int (iI nH)]))] ∧ ((rs < dp ∧ r = dp / rs) ∨ (dp ≤ rs ∧ r = 1)) ∧ (1 ≤ r ∧ r ≤ 4)) := by
  refine x_met (by decide) (Nat.le_of_ble_eq_true rfl) ?_
  intro p e s m below meth c hx hb hr hml hts hown hlocks hin hF0 A hA hP hD hK ls hl hS
  have hl : lv_has ls 1 [(0, .ref o)] := hl
  refine lv_aload_n hx hb d_RR_scaleNow_0 rfl (lv_at hl 0 rfl) ?_
  refine va_get (D := D) (cl := xcl) (ci := 4) (v := .int (iI rs)) (C := R_RR) (T := T_RR) (N := 8) hx hb hts i_RR hown hK hP 0 rfl rfl 4 (by decide) (hts _ kw_145) (fun _ h9 => h9) rfl d_RR_scaleNow_1 ?_
  refine xi_if_le (tgt := 30) hx hb d_RR_scaleNow_4 (by decide) ⟨by omega, by omega⟩ (fun c_4 => ?_) (fun c_4 => ?_)
  ·
    refine xi_iconst hx hb d_RR_scaleNow_30 ?_
    exact x_iret hx hb hr hlocks hP hD hS (by decide) (by decide) ⟨1, rfl, rfl, by omega, by omega⟩ d_RR_scaleNow_31
  ·
    refine lv_aload_n hx hb d_RR_scaleNow_7 rfl (lv_at hl 0 rfl) ?_
    refine va_get (D := D) (cl := xcl) (ci := 4) (v := .int (iI rs)) (C := R_RR) (T := T_RR) (N := 8) hx hb hts i_RR hown hK hP 0 rfl rfl 4 (by decide) (hts _ kw_145) (fun _ h9 => h9) rfl d_RR_scaleNow_8 ?_
    refine lv_aload_n hx hb d_RR_scaleNow_11 rfl (lv_at hl 0 rfl) ?_
    refine va_get (D := D) (cl := xcl) (ci := 4) (v := .int (iI dp)) (C := R_RR) (T := T_RR) (N := 8) hx hb hts i_RR hown hK hP 0 rfl rfl 0 (by decide) (hts _ kw_141) (fun _ h9 => h9) rfl d_RR_scaleNow_12 ?_
    refine xi_icmp_ge (tgt := 30) hx hb d_RR_scaleNow_15 (by decide) ⟨by omega, by omega⟩ ⟨by omega, by omega⟩ (fun c_15 => ?_) (fun c_15 => ?_)
    ·
      refine xi_iconst hx hb d_RR_scaleNow_30 ?_
      exact x_iret hx hb hr hlocks hP hD hS (by decide) (by decide) ⟨1, rfl, rfl, by omega, by omega⟩ d_RR_scaleNow_31
    ·
      refine lv_aload_n hx hb d_RR_scaleNow_18 rfl (lv_at hl 0 rfl) ?_
      refine va_get (D := D) (cl := xcl) (ci := 4) (v := .int (iI dp)) (C := R_RR) (T := T_RR) (N := 8) hx hb hts i_RR hown hK hP 0 rfl rfl 0 (by decide) (hts _ kw_141) (fun _ h9 => h9) rfl d_RR_scaleNow_19 ?_
      refine lv_aload_n hx hb d_RR_scaleNow_22 rfl (lv_at hl 0 rfl) ?_
      refine va_get (D := D) (cl := xcl) (ci := 4) (v := .int (iI rs)) (C := R_RR) (T := T_RR) (N := 8) hx hb hts i_RR hown hK hP 0 rfl rfl 4 (by decide) (hts _ kw_145) (fun _ h9 => h9) rfl d_RR_scaleNow_23 ?_
      refine xi_idiv hx hb d_RR_scaleNow_26 ⟨by omega, by omega⟩ ⟨by omega, by omega⟩ ?_
      refine lv_goto (tgt := 31) hx hb d_RR_scaleNow_27 (by decide) ?_
      exact x_iret hx hb hr hlocks hP hD hS (by decide) (by decide) ⟨(dp / rs), rfl, rfl, by omega, by rcases hdp with rfl | rfl | rfl <;> rcases hrs with rfl | rfl | rfl | rfl <;> first | omega | decide⟩ d_RR_scaleNow_31

theorem d_RR_resolution_0 : decode b_RR_resolution 0 = .ok (.aload_n 0, 1) := by decide +kernel
theorem d_RR_resolution_1 : decode b_RR_resolution 1 = .ok (.getfield 25, 3) := by decide +kernel
theorem d_RR_resolution_4 : decode b_RR_resolution 4 = .ok (.getfield 48, 3) := by decide +kernel
theorem d_RR_resolution_7 : decode b_RR_resolution 7 = .ok (.ifCond .ne 10, 3) := by decide +kernel
theorem d_RR_resolution_10 : decode b_RR_resolution 10 = .ok (.iload_n 1, 1) := by decide +kernel
theorem d_RR_resolution_11 : decode b_RR_resolution 11 = .ok (.invokestatic 52, 3) := by decide +kernel
theorem d_RR_resolution_14 : decode b_RR_resolution 14 = .ok (.ifCond .ne 5, 3) := by decide +kernel
theorem d_RR_resolution_17 : decode b_RR_resolution 17 = .ok (.iconst 0, 1) := by decide +kernel
theorem d_RR_resolution_18 : decode b_RR_resolution 18 = .ok (.ireturn, 1) := by decide +kernel
theorem d_RR_resolution_19 : decode b_RR_resolution 19 = .ok (.aload_n 0, 1) := by decide +kernel
theorem d_RR_resolution_20 : decode b_RR_resolution 20 = .ok (.iload_n 1, 1) := by decide +kernel
theorem d_RR_resolution_21 : decode b_RR_resolution 21 = .ok (.putfield 36, 3) := by decide +kernel
theorem d_RR_resolution_24 : decode b_RR_resolution 24 = .ok (.iconst 1, 1) := by decide +kernel
theorem d_RR_resolution_25 : decode b_RR_resolution 25 = .ok (.ireturn, 1) := by decide +kernel
theorem ds_RR_resolution : xDesc y_RR_resolution 1 := by decide +kernel

abbrev rm_RR_resolution : Room := { frames := 1, cells := 0, slots := 0, locals := 20 }
set_option maxHeartbeats 4000000 in
set_option maxRecDepth 100000 in
/-- resolution -/
theorem c_RR_resolution (l : Launch) (D : va_G) (cI cJ cQ : ClassId) (o : Nat) (dp : Int) (rs : Int) (mt : Int) (nW : Int) (nH : Int) (hs : Nat) (h : Nat) (gp : Nat) (a : Nat) (B : Nat → Int) (op : Int) (x : Int) (y : Int) (sc : Int) (wd : Int) (ht : Int) (ln : Int) (rw : Int) (z : Int) (hop : op = 0 ∨ op = 1) (hz : inR z) : xMet l D (xT cI cJ cQ) y_RR_resolution b_RR_resolution 2 (some .boolean) rm_RR_resolution [.ref o, .int (iI z)] [(o, .inr (4, [.int (iI dp), .ref hs, .ref h, .ref gp, .int (iI rs), .int (iI mt), .int (iI nW), .int (iI nH)])), (h, .inr (2, [.ref a, .int (iI op), .int (iI x), .int (iI y), .int (iI sc), .int (iI wd), .int (iI ht), .int (iI ln), .int (iI rw)])), (a, .inl (cI, 640, .inl (iA B)))] (fun v ws => ∃ (r : Int) (rs2 : Int), v = some (.int (iI r)) ∧ ws = [(o, .inr (4, [.int (iI dp), .ref hs, .ref h, .ref gp, .int (iI rs2), .int (iI mt), .int (iI nW), .int (iI nH)])), (h, .inr (2, [.ref a, .int (iI op), .int (iI x), .int (iI y), .int (iI sc), .int (iI wd), .int (iI ht), .int (iI ln), .int (iI rw)])), (a, .inl (cI, 640, .inl (iA B)))] ∧ ((r = 1 ∧ op = 0 ∧ (z = 75 ∨ z = 100 ∨ z = 150 ∨ z = 300) ∧ rs2 = z) ∨ (r = 0 ∧ (op = 1 ∨ (z ≠ 75 ∧ z ≠ 100 ∧ z ≠ 150 ∧ z ≠ 300)) ∧ rs2 = rs))) := by
  refine x_met (by decide) (Nat.le_of_ble_eq_true rfl) ?_
  intro p e s m below meth c hx hb hr hml hts hown hlocks hin hF0 A hA hP hD hK ls hl hS
  have hl : lv_has ls 2 [(0, .ref o), (1, .int (iI z))] := hl
  refine lv_aload_n hx hb d_RR_resolution_0 rfl (lv_at hl 0 rfl) ?_
  refine va_get (D := D) (cl := xcl) (ci := 4) (v := .ref h) (C := R_RR) (T := T_RR) (N := 8) hx hb hts i_RR hown hK hP 0 rfl rfl 2 (by decide) (hts _ kw_143) (fun _ h9 => h9) rfl d_RR_resolution_1 ?_
  refine va_get (D := D) (cl := xcl) (ci := 2) (v := .int (iI op)) (C := R_Ra) (T := T_Ra) (N := 9) hx hb hts i_Ra hown hK hP 1 rfl rfl 1 (by decide) (hts _ kw_95) (fun _ h9 => h9) rfl d_RR_resolution_4 ?_
  refine xi_if_ne (tgt := 17) hx hb d_RR_resolution_7 (by decide) ⟨by omega, by omega⟩ (fun c_7 => ?_) (fun c_7 => ?_)
  ·
    refine xi_iconst hx hb d_RR_resolution_17 ?_
    exact x_zret hx hb hr hlocks hP hD hS (by decide) (by decide) rfl ⟨0, rs, rfl, rfl, by omega⟩ d_RR_resolution_18
  ·
    refine lv_iload_n hx hb d_RR_resolution_10 rfl (lv_at hl 1 rfl) ?_
    refine x_aft (x_runS (As := [.int (iI z)]) (rest := []) hx hb hml hown hts (c_RR_isResolution l D cI cJ cQ z (hz)) kw_170 kw_171 kw_1 kw_172 ds_RR_isResolution (by decide) hK (hP.sub (ws' := []) [] rfl) (hD.sub (ws' := []) [] (by decide) rfl) hl.1 rfl (Nat.le_of_ble_eq_true rfl) d_RR_resolution_11) hP hD hS hA [] [0, 1, 2] rfl (wr := [(o, .inr (4, [.int (iI dp), .ref hs, .ref h, .ref gp, .int (iI rs), .int (iI mt), .int (iI nW), .int (iI nH)])), (h, .inr (2, [.ref a, .int (iI op), .int (iI x), .int (iI y), .int (iI sc), .int (iI wd), .int (iI ht), .int (iI ln), .int (iI rw)])), (a, .inl (cI, 640, .inl (iA B)))]) rfl (by decide) (by decide) (fun v w1 H locs hq hP hD hS => ?_)
    obtain ⟨r_11, rfl, rfl, hr__11⟩ := hq
    refine W.cs (cells' := 0) (slots' := 0) rfl rfl ?_
    refine W.eq (g2 := F0 m 14 ls [.int (iI r_11)]) rfl ?_
    have hP : va_P D xcl [(o, .inr (4, [.int (iI dp), .ref hs, .ref h, .ref gp, .int (iI rs), .int (iI mt), .int (iI nW), .int (iI nH)])), (h, .inr (2, [.ref a, .int (iI op), .int (iI x), .int (iI y), .int (iI sc), .int (iI wd), .int (iI ht), .int (iI ln), .int (iI rw)])), (a, .inl (cI, 640, .inl (iA B)))] _ := hP
    have hD : va_D A [(o, .inr (4, [.int (iI dp), .ref hs, .ref h, .ref gp, .int (iI rs), .int (iI mt), .int (iI nW), .int (iI nH)])), (h, .inr (2, [.ref a, .int (iI op), .int (iI x), .int (iI y), .int (iI sc), .int (iI wd), .int (iI ht), .int (iI ln), .int (iI rw)])), (a, .inl (cI, 640, .inl (iA B)))] := hD
    refine xi_if_ne (tgt := 19) hx hb d_RR_resolution_14 (by decide) ⟨by omega, by omega⟩ (fun c_14 => ?_) (fun c_14 => ?_)
    ·
      refine lv_aload_n hx hb d_RR_resolution_19 rfl (lv_at hl 0 rfl) ?_
      refine lv_iload_n hx hb d_RR_resolution_20 rfl (lv_at hl 1 rfl) ?_
      refine va_put (D := D) (cl := xcl) (ci := 4) (v := .int (iI z)) (ty := .int) (C := R_RR) (T := T_RR) (N := 8) hx hb hts i_RR ty_RR ty_RR_ok nm_RR hown hK hP hD hS 0 rfl rfl 4 (by decide) (hts _ kw_145) (fun _ h9 => h9) rfl (by decide +kernel) rfl rfl (Nat.le_of_ble_eq_true rfl) d_RR_resolution_21 (fun H locs hP hD hS => ?_)
      have hP : va_P D xcl [(o, .inr (4, [.int (iI dp), .ref hs, .ref h, .ref gp, .int (iI z), .int (iI mt), .int (iI nW), .int (iI nH)])), (h, .inr (2, [.ref a, .int (iI op), .int (iI x), .int (iI y), .int (iI sc), .int (iI wd), .int (iI ht), .int (iI ln), .int (iI rw)])), (a, .inl (cI, 640, .inl (iA B)))] _ := hP
      have hD : va_D A [(o, .inr (4, [.int (iI dp), .ref hs, .ref h, .ref gp, .int (iI z), .int (iI mt), .int (iI nW), .int (iI nH)])), (h, .inr (2, [.ref a, .int (iI op), .int (iI x), .int (iI y), .int (iI sc), .int (iI wd), .int (iI ht), .int (iI ln), .int (iI rw)])), (a, .inl (cI, 640, .inl (iA B)))] := hD
      refine xi_iconst hx hb d_RR_resolution_24 ?_
      exact x_zret hx hb hr hlocks hP hD hS (by decide) (by decide) rfl ⟨1, z, rfl, rfl, by omega⟩ d_RR_resolution_25
    ·
      refine xi_iconst hx hb d_RR_resolution_17 ?_
      exact x_zret hx hb hr hlocks hP hD hS (by decide) (by decide) rfl ⟨0, rs, rfl, rfl, by omega⟩ d_RR_resolution_18

theorem d_RR_size_0 : decode b_RR_size 0 = .ok (.iload_n 2, 1) := by decide +kernel
theorem d_RR_size_1 : decode b_RR_size 1 = .ok (.ifCond .lt 10, 3) := by decide +kernel
theorem d_RR_size_4 : decode b_RR_size 4 = .ok (.iload_n 2, 1) := by decide +kernel
theorem d_RR_size_5 : decode b_RR_size 5 = .ok (.sipush 5119, 3) := by decide +kernel
theorem d_RR_size_8 : decode b_RR_size 8 = .ok (.if_icmp .le 5, 3) := by decide +kernel
theorem d_RR_size_11 : decode b_RR_size 11 = .ok (.iconst 0, 1) := by decide +kernel
theorem d_RR_size_12 : decode b_RR_size 12 = .ok (.ireturn, 1) := by decide +kernel
theorem d_RR_size_13 : decode b_RR_size 13 = .ok (.iload_n 1, 1) := by decide +kernel
theorem d_RR_size_14 : decode b_RR_size 14 = .ok (.ifCond .eq 11, 3) := by decide +kernel
theorem d_RR_size_17 : decode b_RR_size 17 = .ok (.aload_n 0, 1) := by decide +kernel
theorem d_RR_size_18 : decode b_RR_size 18 = .ok (.iload_n 2, 1) := by decide +kernel
theorem d_RR_size_19 : decode b_RR_size 19 = .ok (.putfield 45, 3) := by decide +kernel
theorem d_RR_size_22 : decode b_RR_size 22 = .ok (.goto 8, 3) := by decide +kernel
theorem d_RR_size_25 : decode b_RR_size 25 = .ok (.aload_n 0, 1) := by decide +kernel
theorem d_RR_size_26 : decode b_RR_size 26 = .ok (.iload_n 2, 1) := by decide +kernel
theorem d_RR_size_27 : decode b_RR_size 27 = .ok (.putfield 42, 3) := by decide +kernel
theorem d_RR_size_30 : decode b_RR_size 30 = .ok (.iconst 1, 1) := by decide +kernel
theorem d_RR_size_31 : decode b_RR_size 31 = .ok (.ireturn, 1) := by decide +kernel
theorem ds_RR_size : xDesc y_RR_size 2 := by decide +kernel

abbrev rm_RR_size : Room := { frames := 0, cells := 0, slots := 0, locals := 0 }
set_option maxHeartbeats 4000000 in
set_option maxRecDepth 100000 in
/-- size -/
theorem c_RR_size (l : Launch) (D : va_G) (cI cJ cQ : ClassId) (o : Nat) (dp : Int) (rs : Int) (mt : Int) (nW : Int) (nH : Int) (hs : Nat) (h : Nat) (gp : Nat) (hg : Int) (n : Int) (hhg : hg = 0 ∨ hg = 1) (hn : inR n) : xMet l D (xT cI cJ cQ) y_RR_size b_RR_size 3 (some .boolean) rm_RR_size [.ref o, .int (iI hg), .int (iI n)] [(o, .inr (4, [.int (iI dp), .ref hs, .ref h, .ref gp, .int (iI rs), .int (iI mt), .int (iI nW), .int (iI nH)]))] (fun v ws => ∃ (r : Int) (w2 : Int) (t2 : Int), v = some (.int (iI r)) ∧ ws = [(o, .inr (4, [.int (iI dp), .ref hs, .ref h, .ref gp, .int (iI rs), .int (iI mt), .int (iI w2), .int (iI t2)]))] ∧ ((r = 1 ∧ 0 ≤ n ∧ n ≤ 5119 ∧ ((hg = 1 ∧ w2 = nW ∧ t2 = n) ∨ (hg = 0 ∧ w2 = n ∧ t2 = nH))) ∨ (r = 0 ∧ (n < 0 ∨ 5119 < n) ∧ w2 = nW ∧ t2 = nH))) := by
  refine x_met (by decide) (Nat.le_of_ble_eq_true rfl) ?_
  intro p e s m below meth c hx hb hr hml hts hown hlocks hin hF0 A hA hP hD hK ls hl hS
  have hl : lv_has ls 3 [(0, .ref o), (1, .int (iI hg)), (2, .int (iI n))] := hl
  refine lv_iload_n hx hb d_RR_size_0 rfl (lv_at hl 2 rfl) ?_
  refine xi_if_lt (tgt := 11) hx hb d_RR_size_1 (by decide) ⟨by omega, by omega⟩ (fun c_1 => ?_) (fun c_1 => ?_)
  ·
    refine xi_iconst hx hb d_RR_size_11 ?_
    exact x_zret hx hb hr hlocks hP hD hS (by decide) (by decide) rfl ⟨0, nW, nH, rfl, rfl, by omega⟩ d_RR_size_12
  ·
    refine lv_iload_n hx hb d_RR_size_4 rfl (lv_at hl 2 rfl) ?_
    refine xi_sipush hx hb d_RR_size_5 (by decide) ?_
    refine xi_icmp_le (tgt := 13) hx hb d_RR_size_8 (by decide) ⟨by omega, by omega⟩ ⟨by decide, by decide⟩ (fun c_8 => ?_) (fun c_8 => ?_)
    ·
      refine lv_iload_n hx hb d_RR_size_13 rfl (lv_at hl 1 rfl) ?_
      refine xi_if_eq (tgt := 25) hx hb d_RR_size_14 (by decide) ⟨by omega, by omega⟩ (fun c_14 => ?_) (fun c_14 => ?_)
      ·
        refine lv_aload_n hx hb d_RR_size_25 rfl (lv_at hl 0 rfl) ?_
        refine lv_iload_n hx hb d_RR_size_26 rfl (lv_at hl 2 rfl) ?_
        refine va_put (D := D) (cl := xcl) (ci := 4) (v := .int (iI n)) (ty := .int) (C := R_RR) (T := T_RR) (N := 8) hx hb hts i_RR ty_RR ty_RR_ok nm_RR hown hK hP hD hS 0 rfl rfl 6 (by decide) (hts _ kw_147) (fun _ h9 => h9) rfl (by decide +kernel) rfl rfl (Nat.le_of_ble_eq_true rfl) d_RR_size_27 (fun H locs hP hD hS => ?_)
        have hP : va_P D xcl [(o, .inr (4, [.int (iI dp), .ref hs, .ref h, .ref gp, .int (iI rs), .int (iI mt), .int (iI n), .int (iI nH)]))] _ := hP
        have hD : va_D A [(o, .inr (4, [.int (iI dp), .ref hs, .ref h, .ref gp, .int (iI rs), .int (iI mt), .int (iI n), .int (iI nH)]))] := hD
        refine xi_iconst hx hb d_RR_size_30 ?_
        exact x_zret hx hb hr hlocks hP hD hS (by decide) (by decide) rfl ⟨1, n, nH, rfl, rfl, by omega⟩ d_RR_size_31
      ·
        refine lv_aload_n hx hb d_RR_size_17 rfl (lv_at hl 0 rfl) ?_
        refine lv_iload_n hx hb d_RR_size_18 rfl (lv_at hl 2 rfl) ?_
        refine va_put (D := D) (cl := xcl) (ci := 4) (v := .int (iI n)) (ty := .int) (C := R_RR) (T := T_RR) (N := 8) hx hb hts i_RR ty_RR ty_RR_ok nm_RR hown hK hP hD hS 0 rfl rfl 7 (by decide) (hts _ kw_148) (fun _ h9 => h9) rfl (by decide +kernel) rfl rfl (Nat.le_of_ble_eq_true rfl) d_RR_size_19 (fun H locs hP hD hS => ?_)
        have hP : va_P D xcl [(o, .inr (4, [.int (iI dp), .ref hs, .ref h, .ref gp, .int (iI rs), .int (iI mt), .int (iI nW), .int (iI n)]))] _ := hP
        have hD : va_D A [(o, .inr (4, [.int (iI dp), .ref hs, .ref h, .ref gp, .int (iI rs), .int (iI mt), .int (iI nW), .int (iI n)]))] := hD
        refine lv_goto (tgt := 30) hx hb d_RR_size_22 (by decide) ?_
        refine xi_iconst hx hb d_RR_size_30 ?_
        exact x_zret hx hb hr hlocks hP hD hS (by decide) (by decide) rfl ⟨1, nW, n, rfl, rfl, by omega⟩ d_RR_size_31
    ·
      refine xi_iconst hx hb d_RR_size_11 ?_
      exact x_zret hx hb hr hlocks hP hD hS (by decide) (by decide) rfl ⟨0, nW, nH, rfl, rfl, by omega⟩ d_RR_size_12

theorem d_RR_method_0 : decode b_RR_method 0 = .ok (.iload_n 1, 1) := by decide +kernel
theorem d_RR_method_1 : decode b_RR_method 1 = .ok (.ifCond .lt 8, 3) := by decide +kernel
theorem d_RR_method_4 : decode b_RR_method 4 = .ok (.iload_n 1, 1) := by decide +kernel
theorem d_RR_method_5 : decode b_RR_method 5 = .ok (.iconst 3, 1) := by decide +kernel
theorem d_RR_method_6 : decode b_RR_method 6 = .ok (.if_icmp .le 5, 3) := by decide +kernel
theorem d_RR_method_9 : decode b_RR_method 9 = .ok (.iconst 0, 1) := by decide +kernel
theorem d_RR_method_10 : decode b_RR_method 10 = .ok (.ireturn, 1) := by decide +kernel
theorem d_RR_method_11 : decode b_RR_method 11 = .ok (.aload_n 0, 1) := by decide +kernel
theorem d_RR_method_12 : decode b_RR_method 12 = .ok (.iload_n 1, 1) := by decide +kernel
theorem d_RR_method_13 : decode b_RR_method 13 = .ok (.putfield 39, 3) := by decide +kernel
theorem d_RR_method_16 : decode b_RR_method 16 = .ok (.iconst 1, 1) := by decide +kernel
theorem d_RR_method_17 : decode b_RR_method 17 = .ok (.ireturn, 1) := by decide +kernel
theorem ds_RR_method : xDesc y_RR_method 1 := by decide +kernel

abbrev rm_RR_method : Room := { frames := 0, cells := 0, slots := 0, locals := 0 }
set_option maxHeartbeats 4000000 in
set_option maxRecDepth 100000 in
/-- method -/
theorem c_RR_method (l : Launch) (D : va_G) (cI cJ cQ : ClassId) (o : Nat) (dp : Int) (rs : Int) (mt : Int) (nW : Int) (nH : Int) (hs : Nat) (h : Nat) (gp : Nat) (n : Int) (hn : inR n) : xMet l D (xT cI cJ cQ) y_RR_method b_RR_method 2 (some .boolean) rm_RR_method [.ref o, .int (iI n)] [(o, .inr (4, [.int (iI dp), .ref hs, .ref h, .ref gp, .int (iI rs), .int (iI mt), .int (iI nW), .int (iI nH)]))] (fun v ws => ∃ (r : Int) (m2 : Int), v = some (.int (iI r)) ∧ ws = [(o, .inr (4, [.int (iI dp), .ref hs, .ref h, .ref gp, .int (iI rs), .int (iI m2), .int (iI nW), .int (iI nH)]))] ∧ ((r = 1 ∧ 0 ≤ n ∧ n ≤ 3 ∧ m2 = n) ∨ (r = 0 ∧ (n < 0 ∨ 3 < n) ∧ m2 = mt))) := by
  refine x_met (by decide) (Nat.le_of_ble_eq_true rfl) ?_
  intro p e s m below meth c hx hb hr hml hts hown hlocks hin hF0 A hA hP hD hK ls hl hS
  have hl : lv_has ls 2 [(0, .ref o), (1, .int (iI n))] := hl
  refine lv_iload_n hx hb d_RR_method_0 rfl (lv_at hl 1 rfl) ?_
  refine xi_if_lt (tgt := 9) hx hb d_RR_method_1 (by decide) ⟨by omega, by omega⟩ (fun c_1 => ?_) (fun c_1 => ?_)
  ·
    refine xi_iconst hx hb d_RR_method_9 ?_
    exact x_zret hx hb hr hlocks hP hD hS (by decide) (by decide) rfl ⟨0, mt, rfl, rfl, by omega⟩ d_RR_method_10
  ·
    refine lv_iload_n hx hb d_RR_method_4 rfl (lv_at hl 1 rfl) ?_
    refine xi_iconst hx hb d_RR_method_5 ?_
    refine xi_icmp_le (tgt := 11) hx hb d_RR_method_6 (by decide) ⟨by omega, by omega⟩ ⟨by decide, by decide⟩ (fun c_6 => ?_) (fun c_6 => ?_)
    ·
      refine lv_aload_n hx hb d_RR_method_11 rfl (lv_at hl 0 rfl) ?_
      refine lv_iload_n hx hb d_RR_method_12 rfl (lv_at hl 1 rfl) ?_
      refine va_put (D := D) (cl := xcl) (ci := 4) (v := .int (iI n)) (ty := .int) (C := R_RR) (T := T_RR) (N := 8) hx hb hts i_RR ty_RR ty_RR_ok nm_RR hown hK hP hD hS 0 rfl rfl 5 (by decide) (hts _ kw_146) (fun _ h9 => h9) rfl (by decide +kernel) rfl rfl (Nat.le_of_ble_eq_true rfl) d_RR_method_13 (fun H locs hP hD hS => ?_)
      have hP : va_P D xcl [(o, .inr (4, [.int (iI dp), .ref hs, .ref h, .ref gp, .int (iI rs), .int (iI n), .int (iI nW), .int (iI nH)]))] _ := hP
      have hD : va_D A [(o, .inr (4, [.int (iI dp), .ref hs, .ref h, .ref gp, .int (iI rs), .int (iI n), .int (iI nW), .int (iI nH)]))] := hD
      refine xi_iconst hx hb d_RR_method_16 ?_
      exact x_zret hx hb hr hlocks hP hD hS (by decide) (by decide) rfl ⟨1, n, rfl, rfl, by omega⟩ d_RR_method_17
    ·
      refine xi_iconst hx hb d_RR_method_9 ?_
      exact x_zret hx hb hr hlocks hP hD hS (by decide) (by decide) rfl ⟨0, mt, rfl, rfl, by omega⟩ d_RR_method_10

theorem d_RR_open_0 : decode b_RR_open 0 = .ok (.aload_n 0, 1) := by decide +kernel
theorem d_RR_open_1 : decode b_RR_open 1 = .ok (.getfield 25, 3) := by decide +kernel
theorem d_RR_open_4 : decode b_RR_open 4 = .ok (.getfield 48, 3) := by decide +kernel
theorem d_RR_open_7 : decode b_RR_open 7 = .ok (.ifCond .ne 17, 3) := by decide +kernel
theorem d_RR_open_10 : decode b_RR_open 10 = .ok (.iload_n 1, 1) := by decide +kernel
theorem d_RR_open_11 : decode b_RR_open 11 = .ok (.invokestatic 56, 3) := by decide +kernel
theorem d_RR_open_14 : decode b_RR_open 14 = .ok (.ifCond .eq 10, 3) := by decide +kernel
theorem d_RR_open_17 : decode b_RR_open 17 = .ok (.iload_n 2, 1) := by decide +kernel
theorem d_RR_open_18 : decode b_RR_open 18 = .ok (.invokestatic 56, 3) := by decide +kernel
theorem d_RR_open_21 : decode b_RR_open 21 = .ok (.ifCond .ne 5, 3) := by decide +kernel
theorem d_RR_open_24 : decode b_RR_open 24 = .ok (.iconst 0, 1) := by decide +kernel
theorem d_RR_open_25 : decode b_RR_open 25 = .ok (.ireturn, 1) := by decide +kernel
theorem d_RR_open_26 : decode b_RR_open 26 = .ok (.aload_n 0, 1) := by decide +kernel
theorem d_RR_open_27 : decode b_RR_open 27 = .ok (.getfield 25, 3) := by decide +kernel
theorem d_RR_open_30 : decode b_RR_open 30 = .ok (.iload_n 1, 1) := by decide +kernel
theorem d_RR_open_31 : decode b_RR_open 31 = .ok (.iload_n 2, 1) := by decide +kernel
theorem d_RR_open_32 : decode b_RR_open 32 = .ok (.aload_n 0, 1) := by decide +kernel
theorem d_RR_open_33 : decode b_RR_open 33 = .ok (.invokevirtual 59, 3) := by decide +kernel
theorem d_RR_open_36 : decode b_RR_open 36 = .ok (.invokevirtual 63, 3) := by decide +kernel
theorem d_RR_open_39 : decode b_RR_open 39 = .ok (.aload_n 0, 1) := by decide +kernel
theorem d_RR_open_40 : decode b_RR_open 40 = .ok (.getfield 25, 3) := by decide +kernel
theorem d_RR_open_43 : decode b_RR_open 43 = .ok (.aload_n 0, 1) := by decide +kernel
theorem d_RR_open_44 : decode b_RR_open 44 = .ok (.getfield 42, 3) := by decide +kernel
theorem d_RR_open_47 : decode b_RR_open 47 = .ok (.aload_n 0, 1) := by decide +kernel
theorem d_RR_open_48 : decode b_RR_open 48 = .ok (.getfield 45, 3) := by decide +kernel
theorem d_RR_open_51 : decode b_RR_open 51 = .ok (.invokevirtual 67, 3) := by decide +kernel
theorem d_RR_open_54 : decode b_RR_open 54 = .ok (.iconst 1, 1) := by decide +kernel
theorem d_RR_open_55 : decode b_RR_open 55 = .ok (.ireturn, 1) := by decide +kernel
theorem ds_RR_open : xDesc y_RR_open 2 := by decide +kernel

abbrev rm_RR_open : Room := { frames := 3, cells := 0, slots := 0, locals := 66 }
set_option maxHeartbeats 4000000 in
set_option maxRecDepth 100000 in
/-- open -/
theorem c_RR_open (l : Launch) (D : va_G) (cI cJ cQ : ClassId) (o : Nat) (dp : Int) (rs : Int) (mt : Int) (nW : Int) (nH : Int) (hs : Nat) (h : Nat) (gp : Nat) (a : Nat) (B : Nat → Int) (op : Int) (x : Int) (y : Int) (sc : Int) (wd : Int) (ht : Int) (ln : Int) (rw : Int) (zx : Int) (zy : Int) (hop : op = 0 ∨ op = 1) (hdp : dp = 75 ∨ dp = 150 ∨ dp = 300) (hrs : rs = 75 ∨ rs = 100 ∨ rs = 150 ∨ rs = 300) (hnW : 0 ≤ nW ∧ nW ≤ 5119) (hnH : 0 ≤ nH ∧ nH ≤ 5119) (hzx : inR zx) (hzy : inR zy) : xMet l D (xT cI cJ cQ) y_RR_open b_RR_open 3 (some .boolean) rm_RR_open [.ref o, .int (iI zx), .int (iI zy)] [(o, .inr (4, [.int (iI dp), .ref hs, .ref h, .ref gp, .int (iI rs), .int (iI mt), .int (iI nW), .int (iI nH)])), (h, .inr (2, [.ref a, .int (iI op), .int (iI x), .int (iI y), .int (iI sc), .int (iI wd), .int (iI ht), .int (iI ln), .int (iI rw)])), (a, .inl (cI, 640, .inl (iA B)))] (fun v ws => ∃ (r : Int) (B2 : Nat → Int) (op2 : Int) (x2 : Int) (y2 : Int) (sc2 : Int) (wd2 : Int) (ht2 : Int) (ln2 : Int) (rw2 : Int), v = some (.int (iI r)) ∧ ws = [(o, .inr (4, [.int (iI dp), .ref hs, .ref h, .ref gp, .int (iI rs), .int (iI mt), .int (iI nW), .int (iI nH)])), (h, .inr (2, [.ref a, .int (iI op2), .int (iI x2), .int (iI y2), .int (iI sc2), .int (iI wd2), .int (iI ht2), .int (iI ln2), .int (iI rw2)])), (a, .inl (cI, 640, .inl (iA B2)))] ∧ ((r = 0 ∧ (op = 1 ∨ zx < -10000 ∨ 10000 < zx ∨ zy < -10000 ∨ 10000 < zy) ∧ B2 = B ∧ op2 = op ∧ x2 = x ∧ y2 = y ∧ sc2 = sc ∧ wd2 = wd ∧ ht2 = ht ∧ ln2 = ln ∧ rw2 = rw) ∨ (r = 1 ∧ op = 0 ∧ -10000 ≤ zx ∧ zx ≤ 10000 ∧ -10000 ≤ zy ∧ zy ≤ 10000 ∧ B2 = (fun _ => 0) ∧ op2 = 1 ∧ x2 = zx ∧ y2 = zy ∧ ((rs < dp ∧ sc2 = dp / rs) ∨ (dp ≤ rs ∧ sc2 = 1)) ∧ (1 ≤ sc2 ∧ sc2 ≤ 4) ∧ wd2 = nW ∧ ht2 = nH ∧ ((0 < nW ∧ ln2 = (nW + 7) / 8) ∨ (nW = 0 ∧ ln2 = 640)) ∧ rw2 = 0))) := by
  refine x_met (by decide) (Nat.le_of_ble_eq_true rfl) ?_
  intro p e s m below meth c hx hb hr hml hts hown hlocks hin hF0 A hA hP hD hK ls hl hS
  have hl : lv_has ls 3 [(0, .ref o), (1, .int (iI zx)), (2, .int (iI zy))] := hl
  refine lv_aload_n hx hb d_RR_open_0 rfl (lv_at hl 0 rfl) ?_
  refine va_get (D := D) (cl := xcl) (ci := 4) (v := .ref h) (C := R_RR) (T := T_RR) (N := 8) hx hb hts i_RR hown hK hP 0 rfl rfl 2 (by decide) (hts _ kw_143) (fun _ h9 => h9) rfl d_RR_open_1 ?_
  refine va_get (D := D) (cl := xcl) (ci := 2) (v := .int (iI op)) (C := R_Ra) (T := T_Ra) (N := 9) hx hb hts i_Ra hown hK hP 1 rfl rfl 1 (by decide) (hts _ kw_95) (fun _ h9 => h9) rfl d_RR_open_4 ?_
  refine xi_if_ne (tgt := 24) hx hb d_RR_open_7 (by decide) ⟨by omega, by omega⟩ (fun c_7 => ?_) (fun c_7 => ?_)
  ·
    refine xi_iconst hx hb d_RR_open_24 ?_
    exact x_zret hx hb hr hlocks hP hD hS (by decide) (by decide) rfl ⟨0, B, op, x, y, sc, wd, ht, ln, rw, rfl, rfl, Or.inl ⟨rfl, by omega, rfl, rfl, rfl, rfl, rfl, rfl, rfl, rfl, rfl⟩⟩ d_RR_open_25
  ·
    refine lv_iload_n hx hb d_RR_open_10 rfl (lv_at hl 1 rfl) ?_
    refine x_aft (x_runS (As := [.int (iI zx)]) (rest := []) hx hb hml hown hts (c_RR_isPlace l D cI cJ cQ zx (hzx)) kw_185 kw_186 kw_1 kw_187 ds_RR_isPlace (by decide) hK (hP.sub (ws' := []) [] rfl) (hD.sub (ws' := []) [] (by decide) rfl) hl.1 rfl (Nat.le_of_ble_eq_true rfl) d_RR_open_11) hP hD hS hA [] [0, 1, 2] rfl (wr := [(o, .inr (4, [.int (iI dp), .ref hs, .ref h, .ref gp, .int (iI rs), .int (iI mt), .int (iI nW), .int (iI nH)])), (h, .inr (2, [.ref a, .int (iI op), .int (iI x), .int (iI y), .int (iI sc), .int (iI wd), .int (iI ht), .int (iI ln), .int (iI rw)])), (a, .inl (cI, 640, .inl (iA B)))]) rfl (by decide) (by decide) (fun v w1 H locs hq hP hD hS => ?_)
    obtain ⟨r_11, rfl, rfl, hr__11⟩ := hq
    refine W.cs (cells' := 0) (slots' := 0) rfl rfl ?_
    refine W.eq (g2 := F0 m 14 ls [.int (iI r_11)]) rfl ?_
    have hP : va_P D xcl [(o, .inr (4, [.int (iI dp), .ref hs, .ref h, .ref gp, .int (iI rs), .int (iI mt), .int (iI nW), .int (iI nH)])), (h, .inr (2, [.ref a, .int (iI op), .int (iI x), .int (iI y), .int (iI sc), .int (iI wd), .int (iI ht), .int (iI ln), .int (iI rw)])), (a, .inl (cI, 640, .inl (iA B)))] _ := hP
    have hD : va_D A [(o, .inr (4, [.int (iI dp), .ref hs, .ref h, .ref gp, .int (iI rs), .int (iI mt), .int (iI nW), .int (iI nH)])), (h, .inr (2, [.ref a, .int (iI op), .int (iI x), .int (iI y), .int (iI sc), .int (iI wd), .int (iI ht), .int (iI ln), .int (iI rw)])), (a, .inl (cI, 640, .inl (iA B)))] := hD
    refine xi_if_eq (tgt := 24) hx hb d_RR_open_14 (by decide) ⟨by omega, by omega⟩ (fun c_14 => ?_) (fun c_14 => ?_)
    ·
      refine xi_iconst hx hb d_RR_open_24 ?_
      exact x_zret hx hb hr hlocks hP hD hS (by decide) (by decide) rfl ⟨0, B, op, x, y, sc, wd, ht, ln, rw, rfl, rfl, Or.inl ⟨rfl, by omega, rfl, rfl, rfl, rfl, rfl, rfl, rfl, rfl, rfl⟩⟩ d_RR_open_25
    ·
      refine lv_iload_n hx hb d_RR_open_17 rfl (lv_at hl 2 rfl) ?_
      refine x_aft (x_runS (As := [.int (iI zy)]) (rest := []) hx hb hml hown hts (c_RR_isPlace l D cI cJ cQ zy (hzy)) kw_185 kw_186 kw_1 kw_187 ds_RR_isPlace (by decide) hK (hP.sub (ws' := []) [] rfl) (hD.sub (ws' := []) [] (by decide) rfl) hl.1 rfl (Nat.le_of_ble_eq_true rfl) d_RR_open_18) hP hD hS hA [] [0, 1, 2] rfl (wr := [(o, .inr (4, [.int (iI dp), .ref hs, .ref h, .ref gp, .int (iI rs), .int (iI mt), .int (iI nW), .int (iI nH)])), (h, .inr (2, [.ref a, .int (iI op), .int (iI x), .int (iI y), .int (iI sc), .int (iI wd), .int (iI ht), .int (iI ln), .int (iI rw)])), (a, .inl (cI, 640, .inl (iA B)))]) rfl (by decide) (by decide) (fun v w1 H locs hq hP hD hS => ?_)
      obtain ⟨r_18, rfl, rfl, hr__18⟩ := hq
      refine W.cs (cells' := 0) (slots' := 0) rfl rfl ?_
      refine W.eq (g2 := F0 m 21 ls [.int (iI r_18)]) rfl ?_
      have hP : va_P D xcl [(o, .inr (4, [.int (iI dp), .ref hs, .ref h, .ref gp, .int (iI rs), .int (iI mt), .int (iI nW), .int (iI nH)])), (h, .inr (2, [.ref a, .int (iI op), .int (iI x), .int (iI y), .int (iI sc), .int (iI wd), .int (iI ht), .int (iI ln), .int (iI rw)])), (a, .inl (cI, 640, .inl (iA B)))] _ := hP
      have hD : va_D A [(o, .inr (4, [.int (iI dp), .ref hs, .ref h, .ref gp, .int (iI rs), .int (iI mt), .int (iI nW), .int (iI nH)])), (h, .inr (2, [.ref a, .int (iI op), .int (iI x), .int (iI y), .int (iI sc), .int (iI wd), .int (iI ht), .int (iI ln), .int (iI rw)])), (a, .inl (cI, 640, .inl (iA B)))] := hD
      refine xi_if_ne (tgt := 26) hx hb d_RR_open_21 (by decide) ⟨by omega, by omega⟩ (fun c_21 => ?_) (fun c_21 => ?_)
      ·
        refine lv_aload_n hx hb d_RR_open_26 rfl (lv_at hl 0 rfl) ?_
        refine va_get (D := D) (cl := xcl) (ci := 4) (v := .ref h) (C := R_RR) (T := T_RR) (N := 8) hx hb hts i_RR hown hK hP 0 rfl rfl 2 (by decide) (hts _ kw_143) (fun _ h9 => h9) rfl d_RR_open_27 ?_
        refine lv_iload_n hx hb d_RR_open_30 rfl (lv_at hl 1 rfl) ?_
        refine lv_iload_n hx hb d_RR_open_31 rfl (lv_at hl 2 rfl) ?_
        refine lv_aload_n hx hb d_RR_open_32 rfl (lv_at hl 0 rfl) ?_
        refine x_aft (x_runV (C := "RasterRows") (As := []) (rest := [.int (iI zy), .int (iI zx), .ref h]) (ci := 4) (q0 := 0) hx hb hml hown hts (c_RR_scaleNow l D cI cJ cQ o dp rs mt nW nH hs h gp (hdp) (hrs)) kw_188 kw_190 kp_0 kw_1 kw_191 ds_RR_scaleNow (by decide) hK (hP.sub (ws' := [(o, .inr (4, [.int (iI dp), .ref hs, .ref h, .ref gp, .int (iI rs), .int (iI mt), .int (iI nW), .int (iI nH)]))]) [0] rfl) (hD.sub (ws' := [(o, .inr (4, [.int (iI dp), .ref hs, .ref h, .ref gp, .int (iI rs), .int (iI mt), .int (iI nW), .int (iI nH)]))]) [0] (by decide) rfl) rfl rfl rfl hl.1 rfl (Nat.le_of_ble_eq_true rfl) d_RR_open_33) hP hD hS hA [0] [1, 2] rfl (wr := [(h, .inr (2, [.ref a, .int (iI op), .int (iI x), .int (iI y), .int (iI sc), .int (iI wd), .int (iI ht), .int (iI ln), .int (iI rw)])), (a, .inl (cI, 640, .inl (iA B)))]) rfl (by decide) (by decide) (fun v w1 H locs hq hP hD hS => ?_)
        obtain ⟨r_33, rfl, rfl, hr__33, hr2_33⟩ := hq
        refine W.cs (cells' := 0) (slots' := 0) rfl rfl ?_
        refine W.eq (g2 := F0 m 36 ls [.int (iI r_33), .int (iI zy), .int (iI zx), .ref h]) rfl ?_
        have hP : va_P D xcl [(h, .inr (2, [.ref a, .int (iI op), .int (iI x), .int (iI y), .int (iI sc), .int (iI wd), .int (iI ht), .int (iI ln), .int (iI rw)])), (a, .inl (cI, 640, .inl (iA B))), (o, .inr (4, [.int (iI dp), .ref hs, .ref h, .ref gp, .int (iI rs), .int (iI mt), .int (iI nW), .int (iI nH)]))] _ := hP
        have hD : va_D A [(h, .inr (2, [.ref a, .int (iI op), .int (iI x), .int (iI y), .int (iI sc), .int (iI wd), .int (iI ht), .int (iI ln), .int (iI rw)])), (a, .inl (cI, 640, .inl (iA B))), (o, .inr (4, [.int (iI dp), .ref hs, .ref h, .ref gp, .int (iI rs), .int (iI mt), .int (iI nW), .int (iI nH)]))] := hD
        refine x_aft (x_runV (C := "RasterRows$Raster") (As := [.int (iI zx), .int (iI zy), .int (iI r_33)]) (rest := []) (ci := 2) (q0 := 0) hx hb hml hown hts (c_Ra_begin l D cI cJ cQ h a B op x y sc wd ht ln rw zx zy r_33 ) kw_192 kw_193 kw_194 kw_5 kw_195 ds_Ra_begin (by decide) hK (hP.sub (ws' := [(h, .inr (2, [.ref a, .int (iI op), .int (iI x), .int (iI y), .int (iI sc), .int (iI wd), .int (iI ht), .int (iI ln), .int (iI rw)])), (a, .inl (cI, 640, .inl (iA B)))]) [0, 1] rfl) (hD.sub (ws' := [(h, .inr (2, [.ref a, .int (iI op), .int (iI x), .int (iI y), .int (iI sc), .int (iI wd), .int (iI ht), .int (iI ln), .int (iI rw)])), (a, .inl (cI, 640, .inl (iA B)))]) [0, 1] (by decide) rfl) rfl rfl rfl hl.1 rfl (Nat.le_of_ble_eq_true rfl) d_RR_open_36) hP hD hS hA [0, 1] [2] rfl (wr := [(o, .inr (4, [.int (iI dp), .ref hs, .ref h, .ref gp, .int (iI rs), .int (iI mt), .int (iI nW), .int (iI nH)]))]) rfl (by decide) (by decide) (fun v w1 H locs hq hP hD hS => ?_)
        obtain ⟨rfl, rfl⟩ := hq
        refine W.cs (cells' := 0) (slots' := 0) rfl rfl ?_
        refine W.eq (g2 := F0 m 39 ls []) rfl ?_
        have hP : va_P D xcl [(o, .inr (4, [.int (iI dp), .ref hs, .ref h, .ref gp, .int (iI rs), .int (iI mt), .int (iI nW), .int (iI nH)])), (h, .inr (2, [.ref a, .int (iI 1), .int (iI zx), .int (iI zy), .int (iI r_33), .int (iI wd), .int (iI ht), .int (iI ln), .int (iI 0)])), (a, .inl (cI, 640, .inl (iA (fun _ => 0))))] _ := hP
        have hD : va_D A [(o, .inr (4, [.int (iI dp), .ref hs, .ref h, .ref gp, .int (iI rs), .int (iI mt), .int (iI nW), .int (iI nH)])), (h, .inr (2, [.ref a, .int (iI 1), .int (iI zx), .int (iI zy), .int (iI r_33), .int (iI wd), .int (iI ht), .int (iI ln), .int (iI 0)])), (a, .inl (cI, 640, .inl (iA (fun _ => 0))))] := hD
        refine lv_aload_n hx hb d_RR_open_39 rfl (lv_at hl 0 rfl) ?_
        refine va_get (D := D) (cl := xcl) (ci := 4) (v := .ref h) (C := R_RR) (T := T_RR) (N := 8) hx hb hts i_RR hown hK hP 0 rfl rfl 2 (by decide) (hts _ kw_143) (fun _ h9 => h9) rfl d_RR_open_40 ?_
        refine lv_aload_n hx hb d_RR_open_43 rfl (lv_at hl 0 rfl) ?_
        refine va_get (D := D) (cl := xcl) (ci := 4) (v := .int (iI nW)) (C := R_RR) (T := T_RR) (N := 8) hx hb hts i_RR hown hK hP 0 rfl rfl 6 (by decide) (hts _ kw_147) (fun _ h9 => h9) rfl d_RR_open_44 ?_
        refine lv_aload_n hx hb d_RR_open_47 rfl (lv_at hl 0 rfl) ?_
        refine va_get (D := D) (cl := xcl) (ci := 4) (v := .int (iI nH)) (C := R_RR) (T := T_RR) (N := 8) hx hb hts i_RR hown hK hP 0 rfl rfl 7 (by decide) (hts _ kw_148) (fun _ h9 => h9) rfl d_RR_open_48 ?_
        refine x_aft (x_runV (C := "RasterRows$Raster") (As := [.int (iI nW), .int (iI nH)]) (rest := []) (ci := 2) (q0 := 0) hx hb hml hown hts (c_Ra_limit l D cI cJ cQ h a (fun _ => 0) 1 zx zy r_33 wd ht ln 0 nW nH (hnW)) kw_203 kw_204 kw_205 kw_5 kw_206 ds_Ra_limit (by decide) hK (hP.sub (ws' := [(h, .inr (2, [.ref a, .int (iI 1), .int (iI zx), .int (iI zy), .int (iI r_33), .int (iI wd), .int (iI ht), .int (iI ln), .int (iI 0)])), (a, .inl (cI, 640, .inl (iA (fun _ => 0))))]) [1, 2] rfl) (hD.sub (ws' := [(h, .inr (2, [.ref a, .int (iI 1), .int (iI zx), .int (iI zy), .int (iI r_33), .int (iI wd), .int (iI ht), .int (iI ln), .int (iI 0)])), (a, .inl (cI, 640, .inl (iA (fun _ => 0))))]) [1, 2] (by decide) rfl) rfl rfl rfl hl.1 rfl (Nat.le_of_ble_eq_true rfl) d_RR_open_51) hP hD hS hA [1, 2] [0] rfl (wr := [(o, .inr (4, [.int (iI dp), .ref hs, .ref h, .ref gp, .int (iI rs), .int (iI mt), .int (iI nW), .int (iI nH)]))]) rfl (by decide) (by decide) (fun v w1 H locs hq hP hD hS => ?_)
        obtain ⟨l2_51, rfl, rfl, hl2_51⟩ := hq
        refine W.cs (cells' := 0) (slots' := 0) rfl rfl ?_
        refine W.eq (g2 := F0 m 54 ls []) rfl ?_
        have hP : va_P D xcl [(o, .inr (4, [.int (iI dp), .ref hs, .ref h, .ref gp, .int (iI rs), .int (iI mt), .int (iI nW), .int (iI nH)])), (h, .inr (2, [.ref a, .int (iI 1), .int (iI zx), .int (iI zy), .int (iI r_33), .int (iI nW), .int (iI nH), .int (iI l2_51), .int (iI 0)])), (a, .inl (cI, 640, .inl (iA (fun _ => 0))))] _ := hP
        have hD : va_D A [(o, .inr (4, [.int (iI dp), .ref hs, .ref h, .ref gp, .int (iI rs), .int (iI mt), .int (iI nW), .int (iI nH)])), (h, .inr (2, [.ref a, .int (iI 1), .int (iI zx), .int (iI zy), .int (iI r_33), .int (iI nW), .int (iI nH), .int (iI l2_51), .int (iI 0)])), (a, .inl (cI, 640, .inl (iA (fun _ => 0))))] := hD
        refine xi_iconst hx hb d_RR_open_54 ?_
        exact x_zret hx hb hr hlocks hP hD hS (by decide) (by decide) rfl ⟨1, (fun _ => 0), 1, zx, zy, r_33, nW, nH, l2_51, 0, rfl, rfl, Or.inr ⟨rfl, by omega, by omega, by omega, by omega, by omega, rfl, rfl, rfl, rfl, hr__33, hr2_33, rfl, rfl, hl2_51, rfl⟩⟩ d_RR_open_55
      ·
        refine xi_iconst hx hb d_RR_open_24 ?_
        exact x_zret hx hb hr hlocks hP hD hS (by decide) (by decide) rfl ⟨0, B, op, x, y, sc, wd, ht, ln, rw, rfl, rfl, Or.inl ⟨rfl, by omega, rfl, rfl, rfl, rfl, rfl, rfl, rfl, rfl, rfl⟩⟩ d_RR_open_25

theorem d_RR_data_0 : decode b_RR_data 0 = .ok (.iload_n 3, 1) := by decide +kernel
theorem d_RR_data_1 : decode b_RR_data 1 = .ok (.iconst 1, 1) := by decide +kernel
theorem d_RR_data_2 : decode b_RR_data 2 = .ok (.if_icmp .lt 20, 3) := by decide +kernel
theorem d_RR_data_5 : decode b_RR_data 5 = .ok (.iload_n 3, 1) := by decide +kernel
theorem d_RR_data_6 : decode b_RR_data 6 = .ok (.bipush 8, 2) := by decide +kernel
theorem d_RR_data_8 : decode b_RR_data 8 = .ok (.if_icmp .gt 14, 3) := by decide +kernel
theorem d_RR_data_11 : decode b_RR_data 11 = .ok (.aload_n 0, 1) := by decide +kernel
theorem d_RR_data_12 : decode b_RR_data 12 = .ok (.getfield 32, 3) := by decide +kernel
theorem d_RR_data_15 : decode b_RR_data 15 = .ok (.iload_n 3, 1) := by decide +kernel
theorem d_RR_data_16 : decode b_RR_data 16 = .ok (.invokevirtual 70, 3) := by decide +kernel
theorem d_RR_data_19 : decode b_RR_data 19 = .ok (.ifCond .ne 5, 3) := by decide +kernel
theorem d_RR_data_22 : decode b_RR_data 22 = .ok (.iconst 0, 1) := by decide +kernel
theorem d_RR_data_23 : decode b_RR_data 23 = .ok (.ireturn, 1) := by decide +kernel
theorem d_RR_data_24 : decode b_RR_data 24 = .ok (.iload_n 3, 1) := by decide +kernel
theorem d_RR_data_25 : decode b_RR_data 25 = .ok (.iconst 1, 1) := by decide +kernel
theorem d_RR_data_26 : decode b_RR_data 26 = .ok (.isub, 1) := by decide +kernel
theorem d_RR_data_27 : decode b_RR_data 27 = .ok (.istore 4, 2) := by decide +kernel
theorem d_RR_data_29 : decode b_RR_data 29 = .ok (.iload 4, 2) := by decide +kernel
theorem d_RR_data_31 : decode b_RR_data 31 = .ok (.ifCond .lt 28, 3) := by decide +kernel
theorem d_RR_data_34 : decode b_RR_data 34 = .ok (.aload_n 0, 1) := by decide +kernel
theorem d_RR_data_35 : decode b_RR_data 35 = .ok (.getfield 32, 3) := by decide +kernel
theorem d_RR_data_38 : decode b_RR_data 38 = .ok (.lload_n 1, 1) := by decide +kernel
theorem d_RR_data_39 : decode b_RR_data 39 = .ok (.bipush 8, 2) := by decide +kernel
theorem d_RR_data_41 : decode b_RR_data 41 = .ok (.iload 4, 2) := by decide +kernel
theorem d_RR_data_43 : decode b_RR_data 43 = .ok (.imul, 1) := by decide +kernel
theorem d_RR_data_44 : decode b_RR_data 44 = .ok (.lushr, 1) := by decide +kernel
theorem d_RR_data_45 : decode b_RR_data 45 = .ok (.l2i, 1) := by decide +kernel
theorem d_RR_data_46 : decode b_RR_data 46 = .ok (.sipush 255, 3) := by decide +kernel
theorem d_RR_data_49 : decode b_RR_data 49 = .ok (.iand, 1) := by decide +kernel
theorem d_RR_data_50 : decode b_RR_data 50 = .ok (.invokevirtual 73, 3) := by decide +kernel
theorem d_RR_data_53 : decode b_RR_data 53 = .ok (.iinc 4 (-1), 3) := by decide +kernel
theorem d_RR_data_56 : decode b_RR_data 56 = .ok (.goto (-27), 3) := by decide +kernel
theorem d_RR_data_59 : decode b_RR_data 59 = .ok (.iconst 1, 1) := by decide +kernel
theorem d_RR_data_60 : decode b_RR_data 60 = .ok (.ireturn, 1) := by decide +kernel
theorem ds_RR_data : xDesc y_RR_data 2 := by decide +kernel

abbrev rm_RR_data : Room := { frames := 1, cells := 0, slots := 0, locals := 21 }
set_option maxHeartbeats 4000000 in
set_option maxRecDepth 100000 in
/-- data -/
theorem c_RR_data (l : Launch) (D : va_G) (cI cJ cQ : ClassId) (o : Nat) (dp : Int) (rs : Int) (mt : Int) (nW : Int) (nH : Int) (hs : Nat) (h : Nat) (gp : Nat) (bp : Nat) (P : Nat → Int) (ct : Int) (w : Int64) (n : Int) (hct : 0 ≤ ct ∧ ct ≤ 4096) (hn : inR n) : xMet l D (xT cI cJ cQ) y_RR_data b_RR_data 5 (some .boolean) rm_RR_data [.ref o, .long w, .int (iI n)] [(o, .inr (4, [.int (iI dp), .ref hs, .ref h, .ref gp, .int (iI rs), .int (iI mt), .int (iI nW), .int (iI nH)])), (gp, .inr (1, [.ref bp, .int (iI ct)])), (bp, .inl (cI, 4096, .inl (iA P)))] (fun v ws => ∃ (r : Int) (P2 : Nat → Int) (ct2 : Int), v = some (.int (iI r)) ∧ ws = [(o, .inr (4, [.int (iI dp), .ref hs, .ref h, .ref gp, .int (iI rs), .int (iI mt), .int (iI nW), .int (iI nH)])), (gp, .inr (1, [.ref bp, .int (iI ct2)])), (bp, .inl (cI, 4096, .inl (iA P2)))] ∧ ((r = 0 ∧ (n < 1 ∨ 8 < n ∨ 4096 < ct + n) ∧ P2 = P ∧ ct2 = ct) ∨ (r = 1 ∧ 1 ≤ n ∧ n ≤ 8 ∧ ct + n ≤ 4096 ∧ P2 = dataS w n.toNat P ct ∧ ct2 = ct + n))) := by
  refine x_met (by decide) (Nat.le_of_ble_eq_true rfl) ?_
  intro p e s m below meth c hx hb hr hml hts hown hlocks hin hF0 A hA hP hD hK ls hl hS
  have hl : lv_has ls 5 [(0, .ref o), (1, .long w), (3, .int (iI n))] := hl
  refine lv_iload_n hx hb d_RR_data_0 rfl (lv_at hl 2 rfl) ?_
  refine xi_iconst hx hb d_RR_data_1 ?_
  refine xi_icmp_lt (tgt := 22) hx hb d_RR_data_2 (by decide) ⟨by omega, by omega⟩ ⟨by decide, by decide⟩ (fun c_2 => ?_) (fun c_2 => ?_)
  ·
    refine xi_iconst hx hb d_RR_data_22 ?_
    exact x_zret hx hb hr hlocks hP hD hS (by decide) (by decide) rfl ⟨0, P, ct, rfl, rfl, Or.inl ⟨rfl, by omega, rfl, rfl⟩⟩ d_RR_data_23
  ·
    refine lv_iload_n hx hb d_RR_data_5 rfl (lv_at hl 2 rfl) ?_
    refine xi_bipush hx hb d_RR_data_6 (by decide) ?_
    refine xi_icmp_gt (tgt := 22) hx hb d_RR_data_8 (by decide) ⟨by omega, by omega⟩ ⟨by decide, by decide⟩ (fun c_8 => ?_) (fun c_8 => ?_)
    ·
      refine xi_iconst hx hb d_RR_data_22 ?_
      exact x_zret hx hb hr hlocks hP hD hS (by decide) (by decide) rfl ⟨0, P, ct, rfl, rfl, Or.inl ⟨rfl, by omega, rfl, rfl⟩⟩ d_RR_data_23
    ·
      refine lv_aload_n hx hb d_RR_data_11 rfl (lv_at hl 0 rfl) ?_
      refine va_get (D := D) (cl := xcl) (ci := 4) (v := .ref gp) (C := R_RR) (T := T_RR) (N := 8) hx hb hts i_RR hown hK hP 0 rfl rfl 3 (by decide) (hts _ kw_144) (fun _ h9 => h9) rfl d_RR_data_12 ?_
      refine lv_iload_n hx hb d_RR_data_15 rfl (lv_at hl 2 rfl) ?_
      refine x_aft (x_runV (C := "RasterRows$Packed") (As := [.int (iI n)]) (rest := []) (ci := 1) (q0 := 0) hx hb hml hown hts (c_Pk_hasRoomFor l D cI cJ cQ gp bp P ct n (hct) (hn)) kw_212 kw_213 kw_214 kw_6 kw_215 ds_Pk_hasRoomFor (by decide) hK (hP.sub (ws' := [(gp, .inr (1, [.ref bp, .int (iI ct)])), (bp, .inl (cI, 4096, .inl (iA P)))]) [1, 2] rfl) (hD.sub (ws' := [(gp, .inr (1, [.ref bp, .int (iI ct)])), (bp, .inl (cI, 4096, .inl (iA P)))]) [1, 2] (by decide) rfl) rfl rfl rfl hl.1 rfl (Nat.le_of_ble_eq_true rfl) d_RR_data_16) hP hD hS hA [1, 2] [0] rfl (wr := [(o, .inr (4, [.int (iI dp), .ref hs, .ref h, .ref gp, .int (iI rs), .int (iI mt), .int (iI nW), .int (iI nH)]))]) rfl (by decide) (by decide) (fun v w1 H locs hq hP hD hS => ?_)
      obtain ⟨r_16, rfl, rfl, hr_16⟩ := hq
      refine W.cs (cells' := 0) (slots' := 0) rfl rfl ?_
      refine W.eq (g2 := F0 m 19 ls [.int (iI r_16)]) rfl ?_
      have hP : va_P D xcl [(o, .inr (4, [.int (iI dp), .ref hs, .ref h, .ref gp, .int (iI rs), .int (iI mt), .int (iI nW), .int (iI nH)])), (gp, .inr (1, [.ref bp, .int (iI ct)])), (bp, .inl (cI, 4096, .inl (iA P)))] _ := hP
      have hD : va_D A [(o, .inr (4, [.int (iI dp), .ref hs, .ref h, .ref gp, .int (iI rs), .int (iI mt), .int (iI nW), .int (iI nH)])), (gp, .inr (1, [.ref bp, .int (iI ct)])), (bp, .inl (cI, 4096, .inl (iA P)))] := hD
      refine xi_if_ne (tgt := 24) hx hb d_RR_data_19 (by decide) ⟨by omega, by omega⟩ (fun c_19 => ?_) (fun c_19 => ?_)
      ·
        refine lv_iload_n hx hb d_RR_data_24 rfl (lv_at hl 2 rfl) ?_
        refine xi_iconst hx hb d_RR_data_25 ?_
        refine xi_isub hx hb d_RR_data_26 ?_
        refine lv_istore (lv' := [(4, .int (iI (n - 1))), (0, .ref o), (1, .long w), (3, .int (iI n))]) hx hb d_RR_data_27 hl (by decide) rfl (fun ls hl => ?_)
        refine x_loop3 (fun (i : Int) (P1 : Nat → Int) (c1 : Int) H locs ls => (-1 ≤ i ∧ i < n) ∧ (c1 = ct + (n - 1 - i)) ∧ (dataS w (i + 1).toNat P1 c1 = dataS w n.toNat P ct) ∧ va_P D xcl [(o, .inr (4, [.int (iI dp), .ref hs, .ref h, .ref gp, .int (iI rs), .int (iI mt), .int (iI nW), .int (iI nH)])), (gp, .inr (1, [.ref bp, .int (iI c1)])), (bp, .inl (cI, 4096, .inl (iA P1)))] H ∧ va_D A [(o, .inr (4, [.int (iI dp), .ref hs, .ref h, .ref gp, .int (iI rs), .int (iI mt), .int (iI nW), .int (iI nH)])), (gp, .inr (1, [.ref bp, .int (iI c1)])), (bp, .inl (cI, 4096, .inl (iA P1)))] ∧ va_S A s.heap H locs ∧ lv_has ls 5 [(4, .int (iI i)), (0, .ref o), (1, .long w), (3, .int (iI n))]) (fun (i : Int) (P1 : Nat → Int) (c1 : Int) => (i + 1).toNat) (n - 1) P ct ⟨by omega, by omega, by rw [show n - 1 + 1 = n by omega], hP, hD, hS, hl⟩ ?_
        intro i P1 c1 H locs ls hI ih_29
        obtain ⟨k1, k2, k3, hP, hD, hS, hl⟩ := hI
        refine lv_iload hx hb d_RR_data_29 (lv_at hl 0 rfl) ?_
        refine xi_if_lt (tgt := 59) hx hb d_RR_data_31 (by decide) ⟨by omega, by omega⟩ (fun c_31 => ?_) (fun c_31 => ?_)
        ·
          refine xi_iconst hx hb d_RR_data_59 ?_
          exact x_zret hx hb hr hlocks hP hD hS (by decide) (by decide) rfl ⟨1, P1, c1, rfl, rfl, Or.inr ⟨rfl, by omega, by omega, by omega, by rw [← k3, show (i + 1).toNat = 0 by omega]; rfl, by omega⟩⟩ d_RR_data_60
        ·
          refine lv_aload_n hx hb d_RR_data_34 rfl (lv_at hl 1 rfl) ?_
          refine va_get (D := D) (cl := xcl) (ci := 4) (v := .ref gp) (C := R_RR) (T := T_RR) (N := 8) hx hb hts i_RR hown hK hP 0 rfl rfl 3 (by decide) (hts _ kw_144) (fun _ h9 => h9) rfl d_RR_data_35 ?_
          refine lv_lload_n hx hb d_RR_data_38 rfl (lv_at hl 2 rfl) ?_
          refine xi_bipush hx hb d_RR_data_39 (by decide) ?_
          refine lv_iload hx hb d_RR_data_41 (lv_at hl 0 rfl) ?_
          refine xi_imul hx hb d_RR_data_43 ?_
          refine lv_lushr (v := lN (wN w / 2 ^ (8 * i).toNat)) hx hb d_RR_data_44 (us_w w (by omega) (by omega)) ?_
          refine lv_l2i (v := iI ((wN w / 2 ^ (8 * i).toNat : Nat) : Int)) hx hb d_RR_data_45 (by rw [lN_i, iI_nat]) ?_
          refine xi_sipush hx hb d_RR_data_46 (by decide) ?_
          refine xk_iand (v := iI (byt w i)) hx hb d_RR_data_49 (iI_and255 _) ?_
          refine x_aft (x_runV (C := "RasterRows$Packed") (As := [.int (iI (byt w i))]) (rest := []) (ci := 1) (q0 := 0) hx hb hml hown hts (c_Pk_add l D cI cJ cQ gp bp P1 c1 (byt w i) (by omega)) kw_216 kw_217 kw_218 kw_6 kw_219 ds_Pk_add (by decide) hK (hP.sub (ws' := [(gp, .inr (1, [.ref bp, .int (iI c1)])), (bp, .inl (cI, 4096, .inl (iA P1)))]) [1, 2] rfl) (hD.sub (ws' := [(gp, .inr (1, [.ref bp, .int (iI c1)])), (bp, .inl (cI, 4096, .inl (iA P1)))]) [1, 2] (by decide) rfl) rfl rfl rfl hl.1 rfl (Nat.le_of_ble_eq_true rfl) d_RR_data_50) hP hD hS hA [1, 2] [0] rfl (wr := [(o, .inr (4, [.int (iI dp), .ref hs, .ref h, .ref gp, .int (iI rs), .int (iI mt), .int (iI nW), .int (iI nH)]))]) rfl (by decide) (by decide) (fun v w1 H locs hq hP hD hS => ?_)
          obtain ⟨rfl, rfl⟩ := hq
          refine W.cs (cells' := 0) (slots' := 0) rfl rfl ?_
          refine W.eq (g2 := F0 m 53 ls []) rfl ?_
          have hP : va_P D xcl [(o, .inr (4, [.int (iI dp), .ref hs, .ref h, .ref gp, .int (iI rs), .int (iI mt), .int (iI nW), .int (iI nH)])), (gp, .inr (1, [.ref bp, .int (iI (c1 + 1))])), (bp, .inl (cI, 4096, .inl (iA (va_up P1 c1.toNat (byt w i)))))] _ := hP
          have hD : va_D A [(o, .inr (4, [.int (iI dp), .ref hs, .ref h, .ref gp, .int (iI rs), .int (iI mt), .int (iI nW), .int (iI nH)])), (gp, .inr (1, [.ref bp, .int (iI (c1 + 1))])), (bp, .inl (cI, 4096, .inl (iA (va_up P1 c1.toNat (byt w i)))))] := hD
          refine xi_iinc (lv' := [(4, .int (iI (i + (-1)))), (0, .ref o), (1, .long w), (3, .int (iI n))]) hx hb d_RR_data_53 hl (k := 0) rfl (by decide) rfl (fun ls hl => ?_)
          refine lv_goto (tgt := 29) hx hb d_RR_data_56 (by decide) ?_
          exact ih_29 (i + (-1)) (va_up P1 c1.toNat (byt w i)) (c1 + 1) _ _ _ (by omega) ⟨by omega, by omega, by rw [← k3, dataS_go w c_31, show i + -1 + 1 = i by omega], hP, hD, hS, hl⟩
      ·
        refine xi_iconst hx hb d_RR_data_22 ?_
        exact x_zret hx hb hr hlocks hP hD hS (by decide) (by decide) rfl ⟨0, P, ct, rfl, rfl, Or.inl ⟨rfl, by omega, rfl, rfl⟩⟩ d_RR_data_23

theorem d_RR_eject_0 : decode b_RR_eject 0 = .ok (.aload_n 0, 1) := by decide +kernel
theorem d_RR_eject_1 : decode b_RR_eject 1 = .ok (.getfield 18, 3) := by decide +kernel
theorem d_RR_eject_4 : decode b_RR_eject 4 = .ok (.invokevirtual 119, 3) := by decide +kernel
theorem d_RR_eject_7 : decode b_RR_eject 7 = .ok (.return_, 1) := by decide +kernel
theorem ds_RR_eject : xDesc y_RR_eject 0 := by decide +kernel

abbrev rm_RR_eject : Room := { frames := 3, cells := 0, slots := 0, locals := 65 }
set_option maxHeartbeats 4000000 in
set_option maxRecDepth 100000 in
/-- eject -/
theorem c_RR_eject (l : Launch) (D : va_G) (cI cJ cQ : ClassId) (o : Nat) (dp : Int) (rs : Int) (mt : Int) (nW : Int) (nH : Int) (h : Nat) (gp : Nat) (hs : Nat) (la : Nat) (st : Nat) (sw : Nat) (ac : Int) (dI : Int) (dn : Nat) (nw : Nat) (g : Nat → Option Nat) (sf : Nat → Int64) (kr : Int) (kb : Int) (ov : Int) (bd : Int) (pl : va_W) (Wd : Nat → Nat → Int64) (hac : 1 ≤ ac ∧ ac ≤ 5100) (hdn : dI = (dn : Int) ∧ dn ≤ 5100) (hnw : (nw : Int) = (ac + 63) / 64) (hL : LOK cJ ac nw dn g pl Wd) : xMet l D (xT cI cJ cQ) y_RR_eject b_RR_eject 1 none rm_RR_eject [.ref o] ([(o, .inr (4, [.int (iI dp), .ref hs, .ref h, .ref gp, .int (iI rs), .int (iI mt), .int (iI nW), .int (iI nH)])), (hs, .inr (3, [.int (iI ac), .int (iI dI), .ref la, .ref st, .int (iI kr), .int (iI kb), .int (iI ov), .int (iI bd)])), (la, .inl (cQ, dn, .inr (.inr (.inr (.inr g))))), (st, .inr (0, [.int (iI ac), .ref sw])), (sw, .inl (cJ, nw, .inr (.inl sf)))] ++ pl) (fun v ws => ∃ (pl2 : va_W), v = none ∧ ws = ([(o, .inr (4, [.int (iI dp), .ref hs, .ref h, .ref gp, .int (iI rs), .int (iI mt), .int (iI nW), .int (iI nH)])), (hs, .inr (3, [.int (iI ac), .int (iI dI), .ref la, .ref st, .int (iI 0), .int (iI 0), .int (iI 0), .int (iI 0)])), (la, .inl (cQ, dn, .inr (.inr (.inr (.inr g))))), (st, .inr (0, [.int (iI ac), .ref sw])), (sw, .inl (cJ, nw, .inr (.inl sf)))] ++ pl2) ∧ (LOK cJ ac nw dn g pl2 (fun _ _ => 0))) := by
  refine x_met (by decide) (Nat.le_of_ble_eq_true rfl) ?_
  intro p e s m below meth c hx hb hr hml hts hown hlocks hin hF0 A hA hP hD hK ls hl hS
  have hl : lv_has ls 1 [(0, .ref o)] := hl
  refine lv_aload_n hx hb d_RR_eject_0 rfl (lv_at hl 0 rfl) ?_
  refine va_get (D := D) (cl := xcl) (ci := 4) (v := .ref hs) (C := R_RR) (T := T_RR) (N := 8) hx hb hts i_RR hown hK hP 0 rfl rfl 1 (by decide) (hts _ kw_142) (fun _ h9 => h9) rfl d_RR_eject_1 ?_
  refine x_aftP (X := [(o, .inr (4, [.int (iI dp), .ref hs, .ref h, .ref gp, .int (iI rs), .int (iI mt), .int (iI nW), .int (iI nH)])), (hs, .inr (3, [.int (iI ac), .int (iI dI), .ref la, .ref st, .int (iI kr), .int (iI kb), .int (iI ov), .int (iI bd)])), (la, .inl (cQ, dn, .inr (.inr (.inr (.inr g))))), (st, .inr (0, [.int (iI ac), .ref sw])), (sw, .inl (cJ, nw, .inr (.inl sf)))]) (pl := pl) (cx := [(hs, .inr (3, [.int (iI ac), .int (iI dI), .ref la, .ref st, .int (iI kr), .int (iI kb), .int (iI ov), .int (iI bd)])), (la, .inl (cQ, dn, .inr (.inr (.inr (.inr g))))), (st, .inr (0, [.int (iI ac), .ref sw])), (sw, .inl (cJ, nw, .inr (.inl sf)))]) (x_runV (C := "RasterRows$Sheet") (As := []) (rest := []) (ci := 3) (q0 := 0) hx hb hml hown hts (c_Sh_whiten l D cI cJ cQ hs la st sw ac dI dn nw g sf kr kb ov bd pl Wd (hac) (hdn) (hnw) (hL)) kw_224 kw_225 kw_226 kw_2 kw_227 ds_Sh_whiten (by decide) hK (hP.part (cx := [(hs, .inr (3, [.int (iI ac), .int (iI dI), .ref la, .ref st, .int (iI kr), .int (iI kb), .int (iI ov), .int (iI bd)])), (la, .inl (cQ, dn, .inr (.inr (.inr (.inr g))))), (st, .inr (0, [.int (iI ac), .ref sw])), (sw, .inl (cJ, nw, .inr (.inl sf)))]) [1, 2, 3, 4] rfl) (hD.part (cx := [(hs, .inr (3, [.int (iI ac), .int (iI dI), .ref la, .ref st, .int (iI kr), .int (iI kb), .int (iI ov), .int (iI bd)])), (la, .inl (cQ, dn, .inr (.inr (.inr (.inr g))))), (st, .inr (0, [.int (iI ac), .ref sw])), (sw, .inl (cJ, nw, .inr (.inl sf)))]) [1, 2, 3, 4] (by decide) rfl) rfl rfl rfl hl.1 rfl (Nat.le_of_ble_eq_true rfl) d_RR_eject_4) hP hD hS hA [1, 2, 3, 4] [0] rfl (wr := [(o, .inr (4, [.int (iI dp), .ref hs, .ref h, .ref gp, .int (iI rs), .int (iI mt), .int (iI nW), .int (iI nH)]))]) rfl (by decide) (by decide) (fun v w1 H locs hq hPD hS => ?_)
  obtain ⟨pl2_4, rfl, hw1, hL2_4⟩ := hq
  obtain ⟨hP, hD⟩ := hPD [(hs, .inr (3, [.int (iI ac), .int (iI dI), .ref la, .ref st, .int (iI 0), .int (iI 0), .int (iI 0), .int (iI 0)])), (la, .inl (cQ, dn, .inr (.inr (.inr (.inr g))))), (st, .inr (0, [.int (iI ac), .ref sw])), (sw, .inl (cJ, nw, .inr (.inl sf)))] pl2_4 hw1
  refine W.cs (cells' := 0) (slots' := 0) rfl rfl ?_
  refine W.eq (g2 := F0 m 7 ls []) rfl ?_
  have hP : va_P D xcl ([(o, .inr (4, [.int (iI dp), .ref hs, .ref h, .ref gp, .int (iI rs), .int (iI mt), .int (iI nW), .int (iI nH)])), (hs, .inr (3, [.int (iI ac), .int (iI dI), .ref la, .ref st, .int (iI 0), .int (iI 0), .int (iI 0), .int (iI 0)])), (la, .inl (cQ, dn, .inr (.inr (.inr (.inr g))))), (st, .inr (0, [.int (iI ac), .ref sw])), (sw, .inl (cJ, nw, .inr (.inl sf)))] ++ pl2_4) _ := hP
  have hD : va_D A ([(o, .inr (4, [.int (iI dp), .ref hs, .ref h, .ref gp, .int (iI rs), .int (iI mt), .int (iI nW), .int (iI nH)])), (hs, .inr (3, [.int (iI ac), .int (iI dI), .ref la, .ref st, .int (iI 0), .int (iI 0), .int (iI 0), .int (iI 0)])), (la, .inl (cQ, dn, .inr (.inr (.inr (.inr g))))), (st, .inr (0, [.int (iI ac), .ref sw])), (sw, .inl (cJ, nw, .inr (.inl sf)))] ++ pl2_4) := hD
  exact x_vret hx hb hr hlocks hP hD hS (by decide) (by decide) ⟨pl2_4, rfl, rfl, hL2_4⟩ d_RR_eject_7

theorem d_RR_line_0 : decode b_RR_line 0 = .ok (.aload_n 0, 1) := by decide +kernel
theorem d_RR_line_1 : decode b_RR_line 1 = .ok (.getfield 18, 3) := by decide +kernel
theorem d_RR_line_4 : decode b_RR_line 4 = .ok (.iload_n 1, 1) := by decide +kernel
theorem d_RR_line_5 : decode b_RR_line 5 = .ok (.iload_n 2, 1) := by decide +kernel
theorem d_RR_line_6 : decode b_RR_line 6 = .ok (.invokevirtual 122, 3) := by decide +kernel
theorem d_RR_line_9 : decode b_RR_line 9 = .ok (.lreturn, 1) := by decide +kernel
theorem ds_RR_line : xDesc y_RR_line 2 := by decide +kernel

abbrev rm_RR_line : Room := { frames := 2, cells := 0, slots := 0, locals := 44 }
set_option maxHeartbeats 4000000 in
set_option maxRecDepth 100000 in
/-- line -/
theorem c_RR_line (l : Launch) (D : va_G) (cI cJ cQ : ClassId) (o : Nat) (dp : Int) (rs : Int) (mt : Int) (nW : Int) (nH : Int) (h : Nat) (gp : Nat) (hs : Nat) (la : Nat) (st : Nat) (sw : Nat) (ac : Int) (dI : Int) (dn : Nat) (nw : Nat) (g : Nat → Option Nat) (sf : Nat → Int64) (kr : Int) (kb : Int) (ov : Int) (bd : Int) (pl : va_W) (Wd : Nat → Nat → Int64) (yy : Int) (kk : Int) (hac : 1 ≤ ac ∧ ac ≤ 5100) (hdn : dI = (dn : Int) ∧ dn ≤ 5100) (hnw : (nw : Int) = (ac + 63) / 64) (hL : LOK cJ ac nw dn g pl Wd) (hy_ : inR yy) (hk_ : inR kk) : xMet l D (xT cI cJ cQ) y_RR_line b_RR_line 3 (some .long) rm_RR_line [.ref o, .int (iI yy), .int (iI kk)] ([(o, .inr (4, [.int (iI dp), .ref hs, .ref h, .ref gp, .int (iI rs), .int (iI mt), .int (iI nW), .int (iI nH)])), (hs, .inr (3, [.int (iI ac), .int (iI dI), .ref la, .ref st, .int (iI kr), .int (iI kb), .int (iI ov), .int (iI bd)])), (la, .inl (cQ, dn, .inr (.inr (.inr (.inr g))))), (st, .inr (0, [.int (iI ac), .ref sw])), (sw, .inl (cJ, nw, .inr (.inl sf)))] ++ pl) (fun v ws => ∃ (r : Int64) (pl2 : va_W), v = some (.long r) ∧ ws = ([(o, .inr (4, [.int (iI dp), .ref hs, .ref h, .ref gp, .int (iI rs), .int (iI mt), .int (iI nW), .int (iI nH)])), (hs, .inr (3, [.int (iI ac), .int (iI dI), .ref la, .ref st, .int (iI kr), .int (iI kb), .int (iI ov), .int (iI bd)])), (la, .inl (cQ, dn, .inr (.inr (.inr (.inr g))))), (st, .inr (0, [.int (iI ac), .ref sw])), (sw, .inl (cJ, nw, .inr (.inl sf)))] ++ pl2) ∧ (0 ≤ yy → yy < dI → 0 ≤ kk → kk < (nw : Int) → r = Wd yy.toNat kk.toNat) ∧ ((yy < 0 ∨ dI ≤ yy ∨ kk < 0 ∨ (nw : Int) ≤ kk) → r = 0) ∧ (LOK cJ ac nw dn g pl2 Wd)) := by
  refine x_met (by decide) (Nat.le_of_ble_eq_true rfl) ?_
  intro p e s m below meth c hx hb hr hml hts hown hlocks hin hF0 A hA hP hD hK ls hl hS
  have hl : lv_has ls 3 [(0, .ref o), (1, .int (iI yy)), (2, .int (iI kk))] := hl
  refine lv_aload_n hx hb d_RR_line_0 rfl (lv_at hl 0 rfl) ?_
  refine va_get (D := D) (cl := xcl) (ci := 4) (v := .ref hs) (C := R_RR) (T := T_RR) (N := 8) hx hb hts i_RR hown hK hP 0 rfl rfl 1 (by decide) (hts _ kw_142) (fun _ h9 => h9) rfl d_RR_line_1 ?_
  refine lv_iload_n hx hb d_RR_line_4 rfl (lv_at hl 1 rfl) ?_
  refine lv_iload_n hx hb d_RR_line_5 rfl (lv_at hl 2 rfl) ?_
  refine x_aftP (X := [(o, .inr (4, [.int (iI dp), .ref hs, .ref h, .ref gp, .int (iI rs), .int (iI mt), .int (iI nW), .int (iI nH)])), (hs, .inr (3, [.int (iI ac), .int (iI dI), .ref la, .ref st, .int (iI kr), .int (iI kb), .int (iI ov), .int (iI bd)])), (la, .inl (cQ, dn, .inr (.inr (.inr (.inr g))))), (st, .inr (0, [.int (iI ac), .ref sw])), (sw, .inl (cJ, nw, .inr (.inl sf)))]) (pl := pl) (cx := [(hs, .inr (3, [.int (iI ac), .int (iI dI), .ref la, .ref st, .int (iI kr), .int (iI kb), .int (iI ov), .int (iI bd)])), (la, .inl (cQ, dn, .inr (.inr (.inr (.inr g))))), (st, .inr (0, [.int (iI ac), .ref sw])), (sw, .inl (cJ, nw, .inr (.inl sf)))]) (x_runV (C := "RasterRows$Sheet") (As := [.int (iI yy), .int (iI kk)]) (rest := []) (ci := 3) (q0 := 0) hx hb hml hown hts (c_Sh_wordOf l D cI cJ cQ hs la st sw ac dI dn nw g sf kr kb ov bd pl Wd yy kk (hac) (hdn) (hnw) (hL) (hy_) (hk_)) kw_239 kw_240 kw_241 kw_2 kw_242 ds_Sh_wordOf (by decide) hK (hP.part (cx := [(hs, .inr (3, [.int (iI ac), .int (iI dI), .ref la, .ref st, .int (iI kr), .int (iI kb), .int (iI ov), .int (iI bd)])), (la, .inl (cQ, dn, .inr (.inr (.inr (.inr g))))), (st, .inr (0, [.int (iI ac), .ref sw])), (sw, .inl (cJ, nw, .inr (.inl sf)))]) [1, 2, 3, 4] rfl) (hD.part (cx := [(hs, .inr (3, [.int (iI ac), .int (iI dI), .ref la, .ref st, .int (iI kr), .int (iI kb), .int (iI ov), .int (iI bd)])), (la, .inl (cQ, dn, .inr (.inr (.inr (.inr g))))), (st, .inr (0, [.int (iI ac), .ref sw])), (sw, .inl (cJ, nw, .inr (.inl sf)))]) [1, 2, 3, 4] (by decide) rfl) rfl rfl rfl hl.1 rfl (Nat.le_of_ble_eq_true rfl) d_RR_line_6) hP hD hS hA [1, 2, 3, 4] [0] rfl (wr := [(o, .inr (4, [.int (iI dp), .ref hs, .ref h, .ref gp, .int (iI rs), .int (iI mt), .int (iI nW), .int (iI nH)]))]) rfl (by decide) (by decide) (fun v w1 H locs hq hPD hS => ?_)
  obtain ⟨r_6, pl2_6, rfl, hw1, hr1_6, hr2_6, hL2_6⟩ := hq
  obtain ⟨hP, hD⟩ := hPD [(hs, .inr (3, [.int (iI ac), .int (iI dI), .ref la, .ref st, .int (iI kr), .int (iI kb), .int (iI ov), .int (iI bd)])), (la, .inl (cQ, dn, .inr (.inr (.inr (.inr g))))), (st, .inr (0, [.int (iI ac), .ref sw])), (sw, .inl (cJ, nw, .inr (.inl sf)))] pl2_6 hw1
  refine W.cs (cells' := 0) (slots' := 0) rfl rfl ?_
  refine W.eq (g2 := F0 m 9 ls [.long r_6]) rfl ?_
  have hP : va_P D xcl ([(o, .inr (4, [.int (iI dp), .ref hs, .ref h, .ref gp, .int (iI rs), .int (iI mt), .int (iI nW), .int (iI nH)])), (hs, .inr (3, [.int (iI ac), .int (iI dI), .ref la, .ref st, .int (iI kr), .int (iI kb), .int (iI ov), .int (iI bd)])), (la, .inl (cQ, dn, .inr (.inr (.inr (.inr g))))), (st, .inr (0, [.int (iI ac), .ref sw])), (sw, .inl (cJ, nw, .inr (.inl sf)))] ++ pl2_6) _ := hP
  have hD : va_D A ([(o, .inr (4, [.int (iI dp), .ref hs, .ref h, .ref gp, .int (iI rs), .int (iI mt), .int (iI nW), .int (iI nH)])), (hs, .inr (3, [.int (iI ac), .int (iI dI), .ref la, .ref st, .int (iI kr), .int (iI kb), .int (iI ov), .int (iI bd)])), (la, .inl (cQ, dn, .inr (.inr (.inr (.inr g))))), (st, .inr (0, [.int (iI ac), .ref sw])), (sw, .inl (cJ, nw, .inr (.inl sf)))] ++ pl2_6) := hD
  exact x_lret hx hb hr hlocks hP hD hS (by decide) (by decide) ⟨r_6, pl2_6, rfl, rfl, hr1_6, hr2_6, hL2_6⟩ d_RR_line_9

theorem d_RR_seed_0 : decode b_RR_seed 0 = .ok (.aload_n 0, 1) := by decide +kernel
theorem d_RR_seed_1 : decode b_RR_seed 1 = .ok (.getfield 25, 3) := by decide +kernel
theorem d_RR_seed_4 : decode b_RR_seed 4 = .ok (.getfield 48, 3) := by decide +kernel
theorem d_RR_seed_7 : decode b_RR_seed 7 = .ok (.ifCond .eq 26, 3) := by decide +kernel
theorem d_RR_seed_10 : decode b_RR_seed 10 = .ok (.aload_n 0, 1) := by decide +kernel
theorem d_RR_seed_11 : decode b_RR_seed 11 = .ok (.getfield 25, 3) := by decide +kernel
theorem d_RR_seed_14 : decode b_RR_seed 14 = .ok (.iload_n 1, 1) := by decide +kernel
theorem d_RR_seed_15 : decode b_RR_seed 15 = .ok (.invokevirtual 141, 3) := by decide +kernel
theorem d_RR_seed_18 : decode b_RR_seed 18 = .ok (.ifCond .eq 15, 3) := by decide +kernel
theorem d_RR_seed_21 : decode b_RR_seed 21 = .ok (.aload_n 0, 1) := by decide +kernel
theorem d_RR_seed_22 : decode b_RR_seed 22 = .ok (.getfield 25, 3) := by decide +kernel
theorem d_RR_seed_25 : decode b_RR_seed 25 = .ok (.getfield 144, 3) := by decide +kernel
theorem d_RR_seed_28 : decode b_RR_seed 28 = .ok (.iload_n 1, 1) := by decide +kernel
theorem d_RR_seed_29 : decode b_RR_seed 29 = .ok (.iaload, 1) := by decide +kernel
theorem d_RR_seed_30 : decode b_RR_seed 30 = .ok (.goto 4, 3) := by decide +kernel
theorem d_RR_seed_33 : decode b_RR_seed 33 = .ok (.iconst (-1), 1) := by decide +kernel
theorem d_RR_seed_34 : decode b_RR_seed 34 = .ok (.ireturn, 1) := by decide +kernel
theorem ds_RR_seed : xDesc y_RR_seed 1 := by decide +kernel

abbrev rm_RR_seed : Room := { frames := 1, cells := 0, slots := 0, locals := 21 }
set_option maxHeartbeats 4000000 in
set_option maxRecDepth 100000 in
/-- seed -/
theorem c_RR_seed (l : Launch) (D : va_G) (cI cJ cQ : ClassId) (o : Nat) (dp : Int) (rs : Int) (mt : Int) (nW : Int) (nH : Int) (hs : Nat) (h : Nat) (gp : Nat) (a : Nat) (B : Nat → Int) (op : Int) (x : Int) (y : Int) (sc : Int) (wd : Int) (ht : Int) (ln : Int) (rw : Int) (i : Int) (hop : op = 0 ∨ op = 1) (hln : 0 ≤ ln ∧ ln ≤ 640) (hi : inR i) : xMet l D (xT cI cJ cQ) y_RR_seed b_RR_seed 2 (some .int) rm_RR_seed [.ref o, .int (iI i)] [(o, .inr (4, [.int (iI dp), .ref hs, .ref h, .ref gp, .int (iI rs), .int (iI mt), .int (iI nW), .int (iI nH)])), (h, .inr (2, [.ref a, .int (iI op), .int (iI x), .int (iI y), .int (iI sc), .int (iI wd), .int (iI ht), .int (iI ln), .int (iI rw)])), (a, .inl (cI, 640, .inl (iA B)))] (fun v ws => ∃ (r : Int), v = some (.int (iI r)) ∧ ws = [(o, .inr (4, [.int (iI dp), .ref hs, .ref h, .ref gp, .int (iI rs), .int (iI mt), .int (iI nW), .int (iI nH)])), (h, .inr (2, [.ref a, .int (iI op), .int (iI x), .int (iI y), .int (iI sc), .int (iI wd), .int (iI ht), .int (iI ln), .int (iI rw)])), (a, .inl (cI, 640, .inl (iA B)))] ∧ ((r = B i.toNat ∧ op = 1 ∧ 0 ≤ i ∧ i < ln) ∨ (r = -1 ∧ (op = 0 ∨ i < 0 ∨ ln ≤ i)))) := by
  refine x_met (by decide) (Nat.le_of_ble_eq_true rfl) ?_
  intro p e s m below meth c hx hb hr hml hts hown hlocks hin hF0 A hA hP hD hK ls hl hS
  have hl : lv_has ls 2 [(0, .ref o), (1, .int (iI i))] := hl
  refine lv_aload_n hx hb d_RR_seed_0 rfl (lv_at hl 0 rfl) ?_
  refine va_get (D := D) (cl := xcl) (ci := 4) (v := .ref h) (C := R_RR) (T := T_RR) (N := 8) hx hb hts i_RR hown hK hP 0 rfl rfl 2 (by decide) (hts _ kw_143) (fun _ h9 => h9) rfl d_RR_seed_1 ?_
  refine va_get (D := D) (cl := xcl) (ci := 2) (v := .int (iI op)) (C := R_Ra) (T := T_Ra) (N := 9) hx hb hts i_Ra hown hK hP 1 rfl rfl 1 (by decide) (hts _ kw_95) (fun _ h9 => h9) rfl d_RR_seed_4 ?_
  refine xi_if_eq (tgt := 33) hx hb d_RR_seed_7 (by decide) ⟨by omega, by omega⟩ (fun c_7 => ?_) (fun c_7 => ?_)
  ·
    refine xi_iconst hx hb d_RR_seed_33 ?_
    exact x_iret hx hb hr hlocks hP hD hS (by decide) (by decide) ⟨(-1), rfl, rfl, Or.inr ⟨rfl, by omega⟩⟩ d_RR_seed_34
  ·
    refine lv_aload_n hx hb d_RR_seed_10 rfl (lv_at hl 0 rfl) ?_
    refine va_get (D := D) (cl := xcl) (ci := 4) (v := .ref h) (C := R_RR) (T := T_RR) (N := 8) hx hb hts i_RR hown hK hP 0 rfl rfl 2 (by decide) (hts _ kw_143) (fun _ h9 => h9) rfl d_RR_seed_11 ?_
    refine lv_iload_n hx hb d_RR_seed_14 rfl (lv_at hl 1 rfl) ?_
    refine x_aft (x_runV (C := "RasterRows$Raster") (As := [.int (iI i)]) (rest := []) (ci := 2) (q0 := 0) hx hb hml hown hts (c_Ra_hasByte l D cI cJ cQ h a B op x y sc wd ht ln rw i (hln) (hi)) kw_251 kw_252 kw_253 kw_5 kw_254 ds_Ra_hasByte (by decide) hK (hP.sub (ws' := [(h, .inr (2, [.ref a, .int (iI op), .int (iI x), .int (iI y), .int (iI sc), .int (iI wd), .int (iI ht), .int (iI ln), .int (iI rw)])), (a, .inl (cI, 640, .inl (iA B)))]) [1, 2] rfl) (hD.sub (ws' := [(h, .inr (2, [.ref a, .int (iI op), .int (iI x), .int (iI y), .int (iI sc), .int (iI wd), .int (iI ht), .int (iI ln), .int (iI rw)])), (a, .inl (cI, 640, .inl (iA B)))]) [1, 2] (by decide) rfl) rfl rfl rfl hl.1 rfl (Nat.le_of_ble_eq_true rfl) d_RR_seed_15) hP hD hS hA [1, 2] [0] rfl (wr := [(o, .inr (4, [.int (iI dp), .ref hs, .ref h, .ref gp, .int (iI rs), .int (iI mt), .int (iI nW), .int (iI nH)]))]) rfl (by decide) (by decide) (fun v w1 H locs hq hP hD hS => ?_)
    obtain ⟨r_15, rfl, rfl, hr_15⟩ := hq
    refine W.cs (cells' := 0) (slots' := 0) rfl rfl ?_
    refine W.eq (g2 := F0 m 18 ls [.int (iI r_15)]) rfl ?_
    have hP : va_P D xcl [(o, .inr (4, [.int (iI dp), .ref hs, .ref h, .ref gp, .int (iI rs), .int (iI mt), .int (iI nW), .int (iI nH)])), (h, .inr (2, [.ref a, .int (iI op), .int (iI x), .int (iI y), .int (iI sc), .int (iI wd), .int (iI ht), .int (iI ln), .int (iI rw)])), (a, .inl (cI, 640, .inl (iA B)))] _ := hP
    have hD : va_D A [(o, .inr (4, [.int (iI dp), .ref hs, .ref h, .ref gp, .int (iI rs), .int (iI mt), .int (iI nW), .int (iI nH)])), (h, .inr (2, [.ref a, .int (iI op), .int (iI x), .int (iI y), .int (iI sc), .int (iI wd), .int (iI ht), .int (iI ln), .int (iI rw)])), (a, .inl (cI, 640, .inl (iA B)))] := hD
    refine xi_if_eq (tgt := 33) hx hb d_RR_seed_18 (by decide) ⟨by omega, by omega⟩ (fun c_18 => ?_) (fun c_18 => ?_)
    ·
      refine xi_iconst hx hb d_RR_seed_33 ?_
      exact x_iret hx hb hr hlocks hP hD hS (by decide) (by decide) ⟨(-1), rfl, rfl, Or.inr ⟨rfl, by omega⟩⟩ d_RR_seed_34
    ·
      refine lv_aload_n hx hb d_RR_seed_21 rfl (lv_at hl 0 rfl) ?_
      refine va_get (D := D) (cl := xcl) (ci := 4) (v := .ref h) (C := R_RR) (T := T_RR) (N := 8) hx hb hts i_RR hown hK hP 0 rfl rfl 2 (by decide) (hts _ kw_143) (fun _ h9 => h9) rfl d_RR_seed_22 ?_
      refine va_get (D := D) (cl := xcl) (ci := 2) (v := .ref a) (C := R_Ra) (T := T_Ra) (N := 9) hx hb hts i_Ra hown hK hP 1 rfl rfl 0 (by decide) (hts _ kw_93) (fun _ h9 => h9) rfl d_RR_seed_25 ?_
      refine lv_iload_n hx hb d_RR_seed_28 rfl (lv_at hl 1 rfl) ?_
      refine xi_iald hx hb hK hP 2 0 rfl rfl (by omega) (by omega) (by omega) d_RR_seed_29 ?_
      refine lv_goto (tgt := 34) hx hb d_RR_seed_30 (by decide) ?_
      exact x_iret hx hb hr hlocks hP hD hS (by decide) (by decide) ⟨(B i.toNat), rfl, rfl, Or.inl ⟨rfl, by omega, by omega, by omega⟩⟩ d_RR_seed_34
