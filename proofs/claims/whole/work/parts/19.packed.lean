theorem d_Pk_init_0 : decode b_Pk_init 0 = .ok (.aload_n 0, 1) := by decide +kernel
theorem d_Pk_init_1 : decode b_Pk_init 1 = .ok (.invokespecial 3, 3) := by decide +kernel
theorem d_Pk_init_4 : decode b_Pk_init 4 = .ok (.aload_n 0, 1) := by decide +kernel
theorem d_Pk_init_5 : decode b_Pk_init 5 = .ok (.sipush 4096, 3) := by decide +kernel
theorem d_Pk_init_8 : decode b_Pk_init 8 = .ok (.newarray .int, 2) := by decide +kernel
theorem d_Pk_init_10 : decode b_Pk_init 10 = .ok (.putfield 9, 3) := by decide +kernel
theorem d_Pk_init_13 : decode b_Pk_init 13 = .ok (.aload_n 0, 1) := by decide +kernel
theorem d_Pk_init_14 : decode b_Pk_init 14 = .ok (.iconst 0, 1) := by decide +kernel
theorem d_Pk_init_15 : decode b_Pk_init 15 = .ok (.putfield 15, 3) := by decide +kernel
theorem d_Pk_init_18 : decode b_Pk_init 18 = .ok (.return_, 1) := by decide +kernel
theorem ds_Pk_init : xDesc y_Pk_init 0 := by decide +kernel

abbrev rm_Pk_init : Room := { frames := 1, cells := 1, slots := 4096, locals := 12 }
set_option maxHeartbeats 4000000 in
set_option maxRecDepth 100000 in
/-- Packed() -/
theorem c_Pk_init (l : Launch) (D : va_G) (cI cJ cQ : ClassId) (g : Nat) : xMet l D (xT cI cJ cQ) y_Pk_init b_Pk_init 1 none rm_Pk_init [.ref g] [(g, .inr (1, [.null, .int (iI 0)]))] (fun v ws => ∃ (b : Nat), v = none ∧ ws = [(g, .inr (1, [.ref b, .int (iI 0)])), (b, .inl (cI, 4096, .inl (iA (fun _ => 0))))]) := by
  refine x_met (by decide) (Nat.le_of_ble_eq_true rfl) ?_
  intro p e s m below meth c hx hb hr hml hts hown hlocks hin hF0 A hA hP hD hK ls hl hS
  have hl : lv_has ls 1 [(0, .ref g)] := hl
  refine lv_aload_n hx hb d_Pk_init_0 rfl (lv_at hl 0 rfl) ?_
  refine W.objInit hx hb hown (hts _ kw_132) (hts _ kw_22) (hts _ kw_23) rfl (by rw [hml]; exact hl.1) rfl d_Pk_init_1 (Nat.le_of_ble_eq_true rfl) (Nat.le_of_ble_eq_true rfl) ?_
  refine W.eq (g2 := F0 m 4 ls []) rfl ?_
  refine lv_aload_n hx hb d_Pk_init_4 rfl (lv_at hl 0 rfl) ?_
  refine xi_sipush hx hb d_Pk_init_5 (by decide) ?_
  refine xi_newi (N := 4096) hx hb (hts _ kw_126) hK hP hD hS hA rfl (by decide) (by decide) (by decide) d_Pk_init_8 (fun q8 H hP hD hS => ?_)
  have hP : va_P D xcl [(g, .inr (1, [.null, .int (iI 0)])), (q8, .inl (cI, 4096, .inl (iA (fun _ => 0))))] _ := hP
  have hD : va_D A [(g, .inr (1, [.null, .int (iI 0)])), (q8, .inl (cI, 4096, .inl (iA (fun _ => 0))))] := hD
  refine W.widen (k := 1) (n := 4096) (by decide) (by decide) ?_
  refine va_putF (D := D) (cl := xcl) (ci := 1) (v := .ref q8) (ty := .array (.int)) (C := R_Pk) (T := T_Pk) (N := 2) hx hb hts i_Pk ty_Pk ty_Pk_ok nm_Pk hown hK hP hD hS 0 rfl rfl 0 (by decide) (hts _ kw_133) (fun _ h9 => h9) rfl hin rfl (by decide +kernel) rfl rfl (Nat.le_of_ble_eq_true rfl) d_Pk_init_10 (fun H locs hP hD hS => ?_)
  have hP : va_P D xcl [(g, .inr (1, [.ref q8, .int (iI 0)])), (q8, .inl (cI, 4096, .inl (iA (fun _ => 0))))] _ := hP
  have hD : va_D A [(g, .inr (1, [.ref q8, .int (iI 0)])), (q8, .inl (cI, 4096, .inl (iA (fun _ => 0))))] := hD
  refine lv_aload_n hx hb d_Pk_init_13 rfl (lv_at hl 0 rfl) ?_
  refine xi_iconst hx hb d_Pk_init_14 ?_
  refine va_put (D := D) (cl := xcl) (ci := 1) (v := .int (iI 0)) (ty := .int) (C := R_Pk) (T := T_Pk) (N := 2) hx hb hts i_Pk ty_Pk ty_Pk_ok nm_Pk hown hK hP hD hS 0 rfl rfl 1 (by decide) (hts _ kw_134) (fun _ h9 => h9) rfl (by decide +kernel) rfl rfl (Nat.le_of_ble_eq_true rfl) d_Pk_init_15 (fun H locs hP hD hS => ?_)
  have hP : va_P D xcl [(g, .inr (1, [.ref q8, .int (iI 0)])), (q8, .inl (cI, 4096, .inl (iA (fun _ => 0))))] _ := hP
  have hD : va_D A [(g, .inr (1, [.ref q8, .int (iI 0)])), (q8, .inl (cI, 4096, .inl (iA (fun _ => 0))))] := hD
  exact x_vret hx hb hr hlocks hP hD hS (by decide) (by decide) ⟨q8, rfl, rfl⟩ d_Pk_init_18

theorem d_Pk_hasRoomFor_0 : decode b_Pk_hasRoomFor 0 = .ok (.iload_n 1, 1) := by decide +kernel
theorem d_Pk_hasRoomFor_1 : decode b_Pk_hasRoomFor 1 = .ok (.sipush 4096, 3) := by decide +kernel
theorem d_Pk_hasRoomFor_4 : decode b_Pk_hasRoomFor 4 = .ok (.aload_n 0, 1) := by decide +kernel
theorem d_Pk_hasRoomFor_5 : decode b_Pk_hasRoomFor 5 = .ok (.getfield 15, 3) := by decide +kernel
theorem d_Pk_hasRoomFor_8 : decode b_Pk_hasRoomFor 8 = .ok (.isub, 1) := by decide +kernel
theorem d_Pk_hasRoomFor_9 : decode b_Pk_hasRoomFor 9 = .ok (.if_icmp .gt 7, 3) := by decide +kernel
theorem d_Pk_hasRoomFor_12 : decode b_Pk_hasRoomFor 12 = .ok (.iconst 1, 1) := by decide +kernel
theorem d_Pk_hasRoomFor_13 : decode b_Pk_hasRoomFor 13 = .ok (.goto 4, 3) := by decide +kernel
theorem d_Pk_hasRoomFor_16 : decode b_Pk_hasRoomFor 16 = .ok (.iconst 0, 1) := by decide +kernel
theorem d_Pk_hasRoomFor_17 : decode b_Pk_hasRoomFor 17 = .ok (.ireturn, 1) := by decide +kernel
theorem ds_Pk_hasRoomFor : xDesc y_Pk_hasRoomFor 1 := by decide +kernel

abbrev rm_Pk_hasRoomFor : Room := { frames := 0, cells := 0, slots := 0, locals := 0 }
set_option maxHeartbeats 4000000 in
set_option maxRecDepth 100000 in
/-- Packed.hasRoomFor -/
theorem c_Pk_hasRoomFor (l : Launch) (D : va_G) (cI cJ cQ : ClassId) (g : Nat) (b : Nat) (P : Nat → Int) (ct : Int) (n : Int) (hct : 0 ≤ ct ∧ ct ≤ 4096) (hn : inR n) : xMet l D (xT cI cJ cQ) y_Pk_hasRoomFor b_Pk_hasRoomFor 2 (some .boolean) rm_Pk_hasRoomFor [.ref g, .int (iI n)] [(g, .inr (1, [.ref b, .int (iI ct)])), (b, .inl (cI, 4096, .inl (iA P)))] (fun v ws => ∃ (r : Int), v = some (.int (iI r)) ∧ ws = [(g, .inr (1, [.ref b, .int (iI ct)])), (b, .inl (cI, 4096, .inl (iA P)))] ∧ ((r = 1 ∧ n ≤ 4096 - ct) ∨ (r = 0 ∧ 4096 - ct < n))) := by
  refine x_met (by decide) (Nat.le_of_ble_eq_true rfl) ?_
  intro p e s m below meth c hx hb hr hml hts hown hlocks hin hF0 A hA hP hD hK ls hl hS
  have hl : lv_has ls 2 [(0, .ref g), (1, .int (iI n))] := hl
  refine lv_iload_n hx hb d_Pk_hasRoomFor_0 rfl (lv_at hl 1 rfl) ?_
  refine xi_sipush hx hb d_Pk_hasRoomFor_1 (by decide) ?_
  refine lv_aload_n hx hb d_Pk_hasRoomFor_4 rfl (lv_at hl 0 rfl) ?_
  refine va_get (D := D) (cl := xcl) (ci := 1) (v := .int (iI ct)) (C := R_Pk) (T := T_Pk) (N := 2) hx hb hts i_Pk hown hK hP 0 rfl rfl 1 (by decide) (hts _ kw_134) (fun _ h9 => h9) rfl d_Pk_hasRoomFor_5 ?_
  refine xi_isub hx hb d_Pk_hasRoomFor_8 ?_
  refine xi_icmp_gt (tgt := 16) hx hb d_Pk_hasRoomFor_9 (by decide) ⟨by omega, by omega⟩ ⟨by omega, by omega⟩ (fun c_9 => ?_) (fun c_9 => ?_)
  ·
    refine xi_iconst hx hb d_Pk_hasRoomFor_16 ?_
    exact x_zret hx hb hr hlocks hP hD hS (by decide) (by decide) rfl ⟨0, rfl, rfl, by omega⟩ d_Pk_hasRoomFor_17
  ·
    refine xi_iconst hx hb d_Pk_hasRoomFor_12 ?_
    refine lv_goto (tgt := 17) hx hb d_Pk_hasRoomFor_13 (by decide) ?_
    exact x_zret hx hb hr hlocks hP hD hS (by decide) (by decide) rfl ⟨1, rfl, rfl, by omega⟩ d_Pk_hasRoomFor_17

theorem d_Pk_add_0 : decode b_Pk_add 0 = .ok (.aload_n 0, 1) := by decide +kernel
theorem d_Pk_add_1 : decode b_Pk_add 1 = .ok (.getfield 15, 3) := by decide +kernel
theorem d_Pk_add_4 : decode b_Pk_add 4 = .ok (.ifCond .lt 35, 3) := by decide +kernel
theorem d_Pk_add_7 : decode b_Pk_add 7 = .ok (.aload_n 0, 1) := by decide +kernel
theorem d_Pk_add_8 : decode b_Pk_add 8 = .ok (.getfield 15, 3) := by decide +kernel
theorem d_Pk_add_11 : decode b_Pk_add 11 = .ok (.aload_n 0, 1) := by decide +kernel
theorem d_Pk_add_12 : decode b_Pk_add 12 = .ok (.getfield 9, 3) := by decide +kernel
theorem d_Pk_add_15 : decode b_Pk_add 15 = .ok (.arraylength, 1) := by decide +kernel
theorem d_Pk_add_16 : decode b_Pk_add 16 = .ok (.if_icmp .ge 23, 3) := by decide +kernel
theorem d_Pk_add_19 : decode b_Pk_add 19 = .ok (.aload_n 0, 1) := by decide +kernel
theorem d_Pk_add_20 : decode b_Pk_add 20 = .ok (.getfield 9, 3) := by decide +kernel
theorem d_Pk_add_23 : decode b_Pk_add 23 = .ok (.aload_n 0, 1) := by decide +kernel
theorem d_Pk_add_24 : decode b_Pk_add 24 = .ok (.getfield 15, 3) := by decide +kernel
theorem d_Pk_add_27 : decode b_Pk_add 27 = .ok (.iload_n 1, 1) := by decide +kernel
theorem d_Pk_add_28 : decode b_Pk_add 28 = .ok (.iastore, 1) := by decide +kernel
theorem d_Pk_add_29 : decode b_Pk_add 29 = .ok (.aload_n 0, 1) := by decide +kernel
theorem d_Pk_add_30 : decode b_Pk_add 30 = .ok (.dup, 1) := by decide +kernel
theorem d_Pk_add_31 : decode b_Pk_add 31 = .ok (.getfield 15, 3) := by decide +kernel
theorem d_Pk_add_34 : decode b_Pk_add 34 = .ok (.iconst 1, 1) := by decide +kernel
theorem d_Pk_add_35 : decode b_Pk_add 35 = .ok (.iadd, 1) := by decide +kernel
theorem d_Pk_add_36 : decode b_Pk_add 36 = .ok (.putfield 15, 3) := by decide +kernel
theorem d_Pk_add_39 : decode b_Pk_add 39 = .ok (.return_, 1) := by decide +kernel
theorem ds_Pk_add : xDesc y_Pk_add 1 := by decide +kernel

abbrev rm_Pk_add : Room := { frames := 0, cells := 0, slots := 0, locals := 0 }
set_option maxHeartbeats 4000000 in
set_option maxRecDepth 100000 in
/-- Packed.add -/
theorem c_Pk_add (l : Launch) (D : va_G) (cI cJ cQ : ClassId) (g : Nat) (b : Nat) (P : Nat → Int) (ct : Int) (z : Int) (hct : 0 ≤ ct ∧ ct < 4096) : xMet l D (xT cI cJ cQ) y_Pk_add b_Pk_add 2 none rm_Pk_add [.ref g, .int (iI z)] [(g, .inr (1, [.ref b, .int (iI ct)])), (b, .inl (cI, 4096, .inl (iA P)))] (fun v ws => v = none ∧ ws = [(g, .inr (1, [.ref b, .int (iI (ct + 1))])), (b, .inl (cI, 4096, .inl (iA (va_up P ct.toNat z))))]) := by
  refine x_met (by decide) (Nat.le_of_ble_eq_true rfl) ?_
  intro p e s m below meth c hx hb hr hml hts hown hlocks hin hF0 A hA hP hD hK ls hl hS
  have hl : lv_has ls 2 [(0, .ref g), (1, .int (iI z))] := hl
  refine lv_aload_n hx hb d_Pk_add_0 rfl (lv_at hl 0 rfl) ?_
  refine va_get (D := D) (cl := xcl) (ci := 1) (v := .int (iI ct)) (C := R_Pk) (T := T_Pk) (N := 2) hx hb hts i_Pk hown hK hP 0 rfl rfl 1 (by decide) (hts _ kw_134) (fun _ h9 => h9) rfl d_Pk_add_1 ?_
  refine xi_if_lt (tgt := 39) hx hb d_Pk_add_4 (by decide) ⟨by omega, by omega⟩ (fun c_4 => ?_) (fun c_4 => ?_)
  ·
    exact absurd c_4 (by omega)
  ·
    refine lv_aload_n hx hb d_Pk_add_7 rfl (lv_at hl 0 rfl) ?_
    refine va_get (D := D) (cl := xcl) (ci := 1) (v := .int (iI ct)) (C := R_Pk) (T := T_Pk) (N := 2) hx hb hts i_Pk hown hK hP 0 rfl rfl 1 (by decide) (hts _ kw_134) (fun _ h9 => h9) rfl d_Pk_add_8 ?_
    refine lv_aload_n hx hb d_Pk_add_11 rfl (lv_at hl 0 rfl) ?_
    refine va_get (D := D) (cl := xcl) (ci := 1) (v := .ref b) (C := R_Pk) (T := T_Pk) (N := 2) hx hb hts i_Pk hown hK hP 0 rfl rfl 0 (by decide) (hts _ kw_133) (fun _ h9 => h9) rfl d_Pk_add_12 ?_
    refine xi_alen (z := 4096) hx hb hK hP 1 0 rfl rfl rfl d_Pk_add_15 ?_
    refine xi_icmp_ge (tgt := 39) hx hb d_Pk_add_16 (by decide) ⟨by omega, by omega⟩ ⟨by decide, by decide⟩ (fun c_16 => ?_) (fun c_16 => ?_)
    ·
      exact absurd c_16 (by omega)
    ·
      refine lv_aload_n hx hb d_Pk_add_19 rfl (lv_at hl 0 rfl) ?_
      refine va_get (D := D) (cl := xcl) (ci := 1) (v := .ref b) (C := R_Pk) (T := T_Pk) (N := 2) hx hb hts i_Pk hown hK hP 0 rfl rfl 0 (by decide) (hts _ kw_133) (fun _ h9 => h9) rfl d_Pk_add_20 ?_
      refine lv_aload_n hx hb d_Pk_add_23 rfl (lv_at hl 0 rfl) ?_
      refine va_get (D := D) (cl := xcl) (ci := 1) (v := .int (iI ct)) (C := R_Pk) (T := T_Pk) (N := 2) hx hb hts i_Pk hown hK hP 0 rfl rfl 1 (by decide) (hts _ kw_134) (fun _ h9 => h9) rfl d_Pk_add_24 ?_
      refine lv_iload_n hx hb d_Pk_add_27 rfl (lv_at hl 1 rfl) ?_
      refine xi_iast hx hb hK hP hD hS 1 0 rfl rfl (by omega) (by omega) (by omega) d_Pk_add_28 (fun H locs hP hD hS => ?_)
      have hP : va_P D xcl [(g, .inr (1, [.ref b, .int (iI ct)])), (b, .inl (cI, 4096, .inl (iA (va_up P ct.toNat z))))] _ := hP
      have hD : va_D A [(g, .inr (1, [.ref b, .int (iI ct)])), (b, .inl (cI, 4096, .inl (iA (va_up P ct.toNat z))))] := hD
      refine lv_aload_n hx hb d_Pk_add_29 rfl (lv_at hl 0 rfl) ?_
      refine lv_dup hx hb d_Pk_add_30 rfl ?_
      refine va_get (D := D) (cl := xcl) (ci := 1) (v := .int (iI ct)) (C := R_Pk) (T := T_Pk) (N := 2) hx hb hts i_Pk hown hK hP 0 rfl rfl 1 (by decide) (hts _ kw_134) (fun _ h9 => h9) rfl d_Pk_add_31 ?_
      refine xi_iconst hx hb d_Pk_add_34 ?_
      refine xi_iadd hx hb d_Pk_add_35 ?_
      refine va_put (D := D) (cl := xcl) (ci := 1) (v := .int (iI (ct + 1))) (ty := .int) (C := R_Pk) (T := T_Pk) (N := 2) hx hb hts i_Pk ty_Pk ty_Pk_ok nm_Pk hown hK hP hD hS 0 rfl rfl 1 (by decide) (hts _ kw_134) (fun _ h9 => h9) rfl (by decide +kernel) rfl rfl (Nat.le_of_ble_eq_true rfl) d_Pk_add_36 (fun H locs hP hD hS => ?_)
      have hP : va_P D xcl [(g, .inr (1, [.ref b, .int (iI (ct + 1))])), (b, .inl (cI, 4096, .inl (iA (va_up P ct.toNat z))))] _ := hP
      have hD : va_D A [(g, .inr (1, [.ref b, .int (iI (ct + 1))])), (b, .inl (cI, 4096, .inl (iA (va_up P ct.toNat z))))] := hD
      exact x_vret hx hb hr hlocks hP hD hS (by decide) (by decide) ⟨rfl, rfl⟩ d_Pk_add_39

theorem d_Pk_byteAt_0 : decode b_Pk_byteAt 0 = .ok (.iload_n 1, 1) := by decide +kernel
theorem d_Pk_byteAt_1 : decode b_Pk_byteAt 1 = .ok (.ifCond .lt 29, 3) := by decide +kernel
theorem d_Pk_byteAt_4 : decode b_Pk_byteAt 4 = .ok (.iload_n 1, 1) := by decide +kernel
theorem d_Pk_byteAt_5 : decode b_Pk_byteAt 5 = .ok (.aload_n 0, 1) := by decide +kernel
theorem d_Pk_byteAt_6 : decode b_Pk_byteAt 6 = .ok (.getfield 15, 3) := by decide +kernel
theorem d_Pk_byteAt_9 : decode b_Pk_byteAt 9 = .ok (.if_icmp .ge 21, 3) := by decide +kernel
theorem d_Pk_byteAt_12 : decode b_Pk_byteAt 12 = .ok (.iload_n 1, 1) := by decide +kernel
theorem d_Pk_byteAt_13 : decode b_Pk_byteAt 13 = .ok (.aload_n 0, 1) := by decide +kernel
theorem d_Pk_byteAt_14 : decode b_Pk_byteAt 14 = .ok (.getfield 9, 3) := by decide +kernel
theorem d_Pk_byteAt_17 : decode b_Pk_byteAt 17 = .ok (.arraylength, 1) := by decide +kernel
theorem d_Pk_byteAt_18 : decode b_Pk_byteAt 18 = .ok (.if_icmp .ge 12, 3) := by decide +kernel
theorem d_Pk_byteAt_21 : decode b_Pk_byteAt 21 = .ok (.aload_n 0, 1) := by decide +kernel
theorem d_Pk_byteAt_22 : decode b_Pk_byteAt 22 = .ok (.getfield 9, 3) := by decide +kernel
theorem d_Pk_byteAt_25 : decode b_Pk_byteAt 25 = .ok (.iload_n 1, 1) := by decide +kernel
theorem d_Pk_byteAt_26 : decode b_Pk_byteAt 26 = .ok (.iaload, 1) := by decide +kernel
theorem d_Pk_byteAt_27 : decode b_Pk_byteAt 27 = .ok (.goto 4, 3) := by decide +kernel
theorem d_Pk_byteAt_30 : decode b_Pk_byteAt 30 = .ok (.iconst 0, 1) := by decide +kernel
theorem d_Pk_byteAt_31 : decode b_Pk_byteAt 31 = .ok (.ireturn, 1) := by decide +kernel
theorem ds_Pk_byteAt : xDesc y_Pk_byteAt 1 := by decide +kernel

abbrev rm_Pk_byteAt : Room := { frames := 0, cells := 0, slots := 0, locals := 0 }
set_option maxHeartbeats 4000000 in
set_option maxRecDepth 100000 in
/-- Packed.byteAt -/
theorem c_Pk_byteAt (l : Launch) (D : va_G) (cI cJ cQ : ClassId) (g : Nat) (b : Nat) (P : Nat → Int) (ct : Int) (i : Int) (hct : 0 ≤ ct ∧ ct ≤ 4096) (hPb : ∀ j : Nat, 0 ≤ P j ∧ P j < 256) (hi : 0 ≤ i ∧ i < ct) : xMet l D (xT cI cJ cQ) y_Pk_byteAt b_Pk_byteAt 2 (some .int) rm_Pk_byteAt [.ref g, .int (iI i)] [(g, .inr (1, [.ref b, .int (iI ct)])), (b, .inl (cI, 4096, .inl (iA P)))] (fun v ws => v = some (.int (iI (P i.toNat))) ∧ ws = [(g, .inr (1, [.ref b, .int (iI ct)])), (b, .inl (cI, 4096, .inl (iA P)))] ∧ (0 ≤ P i.toNat ∧ P i.toNat < 256)) := by
  refine x_met (by decide) (Nat.le_of_ble_eq_true rfl) ?_
  intro p e s m below meth c hx hb hr hml hts hown hlocks hin hF0 A hA hP hD hK ls hl hS
  have hl : lv_has ls 2 [(0, .ref g), (1, .int (iI i))] := hl
  refine lv_iload_n hx hb d_Pk_byteAt_0 rfl (lv_at hl 1 rfl) ?_
  refine xi_if_lt (tgt := 30) hx hb d_Pk_byteAt_1 (by decide) ⟨by omega, by omega⟩ (fun c_1 => ?_) (fun c_1 => ?_)
  ·
    exact absurd c_1 (by omega)
  ·
    refine lv_iload_n hx hb d_Pk_byteAt_4 rfl (lv_at hl 1 rfl) ?_
    refine lv_aload_n hx hb d_Pk_byteAt_5 rfl (lv_at hl 0 rfl) ?_
    refine va_get (D := D) (cl := xcl) (ci := 1) (v := .int (iI ct)) (C := R_Pk) (T := T_Pk) (N := 2) hx hb hts i_Pk hown hK hP 0 rfl rfl 1 (by decide) (hts _ kw_134) (fun _ h9 => h9) rfl d_Pk_byteAt_6 ?_
    refine xi_icmp_ge (tgt := 30) hx hb d_Pk_byteAt_9 (by decide) ⟨by omega, by omega⟩ ⟨by omega, by omega⟩ (fun c_9 => ?_) (fun c_9 => ?_)
    ·
      exact absurd c_9 (by omega)
    ·
      refine lv_iload_n hx hb d_Pk_byteAt_12 rfl (lv_at hl 1 rfl) ?_
      refine lv_aload_n hx hb d_Pk_byteAt_13 rfl (lv_at hl 0 rfl) ?_
      refine va_get (D := D) (cl := xcl) (ci := 1) (v := .ref b) (C := R_Pk) (T := T_Pk) (N := 2) hx hb hts i_Pk hown hK hP 0 rfl rfl 0 (by decide) (hts _ kw_133) (fun _ h9 => h9) rfl d_Pk_byteAt_14 ?_
      refine xi_alen (z := 4096) hx hb hK hP 1 0 rfl rfl rfl d_Pk_byteAt_17 ?_
      refine xi_icmp_ge (tgt := 30) hx hb d_Pk_byteAt_18 (by decide) ⟨by omega, by omega⟩ ⟨by decide, by decide⟩ (fun c_18 => ?_) (fun c_18 => ?_)
      ·
        exact absurd c_18 (by omega)
      ·
        refine lv_aload_n hx hb d_Pk_byteAt_21 rfl (lv_at hl 0 rfl) ?_
        refine va_get (D := D) (cl := xcl) (ci := 1) (v := .ref b) (C := R_Pk) (T := T_Pk) (N := 2) hx hb hts i_Pk hown hK hP 0 rfl rfl 0 (by decide) (hts _ kw_133) (fun _ h9 => h9) rfl d_Pk_byteAt_22 ?_
        refine lv_iload_n hx hb d_Pk_byteAt_25 rfl (lv_at hl 1 rfl) ?_
        refine xi_iald hx hb hK hP 1 0 rfl rfl (by omega) (by omega) (by omega) d_Pk_byteAt_26 ?_
        refine lv_goto (tgt := 31) hx hb d_Pk_byteAt_27 (by decide) ?_
        exact x_iret hx hb hr hlocks hP hD hS (by decide) (by decide) ⟨rfl, rfl, hPb _⟩ d_Pk_byteAt_31

theorem d_Pk_copy_0 : decode b_Pk_copy 0 = .ok (.iconst 0, 1) := by decide +kernel
theorem d_Pk_copy_1 : decode b_Pk_copy 1 = .ok (.istore 5, 2) := by decide +kernel
theorem d_Pk_copy_3 : decode b_Pk_copy 3 = .ok (.iload 5, 2) := by decide +kernel
theorem d_Pk_copy_5 : decode b_Pk_copy 5 = .ok (.iload_n 2, 1) := by decide +kernel
theorem d_Pk_copy_6 : decode b_Pk_copy 6 = .ok (.if_icmp .ge 26, 3) := by decide +kernel
theorem d_Pk_copy_9 : decode b_Pk_copy 9 = .ok (.aload_n 3, 1) := by decide +kernel
theorem d_Pk_copy_10 : decode b_Pk_copy 10 = .ok (.iload 4, 2) := by decide +kernel
theorem d_Pk_copy_12 : decode b_Pk_copy 12 = .ok (.iload 5, 2) := by decide +kernel
theorem d_Pk_copy_14 : decode b_Pk_copy 14 = .ok (.iadd, 1) := by decide +kernel
theorem d_Pk_copy_15 : decode b_Pk_copy 15 = .ok (.aload_n 0, 1) := by decide +kernel
theorem d_Pk_copy_16 : decode b_Pk_copy 16 = .ok (.iload_n 1, 1) := by decide +kernel
theorem d_Pk_copy_17 : decode b_Pk_copy 17 = .ok (.iload 5, 2) := by decide +kernel
theorem d_Pk_copy_19 : decode b_Pk_copy 19 = .ok (.iadd, 1) := by decide +kernel
theorem d_Pk_copy_20 : decode b_Pk_copy 20 = .ok (.invokevirtual 38, 3) := by decide +kernel
theorem d_Pk_copy_23 : decode b_Pk_copy 23 = .ok (.invokevirtual 42, 3) := by decide +kernel
theorem d_Pk_copy_26 : decode b_Pk_copy 26 = .ok (.iinc 5 1, 3) := by decide +kernel
theorem d_Pk_copy_29 : decode b_Pk_copy 29 = .ok (.goto (-26), 3) := by decide +kernel
theorem d_Pk_copy_32 : decode b_Pk_copy 32 = .ok (.return_, 1) := by decide +kernel
theorem ds_Pk_copy : xDesc y_Pk_copy 4 := by decide +kernel

abbrev rm_Pk_copy : Room := { frames := 2, cells := 0, slots := 0, locals := 43 }
set_option maxHeartbeats 4000000 in
set_option maxRecDepth 100000 in
/-- Packed.copy -/
theorem c_Pk_copy (l : Launch) (D : va_G) (cI cJ cQ : ClassId) (g : Nat) (b : Nat) (P : Nat → Int) (ct : Int) (h : Nat) (a : Nat) (B : Nat → Int) (op : Int) (x : Int) (y : Int) (sc : Int) (wd : Int) (ht : Int) (ln : Int) (rw : Int) (fr : Int) (n : Int) (pl : Int) (hn : -100000 ≤ n) (hct : 0 ≤ ct ∧ ct ≤ 4096) (hPb : ∀ j : Nat, 0 ≤ P j ∧ P j < 256) (hln : 0 ≤ ln ∧ ln ≤ 640) (hpl : 0 ≤ pl ∧ pl ≤ 2000000) (hfr : 0 ≤ fr ∧ fr + n ≤ ct) : xMet l D (xT cI cJ cQ) y_Pk_copy b_Pk_copy 6 none rm_Pk_copy [.ref g, .int (iI fr), .int (iI n), .ref h, .int (iI pl)] [(g, .inr (1, [.ref b, .int (iI ct)])), (b, .inl (cI, 4096, .inl (iA P))), (h, .inr (2, [.ref a, .int (iI op), .int (iI x), .int (iI y), .int (iI sc), .int (iI wd), .int (iI ht), .int (iI ln), .int (iI rw)])), (a, .inl (cI, 640, .inl (iA B)))] (fun v ws => ∃ (B2 : Nat → Int), v = none ∧ ws = [(g, .inr (1, [.ref b, .int (iI ct)])), (b, .inl (cI, 4096, .inl (iA P))), (h, .inr (2, [.ref a, .int (iI op), .int (iI x), .int (iI y), .int (iI sc), .int (iI wd), .int (iI ht), .int (iI ln), .int (iI rw)])), (a, .inl (cI, 640, .inl (iA B2)))] ∧ (B2 = copyB B P ln pl fr n)) := by
  refine x_met (by decide) (Nat.le_of_ble_eq_true rfl) ?_
  intro p e s m below meth c hx hb hr hml hts hown hlocks hin hF0 A hA hP hD hK ls hl hS
  have hl : lv_has ls 6 [(0, .ref g), (1, .int (iI fr)), (2, .int (iI n)), (3, .ref h), (4, .int (iI pl))] := hl
  refine xi_iconst hx hb d_Pk_copy_0 ?_
  refine lv_istore (lv' := [(5, .int (iI 0)), (0, .ref g), (1, .int (iI fr)), (2, .int (iI n)), (3, .ref h), (4, .int (iI pl))]) hx hb d_Pk_copy_1 hl (by decide) rfl (fun ls hl => ?_)
  refine x_loop2 (fun (i : Int) (B2 : Nat → Int) H locs ls => (0 ≤ i ∧ (i ≤ n ∨ i = 0)) ∧ (B2 = copyB B P ln pl fr i) ∧ va_P D xcl [(g, .inr (1, [.ref b, .int (iI ct)])), (b, .inl (cI, 4096, .inl (iA P))), (h, .inr (2, [.ref a, .int (iI op), .int (iI x), .int (iI y), .int (iI sc), .int (iI wd), .int (iI ht), .int (iI ln), .int (iI rw)])), (a, .inl (cI, 640, .inl (iA B2)))] H ∧ va_D A [(g, .inr (1, [.ref b, .int (iI ct)])), (b, .inl (cI, 4096, .inl (iA P))), (h, .inr (2, [.ref a, .int (iI op), .int (iI x), .int (iI y), .int (iI sc), .int (iI wd), .int (iI ht), .int (iI ln), .int (iI rw)])), (a, .inl (cI, 640, .inl (iA B2)))] ∧ va_S A s.heap H locs ∧ lv_has ls 6 [(5, .int (iI i)), (0, .ref g), (1, .int (iI fr)), (2, .int (iI n)), (3, .ref h), (4, .int (iI pl))]) (fun (i : Int) (B2 : Nat → Int) => (n - i).toNat) 0 B ⟨by omega, (copyB_0 (by omega)).symm, hP, hD, hS, hl⟩ ?_
  intro i B2 H locs ls hI ih_3
  obtain ⟨k1, k2, hP, hD, hS, hl⟩ := hI
  refine lv_iload hx hb d_Pk_copy_3 (lv_at hl 0 rfl) ?_
  refine lv_iload_n hx hb d_Pk_copy_5 rfl (lv_at hl 3 rfl) ?_
  refine xi_icmp_ge (tgt := 32) hx hb d_Pk_copy_6 (by decide) ⟨by omega, by omega⟩ ⟨by omega, by omega⟩ (fun c_6 => ?_) (fun c_6 => ?_)
  ·
    exact x_vret hx hb hr hlocks hP hD hS (by decide) (by decide) ⟨B2, rfl, rfl, by
            rw [k2]
            rcases (show i = n ∨ (i = 0 ∧ n ≤ 0) by omega) with q | q
            · rw [q]
            · rw [q.1, copyB_0 (by omega), copyB_0 q.2]⟩ d_Pk_copy_32
  ·
    refine lv_aload_n hx hb d_Pk_copy_9 rfl (lv_at hl 4 rfl) ?_
    refine lv_iload hx hb d_Pk_copy_10 (lv_at hl 5 rfl) ?_
    refine lv_iload hx hb d_Pk_copy_12 (lv_at hl 0 rfl) ?_
    refine xi_iadd hx hb d_Pk_copy_14 ?_
    refine lv_aload_n hx hb d_Pk_copy_15 rfl (lv_at hl 1 rfl) ?_
    refine lv_iload_n hx hb d_Pk_copy_16 rfl (lv_at hl 2 rfl) ?_
    refine lv_iload hx hb d_Pk_copy_17 (lv_at hl 0 rfl) ?_
    refine xi_iadd hx hb d_Pk_copy_19 ?_
    refine x_aft (x_runV (C := "RasterRows$Packed") (As := [.int (iI (fr + i))]) (rest := [.int (iI (pl + i)), .ref h]) (ci := 1) (q0 := 0) hx hb hml hown hts (c_Pk_byteAt l D cI cJ cQ g b P ct (fr + i) (hct) (hPb) (by omega)) kw_350 kw_351 kw_352 kw_6 kw_353 ds_Pk_byteAt (by decide) hK (hP.sub (ws' := [(g, .inr (1, [.ref b, .int (iI ct)])), (b, .inl (cI, 4096, .inl (iA P)))]) [0, 1] rfl) (hD.sub (ws' := [(g, .inr (1, [.ref b, .int (iI ct)])), (b, .inl (cI, 4096, .inl (iA P)))]) [0, 1] (by decide) rfl) rfl rfl rfl hl.1 rfl (Nat.le_of_ble_eq_true rfl) d_Pk_copy_20) hP hD hS hA [0, 1] [2, 3] rfl (wr := [(h, .inr (2, [.ref a, .int (iI op), .int (iI x), .int (iI y), .int (iI sc), .int (iI wd), .int (iI ht), .int (iI ln), .int (iI rw)])), (a, .inl (cI, 640, .inl (iA B2)))]) rfl (by decide) (by decide) (fun v w1 H locs hq hP hD hS => ?_)
    obtain ⟨rfl, rfl, hb_20⟩ := hq
    refine W.cs (cells' := 0) (slots' := 0) rfl rfl ?_
    refine W.eq (g2 := F0 m 23 ls [.int (iI (P (fr + i).toNat)), .int (iI (pl + i)), .ref h]) rfl ?_
    have hP : va_P D xcl [(h, .inr (2, [.ref a, .int (iI op), .int (iI x), .int (iI y), .int (iI sc), .int (iI wd), .int (iI ht), .int (iI ln), .int (iI rw)])), (a, .inl (cI, 640, .inl (iA B2))), (g, .inr (1, [.ref b, .int (iI ct)])), (b, .inl (cI, 4096, .inl (iA P)))] _ := hP
    have hD : va_D A [(h, .inr (2, [.ref a, .int (iI op), .int (iI x), .int (iI y), .int (iI sc), .int (iI wd), .int (iI ht), .int (iI ln), .int (iI rw)])), (a, .inl (cI, 640, .inl (iA B2))), (g, .inr (1, [.ref b, .int (iI ct)])), (b, .inl (cI, 4096, .inl (iA P)))] := hD
    refine x_aft (x_runV (C := "RasterRows$Raster") (As := [.int (iI (pl + i)), .int (iI (P (fr + i).toNat))]) (rest := []) (ci := 2) (q0 := 0) hx hb hml hown hts (c_Ra_put l D cI cJ cQ h a B2 op x y sc wd ht ln rw (pl + i) (P (fr + i).toNat) (hln) (⟨by omega, by omega⟩)) kw_359 kw_360 kw_361 kw_5 kw_362 ds_Ra_put (by decide) hK (hP.sub (ws' := [(h, .inr (2, [.ref a, .int (iI op), .int (iI x), .int (iI y), .int (iI sc), .int (iI wd), .int (iI ht), .int (iI ln), .int (iI rw)])), (a, .inl (cI, 640, .inl (iA B2)))]) [0, 1] rfl) (hD.sub (ws' := [(h, .inr (2, [.ref a, .int (iI op), .int (iI x), .int (iI y), .int (iI sc), .int (iI wd), .int (iI ht), .int (iI ln), .int (iI rw)])), (a, .inl (cI, 640, .inl (iA B2)))]) [0, 1] (by decide) rfl) rfl rfl rfl hl.1 rfl (Nat.le_of_ble_eq_true rfl) d_Pk_copy_23) hP hD hS hA [0, 1] [2, 3] rfl (wr := [(g, .inr (1, [.ref b, .int (iI ct)])), (b, .inl (cI, 4096, .inl (iA P)))]) rfl (by decide) (by decide) (fun v w1 H locs hq hP hD hS => ?_)
    obtain ⟨B2_23, rfl, rfl, hB2_23⟩ := hq
    refine W.cs (cells' := 0) (slots' := 0) rfl rfl ?_
    refine W.eq (g2 := F0 m 26 ls []) rfl ?_
    have hP : va_P D xcl [(g, .inr (1, [.ref b, .int (iI ct)])), (b, .inl (cI, 4096, .inl (iA P))), (h, .inr (2, [.ref a, .int (iI op), .int (iI x), .int (iI y), .int (iI sc), .int (iI wd), .int (iI ht), .int (iI ln), .int (iI rw)])), (a, .inl (cI, 640, .inl (iA B2_23)))] _ := hP
    have hD : va_D A [(g, .inr (1, [.ref b, .int (iI ct)])), (b, .inl (cI, 4096, .inl (iA P))), (h, .inr (2, [.ref a, .int (iI op), .int (iI x), .int (iI y), .int (iI sc), .int (iI wd), .int (iI ht), .int (iI ln), .int (iI rw)])), (a, .inl (cI, 640, .inl (iA B2_23)))] := hD
    refine xi_iinc (lv' := [(5, .int (iI (i + 1))), (0, .ref g), (1, .int (iI fr)), (2, .int (iI n)), (3, .ref h), (4, .int (iI pl))]) hx hb d_Pk_copy_26 hl (k := 0) rfl (by decide) rfl (fun ls hl => ?_)
    refine lv_goto (tgt := 3) hx hb d_Pk_copy_29 (by decide) ?_
    exact ih_3 (i + 1) B2_23 _ _ _ (by omega) ⟨by omega, by rw [hB2_23, k2]; exact copyB_step hpl.1 k1.1, hP, hD, hS, hl⟩

theorem d_Pk_unpackPairs_0 : decode b_Pk_unpackPairs 0 = .ok (.iconst 0, 1) := by decide +kernel
theorem d_Pk_unpackPairs_1 : decode b_Pk_unpackPairs 1 = .ok (.istore_n 2, 1) := by decide +kernel
theorem d_Pk_unpackPairs_2 : decode b_Pk_unpackPairs 2 = .ok (.iconst 0, 1) := by decide +kernel
theorem d_Pk_unpackPairs_3 : decode b_Pk_unpackPairs 3 = .ok (.istore_n 3, 1) := by decide +kernel
theorem d_Pk_unpackPairs_4 : decode b_Pk_unpackPairs 4 = .ok (.iload_n 3, 1) := by decide +kernel
theorem d_Pk_unpackPairs_5 : decode b_Pk_unpackPairs 5 = .ok (.iconst 1, 1) := by decide +kernel
theorem d_Pk_unpackPairs_6 : decode b_Pk_unpackPairs 6 = .ok (.iadd, 1) := by decide +kernel
theorem d_Pk_unpackPairs_7 : decode b_Pk_unpackPairs 7 = .ok (.aload_n 0, 1) := by decide +kernel
theorem d_Pk_unpackPairs_8 : decode b_Pk_unpackPairs 8 = .ok (.getfield 15, 3) := by decide +kernel
theorem d_Pk_unpackPairs_11 : decode b_Pk_unpackPairs 11 = .ok (.if_icmp .ge 37, 3) := by decide +kernel
theorem d_Pk_unpackPairs_14 : decode b_Pk_unpackPairs 14 = .ok (.aload_n 0, 1) := by decide +kernel
theorem d_Pk_unpackPairs_15 : decode b_Pk_unpackPairs 15 = .ok (.iload_n 3, 1) := by decide +kernel
theorem d_Pk_unpackPairs_16 : decode b_Pk_unpackPairs 16 = .ok (.invokevirtual 38, 3) := by decide +kernel
theorem d_Pk_unpackPairs_19 : decode b_Pk_unpackPairs 19 = .ok (.iconst 1, 1) := by decide +kernel
theorem d_Pk_unpackPairs_20 : decode b_Pk_unpackPairs 20 = .ok (.iadd, 1) := by decide +kernel
theorem d_Pk_unpackPairs_21 : decode b_Pk_unpackPairs 21 = .ok (.istore 4, 2) := by decide +kernel
theorem d_Pk_unpackPairs_23 : decode b_Pk_unpackPairs 23 = .ok (.aload_n 1, 1) := by decide +kernel
theorem d_Pk_unpackPairs_24 : decode b_Pk_unpackPairs 24 = .ok (.iload_n 2, 1) := by decide +kernel
theorem d_Pk_unpackPairs_25 : decode b_Pk_unpackPairs 25 = .ok (.iload 4, 2) := by decide +kernel
theorem d_Pk_unpackPairs_27 : decode b_Pk_unpackPairs 27 = .ok (.aload_n 0, 1) := by decide +kernel
theorem d_Pk_unpackPairs_28 : decode b_Pk_unpackPairs 28 = .ok (.iload_n 3, 1) := by decide +kernel
theorem d_Pk_unpackPairs_29 : decode b_Pk_unpackPairs 29 = .ok (.iconst 1, 1) := by decide +kernel
theorem d_Pk_unpackPairs_30 : decode b_Pk_unpackPairs 30 = .ok (.iadd, 1) := by decide +kernel
theorem d_Pk_unpackPairs_31 : decode b_Pk_unpackPairs 31 = .ok (.invokevirtual 38, 3) := by decide +kernel
theorem d_Pk_unpackPairs_34 : decode b_Pk_unpackPairs 34 = .ok (.invokevirtual 46, 3) := by decide +kernel
theorem d_Pk_unpackPairs_37 : decode b_Pk_unpackPairs 37 = .ok (.iload_n 2, 1) := by decide +kernel
theorem d_Pk_unpackPairs_38 : decode b_Pk_unpackPairs 38 = .ok (.iload 4, 2) := by decide +kernel
theorem d_Pk_unpackPairs_40 : decode b_Pk_unpackPairs 40 = .ok (.iadd, 1) := by decide +kernel
theorem d_Pk_unpackPairs_41 : decode b_Pk_unpackPairs 41 = .ok (.istore_n 2, 1) := by decide +kernel
theorem d_Pk_unpackPairs_42 : decode b_Pk_unpackPairs 42 = .ok (.iinc 3 2, 3) := by decide +kernel
theorem d_Pk_unpackPairs_45 : decode b_Pk_unpackPairs 45 = .ok (.goto (-41), 3) := by decide +kernel
theorem d_Pk_unpackPairs_48 : decode b_Pk_unpackPairs 48 = .ok (.return_, 1) := by decide +kernel
theorem ds_Pk_unpackPairs : xDesc y_Pk_unpackPairs 1 := by decide +kernel

abbrev rm_Pk_unpackPairs : Room := { frames := 3, cells := 0, slots := 0, locals := 68 }
set_option maxHeartbeats 4000000 in
set_option maxRecDepth 100000 in
/-- Packed.unpackPairs -/
theorem c_Pk_unpackPairs (l : Launch) (D : va_G) (cI cJ cQ : ClassId) (g : Nat) (b : Nat) (P : Nat → Int) (ct : Int) (h : Nat) (a : Nat) (B : Nat → Int) (op : Int) (x : Int) (y : Int) (sc : Int) (wd : Int) (ht : Int) (ln : Int) (rw : Int) (hct : 0 ≤ ct ∧ ct ≤ 4096) (hPb : ∀ j : Nat, 0 ≤ P j ∧ P j < 256) (hln : 0 ≤ ln ∧ ln ≤ 640) : xMet l D (xT cI cJ cQ) y_Pk_unpackPairs b_Pk_unpackPairs 5 none rm_Pk_unpackPairs [.ref g, .ref h] [(g, .inr (1, [.ref b, .int (iI ct)])), (b, .inl (cI, 4096, .inl (iA P))), (h, .inr (2, [.ref a, .int (iI op), .int (iI x), .int (iI y), .int (iI sc), .int (iI wd), .int (iI ht), .int (iI ln), .int (iI rw)])), (a, .inl (cI, 640, .inl (iA B)))] (fun v ws => ∃ (B2 : Nat → Int), v = none ∧ ws = [(g, .inr (1, [.ref b, .int (iI ct)])), (b, .inl (cI, 4096, .inl (iA P))), (h, .inr (2, [.ref a, .int (iI op), .int (iI x), .int (iI y), .int (iI sc), .int (iI wd), .int (iI ht), .int (iI ln), .int (iI rw)])), (a, .inl (cI, 640, .inl (iA B2)))] ∧ (B2 = pairsS P ct ln 5000 0 0 B)) := by
  refine x_met (by decide) (Nat.le_of_ble_eq_true rfl) ?_
  intro p e s m below meth c hx hb hr hml hts hown hlocks hin hF0 A hA hP hD hK ls hl hS
  have hl : lv_has ls 5 [(0, .ref g), (1, .ref h)] := hl
  refine xi_iconst hx hb d_Pk_unpackPairs_0 ?_
  refine lv_istore_n (lv' := [(2, .int (iI 0)), (0, .ref g), (1, .ref h)]) hx hb d_Pk_unpackPairs_1 rfl hl (by decide) rfl (fun ls hl => ?_)
  refine xi_iconst hx hb d_Pk_unpackPairs_2 ?_
  refine lv_istore_n (lv' := [(3, .int (iI 0)), (2, .int (iI 0)), (0, .ref g), (1, .ref h)]) hx hb d_Pk_unpackPairs_3 rfl hl (by decide) rfl (fun ls hl => ?_)
  refine x_loop4 (fun (i : Int) (pl : Int) (B2 : Nat → Int) (n : Nat) H locs ls => (0 ≤ i ∧ i ≤ 4097) ∧ (0 ≤ pl ∧ pl ≤ 256 * i) ∧ (ct - i + 1 < (n : Int)) ∧ (pairsS P ct ln 5000 0 0 B = pairsS P ct ln n i pl B2) ∧ va_P D xcl [(g, .inr (1, [.ref b, .int (iI ct)])), (b, .inl (cI, 4096, .inl (iA P))), (h, .inr (2, [.ref a, .int (iI op), .int (iI x), .int (iI y), .int (iI sc), .int (iI wd), .int (iI ht), .int (iI ln), .int (iI rw)])), (a, .inl (cI, 640, .inl (iA B2)))] H ∧ va_D A [(g, .inr (1, [.ref b, .int (iI ct)])), (b, .inl (cI, 4096, .inl (iA P))), (h, .inr (2, [.ref a, .int (iI op), .int (iI x), .int (iI y), .int (iI sc), .int (iI wd), .int (iI ht), .int (iI ln), .int (iI rw)])), (a, .inl (cI, 640, .inl (iA B2)))] ∧ va_S A s.heap H locs ∧ lv_has ls 5 [(3, .int (iI i)), (2, .int (iI pl)), (0, .ref g), (1, .ref h)]) (fun (i : Int) (pl : Int) (B2 : Nat → Int) (n : Nat) => n) 0 0 B 5000 ⟨by omega, by omega, by omega, rfl, hP, hD, hS, hl⟩ ?_
  intro i pl B2 n H locs ls hI ih_4
  obtain ⟨k1, k2, k3, k4, hP, hD, hS, hl⟩ := hI
  refine lv_iload_n hx hb d_Pk_unpackPairs_4 rfl (lv_at hl 0 rfl) ?_
  refine xi_iconst hx hb d_Pk_unpackPairs_5 ?_
  refine xi_iadd hx hb d_Pk_unpackPairs_6 ?_
  refine lv_aload_n hx hb d_Pk_unpackPairs_7 rfl (lv_at hl 2 rfl) ?_
  refine va_get (D := D) (cl := xcl) (ci := 1) (v := .int (iI ct)) (C := R_Pk) (T := T_Pk) (N := 2) hx hb hts i_Pk hown hK hP 0 rfl rfl 1 (by decide) (hts _ kw_134) (fun _ h9 => h9) rfl d_Pk_unpackPairs_8 ?_
  refine xi_icmp_ge (tgt := 48) hx hb d_Pk_unpackPairs_11 (by decide) ⟨by omega, by omega⟩ ⟨by omega, by omega⟩ (fun c_11 => ?_) (fun c_11 => ?_)
  ·
    exact x_vret hx hb hr hlocks hP hD hS (by decide) (by decide) ⟨B2, rfl, rfl, by rw [k4, pairsS_end (by omega)]⟩ d_Pk_unpackPairs_48
  ·
    refine lv_aload_n hx hb d_Pk_unpackPairs_14 rfl (lv_at hl 2 rfl) ?_
    refine lv_iload_n hx hb d_Pk_unpackPairs_15 rfl (lv_at hl 0 rfl) ?_
    refine x_aft (x_runV (C := "RasterRows$Packed") (As := [.int (iI i)]) (rest := []) (ci := 1) (q0 := 0) hx hb hml hown hts (c_Pk_byteAt l D cI cJ cQ g b P ct i (hct) (hPb) (by omega)) kw_350 kw_351 kw_352 kw_6 kw_353 ds_Pk_byteAt (by decide) hK (hP.sub (ws' := [(g, .inr (1, [.ref b, .int (iI ct)])), (b, .inl (cI, 4096, .inl (iA P)))]) [0, 1] rfl) (hD.sub (ws' := [(g, .inr (1, [.ref b, .int (iI ct)])), (b, .inl (cI, 4096, .inl (iA P)))]) [0, 1] (by decide) rfl) rfl rfl rfl hl.1 rfl (Nat.le_of_ble_eq_true rfl) d_Pk_unpackPairs_16) hP hD hS hA [0, 1] [2, 3] rfl (wr := [(h, .inr (2, [.ref a, .int (iI op), .int (iI x), .int (iI y), .int (iI sc), .int (iI wd), .int (iI ht), .int (iI ln), .int (iI rw)])), (a, .inl (cI, 640, .inl (iA B2)))]) rfl (by decide) (by decide) (fun v w1 H locs hq hP hD hS => ?_)
    obtain ⟨rfl, rfl, hb_16⟩ := hq
    refine W.cs (cells' := 0) (slots' := 0) rfl rfl ?_
    refine W.eq (g2 := F0 m 19 ls [.int (iI (P i.toNat))]) rfl ?_
    have hP : va_P D xcl [(h, .inr (2, [.ref a, .int (iI op), .int (iI x), .int (iI y), .int (iI sc), .int (iI wd), .int (iI ht), .int (iI ln), .int (iI rw)])), (a, .inl (cI, 640, .inl (iA B2))), (g, .inr (1, [.ref b, .int (iI ct)])), (b, .inl (cI, 4096, .inl (iA P)))] _ := hP
    have hD : va_D A [(h, .inr (2, [.ref a, .int (iI op), .int (iI x), .int (iI y), .int (iI sc), .int (iI wd), .int (iI ht), .int (iI ln), .int (iI rw)])), (a, .inl (cI, 640, .inl (iA B2))), (g, .inr (1, [.ref b, .int (iI ct)])), (b, .inl (cI, 4096, .inl (iA P)))] := hD
    refine xi_iconst hx hb d_Pk_unpackPairs_19 ?_
    refine xi_iadd hx hb d_Pk_unpackPairs_20 ?_
    refine lv_istore (lv' := [(4, .int (iI ((P i.toNat) + 1))), (3, .int (iI i)), (2, .int (iI pl)), (0, .ref g), (1, .ref h)]) hx hb d_Pk_unpackPairs_21 hl (by decide) rfl (fun ls hl => ?_)
    refine lv_aload_n hx hb d_Pk_unpackPairs_23 rfl (lv_at hl 4 rfl) ?_
    refine lv_iload_n hx hb d_Pk_unpackPairs_24 rfl (lv_at hl 2 rfl) ?_
    refine lv_iload hx hb d_Pk_unpackPairs_25 (lv_at hl 0 rfl) ?_
    refine lv_aload_n hx hb d_Pk_unpackPairs_27 rfl (lv_at hl 3 rfl) ?_
    refine lv_iload_n hx hb d_Pk_unpackPairs_28 rfl (lv_at hl 1 rfl) ?_
    refine xi_iconst hx hb d_Pk_unpackPairs_29 ?_
    refine xi_iadd hx hb d_Pk_unpackPairs_30 ?_
    refine x_aft (x_runV (C := "RasterRows$Packed") (As := [.int (iI (i + 1))]) (rest := [.int (iI ((P i.toNat) + 1)), .int (iI pl), .ref h]) (ci := 1) (q0 := 0) hx hb hml hown hts (c_Pk_byteAt l D cI cJ cQ g b P ct (i + 1) (hct) (hPb) (by omega)) kw_350 kw_351 kw_352 kw_6 kw_353 ds_Pk_byteAt (by decide) hK (hP.sub (ws' := [(g, .inr (1, [.ref b, .int (iI ct)])), (b, .inl (cI, 4096, .inl (iA P)))]) [2, 3] rfl) (hD.sub (ws' := [(g, .inr (1, [.ref b, .int (iI ct)])), (b, .inl (cI, 4096, .inl (iA P)))]) [2, 3] (by decide) rfl) rfl rfl rfl hl.1 rfl (Nat.le_of_ble_eq_true rfl) d_Pk_unpackPairs_31) hP hD hS hA [2, 3] [0, 1] rfl (wr := [(h, .inr (2, [.ref a, .int (iI op), .int (iI x), .int (iI y), .int (iI sc), .int (iI wd), .int (iI ht), .int (iI ln), .int (iI rw)])), (a, .inl (cI, 640, .inl (iA B2)))]) rfl (by decide) (by decide) (fun v w1 H locs hq hP hD hS => ?_)
    obtain ⟨rfl, rfl, hb_31⟩ := hq
    refine W.cs (cells' := 0) (slots' := 0) rfl rfl ?_
    refine W.eq (g2 := F0 m 34 ls [.int (iI (P (i + 1).toNat)), .int (iI ((P i.toNat) + 1)), .int (iI pl), .ref h]) rfl ?_
    have hP : va_P D xcl [(h, .inr (2, [.ref a, .int (iI op), .int (iI x), .int (iI y), .int (iI sc), .int (iI wd), .int (iI ht), .int (iI ln), .int (iI rw)])), (a, .inl (cI, 640, .inl (iA B2))), (g, .inr (1, [.ref b, .int (iI ct)])), (b, .inl (cI, 4096, .inl (iA P)))] _ := hP
    have hD : va_D A [(h, .inr (2, [.ref a, .int (iI op), .int (iI x), .int (iI y), .int (iI sc), .int (iI wd), .int (iI ht), .int (iI ln), .int (iI rw)])), (a, .inl (cI, 640, .inl (iA B2))), (g, .inr (1, [.ref b, .int (iI ct)])), (b, .inl (cI, 4096, .inl (iA P)))] := hD
    refine x_aft (x_runV (C := "RasterRows$Raster") (As := [.int (iI pl), .int (iI ((P i.toNat) + 1)), .int (iI (P (i + 1).toNat))]) (rest := []) (ci := 2) (q0 := 0) hx hb hml hown hts (c_Ra_repeat l D cI cJ cQ h a B2 op x y sc wd ht ln rw pl ((P i.toNat) + 1) (P (i + 1).toNat) (hln) (⟨by omega, by omega⟩) (⟨by omega, by omega⟩)) kw_369 kw_370 kw_371 kw_5 kw_372 ds_Ra_repeat (by decide) hK (hP.sub (ws' := [(h, .inr (2, [.ref a, .int (iI op), .int (iI x), .int (iI y), .int (iI sc), .int (iI wd), .int (iI ht), .int (iI ln), .int (iI rw)])), (a, .inl (cI, 640, .inl (iA B2)))]) [0, 1] rfl) (hD.sub (ws' := [(h, .inr (2, [.ref a, .int (iI op), .int (iI x), .int (iI y), .int (iI sc), .int (iI wd), .int (iI ht), .int (iI ln), .int (iI rw)])), (a, .inl (cI, 640, .inl (iA B2)))]) [0, 1] (by decide) rfl) rfl rfl rfl hl.1 rfl (Nat.le_of_ble_eq_true rfl) d_Pk_unpackPairs_34) hP hD hS hA [0, 1] [2, 3] rfl (wr := [(g, .inr (1, [.ref b, .int (iI ct)])), (b, .inl (cI, 4096, .inl (iA P)))]) rfl (by decide) (by decide) (fun v w1 H locs hq hP hD hS => ?_)
    obtain ⟨B2_34, rfl, rfl, hB2_34⟩ := hq
    refine W.cs (cells' := 0) (slots' := 0) rfl rfl ?_
    refine W.eq (g2 := F0 m 37 ls []) rfl ?_
    have hP : va_P D xcl [(g, .inr (1, [.ref b, .int (iI ct)])), (b, .inl (cI, 4096, .inl (iA P))), (h, .inr (2, [.ref a, .int (iI op), .int (iI x), .int (iI y), .int (iI sc), .int (iI wd), .int (iI ht), .int (iI ln), .int (iI rw)])), (a, .inl (cI, 640, .inl (iA B2_34)))] _ := hP
    have hD : va_D A [(g, .inr (1, [.ref b, .int (iI ct)])), (b, .inl (cI, 4096, .inl (iA P))), (h, .inr (2, [.ref a, .int (iI op), .int (iI x), .int (iI y), .int (iI sc), .int (iI wd), .int (iI ht), .int (iI ln), .int (iI rw)])), (a, .inl (cI, 640, .inl (iA B2_34)))] := hD
    refine lv_iload_n hx hb d_Pk_unpackPairs_37 rfl (lv_at hl 2 rfl) ?_
    refine lv_iload hx hb d_Pk_unpackPairs_38 (lv_at hl 0 rfl) ?_
    refine xi_iadd hx hb d_Pk_unpackPairs_40 ?_
    refine lv_istore_n (lv' := [(2, .int (iI (pl + ((P i.toNat) + 1)))), (4, .int (iI ((P i.toNat) + 1))), (3, .int (iI i)), (0, .ref g), (1, .ref h)]) hx hb d_Pk_unpackPairs_41 rfl hl (by decide) rfl (fun ls hl => ?_)
    refine xi_iinc (lv' := [(3, .int (iI (i + 2))), (2, .int (iI (pl + ((P i.toNat) + 1)))), (4, .int (iI ((P i.toNat) + 1))), (0, .ref g), (1, .ref h)]) hx hb d_Pk_unpackPairs_42 hl (k := 2) rfl (by decide) rfl (fun ls hl => ?_)
    refine lv_goto (tgt := 4) hx hb d_Pk_unpackPairs_45 (by decide) ?_
    exact ih_4 (i + 2) (pl + ((P i.toNat) + 1)) B2_34 (n - 1) _ _ _ (by omega) ⟨by omega, by omega, by omega, by rw [k4, pairsS_go (by omega) c_11, hB2_34], hP, hD, hS, (lv_sub hl [0, 1, 3, 4] rfl)⟩

theorem d_Pk_unpackRuns_0 : decode b_Pk_unpackRuns 0 = .ok (.iconst 0, 1) := by decide +kernel
theorem d_Pk_unpackRuns_1 : decode b_Pk_unpackRuns 1 = .ok (.istore_n 2, 1) := by decide +kernel
theorem d_Pk_unpackRuns_2 : decode b_Pk_unpackRuns 2 = .ok (.iconst 0, 1) := by decide +kernel
theorem d_Pk_unpackRuns_3 : decode b_Pk_unpackRuns 3 = .ok (.istore_n 3, 1) := by decide +kernel
theorem d_Pk_unpackRuns_4 : decode b_Pk_unpackRuns 4 = .ok (.iload_n 3, 1) := by decide +kernel
theorem d_Pk_unpackRuns_5 : decode b_Pk_unpackRuns 5 = .ok (.aload_n 0, 1) := by decide +kernel
theorem d_Pk_unpackRuns_6 : decode b_Pk_unpackRuns 6 = .ok (.getfield 15, 3) := by decide +kernel
theorem d_Pk_unpackRuns_9 : decode b_Pk_unpackRuns 9 = .ok (.if_icmp .ge 105, 3) := by decide +kernel
theorem d_Pk_unpackRuns_12 : decode b_Pk_unpackRuns 12 = .ok (.aload_n 0, 1) := by decide +kernel
theorem d_Pk_unpackRuns_13 : decode b_Pk_unpackRuns 13 = .ok (.iload_n 3, 1) := by decide +kernel
theorem d_Pk_unpackRuns_14 : decode b_Pk_unpackRuns 14 = .ok (.invokevirtual 38, 3) := by decide +kernel
theorem d_Pk_unpackRuns_17 : decode b_Pk_unpackRuns 17 = .ok (.istore 4, 2) := by decide +kernel
theorem d_Pk_unpackRuns_19 : decode b_Pk_unpackRuns 19 = .ok (.iinc 3 1, 3) := by decide +kernel
theorem d_Pk_unpackRuns_22 : decode b_Pk_unpackRuns 22 = .ok (.iload 4, 2) := by decide +kernel
theorem d_Pk_unpackRuns_24 : decode b_Pk_unpackRuns 24 = .ok (.sipush 128, 3) := by decide +kernel
theorem d_Pk_unpackRuns_27 : decode b_Pk_unpackRuns 27 = .ok (.if_icmp .ge 40, 3) := by decide +kernel
theorem d_Pk_unpackRuns_30 : decode b_Pk_unpackRuns 30 = .ok (.iload 4, 2) := by decide +kernel
theorem d_Pk_unpackRuns_32 : decode b_Pk_unpackRuns 32 = .ok (.iconst 1, 1) := by decide +kernel
theorem d_Pk_unpackRuns_33 : decode b_Pk_unpackRuns 33 = .ok (.iadd, 1) := by decide +kernel
theorem d_Pk_unpackRuns_34 : decode b_Pk_unpackRuns 34 = .ok (.aload_n 0, 1) := by decide +kernel
theorem d_Pk_unpackRuns_35 : decode b_Pk_unpackRuns 35 = .ok (.getfield 15, 3) := by decide +kernel
theorem d_Pk_unpackRuns_38 : decode b_Pk_unpackRuns 38 = .ok (.iload_n 3, 1) := by decide +kernel
theorem d_Pk_unpackRuns_39 : decode b_Pk_unpackRuns 39 = .ok (.isub, 1) := by decide +kernel
theorem d_Pk_unpackRuns_40 : decode b_Pk_unpackRuns 40 = .ok (.invokestatic 50, 3) := by decide +kernel
theorem d_Pk_unpackRuns_43 : decode b_Pk_unpackRuns 43 = .ok (.istore 5, 2) := by decide +kernel
theorem d_Pk_unpackRuns_45 : decode b_Pk_unpackRuns 45 = .ok (.aload_n 0, 1) := by decide +kernel
theorem d_Pk_unpackRuns_46 : decode b_Pk_unpackRuns 46 = .ok (.iload_n 3, 1) := by decide +kernel
theorem d_Pk_unpackRuns_47 : decode b_Pk_unpackRuns 47 = .ok (.iload 5, 2) := by decide +kernel
theorem d_Pk_unpackRuns_49 : decode b_Pk_unpackRuns 49 = .ok (.aload_n 1, 1) := by decide +kernel
theorem d_Pk_unpackRuns_50 : decode b_Pk_unpackRuns 50 = .ok (.iload_n 2, 1) := by decide +kernel
theorem d_Pk_unpackRuns_51 : decode b_Pk_unpackRuns 51 = .ok (.invokevirtual 34, 3) := by decide +kernel
theorem d_Pk_unpackRuns_54 : decode b_Pk_unpackRuns 54 = .ok (.iload_n 2, 1) := by decide +kernel
theorem d_Pk_unpackRuns_55 : decode b_Pk_unpackRuns 55 = .ok (.iload 5, 2) := by decide +kernel
theorem d_Pk_unpackRuns_57 : decode b_Pk_unpackRuns 57 = .ok (.iadd, 1) := by decide +kernel
theorem d_Pk_unpackRuns_58 : decode b_Pk_unpackRuns 58 = .ok (.istore_n 2, 1) := by decide +kernel
theorem d_Pk_unpackRuns_59 : decode b_Pk_unpackRuns 59 = .ok (.iload_n 3, 1) := by decide +kernel
theorem d_Pk_unpackRuns_60 : decode b_Pk_unpackRuns 60 = .ok (.iload 5, 2) := by decide +kernel
theorem d_Pk_unpackRuns_62 : decode b_Pk_unpackRuns 62 = .ok (.iadd, 1) := by decide +kernel
theorem d_Pk_unpackRuns_63 : decode b_Pk_unpackRuns 63 = .ok (.istore_n 3, 1) := by decide +kernel
theorem d_Pk_unpackRuns_64 : decode b_Pk_unpackRuns 64 = .ok (.goto 47, 3) := by decide +kernel
theorem d_Pk_unpackRuns_67 : decode b_Pk_unpackRuns 67 = .ok (.iload 4, 2) := by decide +kernel
theorem d_Pk_unpackRuns_69 : decode b_Pk_unpackRuns 69 = .ok (.sipush 128, 3) := by decide +kernel
theorem d_Pk_unpackRuns_72 : decode b_Pk_unpackRuns 72 = .ok (.if_icmp .le 39, 3) := by decide +kernel
theorem d_Pk_unpackRuns_75 : decode b_Pk_unpackRuns 75 = .ok (.iload_n 3, 1) := by decide +kernel
theorem d_Pk_unpackRuns_76 : decode b_Pk_unpackRuns 76 = .ok (.aload_n 0, 1) := by decide +kernel
theorem d_Pk_unpackRuns_77 : decode b_Pk_unpackRuns 77 = .ok (.getfield 15, 3) := by decide +kernel
theorem d_Pk_unpackRuns_80 : decode b_Pk_unpackRuns 80 = .ok (.if_icmp .ge 31, 3) := by decide +kernel
theorem d_Pk_unpackRuns_83 : decode b_Pk_unpackRuns 83 = .ok (.aload_n 1, 1) := by decide +kernel
theorem d_Pk_unpackRuns_84 : decode b_Pk_unpackRuns 84 = .ok (.iload_n 2, 1) := by decide +kernel
theorem d_Pk_unpackRuns_85 : decode b_Pk_unpackRuns 85 = .ok (.sipush 257, 3) := by decide +kernel
theorem d_Pk_unpackRuns_88 : decode b_Pk_unpackRuns 88 = .ok (.iload 4, 2) := by decide +kernel
theorem d_Pk_unpackRuns_90 : decode b_Pk_unpackRuns 90 = .ok (.isub, 1) := by decide +kernel
theorem d_Pk_unpackRuns_91 : decode b_Pk_unpackRuns 91 = .ok (.aload_n 0, 1) := by decide +kernel
theorem d_Pk_unpackRuns_92 : decode b_Pk_unpackRuns 92 = .ok (.iload_n 3, 1) := by decide +kernel
theorem d_Pk_unpackRuns_93 : decode b_Pk_unpackRuns 93 = .ok (.invokevirtual 38, 3) := by decide +kernel
theorem d_Pk_unpackRuns_96 : decode b_Pk_unpackRuns 96 = .ok (.invokevirtual 46, 3) := by decide +kernel
theorem d_Pk_unpackRuns_99 : decode b_Pk_unpackRuns 99 = .ok (.iload_n 2, 1) := by decide +kernel
theorem d_Pk_unpackRuns_100 : decode b_Pk_unpackRuns 100 = .ok (.sipush 257, 3) := by decide +kernel
theorem d_Pk_unpackRuns_103 : decode b_Pk_unpackRuns 103 = .ok (.iload 4, 2) := by decide +kernel
theorem d_Pk_unpackRuns_105 : decode b_Pk_unpackRuns 105 = .ok (.isub, 1) := by decide +kernel
theorem d_Pk_unpackRuns_106 : decode b_Pk_unpackRuns 106 = .ok (.iadd, 1) := by decide +kernel
theorem d_Pk_unpackRuns_107 : decode b_Pk_unpackRuns 107 = .ok (.istore_n 2, 1) := by decide +kernel
theorem d_Pk_unpackRuns_108 : decode b_Pk_unpackRuns 108 = .ok (.iinc 3 1, 3) := by decide +kernel
theorem d_Pk_unpackRuns_111 : decode b_Pk_unpackRuns 111 = .ok (.goto (-107), 3) := by decide +kernel
theorem d_Pk_unpackRuns_114 : decode b_Pk_unpackRuns 114 = .ok (.return_, 1) := by decide +kernel
theorem ds_Pk_unpackRuns : xDesc y_Pk_unpackRuns 1 := by decide +kernel

abbrev rm_Pk_unpackRuns : Room := { frames := 3, cells := 0, slots := 0, locals := 68 }
set_option maxHeartbeats 4000000 in
set_option maxRecDepth 100000 in
/-- Packed.unpackRuns -/
theorem c_Pk_unpackRuns (l : Launch) (D : va_G) (cI cJ cQ : ClassId) (g : Nat) (b : Nat) (P : Nat → Int) (ct : Int) (h : Nat) (a : Nat) (B : Nat → Int) (op : Int) (x : Int) (y : Int) (sc : Int) (wd : Int) (ht : Int) (ln : Int) (rw : Int) (hct : 0 ≤ ct ∧ ct ≤ 4096) (hPb : ∀ j : Nat, 0 ≤ P j ∧ P j < 256) (hln : 0 ≤ ln ∧ ln ≤ 640) : xMet l D (xT cI cJ cQ) y_Pk_unpackRuns b_Pk_unpackRuns 6 none rm_Pk_unpackRuns [.ref g, .ref h] [(g, .inr (1, [.ref b, .int (iI ct)])), (b, .inl (cI, 4096, .inl (iA P))), (h, .inr (2, [.ref a, .int (iI op), .int (iI x), .int (iI y), .int (iI sc), .int (iI wd), .int (iI ht), .int (iI ln), .int (iI rw)])), (a, .inl (cI, 640, .inl (iA B)))] (fun v ws => ∃ (B2 : Nat → Int), v = none ∧ ws = [(g, .inr (1, [.ref b, .int (iI ct)])), (b, .inl (cI, 4096, .inl (iA P))), (h, .inr (2, [.ref a, .int (iI op), .int (iI x), .int (iI y), .int (iI sc), .int (iI wd), .int (iI ht), .int (iI ln), .int (iI rw)])), (a, .inl (cI, 640, .inl (iA B2)))] ∧ (B2 = runsS P ct ln 5000 0 0 B)) := by
  refine x_met (by decide) (Nat.le_of_ble_eq_true rfl) ?_
  intro p e s m below meth c hx hb hr hml hts hown hlocks hin hF0 A hA hP hD hK ls hl hS
  have hl : lv_has ls 6 [(0, .ref g), (1, .ref h)] := hl
  refine xi_iconst hx hb d_Pk_unpackRuns_0 ?_
  refine lv_istore_n (lv' := [(2, .int (iI 0)), (0, .ref g), (1, .ref h)]) hx hb d_Pk_unpackRuns_1 rfl hl (by decide) rfl (fun ls hl => ?_)
  refine xi_iconst hx hb d_Pk_unpackRuns_2 ?_
  refine lv_istore_n (lv' := [(3, .int (iI 0)), (2, .int (iI 0)), (0, .ref g), (1, .ref h)]) hx hb d_Pk_unpackRuns_3 rfl hl (by decide) rfl (fun ls hl => ?_)
  refine x_loop4 (fun (i : Int) (pl : Int) (B2 : Nat → Int) (n : Nat) H locs ls => (0 ≤ i ∧ i ≤ ct) ∧ (0 ≤ pl ∧ pl ≤ 256 * i) ∧ (ct - i + 1 < (n : Int)) ∧ (runsS P ct ln 5000 0 0 B = runsS P ct ln n i pl B2) ∧ va_P D xcl [(g, .inr (1, [.ref b, .int (iI ct)])), (b, .inl (cI, 4096, .inl (iA P))), (h, .inr (2, [.ref a, .int (iI op), .int (iI x), .int (iI y), .int (iI sc), .int (iI wd), .int (iI ht), .int (iI ln), .int (iI rw)])), (a, .inl (cI, 640, .inl (iA B2)))] H ∧ va_D A [(g, .inr (1, [.ref b, .int (iI ct)])), (b, .inl (cI, 4096, .inl (iA P))), (h, .inr (2, [.ref a, .int (iI op), .int (iI x), .int (iI y), .int (iI sc), .int (iI wd), .int (iI ht), .int (iI ln), .int (iI rw)])), (a, .inl (cI, 640, .inl (iA B2)))] ∧ va_S A s.heap H locs ∧ lv_has ls 6 [(3, .int (iI i)), (2, .int (iI pl)), (0, .ref g), (1, .ref h)]) (fun (i : Int) (pl : Int) (B2 : Nat → Int) (n : Nat) => n) 0 0 B 5000 ⟨by omega, by omega, by omega, rfl, hP, hD, hS, hl⟩ ?_
  intro i pl B2 n H locs ls hI ih_4
  obtain ⟨k1, k2, k3, k4, hP, hD, hS, hl⟩ := hI
  refine lv_iload_n hx hb d_Pk_unpackRuns_4 rfl (lv_at hl 0 rfl) ?_
  refine lv_aload_n hx hb d_Pk_unpackRuns_5 rfl (lv_at hl 2 rfl) ?_
  refine va_get (D := D) (cl := xcl) (ci := 1) (v := .int (iI ct)) (C := R_Pk) (T := T_Pk) (N := 2) hx hb hts i_Pk hown hK hP 0 rfl rfl 1 (by decide) (hts _ kw_134) (fun _ h9 => h9) rfl d_Pk_unpackRuns_6 ?_
  refine xi_icmp_ge (tgt := 114) hx hb d_Pk_unpackRuns_9 (by decide) ⟨by omega, by omega⟩ ⟨by omega, by omega⟩ (fun c_9 => ?_) (fun c_9 => ?_)
  ·
    exact x_vret hx hb hr hlocks hP hD hS (by decide) (by decide) ⟨B2, rfl, rfl, by rw [k4, runsS_end (by omega)]⟩ d_Pk_unpackRuns_114
  ·
    refine lv_aload_n hx hb d_Pk_unpackRuns_12 rfl (lv_at hl 2 rfl) ?_
    refine lv_iload_n hx hb d_Pk_unpackRuns_13 rfl (lv_at hl 0 rfl) ?_
    refine x_aft (x_runV (C := "RasterRows$Packed") (As := [.int (iI i)]) (rest := []) (ci := 1) (q0 := 0) hx hb hml hown hts (c_Pk_byteAt l D cI cJ cQ g b P ct i (hct) (hPb) (by omega)) kw_350 kw_351 kw_352 kw_6 kw_353 ds_Pk_byteAt (by decide) hK (hP.sub (ws' := [(g, .inr (1, [.ref b, .int (iI ct)])), (b, .inl (cI, 4096, .inl (iA P)))]) [0, 1] rfl) (hD.sub (ws' := [(g, .inr (1, [.ref b, .int (iI ct)])), (b, .inl (cI, 4096, .inl (iA P)))]) [0, 1] (by decide) rfl) rfl rfl rfl hl.1 rfl (Nat.le_of_ble_eq_true rfl) d_Pk_unpackRuns_14) hP hD hS hA [0, 1] [2, 3] rfl (wr := [(h, .inr (2, [.ref a, .int (iI op), .int (iI x), .int (iI y), .int (iI sc), .int (iI wd), .int (iI ht), .int (iI ln), .int (iI rw)])), (a, .inl (cI, 640, .inl (iA B2)))]) rfl (by decide) (by decide) (fun v w1 H locs hq hP hD hS => ?_)
    obtain ⟨rfl, rfl, hb_14⟩ := hq
    refine W.cs (cells' := 0) (slots' := 0) rfl rfl ?_
    refine W.eq (g2 := F0 m 17 ls [.int (iI (P i.toNat))]) rfl ?_
    have hP : va_P D xcl [(h, .inr (2, [.ref a, .int (iI op), .int (iI x), .int (iI y), .int (iI sc), .int (iI wd), .int (iI ht), .int (iI ln), .int (iI rw)])), (a, .inl (cI, 640, .inl (iA B2))), (g, .inr (1, [.ref b, .int (iI ct)])), (b, .inl (cI, 4096, .inl (iA P)))] _ := hP
    have hD : va_D A [(h, .inr (2, [.ref a, .int (iI op), .int (iI x), .int (iI y), .int (iI sc), .int (iI wd), .int (iI ht), .int (iI ln), .int (iI rw)])), (a, .inl (cI, 640, .inl (iA B2))), (g, .inr (1, [.ref b, .int (iI ct)])), (b, .inl (cI, 4096, .inl (iA P)))] := hD
    refine lv_istore (lv' := [(4, .int (iI (P i.toNat))), (3, .int (iI i)), (2, .int (iI pl)), (0, .ref g), (1, .ref h)]) hx hb d_Pk_unpackRuns_17 hl (by decide) rfl (fun ls hl => ?_)
    refine xi_iinc (lv' := [(3, .int (iI (i + 1))), (4, .int (iI (P i.toNat))), (2, .int (iI pl)), (0, .ref g), (1, .ref h)]) hx hb d_Pk_unpackRuns_19 hl (k := 1) rfl (by decide) rfl (fun ls hl => ?_)
    refine lv_iload hx hb d_Pk_unpackRuns_22 (lv_at hl 1 rfl) ?_
    refine xi_sipush hx hb d_Pk_unpackRuns_24 (by decide) ?_
    refine xi_icmp_ge (tgt := 67) hx hb d_Pk_unpackRuns_27 (by decide) ⟨by omega, by omega⟩ ⟨by decide, by decide⟩ (fun c_27 => ?_) (fun c_27 => ?_)
    ·
      refine lv_iload hx hb d_Pk_unpackRuns_67 (lv_at hl 1 rfl) ?_
      refine xi_sipush hx hb d_Pk_unpackRuns_69 (by decide) ?_
      refine xi_icmp_le (tgt := 111) hx hb d_Pk_unpackRuns_72 (by decide) ⟨by omega, by omega⟩ ⟨by decide, by decide⟩ (fun c_72 => ?_) (fun c_72 => ?_)
      ·
        refine lv_goto (tgt := 4) hx hb d_Pk_unpackRuns_111 (by decide) ?_
        exact ih_4 (i + 1) pl B2 (n - 1) _ _ _ (by omega) ⟨by omega, by omega, by omega, by rw [k4]; first | (rw [runsS_lit (by omega) c_9 c_27, hB2_51]; done) | (rw [runsS_rep (by omega) c_9 c_72 c_80, hB2_96]; done) | exact runsS_nop (by omega) c_9 c_27 (by omega), (hP.sub (ws' := [(g, .inr (1, [.ref b, .int (iI ct)])), (b, .inl (cI, 4096, .inl (iA P))), (h, .inr (2, [.ref a, .int (iI op), .int (iI x), .int (iI y), .int (iI sc), .int (iI wd), .int (iI ht), .int (iI ln), .int (iI rw)])), (a, .inl (cI, 640, .inl (iA B2)))]) [2, 3, 0, 1] rfl), (hD.sub (ws' := [(g, .inr (1, [.ref b, .int (iI ct)])), (b, .inl (cI, 4096, .inl (iA P))), (h, .inr (2, [.ref a, .int (iI op), .int (iI x), .int (iI y), .int (iI sc), .int (iI wd), .int (iI ht), .int (iI ln), .int (iI rw)])), (a, .inl (cI, 640, .inl (iA B2)))]) [2, 3, 0, 1] (by decide) rfl), hS, (lv_sub hl [0, 2, 3, 4] rfl)⟩
      ·
        refine lv_iload_n hx hb d_Pk_unpackRuns_75 rfl (lv_at hl 0 rfl) ?_
        refine lv_aload_n hx hb d_Pk_unpackRuns_76 rfl (lv_at hl 3 rfl) ?_
        refine va_get (D := D) (cl := xcl) (ci := 1) (v := .int (iI ct)) (C := R_Pk) (T := T_Pk) (N := 2) hx hb hts i_Pk hown hK hP 2 rfl rfl 1 (by decide) (hts _ kw_134) (fun _ h9 => h9) rfl d_Pk_unpackRuns_77 ?_
        refine xi_icmp_ge (tgt := 111) hx hb d_Pk_unpackRuns_80 (by decide) ⟨by omega, by omega⟩ ⟨by omega, by omega⟩ (fun c_80 => ?_) (fun c_80 => ?_)
        ·
          refine lv_goto (tgt := 4) hx hb d_Pk_unpackRuns_111 (by decide) ?_
          exact ih_4 (i + 1) pl B2 (n - 1) _ _ _ (by omega) ⟨by omega, by omega, by omega, by rw [k4]; first | (rw [runsS_lit (by omega) c_9 c_27, hB2_51]; done) | (rw [runsS_rep (by omega) c_9 c_72 c_80, hB2_96]; done) | exact runsS_nop (by omega) c_9 c_27 (by omega), (hP.sub (ws' := [(g, .inr (1, [.ref b, .int (iI ct)])), (b, .inl (cI, 4096, .inl (iA P))), (h, .inr (2, [.ref a, .int (iI op), .int (iI x), .int (iI y), .int (iI sc), .int (iI wd), .int (iI ht), .int (iI ln), .int (iI rw)])), (a, .inl (cI, 640, .inl (iA B2)))]) [2, 3, 0, 1] rfl), (hD.sub (ws' := [(g, .inr (1, [.ref b, .int (iI ct)])), (b, .inl (cI, 4096, .inl (iA P))), (h, .inr (2, [.ref a, .int (iI op), .int (iI x), .int (iI y), .int (iI sc), .int (iI wd), .int (iI ht), .int (iI ln), .int (iI rw)])), (a, .inl (cI, 640, .inl (iA B2)))]) [2, 3, 0, 1] (by decide) rfl), hS, (lv_sub hl [0, 2, 3, 4] rfl)⟩
        ·
          refine lv_aload_n hx hb d_Pk_unpackRuns_83 rfl (lv_at hl 4 rfl) ?_
          refine lv_iload_n hx hb d_Pk_unpackRuns_84 rfl (lv_at hl 2 rfl) ?_
          refine xi_sipush hx hb d_Pk_unpackRuns_85 (by decide) ?_
          refine lv_iload hx hb d_Pk_unpackRuns_88 (lv_at hl 1 rfl) ?_
          refine xi_isub hx hb d_Pk_unpackRuns_90 ?_
          refine lv_aload_n hx hb d_Pk_unpackRuns_91 rfl (lv_at hl 3 rfl) ?_
          refine lv_iload_n hx hb d_Pk_unpackRuns_92 rfl (lv_at hl 0 rfl) ?_
          refine x_aft (x_runV (C := "RasterRows$Packed") (As := [.int (iI (i + 1))]) (rest := [.int (iI (257 - (P i.toNat))), .int (iI pl), .ref h]) (ci := 1) (q0 := 0) hx hb hml hown hts (c_Pk_byteAt l D cI cJ cQ g b P ct (i + 1) (hct) (hPb) (by omega)) kw_350 kw_351 kw_352 kw_6 kw_353 ds_Pk_byteAt (by decide) hK (hP.sub (ws' := [(g, .inr (1, [.ref b, .int (iI ct)])), (b, .inl (cI, 4096, .inl (iA P)))]) [2, 3] rfl) (hD.sub (ws' := [(g, .inr (1, [.ref b, .int (iI ct)])), (b, .inl (cI, 4096, .inl (iA P)))]) [2, 3] (by decide) rfl) rfl rfl rfl hl.1 rfl (Nat.le_of_ble_eq_true rfl) d_Pk_unpackRuns_93) hP hD hS hA [2, 3] [0, 1] rfl (wr := [(h, .inr (2, [.ref a, .int (iI op), .int (iI x), .int (iI y), .int (iI sc), .int (iI wd), .int (iI ht), .int (iI ln), .int (iI rw)])), (a, .inl (cI, 640, .inl (iA B2)))]) rfl (by decide) (by decide) (fun v w1 H locs hq hP hD hS => ?_)
          obtain ⟨rfl, rfl, hb_93⟩ := hq
          refine W.cs (cells' := 0) (slots' := 0) rfl rfl ?_
          refine W.eq (g2 := F0 m 96 ls [.int (iI (P (i + 1).toNat)), .int (iI (257 - (P i.toNat))), .int (iI pl), .ref h]) rfl ?_
          have hP : va_P D xcl [(h, .inr (2, [.ref a, .int (iI op), .int (iI x), .int (iI y), .int (iI sc), .int (iI wd), .int (iI ht), .int (iI ln), .int (iI rw)])), (a, .inl (cI, 640, .inl (iA B2))), (g, .inr (1, [.ref b, .int (iI ct)])), (b, .inl (cI, 4096, .inl (iA P)))] _ := hP
          have hD : va_D A [(h, .inr (2, [.ref a, .int (iI op), .int (iI x), .int (iI y), .int (iI sc), .int (iI wd), .int (iI ht), .int (iI ln), .int (iI rw)])), (a, .inl (cI, 640, .inl (iA B2))), (g, .inr (1, [.ref b, .int (iI ct)])), (b, .inl (cI, 4096, .inl (iA P)))] := hD
          refine x_aft (x_runV (C := "RasterRows$Raster") (As := [.int (iI pl), .int (iI (257 - (P i.toNat))), .int (iI (P (i + 1).toNat))]) (rest := []) (ci := 2) (q0 := 0) hx hb hml hown hts (c_Ra_repeat l D cI cJ cQ h a B2 op x y sc wd ht ln rw pl (257 - (P i.toNat)) (P (i + 1).toNat) (hln) (⟨by omega, by omega⟩) (⟨by omega, by omega⟩)) kw_369 kw_370 kw_371 kw_5 kw_372 ds_Ra_repeat (by decide) hK (hP.sub (ws' := [(h, .inr (2, [.ref a, .int (iI op), .int (iI x), .int (iI y), .int (iI sc), .int (iI wd), .int (iI ht), .int (iI ln), .int (iI rw)])), (a, .inl (cI, 640, .inl (iA B2)))]) [0, 1] rfl) (hD.sub (ws' := [(h, .inr (2, [.ref a, .int (iI op), .int (iI x), .int (iI y), .int (iI sc), .int (iI wd), .int (iI ht), .int (iI ln), .int (iI rw)])), (a, .inl (cI, 640, .inl (iA B2)))]) [0, 1] (by decide) rfl) rfl rfl rfl hl.1 rfl (Nat.le_of_ble_eq_true rfl) d_Pk_unpackRuns_96) hP hD hS hA [0, 1] [2, 3] rfl (wr := [(g, .inr (1, [.ref b, .int (iI ct)])), (b, .inl (cI, 4096, .inl (iA P)))]) rfl (by decide) (by decide) (fun v w1 H locs hq hP hD hS => ?_)
          obtain ⟨B2_96, rfl, rfl, hB2_96⟩ := hq
          refine W.cs (cells' := 0) (slots' := 0) rfl rfl ?_
          refine W.eq (g2 := F0 m 99 ls []) rfl ?_
          have hP : va_P D xcl [(g, .inr (1, [.ref b, .int (iI ct)])), (b, .inl (cI, 4096, .inl (iA P))), (h, .inr (2, [.ref a, .int (iI op), .int (iI x), .int (iI y), .int (iI sc), .int (iI wd), .int (iI ht), .int (iI ln), .int (iI rw)])), (a, .inl (cI, 640, .inl (iA B2_96)))] _ := hP
          have hD : va_D A [(g, .inr (1, [.ref b, .int (iI ct)])), (b, .inl (cI, 4096, .inl (iA P))), (h, .inr (2, [.ref a, .int (iI op), .int (iI x), .int (iI y), .int (iI sc), .int (iI wd), .int (iI ht), .int (iI ln), .int (iI rw)])), (a, .inl (cI, 640, .inl (iA B2_96)))] := hD
          refine lv_iload_n hx hb d_Pk_unpackRuns_99 rfl (lv_at hl 2 rfl) ?_
          refine xi_sipush hx hb d_Pk_unpackRuns_100 (by decide) ?_
          refine lv_iload hx hb d_Pk_unpackRuns_103 (lv_at hl 1 rfl) ?_
          refine xi_isub hx hb d_Pk_unpackRuns_105 ?_
          refine xi_iadd hx hb d_Pk_unpackRuns_106 ?_
          refine lv_istore_n (lv' := [(2, .int (iI (pl + (257 - (P i.toNat))))), (3, .int (iI (i + 1))), (4, .int (iI (P i.toNat))), (0, .ref g), (1, .ref h)]) hx hb d_Pk_unpackRuns_107 rfl hl (by decide) rfl (fun ls hl => ?_)
          refine xi_iinc (lv' := [(3, .int (iI ((i + 1) + 1))), (2, .int (iI (pl + (257 - (P i.toNat))))), (4, .int (iI (P i.toNat))), (0, .ref g), (1, .ref h)]) hx hb d_Pk_unpackRuns_108 hl (k := 1) rfl (by decide) rfl (fun ls hl => ?_)
          refine lv_goto (tgt := 4) hx hb d_Pk_unpackRuns_111 (by decide) ?_
          exact ih_4 ((i + 1) + 1) (pl + (257 - (P i.toNat))) B2_96 (n - 1) _ _ _ (by omega) ⟨by omega, by omega, by omega, by rw [k4]; first | (rw [runsS_lit (by omega) c_9 c_27, hB2_51]; done) | (rw [runsS_rep (by omega) c_9 c_72 c_80, hB2_96]; done) | exact runsS_nop (by omega) c_9 c_27 (by omega), hP, hD, hS, (lv_sub hl [0, 1, 3, 4] rfl)⟩
    ·
      refine lv_iload hx hb d_Pk_unpackRuns_30 (lv_at hl 1 rfl) ?_
      refine xi_iconst hx hb d_Pk_unpackRuns_32 ?_
      refine xi_iadd hx hb d_Pk_unpackRuns_33 ?_
      refine lv_aload_n hx hb d_Pk_unpackRuns_34 rfl (lv_at hl 3 rfl) ?_
      refine va_get (D := D) (cl := xcl) (ci := 1) (v := .int (iI ct)) (C := R_Pk) (T := T_Pk) (N := 2) hx hb hts i_Pk hown hK hP 2 rfl rfl 1 (by decide) (hts _ kw_134) (fun _ h9 => h9) rfl d_Pk_unpackRuns_35 ?_
      refine lv_iload_n hx hb d_Pk_unpackRuns_38 rfl (lv_at hl 0 rfl) ?_
      refine xi_isub hx hb d_Pk_unpackRuns_39 ?_
      refine xi_mmin hx hb (hml.trans hl.1.symm) hown hts kw_354 (by decide) (Nat.le_of_ble_eq_true rfl) (by decide) (by decide) ⟨by omega, by omega⟩ ⟨by omega, by omega⟩ d_Pk_unpackRuns_40 ?_
      refine lv_istore (lv' := [(5, .int (iI (min ((P i.toNat) + 1) (ct - (i + 1))))), (3, .int (iI (i + 1))), (4, .int (iI (P i.toNat))), (2, .int (iI pl)), (0, .ref g), (1, .ref h)]) hx hb d_Pk_unpackRuns_43 hl (by decide) rfl (fun ls hl => ?_)
      refine lv_aload_n hx hb d_Pk_unpackRuns_45 rfl (lv_at hl 4 rfl) ?_
      refine lv_iload_n hx hb d_Pk_unpackRuns_46 rfl (lv_at hl 1 rfl) ?_
      refine lv_iload hx hb d_Pk_unpackRuns_47 (lv_at hl 0 rfl) ?_
      refine lv_aload_n hx hb d_Pk_unpackRuns_49 rfl (lv_at hl 5 rfl) ?_
      refine lv_iload_n hx hb d_Pk_unpackRuns_50 rfl (lv_at hl 3 rfl) ?_
      refine x_aft (x_runV (C := "RasterRows$Packed") (As := [.int (iI (i + 1)), .int (iI (min ((P i.toNat) + 1) (ct - (i + 1)))), .ref h, .int (iI pl)]) (rest := []) (ci := 1) (q0 := 0) hx hb hml hown hts (c_Pk_copy l D cI cJ cQ g b P ct h a B2 op x y sc wd ht ln rw (i + 1) (min ((P i.toNat) + 1) (ct - (i + 1))) pl (by omega) (hct) (hPb) (hln) (by omega) (by omega)) kw_355 kw_357 kp_3 kw_6 kw_358 ds_Pk_copy (by decide) hK (hP.sub (ws' := [(g, .inr (1, [.ref b, .int (iI ct)])), (b, .inl (cI, 4096, .inl (iA P))), (h, .inr (2, [.ref a, .int (iI op), .int (iI x), .int (iI y), .int (iI sc), .int (iI wd), .int (iI ht), .int (iI ln), .int (iI rw)])), (a, .inl (cI, 640, .inl (iA B2)))]) [2, 3, 0, 1] rfl) (hD.sub (ws' := [(g, .inr (1, [.ref b, .int (iI ct)])), (b, .inl (cI, 4096, .inl (iA P))), (h, .inr (2, [.ref a, .int (iI op), .int (iI x), .int (iI y), .int (iI sc), .int (iI wd), .int (iI ht), .int (iI ln), .int (iI rw)])), (a, .inl (cI, 640, .inl (iA B2)))]) [2, 3, 0, 1] (by decide) rfl) rfl rfl rfl hl.1 rfl (Nat.le_of_ble_eq_true rfl) d_Pk_unpackRuns_51) hP hD hS hA [2, 3, 0, 1] [] rfl (wr := []) rfl (by decide) (by decide) (fun v w1 H locs hq hP hD hS => ?_)
      obtain ⟨B2_51, rfl, rfl, hB2_51⟩ := hq
      refine W.cs (cells' := 0) (slots' := 0) rfl rfl ?_
      refine W.eq (g2 := F0 m 54 ls []) rfl ?_
      have hP : va_P D xcl [(g, .inr (1, [.ref b, .int (iI ct)])), (b, .inl (cI, 4096, .inl (iA P))), (h, .inr (2, [.ref a, .int (iI op), .int (iI x), .int (iI y), .int (iI sc), .int (iI wd), .int (iI ht), .int (iI ln), .int (iI rw)])), (a, .inl (cI, 640, .inl (iA B2_51)))] _ := hP
      have hD : va_D A [(g, .inr (1, [.ref b, .int (iI ct)])), (b, .inl (cI, 4096, .inl (iA P))), (h, .inr (2, [.ref a, .int (iI op), .int (iI x), .int (iI y), .int (iI sc), .int (iI wd), .int (iI ht), .int (iI ln), .int (iI rw)])), (a, .inl (cI, 640, .inl (iA B2_51)))] := hD
      refine lv_iload_n hx hb d_Pk_unpackRuns_54 rfl (lv_at hl 3 rfl) ?_
      refine lv_iload hx hb d_Pk_unpackRuns_55 (lv_at hl 0 rfl) ?_
      refine xi_iadd hx hb d_Pk_unpackRuns_57 ?_
      refine lv_istore_n (lv' := [(2, .int (iI (pl + (min ((P i.toNat) + 1) (ct - (i + 1)))))), (5, .int (iI (min ((P i.toNat) + 1) (ct - (i + 1))))), (3, .int (iI (i + 1))), (4, .int (iI (P i.toNat))), (0, .ref g), (1, .ref h)]) hx hb d_Pk_unpackRuns_58 rfl hl (by decide) rfl (fun ls hl => ?_)
      refine lv_iload_n hx hb d_Pk_unpackRuns_59 rfl (lv_at hl 2 rfl) ?_
      refine lv_iload hx hb d_Pk_unpackRuns_60 (lv_at hl 1 rfl) ?_
      refine xi_iadd hx hb d_Pk_unpackRuns_62 ?_
      refine lv_istore_n (lv' := [(3, .int (iI ((i + 1) + (min ((P i.toNat) + 1) (ct - (i + 1)))))), (2, .int (iI (pl + (min ((P i.toNat) + 1) (ct - (i + 1)))))), (5, .int (iI (min ((P i.toNat) + 1) (ct - (i + 1))))), (4, .int (iI (P i.toNat))), (0, .ref g), (1, .ref h)]) hx hb d_Pk_unpackRuns_63 rfl hl (by decide) rfl (fun ls hl => ?_)
      refine lv_goto (tgt := 111) hx hb d_Pk_unpackRuns_64 (by decide) ?_
      refine lv_goto (tgt := 4) hx hb d_Pk_unpackRuns_111 (by decide) ?_
      exact ih_4 ((i + 1) + (min ((P i.toNat) + 1) (ct - (i + 1)))) (pl + (min ((P i.toNat) + 1) (ct - (i + 1)))) B2_51 (n - 1) _ _ _ (by omega) ⟨by omega, by omega, by omega, by rw [k4]; first | (rw [runsS_lit (by omega) c_9 c_27, hB2_51]; done) | (rw [runsS_rep (by omega) c_9 c_72 c_80, hB2_96]; done) | exact runsS_nop (by omega) c_9 c_27 (by omega), hP, hD, hS, (lv_sub hl [0, 1, 4, 5] rfl)⟩

theorem d_Pk_unpackChanges_0 : decode b_Pk_unpackChanges 0 = .ok (.iconst 0, 1) := by decide +kernel
theorem d_Pk_unpackChanges_1 : decode b_Pk_unpackChanges 1 = .ok (.istore_n 2, 1) := by decide +kernel
theorem d_Pk_unpackChanges_2 : decode b_Pk_unpackChanges 2 = .ok (.iconst 0, 1) := by decide +kernel
theorem d_Pk_unpackChanges_3 : decode b_Pk_unpackChanges 3 = .ok (.istore_n 3, 1) := by decide +kernel
theorem d_Pk_unpackChanges_4 : decode b_Pk_unpackChanges 4 = .ok (.iload_n 3, 1) := by decide +kernel
theorem d_Pk_unpackChanges_5 : decode b_Pk_unpackChanges 5 = .ok (.aload_n 0, 1) := by decide +kernel
theorem d_Pk_unpackChanges_6 : decode b_Pk_unpackChanges 6 = .ok (.getfield 15, 3) := by decide +kernel
theorem d_Pk_unpackChanges_9 : decode b_Pk_unpackChanges 9 = .ok (.if_icmp .ge 124, 3) := by decide +kernel
theorem d_Pk_unpackChanges_12 : decode b_Pk_unpackChanges 12 = .ok (.aload_n 0, 1) := by decide +kernel
theorem d_Pk_unpackChanges_13 : decode b_Pk_unpackChanges 13 = .ok (.iload_n 3, 1) := by decide +kernel
theorem d_Pk_unpackChanges_14 : decode b_Pk_unpackChanges 14 = .ok (.invokevirtual 38, 3) := by decide +kernel
theorem d_Pk_unpackChanges_17 : decode b_Pk_unpackChanges 17 = .ok (.istore 4, 2) := by decide +kernel
theorem d_Pk_unpackChanges_19 : decode b_Pk_unpackChanges 19 = .ok (.iinc 3 1, 3) := by decide +kernel
theorem d_Pk_unpackChanges_22 : decode b_Pk_unpackChanges 22 = .ok (.iload_n 2, 1) := by decide +kernel
theorem d_Pk_unpackChanges_23 : decode b_Pk_unpackChanges 23 = .ok (.iload 4, 2) := by decide +kernel
theorem d_Pk_unpackChanges_25 : decode b_Pk_unpackChanges 25 = .ok (.bipush 32, 2) := by decide +kernel
theorem d_Pk_unpackChanges_27 : decode b_Pk_unpackChanges 27 = .ok (.irem, 1) := by decide +kernel
theorem d_Pk_unpackChanges_28 : decode b_Pk_unpackChanges 28 = .ok (.iadd, 1) := by decide +kernel
theorem d_Pk_unpackChanges_29 : decode b_Pk_unpackChanges 29 = .ok (.istore_n 2, 1) := by decide +kernel
theorem d_Pk_unpackChanges_30 : decode b_Pk_unpackChanges 30 = .ok (.iload 4, 2) := by decide +kernel
theorem d_Pk_unpackChanges_32 : decode b_Pk_unpackChanges 32 = .ok (.bipush 32, 2) := by decide +kernel
theorem d_Pk_unpackChanges_34 : decode b_Pk_unpackChanges 34 = .ok (.irem, 1) := by decide +kernel
theorem d_Pk_unpackChanges_35 : decode b_Pk_unpackChanges 35 = .ok (.bipush 31, 2) := by decide +kernel
theorem d_Pk_unpackChanges_37 : decode b_Pk_unpackChanges 37 = .ok (.if_icmp .ne 7, 3) := by decide +kernel
theorem d_Pk_unpackChanges_40 : decode b_Pk_unpackChanges 40 = .ok (.iconst 1, 1) := by decide +kernel
theorem d_Pk_unpackChanges_41 : decode b_Pk_unpackChanges 41 = .ok (.goto 4, 3) := by decide +kernel
theorem d_Pk_unpackChanges_44 : decode b_Pk_unpackChanges 44 = .ok (.iconst 0, 1) := by decide +kernel
theorem d_Pk_unpackChanges_45 : decode b_Pk_unpackChanges 45 = .ok (.istore 5, 2) := by decide +kernel
theorem d_Pk_unpackChanges_47 : decode b_Pk_unpackChanges 47 = .ok (.iload 5, 2) := by decide +kernel
theorem d_Pk_unpackChanges_49 : decode b_Pk_unpackChanges 49 = .ok (.ifCond .eq 44, 3) := by decide +kernel
theorem d_Pk_unpackChanges_52 : decode b_Pk_unpackChanges 52 = .ok (.iload_n 3, 1) := by decide +kernel
theorem d_Pk_unpackChanges_53 : decode b_Pk_unpackChanges 53 = .ok (.aload_n 0, 1) := by decide +kernel
theorem d_Pk_unpackChanges_54 : decode b_Pk_unpackChanges 54 = .ok (.getfield 15, 3) := by decide +kernel
theorem d_Pk_unpackChanges_57 : decode b_Pk_unpackChanges 57 = .ok (.if_icmp .ge 36, 3) := by decide +kernel
theorem d_Pk_unpackChanges_60 : decode b_Pk_unpackChanges 60 = .ok (.aload_n 0, 1) := by decide +kernel
theorem d_Pk_unpackChanges_61 : decode b_Pk_unpackChanges 61 = .ok (.iload_n 3, 1) := by decide +kernel
theorem d_Pk_unpackChanges_62 : decode b_Pk_unpackChanges 62 = .ok (.invokevirtual 38, 3) := by decide +kernel
theorem d_Pk_unpackChanges_65 : decode b_Pk_unpackChanges 65 = .ok (.istore 6, 2) := by decide +kernel
theorem d_Pk_unpackChanges_67 : decode b_Pk_unpackChanges 67 = .ok (.iinc 3 1, 3) := by decide +kernel
theorem d_Pk_unpackChanges_70 : decode b_Pk_unpackChanges 70 = .ok (.iload_n 2, 1) := by decide +kernel
theorem d_Pk_unpackChanges_71 : decode b_Pk_unpackChanges 71 = .ok (.iload 6, 2) := by decide +kernel
theorem d_Pk_unpackChanges_73 : decode b_Pk_unpackChanges 73 = .ok (.iadd, 1) := by decide +kernel
theorem d_Pk_unpackChanges_74 : decode b_Pk_unpackChanges 74 = .ok (.istore_n 2, 1) := by decide +kernel
theorem d_Pk_unpackChanges_75 : decode b_Pk_unpackChanges 75 = .ok (.iload 6, 2) := by decide +kernel
theorem d_Pk_unpackChanges_77 : decode b_Pk_unpackChanges 77 = .ok (.sipush 255, 3) := by decide +kernel
theorem d_Pk_unpackChanges_80 : decode b_Pk_unpackChanges 80 = .ok (.if_icmp .ne 7, 3) := by decide +kernel
theorem d_Pk_unpackChanges_83 : decode b_Pk_unpackChanges 83 = .ok (.iconst 1, 1) := by decide +kernel
theorem d_Pk_unpackChanges_84 : decode b_Pk_unpackChanges 84 = .ok (.goto 4, 3) := by decide +kernel
theorem d_Pk_unpackChanges_87 : decode b_Pk_unpackChanges 87 = .ok (.iconst 0, 1) := by decide +kernel
theorem d_Pk_unpackChanges_88 : decode b_Pk_unpackChanges 88 = .ok (.istore 5, 2) := by decide +kernel
theorem d_Pk_unpackChanges_90 : decode b_Pk_unpackChanges 90 = .ok (.goto (-43), 3) := by decide +kernel
theorem d_Pk_unpackChanges_93 : decode b_Pk_unpackChanges 93 = .ok (.iload 4, 2) := by decide +kernel
theorem d_Pk_unpackChanges_95 : decode b_Pk_unpackChanges 95 = .ok (.bipush 32, 2) := by decide +kernel
theorem d_Pk_unpackChanges_97 : decode b_Pk_unpackChanges 97 = .ok (.idiv, 1) := by decide +kernel
theorem d_Pk_unpackChanges_98 : decode b_Pk_unpackChanges 98 = .ok (.iconst 1, 1) := by decide +kernel
theorem d_Pk_unpackChanges_99 : decode b_Pk_unpackChanges 99 = .ok (.iadd, 1) := by decide +kernel
theorem d_Pk_unpackChanges_100 : decode b_Pk_unpackChanges 100 = .ok (.aload_n 0, 1) := by decide +kernel
theorem d_Pk_unpackChanges_101 : decode b_Pk_unpackChanges 101 = .ok (.getfield 15, 3) := by decide +kernel
theorem d_Pk_unpackChanges_104 : decode b_Pk_unpackChanges 104 = .ok (.iload_n 3, 1) := by decide +kernel
theorem d_Pk_unpackChanges_105 : decode b_Pk_unpackChanges 105 = .ok (.isub, 1) := by decide +kernel
theorem d_Pk_unpackChanges_106 : decode b_Pk_unpackChanges 106 = .ok (.invokestatic 50, 3) := by decide +kernel
theorem d_Pk_unpackChanges_109 : decode b_Pk_unpackChanges 109 = .ok (.istore 6, 2) := by decide +kernel
theorem d_Pk_unpackChanges_111 : decode b_Pk_unpackChanges 111 = .ok (.aload_n 0, 1) := by decide +kernel
theorem d_Pk_unpackChanges_112 : decode b_Pk_unpackChanges 112 = .ok (.iload_n 3, 1) := by decide +kernel
theorem d_Pk_unpackChanges_113 : decode b_Pk_unpackChanges 113 = .ok (.iload 6, 2) := by decide +kernel
theorem d_Pk_unpackChanges_115 : decode b_Pk_unpackChanges 115 = .ok (.aload_n 1, 1) := by decide +kernel
theorem d_Pk_unpackChanges_116 : decode b_Pk_unpackChanges 116 = .ok (.iload_n 2, 1) := by decide +kernel
theorem d_Pk_unpackChanges_117 : decode b_Pk_unpackChanges 117 = .ok (.invokevirtual 34, 3) := by decide +kernel
theorem d_Pk_unpackChanges_120 : decode b_Pk_unpackChanges 120 = .ok (.iload_n 2, 1) := by decide +kernel
theorem d_Pk_unpackChanges_121 : decode b_Pk_unpackChanges 121 = .ok (.iload 6, 2) := by decide +kernel
theorem d_Pk_unpackChanges_123 : decode b_Pk_unpackChanges 123 = .ok (.iadd, 1) := by decide +kernel
theorem d_Pk_unpackChanges_124 : decode b_Pk_unpackChanges 124 = .ok (.istore_n 2, 1) := by decide +kernel
theorem d_Pk_unpackChanges_125 : decode b_Pk_unpackChanges 125 = .ok (.iload_n 3, 1) := by decide +kernel
theorem d_Pk_unpackChanges_126 : decode b_Pk_unpackChanges 126 = .ok (.iload 6, 2) := by decide +kernel
theorem d_Pk_unpackChanges_128 : decode b_Pk_unpackChanges 128 = .ok (.iadd, 1) := by decide +kernel
theorem d_Pk_unpackChanges_129 : decode b_Pk_unpackChanges 129 = .ok (.istore_n 3, 1) := by decide +kernel
theorem d_Pk_unpackChanges_130 : decode b_Pk_unpackChanges 130 = .ok (.goto (-126), 3) := by decide +kernel
theorem d_Pk_unpackChanges_133 : decode b_Pk_unpackChanges 133 = .ok (.return_, 1) := by decide +kernel
theorem ds_Pk_unpackChanges : xDesc y_Pk_unpackChanges 1 := by decide +kernel

abbrev rm_Pk_unpackChanges : Room := { frames := 3, cells := 0, slots := 0, locals := 68 }
set_option maxHeartbeats 4000000 in
set_option maxRecDepth 100000 in
/-- Packed.unpackChanges -/
theorem c_Pk_unpackChanges (l : Launch) (D : va_G) (cI cJ cQ : ClassId) (g : Nat) (b : Nat) (P : Nat → Int) (ct : Int) (h : Nat) (a : Nat) (B : Nat → Int) (op : Int) (x : Int) (y : Int) (sc : Int) (wd : Int) (ht : Int) (ln : Int) (rw : Int) (hct : 0 ≤ ct ∧ ct ≤ 4096) (hPb : ∀ j : Nat, 0 ≤ P j ∧ P j < 256) (hln : 0 ≤ ln ∧ ln ≤ 640) : xMet l D (xT cI cJ cQ) y_Pk_unpackChanges b_Pk_unpackChanges 7 none rm_Pk_unpackChanges [.ref g, .ref h] [(g, .inr (1, [.ref b, .int (iI ct)])), (b, .inl (cI, 4096, .inl (iA P))), (h, .inr (2, [.ref a, .int (iI op), .int (iI x), .int (iI y), .int (iI sc), .int (iI wd), .int (iI ht), .int (iI ln), .int (iI rw)])), (a, .inl (cI, 640, .inl (iA B)))] (fun v ws => ∃ (B2 : Nat → Int), v = none ∧ ws = [(g, .inr (1, [.ref b, .int (iI ct)])), (b, .inl (cI, 4096, .inl (iA P))), (h, .inr (2, [.ref a, .int (iI op), .int (iI x), .int (iI y), .int (iI sc), .int (iI wd), .int (iI ht), .int (iI ln), .int (iI rw)])), (a, .inl (cI, 640, .inl (iA B2)))] ∧ (B2 = chS P ct ln 5000 0 0 B)) := by
  refine x_met (by decide) (Nat.le_of_ble_eq_true rfl) ?_
  intro p e s m below meth c hx hb hr hml hts hown hlocks hin hF0 A hA hP hD hK ls hl hS
  have hl : lv_has ls 7 [(0, .ref g), (1, .ref h)] := hl
  refine xi_iconst hx hb d_Pk_unpackChanges_0 ?_
  refine lv_istore_n (lv' := [(2, .int (iI 0)), (0, .ref g), (1, .ref h)]) hx hb d_Pk_unpackChanges_1 rfl hl (by decide) rfl (fun ls hl => ?_)
  refine xi_iconst hx hb d_Pk_unpackChanges_2 ?_
  refine lv_istore_n (lv' := [(3, .int (iI 0)), (2, .int (iI 0)), (0, .ref g), (1, .ref h)]) hx hb d_Pk_unpackChanges_3 rfl hl (by decide) rfl (fun ls hl => ?_)
  refine x_loop4 (fun (i : Int) (pl : Int) (B2 : Nat → Int) (n : Nat) H locs ls => (0 ≤ i ∧ i ≤ ct) ∧ (0 ≤ pl ∧ pl ≤ 256 * i) ∧ (ct - i + 1 < (n : Int)) ∧ (chS P ct ln 5000 0 0 B = chS P ct ln n i pl B2) ∧ va_P D xcl [(g, .inr (1, [.ref b, .int (iI ct)])), (b, .inl (cI, 4096, .inl (iA P))), (h, .inr (2, [.ref a, .int (iI op), .int (iI x), .int (iI y), .int (iI sc), .int (iI wd), .int (iI ht), .int (iI ln), .int (iI rw)])), (a, .inl (cI, 640, .inl (iA B2)))] H ∧ va_D A [(g, .inr (1, [.ref b, .int (iI ct)])), (b, .inl (cI, 4096, .inl (iA P))), (h, .inr (2, [.ref a, .int (iI op), .int (iI x), .int (iI y), .int (iI sc), .int (iI wd), .int (iI ht), .int (iI ln), .int (iI rw)])), (a, .inl (cI, 640, .inl (iA B2)))] ∧ va_S A s.heap H locs ∧ lv_has ls 7 [(3, .int (iI i)), (2, .int (iI pl)), (0, .ref g), (1, .ref h)]) (fun (i : Int) (pl : Int) (B2 : Nat → Int) (n : Nat) => n) 0 0 B 5000 ⟨by omega, by omega, by omega, rfl, hP, hD, hS, hl⟩ ?_
  intro i pl B2 n H locs ls hI ih_4
  obtain ⟨k1, k2, k3, k4, hP, hD, hS, hl⟩ := hI
  refine lv_iload_n hx hb d_Pk_unpackChanges_4 rfl (lv_at hl 0 rfl) ?_
  refine lv_aload_n hx hb d_Pk_unpackChanges_5 rfl (lv_at hl 2 rfl) ?_
  refine va_get (D := D) (cl := xcl) (ci := 1) (v := .int (iI ct)) (C := R_Pk) (T := T_Pk) (N := 2) hx hb hts i_Pk hown hK hP 0 rfl rfl 1 (by decide) (hts _ kw_134) (fun _ h9 => h9) rfl d_Pk_unpackChanges_6 ?_
  refine xi_icmp_ge (tgt := 133) hx hb d_Pk_unpackChanges_9 (by decide) ⟨by omega, by omega⟩ ⟨by omega, by omega⟩ (fun c_9 => ?_) (fun c_9 => ?_)
  ·
    exact x_vret hx hb hr hlocks hP hD hS (by decide) (by decide) ⟨B2, rfl, rfl, by rw [k4, chS_end (by omega)]⟩ d_Pk_unpackChanges_133
  ·
    refine lv_aload_n hx hb d_Pk_unpackChanges_12 rfl (lv_at hl 2 rfl) ?_
    refine lv_iload_n hx hb d_Pk_unpackChanges_13 rfl (lv_at hl 0 rfl) ?_
    refine x_aft (x_runV (C := "RasterRows$Packed") (As := [.int (iI i)]) (rest := []) (ci := 1) (q0 := 0) hx hb hml hown hts (c_Pk_byteAt l D cI cJ cQ g b P ct i (hct) (hPb) (by omega)) kw_350 kw_351 kw_352 kw_6 kw_353 ds_Pk_byteAt (by decide) hK (hP.sub (ws' := [(g, .inr (1, [.ref b, .int (iI ct)])), (b, .inl (cI, 4096, .inl (iA P)))]) [0, 1] rfl) (hD.sub (ws' := [(g, .inr (1, [.ref b, .int (iI ct)])), (b, .inl (cI, 4096, .inl (iA P)))]) [0, 1] (by decide) rfl) rfl rfl rfl hl.1 rfl (Nat.le_of_ble_eq_true rfl) d_Pk_unpackChanges_14) hP hD hS hA [0, 1] [2, 3] rfl (wr := [(h, .inr (2, [.ref a, .int (iI op), .int (iI x), .int (iI y), .int (iI sc), .int (iI wd), .int (iI ht), .int (iI ln), .int (iI rw)])), (a, .inl (cI, 640, .inl (iA B2)))]) rfl (by decide) (by decide) (fun v w1 H locs hq hP hD hS => ?_)
    obtain ⟨rfl, rfl, hb_14⟩ := hq
    refine W.cs (cells' := 0) (slots' := 0) rfl rfl ?_
    refine W.eq (g2 := F0 m 17 ls [.int (iI (P i.toNat))]) rfl ?_
    have hP : va_P D xcl [(h, .inr (2, [.ref a, .int (iI op), .int (iI x), .int (iI y), .int (iI sc), .int (iI wd), .int (iI ht), .int (iI ln), .int (iI rw)])), (a, .inl (cI, 640, .inl (iA B2))), (g, .inr (1, [.ref b, .int (iI ct)])), (b, .inl (cI, 4096, .inl (iA P)))] _ := hP
    have hD : va_D A [(h, .inr (2, [.ref a, .int (iI op), .int (iI x), .int (iI y), .int (iI sc), .int (iI wd), .int (iI ht), .int (iI ln), .int (iI rw)])), (a, .inl (cI, 640, .inl (iA B2))), (g, .inr (1, [.ref b, .int (iI ct)])), (b, .inl (cI, 4096, .inl (iA P)))] := hD
    refine lv_istore (lv' := [(4, .int (iI (P i.toNat))), (3, .int (iI i)), (2, .int (iI pl)), (0, .ref g), (1, .ref h)]) hx hb d_Pk_unpackChanges_17 hl (by decide) rfl (fun ls hl => ?_)
    refine xi_iinc (lv' := [(3, .int (iI (i + 1))), (4, .int (iI (P i.toNat))), (2, .int (iI pl)), (0, .ref g), (1, .ref h)]) hx hb d_Pk_unpackChanges_19 hl (k := 1) rfl (by decide) rfl (fun ls hl => ?_)
    refine lv_iload_n hx hb d_Pk_unpackChanges_22 rfl (lv_at hl 2 rfl) ?_
    refine lv_iload hx hb d_Pk_unpackChanges_23 (lv_at hl 1 rfl) ?_
    refine xi_bipush hx hb d_Pk_unpackChanges_25 (by decide) ?_
    refine xi_irem hx hb d_Pk_unpackChanges_27 ⟨by omega, by omega⟩ ⟨by omega, by omega⟩ ?_
    refine xi_iadd hx hb d_Pk_unpackChanges_28 ?_
    refine lv_istore_n (lv' := [(2, .int (iI (pl + ((P i.toNat) % 32)))), (3, .int (iI (i + 1))), (4, .int (iI (P i.toNat))), (0, .ref g), (1, .ref h)]) hx hb d_Pk_unpackChanges_29 rfl hl (by decide) rfl (fun ls hl => ?_)
    refine x_cut1 45 (cJ := 0) (sJ := 0) (fun (mo : Int) => [.int (iI mo)]) (fun (mo : Int) H locs ls => (mo = if P i.toNat % 32 = 31 then 1 else 0) ∧ va_P D xcl [(g, .inr (1, [.ref b, .int (iI ct)])), (b, .inl (cI, 4096, .inl (iA P))), (h, .inr (2, [.ref a, .int (iI op), .int (iI x), .int (iI y), .int (iI sc), .int (iI wd), .int (iI ht), .int (iI ln), .int (iI rw)])), (a, .inl (cI, 640, .inl (iA B2)))] H ∧ va_D A [(g, .inr (1, [.ref b, .int (iI ct)])), (b, .inl (cI, 4096, .inl (iA P))), (h, .inr (2, [.ref a, .int (iI op), .int (iI x), .int (iI y), .int (iI sc), .int (iI wd), .int (iI ht), .int (iI ln), .int (iI rw)])), (a, .inl (cI, 640, .inl (iA B2)))] ∧ va_S A s.heap H locs ∧ lv_has ls 7 [(2, .int (iI (pl + ((P i.toNat) % 32)))), (3, .int (iI (i + 1))), (4, .int (iI (P i.toNat))), (0, .ref g), (1, .ref h)]) ?_ ?_
    ·
      intro mo H locs ls hI
      obtain ⟨m1, hP, hD, hS, hl⟩ := hI
      refine lv_istore (lv' := [(5, .int (iI mo)), (2, .int (iI (pl + ((P i.toNat) % 32)))), (3, .int (iI (i + 1))), (4, .int (iI (P i.toNat))), (0, .ref g), (1, .ref h)]) hx hb d_Pk_unpackChanges_45 hl (by decide) rfl (fun ls hl => ?_)
      refine x_cut2 93 (cJ := 0) (sJ := 0) (fun (j : Int) (q : Int) => []) (fun (j : Int) (q : Int) H locs ls => (offC P ct i pl = (j, q)) ∧ (i + 1 ≤ j ∧ j ≤ ct) ∧ (0 ≤ q ∧ q ≤ 256 * j) ∧ va_P D xcl [(g, .inr (1, [.ref b, .int (iI ct)])), (b, .inl (cI, 4096, .inl (iA P))), (h, .inr (2, [.ref a, .int (iI op), .int (iI x), .int (iI y), .int (iI sc), .int (iI wd), .int (iI ht), .int (iI ln), .int (iI rw)])), (a, .inl (cI, 640, .inl (iA B2)))] H ∧ va_D A [(g, .inr (1, [.ref b, .int (iI ct)])), (b, .inl (cI, 4096, .inl (iA P))), (h, .inr (2, [.ref a, .int (iI op), .int (iI x), .int (iI y), .int (iI sc), .int (iI wd), .int (iI ht), .int (iI ln), .int (iI rw)])), (a, .inl (cI, 640, .inl (iA B2)))] ∧ va_S A s.heap H locs ∧ lv_has ls 7 [(3, .int (iI j)), (2, .int (iI q)), (4, .int (iI (P i.toNat))), (0, .ref g), (1, .ref h)]) ?_ ?_
      ·
        intro j q H locs ls hI
        obtain ⟨o1, o2, o3, hP, hD, hS, hl⟩ := hI
        refine lv_iload hx hb d_Pk_unpackChanges_93 (lv_at hl 2 rfl) ?_
        refine xi_bipush hx hb d_Pk_unpackChanges_95 (by decide) ?_
        refine xi_idiv hx hb d_Pk_unpackChanges_97 ⟨by omega, by omega⟩ ⟨by omega, by omega⟩ ?_
        refine xi_iconst hx hb d_Pk_unpackChanges_98 ?_
        refine xi_iadd hx hb d_Pk_unpackChanges_99 ?_
        refine lv_aload_n hx hb d_Pk_unpackChanges_100 rfl (lv_at hl 3 rfl) ?_
        refine va_get (D := D) (cl := xcl) (ci := 1) (v := .int (iI ct)) (C := R_Pk) (T := T_Pk) (N := 2) hx hb hts i_Pk hown hK hP 0 rfl rfl 1 (by decide) (hts _ kw_134) (fun _ h9 => h9) rfl d_Pk_unpackChanges_101 ?_
        refine lv_iload_n hx hb d_Pk_unpackChanges_104 rfl (lv_at hl 0 rfl) ?_
        refine xi_isub hx hb d_Pk_unpackChanges_105 ?_
        refine xi_mmin hx hb (hml.trans hl.1.symm) hown hts kw_354 (by decide) (Nat.le_of_ble_eq_true rfl) (by decide) (by decide) ⟨by omega, by omega⟩ ⟨by omega, by omega⟩ d_Pk_unpackChanges_106 ?_
        refine lv_istore (lv' := [(6, .int (iI (min (((P i.toNat) / 32) + 1) (ct - j)))), (3, .int (iI j)), (2, .int (iI q)), (4, .int (iI (P i.toNat))), (0, .ref g), (1, .ref h)]) hx hb d_Pk_unpackChanges_109 hl (by decide) rfl (fun ls hl => ?_)
        refine lv_aload_n hx hb d_Pk_unpackChanges_111 rfl (lv_at hl 4 rfl) ?_
        refine lv_iload_n hx hb d_Pk_unpackChanges_112 rfl (lv_at hl 1 rfl) ?_
        refine lv_iload hx hb d_Pk_unpackChanges_113 (lv_at hl 0 rfl) ?_
        refine lv_aload_n hx hb d_Pk_unpackChanges_115 rfl (lv_at hl 5 rfl) ?_
        refine lv_iload_n hx hb d_Pk_unpackChanges_116 rfl (lv_at hl 2 rfl) ?_
        refine x_aft (x_runV (C := "RasterRows$Packed") (As := [.int (iI j), .int (iI (min (((P i.toNat) / 32) + 1) (ct - j))), .ref h, .int (iI q)]) (rest := []) (ci := 1) (q0 := 0) hx hb hml hown hts (c_Pk_copy l D cI cJ cQ g b P ct h a B2 op x y sc wd ht ln rw j (min (((P i.toNat) / 32) + 1) (ct - j)) q (by omega) (hct) (hPb) (hln) (by omega) (by omega)) kw_355 kw_357 kp_3 kw_6 kw_358 ds_Pk_copy (by decide) hK (hP.sub (ws' := [(g, .inr (1, [.ref b, .int (iI ct)])), (b, .inl (cI, 4096, .inl (iA P))), (h, .inr (2, [.ref a, .int (iI op), .int (iI x), .int (iI y), .int (iI sc), .int (iI wd), .int (iI ht), .int (iI ln), .int (iI rw)])), (a, .inl (cI, 640, .inl (iA B2)))]) [0, 1, 2, 3] rfl) (hD.sub (ws' := [(g, .inr (1, [.ref b, .int (iI ct)])), (b, .inl (cI, 4096, .inl (iA P))), (h, .inr (2, [.ref a, .int (iI op), .int (iI x), .int (iI y), .int (iI sc), .int (iI wd), .int (iI ht), .int (iI ln), .int (iI rw)])), (a, .inl (cI, 640, .inl (iA B2)))]) [0, 1, 2, 3] (by decide) rfl) rfl rfl rfl hl.1 rfl (Nat.le_of_ble_eq_true rfl) d_Pk_unpackChanges_117) hP hD hS hA [0, 1, 2, 3] [] rfl (wr := []) rfl (by decide) (by decide) (fun v w1 H locs hq hP hD hS => ?_)
        obtain ⟨B2_117, rfl, rfl, hB2_117⟩ := hq
        refine W.cs (cells' := 0) (slots' := 0) rfl rfl ?_
        refine W.eq (g2 := F0 m 120 ls []) rfl ?_
        have hP : va_P D xcl [(g, .inr (1, [.ref b, .int (iI ct)])), (b, .inl (cI, 4096, .inl (iA P))), (h, .inr (2, [.ref a, .int (iI op), .int (iI x), .int (iI y), .int (iI sc), .int (iI wd), .int (iI ht), .int (iI ln), .int (iI rw)])), (a, .inl (cI, 640, .inl (iA B2_117)))] _ := hP
        have hD : va_D A [(g, .inr (1, [.ref b, .int (iI ct)])), (b, .inl (cI, 4096, .inl (iA P))), (h, .inr (2, [.ref a, .int (iI op), .int (iI x), .int (iI y), .int (iI sc), .int (iI wd), .int (iI ht), .int (iI ln), .int (iI rw)])), (a, .inl (cI, 640, .inl (iA B2_117)))] := hD
        refine lv_iload_n hx hb d_Pk_unpackChanges_120 rfl (lv_at hl 2 rfl) ?_
        refine lv_iload hx hb d_Pk_unpackChanges_121 (lv_at hl 0 rfl) ?_
        refine xi_iadd hx hb d_Pk_unpackChanges_123 ?_
        refine lv_istore_n (lv' := [(2, .int (iI (q + (min (((P i.toNat) / 32) + 1) (ct - j))))), (6, .int (iI (min (((P i.toNat) / 32) + 1) (ct - j)))), (3, .int (iI j)), (4, .int (iI (P i.toNat))), (0, .ref g), (1, .ref h)]) hx hb d_Pk_unpackChanges_124 rfl hl (by decide) rfl (fun ls hl => ?_)
        refine lv_iload_n hx hb d_Pk_unpackChanges_125 rfl (lv_at hl 2 rfl) ?_
        refine lv_iload hx hb d_Pk_unpackChanges_126 (lv_at hl 1 rfl) ?_
        refine xi_iadd hx hb d_Pk_unpackChanges_128 ?_
        refine lv_istore_n (lv' := [(3, .int (iI (j + (min (((P i.toNat) / 32) + 1) (ct - j))))), (2, .int (iI (q + (min (((P i.toNat) / 32) + 1) (ct - j))))), (6, .int (iI (min (((P i.toNat) / 32) + 1) (ct - j)))), (4, .int (iI (P i.toNat))), (0, .ref g), (1, .ref h)]) hx hb d_Pk_unpackChanges_129 rfl hl (by decide) rfl (fun ls hl => ?_)
        refine lv_goto (tgt := 4) hx hb d_Pk_unpackChanges_130 (by decide) ?_
        exact ih_4 (j + (min (((P i.toNat) / 32) + 1) (ct - j))) (q + (min (((P i.toNat) / 32) + 1) (ct - j))) B2_117 (n - 1) _ _ _ (by omega) ⟨by omega, by omega, by omega, by rw [k4, chS_go (by omega) c_9 o1, hB2_117], hP, hD, hS, (lv_sub hl [0, 1, 4, 5] rfl)⟩
      ·
        intro hJ_93
        refine x_loop4 (fun (j : Int) (q : Int) (mo2 : Int) (n2 : Nat) H locs ls => (i + 1 ≤ j ∧ j ≤ ct) ∧ (0 ≤ q ∧ q ≤ 256 * j) ∧ (ct - j + 1 < (n2 : Int)) ∧ (offC P ct i pl = offS P ct n2 j q mo2) ∧ (mo2 = 0 ∨ mo2 = 1) ∧ va_P D xcl [(g, .inr (1, [.ref b, .int (iI ct)])), (b, .inl (cI, 4096, .inl (iA P))), (h, .inr (2, [.ref a, .int (iI op), .int (iI x), .int (iI y), .int (iI sc), .int (iI wd), .int (iI ht), .int (iI ln), .int (iI rw)])), (a, .inl (cI, 640, .inl (iA B2)))] H ∧ va_D A [(g, .inr (1, [.ref b, .int (iI ct)])), (b, .inl (cI, 4096, .inl (iA P))), (h, .inr (2, [.ref a, .int (iI op), .int (iI x), .int (iI y), .int (iI sc), .int (iI wd), .int (iI ht), .int (iI ln), .int (iI rw)])), (a, .inl (cI, 640, .inl (iA B2)))] ∧ va_S A s.heap H locs ∧ lv_has ls 7 [(3, .int (iI j)), (2, .int (iI q)), (5, .int (iI mo2)), (4, .int (iI (P i.toNat))), (0, .ref g), (1, .ref h)]) (fun (j : Int) (q : Int) (mo2 : Int) (n2 : Nat) => n2) (i + 1) (pl + ((P i.toNat) % 32)) mo 5000 ⟨by omega, by omega, by omega, by rw [m1], by rw [m1]; split <;> omega, hP, hD, hS, (lv_sub hl [2, 1, 0, 3, 4, 5] rfl)⟩ ?_
        intro j q mo2 n2 H locs ls hI ih_47
        obtain ⟨n1, n2_, n3, n4, n5, hP, hD, hS, hl⟩ := hI
        refine lv_iload hx hb d_Pk_unpackChanges_47 (lv_at hl 2 rfl) ?_
        refine xi_if_eq (tgt := 93) hx hb d_Pk_unpackChanges_49 (by decide) ⟨by omega, by omega⟩ (fun c_49 => ?_) (fun c_49 => ?_)
        ·
          exact hJ_93 j q _ _ _ ⟨by rw [show offC P ct i pl = _ from n4, offS_end (by omega)], by omega, by omega, hP, hD, hS, (lv_sub hl [0, 1, 3, 4, 5] rfl)⟩
        ·
          refine lv_iload_n hx hb d_Pk_unpackChanges_52 rfl (lv_at hl 0 rfl) ?_
          refine lv_aload_n hx hb d_Pk_unpackChanges_53 rfl (lv_at hl 4 rfl) ?_
          refine va_get (D := D) (cl := xcl) (ci := 1) (v := .int (iI ct)) (C := R_Pk) (T := T_Pk) (N := 2) hx hb hts i_Pk hown hK hP 0 rfl rfl 1 (by decide) (hts _ kw_134) (fun _ h9 => h9) rfl d_Pk_unpackChanges_54 ?_
          refine xi_icmp_ge (tgt := 93) hx hb d_Pk_unpackChanges_57 (by decide) ⟨by omega, by omega⟩ ⟨by omega, by omega⟩ (fun c_57 => ?_) (fun c_57 => ?_)
          ·
            exact hJ_93 j q _ _ _ ⟨by rw [show offC P ct i pl = _ from n4, offS_end (by omega)], by omega, by omega, hP, hD, hS, (lv_sub hl [0, 1, 3, 4, 5] rfl)⟩
          ·
            refine lv_aload_n hx hb d_Pk_unpackChanges_60 rfl (lv_at hl 4 rfl) ?_
            refine lv_iload_n hx hb d_Pk_unpackChanges_61 rfl (lv_at hl 0 rfl) ?_
            refine x_aft (x_runV (C := "RasterRows$Packed") (As := [.int (iI j)]) (rest := []) (ci := 1) (q0 := 0) hx hb hml hown hts (c_Pk_byteAt l D cI cJ cQ g b P ct j (hct) (hPb) (by omega)) kw_350 kw_351 kw_352 kw_6 kw_353 ds_Pk_byteAt (by decide) hK (hP.sub (ws' := [(g, .inr (1, [.ref b, .int (iI ct)])), (b, .inl (cI, 4096, .inl (iA P)))]) [0, 1] rfl) (hD.sub (ws' := [(g, .inr (1, [.ref b, .int (iI ct)])), (b, .inl (cI, 4096, .inl (iA P)))]) [0, 1] (by decide) rfl) rfl rfl rfl hl.1 rfl (Nat.le_of_ble_eq_true rfl) d_Pk_unpackChanges_62) hP hD hS hA [0, 1] [2, 3] rfl (wr := [(h, .inr (2, [.ref a, .int (iI op), .int (iI x), .int (iI y), .int (iI sc), .int (iI wd), .int (iI ht), .int (iI ln), .int (iI rw)])), (a, .inl (cI, 640, .inl (iA B2)))]) rfl (by decide) (by decide) (fun v w1 H locs hq hP hD hS => ?_)
            obtain ⟨rfl, rfl, hb_62⟩ := hq
            refine W.cs (cells' := 0) (slots' := 0) rfl rfl ?_
            refine W.eq (g2 := F0 m 65 ls [.int (iI (P j.toNat))]) rfl ?_
            have hP : va_P D xcl [(h, .inr (2, [.ref a, .int (iI op), .int (iI x), .int (iI y), .int (iI sc), .int (iI wd), .int (iI ht), .int (iI ln), .int (iI rw)])), (a, .inl (cI, 640, .inl (iA B2))), (g, .inr (1, [.ref b, .int (iI ct)])), (b, .inl (cI, 4096, .inl (iA P)))] _ := hP
            have hD : va_D A [(h, .inr (2, [.ref a, .int (iI op), .int (iI x), .int (iI y), .int (iI sc), .int (iI wd), .int (iI ht), .int (iI ln), .int (iI rw)])), (a, .inl (cI, 640, .inl (iA B2))), (g, .inr (1, [.ref b, .int (iI ct)])), (b, .inl (cI, 4096, .inl (iA P)))] := hD
            refine lv_istore (lv' := [(6, .int (iI (P j.toNat))), (3, .int (iI j)), (2, .int (iI q)), (5, .int (iI mo2)), (4, .int (iI (P i.toNat))), (0, .ref g), (1, .ref h)]) hx hb d_Pk_unpackChanges_65 hl (by decide) rfl (fun ls hl => ?_)
            refine xi_iinc (lv' := [(3, .int (iI (j + 1))), (6, .int (iI (P j.toNat))), (2, .int (iI q)), (5, .int (iI mo2)), (4, .int (iI (P i.toNat))), (0, .ref g), (1, .ref h)]) hx hb d_Pk_unpackChanges_67 hl (k := 1) rfl (by decide) rfl (fun ls hl => ?_)
            refine lv_iload_n hx hb d_Pk_unpackChanges_70 rfl (lv_at hl 2 rfl) ?_
            refine lv_iload hx hb d_Pk_unpackChanges_71 (lv_at hl 1 rfl) ?_
            refine xi_iadd hx hb d_Pk_unpackChanges_73 ?_
            refine lv_istore_n (lv' := [(2, .int (iI (q + (P j.toNat)))), (3, .int (iI (j + 1))), (6, .int (iI (P j.toNat))), (5, .int (iI mo2)), (4, .int (iI (P i.toNat))), (0, .ref g), (1, .ref h)]) hx hb d_Pk_unpackChanges_74 rfl hl (by decide) rfl (fun ls hl => ?_)
            refine lv_iload hx hb d_Pk_unpackChanges_75 (lv_at hl 2 rfl) ?_
            refine xi_sipush hx hb d_Pk_unpackChanges_77 (by decide) ?_
            refine xi_icmp_ne (tgt := 87) hx hb d_Pk_unpackChanges_80 (by decide) ⟨by omega, by omega⟩ ⟨by decide, by decide⟩ (fun c_80 => ?_) (fun c_80 => ?_)
            ·
              refine xi_iconst hx hb d_Pk_unpackChanges_87 ?_
              refine lv_istore (lv' := [(5, .int (iI 0)), (2, .int (iI (q + (P j.toNat)))), (3, .int (iI (j + 1))), (6, .int (iI (P j.toNat))), (4, .int (iI (P i.toNat))), (0, .ref g), (1, .ref h)]) hx hb d_Pk_unpackChanges_88 hl (by decide) rfl (fun ls hl => ?_)
              refine lv_goto (tgt := 47) hx hb d_Pk_unpackChanges_90 (by decide) ?_
              exact ih_47 (j + 1) (q + (P j.toNat)) 0 (n2 - 1) _ _ _ (by omega) ⟨by omega, by omega, by omega, by rw [n4, offS_go (by omega) c_49 c_57]; congr 1; first | exact if_pos c_80 | exact if_neg c_80, by omega, (hP.sub (ws' := [(g, .inr (1, [.ref b, .int (iI ct)])), (b, .inl (cI, 4096, .inl (iA P))), (h, .inr (2, [.ref a, .int (iI op), .int (iI x), .int (iI y), .int (iI sc), .int (iI wd), .int (iI ht), .int (iI ln), .int (iI rw)])), (a, .inl (cI, 640, .inl (iA B2)))]) [2, 3, 0, 1] rfl), (hD.sub (ws' := [(g, .inr (1, [.ref b, .int (iI ct)])), (b, .inl (cI, 4096, .inl (iA P))), (h, .inr (2, [.ref a, .int (iI op), .int (iI x), .int (iI y), .int (iI sc), .int (iI wd), .int (iI ht), .int (iI ln), .int (iI rw)])), (a, .inl (cI, 640, .inl (iA B2)))]) [2, 3, 0, 1] (by decide) rfl), hS, (lv_sub hl [2, 1, 0, 4, 5, 6] rfl)⟩
            ·
              refine xi_iconst hx hb d_Pk_unpackChanges_83 ?_
              refine lv_goto (tgt := 88) hx hb d_Pk_unpackChanges_84 (by decide) ?_
              refine lv_istore (lv' := [(5, .int (iI 1)), (2, .int (iI (q + (P j.toNat)))), (3, .int (iI (j + 1))), (6, .int (iI (P j.toNat))), (4, .int (iI (P i.toNat))), (0, .ref g), (1, .ref h)]) hx hb d_Pk_unpackChanges_88 hl (by decide) rfl (fun ls hl => ?_)
              refine lv_goto (tgt := 47) hx hb d_Pk_unpackChanges_90 (by decide) ?_
              exact ih_47 (j + 1) (q + (P j.toNat)) 1 (n2 - 1) _ _ _ (by omega) ⟨by omega, by omega, by omega, by rw [n4, offS_go (by omega) c_49 c_57]; congr 1; first | exact if_pos c_80 | exact if_neg c_80, by omega, (hP.sub (ws' := [(g, .inr (1, [.ref b, .int (iI ct)])), (b, .inl (cI, 4096, .inl (iA P))), (h, .inr (2, [.ref a, .int (iI op), .int (iI x), .int (iI y), .int (iI sc), .int (iI wd), .int (iI ht), .int (iI ln), .int (iI rw)])), (a, .inl (cI, 640, .inl (iA B2)))]) [2, 3, 0, 1] rfl), (hD.sub (ws' := [(g, .inr (1, [.ref b, .int (iI ct)])), (b, .inl (cI, 4096, .inl (iA P))), (h, .inr (2, [.ref a, .int (iI op), .int (iI x), .int (iI y), .int (iI sc), .int (iI wd), .int (iI ht), .int (iI ln), .int (iI rw)])), (a, .inl (cI, 640, .inl (iA B2)))]) [2, 3, 0, 1] (by decide) rfl), hS, (lv_sub hl [2, 1, 0, 4, 5, 6] rfl)⟩
    ·
      intro hJ_45
      refine lv_iload hx hb d_Pk_unpackChanges_30 (lv_at hl 2 rfl) ?_
      refine xi_bipush hx hb d_Pk_unpackChanges_32 (by decide) ?_
      refine xi_irem hx hb d_Pk_unpackChanges_34 ⟨by omega, by omega⟩ ⟨by omega, by omega⟩ ?_
      refine xi_bipush hx hb d_Pk_unpackChanges_35 (by decide) ?_
      refine xi_icmp_ne (tgt := 44) hx hb d_Pk_unpackChanges_37 (by decide) ⟨by omega, by omega⟩ ⟨by decide, by decide⟩ (fun c_37 => ?_) (fun c_37 => ?_)
      ·
        refine xi_iconst hx hb d_Pk_unpackChanges_44 ?_
        exact hJ_45 0 _ _ _ ⟨by first | exact (if_pos c_37).symm | exact (if_neg c_37).symm, (hP.sub (ws' := [(g, .inr (1, [.ref b, .int (iI ct)])), (b, .inl (cI, 4096, .inl (iA P))), (h, .inr (2, [.ref a, .int (iI op), .int (iI x), .int (iI y), .int (iI sc), .int (iI wd), .int (iI ht), .int (iI ln), .int (iI rw)])), (a, .inl (cI, 640, .inl (iA B2)))]) [2, 3, 0, 1] rfl), (hD.sub (ws' := [(g, .inr (1, [.ref b, .int (iI ct)])), (b, .inl (cI, 4096, .inl (iA P))), (h, .inr (2, [.ref a, .int (iI op), .int (iI x), .int (iI y), .int (iI sc), .int (iI wd), .int (iI ht), .int (iI ln), .int (iI rw)])), (a, .inl (cI, 640, .inl (iA B2)))]) [2, 3, 0, 1] (by decide) rfl), hS, hl⟩
      ·
        refine xi_iconst hx hb d_Pk_unpackChanges_40 ?_
        refine lv_goto (tgt := 45) hx hb d_Pk_unpackChanges_41 (by decide) ?_
        exact hJ_45 1 _ _ _ ⟨by first | exact (if_pos c_37).symm | exact (if_neg c_37).symm, (hP.sub (ws' := [(g, .inr (1, [.ref b, .int (iI ct)])), (b, .inl (cI, 4096, .inl (iA P))), (h, .inr (2, [.ref a, .int (iI op), .int (iI x), .int (iI y), .int (iI sc), .int (iI wd), .int (iI ht), .int (iI ln), .int (iI rw)])), (a, .inl (cI, 640, .inl (iA B2)))]) [2, 3, 0, 1] rfl), (hD.sub (ws' := [(g, .inr (1, [.ref b, .int (iI ct)])), (b, .inl (cI, 4096, .inl (iA P))), (h, .inr (2, [.ref a, .int (iI op), .int (iI x), .int (iI y), .int (iI sc), .int (iI wd), .int (iI ht), .int (iI ln), .int (iI rw)])), (a, .inl (cI, 640, .inl (iA B2)))]) [2, 3, 0, 1] (by decide) rfl), hS, hl⟩

theorem d_Pk_unpack_0 : decode b_Pk_unpack 0 = .ok (.iload_n 1, 1) := by decide +kernel
theorem d_Pk_unpack_1 : decode b_Pk_unpack 1 = .ok (.iconst 3, 1) := by decide +kernel
theorem d_Pk_unpack_2 : decode b_Pk_unpack 2 = .ok (.if_icmp .ne 9, 3) := by decide +kernel
theorem d_Pk_unpack_5 : decode b_Pk_unpack 5 = .ok (.aload_n 0, 1) := by decide +kernel
theorem d_Pk_unpack_6 : decode b_Pk_unpack 6 = .ok (.aload_n 2, 1) := by decide +kernel
theorem d_Pk_unpack_7 : decode b_Pk_unpack 7 = .ok (.invokevirtual 19, 3) := by decide +kernel
theorem d_Pk_unpack_10 : decode b_Pk_unpack 10 = .ok (.return_, 1) := by decide +kernel
theorem d_Pk_unpack_11 : decode b_Pk_unpack 11 = .ok (.aload_n 2, 1) := by decide +kernel
theorem d_Pk_unpack_12 : decode b_Pk_unpack 12 = .ok (.invokevirtual 23, 3) := by decide +kernel
theorem d_Pk_unpack_15 : decode b_Pk_unpack 15 = .ok (.iload_n 1, 1) := by decide +kernel
theorem d_Pk_unpack_16 : decode b_Pk_unpack 16 = .ok (.iconst 2, 1) := by decide +kernel
theorem d_Pk_unpack_17 : decode b_Pk_unpack 17 = .ok (.if_icmp .ne 11, 3) := by decide +kernel
theorem d_Pk_unpack_20 : decode b_Pk_unpack 20 = .ok (.aload_n 0, 1) := by decide +kernel
theorem d_Pk_unpack_21 : decode b_Pk_unpack 21 = .ok (.aload_n 2, 1) := by decide +kernel
theorem d_Pk_unpack_22 : decode b_Pk_unpack 22 = .ok (.invokevirtual 28, 3) := by decide +kernel
theorem d_Pk_unpack_25 : decode b_Pk_unpack 25 = .ok (.goto 27, 3) := by decide +kernel
theorem d_Pk_unpack_28 : decode b_Pk_unpack 28 = .ok (.iload_n 1, 1) := by decide +kernel
theorem d_Pk_unpack_29 : decode b_Pk_unpack 29 = .ok (.iconst 1, 1) := by decide +kernel
theorem d_Pk_unpack_30 : decode b_Pk_unpack 30 = .ok (.if_icmp .ne 11, 3) := by decide +kernel
theorem d_Pk_unpack_33 : decode b_Pk_unpack 33 = .ok (.aload_n 0, 1) := by decide +kernel
theorem d_Pk_unpack_34 : decode b_Pk_unpack 34 = .ok (.aload_n 2, 1) := by decide +kernel
theorem d_Pk_unpack_35 : decode b_Pk_unpack 35 = .ok (.invokevirtual 31, 3) := by decide +kernel
theorem d_Pk_unpack_38 : decode b_Pk_unpack 38 = .ok (.goto 14, 3) := by decide +kernel
theorem d_Pk_unpack_41 : decode b_Pk_unpack 41 = .ok (.aload_n 0, 1) := by decide +kernel
theorem d_Pk_unpack_42 : decode b_Pk_unpack 42 = .ok (.iconst 0, 1) := by decide +kernel
theorem d_Pk_unpack_43 : decode b_Pk_unpack 43 = .ok (.aload_n 0, 1) := by decide +kernel
theorem d_Pk_unpack_44 : decode b_Pk_unpack 44 = .ok (.getfield 15, 3) := by decide +kernel
theorem d_Pk_unpack_47 : decode b_Pk_unpack 47 = .ok (.aload_n 2, 1) := by decide +kernel
theorem d_Pk_unpack_48 : decode b_Pk_unpack 48 = .ok (.iconst 0, 1) := by decide +kernel
theorem d_Pk_unpack_49 : decode b_Pk_unpack 49 = .ok (.invokevirtual 34, 3) := by decide +kernel
theorem d_Pk_unpack_52 : decode b_Pk_unpack 52 = .ok (.return_, 1) := by decide +kernel
theorem ds_Pk_unpack : xDesc y_Pk_unpack 2 := by decide +kernel

abbrev rm_Pk_unpack : Room := { frames := 4, cells := 0, slots := 0, locals := 94 }
set_option maxHeartbeats 4000000 in
set_option maxRecDepth 100000 in
/-- Packed.unpack -/
theorem c_Pk_unpack (l : Launch) (D : va_G) (cI cJ cQ : ClassId) (g : Nat) (b : Nat) (P : Nat → Int) (ct : Int) (h : Nat) (a : Nat) (B : Nat → Int) (op : Int) (x : Int) (y : Int) (sc : Int) (wd : Int) (ht : Int) (ln : Int) (rw : Int) (mt : Int) (hct : 0 ≤ ct ∧ ct ≤ 4096) (hPb : ∀ j : Nat, 0 ≤ P j ∧ P j < 256) (hln : 0 ≤ ln ∧ ln ≤ 640) (hmt : 0 ≤ mt ∧ mt ≤ 3) : xMet l D (xT cI cJ cQ) y_Pk_unpack b_Pk_unpack 3 none rm_Pk_unpack [.ref g, .int (iI mt), .ref h] [(g, .inr (1, [.ref b, .int (iI ct)])), (b, .inl (cI, 4096, .inl (iA P))), (h, .inr (2, [.ref a, .int (iI op), .int (iI x), .int (iI y), .int (iI sc), .int (iI wd), .int (iI ht), .int (iI ln), .int (iI rw)])), (a, .inl (cI, 640, .inl (iA B)))] (fun v ws => ∃ (B2 : Nat → Int), v = none ∧ ws = [(g, .inr (1, [.ref b, .int (iI ct)])), (b, .inl (cI, 4096, .inl (iA P))), (h, .inr (2, [.ref a, .int (iI op), .int (iI x), .int (iI y), .int (iI sc), .int (iI wd), .int (iI ht), .int (iI ln), .int (iI rw)])), (a, .inl (cI, 640, .inl (iA B2)))] ∧ (B2 = unpS P ct ln mt B)) := by
  refine x_met (by decide) (Nat.le_of_ble_eq_true rfl) ?_
  intro p e s m below meth c hx hb hr hml hts hown hlocks hin hF0 A hA hP hD hK ls hl hS
  have hl : lv_has ls 3 [(0, .ref g), (1, .int (iI mt)), (2, .ref h)] := hl
  refine lv_iload_n hx hb d_Pk_unpack_0 rfl (lv_at hl 1 rfl) ?_
  refine xi_iconst hx hb d_Pk_unpack_1 ?_
  refine xi_icmp_ne (tgt := 11) hx hb d_Pk_unpack_2 (by decide) ⟨by omega, by omega⟩ ⟨by decide, by decide⟩ (fun c_2 => ?_) (fun c_2 => ?_)
  ·
    refine lv_aload_n hx hb d_Pk_unpack_11 rfl (lv_at hl 2 rfl) ?_
    refine x_aft (x_runV (C := "RasterRows$Raster") (As := []) (rest := []) (ci := 2) (q0 := 0) hx hb hml hown hts (c_Ra_clearSeed l D cI cJ cQ h a B op x y sc wd ht ln rw ) kw_364 kw_197 kw_198 kw_5 kw_199 ds_Ra_clearSeed (by decide) hK (hP.sub (ws' := [(h, .inr (2, [.ref a, .int (iI op), .int (iI x), .int (iI y), .int (iI sc), .int (iI wd), .int (iI ht), .int (iI ln), .int (iI rw)])), (a, .inl (cI, 640, .inl (iA B)))]) [2, 3] rfl) (hD.sub (ws' := [(h, .inr (2, [.ref a, .int (iI op), .int (iI x), .int (iI y), .int (iI sc), .int (iI wd), .int (iI ht), .int (iI ln), .int (iI rw)])), (a, .inl (cI, 640, .inl (iA B)))]) [2, 3] (by decide) rfl) rfl rfl rfl hl.1 rfl (Nat.le_of_ble_eq_true rfl) d_Pk_unpack_12) hP hD hS hA [2, 3] [0, 1] rfl (wr := [(g, .inr (1, [.ref b, .int (iI ct)])), (b, .inl (cI, 4096, .inl (iA P)))]) rfl (by decide) (by decide) (fun v w1 H locs hq hP hD hS => ?_)
    obtain ⟨rfl, rfl⟩ := hq
    refine W.cs (cells' := 0) (slots' := 0) rfl rfl ?_
    refine W.eq (g2 := F0 m 15 ls []) rfl ?_
    have hP : va_P D xcl [(g, .inr (1, [.ref b, .int (iI ct)])), (b, .inl (cI, 4096, .inl (iA P))), (h, .inr (2, [.ref a, .int (iI op), .int (iI x), .int (iI y), .int (iI sc), .int (iI wd), .int (iI ht), .int (iI ln), .int (iI rw)])), (a, .inl (cI, 640, .inl (iA (fun _ => 0))))] _ := hP
    have hD : va_D A [(g, .inr (1, [.ref b, .int (iI ct)])), (b, .inl (cI, 4096, .inl (iA P))), (h, .inr (2, [.ref a, .int (iI op), .int (iI x), .int (iI y), .int (iI sc), .int (iI wd), .int (iI ht), .int (iI ln), .int (iI rw)])), (a, .inl (cI, 640, .inl (iA (fun _ => 0))))] := hD
    refine lv_iload_n hx hb d_Pk_unpack_15 rfl (lv_at hl 1 rfl) ?_
    refine xi_iconst hx hb d_Pk_unpack_16 ?_
    refine xi_icmp_ne (tgt := 28) hx hb d_Pk_unpack_17 (by decide) ⟨by omega, by omega⟩ ⟨by decide, by decide⟩ (fun c_17 => ?_) (fun c_17 => ?_)
    ·
      refine lv_iload_n hx hb d_Pk_unpack_28 rfl (lv_at hl 1 rfl) ?_
      refine xi_iconst hx hb d_Pk_unpack_29 ?_
      refine xi_icmp_ne (tgt := 41) hx hb d_Pk_unpack_30 (by decide) ⟨by omega, by omega⟩ ⟨by decide, by decide⟩ (fun c_30 => ?_) (fun c_30 => ?_)
      ·
        refine lv_aload_n hx hb d_Pk_unpack_41 rfl (lv_at hl 0 rfl) ?_
        refine xi_iconst hx hb d_Pk_unpack_42 ?_
        refine lv_aload_n hx hb d_Pk_unpack_43 rfl (lv_at hl 0 rfl) ?_
        refine va_get (D := D) (cl := xcl) (ci := 1) (v := .int (iI ct)) (C := R_Pk) (T := T_Pk) (N := 2) hx hb hts i_Pk hown hK hP 0 rfl rfl 1 (by decide) (hts _ kw_134) (fun _ h9 => h9) rfl d_Pk_unpack_44 ?_
        refine lv_aload_n hx hb d_Pk_unpack_47 rfl (lv_at hl 2 rfl) ?_
        refine xi_iconst hx hb d_Pk_unpack_48 ?_
        refine x_aft (x_runV (C := "RasterRows$Packed") (As := [.int (iI 0), .int (iI ct), .ref h, .int (iI 0)]) (rest := []) (ci := 1) (q0 := 0) hx hb hml hown hts (c_Pk_copy l D cI cJ cQ g b P ct h a (fun _ => 0) op x y sc wd ht ln rw 0 ct 0 (by omega) (hct) (hPb) (hln) (by omega) (by omega)) kw_355 kw_357 kp_3 kw_6 kw_358 ds_Pk_copy (by decide) hK (hP.sub (ws' := [(g, .inr (1, [.ref b, .int (iI ct)])), (b, .inl (cI, 4096, .inl (iA P))), (h, .inr (2, [.ref a, .int (iI op), .int (iI x), .int (iI y), .int (iI sc), .int (iI wd), .int (iI ht), .int (iI ln), .int (iI rw)])), (a, .inl (cI, 640, .inl (iA (fun _ => 0))))]) [0, 1, 2, 3] rfl) (hD.sub (ws' := [(g, .inr (1, [.ref b, .int (iI ct)])), (b, .inl (cI, 4096, .inl (iA P))), (h, .inr (2, [.ref a, .int (iI op), .int (iI x), .int (iI y), .int (iI sc), .int (iI wd), .int (iI ht), .int (iI ln), .int (iI rw)])), (a, .inl (cI, 640, .inl (iA (fun _ => 0))))]) [0, 1, 2, 3] (by decide) rfl) rfl rfl rfl hl.1 rfl (Nat.le_of_ble_eq_true rfl) d_Pk_unpack_49) hP hD hS hA [0, 1, 2, 3] [] rfl (wr := []) rfl (by decide) (by decide) (fun v w1 H locs hq hP hD hS => ?_)
        obtain ⟨B2_49, rfl, rfl, hB2_49⟩ := hq
        refine W.cs (cells' := 0) (slots' := 0) rfl rfl ?_
        refine W.eq (g2 := F0 m 52 ls []) rfl ?_
        have hP : va_P D xcl [(g, .inr (1, [.ref b, .int (iI ct)])), (b, .inl (cI, 4096, .inl (iA P))), (h, .inr (2, [.ref a, .int (iI op), .int (iI x), .int (iI y), .int (iI sc), .int (iI wd), .int (iI ht), .int (iI ln), .int (iI rw)])), (a, .inl (cI, 640, .inl (iA B2_49)))] _ := hP
        have hD : va_D A [(g, .inr (1, [.ref b, .int (iI ct)])), (b, .inl (cI, 4096, .inl (iA P))), (h, .inr (2, [.ref a, .int (iI op), .int (iI x), .int (iI y), .int (iI sc), .int (iI wd), .int (iI ht), .int (iI ln), .int (iI rw)])), (a, .inl (cI, 640, .inl (iA B2_49)))] := hD
        exact x_vret hx hb hr hlocks hP hD hS (by decide) (by decide) ⟨B2_49, rfl, rfl, by unfold unpS; first | (rw [hB2_22, if_neg c_2, if_pos c_17]; done) | (rw [hB2_35, if_neg c_2, if_neg c_17, if_pos c_30]; done) | (rw [hB2_49, if_neg c_2, if_neg c_17, if_neg c_30]; done)⟩ d_Pk_unpack_52
      ·
        refine lv_aload_n hx hb d_Pk_unpack_33 rfl (lv_at hl 0 rfl) ?_
        refine lv_aload_n hx hb d_Pk_unpack_34 rfl (lv_at hl 2 rfl) ?_
        refine x_aft (x_runV (C := "RasterRows$Packed") (As := [.ref h]) (rest := []) (ci := 1) (q0 := 0) hx hb hml hown hts (c_Pk_unpackPairs l D cI cJ cQ g b P ct h a (fun _ => 0) op x y sc wd ht ln rw (hct) (hPb) (hln)) kw_374 kw_376 kp_5 kw_6 kw_377 ds_Pk_unpackPairs (by decide) hK (hP.sub (ws' := [(g, .inr (1, [.ref b, .int (iI ct)])), (b, .inl (cI, 4096, .inl (iA P))), (h, .inr (2, [.ref a, .int (iI op), .int (iI x), .int (iI y), .int (iI sc), .int (iI wd), .int (iI ht), .int (iI ln), .int (iI rw)])), (a, .inl (cI, 640, .inl (iA (fun _ => 0))))]) [0, 1, 2, 3] rfl) (hD.sub (ws' := [(g, .inr (1, [.ref b, .int (iI ct)])), (b, .inl (cI, 4096, .inl (iA P))), (h, .inr (2, [.ref a, .int (iI op), .int (iI x), .int (iI y), .int (iI sc), .int (iI wd), .int (iI ht), .int (iI ln), .int (iI rw)])), (a, .inl (cI, 640, .inl (iA (fun _ => 0))))]) [0, 1, 2, 3] (by decide) rfl) rfl rfl rfl hl.1 rfl (Nat.le_of_ble_eq_true rfl) d_Pk_unpack_35) hP hD hS hA [0, 1, 2, 3] [] rfl (wr := []) rfl (by decide) (by decide) (fun v w1 H locs hq hP hD hS => ?_)
        obtain ⟨B2_35, rfl, rfl, hB2_35⟩ := hq
        refine W.cs (cells' := 0) (slots' := 0) rfl rfl ?_
        refine W.eq (g2 := F0 m 38 ls []) rfl ?_
        have hP : va_P D xcl [(g, .inr (1, [.ref b, .int (iI ct)])), (b, .inl (cI, 4096, .inl (iA P))), (h, .inr (2, [.ref a, .int (iI op), .int (iI x), .int (iI y), .int (iI sc), .int (iI wd), .int (iI ht), .int (iI ln), .int (iI rw)])), (a, .inl (cI, 640, .inl (iA B2_35)))] _ := hP
        have hD : va_D A [(g, .inr (1, [.ref b, .int (iI ct)])), (b, .inl (cI, 4096, .inl (iA P))), (h, .inr (2, [.ref a, .int (iI op), .int (iI x), .int (iI y), .int (iI sc), .int (iI wd), .int (iI ht), .int (iI ln), .int (iI rw)])), (a, .inl (cI, 640, .inl (iA B2_35)))] := hD
        refine lv_goto (tgt := 52) hx hb d_Pk_unpack_38 (by decide) ?_
        exact x_vret hx hb hr hlocks hP hD hS (by decide) (by decide) ⟨B2_35, rfl, rfl, by unfold unpS; first | (rw [hB2_22, if_neg c_2, if_pos c_17]; done) | (rw [hB2_35, if_neg c_2, if_neg c_17, if_pos c_30]; done) | (rw [hB2_49, if_neg c_2, if_neg c_17, if_neg c_30]; done)⟩ d_Pk_unpack_52
    ·
      refine lv_aload_n hx hb d_Pk_unpack_20 rfl (lv_at hl 0 rfl) ?_
      refine lv_aload_n hx hb d_Pk_unpack_21 rfl (lv_at hl 2 rfl) ?_
      refine x_aft (x_runV (C := "RasterRows$Packed") (As := [.ref h]) (rest := []) (ci := 1) (q0 := 0) hx hb hml hown hts (c_Pk_unpackRuns l D cI cJ cQ g b P ct h a (fun _ => 0) op x y sc wd ht ln rw (hct) (hPb) (hln)) kw_365 kw_367 kp_4 kw_6 kw_368 ds_Pk_unpackRuns (by decide) hK (hP.sub (ws' := [(g, .inr (1, [.ref b, .int (iI ct)])), (b, .inl (cI, 4096, .inl (iA P))), (h, .inr (2, [.ref a, .int (iI op), .int (iI x), .int (iI y), .int (iI sc), .int (iI wd), .int (iI ht), .int (iI ln), .int (iI rw)])), (a, .inl (cI, 640, .inl (iA (fun _ => 0))))]) [0, 1, 2, 3] rfl) (hD.sub (ws' := [(g, .inr (1, [.ref b, .int (iI ct)])), (b, .inl (cI, 4096, .inl (iA P))), (h, .inr (2, [.ref a, .int (iI op), .int (iI x), .int (iI y), .int (iI sc), .int (iI wd), .int (iI ht), .int (iI ln), .int (iI rw)])), (a, .inl (cI, 640, .inl (iA (fun _ => 0))))]) [0, 1, 2, 3] (by decide) rfl) rfl rfl rfl hl.1 rfl (Nat.le_of_ble_eq_true rfl) d_Pk_unpack_22) hP hD hS hA [0, 1, 2, 3] [] rfl (wr := []) rfl (by decide) (by decide) (fun v w1 H locs hq hP hD hS => ?_)
      obtain ⟨B2_22, rfl, rfl, hB2_22⟩ := hq
      refine W.cs (cells' := 0) (slots' := 0) rfl rfl ?_
      refine W.eq (g2 := F0 m 25 ls []) rfl ?_
      have hP : va_P D xcl [(g, .inr (1, [.ref b, .int (iI ct)])), (b, .inl (cI, 4096, .inl (iA P))), (h, .inr (2, [.ref a, .int (iI op), .int (iI x), .int (iI y), .int (iI sc), .int (iI wd), .int (iI ht), .int (iI ln), .int (iI rw)])), (a, .inl (cI, 640, .inl (iA B2_22)))] _ := hP
      have hD : va_D A [(g, .inr (1, [.ref b, .int (iI ct)])), (b, .inl (cI, 4096, .inl (iA P))), (h, .inr (2, [.ref a, .int (iI op), .int (iI x), .int (iI y), .int (iI sc), .int (iI wd), .int (iI ht), .int (iI ln), .int (iI rw)])), (a, .inl (cI, 640, .inl (iA B2_22)))] := hD
      refine lv_goto (tgt := 52) hx hb d_Pk_unpack_25 (by decide) ?_
      exact x_vret hx hb hr hlocks hP hD hS (by decide) (by decide) ⟨B2_22, rfl, rfl, by unfold unpS; first | (rw [hB2_22, if_neg c_2, if_pos c_17]; done) | (rw [hB2_35, if_neg c_2, if_neg c_17, if_pos c_30]; done) | (rw [hB2_49, if_neg c_2, if_neg c_17, if_neg c_30]; done)⟩ d_Pk_unpack_52
  ·
    refine lv_aload_n hx hb d_Pk_unpack_5 rfl (lv_at hl 0 rfl) ?_
    refine lv_aload_n hx hb d_Pk_unpack_6 rfl (lv_at hl 2 rfl) ?_
    refine x_aft (x_runV (C := "RasterRows$Packed") (As := [.ref h]) (rest := []) (ci := 1) (q0 := 0) hx hb hml hown hts (c_Pk_unpackChanges l D cI cJ cQ g b P ct h a B op x y sc wd ht ln rw (hct) (hPb) (hln)) kw_346 kw_348 kp_2 kw_6 kw_349 ds_Pk_unpackChanges (by decide) hK (hP.sub (ws' := [(g, .inr (1, [.ref b, .int (iI ct)])), (b, .inl (cI, 4096, .inl (iA P))), (h, .inr (2, [.ref a, .int (iI op), .int (iI x), .int (iI y), .int (iI sc), .int (iI wd), .int (iI ht), .int (iI ln), .int (iI rw)])), (a, .inl (cI, 640, .inl (iA B)))]) [0, 1, 2, 3] rfl) (hD.sub (ws' := [(g, .inr (1, [.ref b, .int (iI ct)])), (b, .inl (cI, 4096, .inl (iA P))), (h, .inr (2, [.ref a, .int (iI op), .int (iI x), .int (iI y), .int (iI sc), .int (iI wd), .int (iI ht), .int (iI ln), .int (iI rw)])), (a, .inl (cI, 640, .inl (iA B)))]) [0, 1, 2, 3] (by decide) rfl) rfl rfl rfl hl.1 rfl (Nat.le_of_ble_eq_true rfl) d_Pk_unpack_7) hP hD hS hA [0, 1, 2, 3] [] rfl (wr := []) rfl (by decide) (by decide) (fun v w1 H locs hq hP hD hS => ?_)
    obtain ⟨B2_7, rfl, rfl, hB2_7⟩ := hq
    refine W.cs (cells' := 0) (slots' := 0) rfl rfl ?_
    refine W.eq (g2 := F0 m 10 ls []) rfl ?_
    have hP : va_P D xcl [(g, .inr (1, [.ref b, .int (iI ct)])), (b, .inl (cI, 4096, .inl (iA P))), (h, .inr (2, [.ref a, .int (iI op), .int (iI x), .int (iI y), .int (iI sc), .int (iI wd), .int (iI ht), .int (iI ln), .int (iI rw)])), (a, .inl (cI, 640, .inl (iA B2_7)))] _ := hP
    have hD : va_D A [(g, .inr (1, [.ref b, .int (iI ct)])), (b, .inl (cI, 4096, .inl (iA P))), (h, .inr (2, [.ref a, .int (iI op), .int (iI x), .int (iI y), .int (iI sc), .int (iI wd), .int (iI ht), .int (iI ln), .int (iI rw)])), (a, .inl (cI, 640, .inl (iA B2_7)))] := hD
    exact x_vret hx hb hr hlocks hP hD hS (by decide) (by decide) ⟨B2_7, rfl, rfl, by rw [hB2_7]; exact (if_pos c_2).symm⟩ d_Pk_unpack_10
