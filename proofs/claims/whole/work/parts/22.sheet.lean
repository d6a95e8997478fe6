theorem LOK_congr {cJ : ClassId} {ac : Int} {nw dn : Nat} {g : Nat → Option Nat} {pl : va_W} {Wd Wd2 : Nat → Nat → Int64} (h : LOK cJ ac nw dn g pl Wd) (e : ∀ y, y < dn → ∀ k, k < nw → Wd y k = Wd2 y k) : LOK cJ ac nw dn g pl Wd2 := by
  obtain ⟨ys, la, wa, M, h1, h2, h3, h4⟩ := h
  exact ⟨ys, la, wa, M, h1, h2, h3, fun y hy k hk => by rw [← e y hy k hk, h4 y hy k hk]⟩

theorem d_RR_sideOf_0 : decode b_RR_sideOf 0 = .ok (.iconst 1, 1) := by decide +kernel
theorem d_RR_sideOf_1 : decode b_RR_sideOf 1 = .ok (.iload_n 0, 1) := by decide +kernel
theorem d_RR_sideOf_2 : decode b_RR_sideOf 2 = .ok (.sipush 5100, 3) := by decide +kernel
theorem d_RR_sideOf_5 : decode b_RR_sideOf 5 = .ok (.invokestatic 172, 3) := by decide +kernel
theorem d_RR_sideOf_8 : decode b_RR_sideOf 8 = .ok (.invokestatic 178, 3) := by decide +kernel
theorem d_RR_sideOf_11 : decode b_RR_sideOf 11 = .ok (.ireturn, 1) := by decide +kernel
theorem ds_RR_sideOf : xDesc y_RR_sideOf 1 := by decide +kernel

abbrev rm_RR_sideOf : Room := { frames := 1, cells := 0, slots := 0, locals := 14 }
set_option maxHeartbeats 4000000 in
set_option maxRecDepth 100000 in
/-- sideOf -/
theorem c_RR_sideOf (l : Launch) (D : va_G) (cI cJ cQ : ClassId) (z : Int) (hz : inR z) : xMet l D (xT cI cJ cQ) y_RR_sideOf b_RR_sideOf 1 (some .int) rm_RR_sideOf [.int (iI z)] [] (fun v ws => v = some (.int (iI (max 1 (min z 5100)))) ∧ ws = []) := by
  refine x_met (by decide) (Nat.le_of_ble_eq_true rfl) ?_
  intro p e s m below meth c hx hb hr hml hts hown hlocks hin hF0 A hA hP hD hK ls hl hS
  have hl : lv_has ls 1 [(0, .int (iI z))] := hl
  refine xi_iconst hx hb d_RR_sideOf_0 ?_
  refine lv_iload_n hx hb d_RR_sideOf_1 rfl (lv_at hl 0 rfl) ?_
  refine xi_sipush hx hb d_RR_sideOf_2 (by decide) ?_
  refine xi_mmin hx hb (hml.trans hl.1.symm) hown hts kw_33 (by decide) (Nat.le_of_ble_eq_true rfl) (by decide) (by decide) ⟨by omega, by omega⟩ ⟨by decide, by decide⟩ d_RR_sideOf_5 ?_
  refine xi_mmax hx hb (hml.trans hl.1.symm) hown hts kw_36 (by decide) (Nat.le_of_ble_eq_true rfl) (by decide) (by decide) ⟨by decide, by decide⟩ ⟨by omega, by omega⟩ d_RR_sideOf_8 ?_
  exact x_iret hx hb hr hlocks hP hD hS (by decide) (by decide) ⟨rfl, rfl⟩ d_RR_sideOf_11

theorem d_Sh_init_0 : decode b_Sh_init 0 = .ok (.aload_n 0, 1) := by decide +kernel
theorem d_Sh_init_1 : decode b_Sh_init 1 = .ok (.invokespecial 3, 3) := by decide +kernel
theorem d_Sh_init_4 : decode b_Sh_init 4 = .ok (.aload_n 0, 1) := by decide +kernel
theorem d_Sh_init_5 : decode b_Sh_init 5 = .ok (.iconst 0, 1) := by decide +kernel
theorem d_Sh_init_6 : decode b_Sh_init 6 = .ok (.putfield 9, 3) := by decide +kernel
theorem d_Sh_init_9 : decode b_Sh_init 9 = .ok (.aload_n 0, 1) := by decide +kernel
theorem d_Sh_init_10 : decode b_Sh_init 10 = .ok (.iconst 0, 1) := by decide +kernel
theorem d_Sh_init_11 : decode b_Sh_init 11 = .ok (.putfield 15, 3) := by decide +kernel
theorem d_Sh_init_14 : decode b_Sh_init 14 = .ok (.aload_n 0, 1) := by decide +kernel
theorem d_Sh_init_15 : decode b_Sh_init 15 = .ok (.iconst 0, 1) := by decide +kernel
theorem d_Sh_init_16 : decode b_Sh_init 16 = .ok (.putfield 18, 3) := by decide +kernel
theorem d_Sh_init_19 : decode b_Sh_init 19 = .ok (.aload_n 0, 1) := by decide +kernel
theorem d_Sh_init_20 : decode b_Sh_init 20 = .ok (.iconst 0, 1) := by decide +kernel
theorem d_Sh_init_21 : decode b_Sh_init 21 = .ok (.putfield 22, 3) := by decide +kernel
theorem d_Sh_init_24 : decode b_Sh_init 24 = .ok (.aload_n 0, 1) := by decide +kernel
theorem d_Sh_init_25 : decode b_Sh_init 25 = .ok (.iload_n 1, 1) := by decide +kernel
theorem d_Sh_init_26 : decode b_Sh_init 26 = .ok (.invokestatic 25, 3) := by decide +kernel
theorem d_Sh_init_29 : decode b_Sh_init 29 = .ok (.putfield 29, 3) := by decide +kernel
theorem d_Sh_init_32 : decode b_Sh_init 32 = .ok (.aload_n 0, 1) := by decide +kernel
theorem d_Sh_init_33 : decode b_Sh_init 33 = .ok (.iload_n 2, 1) := by decide +kernel
theorem d_Sh_init_34 : decode b_Sh_init 34 = .ok (.invokestatic 25, 3) := by decide +kernel
theorem d_Sh_init_37 : decode b_Sh_init 37 = .ok (.putfield 32, 3) := by decide +kernel
theorem d_Sh_init_40 : decode b_Sh_init 40 = .ok (.aload_n 0, 1) := by decide +kernel
theorem d_Sh_init_41 : decode b_Sh_init 41 = .ok (.aload_n 0, 1) := by decide +kernel
theorem d_Sh_init_42 : decode b_Sh_init 42 = .ok (.getfield 32, 3) := by decide +kernel
theorem d_Sh_init_45 : decode b_Sh_init 45 = .ok (.anewarray 35, 3) := by decide +kernel
theorem d_Sh_init_48 : decode b_Sh_init 48 = .ok (.putfield 37, 3) := by decide +kernel
theorem d_Sh_init_51 : decode b_Sh_init 51 = .ok (.aload_n 0, 1) := by decide +kernel
theorem d_Sh_init_52 : decode b_Sh_init 52 = .ok (.new 35, 3) := by decide +kernel
theorem d_Sh_init_55 : decode b_Sh_init 55 = .ok (.dup, 1) := by decide +kernel
theorem d_Sh_init_56 : decode b_Sh_init 56 = .ok (.aload_n 0, 1) := by decide +kernel
theorem d_Sh_init_57 : decode b_Sh_init 57 = .ok (.getfield 29, 3) := by decide +kernel
theorem d_Sh_init_60 : decode b_Sh_init 60 = .ok (.invokespecial 41, 3) := by decide +kernel
theorem d_Sh_init_63 : decode b_Sh_init 63 = .ok (.putfield 44, 3) := by decide +kernel
theorem d_Sh_init_66 : decode b_Sh_init 66 = .ok (.return_, 1) := by decide +kernel
theorem ds_Sh_init : xDesc y_Sh_init 2 := by decide +kernel

abbrev rm_Sh_init : Room := { frames := 2, cells := 3, slots := 5182, locals := 35 }
set_option maxHeartbeats 4000000 in
set_option maxRecDepth 100000 in
/-- Sheet(width, height) -/
theorem c_Sh_init (l : Launch) (D : va_G) (cI cJ cQ : ClassId) (hs : Nat) (ww : Int) (hh : Int) (hww : inR ww) (hhh : inR hh) : xMetF l D (xT cI cJ cQ) xF0 y_Sh_init b_Sh_init 3 none rm_Sh_init [.ref hs, .int (iI ww), .int (iI hh)] [(hs, .inr (3, [.int (iI 0), .int (iI 0), .null, .null, .int (iI 0), .int (iI 0), .int (iI 0), .int (iI 0)]))] (fun v ws => ∃ (la : Nat) (st : Nat) (sw : Nat) (nw : Nat), v = none ∧ ws = [(hs, .inr (3, [.int (iI (max 1 (min ww 5100))), .int (iI (max 1 (min hh 5100))), .ref la, .ref st, .int (iI 0), .int (iI 0), .int (iI 0), .int (iI 0)])), (la, .inl (cQ, ((max 1 (min hh 5100)).toNat), .inr (.inr (.inr (.inr (fun _ => none)))))), (st, .inr (0, [.int (iI (max 1 (min ww 5100))), .ref sw])), (sw, .inl (cJ, nw, .inr (.inl (fun _ => 0))))] ∧ ((nw : Int) = (max 1 (min ww 5100) + 63) / 64)) := by
  refine x_met (by decide) (Nat.le_of_ble_eq_true rfl) ?_
  intro p e s m below meth c hx hb hr hml hts hown hlocks hin hF0 A hA hP hD hK ls hl hS
  have hl : lv_has ls 3 [(0, .ref hs), (1, .int (iI ww)), (2, .int (iI hh))] := hl
  refine lv_aload_n hx hb d_Sh_init_0 rfl (lv_at hl 0 rfl) ?_
  refine W.objInit hx hb hown (hts _ kw_29) (hts _ kw_22) (hts _ kw_23) rfl (by rw [hml]; exact hl.1) rfl d_Sh_init_1 (Nat.le_of_ble_eq_true rfl) (Nat.le_of_ble_eq_true rfl) ?_
  refine W.eq (g2 := F0 m 4 ls []) rfl ?_
  refine lv_aload_n hx hb d_Sh_init_4 rfl (lv_at hl 0 rfl) ?_
  refine xi_iconst hx hb d_Sh_init_5 ?_
  refine va_put (D := D) (cl := xcl) (ci := 3) (v := .int (iI 0)) (ty := .int) (C := R_Sh) (T := T_Sh) (N := 8) hx hb hts i_Sh ty_Sh ty_Sh_ok nm_Sh hown hK hP hD hS 0 rfl rfl 4 (by decide) (hts _ kw_61) (fun _ h9 => h9) rfl (by decide +kernel) rfl rfl (Nat.le_of_ble_eq_true rfl) d_Sh_init_6 (fun H locs hP hD hS => ?_)
  have hP : va_P D xcl [(hs, .inr (3, [.int (iI 0), .int (iI 0), .null, .null, .int (iI 0), .int (iI 0), .int (iI 0), .int (iI 0)]))] _ := hP
  have hD : va_D A [(hs, .inr (3, [.int (iI 0), .int (iI 0), .null, .null, .int (iI 0), .int (iI 0), .int (iI 0), .int (iI 0)]))] := hD
  refine lv_aload_n hx hb d_Sh_init_9 rfl (lv_at hl 0 rfl) ?_
  refine xi_iconst hx hb d_Sh_init_10 ?_
  refine va_put (D := D) (cl := xcl) (ci := 3) (v := .int (iI 0)) (ty := .int) (C := R_Sh) (T := T_Sh) (N := 8) hx hb hts i_Sh ty_Sh ty_Sh_ok nm_Sh hown hK hP hD hS 0 rfl rfl 5 (by decide) (hts _ kw_63) (fun _ h9 => h9) rfl (by decide +kernel) rfl rfl (Nat.le_of_ble_eq_true rfl) d_Sh_init_11 (fun H locs hP hD hS => ?_)
  have hP : va_P D xcl [(hs, .inr (3, [.int (iI 0), .int (iI 0), .null, .null, .int (iI 0), .int (iI 0), .int (iI 0), .int (iI 0)]))] _ := hP
  have hD : va_D A [(hs, .inr (3, [.int (iI 0), .int (iI 0), .null, .null, .int (iI 0), .int (iI 0), .int (iI 0), .int (iI 0)]))] := hD
  refine lv_aload_n hx hb d_Sh_init_14 rfl (lv_at hl 0 rfl) ?_
  refine xi_iconst hx hb d_Sh_init_15 ?_
  refine va_put (D := D) (cl := xcl) (ci := 3) (v := .int (iI 0)) (ty := .boolean) (C := R_Sh) (T := T_Sh) (N := 8) hx hb hts i_Sh ty_Sh ty_Sh_ok nm_Sh hown hK hP hD hS 0 rfl rfl 6 (by decide) (hts _ kw_65) (fun _ h9 => h9) rfl (by decide +kernel) rfl rfl (Nat.le_of_ble_eq_true rfl) d_Sh_init_16 (fun H locs hP hD hS => ?_)
  have hP : va_P D xcl [(hs, .inr (3, [.int (iI 0), .int (iI 0), .null, .null, .int (iI 0), .int (iI 0), .int (iI 0), .int (iI 0)]))] _ := hP
  have hD : va_D A [(hs, .inr (3, [.int (iI 0), .int (iI 0), .null, .null, .int (iI 0), .int (iI 0), .int (iI 0), .int (iI 0)]))] := hD
  refine lv_aload_n hx hb d_Sh_init_19 rfl (lv_at hl 0 rfl) ?_
  refine xi_iconst hx hb d_Sh_init_20 ?_
  refine va_put (D := D) (cl := xcl) (ci := 3) (v := .int (iI 0)) (ty := .int) (C := R_Sh) (T := T_Sh) (N := 8) hx hb hts i_Sh ty_Sh ty_Sh_ok nm_Sh hown hK hP hD hS 0 rfl rfl 7 (by decide) (hts _ kw_67) (fun _ h9 => h9) rfl (by decide +kernel) rfl rfl (Nat.le_of_ble_eq_true rfl) d_Sh_init_21 (fun H locs hP hD hS => ?_)
  have hP : va_P D xcl [(hs, .inr (3, [.int (iI 0), .int (iI 0), .null, .null, .int (iI 0), .int (iI 0), .int (iI 0), .int (iI 0)]))] _ := hP
  have hD : va_D A [(hs, .inr (3, [.int (iI 0), .int (iI 0), .null, .null, .int (iI 0), .int (iI 0), .int (iI 0), .int (iI 0)]))] := hD
  refine lv_aload_n hx hb d_Sh_init_24 rfl (lv_at hl 0 rfl) ?_
  refine lv_iload_n hx hb d_Sh_init_25 rfl (lv_at hl 1 rfl) ?_
  refine x_aft (x_runSN (As := [.int (iI ww)]) (rest := [.ref hs]) hx hb hml hown hts (c_RR_sideOf l D cI cJ cQ ww (hww)) hF0.2.2.2 kw_31 kw_1 kw_32 ds_RR_sideOf (by decide) hK (hP.sub (ws' := []) [] rfl) (hD.sub (ws' := []) [] (by decide) rfl) hl.1 rfl (Nat.le_of_ble_eq_true rfl) d_Sh_init_26) hP hD hS hA [] [0] rfl (wr := [(hs, .inr (3, [.int (iI 0), .int (iI 0), .null, .null, .int (iI 0), .int (iI 0), .int (iI 0), .int (iI 0)]))]) rfl (by decide) (by decide) (fun v w1 H locs hq hP hD hS => ?_)
  obtain ⟨rfl, rfl⟩ := hq
  refine W.cs (cells' := 0) (slots' := 0) rfl rfl ?_
  refine W.eq (g2 := F0 m 29 ls [.int (iI (max 1 (min ww 5100))), .ref hs]) rfl ?_
  have hP : va_P D xcl [(hs, .inr (3, [.int (iI 0), .int (iI 0), .null, .null, .int (iI 0), .int (iI 0), .int (iI 0), .int (iI 0)]))] _ := hP
  have hD : va_D A [(hs, .inr (3, [.int (iI 0), .int (iI 0), .null, .null, .int (iI 0), .int (iI 0), .int (iI 0), .int (iI 0)]))] := hD
  refine va_putF (D := D) (cl := xcl) (ci := 3) (v := .int (iI (max 1 (min ww 5100)))) (ty := .int) (C := R_Sh) (T := T_Sh) (N := 8) hx hb hts i_Sh ty_Sh ty_Sh_ok nm_Sh hown hK hP hD hS 0 rfl rfl 0 (by decide) (hts _ kw_55) (fun _ h9 => h9) rfl hin rfl (by decide +kernel) rfl rfl (Nat.le_of_ble_eq_true rfl) d_Sh_init_29 (fun H locs hP hD hS => ?_)
  have hP : va_P D xcl [(hs, .inr (3, [.int (iI (max 1 (min ww 5100))), .int (iI 0), .null, .null, .int (iI 0), .int (iI 0), .int (iI 0), .int (iI 0)]))] _ := hP
  have hD : va_D A [(hs, .inr (3, [.int (iI (max 1 (min ww 5100))), .int (iI 0), .null, .null, .int (iI 0), .int (iI 0), .int (iI 0), .int (iI 0)]))] := hD
  refine lv_aload_n hx hb d_Sh_init_32 rfl (lv_at hl 0 rfl) ?_
  refine lv_iload_n hx hb d_Sh_init_33 rfl (lv_at hl 2 rfl) ?_
  refine x_aft (x_runSN (As := [.int (iI hh)]) (rest := [.ref hs]) hx hb hml hown hts (c_RR_sideOf l D cI cJ cQ hh (hhh)) hF0.2.2.2 kw_31 kw_1 kw_32 ds_RR_sideOf (by decide) hK (hP.sub (ws' := []) [] rfl) (hD.sub (ws' := []) [] (by decide) rfl) hl.1 rfl (Nat.le_of_ble_eq_true rfl) d_Sh_init_34) hP hD hS hA [] [0] rfl (wr := [(hs, .inr (3, [.int (iI (max 1 (min ww 5100))), .int (iI 0), .null, .null, .int (iI 0), .int (iI 0), .int (iI 0), .int (iI 0)]))]) rfl (by decide) (by decide) (fun v w1 H locs hq hP hD hS => ?_)
  obtain ⟨rfl, rfl⟩ := hq
  refine W.cs (cells' := 0) (slots' := 0) rfl rfl ?_
  refine W.eq (g2 := F0 m 37 ls [.int (iI (max 1 (min hh 5100))), .ref hs]) rfl ?_
  have hP : va_P D xcl [(hs, .inr (3, [.int (iI (max 1 (min ww 5100))), .int (iI 0), .null, .null, .int (iI 0), .int (iI 0), .int (iI 0), .int (iI 0)]))] _ := hP
  have hD : va_D A [(hs, .inr (3, [.int (iI (max 1 (min ww 5100))), .int (iI 0), .null, .null, .int (iI 0), .int (iI 0), .int (iI 0), .int (iI 0)]))] := hD
  refine va_putF (D := D) (cl := xcl) (ci := 3) (v := .int (iI (max 1 (min hh 5100)))) (ty := .int) (C := R_Sh) (T := T_Sh) (N := 8) hx hb hts i_Sh ty_Sh ty_Sh_ok nm_Sh hown hK hP hD hS 0 rfl rfl 1 (by decide) (hts _ kw_57) (fun _ h9 => h9) rfl hin rfl (by decide +kernel) rfl rfl (Nat.le_of_ble_eq_true rfl) d_Sh_init_37 (fun H locs hP hD hS => ?_)
  have hP : va_P D xcl [(hs, .inr (3, [.int (iI (max 1 (min ww 5100))), .int (iI (max 1 (min hh 5100))), .null, .null, .int (iI 0), .int (iI 0), .int (iI 0), .int (iI 0)]))] _ := hP
  have hD : va_D A [(hs, .inr (3, [.int (iI (max 1 (min ww 5100))), .int (iI (max 1 (min hh 5100))), .null, .null, .int (iI 0), .int (iI 0), .int (iI 0), .int (iI 0)]))] := hD
  refine lv_aload_n hx hb d_Sh_init_40 rfl (lv_at hl 0 rfl) ?_
  refine lv_aload_n hx hb d_Sh_init_41 rfl (lv_at hl 0 rfl) ?_
  refine va_get (D := D) (cl := xcl) (ci := 3) (v := .int (iI (max 1 (min hh 5100)))) (C := R_Sh) (T := T_Sh) (N := 8) hx hb hts i_Sh hown hK hP 0 rfl rfl 1 (by decide) (hts _ kw_57) (fun _ h9 => h9) rfl d_Sh_init_42 ?_
  refine xi_newq (N := (max 1 (min hh 5100)).toNat) hx hb hown (hts _ kw_39) hF0.1 hK hP hD hS hA (by omega) (by omega) (by decide) (by show 0 + (max 1 (min hh 5100)).toNat ≤ 5182; omega) d_Sh_init_45 (fun q45 H hP hD hS => ?_)
  have hP : va_P D xcl [(hs, .inr (3, [.int (iI (max 1 (min ww 5100))), .int (iI (max 1 (min hh 5100))), .null, .null, .int (iI 0), .int (iI 0), .int (iI 0), .int (iI 0)])), (q45, .inl (cQ, ((max 1 (min hh 5100)).toNat), .inr (.inr (.inr (.inr (fun _ => none))))))] _ := hP
  have hD : va_D A [(hs, .inr (3, [.int (iI (max 1 (min ww 5100))), .int (iI (max 1 (min hh 5100))), .null, .null, .int (iI 0), .int (iI 0), .int (iI 0), .int (iI 0)])), (q45, .inl (cQ, ((max 1 (min hh 5100)).toNat), .inr (.inr (.inr (.inr (fun _ => none))))))] := hD
  refine W.widen (k := 1) (n := 5100) (by decide) (by omega) ?_
  refine va_putF (D := D) (cl := xcl) (ci := 3) (v := .ref q45) (ty := .array (.object "RasterRows$Line")) (C := R_Sh) (T := T_Sh) (N := 8) hx hb hts i_Sh ty_Sh ty_Sh_ok nm_Sh hown hK hP hD hS 0 rfl rfl 2 (by decide) (hts _ kw_59) (fun _ h9 => h9) rfl hin rfl (by decide +kernel) rfl rfl (Nat.le_of_ble_eq_true rfl) d_Sh_init_48 (fun H locs hP hD hS => ?_)
  have hP : va_P D xcl [(hs, .inr (3, [.int (iI (max 1 (min ww 5100))), .int (iI (max 1 (min hh 5100))), .ref q45, .null, .int (iI 0), .int (iI 0), .int (iI 0), .int (iI 0)])), (q45, .inl (cQ, ((max 1 (min hh 5100)).toNat), .inr (.inr (.inr (.inr (fun _ => none))))))] _ := hP
  have hD : va_D A [(hs, .inr (3, [.int (iI (max 1 (min ww 5100))), .int (iI (max 1 (min hh 5100))), .ref q45, .null, .int (iI 0), .int (iI 0), .int (iI 0), .int (iI 0)])), (q45, .inl (cQ, ((max 1 (min hh 5100)).toNat), .inr (.inr (.inr (.inr (fun _ => none))))))] := hD
  refine lv_aload_n hx hb d_Sh_init_51 rfl (lv_at hl 0 rfl) ?_
  refine va_new (ci := 0) (fs := [.int (iI 0), .null]) (C := R_Ln) (T := T_Ln) (N := 2) hx hb hts i_Ln ty_Ln ty_Ln_ok hown (hts _ kw_39) (hts _ kw_41) (hts _ kw_4) hK hP hD hS hA rfl (fun j hj => by rcases (show j = 0 ∨ j = 1 by omega) with rfl | rfl <;> rfl) (by decide) (by decide) d_Sh_init_52 (fun q52 H hP hD hS => ?_)
  have hP : va_P D xcl [(hs, .inr (3, [.int (iI (max 1 (min ww 5100))), .int (iI (max 1 (min hh 5100))), .ref q45, .null, .int (iI 0), .int (iI 0), .int (iI 0), .int (iI 0)])), (q45, .inl (cQ, ((max 1 (min hh 5100)).toNat), .inr (.inr (.inr (.inr (fun _ => none)))))), (q52, .inr (0, [.int (iI 0), .null]))] _ := hP
  have hD : va_D A [(hs, .inr (3, [.int (iI (max 1 (min ww 5100))), .int (iI (max 1 (min hh 5100))), .ref q45, .null, .int (iI 0), .int (iI 0), .int (iI 0), .int (iI 0)])), (q45, .inl (cQ, ((max 1 (min hh 5100)).toNat), .inr (.inr (.inr (.inr (fun _ => none)))))), (q52, .inr (0, [.int (iI 0), .null]))] := hD
  refine W.cs (cells' := 2) (slots' := 5102) rfl rfl ?_
  refine lv_dup hx hb d_Sh_init_55 rfl ?_
  refine lv_aload_n hx hb d_Sh_init_56 rfl (lv_at hl 0 rfl) ?_
  refine va_get (D := D) (cl := xcl) (ci := 3) (v := .int (iI (max 1 (min ww 5100)))) (C := R_Sh) (T := T_Sh) (N := 8) hx hb hts i_Sh hown hK hP 0 rfl rfl 0 (by decide) (hts _ kw_55) (fun _ h9 => h9) rfl d_Sh_init_57 ?_
  refine x_aft (x_runI (As := [.int (iI (max 1 (min ww 5100)))]) (rest := [.ref q52, .ref hs]) hx hb hml hown hts (c_Ln_init l D cI cJ cQ q52 (max 1 (min ww 5100)) (by omega) (by omega)) kw_42 kw_43 kw_4 kw_44 rfl ds_Ln_init (by decide) hK (hP.sub (ws' := [(q52, .inr (0, [.int (iI 0), .null]))]) [2] rfl) (hD.sub (ws' := [(q52, .inr (0, [.int (iI 0), .null]))]) [2] (by decide) rfl) hl.1 rfl (Nat.le_of_ble_eq_true rfl) d_Sh_init_60) hP hD hS hA [2] [0, 1] rfl (wr := [(hs, .inr (3, [.int (iI (max 1 (min ww 5100))), .int (iI (max 1 (min hh 5100))), .ref q45, .null, .int (iI 0), .int (iI 0), .int (iI 0), .int (iI 0)])), (q45, .inl (cQ, ((max 1 (min hh 5100)).toNat), .inr (.inr (.inr (.inr (fun _ => none))))))]) rfl (by decide) (by decide) (fun v w1 H locs hq hP hD hS => ?_)
  obtain ⟨w_60, nw_60, rfl, rfl, hnw_60⟩ := hq
  refine W.widen (k := 3) (n := 5182) (by decide) (by decide) ?_
  refine W.eq (g2 := F0 m 63 ls [.ref q52, .ref hs]) rfl ?_
  have hP : va_P D xcl [(hs, .inr (3, [.int (iI (max 1 (min ww 5100))), .int (iI (max 1 (min hh 5100))), .ref q45, .null, .int (iI 0), .int (iI 0), .int (iI 0), .int (iI 0)])), (q45, .inl (cQ, ((max 1 (min hh 5100)).toNat), .inr (.inr (.inr (.inr (fun _ => none)))))), (q52, .inr (0, [.int (iI (max 1 (min ww 5100))), .ref w_60])), (w_60, .inl (cJ, nw_60, .inr (.inl (fun _ => 0))))] _ := hP
  have hD : va_D A [(hs, .inr (3, [.int (iI (max 1 (min ww 5100))), .int (iI (max 1 (min hh 5100))), .ref q45, .null, .int (iI 0), .int (iI 0), .int (iI 0), .int (iI 0)])), (q45, .inl (cQ, ((max 1 (min hh 5100)).toNat), .inr (.inr (.inr (.inr (fun _ => none)))))), (q52, .inr (0, [.int (iI (max 1 (min ww 5100))), .ref w_60])), (w_60, .inl (cJ, nw_60, .inr (.inl (fun _ => 0))))] := hD
  refine va_putF (D := D) (cl := xcl) (ci := 3) (v := .ref q52) (ty := .object "RasterRows$Line") (C := R_Sh) (T := T_Sh) (N := 8) hx hb hts i_Sh ty_Sh ty_Sh_ok nm_Sh hown hK hP hD hS 0 rfl rfl 3 (by decide) (hts _ kw_60) (fun _ h9 => h9) rfl hin rfl (by decide +kernel) rfl rfl (Nat.le_of_ble_eq_true rfl) d_Sh_init_63 (fun H locs hP hD hS => ?_)
  have hP : va_P D xcl [(hs, .inr (3, [.int (iI (max 1 (min ww 5100))), .int (iI (max 1 (min hh 5100))), .ref q45, .ref q52, .int (iI 0), .int (iI 0), .int (iI 0), .int (iI 0)])), (q45, .inl (cQ, ((max 1 (min hh 5100)).toNat), .inr (.inr (.inr (.inr (fun _ => none)))))), (q52, .inr (0, [.int (iI (max 1 (min ww 5100))), .ref w_60])), (w_60, .inl (cJ, nw_60, .inr (.inl (fun _ => 0))))] _ := hP
  have hD : va_D A [(hs, .inr (3, [.int (iI (max 1 (min ww 5100))), .int (iI (max 1 (min hh 5100))), .ref q45, .ref q52, .int (iI 0), .int (iI 0), .int (iI 0), .int (iI 0)])), (q45, .inl (cQ, ((max 1 (min hh 5100)).toNat), .inr (.inr (.inr (.inr (fun _ => none)))))), (q52, .inr (0, [.int (iI (max 1 (min ww 5100))), .ref w_60])), (w_60, .inl (cJ, nw_60, .inr (.inl (fun _ => 0))))] := hD
  exact x_vret hx hb hr hlocks hP hD hS (by decide) (by decide) ⟨q45, q52, w_60, nw_60, rfl, rfl, hnw_60⟩ d_Sh_init_66

theorem d_Sh_has_0 : decode b_Sh_has 0 = .ok (.iload_n 1, 1) := by decide +kernel
theorem d_Sh_has_1 : decode b_Sh_has 1 = .ok (.ifCond .lt 27, 3) := by decide +kernel
theorem d_Sh_has_4 : decode b_Sh_has 4 = .ok (.iload_n 1, 1) := by decide +kernel
theorem d_Sh_has_5 : decode b_Sh_has 5 = .ok (.aload_n 0, 1) := by decide +kernel
theorem d_Sh_has_6 : decode b_Sh_has 6 = .ok (.getfield 29, 3) := by decide +kernel
theorem d_Sh_has_9 : decode b_Sh_has 9 = .ok (.if_icmp .ge 19, 3) := by decide +kernel
theorem d_Sh_has_12 : decode b_Sh_has 12 = .ok (.iload_n 2, 1) := by decide +kernel
theorem d_Sh_has_13 : decode b_Sh_has 13 = .ok (.ifCond .lt 15, 3) := by decide +kernel
theorem d_Sh_has_16 : decode b_Sh_has 16 = .ok (.iload_n 2, 1) := by decide +kernel
theorem d_Sh_has_17 : decode b_Sh_has 17 = .ok (.aload_n 0, 1) := by decide +kernel
theorem d_Sh_has_18 : decode b_Sh_has 18 = .ok (.getfield 32, 3) := by decide +kernel
theorem d_Sh_has_21 : decode b_Sh_has 21 = .ok (.if_icmp .ge 7, 3) := by decide +kernel
theorem d_Sh_has_24 : decode b_Sh_has 24 = .ok (.iconst 1, 1) := by decide +kernel
theorem d_Sh_has_25 : decode b_Sh_has 25 = .ok (.goto 4, 3) := by decide +kernel
theorem d_Sh_has_28 : decode b_Sh_has 28 = .ok (.iconst 0, 1) := by decide +kernel
theorem d_Sh_has_29 : decode b_Sh_has 29 = .ok (.ireturn, 1) := by decide +kernel
theorem ds_Sh_has : xDesc y_Sh_has 2 := by decide +kernel

abbrev rm_Sh_has : Room := { frames := 0, cells := 0, slots := 0, locals := 0 }
set_option maxHeartbeats 4000000 in
set_option maxRecDepth 100000 in
/-- Sheet.has -/
theorem c_Sh_has (l : Launch) (D : va_G) (cI cJ cQ : ClassId) (hs : Nat) (la : Nat) (st : Nat) (sw : Nat) (ac : Int) (dI : Int) (dn : Nat) (nw : Nat) (g : Nat → Option Nat) (sf : Nat → Int64) (kr : Int) (kb : Int) (ov : Int) (bd : Int) (x : Int) (y : Int) (hac : 1 ≤ ac ∧ ac ≤ 5100) (hdn : dI = (dn : Int) ∧ dn ≤ 5100) (hx_ : inR x) (hy_ : inR y) : xMet l D (xT cI cJ cQ) y_Sh_has b_Sh_has 3 (some .boolean) rm_Sh_has [.ref hs, .int (iI x), .int (iI y)] [(hs, .inr (3, [.int (iI ac), .int (iI dI), .ref la, .ref st, .int (iI kr), .int (iI kb), .int (iI ov), .int (iI bd)])), (la, .inl (cQ, dn, .inr (.inr (.inr (.inr g))))), (st, .inr (0, [.int (iI ac), .ref sw])), (sw, .inl (cJ, nw, .inr (.inl sf)))] (fun v ws => ∃ (r : Int), v = some (.int (iI r)) ∧ ws = [(hs, .inr (3, [.int (iI ac), .int (iI dI), .ref la, .ref st, .int (iI kr), .int (iI kb), .int (iI ov), .int (iI bd)])), (la, .inl (cQ, dn, .inr (.inr (.inr (.inr g))))), (st, .inr (0, [.int (iI ac), .ref sw])), (sw, .inl (cJ, nw, .inr (.inl sf)))] ∧ ((r = 1 ∧ 0 ≤ x ∧ x < ac ∧ 0 ≤ y ∧ y < dI) ∨ (r = 0 ∧ (x < 0 ∨ ac ≤ x ∨ y < 0 ∨ dI ≤ y)))) := by
  refine x_met (by decide) (Nat.le_of_ble_eq_true rfl) ?_
  intro p e s m below meth c hx hb hr hml hts hown hlocks hin hF0 A hA hP hD hK ls hl hS
  have hl : lv_has ls 3 [(0, .ref hs), (1, .int (iI x)), (2, .int (iI y))] := hl
  refine lv_iload_n hx hb d_Sh_has_0 rfl (lv_at hl 1 rfl) ?_
  refine xi_if_lt (tgt := 28) hx hb d_Sh_has_1 (by decide) ⟨by omega, by omega⟩ (fun c_1 => ?_) (fun c_1 => ?_)
  ·
    refine xi_iconst hx hb d_Sh_has_28 ?_
    exact x_zret hx hb hr hlocks hP hD hS (by decide) (by decide) rfl ⟨0, rfl, rfl, by omega⟩ d_Sh_has_29
  ·
    refine lv_iload_n hx hb d_Sh_has_4 rfl (lv_at hl 1 rfl) ?_
    refine lv_aload_n hx hb d_Sh_has_5 rfl (lv_at hl 0 rfl) ?_
    refine va_get (D := D) (cl := xcl) (ci := 3) (v := .int (iI ac)) (C := R_Sh) (T := T_Sh) (N := 8) hx hb hts i_Sh hown hK hP 0 rfl rfl 0 (by decide) (hts _ kw_55) (fun _ h9 => h9) rfl d_Sh_has_6 ?_
    refine xi_icmp_ge (tgt := 28) hx hb d_Sh_has_9 (by decide) ⟨by omega, by omega⟩ ⟨by omega, by omega⟩ (fun c_9 => ?_) (fun c_9 => ?_)
    ·
      refine xi_iconst hx hb d_Sh_has_28 ?_
      exact x_zret hx hb hr hlocks hP hD hS (by decide) (by decide) rfl ⟨0, rfl, rfl, by omega⟩ d_Sh_has_29
    ·
      refine lv_iload_n hx hb d_Sh_has_12 rfl (lv_at hl 2 rfl) ?_
      refine xi_if_lt (tgt := 28) hx hb d_Sh_has_13 (by decide) ⟨by omega, by omega⟩ (fun c_13 => ?_) (fun c_13 => ?_)
      ·
        refine xi_iconst hx hb d_Sh_has_28 ?_
        exact x_zret hx hb hr hlocks hP hD hS (by decide) (by decide) rfl ⟨0, rfl, rfl, by omega⟩ d_Sh_has_29
      ·
        refine lv_iload_n hx hb d_Sh_has_16 rfl (lv_at hl 2 rfl) ?_
        refine lv_aload_n hx hb d_Sh_has_17 rfl (lv_at hl 0 rfl) ?_
        refine va_get (D := D) (cl := xcl) (ci := 3) (v := .int (iI dI)) (C := R_Sh) (T := T_Sh) (N := 8) hx hb hts i_Sh hown hK hP 0 rfl rfl 1 (by decide) (hts _ kw_57) (fun _ h9 => h9) rfl d_Sh_has_18 ?_
        refine xi_icmp_ge (tgt := 28) hx hb d_Sh_has_21 (by decide) ⟨by omega, by omega⟩ ⟨by omega, by omega⟩ (fun c_21 => ?_) (fun c_21 => ?_)
        ·
          refine xi_iconst hx hb d_Sh_has_28 ?_
          exact x_zret hx hb hr hlocks hP hD hS (by decide) (by decide) rfl ⟨0, rfl, rfl, by omega⟩ d_Sh_has_29
        ·
          refine xi_iconst hx hb d_Sh_has_24 ?_
          refine lv_goto (tgt := 29) hx hb d_Sh_has_25 (by decide) ?_
          exact x_zret hx hb hr hlocks hP hD hS (by decide) (by decide) rfl ⟨1, rfl, rfl, by omega⟩ d_Sh_has_29

theorem d_Sh_wordOf_0 : decode b_Sh_wordOf 0 = .ok (.iload_n 1, 1) := by decide +kernel
theorem d_Sh_wordOf_1 : decode b_Sh_wordOf 1 = .ok (.ifCond .lt 12, 3) := by decide +kernel
theorem d_Sh_wordOf_4 : decode b_Sh_wordOf 4 = .ok (.iload_n 1, 1) := by decide +kernel
theorem d_Sh_wordOf_5 : decode b_Sh_wordOf 5 = .ok (.aload_n 0, 1) := by decide +kernel
theorem d_Sh_wordOf_6 : decode b_Sh_wordOf 6 = .ok (.getfield 37, 3) := by decide +kernel
theorem d_Sh_wordOf_9 : decode b_Sh_wordOf 9 = .ok (.arraylength, 1) := by decide +kernel
theorem d_Sh_wordOf_10 : decode b_Sh_wordOf 10 = .ok (.if_icmp .lt 5, 3) := by decide +kernel
theorem d_Sh_wordOf_13 : decode b_Sh_wordOf 13 = .ok (.lconst 0, 1) := by decide +kernel
theorem d_Sh_wordOf_14 : decode b_Sh_wordOf 14 = .ok (.lreturn, 1) := by decide +kernel
theorem d_Sh_wordOf_15 : decode b_Sh_wordOf 15 = .ok (.aload_n 0, 1) := by decide +kernel
theorem d_Sh_wordOf_16 : decode b_Sh_wordOf 16 = .ok (.getfield 37, 3) := by decide +kernel
theorem d_Sh_wordOf_19 : decode b_Sh_wordOf 19 = .ok (.iload_n 1, 1) := by decide +kernel
theorem d_Sh_wordOf_20 : decode b_Sh_wordOf 20 = .ok (.aaload, 1) := by decide +kernel
theorem d_Sh_wordOf_21 : decode b_Sh_wordOf 21 = .ok (.astore_n 3, 1) := by decide +kernel
theorem d_Sh_wordOf_22 : decode b_Sh_wordOf 22 = .ok (.aload_n 3, 1) := by decide +kernel
theorem d_Sh_wordOf_23 : decode b_Sh_wordOf 23 = .ok (.ifnonnull 7, 3) := by decide +kernel
theorem d_Sh_wordOf_26 : decode b_Sh_wordOf 26 = .ok (.lconst 0, 1) := by decide +kernel
theorem d_Sh_wordOf_27 : decode b_Sh_wordOf 27 = .ok (.goto 8, 3) := by decide +kernel
theorem d_Sh_wordOf_30 : decode b_Sh_wordOf 30 = .ok (.aload_n 3, 1) := by decide +kernel
theorem d_Sh_wordOf_31 : decode b_Sh_wordOf 31 = .ok (.iload_n 2, 1) := by decide +kernel
theorem d_Sh_wordOf_32 : decode b_Sh_wordOf 32 = .ok (.invokevirtual 48, 3) := by decide +kernel
theorem d_Sh_wordOf_35 : decode b_Sh_wordOf 35 = .ok (.lreturn, 1) := by decide +kernel
theorem ds_Sh_wordOf : xDesc y_Sh_wordOf 2 := by decide +kernel

abbrev rm_Sh_wordOf : Room := { frames := 1, cells := 0, slots := 0, locals := 21 }
set_option maxHeartbeats 4000000 in
set_option maxRecDepth 100000 in
/-- Sheet.wordOf -/
theorem c_Sh_wordOf (l : Launch) (D : va_G) (cI cJ cQ : ClassId) (hs : Nat) (la : Nat) (st : Nat) (sw : Nat) (ac : Int) (dI : Int) (dn : Nat) (nw : Nat) (g : Nat → Option Nat) (sf : Nat → Int64) (kr : Int) (kb : Int) (ov : Int) (bd : Int) (pl : va_W) (Wd : Nat → Nat → Int64) (yy : Int) (kk : Int) (hac : 1 ≤ ac ∧ ac ≤ 5100) (hdn : dI = (dn : Int) ∧ dn ≤ 5100) (hnw : (nw : Int) = (ac + 63) / 64) (hL : LOK cJ ac nw dn g pl Wd) (hy_ : inR yy) (hk_ : inR kk) : xMet l D (xT cI cJ cQ) y_Sh_wordOf b_Sh_wordOf 4 (some .long) rm_Sh_wordOf [.ref hs, .int (iI yy), .int (iI kk)] ([(hs, .inr (3, [.int (iI ac), .int (iI dI), .ref la, .ref st, .int (iI kr), .int (iI kb), .int (iI ov), .int (iI bd)])), (la, .inl (cQ, dn, .inr (.inr (.inr (.inr g))))), (st, .inr (0, [.int (iI ac), .ref sw])), (sw, .inl (cJ, nw, .inr (.inl sf)))] ++ pl) (fun v ws => ∃ (r : Int64) (pl2 : va_W), v = some (.long r) ∧ ws = ([(hs, .inr (3, [.int (iI ac), .int (iI dI), .ref la, .ref st, .int (iI kr), .int (iI kb), .int (iI ov), .int (iI bd)])), (la, .inl (cQ, dn, .inr (.inr (.inr (.inr g))))), (st, .inr (0, [.int (iI ac), .ref sw])), (sw, .inl (cJ, nw, .inr (.inl sf)))] ++ pl2) ∧ (0 ≤ yy → yy < dI → 0 ≤ kk → kk < (nw : Int) → r = Wd yy.toNat kk.toNat) ∧ ((yy < 0 ∨ dI ≤ yy ∨ kk < 0 ∨ (nw : Int) ≤ kk) → r = 0) ∧ (LOK cJ ac nw dn g pl2 Wd)) := by
  refine x_met (by decide) (Nat.le_of_ble_eq_true rfl) ?_
  intro p e s m below meth c hx hb hr hml hts hown hlocks hin hF0 A hA hP hD hK ls hl hS
  have hl : lv_has ls 4 [(0, .ref hs), (1, .int (iI yy)), (2, .int (iI kk))] := hl
  refine lv_iload_n hx hb d_Sh_wordOf_0 rfl (lv_at hl 1 rfl) ?_
  refine xi_if_lt (tgt := 13) hx hb d_Sh_wordOf_1 (by decide) ⟨by omega, by omega⟩ (fun c_1 => ?_) (fun c_1 => ?_)
  ·
    refine lv_lconst (v := 0) hx hb d_Sh_wordOf_13 (by decide) ?_
    exact x_lret hx hb hr hlocks hP hD hS (by decide) (by decide) ⟨0, pl, rfl, rfl, fun _ _ _ _ => by omega, fun _ => rfl, hL⟩ d_Sh_wordOf_14
  ·
    refine lv_iload_n hx hb d_Sh_wordOf_4 rfl (lv_at hl 1 rfl) ?_
    refine lv_aload_n hx hb d_Sh_wordOf_5 rfl (lv_at hl 0 rfl) ?_
    refine va_get (D := D) (cl := xcl) (ci := 3) (v := .ref la) (C := R_Sh) (T := T_Sh) (N := 8) hx hb hts i_Sh hown hK hP 0 rfl rfl 2 (by decide) (hts _ kw_59) (fun _ h9 => h9) rfl d_Sh_wordOf_6 ?_
    refine xi_alen (z := (dn : Int)) hx hb hK hP 1 2 rfl rfl rfl d_Sh_wordOf_9 ?_
    refine xi_icmp_lt (tgt := 15) hx hb d_Sh_wordOf_10 (by decide) ⟨by omega, by omega⟩ ⟨by omega, by omega⟩ (fun c_10 => ?_) (fun c_10 => ?_)
    ·
      refine lv_aload_n hx hb d_Sh_wordOf_15 rfl (lv_at hl 0 rfl) ?_
      refine va_get (D := D) (cl := xcl) (ci := 3) (v := .ref la) (C := R_Sh) (T := T_Sh) (N := 8) hx hb hts i_Sh hown hK hP 0 rfl rfl 2 (by decide) (hts _ kw_59) (fun _ h9 => h9) rfl d_Sh_wordOf_16 ?_
      refine lv_iload_n hx hb d_Sh_wordOf_19 rfl (lv_at hl 1 rfl) ?_
      refine xi_aldq hx hb hK hP 1 rfl (by omega) (by omega) (by omega) d_Sh_wordOf_20 ?_
      refine x_opt (fun n_20 => ?_) (fun a_20 n_20 => ?_)
      ·
        refine lv_astore_nN (lv' := [(3, .null), (0, .ref hs), (1, .int (iI yy)), (2, .int (iI kk))]) hx hb d_Sh_wordOf_21 rfl hl (by decide) rfl (fun ls hl => ?_)
        refine lv_aload_nN hx hb d_Sh_wordOf_22 rfl (lv_at hl 0 rfl) ?_
        refine lv_ifnonnullN hx hb d_Sh_wordOf_23 ?_
        refine lv_lconst (v := 0) hx hb d_Sh_wordOf_26 (by decide) ?_
        refine lv_goto (tgt := 35) hx hb d_Sh_wordOf_27 (by decide) ?_
        exact x_lret hx hb hr hlocks hP hD hS (by decide) (by decide) ⟨0, pl, rfl, rfl, fun a b c d => by rw [LOK_none hL (show yy.toNat < dn by omega) n_20 _ (by omega)], fun _ => rfl, hL⟩ d_Sh_wordOf_35
      ·
        obtain ⟨w_20, f_20, pl_20, e_20, b_20, t_20⟩ := LOK_take D hL (show yy.toNat < dn by omega) n_20
        obtain ⟨hP, hD⟩ := t_20 _ [(hs, .inr (3, [.int (iI ac), .int (iI dI), .ref la, .ref st, .int (iI kr), .int (iI kb), .int (iI ov), .int (iI bd)])), (la, .inl (cQ, dn, .inr (.inr (.inr (.inr g))))), (st, .inr (0, [.int (iI ac), .ref sw])), (sw, .inl (cJ, nw, .inr (.inl sf)))] _ hP hD
        have hP : va_P D xcl ([(hs, .inr (3, [.int (iI ac), .int (iI dI), .ref la, .ref st, .int (iI kr), .int (iI kb), .int (iI ov), .int (iI bd)])), (la, .inl (cQ, dn, .inr (.inr (.inr (.inr g))))), (st, .inr (0, [.int (iI ac), .ref sw])), (sw, .inl (cJ, nw, .inr (.inl sf))), (a_20, .inr (0, [.int (iI ac), .ref w_20])), (w_20, .inl (cJ, nw, .inr (.inl f_20)))] ++ pl_20) _ := hP
        have hD : va_D A ([(hs, .inr (3, [.int (iI ac), .int (iI dI), .ref la, .ref st, .int (iI kr), .int (iI kb), .int (iI ov), .int (iI bd)])), (la, .inl (cQ, dn, .inr (.inr (.inr (.inr g))))), (st, .inr (0, [.int (iI ac), .ref sw])), (sw, .inl (cJ, nw, .inr (.inl sf))), (a_20, .inr (0, [.int (iI ac), .ref w_20])), (w_20, .inl (cJ, nw, .inr (.inl f_20)))] ++ pl_20) := hD
        refine lv_astore_n (lv' := [(3, .ref a_20), (0, .ref hs), (1, .int (iI yy)), (2, .int (iI kk))]) hx hb d_Sh_wordOf_21 rfl hl (by decide) rfl (fun ls hl => ?_)
        refine lv_aload_n hx hb d_Sh_wordOf_22 rfl (lv_at hl 0 rfl) ?_
        refine lv_ifnonnull (tgt := 30) hx hb d_Sh_wordOf_23 (by decide) ?_
        refine lv_aload_n hx hb d_Sh_wordOf_30 rfl (lv_at hl 0 rfl) ?_
        refine lv_iload_n hx hb d_Sh_wordOf_31 rfl (lv_at hl 3 rfl) ?_
        refine x_aftQ (X := [(hs, .inr (3, [.int (iI ac), .int (iI dI), .ref la, .ref st, .int (iI kr), .int (iI kb), .int (iI ov), .int (iI bd)])), (la, .inl (cQ, dn, .inr (.inr (.inr (.inr g))))), (st, .inr (0, [.int (iI ac), .ref sw])), (sw, .inl (cJ, nw, .inr (.inl sf))), (a_20, .inr (0, [.int (iI ac), .ref w_20])), (w_20, .inl (cJ, nw, .inr (.inl f_20)))]) (pl := pl_20) (x_runV (C := "RasterRows$Line") (As := [.int (iI kk)]) (rest := []) (ci := 0) (q0 := 0) hx hb hml hown hts (c_Ln_wordAt l D cI cJ cQ a_20 ac w_20 nw f_20 kk (by omega) (hk_)) kw_243 kw_244 kw_245 kw_4 kw_246 ds_Ln_wordAt (by decide) hK (hP.sub (ws' := [(a_20, .inr (0, [.int (iI ac), .ref w_20])), (w_20, .inl (cJ, nw, .inr (.inl f_20)))]) [4, 5] rfl) (hD.sub (ws' := [(a_20, .inr (0, [.int (iI ac), .ref w_20])), (w_20, .inl (cJ, nw, .inr (.inl f_20)))]) [4, 5] (by decide) rfl) rfl rfl rfl hl.1 rfl (Nat.le_of_ble_eq_true rfl) d_Sh_wordOf_32) hP hD hS hA [4, 5] [0, 1, 2, 3] rfl rfl (wr := [(hs, .inr (3, [.int (iI ac), .int (iI dI), .ref la, .ref st, .int (iI kr), .int (iI kb), .int (iI ov), .int (iI bd)])), (la, .inl (cQ, dn, .inr (.inr (.inr (.inr g))))), (st, .inr (0, [.int (iI ac), .ref sw])), (sw, .inl (cJ, nw, .inr (.inl sf)))]) rfl (by decide) (by decide) (fun v w1 H locs hq hP hD hS => ?_)
        obtain ⟨r_32, rfl, rfl, hr1_32, hr2_32⟩ := hq
        refine W.cs (cells' := 0) (slots' := 0) rfl rfl ?_
        refine W.eq (g2 := F0 m 35 ls [.long r_32]) rfl ?_
        have hP : va_P D xcl ([(hs, .inr (3, [.int (iI ac), .int (iI dI), .ref la, .ref st, .int (iI kr), .int (iI kb), .int (iI ov), .int (iI bd)])), (la, .inl (cQ, dn, .inr (.inr (.inr (.inr g))))), (st, .inr (0, [.int (iI ac), .ref sw])), (sw, .inl (cJ, nw, .inr (.inl sf))), (a_20, .inr (0, [.int (iI ac), .ref w_20])), (w_20, .inl (cJ, nw, .inr (.inl f_20)))] ++ pl_20) _ := hP
        have hD : va_D A ([(hs, .inr (3, [.int (iI ac), .int (iI dI), .ref la, .ref st, .int (iI kr), .int (iI kb), .int (iI ov), .int (iI bd)])), (la, .inl (cQ, dn, .inr (.inr (.inr (.inr g))))), (st, .inr (0, [.int (iI ac), .ref sw])), (sw, .inl (cJ, nw, .inr (.inl sf))), (a_20, .inr (0, [.int (iI ac), .ref w_20])), (w_20, .inl (cJ, nw, .inr (.inl f_20)))] ++ pl_20) := hD
        obtain ⟨pl_z, L_z, r_z⟩ := b_20 (f_20) (Wd) (e_20) (fun _ _ _ _ _ => rfl)
        obtain ⟨hP, hD⟩ := r_z _ [(hs, .inr (3, [.int (iI ac), .int (iI dI), .ref la, .ref st, .int (iI kr), .int (iI kb), .int (iI ov), .int (iI bd)])), (la, .inl (cQ, dn, .inr (.inr (.inr (.inr g))))), (st, .inr (0, [.int (iI ac), .ref sw])), (sw, .inl (cJ, nw, .inr (.inl sf)))] _ hP hD
        have hP : va_P D xcl ([(hs, .inr (3, [.int (iI ac), .int (iI dI), .ref la, .ref st, .int (iI kr), .int (iI kb), .int (iI ov), .int (iI bd)])), (la, .inl (cQ, dn, .inr (.inr (.inr (.inr g))))), (st, .inr (0, [.int (iI ac), .ref sw])), (sw, .inl (cJ, nw, .inr (.inl sf)))] ++ pl_z) _ := hP
        have hD : va_D A ([(hs, .inr (3, [.int (iI ac), .int (iI dI), .ref la, .ref st, .int (iI kr), .int (iI kb), .int (iI ov), .int (iI bd)])), (la, .inl (cQ, dn, .inr (.inr (.inr (.inr g))))), (st, .inr (0, [.int (iI ac), .ref sw])), (sw, .inl (cJ, nw, .inr (.inl sf)))] ++ pl_z) := hD
        exact x_lret hx hb hr hlocks hP hD hS (by decide) (by decide) ⟨r_32, pl_z, rfl, rfl, fun a b c d => by rw [hr1_32 c d, e_20 _ (by omega)], fun q => hr2_32 (by omega), L_z⟩ d_Sh_wordOf_35
    ·
      refine lv_lconst (v := 0) hx hb d_Sh_wordOf_13 (by decide) ?_
      exact x_lret hx hb hr hlocks hP hD hS (by decide) (by decide) ⟨0, pl, rfl, rfl, fun _ _ _ _ => by omega, fun _ => rfl, hL⟩ d_Sh_wordOf_14

theorem d_Sh_whiten_0 : decode b_Sh_whiten 0 = .ok (.iconst 0, 1) := by decide +kernel
theorem d_Sh_whiten_1 : decode b_Sh_whiten 1 = .ok (.istore_n 1, 1) := by decide +kernel
theorem d_Sh_whiten_2 : decode b_Sh_whiten 2 = .ok (.iload_n 1, 1) := by decide +kernel
theorem d_Sh_whiten_3 : decode b_Sh_whiten 3 = .ok (.aload_n 0, 1) := by decide +kernel
theorem d_Sh_whiten_4 : decode b_Sh_whiten 4 = .ok (.getfield 37, 3) := by decide +kernel
theorem d_Sh_whiten_7 : decode b_Sh_whiten 7 = .ok (.arraylength, 1) := by decide +kernel
theorem d_Sh_whiten_8 : decode b_Sh_whiten 8 = .ok (.if_icmp .ge 27, 3) := by decide +kernel
theorem d_Sh_whiten_11 : decode b_Sh_whiten 11 = .ok (.aload_n 0, 1) := by decide +kernel
theorem d_Sh_whiten_12 : decode b_Sh_whiten 12 = .ok (.getfield 37, 3) := by decide +kernel
theorem d_Sh_whiten_15 : decode b_Sh_whiten 15 = .ok (.iload_n 1, 1) := by decide +kernel
theorem d_Sh_whiten_16 : decode b_Sh_whiten 16 = .ok (.aaload, 1) := by decide +kernel
theorem d_Sh_whiten_17 : decode b_Sh_whiten 17 = .ok (.ifnull 12, 3) := by decide +kernel
theorem d_Sh_whiten_20 : decode b_Sh_whiten 20 = .ok (.aload_n 0, 1) := by decide +kernel
theorem d_Sh_whiten_21 : decode b_Sh_whiten 21 = .ok (.getfield 37, 3) := by decide +kernel
theorem d_Sh_whiten_24 : decode b_Sh_whiten 24 = .ok (.iload_n 1, 1) := by decide +kernel
theorem d_Sh_whiten_25 : decode b_Sh_whiten 25 = .ok (.aaload, 1) := by decide +kernel
theorem d_Sh_whiten_26 : decode b_Sh_whiten 26 = .ok (.invokevirtual 52, 3) := by decide +kernel
theorem d_Sh_whiten_29 : decode b_Sh_whiten 29 = .ok (.iinc 1 1, 3) := by decide +kernel
theorem d_Sh_whiten_32 : decode b_Sh_whiten 32 = .ok (.goto (-30), 3) := by decide +kernel
theorem d_Sh_whiten_35 : decode b_Sh_whiten 35 = .ok (.aload_n 0, 1) := by decide +kernel
theorem d_Sh_whiten_36 : decode b_Sh_whiten 36 = .ok (.iconst 0, 1) := by decide +kernel
theorem d_Sh_whiten_37 : decode b_Sh_whiten 37 = .ok (.putfield 9, 3) := by decide +kernel
theorem d_Sh_whiten_40 : decode b_Sh_whiten 40 = .ok (.aload_n 0, 1) := by decide +kernel
theorem d_Sh_whiten_41 : decode b_Sh_whiten 41 = .ok (.iconst 0, 1) := by decide +kernel
theorem d_Sh_whiten_42 : decode b_Sh_whiten 42 = .ok (.putfield 15, 3) := by decide +kernel
theorem d_Sh_whiten_45 : decode b_Sh_whiten 45 = .ok (.aload_n 0, 1) := by decide +kernel
theorem d_Sh_whiten_46 : decode b_Sh_whiten 46 = .ok (.iconst 0, 1) := by decide +kernel
theorem d_Sh_whiten_47 : decode b_Sh_whiten 47 = .ok (.putfield 18, 3) := by decide +kernel
theorem d_Sh_whiten_50 : decode b_Sh_whiten 50 = .ok (.aload_n 0, 1) := by decide +kernel
theorem d_Sh_whiten_51 : decode b_Sh_whiten 51 = .ok (.iconst 0, 1) := by decide +kernel
theorem d_Sh_whiten_52 : decode b_Sh_whiten 52 = .ok (.putfield 22, 3) := by decide +kernel
theorem d_Sh_whiten_55 : decode b_Sh_whiten 55 = .ok (.return_, 1) := by decide +kernel
theorem ds_Sh_whiten : xDesc y_Sh_whiten 0 := by decide +kernel

abbrev rm_Sh_whiten : Room := { frames := 2, cells := 0, slots := 0, locals := 44 }
set_option maxHeartbeats 4000000 in
set_option maxRecDepth 100000 in
/-- Sheet.whiten -/
theorem c_Sh_whiten (l : Launch) (D : va_G) (cI cJ cQ : ClassId) (hs : Nat) (la : Nat) (st : Nat) (sw : Nat) (ac : Int) (dI : Int) (dn : Nat) (nw : Nat) (g : Nat → Option Nat) (sf : Nat → Int64) (kr : Int) (kb : Int) (ov : Int) (bd : Int) (pl : va_W) (Wd : Nat → Nat → Int64) (hac : 1 ≤ ac ∧ ac ≤ 5100) (hdn : dI = (dn : Int) ∧ dn ≤ 5100) (hnw : (nw : Int) = (ac + 63) / 64) (hL : LOK cJ ac nw dn g pl Wd) : xMet l D (xT cI cJ cQ) y_Sh_whiten b_Sh_whiten 2 none rm_Sh_whiten [.ref hs] ([(hs, .inr (3, [.int (iI ac), .int (iI dI), .ref la, .ref st, .int (iI kr), .int (iI kb), .int (iI ov), .int (iI bd)])), (la, .inl (cQ, dn, .inr (.inr (.inr (.inr g))))), (st, .inr (0, [.int (iI ac), .ref sw])), (sw, .inl (cJ, nw, .inr (.inl sf)))] ++ pl) (fun v ws => ∃ (pl2 : va_W), v = none ∧ ws = ([(hs, .inr (3, [.int (iI ac), .int (iI dI), .ref la, .ref st, .int (iI 0), .int (iI 0), .int (iI 0), .int (iI 0)])), (la, .inl (cQ, dn, .inr (.inr (.inr (.inr g))))), (st, .inr (0, [.int (iI ac), .ref sw])), (sw, .inl (cJ, nw, .inr (.inl sf)))] ++ pl2) ∧ (LOK cJ ac nw dn g pl2 (fun _ _ => 0))) := by
  refine x_met (by decide) (Nat.le_of_ble_eq_true rfl) ?_
  intro p e s m below meth c hx hb hr hml hts hown hlocks hin hF0 A hA hP hD hK ls hl hS
  have hl : lv_has ls 2 [(0, .ref hs)] := hl
  refine xi_iconst hx hb d_Sh_whiten_0 ?_
  refine lv_istore_n (lv' := [(1, .int (iI 0)), (0, .ref hs)]) hx hb d_Sh_whiten_1 rfl hl (by decide) rfl (fun ls hl => ?_)
  refine x_loop2 (fun (i : Int) (pl1 : va_W) H locs ls => (0 ≤ i ∧ i ≤ (dn : Int)) ∧ (LOK cJ ac nw dn g pl1 (fun z k => if (z : Int) < i then 0 else Wd z k)) ∧ va_P D xcl ([(hs, .inr (3, [.int (iI ac), .int (iI dI), .ref la, .ref st, .int (iI kr), .int (iI kb), .int (iI ov), .int (iI bd)])), (la, .inl (cQ, dn, .inr (.inr (.inr (.inr g))))), (st, .inr (0, [.int (iI ac), .ref sw])), (sw, .inl (cJ, nw, .inr (.inl sf)))] ++ pl1) H ∧ va_D A ([(hs, .inr (3, [.int (iI ac), .int (iI dI), .ref la, .ref st, .int (iI kr), .int (iI kb), .int (iI ov), .int (iI bd)])), (la, .inl (cQ, dn, .inr (.inr (.inr (.inr g))))), (st, .inr (0, [.int (iI ac), .ref sw])), (sw, .inl (cJ, nw, .inr (.inl sf)))] ++ pl1) ∧ va_S A s.heap H locs ∧ lv_has ls 2 [(1, .int (iI i)), (0, .ref hs)]) (fun (i : Int) (pl1 : va_W) => ((dn : Int) - i).toNat) 0 pl ⟨by omega, LOK_congr hL (fun z hz k hk => (if_neg (by omega)).symm), hP, hD, hS, hl⟩ ?_
  intro i pl1 H locs ls hI ih_2
  obtain ⟨k1, k2, hP, hD, hS, hl⟩ := hI
  refine lv_iload_n hx hb d_Sh_whiten_2 rfl (lv_at hl 0 rfl) ?_
  refine lv_aload_n hx hb d_Sh_whiten_3 rfl (lv_at hl 1 rfl) ?_
  refine va_get (D := D) (cl := xcl) (ci := 3) (v := .ref la) (C := R_Sh) (T := T_Sh) (N := 8) hx hb hts i_Sh hown hK hP 0 rfl rfl 2 (by decide) (hts _ kw_59) (fun _ h9 => h9) rfl d_Sh_whiten_4 ?_
  refine xi_alen (z := (dn : Int)) hx hb hK hP 1 2 rfl rfl rfl d_Sh_whiten_7 ?_
  refine xi_icmp_ge (tgt := 35) hx hb d_Sh_whiten_8 (by decide) ⟨by omega, by omega⟩ ⟨by omega, by omega⟩ (fun c_8 => ?_) (fun c_8 => ?_)
  ·
    refine lv_aload_n hx hb d_Sh_whiten_35 rfl (lv_at hl 1 rfl) ?_
    refine xi_iconst hx hb d_Sh_whiten_36 ?_
    refine va_put (D := D) (cl := xcl) (ci := 3) (v := .int (iI 0)) (ty := .int) (C := R_Sh) (T := T_Sh) (N := 8) hx hb hts i_Sh ty_Sh ty_Sh_ok nm_Sh hown hK hP hD hS 0 rfl rfl 4 (by decide) (hts _ kw_61) (fun _ h9 => h9) rfl (by decide +kernel) rfl rfl (Nat.le_of_ble_eq_true rfl) d_Sh_whiten_37 (fun H locs hP hD hS => ?_)
    have hP : va_P D xcl ([(hs, .inr (3, [.int (iI ac), .int (iI dI), .ref la, .ref st, .int (iI 0), .int (iI kb), .int (iI ov), .int (iI bd)])), (la, .inl (cQ, dn, .inr (.inr (.inr (.inr g))))), (st, .inr (0, [.int (iI ac), .ref sw])), (sw, .inl (cJ, nw, .inr (.inl sf)))] ++ pl1) _ := hP
    have hD : va_D A ([(hs, .inr (3, [.int (iI ac), .int (iI dI), .ref la, .ref st, .int (iI 0), .int (iI kb), .int (iI ov), .int (iI bd)])), (la, .inl (cQ, dn, .inr (.inr (.inr (.inr g))))), (st, .inr (0, [.int (iI ac), .ref sw])), (sw, .inl (cJ, nw, .inr (.inl sf)))] ++ pl1) := hD
    refine lv_aload_n hx hb d_Sh_whiten_40 rfl (lv_at hl 1 rfl) ?_
    refine xi_iconst hx hb d_Sh_whiten_41 ?_
    refine va_put (D := D) (cl := xcl) (ci := 3) (v := .int (iI 0)) (ty := .int) (C := R_Sh) (T := T_Sh) (N := 8) hx hb hts i_Sh ty_Sh ty_Sh_ok nm_Sh hown hK hP hD hS 0 rfl rfl 5 (by decide) (hts _ kw_63) (fun _ h9 => h9) rfl (by decide +kernel) rfl rfl (Nat.le_of_ble_eq_true rfl) d_Sh_whiten_42 (fun H locs hP hD hS => ?_)
    have hP : va_P D xcl ([(hs, .inr (3, [.int (iI ac), .int (iI dI), .ref la, .ref st, .int (iI 0), .int (iI 0), .int (iI ov), .int (iI bd)])), (la, .inl (cQ, dn, .inr (.inr (.inr (.inr g))))), (st, .inr (0, [.int (iI ac), .ref sw])), (sw, .inl (cJ, nw, .inr (.inl sf)))] ++ pl1) _ := hP
    have hD : va_D A ([(hs, .inr (3, [.int (iI ac), .int (iI dI), .ref la, .ref st, .int (iI 0), .int (iI 0), .int (iI ov), .int (iI bd)])), (la, .inl (cQ, dn, .inr (.inr (.inr (.inr g))))), (st, .inr (0, [.int (iI ac), .ref sw])), (sw, .inl (cJ, nw, .inr (.inl sf)))] ++ pl1) := hD
    refine lv_aload_n hx hb d_Sh_whiten_45 rfl (lv_at hl 1 rfl) ?_
    refine xi_iconst hx hb d_Sh_whiten_46 ?_
    refine va_put (D := D) (cl := xcl) (ci := 3) (v := .int (iI 0)) (ty := .boolean) (C := R_Sh) (T := T_Sh) (N := 8) hx hb hts i_Sh ty_Sh ty_Sh_ok nm_Sh hown hK hP hD hS 0 rfl rfl 6 (by decide) (hts _ kw_65) (fun _ h9 => h9) rfl (by decide +kernel) rfl rfl (Nat.le_of_ble_eq_true rfl) d_Sh_whiten_47 (fun H locs hP hD hS => ?_)
    have hP : va_P D xcl ([(hs, .inr (3, [.int (iI ac), .int (iI dI), .ref la, .ref st, .int (iI 0), .int (iI 0), .int (iI 0), .int (iI bd)])), (la, .inl (cQ, dn, .inr (.inr (.inr (.inr g))))), (st, .inr (0, [.int (iI ac), .ref sw])), (sw, .inl (cJ, nw, .inr (.inl sf)))] ++ pl1) _ := hP
    have hD : va_D A ([(hs, .inr (3, [.int (iI ac), .int (iI dI), .ref la, .ref st, .int (iI 0), .int (iI 0), .int (iI 0), .int (iI bd)])), (la, .inl (cQ, dn, .inr (.inr (.inr (.inr g))))), (st, .inr (0, [.int (iI ac), .ref sw])), (sw, .inl (cJ, nw, .inr (.inl sf)))] ++ pl1) := hD
    refine lv_aload_n hx hb d_Sh_whiten_50 rfl (lv_at hl 1 rfl) ?_
    refine xi_iconst hx hb d_Sh_whiten_51 ?_
    refine va_put (D := D) (cl := xcl) (ci := 3) (v := .int (iI 0)) (ty := .int) (C := R_Sh) (T := T_Sh) (N := 8) hx hb hts i_Sh ty_Sh ty_Sh_ok nm_Sh hown hK hP hD hS 0 rfl rfl 7 (by decide) (hts _ kw_67) (fun _ h9 => h9) rfl (by decide +kernel) rfl rfl (Nat.le_of_ble_eq_true rfl) d_Sh_whiten_52 (fun H locs hP hD hS => ?_)
    have hP : va_P D xcl ([(hs, .inr (3, [.int (iI ac), .int (iI dI), .ref la, .ref st, .int (iI 0), .int (iI 0), .int (iI 0), .int (iI 0)])), (la, .inl (cQ, dn, .inr (.inr (.inr (.inr g))))), (st, .inr (0, [.int (iI ac), .ref sw])), (sw, .inl (cJ, nw, .inr (.inl sf)))] ++ pl1) _ := hP
    have hD : va_D A ([(hs, .inr (3, [.int (iI ac), .int (iI dI), .ref la, .ref st, .int (iI 0), .int (iI 0), .int (iI 0), .int (iI 0)])), (la, .inl (cQ, dn, .inr (.inr (.inr (.inr g))))), (st, .inr (0, [.int (iI ac), .ref sw])), (sw, .inl (cJ, nw, .inr (.inl sf)))] ++ pl1) := hD
    exact x_vret hx hb hr hlocks hP hD hS (by decide) (by decide) ⟨pl1, rfl, rfl, LOK_congr k2 (fun z hz k hk => if_pos (by omega))⟩ d_Sh_whiten_55
  ·
    refine lv_aload_n hx hb d_Sh_whiten_11 rfl (lv_at hl 1 rfl) ?_
    refine va_get (D := D) (cl := xcl) (ci := 3) (v := .ref la) (C := R_Sh) (T := T_Sh) (N := 8) hx hb hts i_Sh hown hK hP 0 rfl rfl 2 (by decide) (hts _ kw_59) (fun _ h9 => h9) rfl d_Sh_whiten_12 ?_
    refine lv_iload_n hx hb d_Sh_whiten_15 rfl (lv_at hl 0 rfl) ?_
    refine xi_aldq hx hb hK hP 1 rfl (by omega) (by omega) (by omega) d_Sh_whiten_16 ?_
    refine x_opt (fun n_16 => ?_) (fun a_16 n_16 => ?_)
    ·
      refine lv_ifnullN (tgt := 29) hx hb d_Sh_whiten_17 (by decide) ?_
      refine xi_iinc (lv' := [(1, .int (iI (i + 1))), (0, .ref hs)]) hx hb d_Sh_whiten_29 hl (k := 0) rfl (by decide) rfl (fun ls hl => ?_)
      refine lv_goto (tgt := 2) hx hb d_Sh_whiten_32 (by decide) ?_
      exact ih_2 (i + 1) pl1 _ _ _ (by omega) ⟨by omega, by first | exact L_z | exact LOK_congr k2 (fun z hz k hk => by
              by_cases q : (z : Int) < i
              · rw [if_pos q, if_pos (by omega)]
              · by_cases q2 : (z : Int) < i + 1
                · have e0 : z = i.toNat := by omega
                  subst e0
                  rw [if_pos q2, LOK_none k2 (by omega) n_16 k hk]
                · rw [if_neg q, if_neg q2]), hP, hD, hS, hl⟩
    ·
      obtain ⟨w_16, f_16, pl_16, e_16, b_16, t_16⟩ := LOK_take D k2 (show i.toNat < dn by omega) n_16
      obtain ⟨hP, hD⟩ := t_16 _ [(hs, .inr (3, [.int (iI ac), .int (iI dI), .ref la, .ref st, .int (iI kr), .int (iI kb), .int (iI ov), .int (iI bd)])), (la, .inl (cQ, dn, .inr (.inr (.inr (.inr g))))), (st, .inr (0, [.int (iI ac), .ref sw])), (sw, .inl (cJ, nw, .inr (.inl sf)))] _ hP hD
      have hP : va_P D xcl ([(hs, .inr (3, [.int (iI ac), .int (iI dI), .ref la, .ref st, .int (iI kr), .int (iI kb), .int (iI ov), .int (iI bd)])), (la, .inl (cQ, dn, .inr (.inr (.inr (.inr g))))), (st, .inr (0, [.int (iI ac), .ref sw])), (sw, .inl (cJ, nw, .inr (.inl sf))), (a_16, .inr (0, [.int (iI ac), .ref w_16])), (w_16, .inl (cJ, nw, .inr (.inl f_16)))] ++ pl_16) _ := hP
      have hD : va_D A ([(hs, .inr (3, [.int (iI ac), .int (iI dI), .ref la, .ref st, .int (iI kr), .int (iI kb), .int (iI ov), .int (iI bd)])), (la, .inl (cQ, dn, .inr (.inr (.inr (.inr g))))), (st, .inr (0, [.int (iI ac), .ref sw])), (sw, .inl (cJ, nw, .inr (.inl sf))), (a_16, .inr (0, [.int (iI ac), .ref w_16])), (w_16, .inl (cJ, nw, .inr (.inl f_16)))] ++ pl_16) := hD
      refine lv_ifnull hx hb d_Sh_whiten_17 ?_
      refine lv_aload_n hx hb d_Sh_whiten_20 rfl (lv_at hl 1 rfl) ?_
      refine va_get (D := D) (cl := xcl) (ci := 3) (v := .ref la) (C := R_Sh) (T := T_Sh) (N := 8) hx hb hts i_Sh hown hK hP 0 rfl rfl 2 (by decide) (hts _ kw_59) (fun _ h9 => h9) rfl d_Sh_whiten_21 ?_
      refine lv_iload_n hx hb d_Sh_whiten_24 rfl (lv_at hl 0 rfl) ?_
      refine xi_aldq hx hb hK hP 1 rfl (by omega) (by omega) (by omega) d_Sh_whiten_25 ?_
      rw [n_16]
      refine W.eq (g2 := F0 m 26 ls [.ref a_16]) rfl ?_
      refine x_aftQ (X := [(hs, .inr (3, [.int (iI ac), .int (iI dI), .ref la, .ref st, .int (iI kr), .int (iI kb), .int (iI ov), .int (iI bd)])), (la, .inl (cQ, dn, .inr (.inr (.inr (.inr g))))), (st, .inr (0, [.int (iI ac), .ref sw])), (sw, .inl (cJ, nw, .inr (.inl sf))), (a_16, .inr (0, [.int (iI ac), .ref w_16])), (w_16, .inl (cJ, nw, .inr (.inl f_16)))]) (pl := pl_16) (x_runV (C := "RasterRows$Line") (As := []) (rest := []) (ci := 0) (q0 := 0) hx hb hml hown hts (c_Ln_whiten l D cI cJ cQ a_16 ac w_16 nw f_16 (by omega)) kw_228 kw_229 kw_230 kw_4 kw_231 ds_Ln_whiten (by decide) hK (hP.sub (ws' := [(a_16, .inr (0, [.int (iI ac), .ref w_16])), (w_16, .inl (cJ, nw, .inr (.inl f_16)))]) [4, 5] rfl) (hD.sub (ws' := [(a_16, .inr (0, [.int (iI ac), .ref w_16])), (w_16, .inl (cJ, nw, .inr (.inl f_16)))]) [4, 5] (by decide) rfl) rfl rfl rfl hl.1 rfl (Nat.le_of_ble_eq_true rfl) d_Sh_whiten_26) hP hD hS hA [4, 5] [0, 1, 2, 3] rfl rfl (wr := [(hs, .inr (3, [.int (iI ac), .int (iI dI), .ref la, .ref st, .int (iI kr), .int (iI kb), .int (iI ov), .int (iI bd)])), (la, .inl (cQ, dn, .inr (.inr (.inr (.inr g))))), (st, .inr (0, [.int (iI ac), .ref sw])), (sw, .inl (cJ, nw, .inr (.inl sf)))]) rfl (by decide) (by decide) (fun v w1 H locs hq hP hD hS => ?_)
      obtain ⟨rfl, rfl⟩ := hq
      refine W.cs (cells' := 0) (slots' := 0) rfl rfl ?_
      refine W.eq (g2 := F0 m 29 ls []) rfl ?_
      have hP : va_P D xcl ([(hs, .inr (3, [.int (iI ac), .int (iI dI), .ref la, .ref st, .int (iI kr), .int (iI kb), .int (iI ov), .int (iI bd)])), (la, .inl (cQ, dn, .inr (.inr (.inr (.inr g))))), (st, .inr (0, [.int (iI ac), .ref sw])), (sw, .inl (cJ, nw, .inr (.inl sf))), (a_16, .inr (0, [.int (iI ac), .ref w_16])), (w_16, .inl (cJ, nw, .inr (.inl (fun _ => 0))))] ++ pl_16) _ := hP
      have hD : va_D A ([(hs, .inr (3, [.int (iI ac), .int (iI dI), .ref la, .ref st, .int (iI kr), .int (iI kb), .int (iI ov), .int (iI bd)])), (la, .inl (cQ, dn, .inr (.inr (.inr (.inr g))))), (st, .inr (0, [.int (iI ac), .ref sw])), (sw, .inl (cJ, nw, .inr (.inl sf))), (a_16, .inr (0, [.int (iI ac), .ref w_16])), (w_16, .inl (cJ, nw, .inr (.inl (fun _ => 0))))] ++ pl_16) := hD
      obtain ⟨pl_z, L_z, r_z⟩ := b_16 (fun _ => 0) (fun z k => if (z : Int) < i + 1 then 0 else Wd z k) (fun k hk => (if_pos (by omega)).symm) (fun z hz e k hk => by
            dsimp only
            by_cases q : (z : Int) < i
            · rw [if_pos q, if_pos (by omega)]
            · rw [if_neg q, if_neg (by omega)])
      obtain ⟨hP, hD⟩ := r_z _ [(hs, .inr (3, [.int (iI ac), .int (iI dI), .ref la, .ref st, .int (iI kr), .int (iI kb), .int (iI ov), .int (iI bd)])), (la, .inl (cQ, dn, .inr (.inr (.inr (.inr g))))), (st, .inr (0, [.int (iI ac), .ref sw])), (sw, .inl (cJ, nw, .inr (.inl sf)))] _ hP hD
      have hP : va_P D xcl ([(hs, .inr (3, [.int (iI ac), .int (iI dI), .ref la, .ref st, .int (iI kr), .int (iI kb), .int (iI ov), .int (iI bd)])), (la, .inl (cQ, dn, .inr (.inr (.inr (.inr g))))), (st, .inr (0, [.int (iI ac), .ref sw])), (sw, .inl (cJ, nw, .inr (.inl sf)))] ++ pl_z) _ := hP
      have hD : va_D A ([(hs, .inr (3, [.int (iI ac), .int (iI dI), .ref la, .ref st, .int (iI kr), .int (iI kb), .int (iI ov), .int (iI bd)])), (la, .inl (cQ, dn, .inr (.inr (.inr (.inr g))))), (st, .inr (0, [.int (iI ac), .ref sw])), (sw, .inl (cJ, nw, .inr (.inl sf)))] ++ pl_z) := hD
      refine xi_iinc (lv' := [(1, .int (iI (i + 1))), (0, .ref hs)]) hx hb d_Sh_whiten_29 hl (k := 0) rfl (by decide) rfl (fun ls hl => ?_)
      refine lv_goto (tgt := 2) hx hb d_Sh_whiten_32 (by decide) ?_
      exact ih_2 (i + 1) pl_z _ _ _ (by omega) ⟨by omega, by first | exact L_z | exact LOK_congr k2 (fun z hz k hk => by
              by_cases q : (z : Int) < i
              · rw [if_pos q, if_pos (by omega)]
              · by_cases q2 : (z : Int) < i + 1
                · have e0 : z = i.toNat := by omega
                  subst e0
                  rw [if_pos q2, LOK_none k2 (by omega) n_16 k hk]
                · rw [if_neg q, if_neg q2]), hP, hD, hS, hl⟩
