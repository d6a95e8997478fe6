theorem d_Mo_init_0 : decode b_Mo_init 0 = .ok (.aload_n 0, 1) := by decide +kernel
theorem d_Mo_init_1 : decode b_Mo_init 1 = .ok (.invokespecial 1, 3) := by decide +kernel
theorem d_Mo_init_4 : decode b_Mo_init 4 = .ok (.aload_n 0, 1) := by decide +kernel
theorem d_Mo_init_5 : decode b_Mo_init 5 = .ok (.bipush 75, 2) := by decide +kernel
theorem d_Mo_init_7 : decode b_Mo_init 7 = .ok (.putfield 7, 3) := by decide +kernel
theorem d_Mo_init_10 : decode b_Mo_init 10 = .ok (.aload_n 0, 1) := by decide +kernel
theorem d_Mo_init_11 : decode b_Mo_init 11 = .ok (.sipush 640, 3) := by decide +kernel
theorem d_Mo_init_14 : decode b_Mo_init 14 = .ok (.newarray .int, 2) := by decide +kernel
theorem d_Mo_init_16 : decode b_Mo_init 16 = .ok (.putfield 13, 3) := by decide +kernel
theorem d_Mo_init_19 : decode b_Mo_init 19 = .ok (.aload_n 0, 1) := by decide +kernel
theorem d_Mo_init_20 : decode b_Mo_init 20 = .ok (.sipush 640, 3) := by decide +kernel
theorem d_Mo_init_23 : decode b_Mo_init 23 = .ok (.newarray .int, 2) := by decide +kernel
theorem d_Mo_init_25 : decode b_Mo_init 25 = .ok (.putfield 17, 3) := by decide +kernel
theorem d_Mo_init_28 : decode b_Mo_init 28 = .ok (.aload_n 0, 1) := by decide +kernel
theorem d_Mo_init_29 : decode b_Mo_init 29 = .ok (.sipush 4096, 3) := by decide +kernel
theorem d_Mo_init_32 : decode b_Mo_init 32 = .ok (.newarray .int, 2) := by decide +kernel
theorem d_Mo_init_34 : decode b_Mo_init 34 = .ok (.putfield 20, 3) := by decide +kernel
theorem d_Mo_init_37 : decode b_Mo_init 37 = .ok (.aload_n 0, 1) := by decide +kernel
theorem d_Mo_init_38 : decode b_Mo_init 38 = .ok (.iload_n 1, 1) := by decide +kernel
theorem d_Mo_init_39 : decode b_Mo_init 39 = .ok (.iconst 1, 1) := by decide +kernel
theorem d_Mo_init_40 : decode b_Mo_init 40 = .ok (.if_icmp .ge 7, 3) := by decide +kernel
theorem d_Mo_init_43 : decode b_Mo_init 43 = .ok (.iconst 1, 1) := by decide +kernel
theorem d_Mo_init_44 : decode b_Mo_init 44 = .ok (.goto 17, 3) := by decide +kernel
theorem d_Mo_init_47 : decode b_Mo_init 47 = .ok (.iload_n 1, 1) := by decide +kernel
theorem d_Mo_init_48 : decode b_Mo_init 48 = .ok (.sipush 5100, 3) := by decide +kernel
theorem d_Mo_init_51 : decode b_Mo_init 51 = .ok (.if_icmp .le 9, 3) := by decide +kernel
theorem d_Mo_init_54 : decode b_Mo_init 54 = .ok (.sipush 5100, 3) := by decide +kernel
theorem d_Mo_init_57 : decode b_Mo_init 57 = .ok (.goto 4, 3) := by decide +kernel
theorem d_Mo_init_60 : decode b_Mo_init 60 = .ok (.iload_n 1, 1) := by decide +kernel
theorem d_Mo_init_61 : decode b_Mo_init 61 = .ok (.putfield 23, 3) := by decide +kernel
theorem d_Mo_init_64 : decode b_Mo_init 64 = .ok (.aload_n 0, 1) := by decide +kernel
theorem d_Mo_init_65 : decode b_Mo_init 65 = .ok (.iload_n 2, 1) := by decide +kernel
theorem d_Mo_init_66 : decode b_Mo_init 66 = .ok (.iconst 1, 1) := by decide +kernel
theorem d_Mo_init_67 : decode b_Mo_init 67 = .ok (.if_icmp .ge 7, 3) := by decide +kernel
theorem d_Mo_init_70 : decode b_Mo_init 70 = .ok (.iconst 1, 1) := by decide +kernel
theorem d_Mo_init_71 : decode b_Mo_init 71 = .ok (.goto 17, 3) := by decide +kernel
theorem d_Mo_init_74 : decode b_Mo_init 74 = .ok (.iload_n 2, 1) := by decide +kernel
theorem d_Mo_init_75 : decode b_Mo_init 75 = .ok (.sipush 5100, 3) := by decide +kernel
theorem d_Mo_init_78 : decode b_Mo_init 78 = .ok (.if_icmp .le 9, 3) := by decide +kernel
theorem d_Mo_init_81 : decode b_Mo_init 81 = .ok (.sipush 5100, 3) := by decide +kernel
theorem d_Mo_init_84 : decode b_Mo_init 84 = .ok (.goto 4, 3) := by decide +kernel
theorem d_Mo_init_87 : decode b_Mo_init 87 = .ok (.iload_n 2, 1) := by decide +kernel
theorem d_Mo_init_88 : decode b_Mo_init 88 = .ok (.putfield 26, 3) := by decide +kernel
theorem d_Mo_init_91 : decode b_Mo_init 91 = .ok (.aload_n 0, 1) := by decide +kernel
theorem d_Mo_init_92 : decode b_Mo_init 92 = .ok (.bipush 80, 2) := by decide +kernel
theorem d_Mo_init_94 : decode b_Mo_init 94 = .ok (.aload_n 0, 1) := by decide +kernel
theorem d_Mo_init_95 : decode b_Mo_init 95 = .ok (.getfield 26, 3) := by decide +kernel
theorem d_Mo_init_98 : decode b_Mo_init 98 = .ok (.imul, 1) := by decide +kernel
theorem d_Mo_init_99 : decode b_Mo_init 99 = .ok (.newarray .long, 2) := by decide +kernel
theorem d_Mo_init_101 : decode b_Mo_init 101 = .ok (.putfield 29, 3) := by decide +kernel
theorem d_Mo_init_104 : decode b_Mo_init 104 = .ok (.aload_n 0, 1) := by decide +kernel
theorem d_Mo_init_105 : decode b_Mo_init 105 = .ok (.iload_n 3, 1) := by decide +kernel
theorem d_Mo_init_106 : decode b_Mo_init 106 = .ok (.sipush 300, 3) := by decide +kernel
theorem d_Mo_init_109 : decode b_Mo_init 109 = .ok (.if_icmp .lt 9, 3) := by decide +kernel
theorem d_Mo_init_112 : decode b_Mo_init 112 = .ok (.sipush 300, 3) := by decide +kernel
theorem d_Mo_init_115 : decode b_Mo_init 115 = .ok (.goto 18, 3) := by decide +kernel
theorem d_Mo_init_118 : decode b_Mo_init 118 = .ok (.iload_n 3, 1) := by decide +kernel
theorem d_Mo_init_119 : decode b_Mo_init 119 = .ok (.sipush 150, 3) := by decide +kernel
theorem d_Mo_init_122 : decode b_Mo_init 122 = .ok (.if_icmp .lt 9, 3) := by decide +kernel
theorem d_Mo_init_125 : decode b_Mo_init 125 = .ok (.sipush 150, 3) := by decide +kernel
theorem d_Mo_init_128 : decode b_Mo_init 128 = .ok (.goto 5, 3) := by decide +kernel
theorem d_Mo_init_131 : decode b_Mo_init 131 = .ok (.bipush 75, 2) := by decide +kernel
theorem d_Mo_init_133 : decode b_Mo_init 133 = .ok (.putfield 33, 3) := by decide +kernel
theorem d_Mo_init_136 : decode b_Mo_init 136 = .ok (.return_, 1) := by decide +kernel
theorem ds_Mo_init : xDesc y_Mo_init 3 := by decide +kernel

abbrev rm_Mo_init : Room := { frames := 1, cells := 4, slots := 413376, locals := 12 }
set_option maxHeartbeats 4000000 in
set_option maxRecDepth 100000 in
/-- RasterRowsModel(w, h, fine) -/
theorem c_Mo_init (l : Launch) (D : va_G) (cI cJ cQ : ClassId) (q : Nat) (ww : Int) (hh : Int) (dd : Int) (hww : inR ww) (hhh : inR hh) (hdd : inR dd) : xMet l D (xT cI cJ cQ) y_Mo_init b_Mo_init 4 none rm_Mo_init [.ref q, .int (iI ww), .int (iI hh), .int (iI dd)] [(q, .inr (5, [.int (iI 0), .int (iI 0), .int (iI 0), .int (iI 0), .null, .int (iI 0), .int (iI 0), .int (iI 0), .int (iI 0), .int (iI 0), .int (iI 0), .int (iI 0), .int (iI 0), .int (iI 0), .int (iI 0), .int (iI 0), .int (iI 0), .int (iI 0), .null, .null, .null, .int (iI 0), .int (iI 0), .int (iI 0), .int (iI 0)]))] (fun v ws => ∃ (sa : Nat) (ea : Nat) (fa : Nat) (ca : Nat) (av : Int) (hv : Int) (dv : Int), v = none ∧ ws = [(q, .inr (5, [.int (iI 0), .int (iI av), .int (iI hv), .int (iI dv), .ref sa, .int (iI 0), .int (iI 75), .int (iI 0), .int (iI 0), .int (iI 0), .int (iI 0), .int (iI 0), .int (iI 0), .int (iI 0), .int (iI 0), .int (iI 0), .int (iI 0), .int (iI 0), .ref ea, .ref fa, .ref ca, .int (iI 0), .int (iI 0), .int (iI 0), .int (iI 0)])), (sa, .inl (cJ, ((80 * hv).toNat), .inr (.inl (fun _ => 0)))), (ea, .inl (cI, 640, .inl (iA (fun _ => 0)))), (fa, .inl (cI, 640, .inl (iA (fun _ => 0)))), (ca, .inl (cI, 4096, .inl (iA (fun _ => 0))))] ∧ (av = max 1 (min ww 5100)) ∧ (hv = max 1 (min hh 5100)) ∧ ((300 ≤ dd ∧ dv = 300) ∨ (150 ≤ dd ∧ dd < 300 ∧ dv = 150) ∨ (dd < 150 ∧ dv = 75))) := by
  refine x_met (by decide) (Nat.le_of_ble_eq_true rfl) ?_
  intro p e s m below meth c hx hb hr hml hts hown hlocks hin hF0 A hA hP hD hK ls hl hS
  have hl : lv_has ls 4 [(0, .ref q), (1, .int (iI ww)), (2, .int (iI hh)), (3, .int (iI dd))] := hl
  refine lv_aload_n hx hb d_Mo_init_0 rfl (lv_at hl 0 rfl) ?_
  refine W.objInit hx hb hown (hts _ kw_502) (hts _ kw_22) (hts _ kw_23) rfl (by rw [hml]; exact hl.1) rfl d_Mo_init_1 (Nat.le_of_ble_eq_true rfl) (Nat.le_of_ble_eq_true rfl) ?_
  refine W.eq (g2 := F0 m 4 ls []) rfl ?_
  refine lv_aload_n hx hb d_Mo_init_4 rfl (lv_at hl 0 rfl) ?_
  refine xi_bipush hx hb d_Mo_init_5 (by decide) ?_
  refine va_put (D := D) (cl := xcl) (ci := 5) (v := .int (iI 75)) (ty := .int) (C := R_Mo) (T := T_Mo) (N := 25) hx hb hts i_Mo ty_Mo ty_Mo_ok nm_Mo hown hK hP hD hS 0 rfl rfl 6 (by decide) (hts _ kw_509) (fun _ h9 => h9) rfl (by decide +kernel) rfl rfl (Nat.le_of_ble_eq_true rfl) d_Mo_init_7 (fun H locs hP hD hS => ?_)
  have hP : va_P D xcl [(q, .inr (5, [.int (iI 0), .int (iI 0), .int (iI 0), .int (iI 0), .null, .int (iI 0), .int (iI 75), .int (iI 0), .int (iI 0), .int (iI 0), .int (iI 0), .int (iI 0), .int (iI 0), .int (iI 0), .int (iI 0), .int (iI 0), .int (iI 0), .int (iI 0), .null, .null, .null, .int (iI 0), .int (iI 0), .int (iI 0), .int (iI 0)]))] _ := hP
  have hD : va_D A [(q, .inr (5, [.int (iI 0), .int (iI 0), .int (iI 0), .int (iI 0), .null, .int (iI 0), .int (iI 75), .int (iI 0), .int (iI 0), .int (iI 0), .int (iI 0), .int (iI 0), .int (iI 0), .int (iI 0), .int (iI 0), .int (iI 0), .int (iI 0), .int (iI 0), .null, .null, .null, .int (iI 0), .int (iI 0), .int (iI 0), .int (iI 0)]))] := hD
  refine lv_aload_n hx hb d_Mo_init_10 rfl (lv_at hl 0 rfl) ?_
  refine xi_sipush hx hb d_Mo_init_11 (by decide) ?_
  refine xi_newi (N := 640) hx hb (hts _ kw_126) hK hP hD hS hA rfl (by decide) (by decide) (by decide) d_Mo_init_14 (fun q14 H hP hD hS => ?_)
  have hP : va_P D xcl [(q, .inr (5, [.int (iI 0), .int (iI 0), .int (iI 0), .int (iI 0), .null, .int (iI 0), .int (iI 75), .int (iI 0), .int (iI 0), .int (iI 0), .int (iI 0), .int (iI 0), .int (iI 0), .int (iI 0), .int (iI 0), .int (iI 0), .int (iI 0), .int (iI 0), .null, .null, .null, .int (iI 0), .int (iI 0), .int (iI 0), .int (iI 0)])), (q14, .inl (cI, 640, .inl (iA (fun _ => 0))))] _ := hP
  have hD : va_D A [(q, .inr (5, [.int (iI 0), .int (iI 0), .int (iI 0), .int (iI 0), .null, .int (iI 0), .int (iI 75), .int (iI 0), .int (iI 0), .int (iI 0), .int (iI 0), .int (iI 0), .int (iI 0), .int (iI 0), .int (iI 0), .int (iI 0), .int (iI 0), .int (iI 0), .null, .null, .null, .int (iI 0), .int (iI 0), .int (iI 0), .int (iI 0)])), (q14, .inl (cI, 640, .inl (iA (fun _ => 0))))] := hD
  refine W.widen (k := 1) (n := 640) (by decide) (by decide) ?_
  refine va_putF (D := D) (cl := xcl) (ci := 5) (v := .ref q14) (ty := .array (.int)) (C := R_Mo) (T := T_Mo) (N := 25) hx hb hts i_Mo ty_Mo ty_Mo_ok nm_Mo hown hK hP hD hS 0 rfl rfl 18 (by decide) (hts _ kw_521) (fun _ h9 => h9) rfl hin rfl (by decide +kernel) rfl rfl (Nat.le_of_ble_eq_true rfl) d_Mo_init_16 (fun H locs hP hD hS => ?_)
  have hP : va_P D xcl [(q, .inr (5, [.int (iI 0), .int (iI 0), .int (iI 0), .int (iI 0), .null, .int (iI 0), .int (iI 75), .int (iI 0), .int (iI 0), .int (iI 0), .int (iI 0), .int (iI 0), .int (iI 0), .int (iI 0), .int (iI 0), .int (iI 0), .int (iI 0), .int (iI 0), .ref q14, .null, .null, .int (iI 0), .int (iI 0), .int (iI 0), .int (iI 0)])), (q14, .inl (cI, 640, .inl (iA (fun _ => 0))))] _ := hP
  have hD : va_D A [(q, .inr (5, [.int (iI 0), .int (iI 0), .int (iI 0), .int (iI 0), .null, .int (iI 0), .int (iI 75), .int (iI 0), .int (iI 0), .int (iI 0), .int (iI 0), .int (iI 0), .int (iI 0), .int (iI 0), .int (iI 0), .int (iI 0), .int (iI 0), .int (iI 0), .ref q14, .null, .null, .int (iI 0), .int (iI 0), .int (iI 0), .int (iI 0)])), (q14, .inl (cI, 640, .inl (iA (fun _ => 0))))] := hD
  refine lv_aload_n hx hb d_Mo_init_19 rfl (lv_at hl 0 rfl) ?_
  refine xi_sipush hx hb d_Mo_init_20 (by decide) ?_
  refine xi_newi (N := 640) hx hb (hts _ kw_126) hK hP hD hS hA rfl (by decide) (by decide) (by decide) d_Mo_init_23 (fun q23 H hP hD hS => ?_)
  have hP : va_P D xcl [(q, .inr (5, [.int (iI 0), .int (iI 0), .int (iI 0), .int (iI 0), .null, .int (iI 0), .int (iI 75), .int (iI 0), .int (iI 0), .int (iI 0), .int (iI 0), .int (iI 0), .int (iI 0), .int (iI 0), .int (iI 0), .int (iI 0), .int (iI 0), .int (iI 0), .ref q14, .null, .null, .int (iI 0), .int (iI 0), .int (iI 0), .int (iI 0)])), (q14, .inl (cI, 640, .inl (iA (fun _ => 0)))), (q23, .inl (cI, 640, .inl (iA (fun _ => 0))))] _ := hP
  have hD : va_D A [(q, .inr (5, [.int (iI 0), .int (iI 0), .int (iI 0), .int (iI 0), .null, .int (iI 0), .int (iI 75), .int (iI 0), .int (iI 0), .int (iI 0), .int (iI 0), .int (iI 0), .int (iI 0), .int (iI 0), .int (iI 0), .int (iI 0), .int (iI 0), .int (iI 0), .ref q14, .null, .null, .int (iI 0), .int (iI 0), .int (iI 0), .int (iI 0)])), (q14, .inl (cI, 640, .inl (iA (fun _ => 0)))), (q23, .inl (cI, 640, .inl (iA (fun _ => 0))))] := hD
  refine W.widen (k := 2) (n := 1280) (by decide) (by decide) ?_
  refine va_putF (D := D) (cl := xcl) (ci := 5) (v := .ref q23) (ty := .array (.int)) (C := R_Mo) (T := T_Mo) (N := 25) hx hb hts i_Mo ty_Mo ty_Mo_ok nm_Mo hown hK hP hD hS 0 rfl rfl 19 (by decide) (hts _ kw_522) (fun _ h9 => h9) rfl hin rfl (by decide +kernel) rfl rfl (Nat.le_of_ble_eq_true rfl) d_Mo_init_25 (fun H locs hP hD hS => ?_)
  have hP : va_P D xcl [(q, .inr (5, [.int (iI 0), .int (iI 0), .int (iI 0), .int (iI 0), .null, .int (iI 0), .int (iI 75), .int (iI 0), .int (iI 0), .int (iI 0), .int (iI 0), .int (iI 0), .int (iI 0), .int (iI 0), .int (iI 0), .int (iI 0), .int (iI 0), .int (iI 0), .ref q14, .ref q23, .null, .int (iI 0), .int (iI 0), .int (iI 0), .int (iI 0)])), (q14, .inl (cI, 640, .inl (iA (fun _ => 0)))), (q23, .inl (cI, 640, .inl (iA (fun _ => 0))))] _ := hP
  have hD : va_D A [(q, .inr (5, [.int (iI 0), .int (iI 0), .int (iI 0), .int (iI 0), .null, .int (iI 0), .int (iI 75), .int (iI 0), .int (iI 0), .int (iI 0), .int (iI 0), .int (iI 0), .int (iI 0), .int (iI 0), .int (iI 0), .int (iI 0), .int (iI 0), .int (iI 0), .ref q14, .ref q23, .null, .int (iI 0), .int (iI 0), .int (iI 0), .int (iI 0)])), (q14, .inl (cI, 640, .inl (iA (fun _ => 0)))), (q23, .inl (cI, 640, .inl (iA (fun _ => 0))))] := hD
  refine lv_aload_n hx hb d_Mo_init_28 rfl (lv_at hl 0 rfl) ?_
  refine xi_sipush hx hb d_Mo_init_29 (by decide) ?_
  refine xi_newi (N := 4096) hx hb (hts _ kw_126) hK hP hD hS hA rfl (by decide) (by decide) (by decide) d_Mo_init_32 (fun q32 H hP hD hS => ?_)
  have hP : va_P D xcl [(q, .inr (5, [.int (iI 0), .int (iI 0), .int (iI 0), .int (iI 0), .null, .int (iI 0), .int (iI 75), .int (iI 0), .int (iI 0), .int (iI 0), .int (iI 0), .int (iI 0), .int (iI 0), .int (iI 0), .int (iI 0), .int (iI 0), .int (iI 0), .int (iI 0), .ref q14, .ref q23, .null, .int (iI 0), .int (iI 0), .int (iI 0), .int (iI 0)])), (q14, .inl (cI, 640, .inl (iA (fun _ => 0)))), (q23, .inl (cI, 640, .inl (iA (fun _ => 0)))), (q32, .inl (cI, 4096, .inl (iA (fun _ => 0))))] _ := hP
  have hD : va_D A [(q, .inr (5, [.int (iI 0), .int (iI 0), .int (iI 0), .int (iI 0), .null, .int (iI 0), .int (iI 75), .int (iI 0), .int (iI 0), .int (iI 0), .int (iI 0), .int (iI 0), .int (iI 0), .int (iI 0), .int (iI 0), .int (iI 0), .int (iI 0), .int (iI 0), .ref q14, .ref q23, .null, .int (iI 0), .int (iI 0), .int (iI 0), .int (iI 0)])), (q14, .inl (cI, 640, .inl (iA (fun _ => 0)))), (q23, .inl (cI, 640, .inl (iA (fun _ => 0)))), (q32, .inl (cI, 4096, .inl (iA (fun _ => 0))))] := hD
  refine W.widen (k := 3) (n := 5376) (by decide) (by decide) ?_
  refine va_putF (D := D) (cl := xcl) (ci := 5) (v := .ref q32) (ty := .array (.int)) (C := R_Mo) (T := T_Mo) (N := 25) hx hb hts i_Mo ty_Mo ty_Mo_ok nm_Mo hown hK hP hD hS 0 rfl rfl 20 (by decide) (hts _ kw_523) (fun _ h9 => h9) rfl hin rfl (by decide +kernel) rfl rfl (Nat.le_of_ble_eq_true rfl) d_Mo_init_34 (fun H locs hP hD hS => ?_)
  have hP : va_P D xcl [(q, .inr (5, [.int (iI 0), .int (iI 0), .int (iI 0), .int (iI 0), .null, .int (iI 0), .int (iI 75), .int (iI 0), .int (iI 0), .int (iI 0), .int (iI 0), .int (iI 0), .int (iI 0), .int (iI 0), .int (iI 0), .int (iI 0), .int (iI 0), .int (iI 0), .ref q14, .ref q23, .ref q32, .int (iI 0), .int (iI 0), .int (iI 0), .int (iI 0)])), (q14, .inl (cI, 640, .inl (iA (fun _ => 0)))), (q23, .inl (cI, 640, .inl (iA (fun _ => 0)))), (q32, .inl (cI, 4096, .inl (iA (fun _ => 0))))] _ := hP
  have hD : va_D A [(q, .inr (5, [.int (iI 0), .int (iI 0), .int (iI 0), .int (iI 0), .null, .int (iI 0), .int (iI 75), .int (iI 0), .int (iI 0), .int (iI 0), .int (iI 0), .int (iI 0), .int (iI 0), .int (iI 0), .int (iI 0), .int (iI 0), .int (iI 0), .int (iI 0), .ref q14, .ref q23, .ref q32, .int (iI 0), .int (iI 0), .int (iI 0), .int (iI 0)])), (q14, .inl (cI, 640, .inl (iA (fun _ => 0)))), (q23, .inl (cI, 640, .inl (iA (fun _ => 0)))), (q32, .inl (cI, 4096, .inl (iA (fun _ => 0))))] := hD
  refine x_cut1 61 (cJ := 3) (sJ := 5376) (fun (av : Int) => [.int (iI av), .ref q]) (fun (av : Int) H locs ls => (av = max 1 (min ww 5100)) ∧ va_P D xcl [(q, .inr (5, [.int (iI 0), .int (iI 0), .int (iI 0), .int (iI 0), .null, .int (iI 0), .int (iI 75), .int (iI 0), .int (iI 0), .int (iI 0), .int (iI 0), .int (iI 0), .int (iI 0), .int (iI 0), .int (iI 0), .int (iI 0), .int (iI 0), .int (iI 0), .ref q14, .ref q23, .ref q32, .int (iI 0), .int (iI 0), .int (iI 0), .int (iI 0)])), (q14, .inl (cI, 640, .inl (iA (fun _ => 0)))), (q23, .inl (cI, 640, .inl (iA (fun _ => 0)))), (q32, .inl (cI, 4096, .inl (iA (fun _ => 0))))] H ∧ va_D A [(q, .inr (5, [.int (iI 0), .int (iI 0), .int (iI 0), .int (iI 0), .null, .int (iI 0), .int (iI 75), .int (iI 0), .int (iI 0), .int (iI 0), .int (iI 0), .int (iI 0), .int (iI 0), .int (iI 0), .int (iI 0), .int (iI 0), .int (iI 0), .int (iI 0), .ref q14, .ref q23, .ref q32, .int (iI 0), .int (iI 0), .int (iI 0), .int (iI 0)])), (q14, .inl (cI, 640, .inl (iA (fun _ => 0)))), (q23, .inl (cI, 640, .inl (iA (fun _ => 0)))), (q32, .inl (cI, 4096, .inl (iA (fun _ => 0))))] ∧ va_S A s.heap H locs ∧ lv_has ls 4 [(0, .ref q), (1, .int (iI ww)), (2, .int (iI hh)), (3, .int (iI dd))]) ?_ ?_
  ·
    intro av H locs ls hI
    obtain ⟨hav, hP, hD, hS, hl⟩ := hI
    refine va_putF (D := D) (cl := xcl) (ci := 5) (v := .int (iI av)) (ty := .int) (C := R_Mo) (T := T_Mo) (N := 25) hx hb hts i_Mo ty_Mo ty_Mo_ok nm_Mo hown hK hP hD hS 0 rfl rfl 1 (by decide) (hts _ kw_504) (fun _ h9 => h9) rfl hin rfl (by decide +kernel) rfl rfl (Nat.le_of_ble_eq_true rfl) d_Mo_init_61 (fun H locs hP hD hS => ?_)
    have hP : va_P D xcl [(q, .inr (5, [.int (iI 0), .int (iI av), .int (iI 0), .int (iI 0), .null, .int (iI 0), .int (iI 75), .int (iI 0), .int (iI 0), .int (iI 0), .int (iI 0), .int (iI 0), .int (iI 0), .int (iI 0), .int (iI 0), .int (iI 0), .int (iI 0), .int (iI 0), .ref q14, .ref q23, .ref q32, .int (iI 0), .int (iI 0), .int (iI 0), .int (iI 0)])), (q14, .inl (cI, 640, .inl (iA (fun _ => 0)))), (q23, .inl (cI, 640, .inl (iA (fun _ => 0)))), (q32, .inl (cI, 4096, .inl (iA (fun _ => 0))))] _ := hP
    have hD : va_D A [(q, .inr (5, [.int (iI 0), .int (iI av), .int (iI 0), .int (iI 0), .null, .int (iI 0), .int (iI 75), .int (iI 0), .int (iI 0), .int (iI 0), .int (iI 0), .int (iI 0), .int (iI 0), .int (iI 0), .int (iI 0), .int (iI 0), .int (iI 0), .int (iI 0), .ref q14, .ref q23, .ref q32, .int (iI 0), .int (iI 0), .int (iI 0), .int (iI 0)])), (q14, .inl (cI, 640, .inl (iA (fun _ => 0)))), (q23, .inl (cI, 640, .inl (iA (fun _ => 0)))), (q32, .inl (cI, 4096, .inl (iA (fun _ => 0))))] := hD
    refine x_cut1 88 (cJ := 3) (sJ := 5376) (fun (hv : Int) => [.int (iI hv), .ref q]) (fun (hv : Int) H locs ls => (hv = max 1 (min hh 5100)) ∧ va_P D xcl [(q, .inr (5, [.int (iI 0), .int (iI av), .int (iI 0), .int (iI 0), .null, .int (iI 0), .int (iI 75), .int (iI 0), .int (iI 0), .int (iI 0), .int (iI 0), .int (iI 0), .int (iI 0), .int (iI 0), .int (iI 0), .int (iI 0), .int (iI 0), .int (iI 0), .ref q14, .ref q23, .ref q32, .int (iI 0), .int (iI 0), .int (iI 0), .int (iI 0)])), (q14, .inl (cI, 640, .inl (iA (fun _ => 0)))), (q23, .inl (cI, 640, .inl (iA (fun _ => 0)))), (q32, .inl (cI, 4096, .inl (iA (fun _ => 0))))] H ∧ va_D A [(q, .inr (5, [.int (iI 0), .int (iI av), .int (iI 0), .int (iI 0), .null, .int (iI 0), .int (iI 75), .int (iI 0), .int (iI 0), .int (iI 0), .int (iI 0), .int (iI 0), .int (iI 0), .int (iI 0), .int (iI 0), .int (iI 0), .int (iI 0), .int (iI 0), .ref q14, .ref q23, .ref q32, .int (iI 0), .int (iI 0), .int (iI 0), .int (iI 0)])), (q14, .inl (cI, 640, .inl (iA (fun _ => 0)))), (q23, .inl (cI, 640, .inl (iA (fun _ => 0)))), (q32, .inl (cI, 4096, .inl (iA (fun _ => 0))))] ∧ va_S A s.heap H locs ∧ lv_has ls 4 [(0, .ref q), (1, .int (iI ww)), (2, .int (iI hh)), (3, .int (iI dd))]) ?_ ?_
    ·
      intro hv H locs ls hI
      obtain ⟨hhv, hP, hD, hS, hl⟩ := hI
      refine va_putF (D := D) (cl := xcl) (ci := 5) (v := .int (iI hv)) (ty := .int) (C := R_Mo) (T := T_Mo) (N := 25) hx hb hts i_Mo ty_Mo ty_Mo_ok nm_Mo hown hK hP hD hS 0 rfl rfl 2 (by decide) (hts _ kw_505) (fun _ h9 => h9) rfl hin rfl (by decide +kernel) rfl rfl (Nat.le_of_ble_eq_true rfl) d_Mo_init_88 (fun H locs hP hD hS => ?_)
      have hP : va_P D xcl [(q, .inr (5, [.int (iI 0), .int (iI av), .int (iI hv), .int (iI 0), .null, .int (iI 0), .int (iI 75), .int (iI 0), .int (iI 0), .int (iI 0), .int (iI 0), .int (iI 0), .int (iI 0), .int (iI 0), .int (iI 0), .int (iI 0), .int (iI 0), .int (iI 0), .ref q14, .ref q23, .ref q32, .int (iI 0), .int (iI 0), .int (iI 0), .int (iI 0)])), (q14, .inl (cI, 640, .inl (iA (fun _ => 0)))), (q23, .inl (cI, 640, .inl (iA (fun _ => 0)))), (q32, .inl (cI, 4096, .inl (iA (fun _ => 0))))] _ := hP
      have hD : va_D A [(q, .inr (5, [.int (iI 0), .int (iI av), .int (iI hv), .int (iI 0), .null, .int (iI 0), .int (iI 75), .int (iI 0), .int (iI 0), .int (iI 0), .int (iI 0), .int (iI 0), .int (iI 0), .int (iI 0), .int (iI 0), .int (iI 0), .int (iI 0), .int (iI 0), .ref q14, .ref q23, .ref q32, .int (iI 0), .int (iI 0), .int (iI 0), .int (iI 0)])), (q14, .inl (cI, 640, .inl (iA (fun _ => 0)))), (q23, .inl (cI, 640, .inl (iA (fun _ => 0)))), (q32, .inl (cI, 4096, .inl (iA (fun _ => 0))))] := hD
      refine lv_aload_n hx hb d_Mo_init_91 rfl (lv_at hl 0 rfl) ?_
      refine xi_bipush hx hb d_Mo_init_92 (by decide) ?_
      refine lv_aload_n hx hb d_Mo_init_94 rfl (lv_at hl 0 rfl) ?_
      refine va_get (D := D) (cl := xcl) (ci := 5) (v := .int (iI hv)) (C := R_Mo) (T := T_Mo) (N := 25) hx hb hts i_Mo hown hK hP 0 rfl rfl 2 (by decide) (hts _ kw_505) (fun _ h9 => h9) rfl d_Mo_init_95 ?_
      refine xi_imul hx hb d_Mo_init_98 ?_
      refine xi_newl (N := (80 * hv).toNat) hx hb (hts _ kw_54) hK hP hD hS hA (by omega) (by omega) (by decide) (by show 5376 + _ ≤ 413376; omega) d_Mo_init_99 (fun q99 H hP hD hS => ?_)
      have hP : va_P D xcl [(q, .inr (5, [.int (iI 0), .int (iI av), .int (iI hv), .int (iI 0), .null, .int (iI 0), .int (iI 75), .int (iI 0), .int (iI 0), .int (iI 0), .int (iI 0), .int (iI 0), .int (iI 0), .int (iI 0), .int (iI 0), .int (iI 0), .int (iI 0), .int (iI 0), .ref q14, .ref q23, .ref q32, .int (iI 0), .int (iI 0), .int (iI 0), .int (iI 0)])), (q14, .inl (cI, 640, .inl (iA (fun _ => 0)))), (q23, .inl (cI, 640, .inl (iA (fun _ => 0)))), (q32, .inl (cI, 4096, .inl (iA (fun _ => 0)))), (q99, .inl (cJ, ((80 * hv).toNat), .inr (.inl (fun _ => 0))))] _ := hP
      have hD : va_D A [(q, .inr (5, [.int (iI 0), .int (iI av), .int (iI hv), .int (iI 0), .null, .int (iI 0), .int (iI 75), .int (iI 0), .int (iI 0), .int (iI 0), .int (iI 0), .int (iI 0), .int (iI 0), .int (iI 0), .int (iI 0), .int (iI 0), .int (iI 0), .int (iI 0), .ref q14, .ref q23, .ref q32, .int (iI 0), .int (iI 0), .int (iI 0), .int (iI 0)])), (q14, .inl (cI, 640, .inl (iA (fun _ => 0)))), (q23, .inl (cI, 640, .inl (iA (fun _ => 0)))), (q32, .inl (cI, 4096, .inl (iA (fun _ => 0)))), (q99, .inl (cJ, ((80 * hv).toNat), .inr (.inl (fun _ => 0))))] := hD
      refine W.widen (k := 4) (n := 413376) (by decide) (by omega) ?_
      refine va_putF (D := D) (cl := xcl) (ci := 5) (v := .ref q99) (ty := .array (.long)) (C := R_Mo) (T := T_Mo) (N := 25) hx hb hts i_Mo ty_Mo ty_Mo_ok nm_Mo hown hK hP hD hS 0 rfl rfl 4 (by decide) (hts _ kw_507) (fun _ h9 => h9) rfl hin rfl (by decide +kernel) rfl rfl (Nat.le_of_ble_eq_true rfl) d_Mo_init_101 (fun H locs hP hD hS => ?_)
      have hP : va_P D xcl [(q, .inr (5, [.int (iI 0), .int (iI av), .int (iI hv), .int (iI 0), .ref q99, .int (iI 0), .int (iI 75), .int (iI 0), .int (iI 0), .int (iI 0), .int (iI 0), .int (iI 0), .int (iI 0), .int (iI 0), .int (iI 0), .int (iI 0), .int (iI 0), .int (iI 0), .ref q14, .ref q23, .ref q32, .int (iI 0), .int (iI 0), .int (iI 0), .int (iI 0)])), (q14, .inl (cI, 640, .inl (iA (fun _ => 0)))), (q23, .inl (cI, 640, .inl (iA (fun _ => 0)))), (q32, .inl (cI, 4096, .inl (iA (fun _ => 0)))), (q99, .inl (cJ, ((80 * hv).toNat), .inr (.inl (fun _ => 0))))] _ := hP
      have hD : va_D A [(q, .inr (5, [.int (iI 0), .int (iI av), .int (iI hv), .int (iI 0), .ref q99, .int (iI 0), .int (iI 75), .int (iI 0), .int (iI 0), .int (iI 0), .int (iI 0), .int (iI 0), .int (iI 0), .int (iI 0), .int (iI 0), .int (iI 0), .int (iI 0), .int (iI 0), .ref q14, .ref q23, .ref q32, .int (iI 0), .int (iI 0), .int (iI 0), .int (iI 0)])), (q14, .inl (cI, 640, .inl (iA (fun _ => 0)))), (q23, .inl (cI, 640, .inl (iA (fun _ => 0)))), (q32, .inl (cI, 4096, .inl (iA (fun _ => 0)))), (q99, .inl (cJ, ((80 * hv).toNat), .inr (.inl (fun _ => 0))))] := hD
      refine x_cut1 133 (cJ := 4) (sJ := 413376) (fun (dv : Int) => [.int (iI dv), .ref q]) (fun (dv : Int) H locs ls => ((300 ≤ dd ∧ dv = 300) ∨ (150 ≤ dd ∧ dd < 300 ∧ dv = 150) ∨ (dd < 150 ∧ dv = 75)) ∧ va_P D xcl [(q, .inr (5, [.int (iI 0), .int (iI av), .int (iI hv), .int (iI 0), .ref q99, .int (iI 0), .int (iI 75), .int (iI 0), .int (iI 0), .int (iI 0), .int (iI 0), .int (iI 0), .int (iI 0), .int (iI 0), .int (iI 0), .int (iI 0), .int (iI 0), .int (iI 0), .ref q14, .ref q23, .ref q32, .int (iI 0), .int (iI 0), .int (iI 0), .int (iI 0)])), (q14, .inl (cI, 640, .inl (iA (fun _ => 0)))), (q23, .inl (cI, 640, .inl (iA (fun _ => 0)))), (q32, .inl (cI, 4096, .inl (iA (fun _ => 0)))), (q99, .inl (cJ, ((80 * hv).toNat), .inr (.inl (fun _ => 0))))] H ∧ va_D A [(q, .inr (5, [.int (iI 0), .int (iI av), .int (iI hv), .int (iI 0), .ref q99, .int (iI 0), .int (iI 75), .int (iI 0), .int (iI 0), .int (iI 0), .int (iI 0), .int (iI 0), .int (iI 0), .int (iI 0), .int (iI 0), .int (iI 0), .int (iI 0), .int (iI 0), .ref q14, .ref q23, .ref q32, .int (iI 0), .int (iI 0), .int (iI 0), .int (iI 0)])), (q14, .inl (cI, 640, .inl (iA (fun _ => 0)))), (q23, .inl (cI, 640, .inl (iA (fun _ => 0)))), (q32, .inl (cI, 4096, .inl (iA (fun _ => 0)))), (q99, .inl (cJ, ((80 * hv).toNat), .inr (.inl (fun _ => 0))))] ∧ va_S A s.heap H locs ∧ lv_has ls 4 [(0, .ref q), (1, .int (iI ww)), (2, .int (iI hh)), (3, .int (iI dd))]) ?_ ?_
      ·
        intro dv H locs ls hI
        obtain ⟨hdv, hP, hD, hS, hl⟩ := hI
        refine va_putF (D := D) (cl := xcl) (ci := 5) (v := .int (iI dv)) (ty := .int) (C := R_Mo) (T := T_Mo) (N := 25) hx hb hts i_Mo ty_Mo ty_Mo_ok nm_Mo hown hK hP hD hS 0 rfl rfl 3 (by decide) (hts _ kw_506) (fun _ h9 => h9) rfl hin rfl (by decide +kernel) rfl rfl (Nat.le_of_ble_eq_true rfl) d_Mo_init_133 (fun H locs hP hD hS => ?_)
        have hP : va_P D xcl [(q, .inr (5, [.int (iI 0), .int (iI av), .int (iI hv), .int (iI dv), .ref q99, .int (iI 0), .int (iI 75), .int (iI 0), .int (iI 0), .int (iI 0), .int (iI 0), .int (iI 0), .int (iI 0), .int (iI 0), .int (iI 0), .int (iI 0), .int (iI 0), .int (iI 0), .ref q14, .ref q23, .ref q32, .int (iI 0), .int (iI 0), .int (iI 0), .int (iI 0)])), (q14, .inl (cI, 640, .inl (iA (fun _ => 0)))), (q23, .inl (cI, 640, .inl (iA (fun _ => 0)))), (q32, .inl (cI, 4096, .inl (iA (fun _ => 0)))), (q99, .inl (cJ, ((80 * hv).toNat), .inr (.inl (fun _ => 0))))] _ := hP
        have hD : va_D A [(q, .inr (5, [.int (iI 0), .int (iI av), .int (iI hv), .int (iI dv), .ref q99, .int (iI 0), .int (iI 75), .int (iI 0), .int (iI 0), .int (iI 0), .int (iI 0), .int (iI 0), .int (iI 0), .int (iI 0), .int (iI 0), .int (iI 0), .int (iI 0), .int (iI 0), .ref q14, .ref q23, .ref q32, .int (iI 0), .int (iI 0), .int (iI 0), .int (iI 0)])), (q14, .inl (cI, 640, .inl (iA (fun _ => 0)))), (q23, .inl (cI, 640, .inl (iA (fun _ => 0)))), (q32, .inl (cI, 4096, .inl (iA (fun _ => 0)))), (q99, .inl (cJ, ((80 * hv).toNat), .inr (.inl (fun _ => 0))))] := hD
        exact x_vret hx hb hr hlocks (hP.sub (ws' := [(q, .inr (5, [.int (iI 0), .int (iI av), .int (iI hv), .int (iI dv), .ref q99, .int (iI 0), .int (iI 75), .int (iI 0), .int (iI 0), .int (iI 0), .int (iI 0), .int (iI 0), .int (iI 0), .int (iI 0), .int (iI 0), .int (iI 0), .int (iI 0), .int (iI 0), .ref q14, .ref q23, .ref q32, .int (iI 0), .int (iI 0), .int (iI 0), .int (iI 0)])), (q99, .inl (cJ, ((80 * hv).toNat), .inr (.inl (fun _ => 0)))), (q14, .inl (cI, 640, .inl (iA (fun _ => 0)))), (q23, .inl (cI, 640, .inl (iA (fun _ => 0)))), (q32, .inl (cI, 4096, .inl (iA (fun _ => 0))))]) [0, 4, 1, 2, 3] rfl) (hD.sub (ws' := [(q, .inr (5, [.int (iI 0), .int (iI av), .int (iI hv), .int (iI dv), .ref q99, .int (iI 0), .int (iI 75), .int (iI 0), .int (iI 0), .int (iI 0), .int (iI 0), .int (iI 0), .int (iI 0), .int (iI 0), .int (iI 0), .int (iI 0), .int (iI 0), .int (iI 0), .ref q14, .ref q23, .ref q32, .int (iI 0), .int (iI 0), .int (iI 0), .int (iI 0)])), (q99, .inl (cJ, ((80 * hv).toNat), .inr (.inl (fun _ => 0)))), (q14, .inl (cI, 640, .inl (iA (fun _ => 0)))), (q23, .inl (cI, 640, .inl (iA (fun _ => 0)))), (q32, .inl (cI, 4096, .inl (iA (fun _ => 0))))]) [0, 4, 1, 2, 3] (by decide) rfl) hS (by decide) (by decide) ⟨q99, q14, q23, q32, av, hv, dv, rfl, rfl, hav, hhv, hdv⟩ d_Mo_init_136
      ·
        intro hJ_133
        refine lv_aload_n hx hb d_Mo_init_104 rfl (lv_at hl 0 rfl) ?_
        refine lv_iload_n hx hb d_Mo_init_105 rfl (lv_at hl 3 rfl) ?_
        refine xi_sipush hx hb d_Mo_init_106 (by decide) ?_
        refine xi_icmp_lt (tgt := 118) hx hb d_Mo_init_109 (by decide) ⟨by omega, by omega⟩ ⟨by decide, by decide⟩ (fun c_109 => ?_) (fun c_109 => ?_)
        ·
          refine lv_iload_n hx hb d_Mo_init_118 rfl (lv_at hl 3 rfl) ?_
          refine xi_sipush hx hb d_Mo_init_119 (by decide) ?_
          refine xi_icmp_lt (tgt := 131) hx hb d_Mo_init_122 (by decide) ⟨by omega, by omega⟩ ⟨by decide, by decide⟩ (fun c_122 => ?_) (fun c_122 => ?_)
          ·
            refine xi_bipush hx hb d_Mo_init_131 (by decide) ?_
            exact hJ_133 75 _ _ _ ⟨by omega, hP, hD, hS, hl⟩
          ·
            refine xi_sipush hx hb d_Mo_init_125 (by decide) ?_
            refine lv_goto (tgt := 133) hx hb d_Mo_init_128 (by decide) ?_
            exact hJ_133 150 _ _ _ ⟨by omega, hP, hD, hS, hl⟩
        ·
          refine xi_sipush hx hb d_Mo_init_112 (by decide) ?_
          refine lv_goto (tgt := 133) hx hb d_Mo_init_115 (by decide) ?_
          exact hJ_133 300 _ _ _ ⟨by omega, hP, hD, hS, hl⟩
    ·
      intro hJ_88
      refine lv_aload_n hx hb d_Mo_init_64 rfl (lv_at hl 0 rfl) ?_
      refine lv_iload_n hx hb d_Mo_init_65 rfl (lv_at hl 2 rfl) ?_
      refine xi_iconst hx hb d_Mo_init_66 ?_
      refine xi_icmp_ge (tgt := 74) hx hb d_Mo_init_67 (by decide) ⟨by omega, by omega⟩ ⟨by decide, by decide⟩ (fun c_67 => ?_) (fun c_67 => ?_)
      ·
        refine lv_iload_n hx hb d_Mo_init_74 rfl (lv_at hl 2 rfl) ?_
        refine xi_sipush hx hb d_Mo_init_75 (by decide) ?_
        refine xi_icmp_le (tgt := 87) hx hb d_Mo_init_78 (by decide) ⟨by omega, by omega⟩ ⟨by decide, by decide⟩ (fun c_78 => ?_) (fun c_78 => ?_)
        ·
          refine lv_iload_n hx hb d_Mo_init_87 rfl (lv_at hl 2 rfl) ?_
          exact hJ_88 hh _ _ _ ⟨by omega, hP, hD, hS, hl⟩
        ·
          refine xi_sipush hx hb d_Mo_init_81 (by decide) ?_
          refine lv_goto (tgt := 88) hx hb d_Mo_init_84 (by decide) ?_
          exact hJ_88 5100 _ _ _ ⟨by omega, hP, hD, hS, hl⟩
      ·
        refine xi_iconst hx hb d_Mo_init_70 ?_
        refine lv_goto (tgt := 88) hx hb d_Mo_init_71 (by decide) ?_
        exact hJ_88 1 _ _ _ ⟨by omega, hP, hD, hS, hl⟩
  ·
    intro hJ_61
    refine lv_aload_n hx hb d_Mo_init_37 rfl (lv_at hl 0 rfl) ?_
    refine lv_iload_n hx hb d_Mo_init_38 rfl (lv_at hl 1 rfl) ?_
    refine xi_iconst hx hb d_Mo_init_39 ?_
    refine xi_icmp_ge (tgt := 47) hx hb d_Mo_init_40 (by decide) ⟨by omega, by omega⟩ ⟨by decide, by decide⟩ (fun c_40 => ?_) (fun c_40 => ?_)
    ·
      refine lv_iload_n hx hb d_Mo_init_47 rfl (lv_at hl 1 rfl) ?_
      refine xi_sipush hx hb d_Mo_init_48 (by decide) ?_
      refine xi_icmp_le (tgt := 60) hx hb d_Mo_init_51 (by decide) ⟨by omega, by omega⟩ ⟨by decide, by decide⟩ (fun c_51 => ?_) (fun c_51 => ?_)
      ·
        refine lv_iload_n hx hb d_Mo_init_60 rfl (lv_at hl 1 rfl) ?_
        exact hJ_61 ww _ _ _ ⟨by omega, hP, hD, hS, hl⟩
      ·
        refine xi_sipush hx hb d_Mo_init_54 (by decide) ?_
        refine lv_goto (tgt := 61) hx hb d_Mo_init_57 (by decide) ?_
        exact hJ_61 5100 _ _ _ ⟨by omega, hP, hD, hS, hl⟩
    ·
      refine xi_iconst hx hb d_Mo_init_43 ?_
      refine lv_goto (tgt := 61) hx hb d_Mo_init_44 (by decide) ?_
      exact hJ_61 1 _ _ _ ⟨by omega, hP, hD, hS, hl⟩

theorem d_Mo_put_0 : decode b_Mo_put 0 = .ok (.iload_n 1, 1) := by decide +kernel
theorem d_Mo_put_1 : decode b_Mo_put 1 = .ok (.aload_n 0, 1) := by decide +kernel
theorem d_Mo_put_2 : decode b_Mo_put 2 = .ok (.getfield 74, 3) := by decide +kernel
theorem d_Mo_put_5 : decode b_Mo_put 5 = .ok (.if_icmp .ge 10, 3) := by decide +kernel
theorem d_Mo_put_8 : decode b_Mo_put 8 = .ok (.aload_n 0, 1) := by decide +kernel
theorem d_Mo_put_9 : decode b_Mo_put 9 = .ok (.getfield 17, 3) := by decide +kernel
theorem d_Mo_put_12 : decode b_Mo_put 12 = .ok (.iload_n 1, 1) := by decide +kernel
theorem d_Mo_put_13 : decode b_Mo_put 13 = .ok (.iload_n 2, 1) := by decide +kernel
theorem d_Mo_put_14 : decode b_Mo_put 14 = .ok (.iastore, 1) := by decide +kernel
theorem d_Mo_put_15 : decode b_Mo_put 15 = .ok (.return_, 1) := by decide +kernel
theorem ds_Mo_put : xDesc y_Mo_put 2 := by decide +kernel

abbrev rm_Mo_put : Room := { frames := 0, cells := 0, slots := 0, locals := 0 }
set_option maxHeartbeats 4000000 in
set_option maxRecDepth 100000 in
/-- Model.put -/
theorem c_Mo_put (l : Launch) (D : va_G) (cI cJ cQ : ClassId) (q : Nat) (th : Int) (ac : Int) (dI : Int) (dp : Int) (sa : Nat) (bk : Int) (rs : Int) (nW : Int) (nH : Int) (mt : Int) (op : Int) (x : Int) (y : Int) (wd : Int) (ht : Int) (sc : Int) (rw : Int) (ln : Int) (ea : Nat) (fa : Nat) (ca : Nat) (ct : Int) (kr : Int) (kb : Int) (ov : Int) (Fr : Nat → Int) (pp : Int) (b : Int) (hln : 0 ≤ ln ∧ ln ≤ 640) (hp : 0 ≤ pp ∧ pp < 2147483648) : xMet l D (xT cI cJ cQ) y_Mo_put b_Mo_put 3 none rm_Mo_put [.ref q, .int (iI pp), .int (iI b)] [(q, .inr (5, [.int (iI th), .int (iI ac), .int (iI dI), .int (iI dp), .ref sa, .int (iI bk), .int (iI rs), .int (iI nW), .int (iI nH), .int (iI mt), .int (iI op), .int (iI x), .int (iI y), .int (iI wd), .int (iI ht), .int (iI sc), .int (iI rw), .int (iI ln), .ref ea, .ref fa, .ref ca, .int (iI ct), .int (iI kr), .int (iI kb), .int (iI ov)])), (fa, .inl (cI, 640, .inl (iA Fr)))] (fun v ws => ∃ (B2 : Nat → Int), v = none ∧ ws = [(q, .inr (5, [.int (iI th), .int (iI ac), .int (iI dI), .int (iI dp), .ref sa, .int (iI bk), .int (iI rs), .int (iI nW), .int (iI nH), .int (iI mt), .int (iI op), .int (iI x), .int (iI y), .int (iI wd), .int (iI ht), .int (iI sc), .int (iI rw), .int (iI ln), .ref ea, .ref fa, .ref ca, .int (iI ct), .int (iI kr), .int (iI kb), .int (iI ov)])), (fa, .inl (cI, 640, .inl (iA B2)))] ∧ (B2 = putB Fr ln pp b)) := by
  refine x_met (by decide) (Nat.le_of_ble_eq_true rfl) ?_
  intro p e s m below meth c hx hb hr hml hts hown hlocks hin hF0 A hA hP hD hK ls hl hS
  have hl : lv_has ls 3 [(0, .ref q), (1, .int (iI pp)), (2, .int (iI b))] := hl
  refine lv_iload_n hx hb d_Mo_put_0 rfl (lv_at hl 1 rfl) ?_
  refine lv_aload_n hx hb d_Mo_put_1 rfl (lv_at hl 0 rfl) ?_
  refine va_get (D := D) (cl := xcl) (ci := 5) (v := .int (iI ln)) (C := R_Mo) (T := T_Mo) (N := 25) hx hb hts i_Mo hown hK hP 0 rfl rfl 17 (by decide) (hts _ kw_520) (fun _ h9 => h9) rfl d_Mo_put_2 ?_
  refine xi_icmp_ge (tgt := 15) hx hb d_Mo_put_5 (by decide) ⟨by omega, by omega⟩ ⟨by omega, by omega⟩ (fun c_5 => ?_) (fun c_5 => ?_)
  ·
    exact x_vret hx hb hr hlocks hP hD hS (by decide) (by decide) ⟨Fr, rfl, rfl, (if_neg (by omega)).symm⟩ d_Mo_put_15
  ·
    refine lv_aload_n hx hb d_Mo_put_8 rfl (lv_at hl 0 rfl) ?_
    refine va_get (D := D) (cl := xcl) (ci := 5) (v := .ref fa) (C := R_Mo) (T := T_Mo) (N := 25) hx hb hts i_Mo hown hK hP 0 rfl rfl 19 (by decide) (hts _ kw_522) (fun _ h9 => h9) rfl d_Mo_put_9 ?_
    refine lv_iload_n hx hb d_Mo_put_12 rfl (lv_at hl 1 rfl) ?_
    refine lv_iload_n hx hb d_Mo_put_13 rfl (lv_at hl 2 rfl) ?_
    refine xi_iast hx hb hK hP hD hS 1 0 rfl rfl (by omega) (by omega) (by omega) d_Mo_put_14 (fun H locs hP hD hS => ?_)
    have hP : va_P D xcl [(q, .inr (5, [.int (iI th), .int (iI ac), .int (iI dI), .int (iI dp), .ref sa, .int (iI bk), .int (iI rs), .int (iI nW), .int (iI nH), .int (iI mt), .int (iI op), .int (iI x), .int (iI y), .int (iI wd), .int (iI ht), .int (iI sc), .int (iI rw), .int (iI ln), .ref ea, .ref fa, .ref ca, .int (iI ct), .int (iI kr), .int (iI kb), .int (iI ov)])), (fa, .inl (cI, 640, .inl (iA (va_up Fr pp.toNat b))))] _ := hP
    have hD : va_D A [(q, .inr (5, [.int (iI th), .int (iI ac), .int (iI dI), .int (iI dp), .ref sa, .int (iI bk), .int (iI rs), .int (iI nW), .int (iI nH), .int (iI mt), .int (iI op), .int (iI x), .int (iI y), .int (iI wd), .int (iI ht), .int (iI sc), .int (iI rw), .int (iI ln), .ref ea, .ref fa, .ref ca, .int (iI ct), .int (iI kr), .int (iI kb), .int (iI ov)])), (fa, .inl (cI, 640, .inl (iA (va_up Fr pp.toNat b))))] := hD
    exact x_vret hx hb hr hlocks hP hD hS (by decide) (by decide) ⟨(va_up Fr pp.toNat b), rfl, rfl, (if_pos (by omega)).symm⟩ d_Mo_put_15

theorem d_Mo_pairs_0 : decode b_Mo_pairs 0 = .ok (.iconst 0, 1) := by decide +kernel
theorem d_Mo_pairs_1 : decode b_Mo_pairs 1 = .ok (.istore_n 1, 1) := by decide +kernel
theorem d_Mo_pairs_2 : decode b_Mo_pairs 2 = .ok (.iconst 0, 1) := by decide +kernel
theorem d_Mo_pairs_3 : decode b_Mo_pairs 3 = .ok (.istore_n 2, 1) := by decide +kernel
theorem d_Mo_pairs_4 : decode b_Mo_pairs 4 = .ok (.iload_n 2, 1) := by decide +kernel
theorem d_Mo_pairs_5 : decode b_Mo_pairs 5 = .ok (.iconst 1, 1) := by decide +kernel
theorem d_Mo_pairs_6 : decode b_Mo_pairs 6 = .ok (.iadd, 1) := by decide +kernel
theorem d_Mo_pairs_7 : decode b_Mo_pairs 7 = .ok (.aload_n 0, 1) := by decide +kernel
theorem d_Mo_pairs_8 : decode b_Mo_pairs 8 = .ok (.getfield 80, 3) := by decide +kernel
theorem d_Mo_pairs_11 : decode b_Mo_pairs 11 = .ok (.if_icmp .ge 43, 3) := by decide +kernel
theorem d_Mo_pairs_14 : decode b_Mo_pairs 14 = .ok (.iconst 0, 1) := by decide +kernel
theorem d_Mo_pairs_15 : decode b_Mo_pairs 15 = .ok (.istore_n 3, 1) := by decide +kernel
theorem d_Mo_pairs_16 : decode b_Mo_pairs 16 = .ok (.iload_n 3, 1) := by decide +kernel
theorem d_Mo_pairs_17 : decode b_Mo_pairs 17 = .ok (.aload_n 0, 1) := by decide +kernel
theorem d_Mo_pairs_18 : decode b_Mo_pairs 18 = .ok (.getfield 20, 3) := by decide +kernel
theorem d_Mo_pairs_21 : decode b_Mo_pairs 21 = .ok (.iload_n 2, 1) := by decide +kernel
theorem d_Mo_pairs_22 : decode b_Mo_pairs 22 = .ok (.iaload, 1) := by decide +kernel
theorem d_Mo_pairs_23 : decode b_Mo_pairs 23 = .ok (.if_icmp .gt 25, 3) := by decide +kernel
theorem d_Mo_pairs_26 : decode b_Mo_pairs 26 = .ok (.aload_n 0, 1) := by decide +kernel
theorem d_Mo_pairs_27 : decode b_Mo_pairs 27 = .ok (.iload_n 1, 1) := by decide +kernel
theorem d_Mo_pairs_28 : decode b_Mo_pairs 28 = .ok (.aload_n 0, 1) := by decide +kernel
theorem d_Mo_pairs_29 : decode b_Mo_pairs 29 = .ok (.getfield 20, 3) := by decide +kernel
theorem d_Mo_pairs_32 : decode b_Mo_pairs 32 = .ok (.iload_n 2, 1) := by decide +kernel
theorem d_Mo_pairs_33 : decode b_Mo_pairs 33 = .ok (.iconst 1, 1) := by decide +kernel
theorem d_Mo_pairs_34 : decode b_Mo_pairs 34 = .ok (.iadd, 1) := by decide +kernel
theorem d_Mo_pairs_35 : decode b_Mo_pairs 35 = .ok (.iaload, 1) := by decide +kernel
theorem d_Mo_pairs_36 : decode b_Mo_pairs 36 = .ok (.invokevirtual 85, 3) := by decide +kernel
theorem d_Mo_pairs_39 : decode b_Mo_pairs 39 = .ok (.iinc 1 1, 3) := by decide +kernel
theorem d_Mo_pairs_42 : decode b_Mo_pairs 42 = .ok (.iinc 3 1, 3) := by decide +kernel
theorem d_Mo_pairs_45 : decode b_Mo_pairs 45 = .ok (.goto (-29), 3) := by decide +kernel
theorem d_Mo_pairs_48 : decode b_Mo_pairs 48 = .ok (.iinc 2 2, 3) := by decide +kernel
theorem d_Mo_pairs_51 : decode b_Mo_pairs 51 = .ok (.goto (-47), 3) := by decide +kernel
theorem d_Mo_pairs_54 : decode b_Mo_pairs 54 = .ok (.return_, 1) := by decide +kernel
theorem ds_Mo_pairs : xDesc y_Mo_pairs 0 := by decide +kernel

abbrev rm_Mo_pairs : Room := { frames := 1, cells := 0, slots := 0, locals := 22 }
set_option maxHeartbeats 4000000 in
set_option maxRecDepth 100000 in
/-- Model.pairs -/
theorem c_Mo_pairs (l : Launch) (D : va_G) (cI cJ cQ : ClassId) (q : Nat) (th : Int) (ac : Int) (dI : Int) (dp : Int) (sa : Nat) (bk : Int) (rs : Int) (nW : Int) (nH : Int) (mt : Int) (op : Int) (x : Int) (y : Int) (wd : Int) (ht : Int) (sc : Int) (rw : Int) (ln : Int) (ea : Nat) (fa : Nat) (ca : Nat) (ct : Int) (kr : Int) (kb : Int) (ov : Int) (Fr : Nat → Int) (P : Nat → Int) (hct : 0 ≤ ct ∧ ct ≤ 4096) (hPb : ∀ j : Nat, 0 ≤ P j ∧ P j < 256) (hln : 0 ≤ ln ∧ ln ≤ 640) : xMet l D (xT cI cJ cQ) y_Mo_pairs b_Mo_pairs 4 none rm_Mo_pairs [.ref q] [(q, .inr (5, [.int (iI th), .int (iI ac), .int (iI dI), .int (iI dp), .ref sa, .int (iI bk), .int (iI rs), .int (iI nW), .int (iI nH), .int (iI mt), .int (iI op), .int (iI x), .int (iI y), .int (iI wd), .int (iI ht), .int (iI sc), .int (iI rw), .int (iI ln), .ref ea, .ref fa, .ref ca, .int (iI ct), .int (iI kr), .int (iI kb), .int (iI ov)])), (fa, .inl (cI, 640, .inl (iA Fr))), (ca, .inl (cI, 4096, .inl (iA P)))] (fun v ws => ∃ (B2 : Nat → Int), v = none ∧ ws = [(q, .inr (5, [.int (iI th), .int (iI ac), .int (iI dI), .int (iI dp), .ref sa, .int (iI bk), .int (iI rs), .int (iI nW), .int (iI nH), .int (iI mt), .int (iI op), .int (iI x), .int (iI y), .int (iI wd), .int (iI ht), .int (iI sc), .int (iI rw), .int (iI ln), .ref ea, .ref fa, .ref ca, .int (iI ct), .int (iI kr), .int (iI kb), .int (iI ov)])), (fa, .inl (cI, 640, .inl (iA B2))), (ca, .inl (cI, 4096, .inl (iA P)))] ∧ (B2 = pairsS P ct ln 5000 0 0 Fr)) := by
  refine x_met (by decide) (Nat.le_of_ble_eq_true rfl) ?_
  intro p e s m below meth c hx hb hr hml hts hown hlocks hin hF0 A hA hP hD hK ls hl hS
  have hl : lv_has ls 4 [(0, .ref q)] := hl
  refine xi_iconst hx hb d_Mo_pairs_0 ?_
  refine lv_istore_n (lv' := [(1, .int (iI 0)), (0, .ref q)]) hx hb d_Mo_pairs_1 rfl hl (by decide) rfl (fun ls hl => ?_)
  refine xi_iconst hx hb d_Mo_pairs_2 ?_
  refine lv_istore_n (lv' := [(2, .int (iI 0)), (1, .int (iI 0)), (0, .ref q)]) hx hb d_Mo_pairs_3 rfl hl (by decide) rfl (fun ls hl => ?_)
  refine x_loop4 (fun (i : Int) (pl : Int) (F1 : Nat → Int) (n : Nat) H locs ls => (0 ≤ i ∧ i ≤ 4097) ∧ (0 ≤ pl ∧ pl ≤ 256 * i) ∧ (ct - i + 1 < (n : Int)) ∧ (pairsS P ct ln 5000 0 0 Fr = pairsS P ct ln n i pl F1) ∧ va_P D xcl [(q, .inr (5, [.int (iI th), .int (iI ac), .int (iI dI), .int (iI dp), .ref sa, .int (iI bk), .int (iI rs), .int (iI nW), .int (iI nH), .int (iI mt), .int (iI op), .int (iI x), .int (iI y), .int (iI wd), .int (iI ht), .int (iI sc), .int (iI rw), .int (iI ln), .ref ea, .ref fa, .ref ca, .int (iI ct), .int (iI kr), .int (iI kb), .int (iI ov)])), (fa, .inl (cI, 640, .inl (iA F1))), (ca, .inl (cI, 4096, .inl (iA P)))] H ∧ va_D A [(q, .inr (5, [.int (iI th), .int (iI ac), .int (iI dI), .int (iI dp), .ref sa, .int (iI bk), .int (iI rs), .int (iI nW), .int (iI nH), .int (iI mt), .int (iI op), .int (iI x), .int (iI y), .int (iI wd), .int (iI ht), .int (iI sc), .int (iI rw), .int (iI ln), .ref ea, .ref fa, .ref ca, .int (iI ct), .int (iI kr), .int (iI kb), .int (iI ov)])), (fa, .inl (cI, 640, .inl (iA F1))), (ca, .inl (cI, 4096, .inl (iA P)))] ∧ va_S A s.heap H locs ∧ lv_has ls 4 [(2, .int (iI i)), (1, .int (iI pl)), (0, .ref q)]) (fun (i : Int) (pl : Int) (F1 : Nat → Int) (n : Nat) => n) 0 0 Fr 5000 ⟨by omega, by omega, by omega, rfl, hP, hD, hS, hl⟩ ?_
  intro i pl F1 n H locs ls hI ih_4
  obtain ⟨k1, k2, k3, k4, hP, hD, hS, hl⟩ := hI
  refine lv_iload_n hx hb d_Mo_pairs_4 rfl (lv_at hl 0 rfl) ?_
  refine xi_iconst hx hb d_Mo_pairs_5 ?_
  refine xi_iadd hx hb d_Mo_pairs_6 ?_
  refine lv_aload_n hx hb d_Mo_pairs_7 rfl (lv_at hl 2 rfl) ?_
  refine va_get (D := D) (cl := xcl) (ci := 5) (v := .int (iI ct)) (C := R_Mo) (T := T_Mo) (N := 25) hx hb hts i_Mo hown hK hP 0 rfl rfl 21 (by decide) (hts _ kw_524) (fun _ h9 => h9) rfl d_Mo_pairs_8 ?_
  refine xi_icmp_ge (tgt := 54) hx hb d_Mo_pairs_11 (by decide) ⟨by omega, by omega⟩ ⟨by omega, by omega⟩ (fun c_11 => ?_) (fun c_11 => ?_)
  ·
    exact x_vret hx hb hr hlocks hP hD hS (by decide) (by decide) ⟨F1, rfl, rfl, by rw [k4, pairsS_end (by omega)]⟩ d_Mo_pairs_54
  ·
    have b22 := hPb i.toNat
    refine xi_iconst hx hb d_Mo_pairs_14 ?_
    refine lv_istore_n (lv' := [(3, .int (iI 0)), (2, .int (iI i)), (1, .int (iI pl)), (0, .ref q)]) hx hb d_Mo_pairs_15 rfl hl (by decide) rfl (fun ls hl => ?_)
    refine x_loop3 (fun (j : Int) (pl2 : Int) (F2 : Nat → Int) H locs ls => (0 ≤ j ∧ j ≤ P i.toNat + 1) ∧ (pl2 = pl + j) ∧ (F2 = fillB F1 ln pl j (P (i + 1).toNat)) ∧ va_P D xcl [(q, .inr (5, [.int (iI th), .int (iI ac), .int (iI dI), .int (iI dp), .ref sa, .int (iI bk), .int (iI rs), .int (iI nW), .int (iI nH), .int (iI mt), .int (iI op), .int (iI x), .int (iI y), .int (iI wd), .int (iI ht), .int (iI sc), .int (iI rw), .int (iI ln), .ref ea, .ref fa, .ref ca, .int (iI ct), .int (iI kr), .int (iI kb), .int (iI ov)])), (fa, .inl (cI, 640, .inl (iA F2))), (ca, .inl (cI, 4096, .inl (iA P)))] H ∧ va_D A [(q, .inr (5, [.int (iI th), .int (iI ac), .int (iI dI), .int (iI dp), .ref sa, .int (iI bk), .int (iI rs), .int (iI nW), .int (iI nH), .int (iI mt), .int (iI op), .int (iI x), .int (iI y), .int (iI wd), .int (iI ht), .int (iI sc), .int (iI rw), .int (iI ln), .ref ea, .ref fa, .ref ca, .int (iI ct), .int (iI kr), .int (iI kb), .int (iI ov)])), (fa, .inl (cI, 640, .inl (iA F2))), (ca, .inl (cI, 4096, .inl (iA P)))] ∧ va_S A s.heap H locs ∧ lv_has ls 4 [(3, .int (iI j)), (1, .int (iI pl2)), (2, .int (iI i)), (0, .ref q)]) (fun (j : Int) (pl2 : Int) (F2 : Nat → Int) => (P i.toNat + 1 - j).toNat) 0 pl F1 ⟨by omega, by omega, (fillB_0 (by omega)).symm, hP, hD, hS, (lv_sub hl [0, 2, 1, 3] rfl)⟩ ?_
    intro j pl2 F2 H locs ls hI ih_16
    obtain ⟨n0, n1, n3, hP, hD, hS, hl⟩ := hI
    refine lv_iload_n hx hb d_Mo_pairs_16 rfl (lv_at hl 0 rfl) ?_
    refine lv_aload_n hx hb d_Mo_pairs_17 rfl (lv_at hl 3 rfl) ?_
    refine va_get (D := D) (cl := xcl) (ci := 5) (v := .ref ca) (C := R_Mo) (T := T_Mo) (N := 25) hx hb hts i_Mo hown hK hP 0 rfl rfl 20 (by decide) (hts _ kw_523) (fun _ h9 => h9) rfl d_Mo_pairs_18 ?_
    refine lv_iload_n hx hb d_Mo_pairs_21 rfl (lv_at hl 2 rfl) ?_
    refine xi_iald hx hb hK hP 2 0 rfl rfl (by omega) (by omega) (by omega) d_Mo_pairs_22 ?_
    refine xi_icmp_gt (tgt := 48) hx hb d_Mo_pairs_23 (by decide) ⟨by omega, by omega⟩ ⟨by omega, by omega⟩ (fun c_23 => ?_) (fun c_23 => ?_)
    ·
      refine xi_iinc (lv' := [(2, .int (iI (i + 2))), (3, .int (iI j)), (1, .int (iI pl2)), (0, .ref q)]) hx hb d_Mo_pairs_48 hl (k := 2) rfl (by decide) rfl (fun ls hl => ?_)
      refine lv_goto (tgt := 4) hx hb d_Mo_pairs_51 (by decide) ?_
      exact ih_4 (i + 2) pl2 F2 (n - 1) _ _ _ (by omega) ⟨by omega, by omega, by omega, by rw [k4, pairsS_go (by omega) c_11, n3, show j = P i.toNat + 1 by omega, n1, show j = P i.toNat + 1 by omega], hP, hD, hS, (lv_sub hl [0, 2, 3] rfl)⟩
    ·
      refine lv_aload_n hx hb d_Mo_pairs_26 rfl (lv_at hl 3 rfl) ?_
      refine lv_iload_n hx hb d_Mo_pairs_27 rfl (lv_at hl 1 rfl) ?_
      refine lv_aload_n hx hb d_Mo_pairs_28 rfl (lv_at hl 3 rfl) ?_
      refine va_get (D := D) (cl := xcl) (ci := 5) (v := .ref ca) (C := R_Mo) (T := T_Mo) (N := 25) hx hb hts i_Mo hown hK hP 0 rfl rfl 20 (by decide) (hts _ kw_523) (fun _ h9 => h9) rfl d_Mo_pairs_29 ?_
      refine lv_iload_n hx hb d_Mo_pairs_32 rfl (lv_at hl 2 rfl) ?_
      refine xi_iconst hx hb d_Mo_pairs_33 ?_
      refine xi_iadd hx hb d_Mo_pairs_34 ?_
      refine xi_iald hx hb hK hP 2 0 rfl rfl (by omega) (by omega) (by omega) d_Mo_pairs_35 ?_
      refine x_aft (x_runV (C := "RasterRowsModel") (As := [.int (iI pl2), .int (iI (P (i + 1).toNat))]) (rest := []) (ci := 5) (q0 := 0) hx hb hml hown hts (c_Mo_put l D cI cJ cQ q th ac dI dp sa bk rs nW nH mt op x y wd ht sc rw ln ea fa ca ct kr kb ov F2 pl2 (P (i + 1).toNat) (hln) (by omega)) kw_619 kw_621 kp_10 kw_7 kw_622 ds_Mo_put (by decide) hK (hP.sub (ws' := [(q, .inr (5, [.int (iI th), .int (iI ac), .int (iI dI), .int (iI dp), .ref sa, .int (iI bk), .int (iI rs), .int (iI nW), .int (iI nH), .int (iI mt), .int (iI op), .int (iI x), .int (iI y), .int (iI wd), .int (iI ht), .int (iI sc), .int (iI rw), .int (iI ln), .ref ea, .ref fa, .ref ca, .int (iI ct), .int (iI kr), .int (iI kb), .int (iI ov)])), (fa, .inl (cI, 640, .inl (iA F2)))]) [0, 1] rfl) (hD.sub (ws' := [(q, .inr (5, [.int (iI th), .int (iI ac), .int (iI dI), .int (iI dp), .ref sa, .int (iI bk), .int (iI rs), .int (iI nW), .int (iI nH), .int (iI mt), .int (iI op), .int (iI x), .int (iI y), .int (iI wd), .int (iI ht), .int (iI sc), .int (iI rw), .int (iI ln), .ref ea, .ref fa, .ref ca, .int (iI ct), .int (iI kr), .int (iI kb), .int (iI ov)])), (fa, .inl (cI, 640, .inl (iA F2)))]) [0, 1] (by decide) rfl) rfl rfl rfl hl.1 rfl (Nat.le_of_ble_eq_true rfl) d_Mo_pairs_36) hP hD hS hA [0, 1] [2] rfl (wr := [(ca, .inl (cI, 4096, .inl (iA P)))]) rfl (by decide) (by decide) (fun v w1 H locs hq hP hD hS => ?_)
      obtain ⟨B2_36, rfl, rfl, hB2_36⟩ := hq
      refine W.cs (cells' := 0) (slots' := 0) rfl rfl ?_
      refine W.eq (g2 := F0 m 39 ls []) rfl ?_
      have hP : va_P D xcl [(ca, .inl (cI, 4096, .inl (iA P))), (q, .inr (5, [.int (iI th), .int (iI ac), .int (iI dI), .int (iI dp), .ref sa, .int (iI bk), .int (iI rs), .int (iI nW), .int (iI nH), .int (iI mt), .int (iI op), .int (iI x), .int (iI y), .int (iI wd), .int (iI ht), .int (iI sc), .int (iI rw), .int (iI ln), .ref ea, .ref fa, .ref ca, .int (iI ct), .int (iI kr), .int (iI kb), .int (iI ov)])), (fa, .inl (cI, 640, .inl (iA B2_36)))] _ := hP
      have hD : va_D A [(ca, .inl (cI, 4096, .inl (iA P))), (q, .inr (5, [.int (iI th), .int (iI ac), .int (iI dI), .int (iI dp), .ref sa, .int (iI bk), .int (iI rs), .int (iI nW), .int (iI nH), .int (iI mt), .int (iI op), .int (iI x), .int (iI y), .int (iI wd), .int (iI ht), .int (iI sc), .int (iI rw), .int (iI ln), .ref ea, .ref fa, .ref ca, .int (iI ct), .int (iI kr), .int (iI kb), .int (iI ov)])), (fa, .inl (cI, 640, .inl (iA B2_36)))] := hD
      refine xi_iinc (lv' := [(1, .int (iI (pl2 + 1))), (3, .int (iI j)), (2, .int (iI i)), (0, .ref q)]) hx hb d_Mo_pairs_39 hl (k := 1) rfl (by decide) rfl (fun ls hl => ?_)
      refine xi_iinc (lv' := [(3, .int (iI (j + 1))), (1, .int (iI (pl2 + 1))), (2, .int (iI i)), (0, .ref q)]) hx hb d_Mo_pairs_42 hl (k := 1) rfl (by decide) rfl (fun ls hl => ?_)
      refine lv_goto (tgt := 16) hx hb d_Mo_pairs_45 (by decide) ?_
      exact ih_16 (j + 1) (pl2 + 1) B2_36 _ _ _ (by omega) ⟨by omega, by omega, by rw [hB2_36, n3, n1]; exact fillB_put k2.1 n0.1, (hP.sub (ws' := [(q, .inr (5, [.int (iI th), .int (iI ac), .int (iI dI), .int (iI dp), .ref sa, .int (iI bk), .int (iI rs), .int (iI nW), .int (iI nH), .int (iI mt), .int (iI op), .int (iI x), .int (iI y), .int (iI wd), .int (iI ht), .int (iI sc), .int (iI rw), .int (iI ln), .ref ea, .ref fa, .ref ca, .int (iI ct), .int (iI kr), .int (iI kb), .int (iI ov)])), (fa, .inl (cI, 640, .inl (iA B2_36))), (ca, .inl (cI, 4096, .inl (iA P)))]) [1, 2, 0] rfl), (hD.sub (ws' := [(q, .inr (5, [.int (iI th), .int (iI ac), .int (iI dI), .int (iI dp), .ref sa, .int (iI bk), .int (iI rs), .int (iI nW), .int (iI nH), .int (iI mt), .int (iI op), .int (iI x), .int (iI y), .int (iI wd), .int (iI ht), .int (iI sc), .int (iI rw), .int (iI ln), .ref ea, .ref fa, .ref ca, .int (iI ct), .int (iI kr), .int (iI kb), .int (iI ov)])), (fa, .inl (cI, 640, .inl (iA B2_36))), (ca, .inl (cI, 4096, .inl (iA P)))]) [1, 2, 0] (by decide) rfl), hS, hl⟩

theorem d_Mo_packed_0 : decode b_Mo_packed 0 = .ok (.iconst 0, 1) := by decide +kernel
theorem d_Mo_packed_1 : decode b_Mo_packed 1 = .ok (.istore_n 1, 1) := by decide +kernel
theorem d_Mo_packed_2 : decode b_Mo_packed 2 = .ok (.iconst 0, 1) := by decide +kernel
theorem d_Mo_packed_3 : decode b_Mo_packed 3 = .ok (.istore_n 2, 1) := by decide +kernel
theorem d_Mo_packed_4 : decode b_Mo_packed 4 = .ok (.iload_n 2, 1) := by decide +kernel
theorem d_Mo_packed_5 : decode b_Mo_packed 5 = .ok (.aload_n 0, 1) := by decide +kernel
theorem d_Mo_packed_6 : decode b_Mo_packed 6 = .ok (.getfield 80, 3) := by decide +kernel
theorem d_Mo_packed_9 : decode b_Mo_packed 9 = .ok (.if_icmp .ge 117, 3) := by decide +kernel
theorem d_Mo_packed_12 : decode b_Mo_packed 12 = .ok (.aload_n 0, 1) := by decide +kernel
theorem d_Mo_packed_13 : decode b_Mo_packed 13 = .ok (.getfield 20, 3) := by decide +kernel
theorem d_Mo_packed_16 : decode b_Mo_packed 16 = .ok (.iload_n 2, 1) := by decide +kernel
theorem d_Mo_packed_17 : decode b_Mo_packed 17 = .ok (.iaload, 1) := by decide +kernel
theorem d_Mo_packed_18 : decode b_Mo_packed 18 = .ok (.istore_n 3, 1) := by decide +kernel
theorem d_Mo_packed_19 : decode b_Mo_packed 19 = .ok (.iinc 2 1, 3) := by decide +kernel
theorem d_Mo_packed_22 : decode b_Mo_packed 22 = .ok (.iload_n 3, 1) := by decide +kernel
theorem d_Mo_packed_23 : decode b_Mo_packed 23 = .ok (.sipush 128, 3) := by decide +kernel
theorem d_Mo_packed_26 : decode b_Mo_packed 26 = .ok (.if_icmp .ge 46, 3) := by decide +kernel
theorem d_Mo_packed_29 : decode b_Mo_packed 29 = .ok (.iconst 0, 1) := by decide +kernel
theorem d_Mo_packed_30 : decode b_Mo_packed 30 = .ok (.istore 4, 2) := by decide +kernel
theorem d_Mo_packed_32 : decode b_Mo_packed 32 = .ok (.iload 4, 2) := by decide +kernel
theorem d_Mo_packed_34 : decode b_Mo_packed 34 = .ok (.iload_n 3, 1) := by decide +kernel
theorem d_Mo_packed_35 : decode b_Mo_packed 35 = .ok (.if_icmp .gt 34, 3) := by decide +kernel
theorem d_Mo_packed_38 : decode b_Mo_packed 38 = .ok (.iload_n 2, 1) := by decide +kernel
theorem d_Mo_packed_39 : decode b_Mo_packed 39 = .ok (.aload_n 0, 1) := by decide +kernel
theorem d_Mo_packed_40 : decode b_Mo_packed 40 = .ok (.getfield 80, 3) := by decide +kernel
theorem d_Mo_packed_43 : decode b_Mo_packed 43 = .ok (.if_icmp .ge 26, 3) := by decide +kernel
theorem d_Mo_packed_46 : decode b_Mo_packed 46 = .ok (.aload_n 0, 1) := by decide +kernel
theorem d_Mo_packed_47 : decode b_Mo_packed 47 = .ok (.iload_n 1, 1) := by decide +kernel
theorem d_Mo_packed_48 : decode b_Mo_packed 48 = .ok (.aload_n 0, 1) := by decide +kernel
theorem d_Mo_packed_49 : decode b_Mo_packed 49 = .ok (.getfield 20, 3) := by decide +kernel
theorem d_Mo_packed_52 : decode b_Mo_packed 52 = .ok (.iload_n 2, 1) := by decide +kernel
theorem d_Mo_packed_53 : decode b_Mo_packed 53 = .ok (.iaload, 1) := by decide +kernel
theorem d_Mo_packed_54 : decode b_Mo_packed 54 = .ok (.invokevirtual 85, 3) := by decide +kernel
theorem d_Mo_packed_57 : decode b_Mo_packed 57 = .ok (.iinc 1 1, 3) := by decide +kernel
theorem d_Mo_packed_60 : decode b_Mo_packed 60 = .ok (.iinc 2 1, 3) := by decide +kernel
theorem d_Mo_packed_63 : decode b_Mo_packed 63 = .ok (.iinc 4 1, 3) := by decide +kernel
theorem d_Mo_packed_66 : decode b_Mo_packed 66 = .ok (.goto (-34), 3) := by decide +kernel
theorem d_Mo_packed_69 : decode b_Mo_packed 69 = .ok (.goto 54, 3) := by decide +kernel
theorem d_Mo_packed_72 : decode b_Mo_packed 72 = .ok (.iload_n 3, 1) := by decide +kernel
theorem d_Mo_packed_73 : decode b_Mo_packed 73 = .ok (.sipush 128, 3) := by decide +kernel
theorem d_Mo_packed_76 : decode b_Mo_packed 76 = .ok (.if_icmp .le 47, 3) := by decide +kernel
theorem d_Mo_packed_79 : decode b_Mo_packed 79 = .ok (.iload_n 2, 1) := by decide +kernel
theorem d_Mo_packed_80 : decode b_Mo_packed 80 = .ok (.aload_n 0, 1) := by decide +kernel
theorem d_Mo_packed_81 : decode b_Mo_packed 81 = .ok (.getfield 80, 3) := by decide +kernel
theorem d_Mo_packed_84 : decode b_Mo_packed 84 = .ok (.if_icmp .ge 39, 3) := by decide +kernel
theorem d_Mo_packed_87 : decode b_Mo_packed 87 = .ok (.iconst 0, 1) := by decide +kernel
theorem d_Mo_packed_88 : decode b_Mo_packed 88 = .ok (.istore 4, 2) := by decide +kernel
theorem d_Mo_packed_90 : decode b_Mo_packed 90 = .ok (.iload 4, 2) := by decide +kernel
theorem d_Mo_packed_92 : decode b_Mo_packed 92 = .ok (.sipush 257, 3) := by decide +kernel
theorem d_Mo_packed_95 : decode b_Mo_packed 95 = .ok (.iload_n 3, 1) := by decide +kernel
theorem d_Mo_packed_96 : decode b_Mo_packed 96 = .ok (.isub, 1) := by decide +kernel
theorem d_Mo_packed_97 : decode b_Mo_packed 97 = .ok (.if_icmp .ge 23, 3) := by decide +kernel
theorem d_Mo_packed_100 : decode b_Mo_packed 100 = .ok (.aload_n 0, 1) := by decide +kernel
theorem d_Mo_packed_101 : decode b_Mo_packed 101 = .ok (.iload_n 1, 1) := by decide +kernel
theorem d_Mo_packed_102 : decode b_Mo_packed 102 = .ok (.aload_n 0, 1) := by decide +kernel
theorem d_Mo_packed_103 : decode b_Mo_packed 103 = .ok (.getfield 20, 3) := by decide +kernel
theorem d_Mo_packed_106 : decode b_Mo_packed 106 = .ok (.iload_n 2, 1) := by decide +kernel
theorem d_Mo_packed_107 : decode b_Mo_packed 107 = .ok (.iaload, 1) := by decide +kernel
theorem d_Mo_packed_108 : decode b_Mo_packed 108 = .ok (.invokevirtual 85, 3) := by decide +kernel
theorem d_Mo_packed_111 : decode b_Mo_packed 111 = .ok (.iinc 1 1, 3) := by decide +kernel
theorem d_Mo_packed_114 : decode b_Mo_packed 114 = .ok (.iinc 4 1, 3) := by decide +kernel
theorem d_Mo_packed_117 : decode b_Mo_packed 117 = .ok (.goto (-27), 3) := by decide +kernel
theorem d_Mo_packed_120 : decode b_Mo_packed 120 = .ok (.iinc 2 1, 3) := by decide +kernel
theorem d_Mo_packed_123 : decode b_Mo_packed 123 = .ok (.goto (-119), 3) := by decide +kernel
theorem d_Mo_packed_126 : decode b_Mo_packed 126 = .ok (.return_, 1) := by decide +kernel
theorem ds_Mo_packed : xDesc y_Mo_packed 0 := by decide +kernel

abbrev rm_Mo_packed : Room := { frames := 1, cells := 0, slots := 0, locals := 22 }
set_option maxHeartbeats 4000000 in
set_option maxRecDepth 100000 in
/-- Model.packed -/
theorem c_Mo_packed (l : Launch) (D : va_G) (cI cJ cQ : ClassId) (q : Nat) (th : Int) (ac : Int) (dI : Int) (dp : Int) (sa : Nat) (bk : Int) (rs : Int) (nW : Int) (nH : Int) (mt : Int) (op : Int) (x : Int) (y : Int) (wd : Int) (ht : Int) (sc : Int) (rw : Int) (ln : Int) (ea : Nat) (fa : Nat) (ca : Nat) (ct : Int) (kr : Int) (kb : Int) (ov : Int) (Fr : Nat → Int) (P : Nat → Int) (hct : 0 ≤ ct ∧ ct ≤ 4096) (hPb : ∀ j : Nat, 0 ≤ P j ∧ P j < 256) (hln : 0 ≤ ln ∧ ln ≤ 640) : xMet l D (xT cI cJ cQ) y_Mo_packed b_Mo_packed 5 none rm_Mo_packed [.ref q] [(q, .inr (5, [.int (iI th), .int (iI ac), .int (iI dI), .int (iI dp), .ref sa, .int (iI bk), .int (iI rs), .int (iI nW), .int (iI nH), .int (iI mt), .int (iI op), .int (iI x), .int (iI y), .int (iI wd), .int (iI ht), .int (iI sc), .int (iI rw), .int (iI ln), .ref ea, .ref fa, .ref ca, .int (iI ct), .int (iI kr), .int (iI kb), .int (iI ov)])), (fa, .inl (cI, 640, .inl (iA Fr))), (ca, .inl (cI, 4096, .inl (iA P)))] (fun v ws => ∃ (B2 : Nat → Int), v = none ∧ ws = [(q, .inr (5, [.int (iI th), .int (iI ac), .int (iI dI), .int (iI dp), .ref sa, .int (iI bk), .int (iI rs), .int (iI nW), .int (iI nH), .int (iI mt), .int (iI op), .int (iI x), .int (iI y), .int (iI wd), .int (iI ht), .int (iI sc), .int (iI rw), .int (iI ln), .ref ea, .ref fa, .ref ca, .int (iI ct), .int (iI kr), .int (iI kb), .int (iI ov)])), (fa, .inl (cI, 640, .inl (iA B2))), (ca, .inl (cI, 4096, .inl (iA P)))] ∧ (B2 = runsS P ct ln 5000 0 0 Fr)) := by
  refine x_met (by decide) (Nat.le_of_ble_eq_true rfl) ?_
  intro p e s m below meth c hx hb hr hml hts hown hlocks hin hF0 A hA hP hD hK ls hl hS
  have hl : lv_has ls 5 [(0, .ref q)] := hl
  refine xi_iconst hx hb d_Mo_packed_0 ?_
  refine lv_istore_n (lv' := [(1, .int (iI 0)), (0, .ref q)]) hx hb d_Mo_packed_1 rfl hl (by decide) rfl (fun ls hl => ?_)
  refine xi_iconst hx hb d_Mo_packed_2 ?_
  refine lv_istore_n (lv' := [(2, .int (iI 0)), (1, .int (iI 0)), (0, .ref q)]) hx hb d_Mo_packed_3 rfl hl (by decide) rfl (fun ls hl => ?_)
  refine x_loop4 (fun (i : Int) (pl : Int) (F1 : Nat → Int) (n : Nat) H locs ls => (0 ≤ i ∧ i ≤ ct) ∧ (0 ≤ pl ∧ pl ≤ 256 * i) ∧ (ct - i + 1 < (n : Int)) ∧ (runsS P ct ln 5000 0 0 Fr = runsS P ct ln n i pl F1) ∧ va_P D xcl [(q, .inr (5, [.int (iI th), .int (iI ac), .int (iI dI), .int (iI dp), .ref sa, .int (iI bk), .int (iI rs), .int (iI nW), .int (iI nH), .int (iI mt), .int (iI op), .int (iI x), .int (iI y), .int (iI wd), .int (iI ht), .int (iI sc), .int (iI rw), .int (iI ln), .ref ea, .ref fa, .ref ca, .int (iI ct), .int (iI kr), .int (iI kb), .int (iI ov)])), (fa, .inl (cI, 640, .inl (iA F1))), (ca, .inl (cI, 4096, .inl (iA P)))] H ∧ va_D A [(q, .inr (5, [.int (iI th), .int (iI ac), .int (iI dI), .int (iI dp), .ref sa, .int (iI bk), .int (iI rs), .int (iI nW), .int (iI nH), .int (iI mt), .int (iI op), .int (iI x), .int (iI y), .int (iI wd), .int (iI ht), .int (iI sc), .int (iI rw), .int (iI ln), .ref ea, .ref fa, .ref ca, .int (iI ct), .int (iI kr), .int (iI kb), .int (iI ov)])), (fa, .inl (cI, 640, .inl (iA F1))), (ca, .inl (cI, 4096, .inl (iA P)))] ∧ va_S A s.heap H locs ∧ lv_has ls 5 [(2, .int (iI i)), (1, .int (iI pl)), (0, .ref q)]) (fun (i : Int) (pl : Int) (F1 : Nat → Int) (n : Nat) => n) 0 0 Fr 5000 ⟨by omega, by omega, by omega, rfl, hP, hD, hS, hl⟩ ?_
  intro i pl F1 n H locs ls hI ih_4
  obtain ⟨k1, k2, k3, k4, hP, hD, hS, hl⟩ := hI
  refine lv_iload_n hx hb d_Mo_packed_4 rfl (lv_at hl 0 rfl) ?_
  refine lv_aload_n hx hb d_Mo_packed_5 rfl (lv_at hl 2 rfl) ?_
  refine va_get (D := D) (cl := xcl) (ci := 5) (v := .int (iI ct)) (C := R_Mo) (T := T_Mo) (N := 25) hx hb hts i_Mo hown hK hP 0 rfl rfl 21 (by decide) (hts _ kw_524) (fun _ h9 => h9) rfl d_Mo_packed_6 ?_
  refine xi_icmp_ge (tgt := 126) hx hb d_Mo_packed_9 (by decide) ⟨by omega, by omega⟩ ⟨by omega, by omega⟩ (fun c_9 => ?_) (fun c_9 => ?_)
  ·
    exact x_vret hx hb hr hlocks hP hD hS (by decide) (by decide) ⟨F1, rfl, rfl, by rw [k4, runsS_end (by omega)]⟩ d_Mo_packed_126
  ·
    have b17 := hPb i.toNat
    refine lv_aload_n hx hb d_Mo_packed_12 rfl (lv_at hl 2 rfl) ?_
    refine va_get (D := D) (cl := xcl) (ci := 5) (v := .ref ca) (C := R_Mo) (T := T_Mo) (N := 25) hx hb hts i_Mo hown hK hP 0 rfl rfl 20 (by decide) (hts _ kw_523) (fun _ h9 => h9) rfl d_Mo_packed_13 ?_
    refine lv_iload_n hx hb d_Mo_packed_16 rfl (lv_at hl 0 rfl) ?_
    refine xi_iald hx hb hK hP 2 0 rfl rfl (by omega) (by omega) (by omega) d_Mo_packed_17 ?_
    refine lv_istore_n (lv' := [(3, .int (iI (P i.toNat))), (2, .int (iI i)), (1, .int (iI pl)), (0, .ref q)]) hx hb d_Mo_packed_18 rfl hl (by decide) rfl (fun ls hl => ?_)
    refine xi_iinc (lv' := [(2, .int (iI (i + 1))), (3, .int (iI (P i.toNat))), (1, .int (iI pl)), (0, .ref q)]) hx hb d_Mo_packed_19 hl (k := 1) rfl (by decide) rfl (fun ls hl => ?_)
    refine lv_iload_n hx hb d_Mo_packed_22 rfl (lv_at hl 1 rfl) ?_
    refine xi_sipush hx hb d_Mo_packed_23 (by decide) ?_
    refine xi_icmp_ge (tgt := 72) hx hb d_Mo_packed_26 (by decide) ⟨by omega, by omega⟩ ⟨by decide, by decide⟩ (fun c_26 => ?_) (fun c_26 => ?_)
    ·
      refine lv_iload_n hx hb d_Mo_packed_72 rfl (lv_at hl 1 rfl) ?_
      refine xi_sipush hx hb d_Mo_packed_73 (by decide) ?_
      refine xi_icmp_le (tgt := 123) hx hb d_Mo_packed_76 (by decide) ⟨by omega, by omega⟩ ⟨by decide, by decide⟩ (fun c_76 => ?_) (fun c_76 => ?_)
      ·
        refine lv_goto (tgt := 4) hx hb d_Mo_packed_123 (by decide) ?_
        exact ih_4 (i + 1) pl F1 (n - 1) _ _ _ (by omega) ⟨by omega, by omega, by omega, by
            rw [k4]
            first
            | (rw [runsS_lit (by omega) c_9 c_26, n3, show min (P i.toNat + 1) (ct - (i + 1)) = j by omega, n1, n2]; done)
            | (rw [runsS_rep (by omega) c_9 c_76 c_84, n3, show 257 - P i.toNat = j by omega, n1]; done)
            | exact runsS_nop (by omega) c_9 c_26 (by omega), hP, hD, hS, (lv_sub hl [0, 2, 3] rfl)⟩
      ·
        refine lv_iload_n hx hb d_Mo_packed_79 rfl (lv_at hl 0 rfl) ?_
        refine lv_aload_n hx hb d_Mo_packed_80 rfl (lv_at hl 3 rfl) ?_
        refine va_get (D := D) (cl := xcl) (ci := 5) (v := .int (iI ct)) (C := R_Mo) (T := T_Mo) (N := 25) hx hb hts i_Mo hown hK hP 0 rfl rfl 21 (by decide) (hts _ kw_524) (fun _ h9 => h9) rfl d_Mo_packed_81 ?_
        refine xi_icmp_ge (tgt := 123) hx hb d_Mo_packed_84 (by decide) ⟨by omega, by omega⟩ ⟨by omega, by omega⟩ (fun c_84 => ?_) (fun c_84 => ?_)
        ·
          refine lv_goto (tgt := 4) hx hb d_Mo_packed_123 (by decide) ?_
          exact ih_4 (i + 1) pl F1 (n - 1) _ _ _ (by omega) ⟨by omega, by omega, by omega, by
            rw [k4]
            first
            | (rw [runsS_lit (by omega) c_9 c_26, n3, show min (P i.toNat + 1) (ct - (i + 1)) = j by omega, n1, n2]; done)
            | (rw [runsS_rep (by omega) c_9 c_76 c_84, n3, show 257 - P i.toNat = j by omega, n1]; done)
            | exact runsS_nop (by omega) c_9 c_26 (by omega), hP, hD, hS, (lv_sub hl [0, 2, 3] rfl)⟩
        ·
          refine xi_iconst hx hb d_Mo_packed_87 ?_
          refine lv_istore (lv' := [(4, .int (iI 0)), (2, .int (iI (i + 1))), (3, .int (iI (P i.toNat))), (1, .int (iI pl)), (0, .ref q)]) hx hb d_Mo_packed_88 hl (by decide) rfl (fun ls hl => ?_)
          refine x_loop3 (fun (j : Int) (pl2 : Int) (F2 : Nat → Int) H locs ls => (0 ≤ j ∧ j ≤ 257 - P i.toNat) ∧ (pl2 = pl + j) ∧ (F2 = fillB F1 ln pl j (P (i + 1).toNat)) ∧ va_P D xcl [(q, .inr (5, [.int (iI th), .int (iI ac), .int (iI dI), .int (iI dp), .ref sa, .int (iI bk), .int (iI rs), .int (iI nW), .int (iI nH), .int (iI mt), .int (iI op), .int (iI x), .int (iI y), .int (iI wd), .int (iI ht), .int (iI sc), .int (iI rw), .int (iI ln), .ref ea, .ref fa, .ref ca, .int (iI ct), .int (iI kr), .int (iI kb), .int (iI ov)])), (fa, .inl (cI, 640, .inl (iA F2))), (ca, .inl (cI, 4096, .inl (iA P)))] H ∧ va_D A [(q, .inr (5, [.int (iI th), .int (iI ac), .int (iI dI), .int (iI dp), .ref sa, .int (iI bk), .int (iI rs), .int (iI nW), .int (iI nH), .int (iI mt), .int (iI op), .int (iI x), .int (iI y), .int (iI wd), .int (iI ht), .int (iI sc), .int (iI rw), .int (iI ln), .ref ea, .ref fa, .ref ca, .int (iI ct), .int (iI kr), .int (iI kb), .int (iI ov)])), (fa, .inl (cI, 640, .inl (iA F2))), (ca, .inl (cI, 4096, .inl (iA P)))] ∧ va_S A s.heap H locs ∧ lv_has ls 5 [(4, .int (iI j)), (1, .int (iI pl2)), (2, .int (iI (i + 1))), (3, .int (iI (P i.toNat))), (0, .ref q)]) (fun (j : Int) (pl2 : Int) (F2 : Nat → Int) => (257 - P i.toNat - j).toNat) 0 pl F1 ⟨by omega, by omega, (fillB_0 (by omega)).symm, hP, hD, hS, (lv_sub hl [0, 3, 1, 2, 4] rfl)⟩ ?_
          intro j pl2 F2 H locs ls hI ih_90
          obtain ⟨n0, n1, n3, hP, hD, hS, hl⟩ := hI
          refine lv_iload hx hb d_Mo_packed_90 (lv_at hl 0 rfl) ?_
          refine xi_sipush hx hb d_Mo_packed_92 (by decide) ?_
          refine lv_iload_n hx hb d_Mo_packed_95 rfl (lv_at hl 3 rfl) ?_
          refine xi_isub hx hb d_Mo_packed_96 ?_
          refine xi_icmp_ge (tgt := 120) hx hb d_Mo_packed_97 (by decide) ⟨by omega, by omega⟩ ⟨by omega, by omega⟩ (fun c_97 => ?_) (fun c_97 => ?_)
          ·
            refine xi_iinc (lv' := [(2, .int (iI ((i + 1) + 1))), (4, .int (iI j)), (1, .int (iI pl2)), (3, .int (iI (P i.toNat))), (0, .ref q)]) hx hb d_Mo_packed_120 hl (k := 2) rfl (by decide) rfl (fun ls hl => ?_)
            refine lv_goto (tgt := 4) hx hb d_Mo_packed_123 (by decide) ?_
            exact ih_4 ((i + 1) + 1) pl2 F2 (n - 1) _ _ _ (by omega) ⟨by omega, by omega, by omega, by
            rw [k4]
            first
            | (rw [runsS_lit (by omega) c_9 c_26, n3, show min (P i.toNat + 1) (ct - (i + 1)) = j by omega, n1, n2]; done)
            | (rw [runsS_rep (by omega) c_9 c_76 c_84, n3, show 257 - P i.toNat = j by omega, n1]; done)
            | exact runsS_nop (by omega) c_9 c_26 (by omega), hP, hD, hS, (lv_sub hl [0, 2, 4] rfl)⟩
          ·
            refine lv_aload_n hx hb d_Mo_packed_100 rfl (lv_at hl 4 rfl) ?_
            refine lv_iload_n hx hb d_Mo_packed_101 rfl (lv_at hl 1 rfl) ?_
            refine lv_aload_n hx hb d_Mo_packed_102 rfl (lv_at hl 4 rfl) ?_
            refine va_get (D := D) (cl := xcl) (ci := 5) (v := .ref ca) (C := R_Mo) (T := T_Mo) (N := 25) hx hb hts i_Mo hown hK hP 0 rfl rfl 20 (by decide) (hts _ kw_523) (fun _ h9 => h9) rfl d_Mo_packed_103 ?_
            refine lv_iload_n hx hb d_Mo_packed_106 rfl (lv_at hl 2 rfl) ?_
            refine xi_iald hx hb hK hP 2 0 rfl rfl (by omega) (by omega) (by omega) d_Mo_packed_107 ?_
            refine x_aft (x_runV (C := "RasterRowsModel") (As := [.int (iI pl2), .int (iI (P (i + 1).toNat))]) (rest := []) (ci := 5) (q0 := 0) hx hb hml hown hts (c_Mo_put l D cI cJ cQ q th ac dI dp sa bk rs nW nH mt op x y wd ht sc rw ln ea fa ca ct kr kb ov F2 pl2 (P (i + 1).toNat) (hln) (by omega)) kw_619 kw_621 kp_10 kw_7 kw_622 ds_Mo_put (by decide) hK (hP.sub (ws' := [(q, .inr (5, [.int (iI th), .int (iI ac), .int (iI dI), .int (iI dp), .ref sa, .int (iI bk), .int (iI rs), .int (iI nW), .int (iI nH), .int (iI mt), .int (iI op), .int (iI x), .int (iI y), .int (iI wd), .int (iI ht), .int (iI sc), .int (iI rw), .int (iI ln), .ref ea, .ref fa, .ref ca, .int (iI ct), .int (iI kr), .int (iI kb), .int (iI ov)])), (fa, .inl (cI, 640, .inl (iA F2)))]) [0, 1] rfl) (hD.sub (ws' := [(q, .inr (5, [.int (iI th), .int (iI ac), .int (iI dI), .int (iI dp), .ref sa, .int (iI bk), .int (iI rs), .int (iI nW), .int (iI nH), .int (iI mt), .int (iI op), .int (iI x), .int (iI y), .int (iI wd), .int (iI ht), .int (iI sc), .int (iI rw), .int (iI ln), .ref ea, .ref fa, .ref ca, .int (iI ct), .int (iI kr), .int (iI kb), .int (iI ov)])), (fa, .inl (cI, 640, .inl (iA F2)))]) [0, 1] (by decide) rfl) rfl rfl rfl hl.1 rfl (Nat.le_of_ble_eq_true rfl) d_Mo_packed_108) hP hD hS hA [0, 1] [2] rfl (wr := [(ca, .inl (cI, 4096, .inl (iA P)))]) rfl (by decide) (by decide) (fun v w1 H locs hq hP hD hS => ?_)
            obtain ⟨B2_108, rfl, rfl, hB2_108⟩ := hq
            refine W.cs (cells' := 0) (slots' := 0) rfl rfl ?_
            refine W.eq (g2 := F0 m 111 ls []) rfl ?_
            have hP : va_P D xcl [(ca, .inl (cI, 4096, .inl (iA P))), (q, .inr (5, [.int (iI th), .int (iI ac), .int (iI dI), .int (iI dp), .ref sa, .int (iI bk), .int (iI rs), .int (iI nW), .int (iI nH), .int (iI mt), .int (iI op), .int (iI x), .int (iI y), .int (iI wd), .int (iI ht), .int (iI sc), .int (iI rw), .int (iI ln), .ref ea, .ref fa, .ref ca, .int (iI ct), .int (iI kr), .int (iI kb), .int (iI ov)])), (fa, .inl (cI, 640, .inl (iA B2_108)))] _ := hP
            have hD : va_D A [(ca, .inl (cI, 4096, .inl (iA P))), (q, .inr (5, [.int (iI th), .int (iI ac), .int (iI dI), .int (iI dp), .ref sa, .int (iI bk), .int (iI rs), .int (iI nW), .int (iI nH), .int (iI mt), .int (iI op), .int (iI x), .int (iI y), .int (iI wd), .int (iI ht), .int (iI sc), .int (iI rw), .int (iI ln), .ref ea, .ref fa, .ref ca, .int (iI ct), .int (iI kr), .int (iI kb), .int (iI ov)])), (fa, .inl (cI, 640, .inl (iA B2_108)))] := hD
            refine xi_iinc (lv' := [(1, .int (iI (pl2 + 1))), (4, .int (iI j)), (2, .int (iI (i + 1))), (3, .int (iI (P i.toNat))), (0, .ref q)]) hx hb d_Mo_packed_111 hl (k := 1) rfl (by decide) rfl (fun ls hl => ?_)
            refine xi_iinc (lv' := [(4, .int (iI (j + 1))), (1, .int (iI (pl2 + 1))), (2, .int (iI (i + 1))), (3, .int (iI (P i.toNat))), (0, .ref q)]) hx hb d_Mo_packed_114 hl (k := 1) rfl (by decide) rfl (fun ls hl => ?_)
            refine lv_goto (tgt := 90) hx hb d_Mo_packed_117 (by decide) ?_
            exact ih_90 (j + 1) (pl2 + 1) B2_108 _ _ _ (by omega) ⟨by omega, by omega, by rw [hB2_108, n3, n1]; exact fillB_put k2.1 n0.1, (hP.sub (ws' := [(q, .inr (5, [.int (iI th), .int (iI ac), .int (iI dI), .int (iI dp), .ref sa, .int (iI bk), .int (iI rs), .int (iI nW), .int (iI nH), .int (iI mt), .int (iI op), .int (iI x), .int (iI y), .int (iI wd), .int (iI ht), .int (iI sc), .int (iI rw), .int (iI ln), .ref ea, .ref fa, .ref ca, .int (iI ct), .int (iI kr), .int (iI kb), .int (iI ov)])), (fa, .inl (cI, 640, .inl (iA B2_108))), (ca, .inl (cI, 4096, .inl (iA P)))]) [1, 2, 0] rfl), (hD.sub (ws' := [(q, .inr (5, [.int (iI th), .int (iI ac), .int (iI dI), .int (iI dp), .ref sa, .int (iI bk), .int (iI rs), .int (iI nW), .int (iI nH), .int (iI mt), .int (iI op), .int (iI x), .int (iI y), .int (iI wd), .int (iI ht), .int (iI sc), .int (iI rw), .int (iI ln), .ref ea, .ref fa, .ref ca, .int (iI ct), .int (iI kr), .int (iI kb), .int (iI ov)])), (fa, .inl (cI, 640, .inl (iA B2_108))), (ca, .inl (cI, 4096, .inl (iA P)))]) [1, 2, 0] (by decide) rfl), hS, hl⟩
    ·
      refine xi_iconst hx hb d_Mo_packed_29 ?_
      refine lv_istore (lv' := [(4, .int (iI 0)), (2, .int (iI (i + 1))), (3, .int (iI (P i.toNat))), (1, .int (iI pl)), (0, .ref q)]) hx hb d_Mo_packed_30 hl (by decide) rfl (fun ls hl => ?_)
      refine x_loop4 (fun (j : Int) (pl2 : Int) (kk : Int) (F2 : Nat → Int) H locs ls => (0 ≤ j ∧ j ≤ P i.toNat + 1 ∧ i + 1 + j ≤ ct) ∧ (pl2 = pl + j) ∧ (kk = i + 1 + j) ∧ (F2 = copyB F1 P ln pl (i + 1) j) ∧ va_P D xcl [(q, .inr (5, [.int (iI th), .int (iI ac), .int (iI dI), .int (iI dp), .ref sa, .int (iI bk), .int (iI rs), .int (iI nW), .int (iI nH), .int (iI mt), .int (iI op), .int (iI x), .int (iI y), .int (iI wd), .int (iI ht), .int (iI sc), .int (iI rw), .int (iI ln), .ref ea, .ref fa, .ref ca, .int (iI ct), .int (iI kr), .int (iI kb), .int (iI ov)])), (fa, .inl (cI, 640, .inl (iA F2))), (ca, .inl (cI, 4096, .inl (iA P)))] H ∧ va_D A [(q, .inr (5, [.int (iI th), .int (iI ac), .int (iI dI), .int (iI dp), .ref sa, .int (iI bk), .int (iI rs), .int (iI nW), .int (iI nH), .int (iI mt), .int (iI op), .int (iI x), .int (iI y), .int (iI wd), .int (iI ht), .int (iI sc), .int (iI rw), .int (iI ln), .ref ea, .ref fa, .ref ca, .int (iI ct), .int (iI kr), .int (iI kb), .int (iI ov)])), (fa, .inl (cI, 640, .inl (iA F2))), (ca, .inl (cI, 4096, .inl (iA P)))] ∧ va_S A s.heap H locs ∧ lv_has ls 5 [(4, .int (iI j)), (1, .int (iI pl2)), (2, .int (iI kk)), (3, .int (iI (P i.toNat))), (0, .ref q)]) (fun (j : Int) (pl2 : Int) (kk : Int) (F2 : Nat → Int) => (ct - kk).toNat) 0 pl (i + 1) F1 ⟨by omega, by omega, by omega, (copyB_0 (by omega)).symm, hP, hD, hS, (lv_sub hl [0, 3, 1, 2, 4] rfl)⟩ ?_
      intro j pl2 kk F2 H locs ls hI ih_32
      obtain ⟨n0, n1, n2, n3, hP, hD, hS, hl⟩ := hI
      refine lv_iload hx hb d_Mo_packed_32 (lv_at hl 0 rfl) ?_
      refine lv_iload_n hx hb d_Mo_packed_34 rfl (lv_at hl 3 rfl) ?_
      refine xi_icmp_gt (tgt := 69) hx hb d_Mo_packed_35 (by decide) ⟨by omega, by omega⟩ ⟨by omega, by omega⟩ (fun c_35 => ?_) (fun c_35 => ?_)
      ·
        refine lv_goto (tgt := 123) hx hb d_Mo_packed_69 (by decide) ?_
        refine lv_goto (tgt := 4) hx hb d_Mo_packed_123 (by decide) ?_
        exact ih_4 kk pl2 F2 (n - 1) _ _ _ (by omega) ⟨by omega, by omega, by omega, by
            rw [k4]
            first
            | (rw [runsS_lit (by omega) c_9 c_26, n3, show min (P i.toNat + 1) (ct - (i + 1)) = j by omega, n1, n2]; done)
            | (rw [runsS_rep (by omega) c_9 c_76 c_84, n3, show 257 - P i.toNat = j by omega, n1]; done)
            | exact runsS_nop (by omega) c_9 c_26 (by omega), hP, hD, hS, (lv_sub hl [2, 1, 4] rfl)⟩
      ·
        refine lv_iload_n hx hb d_Mo_packed_38 rfl (lv_at hl 2 rfl) ?_
        refine lv_aload_n hx hb d_Mo_packed_39 rfl (lv_at hl 4 rfl) ?_
        refine va_get (D := D) (cl := xcl) (ci := 5) (v := .int (iI ct)) (C := R_Mo) (T := T_Mo) (N := 25) hx hb hts i_Mo hown hK hP 0 rfl rfl 21 (by decide) (hts _ kw_524) (fun _ h9 => h9) rfl d_Mo_packed_40 ?_
        refine xi_icmp_ge (tgt := 69) hx hb d_Mo_packed_43 (by decide) ⟨by omega, by omega⟩ ⟨by omega, by omega⟩ (fun c_43 => ?_) (fun c_43 => ?_)
        ·
          refine lv_goto (tgt := 123) hx hb d_Mo_packed_69 (by decide) ?_
          refine lv_goto (tgt := 4) hx hb d_Mo_packed_123 (by decide) ?_
          exact ih_4 kk pl2 F2 (n - 1) _ _ _ (by omega) ⟨by omega, by omega, by omega, by
            rw [k4]
            first
            | (rw [runsS_lit (by omega) c_9 c_26, n3, show min (P i.toNat + 1) (ct - (i + 1)) = j by omega, n1, n2]; done)
            | (rw [runsS_rep (by omega) c_9 c_76 c_84, n3, show 257 - P i.toNat = j by omega, n1]; done)
            | exact runsS_nop (by omega) c_9 c_26 (by omega), hP, hD, hS, (lv_sub hl [2, 1, 4] rfl)⟩
        ·
          refine lv_aload_n hx hb d_Mo_packed_46 rfl (lv_at hl 4 rfl) ?_
          refine lv_iload_n hx hb d_Mo_packed_47 rfl (lv_at hl 1 rfl) ?_
          refine lv_aload_n hx hb d_Mo_packed_48 rfl (lv_at hl 4 rfl) ?_
          refine va_get (D := D) (cl := xcl) (ci := 5) (v := .ref ca) (C := R_Mo) (T := T_Mo) (N := 25) hx hb hts i_Mo hown hK hP 0 rfl rfl 20 (by decide) (hts _ kw_523) (fun _ h9 => h9) rfl d_Mo_packed_49 ?_
          refine lv_iload_n hx hb d_Mo_packed_52 rfl (lv_at hl 2 rfl) ?_
          refine xi_iald hx hb hK hP 2 0 rfl rfl (by omega) (by omega) (by omega) d_Mo_packed_53 ?_
          refine x_aft (x_runV (C := "RasterRowsModel") (As := [.int (iI pl2), .int (iI (P kk.toNat))]) (rest := []) (ci := 5) (q0 := 0) hx hb hml hown hts (c_Mo_put l D cI cJ cQ q th ac dI dp sa bk rs nW nH mt op x y wd ht sc rw ln ea fa ca ct kr kb ov F2 pl2 (P kk.toNat) (hln) (by omega)) kw_619 kw_621 kp_10 kw_7 kw_622 ds_Mo_put (by decide) hK (hP.sub (ws' := [(q, .inr (5, [.int (iI th), .int (iI ac), .int (iI dI), .int (iI dp), .ref sa, .int (iI bk), .int (iI rs), .int (iI nW), .int (iI nH), .int (iI mt), .int (iI op), .int (iI x), .int (iI y), .int (iI wd), .int (iI ht), .int (iI sc), .int (iI rw), .int (iI ln), .ref ea, .ref fa, .ref ca, .int (iI ct), .int (iI kr), .int (iI kb), .int (iI ov)])), (fa, .inl (cI, 640, .inl (iA F2)))]) [0, 1] rfl) (hD.sub (ws' := [(q, .inr (5, [.int (iI th), .int (iI ac), .int (iI dI), .int (iI dp), .ref sa, .int (iI bk), .int (iI rs), .int (iI nW), .int (iI nH), .int (iI mt), .int (iI op), .int (iI x), .int (iI y), .int (iI wd), .int (iI ht), .int (iI sc), .int (iI rw), .int (iI ln), .ref ea, .ref fa, .ref ca, .int (iI ct), .int (iI kr), .int (iI kb), .int (iI ov)])), (fa, .inl (cI, 640, .inl (iA F2)))]) [0, 1] (by decide) rfl) rfl rfl rfl hl.1 rfl (Nat.le_of_ble_eq_true rfl) d_Mo_packed_54) hP hD hS hA [0, 1] [2] rfl (wr := [(ca, .inl (cI, 4096, .inl (iA P)))]) rfl (by decide) (by decide) (fun v w1 H locs hq hP hD hS => ?_)
          obtain ⟨B2_54, rfl, rfl, hB2_54⟩ := hq
          refine W.cs (cells' := 0) (slots' := 0) rfl rfl ?_
          refine W.eq (g2 := F0 m 57 ls []) rfl ?_
          have hP : va_P D xcl [(ca, .inl (cI, 4096, .inl (iA P))), (q, .inr (5, [.int (iI th), .int (iI ac), .int (iI dI), .int (iI dp), .ref sa, .int (iI bk), .int (iI rs), .int (iI nW), .int (iI nH), .int (iI mt), .int (iI op), .int (iI x), .int (iI y), .int (iI wd), .int (iI ht), .int (iI sc), .int (iI rw), .int (iI ln), .ref ea, .ref fa, .ref ca, .int (iI ct), .int (iI kr), .int (iI kb), .int (iI ov)])), (fa, .inl (cI, 640, .inl (iA B2_54)))] _ := hP
          have hD : va_D A [(ca, .inl (cI, 4096, .inl (iA P))), (q, .inr (5, [.int (iI th), .int (iI ac), .int (iI dI), .int (iI dp), .ref sa, .int (iI bk), .int (iI rs), .int (iI nW), .int (iI nH), .int (iI mt), .int (iI op), .int (iI x), .int (iI y), .int (iI wd), .int (iI ht), .int (iI sc), .int (iI rw), .int (iI ln), .ref ea, .ref fa, .ref ca, .int (iI ct), .int (iI kr), .int (iI kb), .int (iI ov)])), (fa, .inl (cI, 640, .inl (iA B2_54)))] := hD
          refine xi_iinc (lv' := [(1, .int (iI (pl2 + 1))), (4, .int (iI j)), (2, .int (iI kk)), (3, .int (iI (P i.toNat))), (0, .ref q)]) hx hb d_Mo_packed_57 hl (k := 1) rfl (by decide) rfl (fun ls hl => ?_)
          refine xi_iinc (lv' := [(2, .int (iI (kk + 1))), (1, .int (iI (pl2 + 1))), (4, .int (iI j)), (3, .int (iI (P i.toNat))), (0, .ref q)]) hx hb d_Mo_packed_60 hl (k := 2) rfl (by decide) rfl (fun ls hl => ?_)
          refine xi_iinc (lv' := [(4, .int (iI (j + 1))), (2, .int (iI (kk + 1))), (1, .int (iI (pl2 + 1))), (3, .int (iI (P i.toNat))), (0, .ref q)]) hx hb d_Mo_packed_63 hl (k := 2) rfl (by decide) rfl (fun ls hl => ?_)
          refine lv_goto (tgt := 32) hx hb d_Mo_packed_66 (by decide) ?_
          exact ih_32 (j + 1) (pl2 + 1) (kk + 1) B2_54 _ _ _ (by omega) ⟨by omega, by omega, by omega, by rw [hB2_54, n3, n1, n2]; exact copyB_step k2.1 n0.1, (hP.sub (ws' := [(q, .inr (5, [.int (iI th), .int (iI ac), .int (iI dI), .int (iI dp), .ref sa, .int (iI bk), .int (iI rs), .int (iI nW), .int (iI nH), .int (iI mt), .int (iI op), .int (iI x), .int (iI y), .int (iI wd), .int (iI ht), .int (iI sc), .int (iI rw), .int (iI ln), .ref ea, .ref fa, .ref ca, .int (iI ct), .int (iI kr), .int (iI kb), .int (iI ov)])), (fa, .inl (cI, 640, .inl (iA B2_54))), (ca, .inl (cI, 4096, .inl (iA P)))]) [1, 2, 0] rfl), (hD.sub (ws' := [(q, .inr (5, [.int (iI th), .int (iI ac), .int (iI dI), .int (iI dp), .ref sa, .int (iI bk), .int (iI rs), .int (iI nW), .int (iI nH), .int (iI mt), .int (iI op), .int (iI x), .int (iI y), .int (iI wd), .int (iI ht), .int (iI sc), .int (iI rw), .int (iI ln), .ref ea, .ref fa, .ref ca, .int (iI ct), .int (iI kr), .int (iI kb), .int (iI ov)])), (fa, .inl (cI, 640, .inl (iA B2_54))), (ca, .inl (cI, 4096, .inl (iA P)))]) [1, 2, 0] (by decide) rfl), hS, (lv_sub hl [0, 2, 1, 3, 4] rfl)⟩

theorem d_Mo_changes_0 : decode b_Mo_changes 0 = .ok (.iconst 0, 1) := by decide +kernel
theorem d_Mo_changes_1 : decode b_Mo_changes 1 = .ok (.istore_n 1, 1) := by decide +kernel
theorem d_Mo_changes_2 : decode b_Mo_changes 2 = .ok (.iconst 0, 1) := by decide +kernel
theorem d_Mo_changes_3 : decode b_Mo_changes 3 = .ok (.istore_n 2, 1) := by decide +kernel
theorem d_Mo_changes_4 : decode b_Mo_changes 4 = .ok (.iload_n 2, 1) := by decide +kernel
theorem d_Mo_changes_5 : decode b_Mo_changes 5 = .ok (.aload_n 0, 1) := by decide +kernel
theorem d_Mo_changes_6 : decode b_Mo_changes 6 = .ok (.getfield 80, 3) := by decide +kernel
theorem d_Mo_changes_9 : decode b_Mo_changes 9 = .ok (.if_icmp .ge 133, 3) := by decide +kernel
theorem d_Mo_changes_12 : decode b_Mo_changes 12 = .ok (.aload_n 0, 1) := by decide +kernel
theorem d_Mo_changes_13 : decode b_Mo_changes 13 = .ok (.getfield 20, 3) := by decide +kernel
theorem d_Mo_changes_16 : decode b_Mo_changes 16 = .ok (.iload_n 2, 1) := by decide +kernel
theorem d_Mo_changes_17 : decode b_Mo_changes 17 = .ok (.iaload, 1) := by decide +kernel
theorem d_Mo_changes_18 : decode b_Mo_changes 18 = .ok (.istore_n 3, 1) := by decide +kernel
theorem d_Mo_changes_19 : decode b_Mo_changes 19 = .ok (.iinc 2 1, 3) := by decide +kernel
theorem d_Mo_changes_22 : decode b_Mo_changes 22 = .ok (.iload_n 3, 1) := by decide +kernel
theorem d_Mo_changes_23 : decode b_Mo_changes 23 = .ok (.bipush 32, 2) := by decide +kernel
theorem d_Mo_changes_25 : decode b_Mo_changes 25 = .ok (.irem, 1) := by decide +kernel
theorem d_Mo_changes_26 : decode b_Mo_changes 26 = .ok (.istore 4, 2) := by decide +kernel
theorem d_Mo_changes_28 : decode b_Mo_changes 28 = .ok (.iload 4, 2) := by decide +kernel
theorem d_Mo_changes_30 : decode b_Mo_changes 30 = .ok (.bipush 31, 2) := by decide +kernel
theorem d_Mo_changes_32 : decode b_Mo_changes 32 = .ok (.if_icmp .ne 7, 3) := by decide +kernel
theorem d_Mo_changes_35 : decode b_Mo_changes 35 = .ok (.iconst 1, 1) := by decide +kernel
theorem d_Mo_changes_36 : decode b_Mo_changes 36 = .ok (.goto 4, 3) := by decide +kernel
theorem d_Mo_changes_39 : decode b_Mo_changes 39 = .ok (.iconst 0, 1) := by decide +kernel
theorem d_Mo_changes_40 : decode b_Mo_changes 40 = .ok (.istore 5, 2) := by decide +kernel
theorem d_Mo_changes_42 : decode b_Mo_changes 42 = .ok (.iload 5, 2) := by decide +kernel
theorem d_Mo_changes_44 : decode b_Mo_changes 44 = .ok (.ifCond .eq 47, 3) := by decide +kernel
theorem d_Mo_changes_47 : decode b_Mo_changes 47 = .ok (.iload_n 2, 1) := by decide +kernel
theorem d_Mo_changes_48 : decode b_Mo_changes 48 = .ok (.aload_n 0, 1) := by decide +kernel
theorem d_Mo_changes_49 : decode b_Mo_changes 49 = .ok (.getfield 80, 3) := by decide +kernel
theorem d_Mo_changes_52 : decode b_Mo_changes 52 = .ok (.if_icmp .ge 39, 3) := by decide +kernel
theorem d_Mo_changes_55 : decode b_Mo_changes 55 = .ok (.iload 4, 2) := by decide +kernel
theorem d_Mo_changes_57 : decode b_Mo_changes 57 = .ok (.aload_n 0, 1) := by decide +kernel
theorem d_Mo_changes_58 : decode b_Mo_changes 58 = .ok (.getfield 20, 3) := by decide +kernel
theorem d_Mo_changes_61 : decode b_Mo_changes 61 = .ok (.iload_n 2, 1) := by decide +kernel
theorem d_Mo_changes_62 : decode b_Mo_changes 62 = .ok (.iaload, 1) := by decide +kernel
theorem d_Mo_changes_63 : decode b_Mo_changes 63 = .ok (.iadd, 1) := by decide +kernel
theorem d_Mo_changes_64 : decode b_Mo_changes 64 = .ok (.istore 4, 2) := by decide +kernel
theorem d_Mo_changes_66 : decode b_Mo_changes 66 = .ok (.aload_n 0, 1) := by decide +kernel
theorem d_Mo_changes_67 : decode b_Mo_changes 67 = .ok (.getfield 20, 3) := by decide +kernel
theorem d_Mo_changes_70 : decode b_Mo_changes 70 = .ok (.iload_n 2, 1) := by decide +kernel
theorem d_Mo_changes_71 : decode b_Mo_changes 71 = .ok (.iaload, 1) := by decide +kernel
theorem d_Mo_changes_72 : decode b_Mo_changes 72 = .ok (.sipush 255, 3) := by decide +kernel
theorem d_Mo_changes_75 : decode b_Mo_changes 75 = .ok (.if_icmp .ne 7, 3) := by decide +kernel
theorem d_Mo_changes_78 : decode b_Mo_changes 78 = .ok (.iconst 1, 1) := by decide +kernel
theorem d_Mo_changes_79 : decode b_Mo_changes 79 = .ok (.goto 4, 3) := by decide +kernel
theorem d_Mo_changes_82 : decode b_Mo_changes 82 = .ok (.iconst 0, 1) := by decide +kernel
theorem d_Mo_changes_83 : decode b_Mo_changes 83 = .ok (.istore 5, 2) := by decide +kernel
theorem d_Mo_changes_85 : decode b_Mo_changes 85 = .ok (.iinc 2 1, 3) := by decide +kernel
theorem d_Mo_changes_88 : decode b_Mo_changes 88 = .ok (.goto (-46), 3) := by decide +kernel
theorem d_Mo_changes_91 : decode b_Mo_changes 91 = .ok (.iload_n 1, 1) := by decide +kernel
theorem d_Mo_changes_92 : decode b_Mo_changes 92 = .ok (.iload 4, 2) := by decide +kernel
theorem d_Mo_changes_94 : decode b_Mo_changes 94 = .ok (.iadd, 1) := by decide +kernel
theorem d_Mo_changes_95 : decode b_Mo_changes 95 = .ok (.istore_n 1, 1) := by decide +kernel
theorem d_Mo_changes_96 : decode b_Mo_changes 96 = .ok (.iconst 0, 1) := by decide +kernel
theorem d_Mo_changes_97 : decode b_Mo_changes 97 = .ok (.istore 6, 2) := by decide +kernel
theorem d_Mo_changes_99 : decode b_Mo_changes 99 = .ok (.iload 6, 2) := by decide +kernel
theorem d_Mo_changes_101 : decode b_Mo_changes 101 = .ok (.iload_n 3, 1) := by decide +kernel
theorem d_Mo_changes_102 : decode b_Mo_changes 102 = .ok (.bipush 32, 2) := by decide +kernel
theorem d_Mo_changes_104 : decode b_Mo_changes 104 = .ok (.idiv, 1) := by decide +kernel
theorem d_Mo_changes_105 : decode b_Mo_changes 105 = .ok (.if_icmp .gt 34, 3) := by decide +kernel
theorem d_Mo_changes_108 : decode b_Mo_changes 108 = .ok (.iload_n 2, 1) := by decide +kernel
theorem d_Mo_changes_109 : decode b_Mo_changes 109 = .ok (.aload_n 0, 1) := by decide +kernel
theorem d_Mo_changes_110 : decode b_Mo_changes 110 = .ok (.getfield 80, 3) := by decide +kernel
theorem d_Mo_changes_113 : decode b_Mo_changes 113 = .ok (.if_icmp .ge 26, 3) := by decide +kernel
theorem d_Mo_changes_116 : decode b_Mo_changes 116 = .ok (.aload_n 0, 1) := by decide +kernel
theorem d_Mo_changes_117 : decode b_Mo_changes 117 = .ok (.iload_n 1, 1) := by decide +kernel
theorem d_Mo_changes_118 : decode b_Mo_changes 118 = .ok (.aload_n 0, 1) := by decide +kernel
theorem d_Mo_changes_119 : decode b_Mo_changes 119 = .ok (.getfield 20, 3) := by decide +kernel
theorem d_Mo_changes_122 : decode b_Mo_changes 122 = .ok (.iload_n 2, 1) := by decide +kernel
theorem d_Mo_changes_123 : decode b_Mo_changes 123 = .ok (.iaload, 1) := by decide +kernel
theorem d_Mo_changes_124 : decode b_Mo_changes 124 = .ok (.invokevirtual 85, 3) := by decide +kernel
theorem d_Mo_changes_127 : decode b_Mo_changes 127 = .ok (.iinc 1 1, 3) := by decide +kernel
theorem d_Mo_changes_130 : decode b_Mo_changes 130 = .ok (.iinc 2 1, 3) := by decide +kernel
theorem d_Mo_changes_133 : decode b_Mo_changes 133 = .ok (.iinc 6 1, 3) := by decide +kernel
theorem d_Mo_changes_136 : decode b_Mo_changes 136 = .ok (.goto (-37), 3) := by decide +kernel
theorem d_Mo_changes_139 : decode b_Mo_changes 139 = .ok (.goto (-135), 3) := by decide +kernel
theorem d_Mo_changes_142 : decode b_Mo_changes 142 = .ok (.return_, 1) := by decide +kernel
theorem ds_Mo_changes : xDesc y_Mo_changes 0 := by decide +kernel

abbrev rm_Mo_changes : Room := { frames := 1, cells := 0, slots := 0, locals := 22 }
set_option maxHeartbeats 4000000 in
set_option maxRecDepth 100000 in
/-- Model.changes -/
theorem c_Mo_changes (l : Launch) (D : va_G) (cI cJ cQ : ClassId) (q : Nat) (th : Int) (ac : Int) (dI : Int) (dp : Int) (sa : Nat) (bk : Int) (rs : Int) (nW : Int) (nH : Int) (mt : Int) (op : Int) (x : Int) (y : Int) (wd : Int) (ht : Int) (sc : Int) (rw : Int) (ln : Int) (ea : Nat) (fa : Nat) (ca : Nat) (ct : Int) (kr : Int) (kb : Int) (ov : Int) (Fr : Nat → Int) (P : Nat → Int) (hct : 0 ≤ ct ∧ ct ≤ 4096) (hPb : ∀ j : Nat, 0 ≤ P j ∧ P j < 256) (hln : 0 ≤ ln ∧ ln ≤ 640) : xMet l D (xT cI cJ cQ) y_Mo_changes b_Mo_changes 7 none rm_Mo_changes [.ref q] [(q, .inr (5, [.int (iI th), .int (iI ac), .int (iI dI), .int (iI dp), .ref sa, .int (iI bk), .int (iI rs), .int (iI nW), .int (iI nH), .int (iI mt), .int (iI op), .int (iI x), .int (iI y), .int (iI wd), .int (iI ht), .int (iI sc), .int (iI rw), .int (iI ln), .ref ea, .ref fa, .ref ca, .int (iI ct), .int (iI kr), .int (iI kb), .int (iI ov)])), (fa, .inl (cI, 640, .inl (iA Fr))), (ca, .inl (cI, 4096, .inl (iA P)))] (fun v ws => ∃ (B2 : Nat → Int), v = none ∧ ws = [(q, .inr (5, [.int (iI th), .int (iI ac), .int (iI dI), .int (iI dp), .ref sa, .int (iI bk), .int (iI rs), .int (iI nW), .int (iI nH), .int (iI mt), .int (iI op), .int (iI x), .int (iI y), .int (iI wd), .int (iI ht), .int (iI sc), .int (iI rw), .int (iI ln), .ref ea, .ref fa, .ref ca, .int (iI ct), .int (iI kr), .int (iI kb), .int (iI ov)])), (fa, .inl (cI, 640, .inl (iA B2))), (ca, .inl (cI, 4096, .inl (iA P)))] ∧ (B2 = chS P ct ln 5000 0 0 Fr)) := by
  refine x_met (by decide) (Nat.le_of_ble_eq_true rfl) ?_
  intro p e s m below meth c hx hb hr hml hts hown hlocks hin hF0 A hA hP hD hK ls hl hS
  have hl : lv_has ls 7 [(0, .ref q)] := hl
  refine xi_iconst hx hb d_Mo_changes_0 ?_
  refine lv_istore_n (lv' := [(1, .int (iI 0)), (0, .ref q)]) hx hb d_Mo_changes_1 rfl hl (by decide) rfl (fun ls hl => ?_)
  refine xi_iconst hx hb d_Mo_changes_2 ?_
  refine lv_istore_n (lv' := [(2, .int (iI 0)), (1, .int (iI 0)), (0, .ref q)]) hx hb d_Mo_changes_3 rfl hl (by decide) rfl (fun ls hl => ?_)
  refine x_loop4 (fun (i : Int) (pl : Int) (F1 : Nat → Int) (n : Nat) H locs ls => (0 ≤ i ∧ i ≤ ct) ∧ (0 ≤ pl ∧ pl ≤ 256 * i) ∧ (ct - i + 1 < (n : Int)) ∧ (chS P ct ln 5000 0 0 Fr = chS P ct ln n i pl F1) ∧ va_P D xcl [(q, .inr (5, [.int (iI th), .int (iI ac), .int (iI dI), .int (iI dp), .ref sa, .int (iI bk), .int (iI rs), .int (iI nW), .int (iI nH), .int (iI mt), .int (iI op), .int (iI x), .int (iI y), .int (iI wd), .int (iI ht), .int (iI sc), .int (iI rw), .int (iI ln), .ref ea, .ref fa, .ref ca, .int (iI ct), .int (iI kr), .int (iI kb), .int (iI ov)])), (fa, .inl (cI, 640, .inl (iA F1))), (ca, .inl (cI, 4096, .inl (iA P)))] H ∧ va_D A [(q, .inr (5, [.int (iI th), .int (iI ac), .int (iI dI), .int (iI dp), .ref sa, .int (iI bk), .int (iI rs), .int (iI nW), .int (iI nH), .int (iI mt), .int (iI op), .int (iI x), .int (iI y), .int (iI wd), .int (iI ht), .int (iI sc), .int (iI rw), .int (iI ln), .ref ea, .ref fa, .ref ca, .int (iI ct), .int (iI kr), .int (iI kb), .int (iI ov)])), (fa, .inl (cI, 640, .inl (iA F1))), (ca, .inl (cI, 4096, .inl (iA P)))] ∧ va_S A s.heap H locs ∧ lv_has ls 7 [(2, .int (iI i)), (1, .int (iI pl)), (0, .ref q)]) (fun (i : Int) (pl : Int) (F1 : Nat → Int) (n : Nat) => n) 0 0 Fr 5000 ⟨by omega, by omega, by omega, rfl, hP, hD, hS, hl⟩ ?_
  intro i pl F1 n H locs ls hI ih_4
  obtain ⟨k1, k2, k3, k4, hP, hD, hS, hl⟩ := hI
  refine lv_iload_n hx hb d_Mo_changes_4 rfl (lv_at hl 0 rfl) ?_
  refine lv_aload_n hx hb d_Mo_changes_5 rfl (lv_at hl 2 rfl) ?_
  refine va_get (D := D) (cl := xcl) (ci := 5) (v := .int (iI ct)) (C := R_Mo) (T := T_Mo) (N := 25) hx hb hts i_Mo hown hK hP 0 rfl rfl 21 (by decide) (hts _ kw_524) (fun _ h9 => h9) rfl d_Mo_changes_6 ?_
  refine xi_icmp_ge (tgt := 142) hx hb d_Mo_changes_9 (by decide) ⟨by omega, by omega⟩ ⟨by omega, by omega⟩ (fun c_9 => ?_) (fun c_9 => ?_)
  ·
    exact x_vret hx hb hr hlocks hP hD hS (by decide) (by decide) ⟨F1, rfl, rfl, by rw [k4, chS_end (by omega)]⟩ d_Mo_changes_142
  ·
    have b17 := hPb i.toNat
    refine lv_aload_n hx hb d_Mo_changes_12 rfl (lv_at hl 2 rfl) ?_
    refine va_get (D := D) (cl := xcl) (ci := 5) (v := .ref ca) (C := R_Mo) (T := T_Mo) (N := 25) hx hb hts i_Mo hown hK hP 0 rfl rfl 20 (by decide) (hts _ kw_523) (fun _ h9 => h9) rfl d_Mo_changes_13 ?_
    refine lv_iload_n hx hb d_Mo_changes_16 rfl (lv_at hl 0 rfl) ?_
    refine xi_iald hx hb hK hP 2 0 rfl rfl (by omega) (by omega) (by omega) d_Mo_changes_17 ?_
    refine lv_istore_n (lv' := [(3, .int (iI (P i.toNat))), (2, .int (iI i)), (1, .int (iI pl)), (0, .ref q)]) hx hb d_Mo_changes_18 rfl hl (by decide) rfl (fun ls hl => ?_)
    refine xi_iinc (lv' := [(2, .int (iI (i + 1))), (3, .int (iI (P i.toNat))), (1, .int (iI pl)), (0, .ref q)]) hx hb d_Mo_changes_19 hl (k := 1) rfl (by decide) rfl (fun ls hl => ?_)
    refine lv_iload_n hx hb d_Mo_changes_22 rfl (lv_at hl 1 rfl) ?_
    refine xi_bipush hx hb d_Mo_changes_23 (by decide) ?_
    refine xi_irem hx hb d_Mo_changes_25 ⟨by omega, by omega⟩ ⟨by omega, by omega⟩ ?_
    refine lv_istore (lv' := [(4, .int (iI ((P i.toNat) % 32))), (2, .int (iI (i + 1))), (3, .int (iI (P i.toNat))), (1, .int (iI pl)), (0, .ref q)]) hx hb d_Mo_changes_26 hl (by decide) rfl (fun ls hl => ?_)
    refine x_cut1 40 (cJ := 0) (sJ := 0) (fun (mo : Int) => [.int (iI mo)]) (fun (mo : Int) H locs ls => (mo = if P i.toNat % 32 = 31 then 1 else 0) ∧ va_P D xcl [(q, .inr (5, [.int (iI th), .int (iI ac), .int (iI dI), .int (iI dp), .ref sa, .int (iI bk), .int (iI rs), .int (iI nW), .int (iI nH), .int (iI mt), .int (iI op), .int (iI x), .int (iI y), .int (iI wd), .int (iI ht), .int (iI sc), .int (iI rw), .int (iI ln), .ref ea, .ref fa, .ref ca, .int (iI ct), .int (iI kr), .int (iI kb), .int (iI ov)])), (fa, .inl (cI, 640, .inl (iA F1))), (ca, .inl (cI, 4096, .inl (iA P)))] H ∧ va_D A [(q, .inr (5, [.int (iI th), .int (iI ac), .int (iI dI), .int (iI dp), .ref sa, .int (iI bk), .int (iI rs), .int (iI nW), .int (iI nH), .int (iI mt), .int (iI op), .int (iI x), .int (iI y), .int (iI wd), .int (iI ht), .int (iI sc), .int (iI rw), .int (iI ln), .ref ea, .ref fa, .ref ca, .int (iI ct), .int (iI kr), .int (iI kb), .int (iI ov)])), (fa, .inl (cI, 640, .inl (iA F1))), (ca, .inl (cI, 4096, .inl (iA P)))] ∧ va_S A s.heap H locs ∧ lv_has ls 7 [(4, .int (iI ((P i.toNat) % 32))), (2, .int (iI (i + 1))), (3, .int (iI (P i.toNat))), (1, .int (iI pl)), (0, .ref q)]) ?_ ?_
    ·
      intro mo H locs ls hI
      obtain ⟨m1, hP, hD, hS, hl⟩ := hI
      refine lv_istore (lv' := [(5, .int (iI mo)), (4, .int (iI ((P i.toNat) % 32))), (2, .int (iI (i + 1))), (3, .int (iI (P i.toNat))), (1, .int (iI pl)), (0, .ref q)]) hx hb d_Mo_changes_40 hl (by decide) rfl (fun ls hl => ?_)
      refine x_cut2 91 (cJ := 0) (sJ := 0) (fun (kj : Int) (off : Int) => []) (fun (kj : Int) (off : Int) H locs ls => (offC P ct i pl = (kj, pl + off)) ∧ (i + 1 ≤ kj ∧ kj ≤ ct) ∧ (0 ≤ off ∧ pl + off ≤ 256 * kj) ∧ va_P D xcl [(q, .inr (5, [.int (iI th), .int (iI ac), .int (iI dI), .int (iI dp), .ref sa, .int (iI bk), .int (iI rs), .int (iI nW), .int (iI nH), .int (iI mt), .int (iI op), .int (iI x), .int (iI y), .int (iI wd), .int (iI ht), .int (iI sc), .int (iI rw), .int (iI ln), .ref ea, .ref fa, .ref ca, .int (iI ct), .int (iI kr), .int (iI kb), .int (iI ov)])), (fa, .inl (cI, 640, .inl (iA F1))), (ca, .inl (cI, 4096, .inl (iA P)))] H ∧ va_D A [(q, .inr (5, [.int (iI th), .int (iI ac), .int (iI dI), .int (iI dp), .ref sa, .int (iI bk), .int (iI rs), .int (iI nW), .int (iI nH), .int (iI mt), .int (iI op), .int (iI x), .int (iI y), .int (iI wd), .int (iI ht), .int (iI sc), .int (iI rw), .int (iI ln), .ref ea, .ref fa, .ref ca, .int (iI ct), .int (iI kr), .int (iI kb), .int (iI ov)])), (fa, .inl (cI, 640, .inl (iA F1))), (ca, .inl (cI, 4096, .inl (iA P)))] ∧ va_S A s.heap H locs ∧ lv_has ls 7 [(2, .int (iI kj)), (4, .int (iI off)), (3, .int (iI (P i.toNat))), (1, .int (iI pl)), (0, .ref q)]) ?_ ?_
      ·
        intro kj off H locs ls hI
        obtain ⟨o1, o2, o3, hP, hD, hS, hl⟩ := hI
        refine lv_iload_n hx hb d_Mo_changes_91 rfl (lv_at hl 3 rfl) ?_
        refine lv_iload hx hb d_Mo_changes_92 (lv_at hl 1 rfl) ?_
        refine xi_iadd hx hb d_Mo_changes_94 ?_
        refine lv_istore_n (lv' := [(1, .int (iI (pl + off))), (2, .int (iI kj)), (4, .int (iI off)), (3, .int (iI (P i.toNat))), (0, .ref q)]) hx hb d_Mo_changes_95 rfl hl (by decide) rfl (fun ls hl => ?_)
        refine xi_iconst hx hb d_Mo_changes_96 ?_
        refine lv_istore (lv' := [(6, .int (iI 0)), (1, .int (iI (pl + off))), (2, .int (iI kj)), (4, .int (iI off)), (3, .int (iI (P i.toNat))), (0, .ref q)]) hx hb d_Mo_changes_97 hl (by decide) rfl (fun ls hl => ?_)
        refine x_loop4 (fun (j : Int) (pl2 : Int) (kk : Int) (F2 : Nat → Int) H locs ls => (0 ≤ j ∧ j ≤ P i.toNat / 32 + 1 ∧ kj + j ≤ ct) ∧ (pl2 = pl + off + j) ∧ (kk = kj + j) ∧ (F2 = copyB F1 P ln (pl + off) kj j) ∧ va_P D xcl [(q, .inr (5, [.int (iI th), .int (iI ac), .int (iI dI), .int (iI dp), .ref sa, .int (iI bk), .int (iI rs), .int (iI nW), .int (iI nH), .int (iI mt), .int (iI op), .int (iI x), .int (iI y), .int (iI wd), .int (iI ht), .int (iI sc), .int (iI rw), .int (iI ln), .ref ea, .ref fa, .ref ca, .int (iI ct), .int (iI kr), .int (iI kb), .int (iI ov)])), (fa, .inl (cI, 640, .inl (iA F2))), (ca, .inl (cI, 4096, .inl (iA P)))] H ∧ va_D A [(q, .inr (5, [.int (iI th), .int (iI ac), .int (iI dI), .int (iI dp), .ref sa, .int (iI bk), .int (iI rs), .int (iI nW), .int (iI nH), .int (iI mt), .int (iI op), .int (iI x), .int (iI y), .int (iI wd), .int (iI ht), .int (iI sc), .int (iI rw), .int (iI ln), .ref ea, .ref fa, .ref ca, .int (iI ct), .int (iI kr), .int (iI kb), .int (iI ov)])), (fa, .inl (cI, 640, .inl (iA F2))), (ca, .inl (cI, 4096, .inl (iA P)))] ∧ va_S A s.heap H locs ∧ lv_has ls 7 [(6, .int (iI j)), (1, .int (iI pl2)), (2, .int (iI kk)), (3, .int (iI (P i.toNat))), (0, .ref q)]) (fun (j : Int) (pl2 : Int) (kk : Int) (F2 : Nat → Int) => (ct - kk).toNat) 0 (pl + off) kj F1 ⟨by omega, by omega, by omega, (copyB_0 (by omega)).symm, hP, hD, hS, (lv_sub hl [0, 1, 2, 4, 5] rfl)⟩ ?_
        intro j pl2 kk F2 H locs ls hI ih_99
        obtain ⟨n0, n1, n2, n3, hP, hD, hS, hl⟩ := hI
        refine lv_iload hx hb d_Mo_changes_99 (lv_at hl 0 rfl) ?_
        refine lv_iload_n hx hb d_Mo_changes_101 rfl (lv_at hl 3 rfl) ?_
        refine xi_bipush hx hb d_Mo_changes_102 (by decide) ?_
        refine xi_idiv hx hb d_Mo_changes_104 ⟨by omega, by omega⟩ ⟨by omega, by omega⟩ ?_
        refine xi_icmp_gt (tgt := 139) hx hb d_Mo_changes_105 (by decide) ⟨by omega, by omega⟩ ⟨by omega, by omega⟩ (fun c_105 => ?_) (fun c_105 => ?_)
        ·
          refine lv_goto (tgt := 4) hx hb d_Mo_changes_139 (by decide) ?_
          exact ih_4 kk pl2 F2 (n - 1) _ _ _ (by omega) ⟨by omega, by omega, by omega, by rw [k4, chS_go (by omega) c_9 o1, n3, show min (P i.toNat / 32 + 1) (ct - kj) = j by omega, n1, n2], hP, hD, hS, (lv_sub hl [2, 1, 4] rfl)⟩
        ·
          refine lv_iload_n hx hb d_Mo_changes_108 rfl (lv_at hl 2 rfl) ?_
          refine lv_aload_n hx hb d_Mo_changes_109 rfl (lv_at hl 4 rfl) ?_
          refine va_get (D := D) (cl := xcl) (ci := 5) (v := .int (iI ct)) (C := R_Mo) (T := T_Mo) (N := 25) hx hb hts i_Mo hown hK hP 0 rfl rfl 21 (by decide) (hts _ kw_524) (fun _ h9 => h9) rfl d_Mo_changes_110 ?_
          refine xi_icmp_ge (tgt := 139) hx hb d_Mo_changes_113 (by decide) ⟨by omega, by omega⟩ ⟨by omega, by omega⟩ (fun c_113 => ?_) (fun c_113 => ?_)
          ·
            refine lv_goto (tgt := 4) hx hb d_Mo_changes_139 (by decide) ?_
            exact ih_4 kk pl2 F2 (n - 1) _ _ _ (by omega) ⟨by omega, by omega, by omega, by rw [k4, chS_go (by omega) c_9 o1, n3, show min (P i.toNat / 32 + 1) (ct - kj) = j by omega, n1, n2], hP, hD, hS, (lv_sub hl [2, 1, 4] rfl)⟩
          ·
            refine lv_aload_n hx hb d_Mo_changes_116 rfl (lv_at hl 4 rfl) ?_
            refine lv_iload_n hx hb d_Mo_changes_117 rfl (lv_at hl 1 rfl) ?_
            refine lv_aload_n hx hb d_Mo_changes_118 rfl (lv_at hl 4 rfl) ?_
            refine va_get (D := D) (cl := xcl) (ci := 5) (v := .ref ca) (C := R_Mo) (T := T_Mo) (N := 25) hx hb hts i_Mo hown hK hP 0 rfl rfl 20 (by decide) (hts _ kw_523) (fun _ h9 => h9) rfl d_Mo_changes_119 ?_
            refine lv_iload_n hx hb d_Mo_changes_122 rfl (lv_at hl 2 rfl) ?_
            refine xi_iald hx hb hK hP 2 0 rfl rfl (by omega) (by omega) (by omega) d_Mo_changes_123 ?_
            refine x_aft (x_runV (C := "RasterRowsModel") (As := [.int (iI pl2), .int (iI (P kk.toNat))]) (rest := []) (ci := 5) (q0 := 0) hx hb hml hown hts (c_Mo_put l D cI cJ cQ q th ac dI dp sa bk rs nW nH mt op x y wd ht sc rw ln ea fa ca ct kr kb ov F2 pl2 (P kk.toNat) (hln) (by omega)) kw_619 kw_621 kp_10 kw_7 kw_622 ds_Mo_put (by decide) hK (hP.sub (ws' := [(q, .inr (5, [.int (iI th), .int (iI ac), .int (iI dI), .int (iI dp), .ref sa, .int (iI bk), .int (iI rs), .int (iI nW), .int (iI nH), .int (iI mt), .int (iI op), .int (iI x), .int (iI y), .int (iI wd), .int (iI ht), .int (iI sc), .int (iI rw), .int (iI ln), .ref ea, .ref fa, .ref ca, .int (iI ct), .int (iI kr), .int (iI kb), .int (iI ov)])), (fa, .inl (cI, 640, .inl (iA F2)))]) [0, 1] rfl) (hD.sub (ws' := [(q, .inr (5, [.int (iI th), .int (iI ac), .int (iI dI), .int (iI dp), .ref sa, .int (iI bk), .int (iI rs), .int (iI nW), .int (iI nH), .int (iI mt), .int (iI op), .int (iI x), .int (iI y), .int (iI wd), .int (iI ht), .int (iI sc), .int (iI rw), .int (iI ln), .ref ea, .ref fa, .ref ca, .int (iI ct), .int (iI kr), .int (iI kb), .int (iI ov)])), (fa, .inl (cI, 640, .inl (iA F2)))]) [0, 1] (by decide) rfl) rfl rfl rfl hl.1 rfl (Nat.le_of_ble_eq_true rfl) d_Mo_changes_124) hP hD hS hA [0, 1] [2] rfl (wr := [(ca, .inl (cI, 4096, .inl (iA P)))]) rfl (by decide) (by decide) (fun v w1 H locs hq hP hD hS => ?_)
            obtain ⟨B2_124, rfl, rfl, hB2_124⟩ := hq
            refine W.cs (cells' := 0) (slots' := 0) rfl rfl ?_
            refine W.eq (g2 := F0 m 127 ls []) rfl ?_
            have hP : va_P D xcl [(ca, .inl (cI, 4096, .inl (iA P))), (q, .inr (5, [.int (iI th), .int (iI ac), .int (iI dI), .int (iI dp), .ref sa, .int (iI bk), .int (iI rs), .int (iI nW), .int (iI nH), .int (iI mt), .int (iI op), .int (iI x), .int (iI y), .int (iI wd), .int (iI ht), .int (iI sc), .int (iI rw), .int (iI ln), .ref ea, .ref fa, .ref ca, .int (iI ct), .int (iI kr), .int (iI kb), .int (iI ov)])), (fa, .inl (cI, 640, .inl (iA B2_124)))] _ := hP
            have hD : va_D A [(ca, .inl (cI, 4096, .inl (iA P))), (q, .inr (5, [.int (iI th), .int (iI ac), .int (iI dI), .int (iI dp), .ref sa, .int (iI bk), .int (iI rs), .int (iI nW), .int (iI nH), .int (iI mt), .int (iI op), .int (iI x), .int (iI y), .int (iI wd), .int (iI ht), .int (iI sc), .int (iI rw), .int (iI ln), .ref ea, .ref fa, .ref ca, .int (iI ct), .int (iI kr), .int (iI kb), .int (iI ov)])), (fa, .inl (cI, 640, .inl (iA B2_124)))] := hD
            refine xi_iinc (lv' := [(1, .int (iI (pl2 + 1))), (6, .int (iI j)), (2, .int (iI kk)), (3, .int (iI (P i.toNat))), (0, .ref q)]) hx hb d_Mo_changes_127 hl (k := 1) rfl (by decide) rfl (fun ls hl => ?_)
            refine xi_iinc (lv' := [(2, .int (iI (kk + 1))), (1, .int (iI (pl2 + 1))), (6, .int (iI j)), (3, .int (iI (P i.toNat))), (0, .ref q)]) hx hb d_Mo_changes_130 hl (k := 2) rfl (by decide) rfl (fun ls hl => ?_)
            refine xi_iinc (lv' := [(6, .int (iI (j + 1))), (2, .int (iI (kk + 1))), (1, .int (iI (pl2 + 1))), (3, .int (iI (P i.toNat))), (0, .ref q)]) hx hb d_Mo_changes_133 hl (k := 2) rfl (by decide) rfl (fun ls hl => ?_)
            refine lv_goto (tgt := 99) hx hb d_Mo_changes_136 (by decide) ?_
            exact ih_99 (j + 1) (pl2 + 1) (kk + 1) B2_124 _ _ _ (by omega) ⟨by omega, by omega, by omega, by rw [hB2_124, n3, n1, n2]; exact copyB_step (by omega) n0.1, (hP.sub (ws' := [(q, .inr (5, [.int (iI th), .int (iI ac), .int (iI dI), .int (iI dp), .ref sa, .int (iI bk), .int (iI rs), .int (iI nW), .int (iI nH), .int (iI mt), .int (iI op), .int (iI x), .int (iI y), .int (iI wd), .int (iI ht), .int (iI sc), .int (iI rw), .int (iI ln), .ref ea, .ref fa, .ref ca, .int (iI ct), .int (iI kr), .int (iI kb), .int (iI ov)])), (fa, .inl (cI, 640, .inl (iA B2_124))), (ca, .inl (cI, 4096, .inl (iA P)))]) [1, 2, 0] rfl), (hD.sub (ws' := [(q, .inr (5, [.int (iI th), .int (iI ac), .int (iI dI), .int (iI dp), .ref sa, .int (iI bk), .int (iI rs), .int (iI nW), .int (iI nH), .int (iI mt), .int (iI op), .int (iI x), .int (iI y), .int (iI wd), .int (iI ht), .int (iI sc), .int (iI rw), .int (iI ln), .ref ea, .ref fa, .ref ca, .int (iI ct), .int (iI kr), .int (iI kb), .int (iI ov)])), (fa, .inl (cI, 640, .inl (iA B2_124))), (ca, .inl (cI, 4096, .inl (iA P)))]) [1, 2, 0] (by decide) rfl), hS, (lv_sub hl [0, 2, 1, 3, 4] rfl)⟩
      ·
        intro hJ_91
        refine x_loop4 (fun (k5 : Int) (of2 : Int) (mo2 : Int) (n2_ : Nat) H locs ls => (i + 1 ≤ k5 ∧ k5 ≤ ct) ∧ (0 ≤ of2 ∧ pl + of2 ≤ 256 * k5) ∧ (ct - k5 + 1 < (n2_ : Int)) ∧ (offC P ct i pl = offS P ct n2_ k5 (pl + of2) mo2) ∧ (mo2 = 0 ∨ mo2 = 1) ∧ va_P D xcl [(q, .inr (5, [.int (iI th), .int (iI ac), .int (iI dI), .int (iI dp), .ref sa, .int (iI bk), .int (iI rs), .int (iI nW), .int (iI nH), .int (iI mt), .int (iI op), .int (iI x), .int (iI y), .int (iI wd), .int (iI ht), .int (iI sc), .int (iI rw), .int (iI ln), .ref ea, .ref fa, .ref ca, .int (iI ct), .int (iI kr), .int (iI kb), .int (iI ov)])), (fa, .inl (cI, 640, .inl (iA F1))), (ca, .inl (cI, 4096, .inl (iA P)))] H ∧ va_D A [(q, .inr (5, [.int (iI th), .int (iI ac), .int (iI dI), .int (iI dp), .ref sa, .int (iI bk), .int (iI rs), .int (iI nW), .int (iI nH), .int (iI mt), .int (iI op), .int (iI x), .int (iI y), .int (iI wd), .int (iI ht), .int (iI sc), .int (iI rw), .int (iI ln), .ref ea, .ref fa, .ref ca, .int (iI ct), .int (iI kr), .int (iI kb), .int (iI ov)])), (fa, .inl (cI, 640, .inl (iA F1))), (ca, .inl (cI, 4096, .inl (iA P)))] ∧ va_S A s.heap H locs ∧ lv_has ls 7 [(2, .int (iI k5)), (4, .int (iI of2)), (5, .int (iI mo2)), (3, .int (iI (P i.toNat))), (1, .int (iI pl)), (0, .ref q)]) (fun (k5 : Int) (of2 : Int) (mo2 : Int) (n2_ : Nat) => n2_) (i + 1) ((P i.toNat) % 32) mo 5000 ⟨by omega, by omega, by omega, by rw [m1], by rw [m1]; split <;> omega, hP, hD, hS, (lv_sub hl [2, 1, 0, 3, 4, 5] rfl)⟩ ?_
        intro k5 of2 mo2 n2_ H locs ls hI ih_42
        obtain ⟨x1, x2, x3, x4, x5, hP, hD, hS, hl⟩ := hI
        refine lv_iload hx hb d_Mo_changes_42 (lv_at hl 2 rfl) ?_
        refine xi_if_eq (tgt := 91) hx hb d_Mo_changes_44 (by decide) ⟨by omega, by omega⟩ (fun c_44 => ?_) (fun c_44 => ?_)
        ·
          exact hJ_91 k5 of2 _ _ _ ⟨by rw [show offC P ct i pl = _ from x4, offS_end (by omega)], by omega, by omega, hP, hD, hS, (lv_sub hl [0, 1, 3, 4, 5] rfl)⟩
        ·
          refine lv_iload_n hx hb d_Mo_changes_47 rfl (lv_at hl 0 rfl) ?_
          refine lv_aload_n hx hb d_Mo_changes_48 rfl (lv_at hl 5 rfl) ?_
          refine va_get (D := D) (cl := xcl) (ci := 5) (v := .int (iI ct)) (C := R_Mo) (T := T_Mo) (N := 25) hx hb hts i_Mo hown hK hP 0 rfl rfl 21 (by decide) (hts _ kw_524) (fun _ h9 => h9) rfl d_Mo_changes_49 ?_
          refine xi_icmp_ge (tgt := 91) hx hb d_Mo_changes_52 (by decide) ⟨by omega, by omega⟩ ⟨by omega, by omega⟩ (fun c_52 => ?_) (fun c_52 => ?_)
          ·
            exact hJ_91 k5 of2 _ _ _ ⟨by rw [show offC P ct i pl = _ from x4, offS_end (by omega)], by omega, by omega, hP, hD, hS, (lv_sub hl [0, 1, 3, 4, 5] rfl)⟩
          ·
            have b62 := hPb k5.toNat
            refine lv_iload hx hb d_Mo_changes_55 (lv_at hl 1 rfl) ?_
            refine lv_aload_n hx hb d_Mo_changes_57 rfl (lv_at hl 5 rfl) ?_
            refine va_get (D := D) (cl := xcl) (ci := 5) (v := .ref ca) (C := R_Mo) (T := T_Mo) (N := 25) hx hb hts i_Mo hown hK hP 0 rfl rfl 20 (by decide) (hts _ kw_523) (fun _ h9 => h9) rfl d_Mo_changes_58 ?_
            refine lv_iload_n hx hb d_Mo_changes_61 rfl (lv_at hl 0 rfl) ?_
            refine xi_iald hx hb hK hP 2 0 rfl rfl (by omega) (by omega) (by omega) d_Mo_changes_62 ?_
            refine xi_iadd hx hb d_Mo_changes_63 ?_
            refine lv_istore (lv' := [(4, .int (iI (of2 + (P k5.toNat)))), (2, .int (iI k5)), (5, .int (iI mo2)), (3, .int (iI (P i.toNat))), (1, .int (iI pl)), (0, .ref q)]) hx hb d_Mo_changes_64 hl (by decide) rfl (fun ls hl => ?_)
            refine lv_aload_n hx hb d_Mo_changes_66 rfl (lv_at hl 5 rfl) ?_
            refine va_get (D := D) (cl := xcl) (ci := 5) (v := .ref ca) (C := R_Mo) (T := T_Mo) (N := 25) hx hb hts i_Mo hown hK hP 0 rfl rfl 20 (by decide) (hts _ kw_523) (fun _ h9 => h9) rfl d_Mo_changes_67 ?_
            refine lv_iload_n hx hb d_Mo_changes_70 rfl (lv_at hl 1 rfl) ?_
            refine xi_iald hx hb hK hP 2 0 rfl rfl (by omega) (by omega) (by omega) d_Mo_changes_71 ?_
            refine xi_sipush hx hb d_Mo_changes_72 (by decide) ?_
            refine xi_icmp_ne (tgt := 82) hx hb d_Mo_changes_75 (by decide) ⟨by omega, by omega⟩ ⟨by decide, by decide⟩ (fun c_75 => ?_) (fun c_75 => ?_)
            ·
              refine xi_iconst hx hb d_Mo_changes_82 ?_
              refine lv_istore (lv' := [(5, .int (iI 0)), (4, .int (iI (of2 + (P k5.toNat)))), (2, .int (iI k5)), (3, .int (iI (P i.toNat))), (1, .int (iI pl)), (0, .ref q)]) hx hb d_Mo_changes_83 hl (by decide) rfl (fun ls hl => ?_)
              refine xi_iinc (lv' := [(2, .int (iI (k5 + 1))), (5, .int (iI 0)), (4, .int (iI (of2 + (P k5.toNat)))), (3, .int (iI (P i.toNat))), (1, .int (iI pl)), (0, .ref q)]) hx hb d_Mo_changes_85 hl (k := 2) rfl (by decide) rfl (fun ls hl => ?_)
              refine lv_goto (tgt := 42) hx hb d_Mo_changes_88 (by decide) ?_
              exact ih_42 (k5 + 1) (of2 + (P k5.toNat)) 0 (n2_ - 1) _ _ _ (by omega) ⟨by omega, by omega, by omega, by rw [x4, offS_go (by omega) c_44 c_52, Int.add_assoc]; congr 1; first | exact if_pos c_75 | exact if_neg c_75, by omega, hP, hD, hS, (lv_sub hl [0, 2, 1, 3, 4, 5] rfl)⟩
            ·
              refine xi_iconst hx hb d_Mo_changes_78 ?_
              refine lv_goto (tgt := 83) hx hb d_Mo_changes_79 (by decide) ?_
              refine lv_istore (lv' := [(5, .int (iI 1)), (4, .int (iI (of2 + (P k5.toNat)))), (2, .int (iI k5)), (3, .int (iI (P i.toNat))), (1, .int (iI pl)), (0, .ref q)]) hx hb d_Mo_changes_83 hl (by decide) rfl (fun ls hl => ?_)
              refine xi_iinc (lv' := [(2, .int (iI (k5 + 1))), (5, .int (iI 1)), (4, .int (iI (of2 + (P k5.toNat)))), (3, .int (iI (P i.toNat))), (1, .int (iI pl)), (0, .ref q)]) hx hb d_Mo_changes_85 hl (k := 2) rfl (by decide) rfl (fun ls hl => ?_)
              refine lv_goto (tgt := 42) hx hb d_Mo_changes_88 (by decide) ?_
              exact ih_42 (k5 + 1) (of2 + (P k5.toNat)) 1 (n2_ - 1) _ _ _ (by omega) ⟨by omega, by omega, by omega, by rw [x4, offS_go (by omega) c_44 c_52, Int.add_assoc]; congr 1; first | exact if_pos c_75 | exact if_neg c_75, by omega, hP, hD, hS, (lv_sub hl [0, 2, 1, 3, 4, 5] rfl)⟩
    ·
      intro hJ_40
      refine lv_iload hx hb d_Mo_changes_28 (lv_at hl 0 rfl) ?_
      refine xi_bipush hx hb d_Mo_changes_30 (by decide) ?_
      refine xi_icmp_ne (tgt := 39) hx hb d_Mo_changes_32 (by decide) ⟨by omega, by omega⟩ ⟨by decide, by decide⟩ (fun c_32 => ?_) (fun c_32 => ?_)
      ·
        refine xi_iconst hx hb d_Mo_changes_39 ?_
        exact hJ_40 0 _ _ _ ⟨by first | exact (if_pos c_32).symm | exact (if_neg c_32).symm, hP, hD, hS, hl⟩
      ·
        refine xi_iconst hx hb d_Mo_changes_35 ?_
        refine lv_goto (tgt := 40) hx hb d_Mo_changes_36 (by decide) ?_
        exact hJ_40 1 _ _ _ ⟨by first | exact (if_pos c_32).symm | exact (if_neg c_32).symm, hP, hD, hS, hl⟩

theorem d_Mo_unpack_0 : decode b_Mo_unpack 0 = .ok (.iconst 0, 1) := by decide +kernel
theorem d_Mo_unpack_1 : decode b_Mo_unpack 1 = .ok (.istore_n 1, 1) := by decide +kernel
theorem d_Mo_unpack_2 : decode b_Mo_unpack 2 = .ok (.iload_n 1, 1) := by decide +kernel
theorem d_Mo_unpack_3 : decode b_Mo_unpack 3 = .ok (.sipush 640, 3) := by decide +kernel
theorem d_Mo_unpack_6 : decode b_Mo_unpack 6 = .ok (.if_icmp .ge 33, 3) := by decide +kernel
theorem d_Mo_unpack_9 : decode b_Mo_unpack 9 = .ok (.aload_n 0, 1) := by decide +kernel
theorem d_Mo_unpack_10 : decode b_Mo_unpack 10 = .ok (.getfield 17, 3) := by decide +kernel
theorem d_Mo_unpack_13 : decode b_Mo_unpack 13 = .ok (.iload_n 1, 1) := by decide +kernel
theorem d_Mo_unpack_14 : decode b_Mo_unpack 14 = .ok (.aload_n 0, 1) := by decide +kernel
theorem d_Mo_unpack_15 : decode b_Mo_unpack 15 = .ok (.getfield 49, 3) := by decide +kernel
theorem d_Mo_unpack_18 : decode b_Mo_unpack 18 = .ok (.iconst 3, 1) := by decide +kernel
theorem d_Mo_unpack_19 : decode b_Mo_unpack 19 = .ok (.if_icmp .ne 12, 3) := by decide +kernel
theorem d_Mo_unpack_22 : decode b_Mo_unpack 22 = .ok (.aload_n 0, 1) := by decide +kernel
theorem d_Mo_unpack_23 : decode b_Mo_unpack 23 = .ok (.getfield 13, 3) := by decide +kernel
theorem d_Mo_unpack_26 : decode b_Mo_unpack 26 = .ok (.iload_n 1, 1) := by decide +kernel
theorem d_Mo_unpack_27 : decode b_Mo_unpack 27 = .ok (.iaload, 1) := by decide +kernel
theorem d_Mo_unpack_28 : decode b_Mo_unpack 28 = .ok (.goto 4, 3) := by decide +kernel
theorem d_Mo_unpack_31 : decode b_Mo_unpack 31 = .ok (.iconst 0, 1) := by decide +kernel
theorem d_Mo_unpack_32 : decode b_Mo_unpack 32 = .ok (.iastore, 1) := by decide +kernel
theorem d_Mo_unpack_33 : decode b_Mo_unpack 33 = .ok (.iinc 1 1, 3) := by decide +kernel
theorem d_Mo_unpack_36 : decode b_Mo_unpack 36 = .ok (.goto (-34), 3) := by decide +kernel
theorem d_Mo_unpack_39 : decode b_Mo_unpack 39 = .ok (.aload_n 0, 1) := by decide +kernel
theorem d_Mo_unpack_40 : decode b_Mo_unpack 40 = .ok (.getfield 49, 3) := by decide +kernel
theorem d_Mo_unpack_43 : decode b_Mo_unpack 43 = .ok (.ifCond .ne 33, 3) := by decide +kernel
theorem d_Mo_unpack_46 : decode b_Mo_unpack 46 = .ok (.iconst 0, 1) := by decide +kernel
theorem d_Mo_unpack_47 : decode b_Mo_unpack 47 = .ok (.istore_n 1, 1) := by decide +kernel
theorem d_Mo_unpack_48 : decode b_Mo_unpack 48 = .ok (.iload_n 1, 1) := by decide +kernel
theorem d_Mo_unpack_49 : decode b_Mo_unpack 49 = .ok (.aload_n 0, 1) := by decide +kernel
theorem d_Mo_unpack_50 : decode b_Mo_unpack 50 = .ok (.getfield 80, 3) := by decide +kernel
theorem d_Mo_unpack_53 : decode b_Mo_unpack 53 = .ok (.if_icmp .ge 20, 3) := by decide +kernel
theorem d_Mo_unpack_56 : decode b_Mo_unpack 56 = .ok (.aload_n 0, 1) := by decide +kernel
theorem d_Mo_unpack_57 : decode b_Mo_unpack 57 = .ok (.iload_n 1, 1) := by decide +kernel
theorem d_Mo_unpack_58 : decode b_Mo_unpack 58 = .ok (.aload_n 0, 1) := by decide +kernel
theorem d_Mo_unpack_59 : decode b_Mo_unpack 59 = .ok (.getfield 20, 3) := by decide +kernel
theorem d_Mo_unpack_62 : decode b_Mo_unpack 62 = .ok (.iload_n 1, 1) := by decide +kernel
theorem d_Mo_unpack_63 : decode b_Mo_unpack 63 = .ok (.iaload, 1) := by decide +kernel
theorem d_Mo_unpack_64 : decode b_Mo_unpack 64 = .ok (.invokevirtual 85, 3) := by decide +kernel
theorem d_Mo_unpack_67 : decode b_Mo_unpack 67 = .ok (.iinc 1 1, 3) := by decide +kernel
theorem d_Mo_unpack_70 : decode b_Mo_unpack 70 = .ok (.goto (-22), 3) := by decide +kernel
theorem d_Mo_unpack_73 : decode b_Mo_unpack 73 = .ok (.goto 37, 3) := by decide +kernel
theorem d_Mo_unpack_76 : decode b_Mo_unpack 76 = .ok (.aload_n 0, 1) := by decide +kernel
theorem d_Mo_unpack_77 : decode b_Mo_unpack 77 = .ok (.getfield 49, 3) := by decide +kernel
theorem d_Mo_unpack_80 : decode b_Mo_unpack 80 = .ok (.iconst 1, 1) := by decide +kernel
theorem d_Mo_unpack_81 : decode b_Mo_unpack 81 = .ok (.if_icmp .ne 10, 3) := by decide +kernel
theorem d_Mo_unpack_84 : decode b_Mo_unpack 84 = .ok (.aload_n 0, 1) := by decide +kernel
theorem d_Mo_unpack_85 : decode b_Mo_unpack 85 = .ok (.invokevirtual 89, 3) := by decide +kernel
theorem d_Mo_unpack_88 : decode b_Mo_unpack 88 = .ok (.goto 22, 3) := by decide +kernel
theorem d_Mo_unpack_91 : decode b_Mo_unpack 91 = .ok (.aload_n 0, 1) := by decide +kernel
theorem d_Mo_unpack_92 : decode b_Mo_unpack 92 = .ok (.getfield 49, 3) := by decide +kernel
theorem d_Mo_unpack_95 : decode b_Mo_unpack 95 = .ok (.iconst 2, 1) := by decide +kernel
theorem d_Mo_unpack_96 : decode b_Mo_unpack 96 = .ok (.if_icmp .ne 10, 3) := by decide +kernel
theorem d_Mo_unpack_99 : decode b_Mo_unpack 99 = .ok (.aload_n 0, 1) := by decide +kernel
theorem d_Mo_unpack_100 : decode b_Mo_unpack 100 = .ok (.invokevirtual 92, 3) := by decide +kernel
theorem d_Mo_unpack_103 : decode b_Mo_unpack 103 = .ok (.goto 7, 3) := by decide +kernel
theorem d_Mo_unpack_106 : decode b_Mo_unpack 106 = .ok (.aload_n 0, 1) := by decide +kernel
theorem d_Mo_unpack_107 : decode b_Mo_unpack 107 = .ok (.invokevirtual 95, 3) := by decide +kernel
theorem d_Mo_unpack_110 : decode b_Mo_unpack 110 = .ok (.return_, 1) := by decide +kernel
theorem ds_Mo_unpack : xDesc y_Mo_unpack 0 := by decide +kernel

abbrev rm_Mo_unpack : Room := { frames := 2, cells := 0, slots := 0, locals := 48 }
set_option maxHeartbeats 4000000 in
set_option maxRecDepth 100000 in
/-- Model.unpack -/
theorem c_Mo_unpack (l : Launch) (D : va_G) (cI cJ cQ : ClassId) (q : Nat) (th : Int) (ac : Int) (dI : Int) (dp : Int) (sa : Nat) (bk : Int) (rs : Int) (nW : Int) (nH : Int) (mt : Int) (op : Int) (x : Int) (y : Int) (wd : Int) (ht : Int) (sc : Int) (rw : Int) (ln : Int) (ea : Nat) (fa : Nat) (ca : Nat) (ct : Int) (kr : Int) (kb : Int) (ov : Int) (B : Nat → Int) (Fr : Nat → Int) (P : Nat → Int) (hct : 0 ≤ ct ∧ ct ≤ 4096) (hPb : ∀ j : Nat, 0 ≤ P j ∧ P j < 256) (hln : 0 ≤ ln ∧ ln ≤ 640) (hmt : 0 ≤ mt ∧ mt ≤ 3) : xMet l D (xT cI cJ cQ) y_Mo_unpack b_Mo_unpack 2 none rm_Mo_unpack [.ref q] [(q, .inr (5, [.int (iI th), .int (iI ac), .int (iI dI), .int (iI dp), .ref sa, .int (iI bk), .int (iI rs), .int (iI nW), .int (iI nH), .int (iI mt), .int (iI op), .int (iI x), .int (iI y), .int (iI wd), .int (iI ht), .int (iI sc), .int (iI rw), .int (iI ln), .ref ea, .ref fa, .ref ca, .int (iI ct), .int (iI kr), .int (iI kb), .int (iI ov)])), (ea, .inl (cI, 640, .inl (iA B))), (fa, .inl (cI, 640, .inl (iA Fr))), (ca, .inl (cI, 4096, .inl (iA P)))] (fun v ws => ∃ (B2 : Nat → Int), v = none ∧ ws = [(q, .inr (5, [.int (iI th), .int (iI ac), .int (iI dI), .int (iI dp), .ref sa, .int (iI bk), .int (iI rs), .int (iI nW), .int (iI nH), .int (iI mt), .int (iI op), .int (iI x), .int (iI y), .int (iI wd), .int (iI ht), .int (iI sc), .int (iI rw), .int (iI ln), .ref ea, .ref fa, .ref ca, .int (iI ct), .int (iI kr), .int (iI kb), .int (iI ov)])), (ea, .inl (cI, 640, .inl (iA B))), (fa, .inl (cI, 640, .inl (iA B2))), (ca, .inl (cI, 4096, .inl (iA P)))] ∧ (B2 = unpS P ct ln mt B)) := by
  refine x_met (by decide) (Nat.le_of_ble_eq_true rfl) ?_
  intro p e s m below meth c hx hb hr hml hts hown hlocks hin hF0 A hA hP hD hK ls hl hS
  have hl : lv_has ls 2 [(0, .ref q)] := hl
  refine xi_iconst hx hb d_Mo_unpack_0 ?_
  refine lv_istore_n (lv' := [(1, .int (iI 0)), (0, .ref q)]) hx hb d_Mo_unpack_1 rfl hl (by decide) rfl (fun ls hl => ?_)
  refine x_loop2 (fun (i : Int) (F1 : Nat → Int) H locs ls => (0 ≤ i ∧ i ≤ 640) ∧ (∀ j : Nat, (j : Int) < i → F1 j = if mt = 3 then B j else 0) ∧ va_P D xcl [(q, .inr (5, [.int (iI th), .int (iI ac), .int (iI dI), .int (iI dp), .ref sa, .int (iI bk), .int (iI rs), .int (iI nW), .int (iI nH), .int (iI mt), .int (iI op), .int (iI x), .int (iI y), .int (iI wd), .int (iI ht), .int (iI sc), .int (iI rw), .int (iI ln), .ref ea, .ref fa, .ref ca, .int (iI ct), .int (iI kr), .int (iI kb), .int (iI ov)])), (ea, .inl (cI, 640, .inl (iA B))), (fa, .inl (cI, 640, .inl (iA F1))), (ca, .inl (cI, 4096, .inl (iA P)))] H ∧ va_D A [(q, .inr (5, [.int (iI th), .int (iI ac), .int (iI dI), .int (iI dp), .ref sa, .int (iI bk), .int (iI rs), .int (iI nW), .int (iI nH), .int (iI mt), .int (iI op), .int (iI x), .int (iI y), .int (iI wd), .int (iI ht), .int (iI sc), .int (iI rw), .int (iI ln), .ref ea, .ref fa, .ref ca, .int (iI ct), .int (iI kr), .int (iI kb), .int (iI ov)])), (ea, .inl (cI, 640, .inl (iA B))), (fa, .inl (cI, 640, .inl (iA F1))), (ca, .inl (cI, 4096, .inl (iA P)))] ∧ va_S A s.heap H locs ∧ lv_has ls 2 [(1, .int (iI i)), (0, .ref q)]) (fun (i : Int) (F1 : Nat → Int) => (640 - i).toNat) 0 Fr ⟨by omega, fun j hj => by omega, hP, hD, hS, hl⟩ ?_
  intro i F1 H locs ls hI ih_2
  obtain ⟨k1, k2, hP, hD, hS, hl⟩ := hI
  refine lv_iload_n hx hb d_Mo_unpack_2 rfl (lv_at hl 0 rfl) ?_
  refine xi_sipush hx hb d_Mo_unpack_3 (by decide) ?_
  refine xi_icmp_ge (tgt := 39) hx hb d_Mo_unpack_6 (by decide) ⟨by omega, by omega⟩ ⟨by decide, by decide⟩ (fun c_6 => ?_) (fun c_6 => ?_)
  ·
    obtain ⟨hP, hD⟩ := norm_i (fun j => if mt = 3 then B j else 0) 2 hP hD rfl (fun j hj => k2 j (by omega))
    have hP : va_P D xcl [(q, .inr (5, [.int (iI th), .int (iI ac), .int (iI dI), .int (iI dp), .ref sa, .int (iI bk), .int (iI rs), .int (iI nW), .int (iI nH), .int (iI mt), .int (iI op), .int (iI x), .int (iI y), .int (iI wd), .int (iI ht), .int (iI sc), .int (iI rw), .int (iI ln), .ref ea, .ref fa, .ref ca, .int (iI ct), .int (iI kr), .int (iI kb), .int (iI ov)])), (ea, .inl (cI, 640, .inl (iA B))), (fa, .inl (cI, 640, .inl (iA (fun j => if mt = 3 then B j else 0)))), (ca, .inl (cI, 4096, .inl (iA P)))] _ := hP
    have hD : va_D A [(q, .inr (5, [.int (iI th), .int (iI ac), .int (iI dI), .int (iI dp), .ref sa, .int (iI bk), .int (iI rs), .int (iI nW), .int (iI nH), .int (iI mt), .int (iI op), .int (iI x), .int (iI y), .int (iI wd), .int (iI ht), .int (iI sc), .int (iI rw), .int (iI ln), .ref ea, .ref fa, .ref ca, .int (iI ct), .int (iI kr), .int (iI kb), .int (iI ov)])), (ea, .inl (cI, 640, .inl (iA B))), (fa, .inl (cI, 640, .inl (iA (fun j => if mt = 3 then B j else 0)))), (ca, .inl (cI, 4096, .inl (iA P)))] := hD
    refine lv_aload_n hx hb d_Mo_unpack_39 rfl (lv_at hl 1 rfl) ?_
    refine va_get (D := D) (cl := xcl) (ci := 5) (v := .int (iI mt)) (C := R_Mo) (T := T_Mo) (N := 25) hx hb hts i_Mo hown hK hP 0 rfl rfl 9 (by decide) (hts _ kw_512) (fun _ h9 => h9) rfl d_Mo_unpack_40 ?_
    refine xi_if_ne (tgt := 76) hx hb d_Mo_unpack_43 (by decide) ⟨by omega, by omega⟩ (fun c_43 => ?_) (fun c_43 => ?_)
    ·
      refine lv_aload_n hx hb d_Mo_unpack_76 rfl (lv_at hl 1 rfl) ?_
      refine va_get (D := D) (cl := xcl) (ci := 5) (v := .int (iI mt)) (C := R_Mo) (T := T_Mo) (N := 25) hx hb hts i_Mo hown hK hP 0 rfl rfl 9 (by decide) (hts _ kw_512) (fun _ h9 => h9) rfl d_Mo_unpack_77 ?_
      refine xi_iconst hx hb d_Mo_unpack_80 ?_
      refine xi_icmp_ne (tgt := 91) hx hb d_Mo_unpack_81 (by decide) ⟨by omega, by omega⟩ ⟨by decide, by decide⟩ (fun c_81 => ?_) (fun c_81 => ?_)
      ·
        refine lv_aload_n hx hb d_Mo_unpack_91 rfl (lv_at hl 1 rfl) ?_
        refine va_get (D := D) (cl := xcl) (ci := 5) (v := .int (iI mt)) (C := R_Mo) (T := T_Mo) (N := 25) hx hb hts i_Mo hown hK hP 0 rfl rfl 9 (by decide) (hts _ kw_512) (fun _ h9 => h9) rfl d_Mo_unpack_92 ?_
        refine xi_iconst hx hb d_Mo_unpack_95 ?_
        refine xi_icmp_ne (tgt := 106) hx hb d_Mo_unpack_96 (by decide) ⟨by omega, by omega⟩ ⟨by decide, by decide⟩ (fun c_96 => ?_) (fun c_96 => ?_)
        ·
          refine lv_aload_n hx hb d_Mo_unpack_106 rfl (lv_at hl 1 rfl) ?_
          refine x_aft (x_runV (C := "RasterRowsModel") (As := []) (rest := []) (ci := 5) (q0 := 0) hx hb hml hown hts (c_Mo_changes l D cI cJ cQ q th ac dI dp sa bk rs nW nH mt op x y wd ht sc rw ln ea fa ca ct kr kb ov (fun j => if mt = 3 then B j else 0) P (hct) (hPb) (hln)) kw_631 kw_633 kp_13 kw_7 kw_634 ds_Mo_changes (by decide) hK (hP.sub (ws' := [(q, .inr (5, [.int (iI th), .int (iI ac), .int (iI dI), .int (iI dp), .ref sa, .int (iI bk), .int (iI rs), .int (iI nW), .int (iI nH), .int (iI mt), .int (iI op), .int (iI x), .int (iI y), .int (iI wd), .int (iI ht), .int (iI sc), .int (iI rw), .int (iI ln), .ref ea, .ref fa, .ref ca, .int (iI ct), .int (iI kr), .int (iI kb), .int (iI ov)])), (fa, .inl (cI, 640, .inl (iA (fun j => if mt = 3 then B j else 0)))), (ca, .inl (cI, 4096, .inl (iA P)))]) [0, 2, 3] rfl) (hD.sub (ws' := [(q, .inr (5, [.int (iI th), .int (iI ac), .int (iI dI), .int (iI dp), .ref sa, .int (iI bk), .int (iI rs), .int (iI nW), .int (iI nH), .int (iI mt), .int (iI op), .int (iI x), .int (iI y), .int (iI wd), .int (iI ht), .int (iI sc), .int (iI rw), .int (iI ln), .ref ea, .ref fa, .ref ca, .int (iI ct), .int (iI kr), .int (iI kb), .int (iI ov)])), (fa, .inl (cI, 640, .inl (iA (fun j => if mt = 3 then B j else 0)))), (ca, .inl (cI, 4096, .inl (iA P)))]) [0, 2, 3] (by decide) rfl) rfl rfl rfl hl.1 rfl (Nat.le_of_ble_eq_true rfl) d_Mo_unpack_107) hP hD hS hA [0, 2, 3] [1] rfl (wr := [(ea, .inl (cI, 640, .inl (iA B)))]) rfl (by decide) (by decide) (fun v w1 H locs hq hP hD hS => ?_)
          obtain ⟨B2_107, rfl, rfl, hB2_107⟩ := hq
          refine W.cs (cells' := 0) (slots' := 0) rfl rfl ?_
          refine W.eq (g2 := F0 m 110 ls []) rfl ?_
          have hP : va_P D xcl [(ea, .inl (cI, 640, .inl (iA B))), (q, .inr (5, [.int (iI th), .int (iI ac), .int (iI dI), .int (iI dp), .ref sa, .int (iI bk), .int (iI rs), .int (iI nW), .int (iI nH), .int (iI mt), .int (iI op), .int (iI x), .int (iI y), .int (iI wd), .int (iI ht), .int (iI sc), .int (iI rw), .int (iI ln), .ref ea, .ref fa, .ref ca, .int (iI ct), .int (iI kr), .int (iI kb), .int (iI ov)])), (fa, .inl (cI, 640, .inl (iA B2_107))), (ca, .inl (cI, 4096, .inl (iA P)))] _ := hP
          have hD : va_D A [(ea, .inl (cI, 640, .inl (iA B))), (q, .inr (5, [.int (iI th), .int (iI ac), .int (iI dI), .int (iI dp), .ref sa, .int (iI bk), .int (iI rs), .int (iI nW), .int (iI nH), .int (iI mt), .int (iI op), .int (iI x), .int (iI y), .int (iI wd), .int (iI ht), .int (iI sc), .int (iI rw), .int (iI ln), .ref ea, .ref fa, .ref ca, .int (iI ct), .int (iI kr), .int (iI kb), .int (iI ov)])), (fa, .inl (cI, 640, .inl (iA B2_107))), (ca, .inl (cI, 4096, .inl (iA P)))] := hD
          exact x_vret hx hb hr hlocks (hP.sub (ws' := [(q, .inr (5, [.int (iI th), .int (iI ac), .int (iI dI), .int (iI dp), .ref sa, .int (iI bk), .int (iI rs), .int (iI nW), .int (iI nH), .int (iI mt), .int (iI op), .int (iI x), .int (iI y), .int (iI wd), .int (iI ht), .int (iI sc), .int (iI rw), .int (iI ln), .ref ea, .ref fa, .ref ca, .int (iI ct), .int (iI kr), .int (iI kb), .int (iI ov)])), (ea, .inl (cI, 640, .inl (iA B))), (fa, .inl (cI, 640, .inl (iA B2_107))), (ca, .inl (cI, 4096, .inl (iA P)))]) [1, 0, 2, 3] rfl) (hD.sub (ws' := [(q, .inr (5, [.int (iI th), .int (iI ac), .int (iI dI), .int (iI dp), .ref sa, .int (iI bk), .int (iI rs), .int (iI nW), .int (iI nH), .int (iI mt), .int (iI op), .int (iI x), .int (iI y), .int (iI wd), .int (iI ht), .int (iI sc), .int (iI rw), .int (iI ln), .ref ea, .ref fa, .ref ca, .int (iI ct), .int (iI kr), .int (iI kb), .int (iI ov)])), (ea, .inl (cI, 640, .inl (iA B))), (fa, .inl (cI, 640, .inl (iA B2_107))), (ca, .inl (cI, 4096, .inl (iA P)))]) [1, 0, 2, 3] (by decide) rfl) hS (by decide) (by decide) ⟨B2_107, rfl, rfl, by
              unfold unpS
              first
              | (rw [n2, show i2 = ct by omega, zero_if (by omega), if_neg (by omega), if_neg (by omega), if_neg (by omega)]; done)
              | (rw [hB2_85, zero_if (by omega), if_neg (by omega), if_neg (by omega), if_pos (by omega)]; done)
              | (rw [hB2_100, zero_if (by omega), if_neg (by omega), if_pos (by omega)]; done)
              | (rw [hB2_107, self_if (by omega), if_pos (by omega)]; done)⟩ d_Mo_unpack_110
        ·
          refine lv_aload_n hx hb d_Mo_unpack_99 rfl (lv_at hl 1 rfl) ?_
          refine x_aft (x_runV (C := "RasterRowsModel") (As := []) (rest := []) (ci := 5) (q0 := 0) hx hb hml hown hts (c_Mo_packed l D cI cJ cQ q th ac dI dp sa bk rs nW nH mt op x y wd ht sc rw ln ea fa ca ct kr kb ov (fun j => if mt = 3 then B j else 0) P (hct) (hPb) (hln)) kw_627 kw_629 kp_12 kw_7 kw_630 ds_Mo_packed (by decide) hK (hP.sub (ws' := [(q, .inr (5, [.int (iI th), .int (iI ac), .int (iI dI), .int (iI dp), .ref sa, .int (iI bk), .int (iI rs), .int (iI nW), .int (iI nH), .int (iI mt), .int (iI op), .int (iI x), .int (iI y), .int (iI wd), .int (iI ht), .int (iI sc), .int (iI rw), .int (iI ln), .ref ea, .ref fa, .ref ca, .int (iI ct), .int (iI kr), .int (iI kb), .int (iI ov)])), (fa, .inl (cI, 640, .inl (iA (fun j => if mt = 3 then B j else 0)))), (ca, .inl (cI, 4096, .inl (iA P)))]) [0, 2, 3] rfl) (hD.sub (ws' := [(q, .inr (5, [.int (iI th), .int (iI ac), .int (iI dI), .int (iI dp), .ref sa, .int (iI bk), .int (iI rs), .int (iI nW), .int (iI nH), .int (iI mt), .int (iI op), .int (iI x), .int (iI y), .int (iI wd), .int (iI ht), .int (iI sc), .int (iI rw), .int (iI ln), .ref ea, .ref fa, .ref ca, .int (iI ct), .int (iI kr), .int (iI kb), .int (iI ov)])), (fa, .inl (cI, 640, .inl (iA (fun j => if mt = 3 then B j else 0)))), (ca, .inl (cI, 4096, .inl (iA P)))]) [0, 2, 3] (by decide) rfl) rfl rfl rfl hl.1 rfl (Nat.le_of_ble_eq_true rfl) d_Mo_unpack_100) hP hD hS hA [0, 2, 3] [1] rfl (wr := [(ea, .inl (cI, 640, .inl (iA B)))]) rfl (by decide) (by decide) (fun v w1 H locs hq hP hD hS => ?_)
          obtain ⟨B2_100, rfl, rfl, hB2_100⟩ := hq
          refine W.cs (cells' := 0) (slots' := 0) rfl rfl ?_
          refine W.eq (g2 := F0 m 103 ls []) rfl ?_
          have hP : va_P D xcl [(ea, .inl (cI, 640, .inl (iA B))), (q, .inr (5, [.int (iI th), .int (iI ac), .int (iI dI), .int (iI dp), .ref sa, .int (iI bk), .int (iI rs), .int (iI nW), .int (iI nH), .int (iI mt), .int (iI op), .int (iI x), .int (iI y), .int (iI wd), .int (iI ht), .int (iI sc), .int (iI rw), .int (iI ln), .ref ea, .ref fa, .ref ca, .int (iI ct), .int (iI kr), .int (iI kb), .int (iI ov)])), (fa, .inl (cI, 640, .inl (iA B2_100))), (ca, .inl (cI, 4096, .inl (iA P)))] _ := hP
          have hD : va_D A [(ea, .inl (cI, 640, .inl (iA B))), (q, .inr (5, [.int (iI th), .int (iI ac), .int (iI dI), .int (iI dp), .ref sa, .int (iI bk), .int (iI rs), .int (iI nW), .int (iI nH), .int (iI mt), .int (iI op), .int (iI x), .int (iI y), .int (iI wd), .int (iI ht), .int (iI sc), .int (iI rw), .int (iI ln), .ref ea, .ref fa, .ref ca, .int (iI ct), .int (iI kr), .int (iI kb), .int (iI ov)])), (fa, .inl (cI, 640, .inl (iA B2_100))), (ca, .inl (cI, 4096, .inl (iA P)))] := hD
          refine lv_goto (tgt := 110) hx hb d_Mo_unpack_103 (by decide) ?_
          exact x_vret hx hb hr hlocks (hP.sub (ws' := [(q, .inr (5, [.int (iI th), .int (iI ac), .int (iI dI), .int (iI dp), .ref sa, .int (iI bk), .int (iI rs), .int (iI nW), .int (iI nH), .int (iI mt), .int (iI op), .int (iI x), .int (iI y), .int (iI wd), .int (iI ht), .int (iI sc), .int (iI rw), .int (iI ln), .ref ea, .ref fa, .ref ca, .int (iI ct), .int (iI kr), .int (iI kb), .int (iI ov)])), (ea, .inl (cI, 640, .inl (iA B))), (fa, .inl (cI, 640, .inl (iA B2_100))), (ca, .inl (cI, 4096, .inl (iA P)))]) [1, 0, 2, 3] rfl) (hD.sub (ws' := [(q, .inr (5, [.int (iI th), .int (iI ac), .int (iI dI), .int (iI dp), .ref sa, .int (iI bk), .int (iI rs), .int (iI nW), .int (iI nH), .int (iI mt), .int (iI op), .int (iI x), .int (iI y), .int (iI wd), .int (iI ht), .int (iI sc), .int (iI rw), .int (iI ln), .ref ea, .ref fa, .ref ca, .int (iI ct), .int (iI kr), .int (iI kb), .int (iI ov)])), (ea, .inl (cI, 640, .inl (iA B))), (fa, .inl (cI, 640, .inl (iA B2_100))), (ca, .inl (cI, 4096, .inl (iA P)))]) [1, 0, 2, 3] (by decide) rfl) hS (by decide) (by decide) ⟨B2_100, rfl, rfl, by
              unfold unpS
              first
              | (rw [n2, show i2 = ct by omega, zero_if (by omega), if_neg (by omega), if_neg (by omega), if_neg (by omega)]; done)
              | (rw [hB2_85, zero_if (by omega), if_neg (by omega), if_neg (by omega), if_pos (by omega)]; done)
              | (rw [hB2_100, zero_if (by omega), if_neg (by omega), if_pos (by omega)]; done)
              | (rw [hB2_107, self_if (by omega), if_pos (by omega)]; done)⟩ d_Mo_unpack_110
      ·
        refine lv_aload_n hx hb d_Mo_unpack_84 rfl (lv_at hl 1 rfl) ?_
        refine x_aft (x_runV (C := "RasterRowsModel") (As := []) (rest := []) (ci := 5) (q0 := 0) hx hb hml hown hts (c_Mo_pairs l D cI cJ cQ q th ac dI dp sa bk rs nW nH mt op x y wd ht sc rw ln ea fa ca ct kr kb ov (fun j => if mt = 3 then B j else 0) P (hct) (hPb) (hln)) kw_623 kw_625 kp_11 kw_7 kw_626 ds_Mo_pairs (by decide) hK (hP.sub (ws' := [(q, .inr (5, [.int (iI th), .int (iI ac), .int (iI dI), .int (iI dp), .ref sa, .int (iI bk), .int (iI rs), .int (iI nW), .int (iI nH), .int (iI mt), .int (iI op), .int (iI x), .int (iI y), .int (iI wd), .int (iI ht), .int (iI sc), .int (iI rw), .int (iI ln), .ref ea, .ref fa, .ref ca, .int (iI ct), .int (iI kr), .int (iI kb), .int (iI ov)])), (fa, .inl (cI, 640, .inl (iA (fun j => if mt = 3 then B j else 0)))), (ca, .inl (cI, 4096, .inl (iA P)))]) [0, 2, 3] rfl) (hD.sub (ws' := [(q, .inr (5, [.int (iI th), .int (iI ac), .int (iI dI), .int (iI dp), .ref sa, .int (iI bk), .int (iI rs), .int (iI nW), .int (iI nH), .int (iI mt), .int (iI op), .int (iI x), .int (iI y), .int (iI wd), .int (iI ht), .int (iI sc), .int (iI rw), .int (iI ln), .ref ea, .ref fa, .ref ca, .int (iI ct), .int (iI kr), .int (iI kb), .int (iI ov)])), (fa, .inl (cI, 640, .inl (iA (fun j => if mt = 3 then B j else 0)))), (ca, .inl (cI, 4096, .inl (iA P)))]) [0, 2, 3] (by decide) rfl) rfl rfl rfl hl.1 rfl (Nat.le_of_ble_eq_true rfl) d_Mo_unpack_85) hP hD hS hA [0, 2, 3] [1] rfl (wr := [(ea, .inl (cI, 640, .inl (iA B)))]) rfl (by decide) (by decide) (fun v w1 H locs hq hP hD hS => ?_)
        obtain ⟨B2_85, rfl, rfl, hB2_85⟩ := hq
        refine W.cs (cells' := 0) (slots' := 0) rfl rfl ?_
        refine W.eq (g2 := F0 m 88 ls []) rfl ?_
        have hP : va_P D xcl [(ea, .inl (cI, 640, .inl (iA B))), (q, .inr (5, [.int (iI th), .int (iI ac), .int (iI dI), .int (iI dp), .ref sa, .int (iI bk), .int (iI rs), .int (iI nW), .int (iI nH), .int (iI mt), .int (iI op), .int (iI x), .int (iI y), .int (iI wd), .int (iI ht), .int (iI sc), .int (iI rw), .int (iI ln), .ref ea, .ref fa, .ref ca, .int (iI ct), .int (iI kr), .int (iI kb), .int (iI ov)])), (fa, .inl (cI, 640, .inl (iA B2_85))), (ca, .inl (cI, 4096, .inl (iA P)))] _ := hP
        have hD : va_D A [(ea, .inl (cI, 640, .inl (iA B))), (q, .inr (5, [.int (iI th), .int (iI ac), .int (iI dI), .int (iI dp), .ref sa, .int (iI bk), .int (iI rs), .int (iI nW), .int (iI nH), .int (iI mt), .int (iI op), .int (iI x), .int (iI y), .int (iI wd), .int (iI ht), .int (iI sc), .int (iI rw), .int (iI ln), .ref ea, .ref fa, .ref ca, .int (iI ct), .int (iI kr), .int (iI kb), .int (iI ov)])), (fa, .inl (cI, 640, .inl (iA B2_85))), (ca, .inl (cI, 4096, .inl (iA P)))] := hD
        refine lv_goto (tgt := 110) hx hb d_Mo_unpack_88 (by decide) ?_
        exact x_vret hx hb hr hlocks (hP.sub (ws' := [(q, .inr (5, [.int (iI th), .int (iI ac), .int (iI dI), .int (iI dp), .ref sa, .int (iI bk), .int (iI rs), .int (iI nW), .int (iI nH), .int (iI mt), .int (iI op), .int (iI x), .int (iI y), .int (iI wd), .int (iI ht), .int (iI sc), .int (iI rw), .int (iI ln), .ref ea, .ref fa, .ref ca, .int (iI ct), .int (iI kr), .int (iI kb), .int (iI ov)])), (ea, .inl (cI, 640, .inl (iA B))), (fa, .inl (cI, 640, .inl (iA B2_85))), (ca, .inl (cI, 4096, .inl (iA P)))]) [1, 0, 2, 3] rfl) (hD.sub (ws' := [(q, .inr (5, [.int (iI th), .int (iI ac), .int (iI dI), .int (iI dp), .ref sa, .int (iI bk), .int (iI rs), .int (iI nW), .int (iI nH), .int (iI mt), .int (iI op), .int (iI x), .int (iI y), .int (iI wd), .int (iI ht), .int (iI sc), .int (iI rw), .int (iI ln), .ref ea, .ref fa, .ref ca, .int (iI ct), .int (iI kr), .int (iI kb), .int (iI ov)])), (ea, .inl (cI, 640, .inl (iA B))), (fa, .inl (cI, 640, .inl (iA B2_85))), (ca, .inl (cI, 4096, .inl (iA P)))]) [1, 0, 2, 3] (by decide) rfl) hS (by decide) (by decide) ⟨B2_85, rfl, rfl, by
              unfold unpS
              first
              | (rw [n2, show i2 = ct by omega, zero_if (by omega), if_neg (by omega), if_neg (by omega), if_neg (by omega)]; done)
              | (rw [hB2_85, zero_if (by omega), if_neg (by omega), if_neg (by omega), if_pos (by omega)]; done)
              | (rw [hB2_100, zero_if (by omega), if_neg (by omega), if_pos (by omega)]; done)
              | (rw [hB2_107, self_if (by omega), if_pos (by omega)]; done)⟩ d_Mo_unpack_110
    ·
      refine xi_iconst hx hb d_Mo_unpack_46 ?_
      refine lv_istore_n (lv' := [(1, .int (iI 0)), (0, .ref q)]) hx hb d_Mo_unpack_47 rfl hl (by decide) rfl (fun ls hl => ?_)
      refine x_loop2 (fun (i2 : Int) (F2 : Nat → Int) H locs ls => (0 ≤ i2 ∧ i2 ≤ ct) ∧ (F2 = copyB (fun j => if mt = 3 then B j else 0) P ln 0 0 i2) ∧ va_P D xcl [(q, .inr (5, [.int (iI th), .int (iI ac), .int (iI dI), .int (iI dp), .ref sa, .int (iI bk), .int (iI rs), .int (iI nW), .int (iI nH), .int (iI mt), .int (iI op), .int (iI x), .int (iI y), .int (iI wd), .int (iI ht), .int (iI sc), .int (iI rw), .int (iI ln), .ref ea, .ref fa, .ref ca, .int (iI ct), .int (iI kr), .int (iI kb), .int (iI ov)])), (ea, .inl (cI, 640, .inl (iA B))), (fa, .inl (cI, 640, .inl (iA F2))), (ca, .inl (cI, 4096, .inl (iA P)))] H ∧ va_D A [(q, .inr (5, [.int (iI th), .int (iI ac), .int (iI dI), .int (iI dp), .ref sa, .int (iI bk), .int (iI rs), .int (iI nW), .int (iI nH), .int (iI mt), .int (iI op), .int (iI x), .int (iI y), .int (iI wd), .int (iI ht), .int (iI sc), .int (iI rw), .int (iI ln), .ref ea, .ref fa, .ref ca, .int (iI ct), .int (iI kr), .int (iI kb), .int (iI ov)])), (ea, .inl (cI, 640, .inl (iA B))), (fa, .inl (cI, 640, .inl (iA F2))), (ca, .inl (cI, 4096, .inl (iA P)))] ∧ va_S A s.heap H locs ∧ lv_has ls 2 [(1, .int (iI i2)), (0, .ref q)]) (fun (i2 : Int) (F2 : Nat → Int) => (ct - i2).toNat) 0 (fun j => if mt = 3 then B j else 0) ⟨by omega, (copyB_0 (by omega)).symm, hP, hD, hS, hl⟩ ?_
      intro i2 F2 H locs ls hI ih_48
      obtain ⟨n1, n2, hP, hD, hS, hl⟩ := hI
      refine lv_iload_n hx hb d_Mo_unpack_48 rfl (lv_at hl 0 rfl) ?_
      refine lv_aload_n hx hb d_Mo_unpack_49 rfl (lv_at hl 1 rfl) ?_
      refine va_get (D := D) (cl := xcl) (ci := 5) (v := .int (iI ct)) (C := R_Mo) (T := T_Mo) (N := 25) hx hb hts i_Mo hown hK hP 0 rfl rfl 21 (by decide) (hts _ kw_524) (fun _ h9 => h9) rfl d_Mo_unpack_50 ?_
      refine xi_icmp_ge (tgt := 73) hx hb d_Mo_unpack_53 (by decide) ⟨by omega, by omega⟩ ⟨by omega, by omega⟩ (fun c_53 => ?_) (fun c_53 => ?_)
      ·
        refine lv_goto (tgt := 110) hx hb d_Mo_unpack_73 (by decide) ?_
        exact x_vret hx hb hr hlocks hP hD hS (by decide) (by decide) ⟨F2, rfl, rfl, by
              unfold unpS
              first
              | (rw [n2, show i2 = ct by omega, zero_if (by omega), if_neg (by omega), if_neg (by omega), if_neg (by omega)]; done)
              | (rw [hB2_85, zero_if (by omega), if_neg (by omega), if_neg (by omega), if_pos (by omega)]; done)
              | (rw [hB2_100, zero_if (by omega), if_neg (by omega), if_pos (by omega)]; done)
              | (rw [hB2_107, self_if (by omega), if_pos (by omega)]; done)⟩ d_Mo_unpack_110
      ·
        refine lv_aload_n hx hb d_Mo_unpack_56 rfl (lv_at hl 1 rfl) ?_
        refine lv_iload_n hx hb d_Mo_unpack_57 rfl (lv_at hl 0 rfl) ?_
        refine lv_aload_n hx hb d_Mo_unpack_58 rfl (lv_at hl 1 rfl) ?_
        refine va_get (D := D) (cl := xcl) (ci := 5) (v := .ref ca) (C := R_Mo) (T := T_Mo) (N := 25) hx hb hts i_Mo hown hK hP 0 rfl rfl 20 (by decide) (hts _ kw_523) (fun _ h9 => h9) rfl d_Mo_unpack_59 ?_
        refine lv_iload_n hx hb d_Mo_unpack_62 rfl (lv_at hl 0 rfl) ?_
        refine xi_iald hx hb hK hP 3 0 rfl rfl (by omega) (by omega) (by omega) d_Mo_unpack_63 ?_
        refine x_aft (x_runV (C := "RasterRowsModel") (As := [.int (iI i2), .int (iI (P i2.toNat))]) (rest := []) (ci := 5) (q0 := 0) hx hb hml hown hts (c_Mo_put l D cI cJ cQ q th ac dI dp sa bk rs nW nH mt op x y wd ht sc rw ln ea fa ca ct kr kb ov F2 i2 (P i2.toNat) (hln) (by omega)) kw_619 kw_621 kp_10 kw_7 kw_622 ds_Mo_put (by decide) hK (hP.sub (ws' := [(q, .inr (5, [.int (iI th), .int (iI ac), .int (iI dI), .int (iI dp), .ref sa, .int (iI bk), .int (iI rs), .int (iI nW), .int (iI nH), .int (iI mt), .int (iI op), .int (iI x), .int (iI y), .int (iI wd), .int (iI ht), .int (iI sc), .int (iI rw), .int (iI ln), .ref ea, .ref fa, .ref ca, .int (iI ct), .int (iI kr), .int (iI kb), .int (iI ov)])), (fa, .inl (cI, 640, .inl (iA F2)))]) [0, 2] rfl) (hD.sub (ws' := [(q, .inr (5, [.int (iI th), .int (iI ac), .int (iI dI), .int (iI dp), .ref sa, .int (iI bk), .int (iI rs), .int (iI nW), .int (iI nH), .int (iI mt), .int (iI op), .int (iI x), .int (iI y), .int (iI wd), .int (iI ht), .int (iI sc), .int (iI rw), .int (iI ln), .ref ea, .ref fa, .ref ca, .int (iI ct), .int (iI kr), .int (iI kb), .int (iI ov)])), (fa, .inl (cI, 640, .inl (iA F2)))]) [0, 2] (by decide) rfl) rfl rfl rfl hl.1 rfl (Nat.le_of_ble_eq_true rfl) d_Mo_unpack_64) hP hD hS hA [0, 2] [1, 3] rfl (wr := [(ea, .inl (cI, 640, .inl (iA B))), (ca, .inl (cI, 4096, .inl (iA P)))]) rfl (by decide) (by decide) (fun v w1 H locs hq hP hD hS => ?_)
        obtain ⟨B2_64, rfl, rfl, hB2_64⟩ := hq
        refine W.cs (cells' := 0) (slots' := 0) rfl rfl ?_
        refine W.eq (g2 := F0 m 67 ls []) rfl ?_
        have hP : va_P D xcl [(ea, .inl (cI, 640, .inl (iA B))), (ca, .inl (cI, 4096, .inl (iA P))), (q, .inr (5, [.int (iI th), .int (iI ac), .int (iI dI), .int (iI dp), .ref sa, .int (iI bk), .int (iI rs), .int (iI nW), .int (iI nH), .int (iI mt), .int (iI op), .int (iI x), .int (iI y), .int (iI wd), .int (iI ht), .int (iI sc), .int (iI rw), .int (iI ln), .ref ea, .ref fa, .ref ca, .int (iI ct), .int (iI kr), .int (iI kb), .int (iI ov)])), (fa, .inl (cI, 640, .inl (iA B2_64)))] _ := hP
        have hD : va_D A [(ea, .inl (cI, 640, .inl (iA B))), (ca, .inl (cI, 4096, .inl (iA P))), (q, .inr (5, [.int (iI th), .int (iI ac), .int (iI dI), .int (iI dp), .ref sa, .int (iI bk), .int (iI rs), .int (iI nW), .int (iI nH), .int (iI mt), .int (iI op), .int (iI x), .int (iI y), .int (iI wd), .int (iI ht), .int (iI sc), .int (iI rw), .int (iI ln), .ref ea, .ref fa, .ref ca, .int (iI ct), .int (iI kr), .int (iI kb), .int (iI ov)])), (fa, .inl (cI, 640, .inl (iA B2_64)))] := hD
        refine xi_iinc (lv' := [(1, .int (iI (i2 + 1))), (0, .ref q)]) hx hb d_Mo_unpack_67 hl (k := 0) rfl (by decide) rfl (fun ls hl => ?_)
        refine lv_goto (tgt := 48) hx hb d_Mo_unpack_70 (by decide) ?_
        exact ih_48 (i2 + 1) B2_64 _ _ _ (by omega) ⟨by omega, by
              have e9 := copyB_step (B := fun j => if mt = 3 then B j else 0) (P := P) (ln := ln) (pl := 0) (fr := 0) (i := i2) (by omega) n1.1
              rw [hB2_64, n2, ← e9, Int.zero_add], (hP.sub (ws' := [(q, .inr (5, [.int (iI th), .int (iI ac), .int (iI dI), .int (iI dp), .ref sa, .int (iI bk), .int (iI rs), .int (iI nW), .int (iI nH), .int (iI mt), .int (iI op), .int (iI x), .int (iI y), .int (iI wd), .int (iI ht), .int (iI sc), .int (iI rw), .int (iI ln), .ref ea, .ref fa, .ref ca, .int (iI ct), .int (iI kr), .int (iI kb), .int (iI ov)])), (ea, .inl (cI, 640, .inl (iA B))), (fa, .inl (cI, 640, .inl (iA B2_64))), (ca, .inl (cI, 4096, .inl (iA P)))]) [2, 0, 3, 1] rfl), (hD.sub (ws' := [(q, .inr (5, [.int (iI th), .int (iI ac), .int (iI dI), .int (iI dp), .ref sa, .int (iI bk), .int (iI rs), .int (iI nW), .int (iI nH), .int (iI mt), .int (iI op), .int (iI x), .int (iI y), .int (iI wd), .int (iI ht), .int (iI sc), .int (iI rw), .int (iI ln), .ref ea, .ref fa, .ref ca, .int (iI ct), .int (iI kr), .int (iI kb), .int (iI ov)])), (ea, .inl (cI, 640, .inl (iA B))), (fa, .inl (cI, 640, .inl (iA B2_64))), (ca, .inl (cI, 4096, .inl (iA P)))]) [2, 0, 3, 1] (by decide) rfl), hS, hl⟩
  ·
    refine lv_aload_n hx hb d_Mo_unpack_9 rfl (lv_at hl 1 rfl) ?_
    refine va_get (D := D) (cl := xcl) (ci := 5) (v := .ref fa) (C := R_Mo) (T := T_Mo) (N := 25) hx hb hts i_Mo hown hK hP 0 rfl rfl 19 (by decide) (hts _ kw_522) (fun _ h9 => h9) rfl d_Mo_unpack_10 ?_
    refine lv_iload_n hx hb d_Mo_unpack_13 rfl (lv_at hl 0 rfl) ?_
    refine lv_aload_n hx hb d_Mo_unpack_14 rfl (lv_at hl 1 rfl) ?_
    refine va_get (D := D) (cl := xcl) (ci := 5) (v := .int (iI mt)) (C := R_Mo) (T := T_Mo) (N := 25) hx hb hts i_Mo hown hK hP 0 rfl rfl 9 (by decide) (hts _ kw_512) (fun _ h9 => h9) rfl d_Mo_unpack_15 ?_
    refine xi_iconst hx hb d_Mo_unpack_18 ?_
    refine xi_icmp_ne (tgt := 31) hx hb d_Mo_unpack_19 (by decide) ⟨by omega, by omega⟩ ⟨by decide, by decide⟩ (fun c_19 => ?_) (fun c_19 => ?_)
    ·
      refine xi_iconst hx hb d_Mo_unpack_31 ?_
      refine xi_iast hx hb hK hP hD hS 2 0 rfl rfl (by omega) (by omega) (by omega) d_Mo_unpack_32 (fun H locs hP hD hS => ?_)
      have hP : va_P D xcl [(q, .inr (5, [.int (iI th), .int (iI ac), .int (iI dI), .int (iI dp), .ref sa, .int (iI bk), .int (iI rs), .int (iI nW), .int (iI nH), .int (iI mt), .int (iI op), .int (iI x), .int (iI y), .int (iI wd), .int (iI ht), .int (iI sc), .int (iI rw), .int (iI ln), .ref ea, .ref fa, .ref ca, .int (iI ct), .int (iI kr), .int (iI kb), .int (iI ov)])), (ea, .inl (cI, 640, .inl (iA B))), (fa, .inl (cI, 640, .inl (iA (va_up F1 i.toNat 0)))), (ca, .inl (cI, 4096, .inl (iA P)))] _ := hP
      have hD : va_D A [(q, .inr (5, [.int (iI th), .int (iI ac), .int (iI dI), .int (iI dp), .ref sa, .int (iI bk), .int (iI rs), .int (iI nW), .int (iI nH), .int (iI mt), .int (iI op), .int (iI x), .int (iI y), .int (iI wd), .int (iI ht), .int (iI sc), .int (iI rw), .int (iI ln), .ref ea, .ref fa, .ref ca, .int (iI ct), .int (iI kr), .int (iI kb), .int (iI ov)])), (ea, .inl (cI, 640, .inl (iA B))), (fa, .inl (cI, 640, .inl (iA (va_up F1 i.toNat 0)))), (ca, .inl (cI, 4096, .inl (iA P)))] := hD
      refine xi_iinc (lv' := [(1, .int (iI (i + 1))), (0, .ref q)]) hx hb d_Mo_unpack_33 hl (k := 0) rfl (by decide) rfl (fun ls hl => ?_)
      refine lv_goto (tgt := 2) hx hb d_Mo_unpack_36 (by decide) ?_
      exact ih_2 (i + 1) (va_up F1 i.toNat 0) _ _ _ (by omega) ⟨by omega, fun j hj => by
              by_cases e : j = i.toNat
              · subst e; rw [up_s]; first | exact (if_pos c_19).symm | exact (if_neg c_19).symm
              · rw [up_n _ _ e]; exact k2 j (by omega), hP, hD, hS, hl⟩
    ·
      refine lv_aload_n hx hb d_Mo_unpack_22 rfl (lv_at hl 1 rfl) ?_
      refine va_get (D := D) (cl := xcl) (ci := 5) (v := .ref ea) (C := R_Mo) (T := T_Mo) (N := 25) hx hb hts i_Mo hown hK hP 0 rfl rfl 18 (by decide) (hts _ kw_521) (fun _ h9 => h9) rfl d_Mo_unpack_23 ?_
      refine lv_iload_n hx hb d_Mo_unpack_26 rfl (lv_at hl 0 rfl) ?_
      refine xi_iald hx hb hK hP 1 0 rfl rfl (by omega) (by omega) (by omega) d_Mo_unpack_27 ?_
      refine lv_goto (tgt := 32) hx hb d_Mo_unpack_28 (by decide) ?_
      refine xi_iast hx hb hK hP hD hS 2 0 rfl rfl (by omega) (by omega) (by omega) d_Mo_unpack_32 (fun H locs hP hD hS => ?_)
      have hP : va_P D xcl [(q, .inr (5, [.int (iI th), .int (iI ac), .int (iI dI), .int (iI dp), .ref sa, .int (iI bk), .int (iI rs), .int (iI nW), .int (iI nH), .int (iI mt), .int (iI op), .int (iI x), .int (iI y), .int (iI wd), .int (iI ht), .int (iI sc), .int (iI rw), .int (iI ln), .ref ea, .ref fa, .ref ca, .int (iI ct), .int (iI kr), .int (iI kb), .int (iI ov)])), (ea, .inl (cI, 640, .inl (iA B))), (fa, .inl (cI, 640, .inl (iA (va_up F1 i.toNat (B i.toNat))))), (ca, .inl (cI, 4096, .inl (iA P)))] _ := hP
      have hD : va_D A [(q, .inr (5, [.int (iI th), .int (iI ac), .int (iI dI), .int (iI dp), .ref sa, .int (iI bk), .int (iI rs), .int (iI nW), .int (iI nH), .int (iI mt), .int (iI op), .int (iI x), .int (iI y), .int (iI wd), .int (iI ht), .int (iI sc), .int (iI rw), .int (iI ln), .ref ea, .ref fa, .ref ca, .int (iI ct), .int (iI kr), .int (iI kb), .int (iI ov)])), (ea, .inl (cI, 640, .inl (iA B))), (fa, .inl (cI, 640, .inl (iA (va_up F1 i.toNat (B i.toNat))))), (ca, .inl (cI, 4096, .inl (iA P)))] := hD
      refine xi_iinc (lv' := [(1, .int (iI (i + 1))), (0, .ref q)]) hx hb d_Mo_unpack_33 hl (k := 0) rfl (by decide) rfl (fun ls hl => ?_)
      refine lv_goto (tgt := 2) hx hb d_Mo_unpack_36 (by decide) ?_
      exact ih_2 (i + 1) (va_up F1 i.toNat (B i.toNat)) _ _ _ (by omega) ⟨by omega, fun j hj => by
              by_cases e : j = i.toNat
              · subst e; rw [up_s]; first | exact (if_pos c_19).symm | exact (if_neg c_19).symm
              · rw [up_n _ _ e]; exact k2 j (by omega), hP, hD, hS, hl⟩
