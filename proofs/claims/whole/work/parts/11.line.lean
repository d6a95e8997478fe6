theorem d_Lo_bitCount_0 : decode b_Lo_bitCount 0 = .ok (.lload_n 0, 1) := by decide +kernel
theorem d_Lo_bitCount_1 : decode b_Lo_bitCount 1 = .ok (.lload_n 0, 1) := by decide +kernel
theorem d_Lo_bitCount_2 : decode b_Lo_bitCount 2 = .ok (.iconst 1, 1) := by decide +kernel
theorem d_Lo_bitCount_3 : decode b_Lo_bitCount 3 = .ok (.lushr, 1) := by decide +kernel
theorem d_Lo_bitCount_4 : decode b_Lo_bitCount 4 = .ok (.ldc2_w 314, 3) := by decide +kernel
theorem d_Lo_bitCount_7 : decode b_Lo_bitCount 7 = .ok (.land, 1) := by decide +kernel
theorem d_Lo_bitCount_8 : decode b_Lo_bitCount 8 = .ok (.lsub, 1) := by decide +kernel
theorem d_Lo_bitCount_9 : decode b_Lo_bitCount 9 = .ok (.lstore_n 0, 1) := by decide +kernel
theorem d_Lo_bitCount_10 : decode b_Lo_bitCount 10 = .ok (.lload_n 0, 1) := by decide +kernel
theorem d_Lo_bitCount_11 : decode b_Lo_bitCount 11 = .ok (.ldc2_w 316, 3) := by decide +kernel
theorem d_Lo_bitCount_14 : decode b_Lo_bitCount 14 = .ok (.land, 1) := by decide +kernel
theorem d_Lo_bitCount_15 : decode b_Lo_bitCount 15 = .ok (.lload_n 0, 1) := by decide +kernel
theorem d_Lo_bitCount_16 : decode b_Lo_bitCount 16 = .ok (.iconst 2, 1) := by decide +kernel
theorem d_Lo_bitCount_17 : decode b_Lo_bitCount 17 = .ok (.lushr, 1) := by decide +kernel
theorem d_Lo_bitCount_18 : decode b_Lo_bitCount 18 = .ok (.ldc2_w 316, 3) := by decide +kernel
theorem d_Lo_bitCount_21 : decode b_Lo_bitCount 21 = .ok (.land, 1) := by decide +kernel
theorem d_Lo_bitCount_22 : decode b_Lo_bitCount 22 = .ok (.ladd, 1) := by decide +kernel
theorem d_Lo_bitCount_23 : decode b_Lo_bitCount 23 = .ok (.lstore_n 0, 1) := by decide +kernel
theorem d_Lo_bitCount_24 : decode b_Lo_bitCount 24 = .ok (.lload_n 0, 1) := by decide +kernel
theorem d_Lo_bitCount_25 : decode b_Lo_bitCount 25 = .ok (.lload_n 0, 1) := by decide +kernel
theorem d_Lo_bitCount_26 : decode b_Lo_bitCount 26 = .ok (.iconst 4, 1) := by decide +kernel
theorem d_Lo_bitCount_27 : decode b_Lo_bitCount 27 = .ok (.lushr, 1) := by decide +kernel
theorem d_Lo_bitCount_28 : decode b_Lo_bitCount 28 = .ok (.ladd, 1) := by decide +kernel
theorem d_Lo_bitCount_29 : decode b_Lo_bitCount 29 = .ok (.ldc2_w 318, 3) := by decide +kernel
theorem d_Lo_bitCount_32 : decode b_Lo_bitCount 32 = .ok (.land, 1) := by decide +kernel
theorem d_Lo_bitCount_33 : decode b_Lo_bitCount 33 = .ok (.lstore_n 0, 1) := by decide +kernel
theorem d_Lo_bitCount_34 : decode b_Lo_bitCount 34 = .ok (.lload_n 0, 1) := by decide +kernel
theorem d_Lo_bitCount_35 : decode b_Lo_bitCount 35 = .ok (.lload_n 0, 1) := by decide +kernel
theorem d_Lo_bitCount_36 : decode b_Lo_bitCount 36 = .ok (.bipush 8, 2) := by decide +kernel
theorem d_Lo_bitCount_38 : decode b_Lo_bitCount 38 = .ok (.lushr, 1) := by decide +kernel
theorem d_Lo_bitCount_39 : decode b_Lo_bitCount 39 = .ok (.ladd, 1) := by decide +kernel
theorem d_Lo_bitCount_40 : decode b_Lo_bitCount 40 = .ok (.lstore_n 0, 1) := by decide +kernel
theorem d_Lo_bitCount_41 : decode b_Lo_bitCount 41 = .ok (.lload_n 0, 1) := by decide +kernel
theorem d_Lo_bitCount_42 : decode b_Lo_bitCount 42 = .ok (.lload_n 0, 1) := by decide +kernel
theorem d_Lo_bitCount_43 : decode b_Lo_bitCount 43 = .ok (.bipush 16, 2) := by decide +kernel
theorem d_Lo_bitCount_45 : decode b_Lo_bitCount 45 = .ok (.lushr, 1) := by decide +kernel
theorem d_Lo_bitCount_46 : decode b_Lo_bitCount 46 = .ok (.ladd, 1) := by decide +kernel
theorem d_Lo_bitCount_47 : decode b_Lo_bitCount 47 = .ok (.lstore_n 0, 1) := by decide +kernel
theorem d_Lo_bitCount_48 : decode b_Lo_bitCount 48 = .ok (.lload_n 0, 1) := by decide +kernel
theorem d_Lo_bitCount_49 : decode b_Lo_bitCount 49 = .ok (.lload_n 0, 1) := by decide +kernel
theorem d_Lo_bitCount_50 : decode b_Lo_bitCount 50 = .ok (.bipush 32, 2) := by decide +kernel
theorem d_Lo_bitCount_52 : decode b_Lo_bitCount 52 = .ok (.lushr, 1) := by decide +kernel
theorem d_Lo_bitCount_53 : decode b_Lo_bitCount 53 = .ok (.ladd, 1) := by decide +kernel
theorem d_Lo_bitCount_54 : decode b_Lo_bitCount 54 = .ok (.lstore_n 0, 1) := by decide +kernel
theorem d_Lo_bitCount_55 : decode b_Lo_bitCount 55 = .ok (.lload_n 0, 1) := by decide +kernel
theorem d_Lo_bitCount_56 : decode b_Lo_bitCount 56 = .ok (.l2i, 1) := by decide +kernel
theorem d_Lo_bitCount_57 : decode b_Lo_bitCount 57 = .ok (.bipush 127, 2) := by decide +kernel
theorem d_Lo_bitCount_59 : decode b_Lo_bitCount 59 = .ok (.iand, 1) := by decide +kernel
theorem d_Lo_bitCount_60 : decode b_Lo_bitCount 60 = .ok (.ireturn, 1) := by decide +kernel
theorem ds_Lo_bitCount : xDesc y_Lo_bitCount 1 := by decide +kernel

abbrev rm_Lo_bitCountN : Room := { frames := 0, cells := 0, slots := 0, locals := 0 }
set_option maxHeartbeats 4000000 in
set_option maxRecDepth 100000 in
/-- Long.bitCount, by the number of the long -/
theorem c_Lo_bitCountN (l : Launch) (D : va_G) (cI cJ cQ : ClassId) (n : Nat) (hn : n < 2 ^ 64) : xMet l D (xT cI cJ cQ) y_Lo_bitCount b_Lo_bitCount 2 (some .int) rm_Lo_bitCountN [.long (lN n)] [] (fun v ws => v = some (.int (iI ((pcN n.testBit 64 : Nat) : Int))) ∧ ws = []) := by
  refine x_met (by decide) (Nat.le_of_ble_eq_true rfl) ?_
  intro p e s m below meth c hx hb hr hml hts hown hlocks hin hF0 A hA hP hD hK ls hl hS
  have hl : lv_has ls 2 [(0, .long (lN n))] := hl
  refine lv_lload_n hx hb d_Lo_bitCount_0 rfl (lv_at hl 0 rfl) ?_
  refine lv_lload_n hx hb d_Lo_bitCount_1 rfl (lv_at hl 0 rfl) ?_
  refine xi_iconst hx hb d_Lo_bitCount_2 ?_
  refine lv_lushr (v := lN (n / 2)) hx hb d_Lo_bitCount_3 (wb_shr hn (k := 1) (by decide)) ?_
  refine lv_ldc2 hx hb hown (hts _ kw_424) d_Lo_bitCount_4 ?_
  refine xl_land (v := lN (n / 2 &&& m5 16)) hx hb d_Lo_bitCount_7 (by rw [(show (6148914691236517205 : Int64) = lN (m5 16) from by decide +kernel)]; exact wb_and (by omega) (by decide +kernel)) ?_
  refine xl_lsub (v := lN (n - (n / 2 &&& m5 16))) hx hb d_Lo_bitCount_8 (lN_sub (Nat.le_trans Nat.and_le_left (by omega))) ?_
  refine lv_lstore_n (lv' := [(0, .long (lN (n - (n / 2 &&& m5 16))))]) hx hb d_Lo_bitCount_9 rfl hl (by decide) rfl (fun ls hl => ?_)
  refine lv_lload_n hx hb d_Lo_bitCount_10 rfl (lv_at hl 0 rfl) ?_
  refine lv_ldc2 hx hb hown (hts _ kw_425) d_Lo_bitCount_11 ?_
  refine xl_land (v := lN ((n - (n / 2 &&& m5 16)) &&& m3 16)) hx hb d_Lo_bitCount_14 (by rw [(show (3689348814741910323 : Int64) = lN (m3 16) from by decide +kernel)]; exact wb_and (by omega) (by decide +kernel)) ?_
  refine lv_lload_n hx hb d_Lo_bitCount_15 rfl (lv_at hl 0 rfl) ?_
  refine xi_iconst hx hb d_Lo_bitCount_16 ?_
  refine lv_lushr (v := lN ((n - (n / 2 &&& m5 16)) / 4)) hx hb d_Lo_bitCount_17 (wb_shr (by omega) (k := 2) (by decide)) ?_
  refine lv_ldc2 hx hb hown (hts _ kw_425) d_Lo_bitCount_18 ?_
  refine xl_land (v := lN ((n - (n / 2 &&& m5 16)) / 4 &&& m3 16)) hx hb d_Lo_bitCount_21 (by rw [(show (3689348814741910323 : Int64) = lN (m3 16) from by decide +kernel)]; exact wb_and (by omega) (by decide +kernel)) ?_
  refine xl_ladd (v := lN (gN pc4 16 n)) hx hb d_Lo_bitCount_22 (by rw [lN_add, pop12 (k := 16) (by omega)]) ?_
  have hg : gN pc4 16 n < 16 ^ 16 := gN_lt pc4 (fun d _ => Nat.lt_of_le_of_lt (pc4_le d) (by decide)) 16 n
  refine lv_lstore_n (lv' := [(0, .long (lN (gN pc4 16 n)))]) hx hb d_Lo_bitCount_23 rfl hl (by decide) rfl (fun ls hl => ?_)
  refine lv_lload_n hx hb d_Lo_bitCount_24 rfl (lv_at hl 0 rfl) ?_
  refine lv_lload_n hx hb d_Lo_bitCount_25 rfl (lv_at hl 0 rfl) ?_
  refine xi_iconst hx hb d_Lo_bitCount_26 ?_
  refine lv_lushr (v := lN (gN pc4 16 n / 16)) hx hb d_Lo_bitCount_27 (wb_shr (by omega) (k := 4) (by decide)) ?_
  refine xl_ladd (v := lN (gN pc4 16 n + gN pc4 16 n / 16)) hx hb d_Lo_bitCount_28 (lN_add _ _) ?_
  refine lv_ldc2 hx hb hown (hts _ kw_426) d_Lo_bitCount_29 ?_
  have hg2 : gN pc4 16 n + gN pc4 16 n / 16 < 2 ^ 64 := by
    have h0 := pc4_le (n % 16); have e0 : gN pc4 16 n = pc4 (n % 16) + 16 * gN pc4 15 (n / 16) := rfl
    have h1 : gN pc4 16 n % 16 ≤ 4 := gN_mod 16 n
    have h15 := gN_lt2 16 n
    omega
  refine xl_land (v := lN (bc3 n)) hx hb d_Lo_bitCount_32 (by rw [(show (1085102592571150095 : Int64) = lN (mF 8) from by decide +kernel), wb_and hg2 (by decide +kernel)]; exact congrArg lN (pop3 8 n)) ?_
  obtain ⟨g1, g2, g3, g4, g5⟩ := bc6_eq n
  refine lv_lstore_n (lv' := [(0, .long (lN (bc3 n)))]) hx hb d_Lo_bitCount_33 rfl hl (by decide) rfl (fun ls hl => ?_)
  refine lv_lload_n hx hb d_Lo_bitCount_34 rfl (lv_at hl 0 rfl) ?_
  refine lv_lload_n hx hb d_Lo_bitCount_35 rfl (lv_at hl 0 rfl) ?_
  refine xi_bipush hx hb d_Lo_bitCount_36 (by decide) ?_
  refine lv_lushr (v := lN (bc3 n / 256)) hx hb d_Lo_bitCount_38 (wb_shr (by omega) (k := 8) (by decide)) ?_
  refine xl_ladd (v := lN (bc3 n + bc3 n / 256)) hx hb d_Lo_bitCount_39 (lN_add _ _) ?_
  refine lv_lstore_n (lv' := [(0, .long (lN (bc3 n + bc3 n / 256)))]) hx hb d_Lo_bitCount_40 rfl hl (by decide) rfl (fun ls hl => ?_)
  refine lv_lload_n hx hb d_Lo_bitCount_41 rfl (lv_at hl 0 rfl) ?_
  refine lv_lload_n hx hb d_Lo_bitCount_42 rfl (lv_at hl 0 rfl) ?_
  refine xi_bipush hx hb d_Lo_bitCount_43 (by decide) ?_
  refine lv_lushr (v := lN ((bc3 n + bc3 n / 256) / 65536)) hx hb d_Lo_bitCount_45 (wb_shr (Nat.lt_trans g2 (by decide)) (k := 16) (by decide)) ?_
  refine xl_ladd (v := lN (bc3 n + bc3 n / 256 + (bc3 n + bc3 n / 256) / 65536)) hx hb d_Lo_bitCount_46 (lN_add _ _) ?_
  refine lv_lstore_n (lv' := [(0, .long (lN (bc3 n + bc3 n / 256 + (bc3 n + bc3 n / 256) / 65536)))]) hx hb d_Lo_bitCount_47 rfl hl (by decide) rfl (fun ls hl => ?_)
  refine lv_lload_n hx hb d_Lo_bitCount_48 rfl (lv_at hl 0 rfl) ?_
  refine lv_lload_n hx hb d_Lo_bitCount_49 rfl (lv_at hl 0 rfl) ?_
  refine xi_bipush hx hb d_Lo_bitCount_50 (by decide) ?_
  refine lv_lushr (v := lN ((bc3 n + bc3 n / 256 + (bc3 n + bc3 n / 256) / 65536) / 4294967296)) hx hb d_Lo_bitCount_52 (wb_shr (Nat.lt_trans g3 (by decide)) (k := 32) (by decide)) ?_
  refine xl_ladd (v := lN (bc6 n)) hx hb d_Lo_bitCount_53 (lN_add _ _) ?_
  refine lv_lstore_n (lv' := [(0, .long (lN (bc6 n)))]) hx hb d_Lo_bitCount_54 rfl hl (by decide) rfl (fun ls hl => ?_)
  refine lv_lload_n hx hb d_Lo_bitCount_55 rfl (lv_at hl 0 rfl) ?_
  refine lv_l2i (v := iI ((bc6 n : Nat) : Int)) hx hb d_Lo_bitCount_56 (by rw [lN_i, iI_nat]) ?_
  refine xi_bipush hx hb d_Lo_bitCount_57 (by decide) ?_
  refine xk_iand (v := iI ((pcN n.testBit 64 : Nat) : Int)) hx hb d_Lo_bitCount_59 (by rw [iI_mask _ 7 (by decide) (by decide +kernel), ← g1]; congr 1) ?_
  exact x_iret hx hb hr hlocks hP hD hS (by decide) (by decide) ⟨rfl, rfl⟩ d_Lo_bitCount_60

theorem c_Lo_bitCount (l : Launch) (D : va_G) (cI cJ cQ : ClassId) (w : Int64) : xMet l D (xT cI cJ cQ) y_Lo_bitCount b_Lo_bitCount 2 (some .int) rm_Lo_bitCountN [.long w] [] (fun v ws => v = some (.int (iI ((pcw w : Nat) : Int))) ∧ ws = []) := by
  obtain ⟨n, hn, rfl⟩ := wb_of w
  rw [pcw_lN hn]
  exact c_Lo_bitCountN l D cI cJ cQ n hn

theorem d_Ln_init_0 : decode b_Ln_init 0 = .ok (.aload_n 0, 1) := by decide +kernel
theorem d_Ln_init_1 : decode b_Ln_init 1 = .ok (.invokespecial 1, 3) := by decide +kernel
theorem d_Ln_init_4 : decode b_Ln_init 4 = .ok (.aload_n 0, 1) := by decide +kernel
theorem d_Ln_init_5 : decode b_Ln_init 5 = .ok (.iload_n 1, 1) := by decide +kernel
theorem d_Ln_init_6 : decode b_Ln_init 6 = .ok (.iconst 0, 1) := by decide +kernel
theorem d_Ln_init_7 : decode b_Ln_init 7 = .ok (.invokestatic 7, 3) := by decide +kernel
theorem d_Ln_init_10 : decode b_Ln_init 10 = .ok (.putfield 13, 3) := by decide +kernel
theorem d_Ln_init_13 : decode b_Ln_init 13 = .ok (.aload_n 0, 1) := by decide +kernel
theorem d_Ln_init_14 : decode b_Ln_init 14 = .ok (.aload_n 0, 1) := by decide +kernel
theorem d_Ln_init_15 : decode b_Ln_init 15 = .ok (.getfield 13, 3) := by decide +kernel
theorem d_Ln_init_18 : decode b_Ln_init 18 = .ok (.bipush 63, 2) := by decide +kernel
theorem d_Ln_init_20 : decode b_Ln_init 20 = .ok (.iadd, 1) := by decide +kernel
theorem d_Ln_init_21 : decode b_Ln_init 21 = .ok (.bipush 64, 2) := by decide +kernel
theorem d_Ln_init_23 : decode b_Ln_init 23 = .ok (.idiv, 1) := by decide +kernel
theorem d_Ln_init_24 : decode b_Ln_init 24 = .ok (.newarray .long, 2) := by decide +kernel
theorem d_Ln_init_26 : decode b_Ln_init 26 = .ok (.putfield 19, 3) := by decide +kernel
theorem d_Ln_init_29 : decode b_Ln_init 29 = .ok (.return_, 1) := by decide +kernel
theorem ds_Ln_init : xDesc y_Ln_init 1 := by decide +kernel

abbrev rm_Ln_init : Room := { frames := 1, cells := 1, slots := 80, locals := 14 }
set_option maxHeartbeats 4000000 in
set_option maxRecDepth 100000 in
/-- Line(dots) -/
theorem c_Ln_init (l : Launch) (D : va_G) (cI cJ cQ : ClassId) (h : Nat) (d : Int) (h1 : 1 ≤ d) (h2 : d ≤ 5100) : xMet l D (xT cI cJ cQ) y_Ln_init b_Ln_init 2 none rm_Ln_init [.ref h, .int (iI d)] [(h, .inr (0, [.int (iI 0), .null]))] (fun v ws => ∃ (w : Nat) (nw : Nat), v = none ∧ ws = [(h, .inr (0, [.int (iI d), .ref w])), (w, .inl (cJ, nw, .inr (.inl (fun _ => 0))))] ∧ ((nw : Int) = (d + 63) / 64)) := by
  refine x_met (by decide) (Nat.le_of_ble_eq_true rfl) ?_
  intro p e s m below meth c hx hb hr hml hts hown hlocks hin hF0 A hA hP hD hK ls hl hS
  have hl : lv_has ls 2 [(0, .ref h), (1, .int (iI d))] := hl
  refine lv_aload_n hx hb d_Ln_init_0 rfl (lv_at hl 0 rfl) ?_
  refine W.objInit hx hb hown (hts _ kw_45) (hts _ kw_22) (hts _ kw_23) rfl (by rw [hml]; exact hl.1) rfl d_Ln_init_1 (Nat.le_of_ble_eq_true rfl) (Nat.le_of_ble_eq_true rfl) ?_
  refine W.eq (g2 := F0 m 4 ls []) rfl ?_
  refine lv_aload_n hx hb d_Ln_init_4 rfl (lv_at hl 0 rfl) ?_
  refine lv_iload_n hx hb d_Ln_init_5 rfl (lv_at hl 1 rfl) ?_
  refine xi_iconst hx hb d_Ln_init_6 ?_
  refine xi_mmax hx hb (hml.trans hl.1.symm) hown hts kw_46 (by decide) (Nat.le_of_ble_eq_true rfl) (by decide) (by decide) ⟨by omega, by omega⟩ ⟨by decide, by decide⟩ d_Ln_init_7 ?_
  rw [show max d 0 = d by omega]
  refine va_putF (D := D) (cl := xcl) (ci := 0) (v := .int (iI d)) (ty := .int) (C := R_Ln) (T := T_Ln) (N := 2) hx hb hts i_Ln ty_Ln ty_Ln_ok nm_Ln hown hK hP hD hS 0 rfl rfl 0 (by decide) (hts _ kw_47) (fun _ h9 => h9) rfl hin rfl (by decide +kernel) rfl rfl (Nat.le_of_ble_eq_true rfl) d_Ln_init_10 (fun H locs hP hD hS => ?_)
  have hP : va_P D xcl [(h, .inr (0, [.int (iI d), .null]))] _ := hP
  have hD : va_D A [(h, .inr (0, [.int (iI d), .null]))] := hD
  refine lv_aload_n hx hb d_Ln_init_13 rfl (lv_at hl 0 rfl) ?_
  refine lv_aload_n hx hb d_Ln_init_14 rfl (lv_at hl 0 rfl) ?_
  refine va_get (D := D) (cl := xcl) (ci := 0) (v := .int (iI d)) (C := R_Ln) (T := T_Ln) (N := 2) hx hb hts i_Ln hown hK hP 0 rfl rfl 0 (by decide) (hts _ kw_47) (fun _ h9 => h9) rfl d_Ln_init_15 ?_
  refine xi_bipush hx hb d_Ln_init_18 (by decide) ?_
  refine xi_iadd hx hb d_Ln_init_20 ?_
  refine xi_bipush hx hb d_Ln_init_21 (by decide) ?_
  refine xi_idiv hx hb d_Ln_init_23 ⟨by omega, by omega⟩ ⟨by omega, by omega⟩ ?_
  refine xi_newl (N := ((d + 63) / 64).toNat) hx hb (hts _ kw_54) hK hP hD hS hA (by omega) (by omega) (by decide) (by show 0 + _ ≤ 80; omega) d_Ln_init_24 (fun q24 H hP hD hS => ?_)
  have hP : va_P D xcl [(h, .inr (0, [.int (iI d), .null])), (q24, .inl (cJ, (((d + 63) / 64).toNat), .inr (.inl (fun _ => 0))))] _ := hP
  have hD : va_D A [(h, .inr (0, [.int (iI d), .null])), (q24, .inl (cJ, (((d + 63) / 64).toNat), .inr (.inl (fun _ => 0))))] := hD
  refine W.widen (k := 1) (n := 80) (by decide) (by omega) ?_
  refine va_putF (D := D) (cl := xcl) (ci := 0) (v := .ref q24) (ty := .array (.long)) (C := R_Ln) (T := T_Ln) (N := 2) hx hb hts i_Ln ty_Ln ty_Ln_ok nm_Ln hown hK hP hD hS 0 rfl rfl 1 (by decide) (hts _ kw_48) (fun _ h9 => h9) rfl hin rfl (by decide +kernel) rfl rfl (Nat.le_of_ble_eq_true rfl) d_Ln_init_26 (fun H locs hP hD hS => ?_)
  have hP : va_P D xcl [(h, .inr (0, [.int (iI d), .ref q24])), (q24, .inl (cJ, (((d + 63) / 64).toNat), .inr (.inl (fun _ => 0))))] _ := hP
  have hD : va_D A [(h, .inr (0, [.int (iI d), .ref q24])), (q24, .inl (cJ, (((d + 63) / 64).toNat), .inr (.inl (fun _ => 0))))] := hD
  exact x_vret hx hb hr hlocks hP hD hS (by decide) (by decide) ⟨q24, (((d + 63) / 64).toNat), rfl, rfl, by omega⟩ d_Ln_init_29

theorem d_Ln_bitOf_0 : decode b_Ln_bitOf 0 = .ok (.lconst 1, 1) := by decide +kernel
theorem d_Ln_bitOf_1 : decode b_Ln_bitOf 1 = .ok (.bipush 63, 2) := by decide +kernel
theorem d_Ln_bitOf_3 : decode b_Ln_bitOf 3 = .ok (.iload_n 0, 1) := by decide +kernel
theorem d_Ln_bitOf_4 : decode b_Ln_bitOf 4 = .ok (.bipush 63, 2) := by decide +kernel
theorem d_Ln_bitOf_6 : decode b_Ln_bitOf 6 = .ok (.iand, 1) := by decide +kernel
theorem d_Ln_bitOf_7 : decode b_Ln_bitOf 7 = .ok (.isub, 1) := by decide +kernel
theorem d_Ln_bitOf_8 : decode b_Ln_bitOf 8 = .ok (.lshl, 1) := by decide +kernel
theorem d_Ln_bitOf_9 : decode b_Ln_bitOf 9 = .ok (.lreturn, 1) := by decide +kernel
theorem ds_Ln_bitOf : xDesc y_Ln_bitOf 1 := by decide +kernel

abbrev rm_Ln_bitOf : Room := { frames := 0, cells := 0, slots := 0, locals := 0 }
set_option maxHeartbeats 4000000 in
set_option maxRecDepth 100000 in
/-- Line.bitOf -/
theorem c_Ln_bitOf (l : Launch) (D : va_G) (cI cJ cQ : ClassId) (x : Int) : xMet l D (xT cI cJ cQ) y_Ln_bitOf b_Ln_bitOf 1 (some .long) rm_Ln_bitOf [.int (iI x)] [] (fun v ws => v = some (.long (bW (63 - x % 64).toNat)) ∧ ws = []) := by
  refine x_met (by decide) (Nat.le_of_ble_eq_true rfl) ?_
  intro p e s m below meth c hx hb hr hml hts hown hlocks hin hF0 A hA hP hD hK ls hl hS
  have hl : lv_has ls 1 [(0, .int (iI x))] := hl
  refine lv_lconst (v := 1) hx hb d_Ln_bitOf_0 (by decide) ?_
  refine xi_bipush hx hb d_Ln_bitOf_1 (by decide) ?_
  refine lv_iload_n hx hb d_Ln_bitOf_3 rfl (lv_at hl 0 rfl) ?_
  refine xi_bipush hx hb d_Ln_bitOf_4 (by decide) ?_
  refine xk_iand (v := iI (x % 64)) hx hb d_Ln_bitOf_6 (iI_and63 x) ?_
  refine xi_isub hx hb d_Ln_bitOf_7 ?_
  refine lv_lshl (v := bW (63 - x % 64).toNat) hx hb d_Ln_bitOf_8 (by rw [← bW_shl (63 - x % 64).toNat (by omega), Int.toNat_of_nonneg (by omega)]) ?_
  exact x_lret hx hb hr hlocks hP hD hS (by decide) (by decide) ⟨rfl, rfl⟩ d_Ln_bitOf_9

theorem d_Ln_wordAt_0 : decode b_Ln_wordAt 0 = .ok (.iload_n 1, 1) := by decide +kernel
theorem d_Ln_wordAt_1 : decode b_Ln_wordAt 1 = .ok (.ifCond .lt 21, 3) := by decide +kernel
theorem d_Ln_wordAt_4 : decode b_Ln_wordAt 4 = .ok (.iload_n 1, 1) := by decide +kernel
theorem d_Ln_wordAt_5 : decode b_Ln_wordAt 5 = .ok (.aload_n 0, 1) := by decide +kernel
theorem d_Ln_wordAt_6 : decode b_Ln_wordAt 6 = .ok (.getfield 19, 3) := by decide +kernel
theorem d_Ln_wordAt_9 : decode b_Ln_wordAt 9 = .ok (.arraylength, 1) := by decide +kernel
theorem d_Ln_wordAt_10 : decode b_Ln_wordAt 10 = .ok (.if_icmp .ge 12, 3) := by decide +kernel
theorem d_Ln_wordAt_13 : decode b_Ln_wordAt 13 = .ok (.aload_n 0, 1) := by decide +kernel
theorem d_Ln_wordAt_14 : decode b_Ln_wordAt 14 = .ok (.getfield 19, 3) := by decide +kernel
theorem d_Ln_wordAt_17 : decode b_Ln_wordAt 17 = .ok (.iload_n 1, 1) := by decide +kernel
theorem d_Ln_wordAt_18 : decode b_Ln_wordAt 18 = .ok (.laload, 1) := by decide +kernel
theorem d_Ln_wordAt_19 : decode b_Ln_wordAt 19 = .ok (.goto 4, 3) := by decide +kernel
theorem d_Ln_wordAt_22 : decode b_Ln_wordAt 22 = .ok (.lconst 0, 1) := by decide +kernel
theorem d_Ln_wordAt_23 : decode b_Ln_wordAt 23 = .ok (.lreturn, 1) := by decide +kernel
theorem ds_Ln_wordAt : xDesc y_Ln_wordAt 1 := by decide +kernel

abbrev rm_Ln_wordAt : Room := { frames := 0, cells := 0, slots := 0, locals := 0 }
set_option maxHeartbeats 4000000 in
set_option maxRecDepth 100000 in
/-- Line.wordAt -/
theorem c_Ln_wordAt (l : Launch) (D : va_G) (cI cJ cQ : ClassId) (h : Nat) (dots : Int) (w : Nat) (nw : Nat) (f : Nat → Int64) (k : Int) (hnw : nw ≤ 80) (hk : inR k) : xMet l D (xT cI cJ cQ) y_Ln_wordAt b_Ln_wordAt 2 (some .long) rm_Ln_wordAt [.ref h, .int (iI k)] [(h, .inr (0, [.int (iI dots), .ref w])), (w, .inl (cJ, nw, .inr (.inl f)))] (fun v ws => ∃ (r : Int64), v = some (.long r) ∧ ws = [(h, .inr (0, [.int (iI dots), .ref w])), (w, .inl (cJ, nw, .inr (.inl f)))] ∧ (0 ≤ k → k < (nw : Int) → r = f k.toNat) ∧ ((k < 0 ∨ (nw : Int) ≤ k) → r = 0)) := by
  refine x_met (by decide) (Nat.le_of_ble_eq_true rfl) ?_
  intro p e s m below meth c hx hb hr hml hts hown hlocks hin hF0 A hA hP hD hK ls hl hS
  have hl : lv_has ls 2 [(0, .ref h), (1, .int (iI k))] := hl
  refine lv_iload_n hx hb d_Ln_wordAt_0 rfl (lv_at hl 1 rfl) ?_
  refine xi_if_lt (tgt := 22) hx hb d_Ln_wordAt_1 (by decide) ⟨by omega, by omega⟩ (fun c_1 => ?_) (fun c_1 => ?_)
  ·
    refine lv_lconst (v := 0) hx hb d_Ln_wordAt_22 (by decide) ?_
    exact x_lret hx hb hr hlocks hP hD hS (by decide) (by decide) ⟨0, rfl, rfl, fun _ _ => by omega, fun _ => rfl⟩ d_Ln_wordAt_23
  ·
    refine lv_iload_n hx hb d_Ln_wordAt_4 rfl (lv_at hl 1 rfl) ?_
    refine lv_aload_n hx hb d_Ln_wordAt_5 rfl (lv_at hl 0 rfl) ?_
    refine va_get (D := D) (cl := xcl) (ci := 0) (v := .ref w) (C := R_Ln) (T := T_Ln) (N := 2) hx hb hts i_Ln hown hK hP 0 rfl rfl 1 (by decide) (hts _ kw_48) (fun _ h9 => h9) rfl d_Ln_wordAt_6 ?_
    refine xi_alen (z := (nw : Int)) hx hb hK hP 1 1 rfl rfl rfl d_Ln_wordAt_9 ?_
    refine xi_icmp_ge (tgt := 22) hx hb d_Ln_wordAt_10 (by decide) ⟨by omega, by omega⟩ ⟨by omega, by omega⟩ (fun c_10 => ?_) (fun c_10 => ?_)
    ·
      refine lv_lconst (v := 0) hx hb d_Ln_wordAt_22 (by decide) ?_
      exact x_lret hx hb hr hlocks hP hD hS (by decide) (by decide) ⟨0, rfl, rfl, fun _ _ => by omega, fun _ => rfl⟩ d_Ln_wordAt_23
    ·
      refine lv_aload_n hx hb d_Ln_wordAt_13 rfl (lv_at hl 0 rfl) ?_
      refine va_get (D := D) (cl := xcl) (ci := 0) (v := .ref w) (C := R_Ln) (T := T_Ln) (N := 2) hx hb hts i_Ln hown hK hP 0 rfl rfl 1 (by decide) (hts _ kw_48) (fun _ h9 => h9) rfl d_Ln_wordAt_14 ?_
      refine lv_iload_n hx hb d_Ln_wordAt_17 rfl (lv_at hl 1 rfl) ?_
      refine xi_lald hx hb hK hP 1 1 rfl rfl (by omega) (by omega) (by omega) d_Ln_wordAt_18 ?_
      refine lv_goto (tgt := 23) hx hb d_Ln_wordAt_19 (by decide) ?_
      exact x_lret hx hb hr hlocks hP hD hS (by decide) (by decide) ⟨(f k.toNat), rfl, rfl, fun _ _ => rfl, fun q => by omega⟩ d_Ln_wordAt_23

theorem d_Ln_whiten_0 : decode b_Ln_whiten 0 = .ok (.aload_n 0, 1) := by decide +kernel
theorem d_Ln_whiten_1 : decode b_Ln_whiten 1 = .ok (.getfield 19, 3) := by decide +kernel
theorem d_Ln_whiten_4 : decode b_Ln_whiten 4 = .ok (.lconst 0, 1) := by decide +kernel
theorem d_Ln_whiten_5 : decode b_Ln_whiten 5 = .ok (.invokestatic 23, 3) := by decide +kernel
theorem d_Ln_whiten_8 : decode b_Ln_whiten 8 = .ok (.return_, 1) := by decide +kernel
theorem ds_Ln_whiten : xDesc y_Ln_whiten 0 := by decide +kernel

abbrev rm_Ln_whiten : Room := { frames := 1, cells := 0, slots := 0, locals := 24 }
set_option maxHeartbeats 4000000 in
set_option maxRecDepth 100000 in
/-- Line.whiten -/
theorem c_Ln_whiten (l : Launch) (D : va_G) (cI cJ cQ : ClassId) (h : Nat) (dots : Int) (w : Nat) (nw : Nat) (f : Nat → Int64) (hnw : nw ≤ 80) : xMet l D (xT cI cJ cQ) y_Ln_whiten b_Ln_whiten 1 none rm_Ln_whiten [.ref h] [(h, .inr (0, [.int (iI dots), .ref w])), (w, .inl (cJ, nw, .inr (.inl f)))] (fun v ws => v = none ∧ ws = [(h, .inr (0, [.int (iI dots), .ref w])), (w, .inl (cJ, nw, .inr (.inl (fun _ => 0))))]) := by
  refine x_met (by decide) (Nat.le_of_ble_eq_true rfl) ?_
  intro p e s m below meth c hx hb hr hml hts hown hlocks hin hF0 A hA hP hD hK ls hl hS
  have hl : lv_has ls 1 [(0, .ref h)] := hl
  refine lv_aload_n hx hb d_Ln_whiten_0 rfl (lv_at hl 0 rfl) ?_
  refine va_get (D := D) (cl := xcl) (ci := 0) (v := .ref w) (C := R_Ln) (T := T_Ln) (N := 2) hx hb hts i_Ln hown hK hP 0 rfl rfl 1 (by decide) (hts _ kw_48) (fun _ h9 => h9) rfl d_Ln_whiten_1 ?_
  refine lv_lconst (v := 0) hx hb d_Ln_whiten_4 (by decide) ?_
  refine x_aft (x_runS (As := [.ref w, .long 0]) (rest := []) hx hb hml hown hts (c_Ar_fillJ l D cI cJ cQ w nw f 0 (by omega)) kw_232 kw_233 kw_8 kw_234 ds_Ar_fillJ (by decide) hK (hP.sub (ws' := [(w, .inl (cJ, nw, .inr (.inl f)))]) [1] rfl) (hD.sub (ws' := [(w, .inl (cJ, nw, .inr (.inl f)))]) [1] (by decide) rfl) hl.1 rfl (Nat.le_of_ble_eq_true rfl) d_Ln_whiten_5) hP hD hS hA [1] [0] rfl (wr := [(h, .inr (0, [.int (iI dots), .ref w]))]) rfl (by decide) (by decide) (fun v w1 H locs hq hP hD hS => ?_)
  obtain ⟨rfl, rfl⟩ := hq
  refine W.cs (cells' := 0) (slots' := 0) rfl rfl ?_
  refine W.eq (g2 := F0 m 8 ls []) rfl ?_
  have hP : va_P D xcl [(h, .inr (0, [.int (iI dots), .ref w])), (w, .inl (cJ, nw, .inr (.inl (fun _ => 0))))] _ := hP
  have hD : va_D A [(h, .inr (0, [.int (iI dots), .ref w])), (w, .inl (cJ, nw, .inr (.inl (fun _ => 0))))] := hD
  exact x_vret hx hb hr hlocks hP hD hS (by decide) (by decide) ⟨rfl, rfl⟩ d_Ln_whiten_8
