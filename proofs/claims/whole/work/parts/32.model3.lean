theorem d_Mo_eject_0 : decode b_Mo_eject 0 = .ok (.aload_n 0, 1) := by decide +kernel
theorem d_Mo_eject_1 : decode b_Mo_eject 1 = .ok (.iconst 0, 1) := by decide +kernel
theorem d_Mo_eject_2 : decode b_Mo_eject 2 = .ok (.putfield 36, 3) := by decide +kernel
theorem d_Mo_eject_5 : decode b_Mo_eject 5 = .ok (.iconst 0, 1) := by decide +kernel
theorem d_Mo_eject_6 : decode b_Mo_eject 6 = .ok (.istore_n 1, 1) := by decide +kernel
theorem d_Mo_eject_7 : decode b_Mo_eject 7 = .ok (.iload_n 1, 1) := by decide +kernel
theorem d_Mo_eject_8 : decode b_Mo_eject 8 = .ok (.aload_n 0, 1) := by decide +kernel
theorem d_Mo_eject_9 : decode b_Mo_eject 9 = .ok (.getfield 29, 3) := by decide +kernel
theorem d_Mo_eject_12 : decode b_Mo_eject 12 = .ok (.arraylength, 1) := by decide +kernel
theorem d_Mo_eject_13 : decode b_Mo_eject 13 = .ok (.if_icmp .ge 16, 3) := by decide +kernel
theorem d_Mo_eject_16 : decode b_Mo_eject 16 = .ok (.aload_n 0, 1) := by decide +kernel
theorem d_Mo_eject_17 : decode b_Mo_eject 17 = .ok (.getfield 29, 3) := by decide +kernel
theorem d_Mo_eject_20 : decode b_Mo_eject 20 = .ok (.iload_n 1, 1) := by decide +kernel
theorem d_Mo_eject_21 : decode b_Mo_eject 21 = .ok (.lconst 0, 1) := by decide +kernel
theorem d_Mo_eject_22 : decode b_Mo_eject 22 = .ok (.lastore, 1) := by decide +kernel
theorem d_Mo_eject_23 : decode b_Mo_eject 23 = .ok (.iinc 1 1, 3) := by decide +kernel
theorem d_Mo_eject_26 : decode b_Mo_eject 26 = .ok (.goto (-19), 3) := by decide +kernel
theorem d_Mo_eject_29 : decode b_Mo_eject 29 = .ok (.aload_n 0, 1) := by decide +kernel
theorem d_Mo_eject_30 : decode b_Mo_eject 30 = .ok (.iconst 0, 1) := by decide +kernel
theorem d_Mo_eject_31 : decode b_Mo_eject 31 = .ok (.putfield 98, 3) := by decide +kernel
theorem d_Mo_eject_34 : decode b_Mo_eject 34 = .ok (.aload_n 0, 1) := by decide +kernel
theorem d_Mo_eject_35 : decode b_Mo_eject 35 = .ok (.iconst 0, 1) := by decide +kernel
theorem d_Mo_eject_36 : decode b_Mo_eject 36 = .ok (.putfield 107, 3) := by decide +kernel
theorem d_Mo_eject_39 : decode b_Mo_eject 39 = .ok (.aload_n 0, 1) := by decide +kernel
theorem d_Mo_eject_40 : decode b_Mo_eject 40 = .ok (.iconst 0, 1) := by decide +kernel
theorem d_Mo_eject_41 : decode b_Mo_eject 41 = .ok (.putfield 110, 3) := by decide +kernel
theorem d_Mo_eject_44 : decode b_Mo_eject 44 = .ok (.aload_n 0, 1) := by decide +kernel
theorem d_Mo_eject_45 : decode b_Mo_eject 45 = .ok (.iconst 0, 1) := by decide +kernel
theorem d_Mo_eject_46 : decode b_Mo_eject 46 = .ok (.putfield 118, 3) := by decide +kernel
theorem d_Mo_eject_49 : decode b_Mo_eject 49 = .ok (.return_, 1) := by decide +kernel
theorem ds_Mo_eject : xDesc y_Mo_eject 0 := by decide +kernel

abbrev rm_Mo_eject : Room := { frames := 0, cells := 0, slots := 0, locals := 0 }
set_option maxHeartbeats 4000000 in
set_option maxRecDepth 100000 in
/-- Model.eject -/
theorem c_Mo_eject (l : Launch) (D : va_G) (cI cJ cQ : ClassId) (q : Nat) (th : Int) (ac : Int) (dI : Int) (dp : Int) (sa : Nat) (bk : Int) (rs : Int) (nW : Int) (nH : Int) (mt : Int) (op : Int) (x : Int) (y : Int) (wd : Int) (ht : Int) (sc : Int) (rw : Int) (ln : Int) (ea : Nat) (fa : Nat) (ca : Nat) (ct : Int) (kr : Int) (kb : Int) (ov : Int) (nS : Nat) (S : Nat → Int64) (hac : 1 ≤ ac ∧ ac ≤ 5100) (hdI : 1 ≤ dI ∧ dI ≤ 5100) (hnS : (nS : Int) = 80 * dI) : xMet l D (xT cI cJ cQ) y_Mo_eject b_Mo_eject 2 none rm_Mo_eject [.ref q] [(q, .inr (5, [.int (iI th), .int (iI ac), .int (iI dI), .int (iI dp), .ref sa, .int (iI bk), .int (iI rs), .int (iI nW), .int (iI nH), .int (iI mt), .int (iI op), .int (iI x), .int (iI y), .int (iI wd), .int (iI ht), .int (iI sc), .int (iI rw), .int (iI ln), .ref ea, .ref fa, .ref ca, .int (iI ct), .int (iI kr), .int (iI kb), .int (iI ov)])), (sa, .inl (cJ, nS, .inr (.inl S)))] (fun v ws => v = none ∧ ws = [(q, .inr (5, [.int (iI 0), .int (iI ac), .int (iI dI), .int (iI dp), .ref sa, .int (iI 0), .int (iI rs), .int (iI nW), .int (iI nH), .int (iI mt), .int (iI op), .int (iI x), .int (iI y), .int (iI wd), .int (iI ht), .int (iI sc), .int (iI rw), .int (iI ln), .ref ea, .ref fa, .ref ca, .int (iI ct), .int (iI 0), .int (iI 0), .int (iI 0)])), (sa, .inl (cJ, nS, .inr (.inl (fun _ => 0))))]) := by
  refine x_met (by decide) (Nat.le_of_ble_eq_true rfl) ?_
  intro p e s m below meth c hx hb hr hml hts hown hlocks hin hF0 A hA hP hD hK ls hl hS
  have hl : lv_has ls 2 [(0, .ref q)] := hl
  refine lv_aload_n hx hb d_Mo_eject_0 rfl (lv_at hl 0 rfl) ?_
  refine xi_iconst hx hb d_Mo_eject_1 ?_
  refine va_put (D := D) (cl := xcl) (ci := 5) (v := .int (iI 0)) (ty := .int) (C := R_Mo) (T := T_Mo) (N := 25) hx hb hts i_Mo ty_Mo ty_Mo_ok nm_Mo hown hK hP hD hS 0 rfl rfl 0 (by decide) (hts _ kw_503) (fun _ h9 => h9) rfl (by decide +kernel) rfl rfl (Nat.le_of_ble_eq_true rfl) d_Mo_eject_2 (fun H locs hP hD hS => ?_)
  have hP : va_P D xcl [(q, .inr (5, [.int (iI 0), .int (iI ac), .int (iI dI), .int (iI dp), .ref sa, .int (iI bk), .int (iI rs), .int (iI nW), .int (iI nH), .int (iI mt), .int (iI op), .int (iI x), .int (iI y), .int (iI wd), .int (iI ht), .int (iI sc), .int (iI rw), .int (iI ln), .ref ea, .ref fa, .ref ca, .int (iI ct), .int (iI kr), .int (iI kb), .int (iI ov)])), (sa, .inl (cJ, nS, .inr (.inl S)))] _ := hP
  have hD : va_D A [(q, .inr (5, [.int (iI 0), .int (iI ac), .int (iI dI), .int (iI dp), .ref sa, .int (iI bk), .int (iI rs), .int (iI nW), .int (iI nH), .int (iI mt), .int (iI op), .int (iI x), .int (iI y), .int (iI wd), .int (iI ht), .int (iI sc), .int (iI rw), .int (iI ln), .ref ea, .ref fa, .ref ca, .int (iI ct), .int (iI kr), .int (iI kb), .int (iI ov)])), (sa, .inl (cJ, nS, .inr (.inl S)))] := hD
  refine xi_iconst hx hb d_Mo_eject_5 ?_
  refine lv_istore_n (lv' := [(1, .int (iI 0)), (0, .ref q)]) hx hb d_Mo_eject_6 rfl hl (by decide) rfl (fun ls hl => ?_)
  refine x_loop2 (fun (i : Int) (S1 : Nat → Int64) H locs ls => (0 ≤ i ∧ i ≤ (nS : Int)) ∧ (∀ j : Nat, (j : Int) < i → S1 j = 0) ∧ va_P D xcl [(q, .inr (5, [.int (iI 0), .int (iI ac), .int (iI dI), .int (iI dp), .ref sa, .int (iI bk), .int (iI rs), .int (iI nW), .int (iI nH), .int (iI mt), .int (iI op), .int (iI x), .int (iI y), .int (iI wd), .int (iI ht), .int (iI sc), .int (iI rw), .int (iI ln), .ref ea, .ref fa, .ref ca, .int (iI ct), .int (iI kr), .int (iI kb), .int (iI ov)])), (sa, .inl (cJ, nS, .inr (.inl S1)))] H ∧ va_D A [(q, .inr (5, [.int (iI 0), .int (iI ac), .int (iI dI), .int (iI dp), .ref sa, .int (iI bk), .int (iI rs), .int (iI nW), .int (iI nH), .int (iI mt), .int (iI op), .int (iI x), .int (iI y), .int (iI wd), .int (iI ht), .int (iI sc), .int (iI rw), .int (iI ln), .ref ea, .ref fa, .ref ca, .int (iI ct), .int (iI kr), .int (iI kb), .int (iI ov)])), (sa, .inl (cJ, nS, .inr (.inl S1)))] ∧ va_S A s.heap H locs ∧ lv_has ls 2 [(1, .int (iI i)), (0, .ref q)]) (fun (i : Int) (S1 : Nat → Int64) => ((nS : Int) - i).toNat) 0 S ⟨by omega, fun j hj => by omega, hP, hD, hS, hl⟩ ?_
  intro i S1 H locs ls hI ih_7
  obtain ⟨k1, k2, hP, hD, hS, hl⟩ := hI
  refine lv_iload_n hx hb d_Mo_eject_7 rfl (lv_at hl 0 rfl) ?_
  refine lv_aload_n hx hb d_Mo_eject_8 rfl (lv_at hl 1 rfl) ?_
  refine va_get (D := D) (cl := xcl) (ci := 5) (v := .ref sa) (C := R_Mo) (T := T_Mo) (N := 25) hx hb hts i_Mo hown hK hP 0 rfl rfl 4 (by decide) (hts _ kw_507) (fun _ h9 => h9) rfl d_Mo_eject_9 ?_
  refine xi_alen (z := (nS : Int)) hx hb hK hP 1 1 rfl rfl rfl d_Mo_eject_12 ?_
  refine xi_icmp_ge (tgt := 29) hx hb d_Mo_eject_13 (by decide) ⟨by omega, by omega⟩ ⟨by omega, by omega⟩ (fun c_13 => ?_) (fun c_13 => ?_)
  ·
    obtain ⟨hP, hD⟩ := norm_l (fun _ => 0) 1 hP hD rfl (fun j hj => k2 j (by omega))
    have hP : va_P D xcl [(q, .inr (5, [.int (iI 0), .int (iI ac), .int (iI dI), .int (iI dp), .ref sa, .int (iI bk), .int (iI rs), .int (iI nW), .int (iI nH), .int (iI mt), .int (iI op), .int (iI x), .int (iI y), .int (iI wd), .int (iI ht), .int (iI sc), .int (iI rw), .int (iI ln), .ref ea, .ref fa, .ref ca, .int (iI ct), .int (iI kr), .int (iI kb), .int (iI ov)])), (sa, .inl (cJ, nS, .inr (.inl (fun _ => 0))))] _ := hP
    have hD : va_D A [(q, .inr (5, [.int (iI 0), .int (iI ac), .int (iI dI), .int (iI dp), .ref sa, .int (iI bk), .int (iI rs), .int (iI nW), .int (iI nH), .int (iI mt), .int (iI op), .int (iI x), .int (iI y), .int (iI wd), .int (iI ht), .int (iI sc), .int (iI rw), .int (iI ln), .ref ea, .ref fa, .ref ca, .int (iI ct), .int (iI kr), .int (iI kb), .int (iI ov)])), (sa, .inl (cJ, nS, .inr (.inl (fun _ => 0))))] := hD
    refine lv_aload_n hx hb d_Mo_eject_29 rfl (lv_at hl 1 rfl) ?_
    refine xi_iconst hx hb d_Mo_eject_30 ?_
    refine va_put (D := D) (cl := xcl) (ci := 5) (v := .int (iI 0)) (ty := .int) (C := R_Mo) (T := T_Mo) (N := 25) hx hb hts i_Mo ty_Mo ty_Mo_ok nm_Mo hown hK hP hD hS 0 rfl rfl 5 (by decide) (hts _ kw_508) (fun _ h9 => h9) rfl (by decide +kernel) rfl rfl (Nat.le_of_ble_eq_true rfl) d_Mo_eject_31 (fun H locs hP hD hS => ?_)
    have hP : va_P D xcl [(q, .inr (5, [.int (iI 0), .int (iI ac), .int (iI dI), .int (iI dp), .ref sa, .int (iI 0), .int (iI rs), .int (iI nW), .int (iI nH), .int (iI mt), .int (iI op), .int (iI x), .int (iI y), .int (iI wd), .int (iI ht), .int (iI sc), .int (iI rw), .int (iI ln), .ref ea, .ref fa, .ref ca, .int (iI ct), .int (iI kr), .int (iI kb), .int (iI ov)])), (sa, .inl (cJ, nS, .inr (.inl (fun _ => 0))))] _ := hP
    have hD : va_D A [(q, .inr (5, [.int (iI 0), .int (iI ac), .int (iI dI), .int (iI dp), .ref sa, .int (iI 0), .int (iI rs), .int (iI nW), .int (iI nH), .int (iI mt), .int (iI op), .int (iI x), .int (iI y), .int (iI wd), .int (iI ht), .int (iI sc), .int (iI rw), .int (iI ln), .ref ea, .ref fa, .ref ca, .int (iI ct), .int (iI kr), .int (iI kb), .int (iI ov)])), (sa, .inl (cJ, nS, .inr (.inl (fun _ => 0))))] := hD
    refine lv_aload_n hx hb d_Mo_eject_34 rfl (lv_at hl 1 rfl) ?_
    refine xi_iconst hx hb d_Mo_eject_35 ?_
    refine va_put (D := D) (cl := xcl) (ci := 5) (v := .int (iI 0)) (ty := .int) (C := R_Mo) (T := T_Mo) (N := 25) hx hb hts i_Mo ty_Mo ty_Mo_ok nm_Mo hown hK hP hD hS 0 rfl rfl 22 (by decide) (hts _ kw_525) (fun _ h9 => h9) rfl (by decide +kernel) rfl rfl (Nat.le_of_ble_eq_true rfl) d_Mo_eject_36 (fun H locs hP hD hS => ?_)
    have hP : va_P D xcl [(q, .inr (5, [.int (iI 0), .int (iI ac), .int (iI dI), .int (iI dp), .ref sa, .int (iI 0), .int (iI rs), .int (iI nW), .int (iI nH), .int (iI mt), .int (iI op), .int (iI x), .int (iI y), .int (iI wd), .int (iI ht), .int (iI sc), .int (iI rw), .int (iI ln), .ref ea, .ref fa, .ref ca, .int (iI ct), .int (iI 0), .int (iI kb), .int (iI ov)])), (sa, .inl (cJ, nS, .inr (.inl (fun _ => 0))))] _ := hP
    have hD : va_D A [(q, .inr (5, [.int (iI 0), .int (iI ac), .int (iI dI), .int (iI dp), .ref sa, .int (iI 0), .int (iI rs), .int (iI nW), .int (iI nH), .int (iI mt), .int (iI op), .int (iI x), .int (iI y), .int (iI wd), .int (iI ht), .int (iI sc), .int (iI rw), .int (iI ln), .ref ea, .ref fa, .ref ca, .int (iI ct), .int (iI 0), .int (iI kb), .int (iI ov)])), (sa, .inl (cJ, nS, .inr (.inl (fun _ => 0))))] := hD
    refine lv_aload_n hx hb d_Mo_eject_39 rfl (lv_at hl 1 rfl) ?_
    refine xi_iconst hx hb d_Mo_eject_40 ?_
    refine va_put (D := D) (cl := xcl) (ci := 5) (v := .int (iI 0)) (ty := .int) (C := R_Mo) (T := T_Mo) (N := 25) hx hb hts i_Mo ty_Mo ty_Mo_ok nm_Mo hown hK hP hD hS 0 rfl rfl 23 (by decide) (hts _ kw_526) (fun _ h9 => h9) rfl (by decide +kernel) rfl rfl (Nat.le_of_ble_eq_true rfl) d_Mo_eject_41 (fun H locs hP hD hS => ?_)
    have hP : va_P D xcl [(q, .inr (5, [.int (iI 0), .int (iI ac), .int (iI dI), .int (iI dp), .ref sa, .int (iI 0), .int (iI rs), .int (iI nW), .int (iI nH), .int (iI mt), .int (iI op), .int (iI x), .int (iI y), .int (iI wd), .int (iI ht), .int (iI sc), .int (iI rw), .int (iI ln), .ref ea, .ref fa, .ref ca, .int (iI ct), .int (iI 0), .int (iI 0), .int (iI ov)])), (sa, .inl (cJ, nS, .inr (.inl (fun _ => 0))))] _ := hP
    have hD : va_D A [(q, .inr (5, [.int (iI 0), .int (iI ac), .int (iI dI), .int (iI dp), .ref sa, .int (iI 0), .int (iI rs), .int (iI nW), .int (iI nH), .int (iI mt), .int (iI op), .int (iI x), .int (iI y), .int (iI wd), .int (iI ht), .int (iI sc), .int (iI rw), .int (iI ln), .ref ea, .ref fa, .ref ca, .int (iI ct), .int (iI 0), .int (iI 0), .int (iI ov)])), (sa, .inl (cJ, nS, .inr (.inl (fun _ => 0))))] := hD
    refine lv_aload_n hx hb d_Mo_eject_44 rfl (lv_at hl 1 rfl) ?_
    refine xi_iconst hx hb d_Mo_eject_45 ?_
    refine va_put (D := D) (cl := xcl) (ci := 5) (v := .int (iI 0)) (ty := .boolean) (C := R_Mo) (T := T_Mo) (N := 25) hx hb hts i_Mo ty_Mo ty_Mo_ok nm_Mo hown hK hP hD hS 0 rfl rfl 24 (by decide) (hts _ kw_527) (fun _ h9 => h9) rfl (by decide +kernel) rfl rfl (Nat.le_of_ble_eq_true rfl) d_Mo_eject_46 (fun H locs hP hD hS => ?_)
    have hP : va_P D xcl [(q, .inr (5, [.int (iI 0), .int (iI ac), .int (iI dI), .int (iI dp), .ref sa, .int (iI 0), .int (iI rs), .int (iI nW), .int (iI nH), .int (iI mt), .int (iI op), .int (iI x), .int (iI y), .int (iI wd), .int (iI ht), .int (iI sc), .int (iI rw), .int (iI ln), .ref ea, .ref fa, .ref ca, .int (iI ct), .int (iI 0), .int (iI 0), .int (iI 0)])), (sa, .inl (cJ, nS, .inr (.inl (fun _ => 0))))] _ := hP
    have hD : va_D A [(q, .inr (5, [.int (iI 0), .int (iI ac), .int (iI dI), .int (iI dp), .ref sa, .int (iI 0), .int (iI rs), .int (iI nW), .int (iI nH), .int (iI mt), .int (iI op), .int (iI x), .int (iI y), .int (iI wd), .int (iI ht), .int (iI sc), .int (iI rw), .int (iI ln), .ref ea, .ref fa, .ref ca, .int (iI ct), .int (iI 0), .int (iI 0), .int (iI 0)])), (sa, .inl (cJ, nS, .inr (.inl (fun _ => 0))))] := hD
    exact x_vret hx hb hr hlocks hP hD hS (by decide) (by decide) ⟨rfl, rfl⟩ d_Mo_eject_49
  ·
    refine lv_aload_n hx hb d_Mo_eject_16 rfl (lv_at hl 1 rfl) ?_
    refine va_get (D := D) (cl := xcl) (ci := 5) (v := .ref sa) (C := R_Mo) (T := T_Mo) (N := 25) hx hb hts i_Mo hown hK hP 0 rfl rfl 4 (by decide) (hts _ kw_507) (fun _ h9 => h9) rfl d_Mo_eject_17 ?_
    refine lv_iload_n hx hb d_Mo_eject_20 rfl (lv_at hl 0 rfl) ?_
    refine lv_lconst (v := 0) hx hb d_Mo_eject_21 (by decide) ?_
    refine xi_last hx hb hK hP hD hS 1 1 rfl rfl (by omega) (by omega) (by omega) d_Mo_eject_22 (fun H locs hP hD hS => ?_)
    have hP : va_P D xcl [(q, .inr (5, [.int (iI 0), .int (iI ac), .int (iI dI), .int (iI dp), .ref sa, .int (iI bk), .int (iI rs), .int (iI nW), .int (iI nH), .int (iI mt), .int (iI op), .int (iI x), .int (iI y), .int (iI wd), .int (iI ht), .int (iI sc), .int (iI rw), .int (iI ln), .ref ea, .ref fa, .ref ca, .int (iI ct), .int (iI kr), .int (iI kb), .int (iI ov)])), (sa, .inl (cJ, nS, .inr (.inl (va_up S1 i.toNat 0))))] _ := hP
    have hD : va_D A [(q, .inr (5, [.int (iI 0), .int (iI ac), .int (iI dI), .int (iI dp), .ref sa, .int (iI bk), .int (iI rs), .int (iI nW), .int (iI nH), .int (iI mt), .int (iI op), .int (iI x), .int (iI y), .int (iI wd), .int (iI ht), .int (iI sc), .int (iI rw), .int (iI ln), .ref ea, .ref fa, .ref ca, .int (iI ct), .int (iI kr), .int (iI kb), .int (iI ov)])), (sa, .inl (cJ, nS, .inr (.inl (va_up S1 i.toNat 0))))] := hD
    refine xi_iinc (lv' := [(1, .int (iI (i + 1))), (0, .ref q)]) hx hb d_Mo_eject_23 hl (k := 0) rfl (by decide) rfl (fun ls hl => ?_)
    refine lv_goto (tgt := 7) hx hb d_Mo_eject_26 (by decide) ?_
    exact ih_7 (i + 1) (va_up S1 i.toNat 0) _ _ _ (by omega) ⟨by omega, fun j hj => by
          by_cases e : j = i.toNat
          · subst e; exact up_s _ _ _
          · rw [up_n _ _ e]; exact k2 j (by omega), hP, hD, hS, hl⟩

theorem d_Mo_line_0 : decode b_Mo_line 0 = .ok (.aload_n 0, 1) := by decide +kernel
theorem d_Mo_line_1 : decode b_Mo_line 1 = .ok (.iconst 0, 1) := by decide +kernel
theorem d_Mo_line_2 : decode b_Mo_line 2 = .ok (.putfield 36, 3) := by decide +kernel
theorem d_Mo_line_5 : decode b_Mo_line 5 = .ok (.iload_n 1, 1) := by decide +kernel
theorem d_Mo_line_6 : decode b_Mo_line 6 = .ok (.ifCond .lt 21, 3) := by decide +kernel
theorem d_Mo_line_9 : decode b_Mo_line 9 = .ok (.iload_n 1, 1) := by decide +kernel
theorem d_Mo_line_10 : decode b_Mo_line 10 = .ok (.aload_n 0, 1) := by decide +kernel
theorem d_Mo_line_11 : decode b_Mo_line 11 = .ok (.getfield 26, 3) := by decide +kernel
theorem d_Mo_line_14 : decode b_Mo_line 14 = .ok (.if_icmp .ge 13, 3) := by decide +kernel
theorem d_Mo_line_17 : decode b_Mo_line 17 = .ok (.iload_n 2, 1) := by decide +kernel
theorem d_Mo_line_18 : decode b_Mo_line 18 = .ok (.ifCond .lt 9, 3) := by decide +kernel
theorem d_Mo_line_21 : decode b_Mo_line 21 = .ok (.iload_n 2, 1) := by decide +kernel
theorem d_Mo_line_22 : decode b_Mo_line 22 = .ok (.bipush 79, 2) := by decide +kernel
theorem d_Mo_line_24 : decode b_Mo_line 24 = .ok (.if_icmp .le 7, 3) := by decide +kernel
theorem d_Mo_line_27 : decode b_Mo_line 27 = .ok (.lconst 0, 1) := by decide +kernel
theorem d_Mo_line_28 : decode b_Mo_line 28 = .ok (.goto 14, 3) := by decide +kernel
theorem d_Mo_line_31 : decode b_Mo_line 31 = .ok (.aload_n 0, 1) := by decide +kernel
theorem d_Mo_line_32 : decode b_Mo_line 32 = .ok (.getfield 29, 3) := by decide +kernel
theorem d_Mo_line_35 : decode b_Mo_line 35 = .ok (.bipush 80, 2) := by decide +kernel
theorem d_Mo_line_37 : decode b_Mo_line 37 = .ok (.iload_n 1, 1) := by decide +kernel
theorem d_Mo_line_38 : decode b_Mo_line 38 = .ok (.imul, 1) := by decide +kernel
theorem d_Mo_line_39 : decode b_Mo_line 39 = .ok (.iload_n 2, 1) := by decide +kernel
theorem d_Mo_line_40 : decode b_Mo_line 40 = .ok (.iadd, 1) := by decide +kernel
theorem d_Mo_line_41 : decode b_Mo_line 41 = .ok (.laload, 1) := by decide +kernel
theorem d_Mo_line_42 : decode b_Mo_line 42 = .ok (.lreturn, 1) := by decide +kernel
theorem ds_Mo_line : xDesc y_Mo_line 2 := by decide +kernel

abbrev rm_Mo_line : Room := { frames := 0, cells := 0, slots := 0, locals := 0 }
set_option maxHeartbeats 4000000 in
set_option maxRecDepth 100000 in
/-- Model.line -/
theorem c_Mo_line (l : Launch) (D : va_G) (cI cJ cQ : ClassId) (q : Nat) (th : Int) (ac : Int) (dI : Int) (dp : Int) (sa : Nat) (bk : Int) (rs : Int) (nW : Int) (nH : Int) (mt : Int) (op : Int) (x : Int) (y : Int) (wd : Int) (ht : Int) (sc : Int) (rw : Int) (ln : Int) (ea : Nat) (fa : Nat) (ca : Nat) (ct : Int) (kr : Int) (kb : Int) (ov : Int) (nS : Nat) (S : Nat → Int64) (yy : Int) (kk : Int) (hac : 1 ≤ ac ∧ ac ≤ 5100) (hdI : 1 ≤ dI ∧ dI ≤ 5100) (hnS : (nS : Int) = 80 * dI) (hy_ : inR yy) (hk_ : inR kk) : xMet l D (xT cI cJ cQ) y_Mo_line b_Mo_line 3 (some .long) rm_Mo_line [.ref q, .int (iI yy), .int (iI kk)] [(q, .inr (5, [.int (iI th), .int (iI ac), .int (iI dI), .int (iI dp), .ref sa, .int (iI bk), .int (iI rs), .int (iI nW), .int (iI nH), .int (iI mt), .int (iI op), .int (iI x), .int (iI y), .int (iI wd), .int (iI ht), .int (iI sc), .int (iI rw), .int (iI ln), .ref ea, .ref fa, .ref ca, .int (iI ct), .int (iI kr), .int (iI kb), .int (iI ov)])), (sa, .inl (cJ, nS, .inr (.inl S)))] (fun v ws => ∃ (r : Int64), v = some (.long r) ∧ ws = [(q, .inr (5, [.int (iI 0), .int (iI ac), .int (iI dI), .int (iI dp), .ref sa, .int (iI bk), .int (iI rs), .int (iI nW), .int (iI nH), .int (iI mt), .int (iI op), .int (iI x), .int (iI y), .int (iI wd), .int (iI ht), .int (iI sc), .int (iI rw), .int (iI ln), .ref ea, .ref fa, .ref ca, .int (iI ct), .int (iI kr), .int (iI kb), .int (iI ov)])), (sa, .inl (cJ, nS, .inr (.inl S)))] ∧ (0 ≤ yy → yy < dI → 0 ≤ kk → kk < 80 → r = S (80 * yy + kk).toNat) ∧ ((yy < 0 ∨ dI ≤ yy ∨ kk < 0 ∨ 80 ≤ kk) → r = 0)) := by
  refine x_met (by decide) (Nat.le_of_ble_eq_true rfl) ?_
  intro p e s m below meth c hx hb hr hml hts hown hlocks hin hF0 A hA hP hD hK ls hl hS
  have hl : lv_has ls 3 [(0, .ref q), (1, .int (iI yy)), (2, .int (iI kk))] := hl
  refine lv_aload_n hx hb d_Mo_line_0 rfl (lv_at hl 0 rfl) ?_
  refine xi_iconst hx hb d_Mo_line_1 ?_
  refine va_put (D := D) (cl := xcl) (ci := 5) (v := .int (iI 0)) (ty := .int) (C := R_Mo) (T := T_Mo) (N := 25) hx hb hts i_Mo ty_Mo ty_Mo_ok nm_Mo hown hK hP hD hS 0 rfl rfl 0 (by decide) (hts _ kw_503) (fun _ h9 => h9) rfl (by decide +kernel) rfl rfl (Nat.le_of_ble_eq_true rfl) d_Mo_line_2 (fun H locs hP hD hS => ?_)
  have hP : va_P D xcl [(q, .inr (5, [.int (iI 0), .int (iI ac), .int (iI dI), .int (iI dp), .ref sa, .int (iI bk), .int (iI rs), .int (iI nW), .int (iI nH), .int (iI mt), .int (iI op), .int (iI x), .int (iI y), .int (iI wd), .int (iI ht), .int (iI sc), .int (iI rw), .int (iI ln), .ref ea, .ref fa, .ref ca, .int (iI ct), .int (iI kr), .int (iI kb), .int (iI ov)])), (sa, .inl (cJ, nS, .inr (.inl S)))] _ := hP
  have hD : va_D A [(q, .inr (5, [.int (iI 0), .int (iI ac), .int (iI dI), .int (iI dp), .ref sa, .int (iI bk), .int (iI rs), .int (iI nW), .int (iI nH), .int (iI mt), .int (iI op), .int (iI x), .int (iI y), .int (iI wd), .int (iI ht), .int (iI sc), .int (iI rw), .int (iI ln), .ref ea, .ref fa, .ref ca, .int (iI ct), .int (iI kr), .int (iI kb), .int (iI ov)])), (sa, .inl (cJ, nS, .inr (.inl S)))] := hD
  refine lv_iload_n hx hb d_Mo_line_5 rfl (lv_at hl 1 rfl) ?_
  refine xi_if_lt (tgt := 27) hx hb d_Mo_line_6 (by decide) ⟨by omega, by omega⟩ (fun c_6 => ?_) (fun c_6 => ?_)
  ·
    refine lv_lconst (v := 0) hx hb d_Mo_line_27 (by decide) ?_
    refine lv_goto (tgt := 42) hx hb d_Mo_line_28 (by decide) ?_
    exact x_lret hx hb hr hlocks hP hD hS (by decide) (by decide) ⟨0, rfl, rfl, fun _ _ _ _ => by omega, fun _ => rfl⟩ d_Mo_line_42
  ·
    refine lv_iload_n hx hb d_Mo_line_9 rfl (lv_at hl 1 rfl) ?_
    refine lv_aload_n hx hb d_Mo_line_10 rfl (lv_at hl 0 rfl) ?_
    refine va_get (D := D) (cl := xcl) (ci := 5) (v := .int (iI dI)) (C := R_Mo) (T := T_Mo) (N := 25) hx hb hts i_Mo hown hK hP 0 rfl rfl 2 (by decide) (hts _ kw_505) (fun _ h9 => h9) rfl d_Mo_line_11 ?_
    refine xi_icmp_ge (tgt := 27) hx hb d_Mo_line_14 (by decide) ⟨by omega, by omega⟩ ⟨by omega, by omega⟩ (fun c_14 => ?_) (fun c_14 => ?_)
    ·
      refine lv_lconst (v := 0) hx hb d_Mo_line_27 (by decide) ?_
      refine lv_goto (tgt := 42) hx hb d_Mo_line_28 (by decide) ?_
      exact x_lret hx hb hr hlocks hP hD hS (by decide) (by decide) ⟨0, rfl, rfl, fun _ _ _ _ => by omega, fun _ => rfl⟩ d_Mo_line_42
    ·
      refine lv_iload_n hx hb d_Mo_line_17 rfl (lv_at hl 2 rfl) ?_
      refine xi_if_lt (tgt := 27) hx hb d_Mo_line_18 (by decide) ⟨by omega, by omega⟩ (fun c_18 => ?_) (fun c_18 => ?_)
      ·
        refine lv_lconst (v := 0) hx hb d_Mo_line_27 (by decide) ?_
        refine lv_goto (tgt := 42) hx hb d_Mo_line_28 (by decide) ?_
        exact x_lret hx hb hr hlocks hP hD hS (by decide) (by decide) ⟨0, rfl, rfl, fun _ _ _ _ => by omega, fun _ => rfl⟩ d_Mo_line_42
      ·
        refine lv_iload_n hx hb d_Mo_line_21 rfl (lv_at hl 2 rfl) ?_
        refine xi_bipush hx hb d_Mo_line_22 (by decide) ?_
        refine xi_icmp_le (tgt := 31) hx hb d_Mo_line_24 (by decide) ⟨by omega, by omega⟩ ⟨by decide, by decide⟩ (fun c_24 => ?_) (fun c_24 => ?_)
        ·
          refine lv_aload_n hx hb d_Mo_line_31 rfl (lv_at hl 0 rfl) ?_
          refine va_get (D := D) (cl := xcl) (ci := 5) (v := .ref sa) (C := R_Mo) (T := T_Mo) (N := 25) hx hb hts i_Mo hown hK hP 0 rfl rfl 4 (by decide) (hts _ kw_507) (fun _ h9 => h9) rfl d_Mo_line_32 ?_
          refine xi_bipush hx hb d_Mo_line_35 (by decide) ?_
          refine lv_iload_n hx hb d_Mo_line_37 rfl (lv_at hl 1 rfl) ?_
          refine xi_imul hx hb d_Mo_line_38 ?_
          refine lv_iload_n hx hb d_Mo_line_39 rfl (lv_at hl 2 rfl) ?_
          refine xi_iadd hx hb d_Mo_line_40 ?_
          refine xi_lald hx hb hK hP 1 1 rfl rfl (by omega) (by omega) (by omega) d_Mo_line_41 ?_
          exact x_lret hx hb hr hlocks hP hD hS (by decide) (by decide) ⟨(S ((80 * yy) + kk).toNat), rfl, rfl, fun _ _ _ _ => rfl, fun q => by omega⟩ d_Mo_line_42
        ·
          refine lv_lconst (v := 0) hx hb d_Mo_line_27 (by decide) ?_
          refine lv_goto (tgt := 42) hx hb d_Mo_line_28 (by decide) ?_
          exact x_lret hx hb hr hlocks hP hD hS (by decide) (by decide) ⟨0, rfl, rfl, fun _ _ _ _ => by omega, fun _ => rfl⟩ d_Mo_line_42

theorem d_Mo_black_0 : decode b_Mo_black 0 = .ok (.aload_n 0, 1) := by decide +kernel
theorem d_Mo_black_1 : decode b_Mo_black 1 = .ok (.iload_n 1, 1) := by decide +kernel
theorem d_Mo_black_2 : decode b_Mo_black 2 = .ok (.ifCond .lt 23, 3) := by decide +kernel
theorem d_Mo_black_5 : decode b_Mo_black 5 = .ok (.iload_n 1, 1) := by decide +kernel
theorem d_Mo_black_6 : decode b_Mo_black 6 = .ok (.aload_n 0, 1) := by decide +kernel
theorem d_Mo_black_7 : decode b_Mo_black 7 = .ok (.getfield 23, 3) := by decide +kernel
theorem d_Mo_black_10 : decode b_Mo_black 10 = .ok (.if_icmp .ge 15, 3) := by decide +kernel
theorem d_Mo_black_13 : decode b_Mo_black 13 = .ok (.iload_n 2, 1) := by decide +kernel
theorem d_Mo_black_14 : decode b_Mo_black 14 = .ok (.ifCond .lt 11, 3) := by decide +kernel
theorem d_Mo_black_17 : decode b_Mo_black 17 = .ok (.iload_n 2, 1) := by decide +kernel
theorem d_Mo_black_18 : decode b_Mo_black 18 = .ok (.aload_n 0, 1) := by decide +kernel
theorem d_Mo_black_19 : decode b_Mo_black 19 = .ok (.getfield 26, 3) := by decide +kernel
theorem d_Mo_black_22 : decode b_Mo_black 22 = .ok (.if_icmp .lt 7, 3) := by decide +kernel
theorem d_Mo_black_25 : decode b_Mo_black 25 = .ok (.iconst 1, 1) := by decide +kernel
theorem d_Mo_black_26 : decode b_Mo_black 26 = .ok (.goto 4, 3) := by decide +kernel
theorem d_Mo_black_29 : decode b_Mo_black 29 = .ok (.iconst 0, 1) := by decide +kernel
theorem d_Mo_black_30 : decode b_Mo_black 30 = .ok (.putfield 36, 3) := by decide +kernel
theorem d_Mo_black_33 : decode b_Mo_black 33 = .ok (.aload_n 0, 1) := by decide +kernel
theorem d_Mo_black_34 : decode b_Mo_black 34 = .ok (.getfield 36, 3) := by decide +kernel
theorem d_Mo_black_37 : decode b_Mo_black 37 = .ok (.ifCond .le 5, 3) := by decide +kernel
theorem d_Mo_black_40 : decode b_Mo_black 40 = .ok (.iconst 0, 1) := by decide +kernel
theorem d_Mo_black_41 : decode b_Mo_black 41 = .ok (.ireturn, 1) := by decide +kernel
theorem d_Mo_black_42 : decode b_Mo_black 42 = .ok (.aload_n 0, 1) := by decide +kernel
theorem d_Mo_black_43 : decode b_Mo_black 43 = .ok (.getfield 29, 3) := by decide +kernel
theorem d_Mo_black_46 : decode b_Mo_black 46 = .ok (.bipush 80, 2) := by decide +kernel
theorem d_Mo_black_48 : decode b_Mo_black 48 = .ok (.iload_n 2, 1) := by decide +kernel
theorem d_Mo_black_49 : decode b_Mo_black 49 = .ok (.imul, 1) := by decide +kernel
theorem d_Mo_black_50 : decode b_Mo_black 50 = .ok (.iload_n 1, 1) := by decide +kernel
theorem d_Mo_black_51 : decode b_Mo_black 51 = .ok (.bipush 64, 2) := by decide +kernel
theorem d_Mo_black_53 : decode b_Mo_black 53 = .ok (.idiv, 1) := by decide +kernel
theorem d_Mo_black_54 : decode b_Mo_black 54 = .ok (.iadd, 1) := by decide +kernel
theorem d_Mo_black_55 : decode b_Mo_black 55 = .ok (.laload, 1) := by decide +kernel
theorem d_Mo_black_56 : decode b_Mo_black 56 = .ok (.bipush 63, 2) := by decide +kernel
theorem d_Mo_black_58 : decode b_Mo_black 58 = .ok (.iload_n 1, 1) := by decide +kernel
theorem d_Mo_black_59 : decode b_Mo_black 59 = .ok (.bipush 64, 2) := by decide +kernel
theorem d_Mo_black_61 : decode b_Mo_black 61 = .ok (.irem, 1) := by decide +kernel
theorem d_Mo_black_62 : decode b_Mo_black 62 = .ok (.isub, 1) := by decide +kernel
theorem d_Mo_black_63 : decode b_Mo_black 63 = .ok (.lshr, 1) := by decide +kernel
theorem d_Mo_black_64 : decode b_Mo_black 64 = .ok (.lconst 1, 1) := by decide +kernel
theorem d_Mo_black_65 : decode b_Mo_black 65 = .ok (.land, 1) := by decide +kernel
theorem d_Mo_black_66 : decode b_Mo_black 66 = .ok (.lconst 1, 1) := by decide +kernel
theorem d_Mo_black_67 : decode b_Mo_black 67 = .ok (.lcmp, 1) := by decide +kernel
theorem d_Mo_black_68 : decode b_Mo_black 68 = .ok (.ifCond .ne 7, 3) := by decide +kernel
theorem d_Mo_black_71 : decode b_Mo_black 71 = .ok (.iconst 1, 1) := by decide +kernel
theorem d_Mo_black_72 : decode b_Mo_black 72 = .ok (.goto 4, 3) := by decide +kernel
theorem d_Mo_black_75 : decode b_Mo_black 75 = .ok (.iconst 0, 1) := by decide +kernel
theorem d_Mo_black_76 : decode b_Mo_black 76 = .ok (.ireturn, 1) := by decide +kernel
theorem ds_Mo_black : xDesc y_Mo_black 2 := by decide +kernel

abbrev rm_Mo_black : Room := { frames := 0, cells := 0, slots := 0, locals := 0 }
set_option maxHeartbeats 4000000 in
set_option maxRecDepth 100000 in
/-- Model.black -/
theorem c_Mo_black (l : Launch) (D : va_G) (cI cJ cQ : ClassId) (q : Nat) (th : Int) (ac : Int) (dI : Int) (dp : Int) (sa : Nat) (bk : Int) (rs : Int) (nW : Int) (nH : Int) (mt : Int) (op : Int) (x : Int) (y : Int) (wd : Int) (ht : Int) (sc : Int) (rw : Int) (ln : Int) (ea : Nat) (fa : Nat) (ca : Nat) (ct : Int) (kr : Int) (kb : Int) (ov : Int) (nS : Nat) (S : Nat → Int64) (xx : Int) (yy : Int) (hac : 1 ≤ ac ∧ ac ≤ 5100) (hdI : 1 ≤ dI ∧ dI ≤ 5100) (hnS : (nS : Int) = 80 * dI) (hx_ : inR xx) (hy_ : inR yy) : xMet l D (xT cI cJ cQ) y_Mo_black b_Mo_black 3 (some .boolean) rm_Mo_black [.ref q, .int (iI xx), .int (iI yy)] [(q, .inr (5, [.int (iI th), .int (iI ac), .int (iI dI), .int (iI dp), .ref sa, .int (iI bk), .int (iI rs), .int (iI nW), .int (iI nH), .int (iI mt), .int (iI op), .int (iI x), .int (iI y), .int (iI wd), .int (iI ht), .int (iI sc), .int (iI rw), .int (iI ln), .ref ea, .ref fa, .ref ca, .int (iI ct), .int (iI kr), .int (iI kb), .int (iI ov)])), (sa, .inl (cJ, nS, .inr (.inl S)))] (fun v ws => ∃ (r : Int) (th2 : Int), v = some (.int (iI r)) ∧ ws = [(q, .inr (5, [.int (iI th2), .int (iI ac), .int (iI dI), .int (iI dp), .ref sa, .int (iI bk), .int (iI rs), .int (iI nW), .int (iI nH), .int (iI mt), .int (iI op), .int (iI x), .int (iI y), .int (iI wd), .int (iI ht), .int (iI sc), .int (iI rw), .int (iI ln), .ref ea, .ref fa, .ref ca, .int (iI ct), .int (iI kr), .int (iI kb), .int (iI ov)])), (sa, .inl (cJ, nS, .inr (.inl S)))] ∧ ((th2 = 1 ∧ (xx < 0 ∨ ac ≤ xx ∨ yy < 0 ∨ dI ≤ yy)) ∨ (th2 = 0 ∧ 0 ≤ xx ∧ xx < ac ∧ 0 ≤ yy ∧ yy < dI ∧ ((r = 1 ∧ dS S yy.toNat xx.toNat = true) ∨ (r = 0 ∧ dS S yy.toNat xx.toNat = false))))) := by
  refine x_met (by decide) (Nat.le_of_ble_eq_true rfl) ?_
  intro p e s m below meth c hx hb hr hml hts hown hlocks hin hF0 A hA hP hD hK ls hl hS
  have hl : lv_has ls 3 [(0, .ref q), (1, .int (iI xx)), (2, .int (iI yy))] := hl
  refine lv_aload_n hx hb d_Mo_black_0 rfl (lv_at hl 0 rfl) ?_
  refine lv_iload_n hx hb d_Mo_black_1 rfl (lv_at hl 1 rfl) ?_
  refine xi_if_lt (tgt := 25) hx hb d_Mo_black_2 (by decide) ⟨by omega, by omega⟩ (fun c_2 => ?_) (fun c_2 => ?_)
  ·
    refine xi_iconst hx hb d_Mo_black_25 ?_
    refine lv_goto (tgt := 30) hx hb d_Mo_black_26 (by decide) ?_
    refine va_put (D := D) (cl := xcl) (ci := 5) (v := .int (iI 1)) (ty := .int) (C := R_Mo) (T := T_Mo) (N := 25) hx hb hts i_Mo ty_Mo ty_Mo_ok nm_Mo hown hK hP hD hS 0 rfl rfl 0 (by decide) (hts _ kw_503) (fun _ h9 => h9) rfl (by decide +kernel) rfl rfl (Nat.le_of_ble_eq_true rfl) d_Mo_black_30 (fun H locs hP hD hS => ?_)
    have hP : va_P D xcl [(q, .inr (5, [.int (iI 1), .int (iI ac), .int (iI dI), .int (iI dp), .ref sa, .int (iI bk), .int (iI rs), .int (iI nW), .int (iI nH), .int (iI mt), .int (iI op), .int (iI x), .int (iI y), .int (iI wd), .int (iI ht), .int (iI sc), .int (iI rw), .int (iI ln), .ref ea, .ref fa, .ref ca, .int (iI ct), .int (iI kr), .int (iI kb), .int (iI ov)])), (sa, .inl (cJ, nS, .inr (.inl S)))] _ := hP
    have hD : va_D A [(q, .inr (5, [.int (iI 1), .int (iI ac), .int (iI dI), .int (iI dp), .ref sa, .int (iI bk), .int (iI rs), .int (iI nW), .int (iI nH), .int (iI mt), .int (iI op), .int (iI x), .int (iI y), .int (iI wd), .int (iI ht), .int (iI sc), .int (iI rw), .int (iI ln), .ref ea, .ref fa, .ref ca, .int (iI ct), .int (iI kr), .int (iI kb), .int (iI ov)])), (sa, .inl (cJ, nS, .inr (.inl S)))] := hD
    refine lv_aload_n hx hb d_Mo_black_33 rfl (lv_at hl 0 rfl) ?_
    refine va_get (D := D) (cl := xcl) (ci := 5) (v := .int (iI 1)) (C := R_Mo) (T := T_Mo) (N := 25) hx hb hts i_Mo hown hK hP 0 rfl rfl 0 (by decide) (hts _ kw_503) (fun _ h9 => h9) rfl d_Mo_black_34 ?_
    refine xi_if_le (tgt := 42) hx hb d_Mo_black_37 (by decide) ⟨by decide, by decide⟩ (fun c_37 => ?_) (fun c_37 => ?_)
    ·
      exact absurd c_37 (by decide)
    ·
      refine xi_iconst hx hb d_Mo_black_40 ?_
      exact x_zret hx hb hr hlocks hP hD hS (by decide) (by decide) rfl ⟨0, 1, rfl, rfl, Or.inl ⟨rfl, by omega⟩⟩ d_Mo_black_41
  ·
    refine lv_iload_n hx hb d_Mo_black_5 rfl (lv_at hl 1 rfl) ?_
    refine lv_aload_n hx hb d_Mo_black_6 rfl (lv_at hl 0 rfl) ?_
    refine va_get (D := D) (cl := xcl) (ci := 5) (v := .int (iI ac)) (C := R_Mo) (T := T_Mo) (N := 25) hx hb hts i_Mo hown hK hP 0 rfl rfl 1 (by decide) (hts _ kw_504) (fun _ h9 => h9) rfl d_Mo_black_7 ?_
    refine xi_icmp_ge (tgt := 25) hx hb d_Mo_black_10 (by decide) ⟨by omega, by omega⟩ ⟨by omega, by omega⟩ (fun c_10 => ?_) (fun c_10 => ?_)
    ·
      refine xi_iconst hx hb d_Mo_black_25 ?_
      refine lv_goto (tgt := 30) hx hb d_Mo_black_26 (by decide) ?_
      refine va_put (D := D) (cl := xcl) (ci := 5) (v := .int (iI 1)) (ty := .int) (C := R_Mo) (T := T_Mo) (N := 25) hx hb hts i_Mo ty_Mo ty_Mo_ok nm_Mo hown hK hP hD hS 0 rfl rfl 0 (by decide) (hts _ kw_503) (fun _ h9 => h9) rfl (by decide +kernel) rfl rfl (Nat.le_of_ble_eq_true rfl) d_Mo_black_30 (fun H locs hP hD hS => ?_)
      have hP : va_P D xcl [(q, .inr (5, [.int (iI 1), .int (iI ac), .int (iI dI), .int (iI dp), .ref sa, .int (iI bk), .int (iI rs), .int (iI nW), .int (iI nH), .int (iI mt), .int (iI op), .int (iI x), .int (iI y), .int (iI wd), .int (iI ht), .int (iI sc), .int (iI rw), .int (iI ln), .ref ea, .ref fa, .ref ca, .int (iI ct), .int (iI kr), .int (iI kb), .int (iI ov)])), (sa, .inl (cJ, nS, .inr (.inl S)))] _ := hP
      have hD : va_D A [(q, .inr (5, [.int (iI 1), .int (iI ac), .int (iI dI), .int (iI dp), .ref sa, .int (iI bk), .int (iI rs), .int (iI nW), .int (iI nH), .int (iI mt), .int (iI op), .int (iI x), .int (iI y), .int (iI wd), .int (iI ht), .int (iI sc), .int (iI rw), .int (iI ln), .ref ea, .ref fa, .ref ca, .int (iI ct), .int (iI kr), .int (iI kb), .int (iI ov)])), (sa, .inl (cJ, nS, .inr (.inl S)))] := hD
      refine lv_aload_n hx hb d_Mo_black_33 rfl (lv_at hl 0 rfl) ?_
      refine va_get (D := D) (cl := xcl) (ci := 5) (v := .int (iI 1)) (C := R_Mo) (T := T_Mo) (N := 25) hx hb hts i_Mo hown hK hP 0 rfl rfl 0 (by decide) (hts _ kw_503) (fun _ h9 => h9) rfl d_Mo_black_34 ?_
      refine xi_if_le (tgt := 42) hx hb d_Mo_black_37 (by decide) ⟨by decide, by decide⟩ (fun c_37 => ?_) (fun c_37 => ?_)
      ·
        exact absurd c_37 (by decide)
      ·
        refine xi_iconst hx hb d_Mo_black_40 ?_
        exact x_zret hx hb hr hlocks hP hD hS (by decide) (by decide) rfl ⟨0, 1, rfl, rfl, Or.inl ⟨rfl, by omega⟩⟩ d_Mo_black_41
    ·
      refine lv_iload_n hx hb d_Mo_black_13 rfl (lv_at hl 2 rfl) ?_
      refine xi_if_lt (tgt := 25) hx hb d_Mo_black_14 (by decide) ⟨by omega, by omega⟩ (fun c_14 => ?_) (fun c_14 => ?_)
      ·
        refine xi_iconst hx hb d_Mo_black_25 ?_
        refine lv_goto (tgt := 30) hx hb d_Mo_black_26 (by decide) ?_
        refine va_put (D := D) (cl := xcl) (ci := 5) (v := .int (iI 1)) (ty := .int) (C := R_Mo) (T := T_Mo) (N := 25) hx hb hts i_Mo ty_Mo ty_Mo_ok nm_Mo hown hK hP hD hS 0 rfl rfl 0 (by decide) (hts _ kw_503) (fun _ h9 => h9) rfl (by decide +kernel) rfl rfl (Nat.le_of_ble_eq_true rfl) d_Mo_black_30 (fun H locs hP hD hS => ?_)
        have hP : va_P D xcl [(q, .inr (5, [.int (iI 1), .int (iI ac), .int (iI dI), .int (iI dp), .ref sa, .int (iI bk), .int (iI rs), .int (iI nW), .int (iI nH), .int (iI mt), .int (iI op), .int (iI x), .int (iI y), .int (iI wd), .int (iI ht), .int (iI sc), .int (iI rw), .int (iI ln), .ref ea, .ref fa, .ref ca, .int (iI ct), .int (iI kr), .int (iI kb), .int (iI ov)])), (sa, .inl (cJ, nS, .inr (.inl S)))] _ := hP
        have hD : va_D A [(q, .inr (5, [.int (iI 1), .int (iI ac), .int (iI dI), .int (iI dp), .ref sa, .int (iI bk), .int (iI rs), .int (iI nW), .int (iI nH), .int (iI mt), .int (iI op), .int (iI x), .int (iI y), .int (iI wd), .int (iI ht), .int (iI sc), .int (iI rw), .int (iI ln), .ref ea, .ref fa, .ref ca, .int (iI ct), .int (iI kr), .int (iI kb), .int (iI ov)])), (sa, .inl (cJ, nS, .inr (.inl S)))] := hD
        refine lv_aload_n hx hb d_Mo_black_33 rfl (lv_at hl 0 rfl) ?_
        refine va_get (D := D) (cl := xcl) (ci := 5) (v := .int (iI 1)) (C := R_Mo) (T := T_Mo) (N := 25) hx hb hts i_Mo hown hK hP 0 rfl rfl 0 (by decide) (hts _ kw_503) (fun _ h9 => h9) rfl d_Mo_black_34 ?_
        refine xi_if_le (tgt := 42) hx hb d_Mo_black_37 (by decide) ⟨by decide, by decide⟩ (fun c_37 => ?_) (fun c_37 => ?_)
        ·
          exact absurd c_37 (by decide)
        ·
          refine xi_iconst hx hb d_Mo_black_40 ?_
          exact x_zret hx hb hr hlocks hP hD hS (by decide) (by decide) rfl ⟨0, 1, rfl, rfl, Or.inl ⟨rfl, by omega⟩⟩ d_Mo_black_41
      ·
        refine lv_iload_n hx hb d_Mo_black_17 rfl (lv_at hl 2 rfl) ?_
        refine lv_aload_n hx hb d_Mo_black_18 rfl (lv_at hl 0 rfl) ?_
        refine va_get (D := D) (cl := xcl) (ci := 5) (v := .int (iI dI)) (C := R_Mo) (T := T_Mo) (N := 25) hx hb hts i_Mo hown hK hP 0 rfl rfl 2 (by decide) (hts _ kw_505) (fun _ h9 => h9) rfl d_Mo_black_19 ?_
        refine xi_icmp_lt (tgt := 29) hx hb d_Mo_black_22 (by decide) ⟨by omega, by omega⟩ ⟨by omega, by omega⟩ (fun c_22 => ?_) (fun c_22 => ?_)
        ·
          refine xi_iconst hx hb d_Mo_black_29 ?_
          refine va_put (D := D) (cl := xcl) (ci := 5) (v := .int (iI 0)) (ty := .int) (C := R_Mo) (T := T_Mo) (N := 25) hx hb hts i_Mo ty_Mo ty_Mo_ok nm_Mo hown hK hP hD hS 0 rfl rfl 0 (by decide) (hts _ kw_503) (fun _ h9 => h9) rfl (by decide +kernel) rfl rfl (Nat.le_of_ble_eq_true rfl) d_Mo_black_30 (fun H locs hP hD hS => ?_)
          have hP : va_P D xcl [(q, .inr (5, [.int (iI 0), .int (iI ac), .int (iI dI), .int (iI dp), .ref sa, .int (iI bk), .int (iI rs), .int (iI nW), .int (iI nH), .int (iI mt), .int (iI op), .int (iI x), .int (iI y), .int (iI wd), .int (iI ht), .int (iI sc), .int (iI rw), .int (iI ln), .ref ea, .ref fa, .ref ca, .int (iI ct), .int (iI kr), .int (iI kb), .int (iI ov)])), (sa, .inl (cJ, nS, .inr (.inl S)))] _ := hP
          have hD : va_D A [(q, .inr (5, [.int (iI 0), .int (iI ac), .int (iI dI), .int (iI dp), .ref sa, .int (iI bk), .int (iI rs), .int (iI nW), .int (iI nH), .int (iI mt), .int (iI op), .int (iI x), .int (iI y), .int (iI wd), .int (iI ht), .int (iI sc), .int (iI rw), .int (iI ln), .ref ea, .ref fa, .ref ca, .int (iI ct), .int (iI kr), .int (iI kb), .int (iI ov)])), (sa, .inl (cJ, nS, .inr (.inl S)))] := hD
          refine lv_aload_n hx hb d_Mo_black_33 rfl (lv_at hl 0 rfl) ?_
          refine va_get (D := D) (cl := xcl) (ci := 5) (v := .int (iI 0)) (C := R_Mo) (T := T_Mo) (N := 25) hx hb hts i_Mo hown hK hP 0 rfl rfl 0 (by decide) (hts _ kw_503) (fun _ h9 => h9) rfl d_Mo_black_34 ?_
          refine xi_if_le (tgt := 42) hx hb d_Mo_black_37 (by decide) ⟨by decide, by decide⟩ (fun c_37 => ?_) (fun c_37 => ?_)
          ·
            refine lv_aload_n hx hb d_Mo_black_42 rfl (lv_at hl 0 rfl) ?_
            refine va_get (D := D) (cl := xcl) (ci := 5) (v := .ref sa) (C := R_Mo) (T := T_Mo) (N := 25) hx hb hts i_Mo hown hK hP 0 rfl rfl 4 (by decide) (hts _ kw_507) (fun _ h9 => h9) rfl d_Mo_black_43 ?_
            refine xi_bipush hx hb d_Mo_black_46 (by decide) ?_
            refine lv_iload_n hx hb d_Mo_black_48 rfl (lv_at hl 2 rfl) ?_
            refine xi_imul hx hb d_Mo_black_49 ?_
            refine lv_iload_n hx hb d_Mo_black_50 rfl (lv_at hl 1 rfl) ?_
            refine xi_bipush hx hb d_Mo_black_51 (by decide) ?_
            refine xi_idiv hx hb d_Mo_black_53 ⟨by omega, by omega⟩ ⟨by omega, by omega⟩ ?_
            refine xi_iadd hx hb d_Mo_black_54 ?_
            refine xi_lald hx hb hK hP 1 1 rfl rfl (by omega) (by omega) (by omega) d_Mo_black_55 ?_
            refine xi_bipush hx hb d_Mo_black_56 (by decide) ?_
            refine lv_iload_n hx hb d_Mo_black_58 rfl (lv_at hl 1 rfl) ?_
            refine xi_bipush hx hb d_Mo_black_59 (by decide) ?_
            refine xi_irem hx hb d_Mo_black_61 ⟨by omega, by omega⟩ ⟨by omega, by omega⟩ ?_
            refine xi_isub hx hb d_Mo_black_62 ?_
            refine lv_lshr (v := S ((80 * yy) + (xx / 64)).toNat >>> ((iI (63 - (xx % 64))).toInt64 &&& 63)) hx hb d_Mo_black_63 rfl ?_
            refine lv_lconst (v := 1) hx hb d_Mo_black_64 (by decide) ?_
            refine lv_land hx hb d_Mo_black_65 ?_
            refine lv_lconst (v := 1) hx hb d_Mo_black_66 (by decide) ?_
            refine W.lcmp hx hb d_Mo_black_67 ?_
            refine lv_if_ne (tgt := 75) hx hb d_Mo_black_68 (by decide)  (fun c_68 => ?_) (fun c_68 => ?_)
            ·
              refine xi_iconst hx hb d_Mo_black_75 ?_
              have e76 : dS S yy.toNat xx.toNat = tb (S ((80 * yy) + (xx / 64)).toNat) (63 - xx % 64).toNat := by unfold dS dt; show tb (S (80 * yy.toNat + xx.toNat / 64)) (63 - xx.toNat % 64) = _; rw [show 80 * yy.toNat + xx.toNat / 64 = ((80 * yy) + (xx / 64)).toNat by omega, show 63 - xx.toNat % 64 = (63 - xx % 64).toNat by omega]
              exact x_zret hx hb hr hlocks hP hD hS (by decide) (by decide) rfl ⟨0, 0, rfl, rfl, Or.inr ⟨rfl, by omega, by omega, by omega, by omega, Or.inr ⟨rfl, by rw [e76]; exact (Bool.not_eq_true _).mp (fun z => c_68 (lgc0.mpr ((sh1 _ (by omega) (by omega)).mpr z)))⟩⟩⟩ d_Mo_black_76
            ·
              refine xi_iconst hx hb d_Mo_black_71 ?_
              refine lv_goto (tgt := 76) hx hb d_Mo_black_72 (by decide) ?_
              have e76 : dS S yy.toNat xx.toNat = tb (S ((80 * yy) + (xx / 64)).toNat) (63 - xx % 64).toNat := by unfold dS dt; show tb (S (80 * yy.toNat + xx.toNat / 64)) (63 - xx.toNat % 64) = _; rw [show 80 * yy.toNat + xx.toNat / 64 = ((80 * yy) + (xx / 64)).toNat by omega, show 63 - xx.toNat % 64 = (63 - xx % 64).toNat by omega]
              exact x_zret hx hb hr hlocks hP hD hS (by decide) (by decide) rfl ⟨1, 0, rfl, rfl, Or.inr ⟨rfl, by omega, by omega, by omega, by omega, Or.inl ⟨rfl, by rw [e76]; exact (sh1 _ (by omega) (by omega)).mp (lgc0.mp c_68)⟩⟩⟩ d_Mo_black_76
          ·
            exact absurd c_37 (by decide)
        ·
          refine xi_iconst hx hb d_Mo_black_25 ?_
          refine lv_goto (tgt := 30) hx hb d_Mo_black_26 (by decide) ?_
          refine va_put (D := D) (cl := xcl) (ci := 5) (v := .int (iI 1)) (ty := .int) (C := R_Mo) (T := T_Mo) (N := 25) hx hb hts i_Mo ty_Mo ty_Mo_ok nm_Mo hown hK hP hD hS 0 rfl rfl 0 (by decide) (hts _ kw_503) (fun _ h9 => h9) rfl (by decide +kernel) rfl rfl (Nat.le_of_ble_eq_true rfl) d_Mo_black_30 (fun H locs hP hD hS => ?_)
          have hP : va_P D xcl [(q, .inr (5, [.int (iI 1), .int (iI ac), .int (iI dI), .int (iI dp), .ref sa, .int (iI bk), .int (iI rs), .int (iI nW), .int (iI nH), .int (iI mt), .int (iI op), .int (iI x), .int (iI y), .int (iI wd), .int (iI ht), .int (iI sc), .int (iI rw), .int (iI ln), .ref ea, .ref fa, .ref ca, .int (iI ct), .int (iI kr), .int (iI kb), .int (iI ov)])), (sa, .inl (cJ, nS, .inr (.inl S)))] _ := hP
          have hD : va_D A [(q, .inr (5, [.int (iI 1), .int (iI ac), .int (iI dI), .int (iI dp), .ref sa, .int (iI bk), .int (iI rs), .int (iI nW), .int (iI nH), .int (iI mt), .int (iI op), .int (iI x), .int (iI y), .int (iI wd), .int (iI ht), .int (iI sc), .int (iI rw), .int (iI ln), .ref ea, .ref fa, .ref ca, .int (iI ct), .int (iI kr), .int (iI kb), .int (iI ov)])), (sa, .inl (cJ, nS, .inr (.inl S)))] := hD
          refine lv_aload_n hx hb d_Mo_black_33 rfl (lv_at hl 0 rfl) ?_
          refine va_get (D := D) (cl := xcl) (ci := 5) (v := .int (iI 1)) (C := R_Mo) (T := T_Mo) (N := 25) hx hb hts i_Mo hown hK hP 0 rfl rfl 0 (by decide) (hts _ kw_503) (fun _ h9 => h9) rfl d_Mo_black_34 ?_
          refine xi_if_le (tgt := 42) hx hb d_Mo_black_37 (by decide) ⟨by decide, by decide⟩ (fun c_37 => ?_) (fun c_37 => ?_)
          ·
            exact absurd c_37 (by decide)
          ·
            refine xi_iconst hx hb d_Mo_black_40 ?_
            exact x_zret hx hb hr hlocks hP hD hS (by decide) (by decide) rfl ⟨0, 1, rfl, rfl, Or.inl ⟨rfl, by omega⟩⟩ d_Mo_black_41

theorem d_Mo_blacken_0 : decode b_Mo_blacken 0 = .ok (.iconst 0, 1) := by decide +kernel
theorem d_Mo_blacken_1 : decode b_Mo_blacken 1 = .ok (.istore_n 2, 1) := by decide +kernel
theorem d_Mo_blacken_2 : decode b_Mo_blacken 2 = .ok (.iload_n 2, 1) := by decide +kernel
theorem d_Mo_blacken_3 : decode b_Mo_blacken 3 = .ok (.aload_n 0, 1) := by decide +kernel
theorem d_Mo_blacken_4 : decode b_Mo_blacken 4 = .ok (.getfield 68, 3) := by decide +kernel
theorem d_Mo_blacken_7 : decode b_Mo_blacken 7 = .ok (.if_icmp .ge 157, 3) := by decide +kernel
theorem d_Mo_blacken_10 : decode b_Mo_blacken 10 = .ok (.iconst 0, 1) := by decide +kernel
theorem d_Mo_blacken_11 : decode b_Mo_blacken 11 = .ok (.istore_n 3, 1) := by decide +kernel
theorem d_Mo_blacken_12 : decode b_Mo_blacken 12 = .ok (.iload_n 3, 1) := by decide +kernel
theorem d_Mo_blacken_13 : decode b_Mo_blacken 13 = .ok (.aload_n 0, 1) := by decide +kernel
theorem d_Mo_blacken_14 : decode b_Mo_blacken 14 = .ok (.getfield 68, 3) := by decide +kernel
theorem d_Mo_blacken_17 : decode b_Mo_blacken 17 = .ok (.if_icmp .ge 141, 3) := by decide +kernel
theorem d_Mo_blacken_20 : decode b_Mo_blacken 20 = .ok (.aload_n 0, 1) := by decide +kernel
theorem d_Mo_blacken_21 : decode b_Mo_blacken 21 = .ok (.getfield 56, 3) := by decide +kernel
theorem d_Mo_blacken_24 : decode b_Mo_blacken 24 = .ok (.aload_n 0, 1) := by decide +kernel
theorem d_Mo_blacken_25 : decode b_Mo_blacken 25 = .ok (.getfield 68, 3) := by decide +kernel
theorem d_Mo_blacken_28 : decode b_Mo_blacken 28 = .ok (.iload_n 1, 1) := by decide +kernel
theorem d_Mo_blacken_29 : decode b_Mo_blacken 29 = .ok (.imul, 1) := by decide +kernel
theorem d_Mo_blacken_30 : decode b_Mo_blacken 30 = .ok (.iadd, 1) := by decide +kernel
theorem d_Mo_blacken_31 : decode b_Mo_blacken 31 = .ok (.iload_n 2, 1) := by decide +kernel
theorem d_Mo_blacken_32 : decode b_Mo_blacken 32 = .ok (.iadd, 1) := by decide +kernel
theorem d_Mo_blacken_33 : decode b_Mo_blacken 33 = .ok (.istore 4, 2) := by decide +kernel
theorem d_Mo_blacken_35 : decode b_Mo_blacken 35 = .ok (.aload_n 0, 1) := by decide +kernel
theorem d_Mo_blacken_36 : decode b_Mo_blacken 36 = .ok (.getfield 59, 3) := by decide +kernel
theorem d_Mo_blacken_39 : decode b_Mo_blacken 39 = .ok (.aload_n 0, 1) := by decide +kernel
theorem d_Mo_blacken_40 : decode b_Mo_blacken 40 = .ok (.getfield 68, 3) := by decide +kernel
theorem d_Mo_blacken_43 : decode b_Mo_blacken 43 = .ok (.aload_n 0, 1) := by decide +kernel
theorem d_Mo_blacken_44 : decode b_Mo_blacken 44 = .ok (.getfield 71, 3) := by decide +kernel
theorem d_Mo_blacken_47 : decode b_Mo_blacken 47 = .ok (.imul, 1) := by decide +kernel
theorem d_Mo_blacken_48 : decode b_Mo_blacken 48 = .ok (.iadd, 1) := by decide +kernel
theorem d_Mo_blacken_49 : decode b_Mo_blacken 49 = .ok (.iload_n 3, 1) := by decide +kernel
theorem d_Mo_blacken_50 : decode b_Mo_blacken 50 = .ok (.iadd, 1) := by decide +kernel
theorem d_Mo_blacken_51 : decode b_Mo_blacken 51 = .ok (.istore 5, 2) := by decide +kernel
theorem d_Mo_blacken_53 : decode b_Mo_blacken 53 = .ok (.iload 4, 2) := by decide +kernel
theorem d_Mo_blacken_55 : decode b_Mo_blacken 55 = .ok (.ifCond .lt 97, 3) := by decide +kernel
theorem d_Mo_blacken_58 : decode b_Mo_blacken 58 = .ok (.iload 4, 2) := by decide +kernel
theorem d_Mo_blacken_60 : decode b_Mo_blacken 60 = .ok (.aload_n 0, 1) := by decide +kernel
theorem d_Mo_blacken_61 : decode b_Mo_blacken 61 = .ok (.getfield 23, 3) := by decide +kernel
theorem d_Mo_blacken_64 : decode b_Mo_blacken 64 = .ok (.if_icmp .ge 88, 3) := by decide +kernel
theorem d_Mo_blacken_67 : decode b_Mo_blacken 67 = .ok (.iload 5, 2) := by decide +kernel
theorem d_Mo_blacken_69 : decode b_Mo_blacken 69 = .ok (.ifCond .lt 83, 3) := by decide +kernel
theorem d_Mo_blacken_72 : decode b_Mo_blacken 72 = .ok (.iload 5, 2) := by decide +kernel
theorem d_Mo_blacken_74 : decode b_Mo_blacken 74 = .ok (.aload_n 0, 1) := by decide +kernel
theorem d_Mo_blacken_75 : decode b_Mo_blacken 75 = .ok (.getfield 26, 3) := by decide +kernel
theorem d_Mo_blacken_78 : decode b_Mo_blacken 78 = .ok (.if_icmp .ge 74, 3) := by decide +kernel
theorem d_Mo_blacken_81 : decode b_Mo_blacken 81 = .ok (.bipush 80, 2) := by decide +kernel
theorem d_Mo_blacken_83 : decode b_Mo_blacken 83 = .ok (.iload 5, 2) := by decide +kernel
theorem d_Mo_blacken_85 : decode b_Mo_blacken 85 = .ok (.imul, 1) := by decide +kernel
theorem d_Mo_blacken_86 : decode b_Mo_blacken 86 = .ok (.iload 4, 2) := by decide +kernel
theorem d_Mo_blacken_88 : decode b_Mo_blacken 88 = .ok (.bipush 64, 2) := by decide +kernel
theorem d_Mo_blacken_90 : decode b_Mo_blacken 90 = .ok (.idiv, 1) := by decide +kernel
theorem d_Mo_blacken_91 : decode b_Mo_blacken 91 = .ok (.iadd, 1) := by decide +kernel
theorem d_Mo_blacken_92 : decode b_Mo_blacken 92 = .ok (.istore 6, 2) := by decide +kernel
theorem d_Mo_blacken_94 : decode b_Mo_blacken 94 = .ok (.lconst 1, 1) := by decide +kernel
theorem d_Mo_blacken_95 : decode b_Mo_blacken 95 = .ok (.bipush 63, 2) := by decide +kernel
theorem d_Mo_blacken_97 : decode b_Mo_blacken 97 = .ok (.iload 4, 2) := by decide +kernel
theorem d_Mo_blacken_99 : decode b_Mo_blacken 99 = .ok (.bipush 64, 2) := by decide +kernel
theorem d_Mo_blacken_101 : decode b_Mo_blacken 101 = .ok (.irem, 1) := by decide +kernel
theorem d_Mo_blacken_102 : decode b_Mo_blacken 102 = .ok (.isub, 1) := by decide +kernel
theorem d_Mo_blacken_103 : decode b_Mo_blacken 103 = .ok (.lshl, 1) := by decide +kernel
theorem d_Mo_blacken_104 : decode b_Mo_blacken 104 = .ok (.lstore 7, 2) := by decide +kernel
theorem d_Mo_blacken_106 : decode b_Mo_blacken 106 = .ok (.aload_n 0, 1) := by decide +kernel
theorem d_Mo_blacken_107 : decode b_Mo_blacken 107 = .ok (.dup, 1) := by decide +kernel
theorem d_Mo_blacken_108 : decode b_Mo_blacken 108 = .ok (.getfield 98, 3) := by decide +kernel
theorem d_Mo_blacken_111 : decode b_Mo_blacken 111 = .ok (.aload_n 0, 1) := by decide +kernel
theorem d_Mo_blacken_112 : decode b_Mo_blacken 112 = .ok (.getfield 29, 3) := by decide +kernel
theorem d_Mo_blacken_115 : decode b_Mo_blacken 115 = .ok (.iload 6, 2) := by decide +kernel
theorem d_Mo_blacken_117 : decode b_Mo_blacken 117 = .ok (.laload, 1) := by decide +kernel
theorem d_Mo_blacken_118 : decode b_Mo_blacken 118 = .ok (.lload 7, 2) := by decide +kernel
theorem d_Mo_blacken_120 : decode b_Mo_blacken 120 = .ok (.land, 1) := by decide +kernel
theorem d_Mo_blacken_121 : decode b_Mo_blacken 121 = .ok (.lconst 0, 1) := by decide +kernel
theorem d_Mo_blacken_122 : decode b_Mo_blacken 122 = .ok (.lcmp, 1) := by decide +kernel
theorem d_Mo_blacken_123 : decode b_Mo_blacken 123 = .ok (.ifCond .ne 7, 3) := by decide +kernel
theorem d_Mo_blacken_126 : decode b_Mo_blacken 126 = .ok (.iconst 1, 1) := by decide +kernel
theorem d_Mo_blacken_127 : decode b_Mo_blacken 127 = .ok (.goto 4, 3) := by decide +kernel
theorem d_Mo_blacken_130 : decode b_Mo_blacken 130 = .ok (.iconst 0, 1) := by decide +kernel
theorem d_Mo_blacken_131 : decode b_Mo_blacken 131 = .ok (.iadd, 1) := by decide +kernel
theorem d_Mo_blacken_132 : decode b_Mo_blacken 132 = .ok (.putfield 98, 3) := by decide +kernel
theorem d_Mo_blacken_135 : decode b_Mo_blacken 135 = .ok (.aload_n 0, 1) := by decide +kernel
theorem d_Mo_blacken_136 : decode b_Mo_blacken 136 = .ok (.getfield 29, 3) := by decide +kernel
theorem d_Mo_blacken_139 : decode b_Mo_blacken 139 = .ok (.iload 6, 2) := by decide +kernel
theorem d_Mo_blacken_141 : decode b_Mo_blacken 141 = .ok (.aload_n 0, 1) := by decide +kernel
theorem d_Mo_blacken_142 : decode b_Mo_blacken 142 = .ok (.getfield 29, 3) := by decide +kernel
theorem d_Mo_blacken_145 : decode b_Mo_blacken 145 = .ok (.iload 6, 2) := by decide +kernel
theorem d_Mo_blacken_147 : decode b_Mo_blacken 147 = .ok (.laload, 1) := by decide +kernel
theorem d_Mo_blacken_148 : decode b_Mo_blacken 148 = .ok (.lload 7, 2) := by decide +kernel
theorem d_Mo_blacken_150 : decode b_Mo_blacken 150 = .ok (.lor, 1) := by decide +kernel
theorem d_Mo_blacken_151 : decode b_Mo_blacken 151 = .ok (.lastore, 1) := by decide +kernel
theorem d_Mo_blacken_152 : decode b_Mo_blacken 152 = .ok (.iinc 3 1, 3) := by decide +kernel
theorem d_Mo_blacken_155 : decode b_Mo_blacken 155 = .ok (.goto (-143), 3) := by decide +kernel
theorem d_Mo_blacken_158 : decode b_Mo_blacken 158 = .ok (.iinc 2 1, 3) := by decide +kernel
theorem d_Mo_blacken_161 : decode b_Mo_blacken 161 = .ok (.goto (-159), 3) := by decide +kernel
theorem d_Mo_blacken_164 : decode b_Mo_blacken 164 = .ok (.return_, 1) := by decide +kernel
theorem ds_Mo_blacken : xDesc y_Mo_blacken 1 := by decide +kernel

abbrev rm_Mo_blacken : Room := { frames := 0, cells := 0, slots := 0, locals := 0 }
set_option maxHeartbeats 4000000 in
set_option maxRecDepth 100000 in
/-- Model.blacken -/
theorem c_Mo_blacken (l : Launch) (D : va_G) (cI cJ cQ : ClassId) (q : Nat) (th : Int) (ac : Int) (dI : Int) (dp : Int) (sa : Nat) (bk : Int) (rs : Int) (nW : Int) (nH : Int) (mt : Int) (op : Int) (x : Int) (y : Int) (wd : Int) (ht : Int) (sc : Int) (rw : Int) (ln : Int) (ea : Nat) (fa : Nat) (ca : Nat) (ct : Int) (kr : Int) (kb : Int) (ov : Int) (nS : Nat) (S : Nat → Int64) (k : Int) (hac : 1 ≤ ac ∧ ac ≤ 5100) (hdI : 1 ≤ dI ∧ dI ≤ 5100) (hnS : (nS : Int) = 80 * dI) (hsc : 1 ≤ sc ∧ sc ≤ 4) (hxx : -10000 ≤ x ∧ x ≤ 10000) (hyy : -10000 ≤ y ∧ y ≤ 10000) (hrw : 0 ≤ rw ∧ rw ≤ 100000000) (hk : 0 ≤ k ∧ k < 5120) : xMet l D (xT cI cJ cQ) y_Mo_blacken b_Mo_blacken 9 none rm_Mo_blacken [.ref q, .int (iI k)] [(q, .inr (5, [.int (iI th), .int (iI ac), .int (iI dI), .int (iI dp), .ref sa, .int (iI bk), .int (iI rs), .int (iI nW), .int (iI nH), .int (iI mt), .int (iI op), .int (iI x), .int (iI y), .int (iI wd), .int (iI ht), .int (iI sc), .int (iI rw), .int (iI ln), .ref ea, .ref fa, .ref ca, .int (iI ct), .int (iI kr), .int (iI kb), .int (iI ov)])), (sa, .inl (cJ, nS, .inr (.inl S)))] (fun v ws => ∃ (S2 : Nat → Int64) (b2 : Int), v = none ∧ ws = [(q, .inr (5, [.int (iI th), .int (iI ac), .int (iI dI), .int (iI dp), .ref sa, .int (iI b2), .int (iI rs), .int (iI nW), .int (iI nH), .int (iI mt), .int (iI op), .int (iI x), .int (iI y), .int (iI wd), .int (iI ht), .int (iI sc), .int (iI rw), .int (iI ln), .ref ea, .ref fa, .ref ca, .int (iI ct), .int (iI kr), .int (iI kb), .int (iI ov)])), (sa, .inl (cJ, nS, .inr (.inl S2)))] ∧ (∀ z u : Nat, u < 5120 → (dS S2 z u = true ↔ dS S z u = true ∨ ((u : Int) < ac ∧ (z : Int) < dI ∧ y + sc * rw ≤ (z : Int) ∧ (z : Int) < y + sc * rw + sc ∧ x + sc * k ≤ (u : Int) ∧ (u : Int) < x + sc * k + sc))) ∧ (b2 = bk + cntS S2 nS - cntS S nS)) := by
  refine x_met (by decide) (Nat.le_of_ble_eq_true rfl) ?_
  intro p e s m below meth c hx hb hr hml hts hown hlocks hin hF0 A hA hP hD hK ls hl hS
  have hl : lv_has ls 9 [(0, .ref q), (1, .int (iI k))] := hl
  have m1 := mulB (a := sc) (b := k) (A := 4) (B := 5120) (by omega) (by omega) (by omega) (by omega)
  have m2 := mulB (a := sc) (b := rw) (A := 4) (B := 100000000) (by omega) (by omega) (by omega) (by omega)
  refine xi_iconst hx hb d_Mo_blacken_0 ?_
  refine lv_istore_n (lv' := [(2, .int (iI 0)), (0, .ref q), (1, .int (iI k))]) hx hb d_Mo_blacken_1 rfl hl (by decide) rfl (fun ls hl => ?_)
  refine x_loop3 (fun (i : Int) (S1 : Nat → Int64) (b1 : Int) H locs ls => (0 ≤ i ∧ i ≤ sc) ∧ (∀ z u : Nat, u < 5120 → (dS S1 z u = true ↔ bkP S ac dI (x + sc * k) (y + sc * rw) sc i 0 z u)) ∧ (b1 = bk + cntS S1 nS - cntS S nS) ∧ va_P D xcl [(q, .inr (5, [.int (iI th), .int (iI ac), .int (iI dI), .int (iI dp), .ref sa, .int (iI b1), .int (iI rs), .int (iI nW), .int (iI nH), .int (iI mt), .int (iI op), .int (iI x), .int (iI y), .int (iI wd), .int (iI ht), .int (iI sc), .int (iI rw), .int (iI ln), .ref ea, .ref fa, .ref ca, .int (iI ct), .int (iI kr), .int (iI kb), .int (iI ov)])), (sa, .inl (cJ, nS, .inr (.inl S1)))] H ∧ va_D A [(q, .inr (5, [.int (iI th), .int (iI ac), .int (iI dI), .int (iI dp), .ref sa, .int (iI b1), .int (iI rs), .int (iI nW), .int (iI nH), .int (iI mt), .int (iI op), .int (iI x), .int (iI y), .int (iI wd), .int (iI ht), .int (iI sc), .int (iI rw), .int (iI ln), .ref ea, .ref fa, .ref ca, .int (iI ct), .int (iI kr), .int (iI kb), .int (iI ov)])), (sa, .inl (cJ, nS, .inr (.inl S1)))] ∧ va_S A s.heap H locs ∧ lv_has ls 9 [(2, .int (iI i)), (0, .ref q), (1, .int (iI k))]) (fun (i : Int) (S1 : Nat → Int64) (b1 : Int) => (sc - i).toNat) 0 S bk ⟨by omega, fun z u _ => bkP_0, by omega, hP, hD, hS, hl⟩ ?_
  intro i S1 b1 H locs ls hI ih_2
  obtain ⟨k1, k2, k3, hP, hD, hS, hl⟩ := hI
  refine lv_iload_n hx hb d_Mo_blacken_2 rfl (lv_at hl 0 rfl) ?_
  refine lv_aload_n hx hb d_Mo_blacken_3 rfl (lv_at hl 1 rfl) ?_
  refine va_get (D := D) (cl := xcl) (ci := 5) (v := .int (iI sc)) (C := R_Mo) (T := T_Mo) (N := 25) hx hb hts i_Mo hown hK hP 0 rfl rfl 15 (by decide) (hts _ kw_518) (fun _ h9 => h9) rfl d_Mo_blacken_4 ?_
  refine xi_icmp_ge (tgt := 164) hx hb d_Mo_blacken_7 (by decide) ⟨by omega, by omega⟩ ⟨by omega, by omega⟩ (fun c_7 => ?_) (fun c_7 => ?_)
  ·
    exact x_vret hx hb hr hlocks hP hD hS (by decide) (by decide) ⟨S1, b1, rfl, rfl, fun z u hu => by
            rw [k2 z u hu, show i = sc by omega]
            unfold bkP
            constructor
            · rintro (q | q)
              · exact Or.inl q
              · exact Or.inr (by omega)
            · rintro (q | q)
              · exact Or.inl q
              · exact Or.inr (by omega), by omega⟩ d_Mo_blacken_164
  ·
    refine xi_iconst hx hb d_Mo_blacken_10 ?_
    refine lv_istore_n (lv' := [(3, .int (iI 0)), (2, .int (iI i)), (0, .ref q), (1, .int (iI k))]) hx hb d_Mo_blacken_11 rfl hl (by decide) rfl (fun ls hl => ?_)
    refine x_loop3 (fun (j : Int) (S3 : Nat → Int64) (b3 : Int) H locs ls => (0 ≤ j ∧ j ≤ sc) ∧ (∀ z u : Nat, u < 5120 → (dS S3 z u = true ↔ bkP S ac dI (x + sc * k) (y + sc * rw) sc i j z u)) ∧ (b3 = bk + cntS S3 nS - cntS S nS) ∧ va_P D xcl [(q, .inr (5, [.int (iI th), .int (iI ac), .int (iI dI), .int (iI dp), .ref sa, .int (iI b3), .int (iI rs), .int (iI nW), .int (iI nH), .int (iI mt), .int (iI op), .int (iI x), .int (iI y), .int (iI wd), .int (iI ht), .int (iI sc), .int (iI rw), .int (iI ln), .ref ea, .ref fa, .ref ca, .int (iI ct), .int (iI kr), .int (iI kb), .int (iI ov)])), (sa, .inl (cJ, nS, .inr (.inl S3)))] H ∧ va_D A [(q, .inr (5, [.int (iI th), .int (iI ac), .int (iI dI), .int (iI dp), .ref sa, .int (iI b3), .int (iI rs), .int (iI nW), .int (iI nH), .int (iI mt), .int (iI op), .int (iI x), .int (iI y), .int (iI wd), .int (iI ht), .int (iI sc), .int (iI rw), .int (iI ln), .ref ea, .ref fa, .ref ca, .int (iI ct), .int (iI kr), .int (iI kb), .int (iI ov)])), (sa, .inl (cJ, nS, .inr (.inl S3)))] ∧ va_S A s.heap H locs ∧ lv_has ls 9 [(3, .int (iI j)), (2, .int (iI i)), (0, .ref q), (1, .int (iI k))]) (fun (j : Int) (S3 : Nat → Int64) (b3 : Int) => (sc - j).toNat) 0 S1 b1 ⟨by omega, k2, by omega, hP, hD, hS, hl⟩ ?_
    intro j S3 b3 H locs ls hI ih_12
    obtain ⟨j1, j2, j3, hP, hD, hS, hl⟩ := hI
    refine lv_iload_n hx hb d_Mo_blacken_12 rfl (lv_at hl 0 rfl) ?_
    refine lv_aload_n hx hb d_Mo_blacken_13 rfl (lv_at hl 2 rfl) ?_
    refine va_get (D := D) (cl := xcl) (ci := 5) (v := .int (iI sc)) (C := R_Mo) (T := T_Mo) (N := 25) hx hb hts i_Mo hown hK hP 0 rfl rfl 15 (by decide) (hts _ kw_518) (fun _ h9 => h9) rfl d_Mo_blacken_14 ?_
    refine xi_icmp_ge (tgt := 158) hx hb d_Mo_blacken_17 (by decide) ⟨by omega, by omega⟩ ⟨by omega, by omega⟩ (fun c_17 => ?_) (fun c_17 => ?_)
    ·
      refine xi_iinc (lv' := [(2, .int (iI (i + 1))), (3, .int (iI j)), (0, .ref q), (1, .int (iI k))]) hx hb d_Mo_blacken_158 hl (k := 1) rfl (by decide) rfl (fun ls hl => ?_)
      refine lv_goto (tgt := 2) hx hb d_Mo_blacken_161 (by decide) ?_
      exact ih_2 (i + 1) S3 b3 _ _ _ (by omega) ⟨by omega, fun z u hu => by
          have q9 := j2 z u hu
          rw [show j = sc by omega] at q9
          exact q9.trans bkP_next, by omega, hP, hD, hS, (lv_sub hl [0, 2, 3] rfl)⟩
    ·
      refine lv_aload_n hx hb d_Mo_blacken_20 rfl (lv_at hl 2 rfl) ?_
      refine va_get (D := D) (cl := xcl) (ci := 5) (v := .int (iI x)) (C := R_Mo) (T := T_Mo) (N := 25) hx hb hts i_Mo hown hK hP 0 rfl rfl 11 (by decide) (hts _ kw_514) (fun _ h9 => h9) rfl d_Mo_blacken_21 ?_
      refine lv_aload_n hx hb d_Mo_blacken_24 rfl (lv_at hl 2 rfl) ?_
      refine va_get (D := D) (cl := xcl) (ci := 5) (v := .int (iI sc)) (C := R_Mo) (T := T_Mo) (N := 25) hx hb hts i_Mo hown hK hP 0 rfl rfl 15 (by decide) (hts _ kw_518) (fun _ h9 => h9) rfl d_Mo_blacken_25 ?_
      refine lv_iload_n hx hb d_Mo_blacken_28 rfl (lv_at hl 3 rfl) ?_
      refine xi_imul hx hb d_Mo_blacken_29 ?_
      refine xi_iadd hx hb d_Mo_blacken_30 ?_
      refine lv_iload_n hx hb d_Mo_blacken_31 rfl (lv_at hl 1 rfl) ?_
      refine xi_iadd hx hb d_Mo_blacken_32 ?_
      refine lv_istore (lv' := [(4, .int (iI ((x + (sc * k)) + i))), (3, .int (iI j)), (2, .int (iI i)), (0, .ref q), (1, .int (iI k))]) hx hb d_Mo_blacken_33 hl (by decide) rfl (fun ls hl => ?_)
      refine lv_aload_n hx hb d_Mo_blacken_35 rfl (lv_at hl 3 rfl) ?_
      refine va_get (D := D) (cl := xcl) (ci := 5) (v := .int (iI y)) (C := R_Mo) (T := T_Mo) (N := 25) hx hb hts i_Mo hown hK hP 0 rfl rfl 12 (by decide) (hts _ kw_515) (fun _ h9 => h9) rfl d_Mo_blacken_36 ?_
      refine lv_aload_n hx hb d_Mo_blacken_39 rfl (lv_at hl 3 rfl) ?_
      refine va_get (D := D) (cl := xcl) (ci := 5) (v := .int (iI sc)) (C := R_Mo) (T := T_Mo) (N := 25) hx hb hts i_Mo hown hK hP 0 rfl rfl 15 (by decide) (hts _ kw_518) (fun _ h9 => h9) rfl d_Mo_blacken_40 ?_
      refine lv_aload_n hx hb d_Mo_blacken_43 rfl (lv_at hl 3 rfl) ?_
      refine va_get (D := D) (cl := xcl) (ci := 5) (v := .int (iI rw)) (C := R_Mo) (T := T_Mo) (N := 25) hx hb hts i_Mo hown hK hP 0 rfl rfl 16 (by decide) (hts _ kw_519) (fun _ h9 => h9) rfl d_Mo_blacken_44 ?_
      refine xi_imul hx hb d_Mo_blacken_47 ?_
      refine xi_iadd hx hb d_Mo_blacken_48 ?_
      refine lv_iload_n hx hb d_Mo_blacken_49 rfl (lv_at hl 1 rfl) ?_
      refine xi_iadd hx hb d_Mo_blacken_50 ?_
      refine lv_istore (lv' := [(5, .int (iI ((y + (sc * rw)) + j))), (4, .int (iI ((x + (sc * k)) + i))), (3, .int (iI j)), (2, .int (iI i)), (0, .ref q), (1, .int (iI k))]) hx hb d_Mo_blacken_51 hl (by decide) rfl (fun ls hl => ?_)
      refine lv_iload hx hb d_Mo_blacken_53 (lv_at hl 1 rfl) ?_
      refine xi_if_lt (tgt := 152) hx hb d_Mo_blacken_55 (by decide) ⟨by omega, by omega⟩ (fun c_55 => ?_) (fun c_55 => ?_)
      ·
        refine xi_iinc (lv' := [(3, .int (iI (j + 1))), (5, .int (iI ((y + (sc * rw)) + j))), (4, .int (iI ((x + (sc * k)) + i))), (2, .int (iI i)), (0, .ref q), (1, .int (iI k))]) hx hb d_Mo_blacken_152 hl (k := 2) rfl (by decide) rfl (fun ls hl => ?_)
        refine lv_goto (tgt := 12) hx hb d_Mo_blacken_155 (by decide) ?_
        exact ih_12 (j + 1) S3 b3 _ _ _ (by omega) ⟨by omega, fun z u hu => by first | exact bkP_in ⟨by omega, by omega⟩ ⟨by omega, by omega⟩ ⟨by omega, by omega⟩ (dS_setI _ ⟨by omega, by omega⟩ (by omega) z u hu) (j2 z u hu) | exact (j2 z u hu).trans (bkP_out (by omega)), by first | omega | (rw [cnt_set1 (by omega) (by omega) ((bW_and (by omega)).mp (lgc0.mp c_123))]; omega) | (rw [cnt_set0 (by omega) (by omega) ((Bool.not_eq_false _).mp (fun z => c_123 (lgc0.mpr ((bW_and (by omega)).mpr z))))]; omega), hP, hD, hS, (lv_sub hl [0, 3, 4, 5] rfl)⟩
      ·
        refine lv_iload hx hb d_Mo_blacken_58 (lv_at hl 1 rfl) ?_
        refine lv_aload_n hx hb d_Mo_blacken_60 rfl (lv_at hl 4 rfl) ?_
        refine va_get (D := D) (cl := xcl) (ci := 5) (v := .int (iI ac)) (C := R_Mo) (T := T_Mo) (N := 25) hx hb hts i_Mo hown hK hP 0 rfl rfl 1 (by decide) (hts _ kw_504) (fun _ h9 => h9) rfl d_Mo_blacken_61 ?_
        refine xi_icmp_ge (tgt := 152) hx hb d_Mo_blacken_64 (by decide) ⟨by omega, by omega⟩ ⟨by omega, by omega⟩ (fun c_64 => ?_) (fun c_64 => ?_)
        ·
          refine xi_iinc (lv' := [(3, .int (iI (j + 1))), (5, .int (iI ((y + (sc * rw)) + j))), (4, .int (iI ((x + (sc * k)) + i))), (2, .int (iI i)), (0, .ref q), (1, .int (iI k))]) hx hb d_Mo_blacken_152 hl (k := 2) rfl (by decide) rfl (fun ls hl => ?_)
          refine lv_goto (tgt := 12) hx hb d_Mo_blacken_155 (by decide) ?_
          exact ih_12 (j + 1) S3 b3 _ _ _ (by omega) ⟨by omega, fun z u hu => by first | exact bkP_in ⟨by omega, by omega⟩ ⟨by omega, by omega⟩ ⟨by omega, by omega⟩ (dS_setI _ ⟨by omega, by omega⟩ (by omega) z u hu) (j2 z u hu) | exact (j2 z u hu).trans (bkP_out (by omega)), by first | omega | (rw [cnt_set1 (by omega) (by omega) ((bW_and (by omega)).mp (lgc0.mp c_123))]; omega) | (rw [cnt_set0 (by omega) (by omega) ((Bool.not_eq_false _).mp (fun z => c_123 (lgc0.mpr ((bW_and (by omega)).mpr z))))]; omega), hP, hD, hS, (lv_sub hl [0, 3, 4, 5] rfl)⟩
        ·
          refine lv_iload hx hb d_Mo_blacken_67 (lv_at hl 0 rfl) ?_
          refine xi_if_lt (tgt := 152) hx hb d_Mo_blacken_69 (by decide) ⟨by omega, by omega⟩ (fun c_69 => ?_) (fun c_69 => ?_)
          ·
            refine xi_iinc (lv' := [(3, .int (iI (j + 1))), (5, .int (iI ((y + (sc * rw)) + j))), (4, .int (iI ((x + (sc * k)) + i))), (2, .int (iI i)), (0, .ref q), (1, .int (iI k))]) hx hb d_Mo_blacken_152 hl (k := 2) rfl (by decide) rfl (fun ls hl => ?_)
            refine lv_goto (tgt := 12) hx hb d_Mo_blacken_155 (by decide) ?_
            exact ih_12 (j + 1) S3 b3 _ _ _ (by omega) ⟨by omega, fun z u hu => by first | exact bkP_in ⟨by omega, by omega⟩ ⟨by omega, by omega⟩ ⟨by omega, by omega⟩ (dS_setI _ ⟨by omega, by omega⟩ (by omega) z u hu) (j2 z u hu) | exact (j2 z u hu).trans (bkP_out (by omega)), by first | omega | (rw [cnt_set1 (by omega) (by omega) ((bW_and (by omega)).mp (lgc0.mp c_123))]; omega) | (rw [cnt_set0 (by omega) (by omega) ((Bool.not_eq_false _).mp (fun z => c_123 (lgc0.mpr ((bW_and (by omega)).mpr z))))]; omega), hP, hD, hS, (lv_sub hl [0, 3, 4, 5] rfl)⟩
          ·
            refine lv_iload hx hb d_Mo_blacken_72 (lv_at hl 0 rfl) ?_
            refine lv_aload_n hx hb d_Mo_blacken_74 rfl (lv_at hl 4 rfl) ?_
            refine va_get (D := D) (cl := xcl) (ci := 5) (v := .int (iI dI)) (C := R_Mo) (T := T_Mo) (N := 25) hx hb hts i_Mo hown hK hP 0 rfl rfl 2 (by decide) (hts _ kw_505) (fun _ h9 => h9) rfl d_Mo_blacken_75 ?_
            refine xi_icmp_ge (tgt := 152) hx hb d_Mo_blacken_78 (by decide) ⟨by omega, by omega⟩ ⟨by omega, by omega⟩ (fun c_78 => ?_) (fun c_78 => ?_)
            ·
              refine xi_iinc (lv' := [(3, .int (iI (j + 1))), (5, .int (iI ((y + (sc * rw)) + j))), (4, .int (iI ((x + (sc * k)) + i))), (2, .int (iI i)), (0, .ref q), (1, .int (iI k))]) hx hb d_Mo_blacken_152 hl (k := 2) rfl (by decide) rfl (fun ls hl => ?_)
              refine lv_goto (tgt := 12) hx hb d_Mo_blacken_155 (by decide) ?_
              exact ih_12 (j + 1) S3 b3 _ _ _ (by omega) ⟨by omega, fun z u hu => by first | exact bkP_in ⟨by omega, by omega⟩ ⟨by omega, by omega⟩ ⟨by omega, by omega⟩ (dS_setI _ ⟨by omega, by omega⟩ (by omega) z u hu) (j2 z u hu) | exact (j2 z u hu).trans (bkP_out (by omega)), by first | omega | (rw [cnt_set1 (by omega) (by omega) ((bW_and (by omega)).mp (lgc0.mp c_123))]; omega) | (rw [cnt_set0 (by omega) (by omega) ((Bool.not_eq_false _).mp (fun z => c_123 (lgc0.mpr ((bW_and (by omega)).mpr z))))]; omega), hP, hD, hS, (lv_sub hl [0, 3, 4, 5] rfl)⟩
            ·
              refine xi_bipush hx hb d_Mo_blacken_81 (by decide) ?_
              refine lv_iload hx hb d_Mo_blacken_83 (lv_at hl 0 rfl) ?_
              refine xi_imul hx hb d_Mo_blacken_85 ?_
              refine lv_iload hx hb d_Mo_blacken_86 (lv_at hl 1 rfl) ?_
              refine xi_bipush hx hb d_Mo_blacken_88 (by decide) ?_
              refine xi_idiv hx hb d_Mo_blacken_90 ⟨by omega, by omega⟩ ⟨by omega, by omega⟩ ?_
              refine xi_iadd hx hb d_Mo_blacken_91 ?_
              refine lv_istore (lv' := [(6, .int (iI ((80 * ((y + (sc * rw)) + j)) + (((x + (sc * k)) + i) / 64)))), (5, .int (iI ((y + (sc * rw)) + j))), (4, .int (iI ((x + (sc * k)) + i))), (3, .int (iI j)), (2, .int (iI i)), (0, .ref q), (1, .int (iI k))]) hx hb d_Mo_blacken_92 hl (by decide) rfl (fun ls hl => ?_)
              refine lv_lconst (v := 1) hx hb d_Mo_blacken_94 (by decide) ?_
              refine xi_bipush hx hb d_Mo_blacken_95 (by decide) ?_
              refine lv_iload hx hb d_Mo_blacken_97 (lv_at hl 2 rfl) ?_
              refine xi_bipush hx hb d_Mo_blacken_99 (by decide) ?_
              refine xi_irem hx hb d_Mo_blacken_101 ⟨by omega, by omega⟩ ⟨by omega, by omega⟩ ?_
              refine xi_isub hx hb d_Mo_blacken_102 ?_
              refine lv_lshl (v := bW (63 - ((x + (sc * k)) + i) % 64).toNat) hx hb d_Mo_blacken_103 (by rw [← bW_shl (63 - ((x + (sc * k)) + i) % 64).toNat (by omega), Int.toNat_of_nonneg (by omega)]) ?_
              refine lv_lstore (lv' := [(7, .long (bW (63 - ((x + (sc * k)) + i) % 64).toNat)), (6, .int (iI ((80 * ((y + (sc * rw)) + j)) + (((x + (sc * k)) + i) / 64)))), (5, .int (iI ((y + (sc * rw)) + j))), (4, .int (iI ((x + (sc * k)) + i))), (3, .int (iI j)), (2, .int (iI i)), (0, .ref q), (1, .int (iI k))]) hx hb d_Mo_blacken_104 hl (by decide) rfl (fun ls hl => ?_)
              refine lv_aload_n hx hb d_Mo_blacken_106 rfl (lv_at hl 6 rfl) ?_
              refine lv_dup hx hb d_Mo_blacken_107 rfl ?_
              refine va_get (D := D) (cl := xcl) (ci := 5) (v := .int (iI b3)) (C := R_Mo) (T := T_Mo) (N := 25) hx hb hts i_Mo hown hK hP 0 rfl rfl 5 (by decide) (hts _ kw_508) (fun _ h9 => h9) rfl d_Mo_blacken_108 ?_
              refine lv_aload_n hx hb d_Mo_blacken_111 rfl (lv_at hl 6 rfl) ?_
              refine va_get (D := D) (cl := xcl) (ci := 5) (v := .ref sa) (C := R_Mo) (T := T_Mo) (N := 25) hx hb hts i_Mo hown hK hP 0 rfl rfl 4 (by decide) (hts _ kw_507) (fun _ h9 => h9) rfl d_Mo_blacken_112 ?_
              refine lv_iload hx hb d_Mo_blacken_115 (lv_at hl 1 rfl) ?_
              refine xi_lald hx hb hK hP 1 1 rfl rfl (by omega) (by omega) (by omega) d_Mo_blacken_117 ?_
              refine lv_lload hx hb d_Mo_blacken_118 (lv_at hl 0 rfl) ?_
              refine lv_land hx hb d_Mo_blacken_120 ?_
              refine lv_lconst (v := 0) hx hb d_Mo_blacken_121 (by decide) ?_
              refine W.lcmp hx hb d_Mo_blacken_122 ?_
              refine lv_if_ne (tgt := 130) hx hb d_Mo_blacken_123 (by decide)  (fun c_123 => ?_) (fun c_123 => ?_)
              ·
                refine xi_iconst hx hb d_Mo_blacken_130 ?_
                refine xi_iadd hx hb d_Mo_blacken_131 ?_
                refine va_put (D := D) (cl := xcl) (ci := 5) (v := .int (iI (b3 + 0))) (ty := .int) (C := R_Mo) (T := T_Mo) (N := 25) hx hb hts i_Mo ty_Mo ty_Mo_ok nm_Mo hown hK hP hD hS 0 rfl rfl 5 (by decide) (hts _ kw_508) (fun _ h9 => h9) rfl (by decide +kernel) rfl rfl (Nat.le_of_ble_eq_true rfl) d_Mo_blacken_132 (fun H locs hP hD hS => ?_)
                have hP : va_P D xcl [(q, .inr (5, [.int (iI th), .int (iI ac), .int (iI dI), .int (iI dp), .ref sa, .int (iI (b3 + 0)), .int (iI rs), .int (iI nW), .int (iI nH), .int (iI mt), .int (iI op), .int (iI x), .int (iI y), .int (iI wd), .int (iI ht), .int (iI sc), .int (iI rw), .int (iI ln), .ref ea, .ref fa, .ref ca, .int (iI ct), .int (iI kr), .int (iI kb), .int (iI ov)])), (sa, .inl (cJ, nS, .inr (.inl S3)))] _ := hP
                have hD : va_D A [(q, .inr (5, [.int (iI th), .int (iI ac), .int (iI dI), .int (iI dp), .ref sa, .int (iI (b3 + 0)), .int (iI rs), .int (iI nW), .int (iI nH), .int (iI mt), .int (iI op), .int (iI x), .int (iI y), .int (iI wd), .int (iI ht), .int (iI sc), .int (iI rw), .int (iI ln), .ref ea, .ref fa, .ref ca, .int (iI ct), .int (iI kr), .int (iI kb), .int (iI ov)])), (sa, .inl (cJ, nS, .inr (.inl S3)))] := hD
                refine lv_aload_n hx hb d_Mo_blacken_135 rfl (lv_at hl 6 rfl) ?_
                refine va_get (D := D) (cl := xcl) (ci := 5) (v := .ref sa) (C := R_Mo) (T := T_Mo) (N := 25) hx hb hts i_Mo hown hK hP 0 rfl rfl 4 (by decide) (hts _ kw_507) (fun _ h9 => h9) rfl d_Mo_blacken_136 ?_
                refine lv_iload hx hb d_Mo_blacken_139 (lv_at hl 1 rfl) ?_
                refine lv_aload_n hx hb d_Mo_blacken_141 rfl (lv_at hl 6 rfl) ?_
                refine va_get (D := D) (cl := xcl) (ci := 5) (v := .ref sa) (C := R_Mo) (T := T_Mo) (N := 25) hx hb hts i_Mo hown hK hP 0 rfl rfl 4 (by decide) (hts _ kw_507) (fun _ h9 => h9) rfl d_Mo_blacken_142 ?_
                refine lv_iload hx hb d_Mo_blacken_145 (lv_at hl 1 rfl) ?_
                refine xi_lald hx hb hK hP 1 1 rfl rfl (by omega) (by omega) (by omega) d_Mo_blacken_147 ?_
                refine lv_lload hx hb d_Mo_blacken_148 (lv_at hl 0 rfl) ?_
                refine lv_lor hx hb d_Mo_blacken_150 ?_
                refine xi_last hx hb hK hP hD hS 1 1 rfl rfl (by omega) (by omega) (by omega) d_Mo_blacken_151 (fun H locs hP hD hS => ?_)
                have hP : va_P D xcl [(q, .inr (5, [.int (iI th), .int (iI ac), .int (iI dI), .int (iI dp), .ref sa, .int (iI (b3 + 0)), .int (iI rs), .int (iI nW), .int (iI nH), .int (iI mt), .int (iI op), .int (iI x), .int (iI y), .int (iI wd), .int (iI ht), .int (iI sc), .int (iI rw), .int (iI ln), .ref ea, .ref fa, .ref ca, .int (iI ct), .int (iI kr), .int (iI kb), .int (iI ov)])), (sa, .inl (cJ, nS, .inr (.inl (va_up S3 ((80 * ((y + (sc * rw)) + j)) + (((x + (sc * k)) + i) / 64)).toNat ((S3 ((80 * ((y + (sc * rw)) + j)) + (((x + (sc * k)) + i) / 64)).toNat) ||| (bW (63 - ((x + (sc * k)) + i) % 64).toNat))))))] _ := hP
                have hD : va_D A [(q, .inr (5, [.int (iI th), .int (iI ac), .int (iI dI), .int (iI dp), .ref sa, .int (iI (b3 + 0)), .int (iI rs), .int (iI nW), .int (iI nH), .int (iI mt), .int (iI op), .int (iI x), .int (iI y), .int (iI wd), .int (iI ht), .int (iI sc), .int (iI rw), .int (iI ln), .ref ea, .ref fa, .ref ca, .int (iI ct), .int (iI kr), .int (iI kb), .int (iI ov)])), (sa, .inl (cJ, nS, .inr (.inl (va_up S3 ((80 * ((y + (sc * rw)) + j)) + (((x + (sc * k)) + i) / 64)).toNat ((S3 ((80 * ((y + (sc * rw)) + j)) + (((x + (sc * k)) + i) / 64)).toNat) ||| (bW (63 - ((x + (sc * k)) + i) % 64).toNat))))))] := hD
                refine xi_iinc (lv' := [(3, .int (iI (j + 1))), (7, .long (bW (63 - ((x + (sc * k)) + i) % 64).toNat)), (6, .int (iI ((80 * ((y + (sc * rw)) + j)) + (((x + (sc * k)) + i) / 64)))), (5, .int (iI ((y + (sc * rw)) + j))), (4, .int (iI ((x + (sc * k)) + i))), (2, .int (iI i)), (0, .ref q), (1, .int (iI k))]) hx hb d_Mo_blacken_152 hl (k := 4) rfl (by decide) rfl (fun ls hl => ?_)
                refine lv_goto (tgt := 12) hx hb d_Mo_blacken_155 (by decide) ?_
                exact ih_12 (j + 1) (va_up S3 ((80 * ((y + (sc * rw)) + j)) + (((x + (sc * k)) + i) / 64)).toNat ((S3 ((80 * ((y + (sc * rw)) + j)) + (((x + (sc * k)) + i) / 64)).toNat) ||| (bW (63 - ((x + (sc * k)) + i) % 64).toNat))) (b3 + 0) _ _ _ (by omega) ⟨by omega, fun z u hu => by first | exact bkP_in ⟨by omega, by omega⟩ ⟨by omega, by omega⟩ ⟨by omega, by omega⟩ (dS_setI _ ⟨by omega, by omega⟩ (by omega) z u hu) (j2 z u hu) | exact (j2 z u hu).trans (bkP_out (by omega)), by first | omega | (rw [cnt_set1 (by omega) (by omega) ((bW_and (by omega)).mp (lgc0.mp c_123))]; omega) | (rw [cnt_set0 (by omega) (by omega) ((Bool.not_eq_false _).mp (fun z => c_123 (lgc0.mpr ((bW_and (by omega)).mpr z))))]; omega), hP, hD, hS, (lv_sub hl [0, 5, 6, 7] rfl)⟩
              ·
                refine xi_iconst hx hb d_Mo_blacken_126 ?_
                refine lv_goto (tgt := 131) hx hb d_Mo_blacken_127 (by decide) ?_
                refine xi_iadd hx hb d_Mo_blacken_131 ?_
                refine va_put (D := D) (cl := xcl) (ci := 5) (v := .int (iI (b3 + 1))) (ty := .int) (C := R_Mo) (T := T_Mo) (N := 25) hx hb hts i_Mo ty_Mo ty_Mo_ok nm_Mo hown hK hP hD hS 0 rfl rfl 5 (by decide) (hts _ kw_508) (fun _ h9 => h9) rfl (by decide +kernel) rfl rfl (Nat.le_of_ble_eq_true rfl) d_Mo_blacken_132 (fun H locs hP hD hS => ?_)
                have hP : va_P D xcl [(q, .inr (5, [.int (iI th), .int (iI ac), .int (iI dI), .int (iI dp), .ref sa, .int (iI (b3 + 1)), .int (iI rs), .int (iI nW), .int (iI nH), .int (iI mt), .int (iI op), .int (iI x), .int (iI y), .int (iI wd), .int (iI ht), .int (iI sc), .int (iI rw), .int (iI ln), .ref ea, .ref fa, .ref ca, .int (iI ct), .int (iI kr), .int (iI kb), .int (iI ov)])), (sa, .inl (cJ, nS, .inr (.inl S3)))] _ := hP
                have hD : va_D A [(q, .inr (5, [.int (iI th), .int (iI ac), .int (iI dI), .int (iI dp), .ref sa, .int (iI (b3 + 1)), .int (iI rs), .int (iI nW), .int (iI nH), .int (iI mt), .int (iI op), .int (iI x), .int (iI y), .int (iI wd), .int (iI ht), .int (iI sc), .int (iI rw), .int (iI ln), .ref ea, .ref fa, .ref ca, .int (iI ct), .int (iI kr), .int (iI kb), .int (iI ov)])), (sa, .inl (cJ, nS, .inr (.inl S3)))] := hD
                refine lv_aload_n hx hb d_Mo_blacken_135 rfl (lv_at hl 6 rfl) ?_
                refine va_get (D := D) (cl := xcl) (ci := 5) (v := .ref sa) (C := R_Mo) (T := T_Mo) (N := 25) hx hb hts i_Mo hown hK hP 0 rfl rfl 4 (by decide) (hts _ kw_507) (fun _ h9 => h9) rfl d_Mo_blacken_136 ?_
                refine lv_iload hx hb d_Mo_blacken_139 (lv_at hl 1 rfl) ?_
                refine lv_aload_n hx hb d_Mo_blacken_141 rfl (lv_at hl 6 rfl) ?_
                refine va_get (D := D) (cl := xcl) (ci := 5) (v := .ref sa) (C := R_Mo) (T := T_Mo) (N := 25) hx hb hts i_Mo hown hK hP 0 rfl rfl 4 (by decide) (hts _ kw_507) (fun _ h9 => h9) rfl d_Mo_blacken_142 ?_
                refine lv_iload hx hb d_Mo_blacken_145 (lv_at hl 1 rfl) ?_
                refine xi_lald hx hb hK hP 1 1 rfl rfl (by omega) (by omega) (by omega) d_Mo_blacken_147 ?_
                refine lv_lload hx hb d_Mo_blacken_148 (lv_at hl 0 rfl) ?_
                refine lv_lor hx hb d_Mo_blacken_150 ?_
                refine xi_last hx hb hK hP hD hS 1 1 rfl rfl (by omega) (by omega) (by omega) d_Mo_blacken_151 (fun H locs hP hD hS => ?_)
                have hP : va_P D xcl [(q, .inr (5, [.int (iI th), .int (iI ac), .int (iI dI), .int (iI dp), .ref sa, .int (iI (b3 + 1)), .int (iI rs), .int (iI nW), .int (iI nH), .int (iI mt), .int (iI op), .int (iI x), .int (iI y), .int (iI wd), .int (iI ht), .int (iI sc), .int (iI rw), .int (iI ln), .ref ea, .ref fa, .ref ca, .int (iI ct), .int (iI kr), .int (iI kb), .int (iI ov)])), (sa, .inl (cJ, nS, .inr (.inl (va_up S3 ((80 * ((y + (sc * rw)) + j)) + (((x + (sc * k)) + i) / 64)).toNat ((S3 ((80 * ((y + (sc * rw)) + j)) + (((x + (sc * k)) + i) / 64)).toNat) ||| (bW (63 - ((x + (sc * k)) + i) % 64).toNat))))))] _ := hP
                have hD : va_D A [(q, .inr (5, [.int (iI th), .int (iI ac), .int (iI dI), .int (iI dp), .ref sa, .int (iI (b3 + 1)), .int (iI rs), .int (iI nW), .int (iI nH), .int (iI mt), .int (iI op), .int (iI x), .int (iI y), .int (iI wd), .int (iI ht), .int (iI sc), .int (iI rw), .int (iI ln), .ref ea, .ref fa, .ref ca, .int (iI ct), .int (iI kr), .int (iI kb), .int (iI ov)])), (sa, .inl (cJ, nS, .inr (.inl (va_up S3 ((80 * ((y + (sc * rw)) + j)) + (((x + (sc * k)) + i) / 64)).toNat ((S3 ((80 * ((y + (sc * rw)) + j)) + (((x + (sc * k)) + i) / 64)).toNat) ||| (bW (63 - ((x + (sc * k)) + i) % 64).toNat))))))] := hD
                refine xi_iinc (lv' := [(3, .int (iI (j + 1))), (7, .long (bW (63 - ((x + (sc * k)) + i) % 64).toNat)), (6, .int (iI ((80 * ((y + (sc * rw)) + j)) + (((x + (sc * k)) + i) / 64)))), (5, .int (iI ((y + (sc * rw)) + j))), (4, .int (iI ((x + (sc * k)) + i))), (2, .int (iI i)), (0, .ref q), (1, .int (iI k))]) hx hb d_Mo_blacken_152 hl (k := 4) rfl (by decide) rfl (fun ls hl => ?_)
                refine lv_goto (tgt := 12) hx hb d_Mo_blacken_155 (by decide) ?_
                exact ih_12 (j + 1) (va_up S3 ((80 * ((y + (sc * rw)) + j)) + (((x + (sc * k)) + i) / 64)).toNat ((S3 ((80 * ((y + (sc * rw)) + j)) + (((x + (sc * k)) + i) / 64)).toNat) ||| (bW (63 - ((x + (sc * k)) + i) % 64).toNat))) (b3 + 1) _ _ _ (by omega) ⟨by omega, fun z u hu => by first | exact bkP_in ⟨by omega, by omega⟩ ⟨by omega, by omega⟩ ⟨by omega, by omega⟩ (dS_setI _ ⟨by omega, by omega⟩ (by omega) z u hu) (j2 z u hu) | exact (j2 z u hu).trans (bkP_out (by omega)), by first | omega | (rw [cnt_set1 (by omega) (by omega) ((bW_and (by omega)).mp (lgc0.mp c_123))]; omega) | (rw [cnt_set0 (by omega) (by omega) ((Bool.not_eq_false _).mp (fun z => c_123 (lgc0.mpr ((bW_and (by omega)).mpr z))))]; omega), hP, hD, hS, (lv_sub hl [0, 5, 6, 7] rfl)⟩
