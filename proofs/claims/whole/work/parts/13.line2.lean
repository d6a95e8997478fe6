theorem d_Ln_blacken_0 : decode b_Ln_blacken 0 = .ok (.iload_n 1, 1) := by decide +kernel
theorem d_Ln_blacken_1 : decode b_Ln_blacken 1 = .ok (.iload_n 2, 1) := by decide +kernel
theorem d_Ln_blacken_2 : decode b_Ln_blacken 2 = .ok (.iadd, 1) := by decide +kernel
theorem d_Ln_blacken_3 : decode b_Ln_blacken 3 = .ok (.aload_n 0, 1) := by decide +kernel
theorem d_Ln_blacken_4 : decode b_Ln_blacken 4 = .ok (.getfield 13, 3) := by decide +kernel
theorem d_Ln_blacken_7 : decode b_Ln_blacken 7 = .ok (.invokestatic 29, 3) := by decide +kernel
theorem d_Ln_blacken_10 : decode b_Ln_blacken 10 = .ok (.istore_n 3, 1) := by decide +kernel
theorem d_Ln_blacken_11 : decode b_Ln_blacken 11 = .ok (.iload_n 1, 1) := by decide +kernel
theorem d_Ln_blacken_12 : decode b_Ln_blacken 12 = .ok (.iconst 0, 1) := by decide +kernel
theorem d_Ln_blacken_13 : decode b_Ln_blacken 13 = .ok (.invokestatic 7, 3) := by decide +kernel
theorem d_Ln_blacken_16 : decode b_Ln_blacken 16 = .ok (.istore 4, 2) := by decide +kernel
theorem d_Ln_blacken_18 : decode b_Ln_blacken 18 = .ok (.iload 4, 2) := by decide +kernel
theorem d_Ln_blacken_20 : decode b_Ln_blacken 20 = .ok (.iload_n 3, 1) := by decide +kernel
theorem d_Ln_blacken_21 : decode b_Ln_blacken 21 = .ok (.if_icmp .ge 41, 3) := by decide +kernel
theorem d_Ln_blacken_24 : decode b_Ln_blacken 24 = .ok (.iload 4, 2) := by decide +kernel
theorem d_Ln_blacken_26 : decode b_Ln_blacken 26 = .ok (.bipush 6, 2) := by decide +kernel
theorem d_Ln_blacken_28 : decode b_Ln_blacken 28 = .ok (.ishr, 1) := by decide +kernel
theorem d_Ln_blacken_29 : decode b_Ln_blacken 29 = .ok (.istore 5, 2) := by decide +kernel
theorem d_Ln_blacken_31 : decode b_Ln_blacken 31 = .ok (.iload 5, 2) := by decide +kernel
theorem d_Ln_blacken_33 : decode b_Ln_blacken 33 = .ok (.aload_n 0, 1) := by decide +kernel
theorem d_Ln_blacken_34 : decode b_Ln_blacken 34 = .ok (.getfield 19, 3) := by decide +kernel
theorem d_Ln_blacken_37 : decode b_Ln_blacken 37 = .ok (.arraylength, 1) := by decide +kernel
theorem d_Ln_blacken_38 : decode b_Ln_blacken 38 = .ok (.if_icmp .ge 18, 3) := by decide +kernel
theorem d_Ln_blacken_41 : decode b_Ln_blacken 41 = .ok (.aload_n 0, 1) := by decide +kernel
theorem d_Ln_blacken_42 : decode b_Ln_blacken 42 = .ok (.getfield 19, 3) := by decide +kernel
theorem d_Ln_blacken_45 : decode b_Ln_blacken 45 = .ok (.iload 5, 2) := by decide +kernel
theorem d_Ln_blacken_47 : decode b_Ln_blacken 47 = .ok (.dup2, 1) := by decide +kernel
theorem d_Ln_blacken_48 : decode b_Ln_blacken 48 = .ok (.laload, 1) := by decide +kernel
theorem d_Ln_blacken_49 : decode b_Ln_blacken 49 = .ok (.iload 4, 2) := by decide +kernel
theorem d_Ln_blacken_51 : decode b_Ln_blacken 51 = .ok (.invokestatic 32, 3) := by decide +kernel
theorem d_Ln_blacken_54 : decode b_Ln_blacken 54 = .ok (.lor, 1) := by decide +kernel
theorem d_Ln_blacken_55 : decode b_Ln_blacken 55 = .ok (.lastore, 1) := by decide +kernel
theorem d_Ln_blacken_56 : decode b_Ln_blacken 56 = .ok (.iinc 4 1, 3) := by decide +kernel
theorem d_Ln_blacken_59 : decode b_Ln_blacken 59 = .ok (.goto (-41), 3) := by decide +kernel
theorem d_Ln_blacken_62 : decode b_Ln_blacken 62 = .ok (.return_, 1) := by decide +kernel
theorem ds_Ln_blacken : xDesc y_Ln_blacken 2 := by decide +kernel

abbrev rm_Ln_blacken : Room := { frames := 1, cells := 0, slots := 0, locals := 20 }
set_option maxHeartbeats 4000000 in
set_option maxRecDepth 100000 in
/-- Line.blacken -/
theorem c_Ln_blacken (l : Launch) (D : va_G) (cI cJ cQ : ClassId) (h : Nat) (dots : Int) (w : Nat) (nw : Nat) (f : Nat → Int64) (fr : Int) (n : Int) (hd1 : 1 ≤ dots) (hd2 : dots ≤ 5100) (hnw : (nw : Int) = (dots + 63) / 64) (hf1 : -100000 ≤ fr) (hf2 : fr ≤ 100000) (hn1 : 0 ≤ n) (hn2 : n ≤ 4) : xMet l D (xT cI cJ cQ) y_Ln_blacken b_Ln_blacken 6 none rm_Ln_blacken [.ref h, .int (iI fr), .int (iI n)] [(h, .inr (0, [.int (iI dots), .ref w])), (w, .inl (cJ, nw, .inr (.inl f)))] (fun v ws => ∃ (f2 : Nat → Int64), v = none ∧ ws = [(h, .inr (0, [.int (iI dots), .ref w])), (w, .inl (cJ, nw, .inr (.inl f2)))] ∧ (∀ y : Nat, dt f2 y = (dt f y || decide (fr ≤ (y : Int) ∧ (y : Int) < fr + n ∧ (y : Int) < dots)))) := by
  refine x_met (by decide) (Nat.le_of_ble_eq_true rfl) ?_
  intro p e s m below meth c hx hb hr hml hts hown hlocks hin hF0 A hA hP hD hK ls hl hS
  have hl : lv_has ls 6 [(0, .ref h), (1, .int (iI fr)), (2, .int (iI n))] := hl
  refine lv_iload_n hx hb d_Ln_blacken_0 rfl (lv_at hl 1 rfl) ?_
  refine lv_iload_n hx hb d_Ln_blacken_1 rfl (lv_at hl 2 rfl) ?_
  refine xi_iadd hx hb d_Ln_blacken_2 ?_
  refine lv_aload_n hx hb d_Ln_blacken_3 rfl (lv_at hl 0 rfl) ?_
  refine va_get (D := D) (cl := xcl) (ci := 0) (v := .int (iI dots)) (C := R_Ln) (T := T_Ln) (N := 2) hx hb hts i_Ln hown hK hP 0 rfl rfl 0 (by decide) (hts _ kw_47) (fun _ h9 => h9) rfl d_Ln_blacken_4 ?_
  refine xi_mmin hx hb (hml.trans hl.1.symm) hown hts kw_403 (by decide) (Nat.le_of_ble_eq_true rfl) (by decide) (by decide) ⟨by omega, by omega⟩ ⟨by omega, by omega⟩ d_Ln_blacken_7 ?_
  refine lv_istore_n (lv' := [(3, .int (iI (min (fr + n) dots))), (0, .ref h), (1, .int (iI fr)), (2, .int (iI n))]) hx hb d_Ln_blacken_10 rfl hl (by decide) rfl (fun ls hl => ?_)
  refine lv_iload_n hx hb d_Ln_blacken_11 rfl (lv_at hl 2 rfl) ?_
  refine xi_iconst hx hb d_Ln_blacken_12 ?_
  refine xi_mmax hx hb (hml.trans hl.1.symm) hown hts kw_46 (by decide) (Nat.le_of_ble_eq_true rfl) (by decide) (by decide) ⟨by omega, by omega⟩ ⟨by decide, by decide⟩ d_Ln_blacken_13 ?_
  refine lv_istore (lv' := [(4, .int (iI (max fr 0))), (3, .int (iI (min (fr + n) dots))), (0, .ref h), (1, .int (iI fr)), (2, .int (iI n))]) hx hb d_Ln_blacken_16 hl (by decide) rfl (fun ls hl => ?_)
  refine x_loop2 (fun (x : Int) (f2 : Nat → Int64) H locs ls => (max fr 0 ≤ x) ∧ (x = max fr 0 ∨ x ≤ min (fr + n) dots) ∧ (∀ y : Nat, dt f2 y = (dt f y || decide (max fr 0 ≤ (y : Int) ∧ (y : Int) < x))) ∧ va_P D xcl [(h, .inr (0, [.int (iI dots), .ref w])), (w, .inl (cJ, nw, .inr (.inl f2)))] H ∧ va_D A [(h, .inr (0, [.int (iI dots), .ref w])), (w, .inl (cJ, nw, .inr (.inl f2)))] ∧ va_S A s.heap H locs ∧ lv_has ls 6 [(4, .int (iI x)), (3, .int (iI (min (fr + n) dots))), (0, .ref h), (1, .int (iI fr)), (2, .int (iI n))]) (fun (x : Int) (f2 : Nat → Int64) => (min (fr + n) dots - x).toNat) (max fr 0) f ⟨by omega, by omega, fun y => by rw [show decide (max fr 0 ≤ (y : Int) ∧ (y : Int) < max fr 0) = false from decide_eq_false (by omega), Bool.or_false], hP, hD, hS, hl⟩ ?_
  intro x f2 H locs ls hI ih_18
  obtain ⟨h1, h2, h3, hP, hD, hS, hl⟩ := hI
  refine lv_iload hx hb d_Ln_blacken_18 (lv_at hl 0 rfl) ?_
  refine lv_iload_n hx hb d_Ln_blacken_20 rfl (lv_at hl 1 rfl) ?_
  refine xi_icmp_ge (tgt := 62) hx hb d_Ln_blacken_21 (by decide) ⟨by omega, by omega⟩ ⟨by omega, by omega⟩ (fun c_21 => ?_) (fun c_21 => ?_)
  ·
    exact x_vret hx hb hr hlocks hP hD hS (by decide) (by decide) ⟨f2, rfl, rfl, fun y => by rw [h3 y]; congr 1; exact decide_eq_decide.mpr (by omega)⟩ d_Ln_blacken_62
  ·
    refine lv_iload hx hb d_Ln_blacken_24 (lv_at hl 0 rfl) ?_
    refine xi_bipush hx hb d_Ln_blacken_26 (by decide) ?_
    refine xk_ishr (v := iI (x / 64)) hx hb d_Ln_blacken_28 (iI_shr6 ⟨by omega, by omega⟩) ?_
    refine lv_istore (lv' := [(5, .int (iI (x / 64))), (4, .int (iI x)), (3, .int (iI (min (fr + n) dots))), (0, .ref h), (1, .int (iI fr)), (2, .int (iI n))]) hx hb d_Ln_blacken_29 hl (by decide) rfl (fun ls hl => ?_)
    refine lv_iload hx hb d_Ln_blacken_31 (lv_at hl 0 rfl) ?_
    refine lv_aload_n hx hb d_Ln_blacken_33 rfl (lv_at hl 3 rfl) ?_
    refine va_get (D := D) (cl := xcl) (ci := 0) (v := .ref w) (C := R_Ln) (T := T_Ln) (N := 2) hx hb hts i_Ln hown hK hP 0 rfl rfl 1 (by decide) (hts _ kw_48) (fun _ h9 => h9) rfl d_Ln_blacken_34 ?_
    refine xi_alen (z := (nw : Int)) hx hb hK hP 1 1 rfl rfl rfl d_Ln_blacken_37 ?_
    refine xi_icmp_ge (tgt := 56) hx hb d_Ln_blacken_38 (by decide) ⟨by omega, by omega⟩ ⟨by omega, by omega⟩ (fun c_38 => ?_) (fun c_38 => ?_)
    ·
      exact absurd c_38 (by omega)
    ·
      refine lv_aload_n hx hb d_Ln_blacken_41 rfl (lv_at hl 3 rfl) ?_
      refine va_get (D := D) (cl := xcl) (ci := 0) (v := .ref w) (C := R_Ln) (T := T_Ln) (N := 2) hx hb hts i_Ln hown hK hP 0 rfl rfl 1 (by decide) (hts _ kw_48) (fun _ h9 => h9) rfl d_Ln_blacken_42 ?_
      refine lv_iload hx hb d_Ln_blacken_45 (lv_at hl 0 rfl) ?_
      refine lv_dup2_11 hx hb d_Ln_blacken_47 rfl rfl ?_
      refine xi_lald hx hb hK hP 1 1 rfl rfl (by omega) (by omega) (by omega) d_Ln_blacken_48 ?_
      refine lv_iload hx hb d_Ln_blacken_49 (lv_at hl 1 rfl) ?_
      refine x_aft (x_runS (As := [.int (iI x)]) (rest := [.long (f2 (x / 64).toNat), .int (iI (x / 64)), .ref w]) hx hb hml hown hts (c_Ln_bitOf l D cI cJ cQ x ) kw_404 kw_405 kw_4 kw_406 ds_Ln_bitOf (by decide) hK (hP.sub (ws' := []) [] rfl) (hD.sub (ws' := []) [] (by decide) rfl) hl.1 rfl (Nat.le_of_ble_eq_true rfl) d_Ln_blacken_51) hP hD hS hA [] [0, 1] rfl (wr := [(h, .inr (0, [.int (iI dots), .ref w])), (w, .inl (cJ, nw, .inr (.inl f2)))]) rfl (by decide) (by decide) (fun v w1 H locs hq hP hD hS => ?_)
      obtain ⟨rfl, rfl⟩ := hq
      refine W.cs (cells' := 0) (slots' := 0) rfl rfl ?_
      refine W.eq (g2 := F0 m 54 ls [.long (bW (63 - x % 64).toNat), .long (f2 (x / 64).toNat), .int (iI (x / 64)), .ref w]) rfl ?_
      have hP : va_P D xcl [(h, .inr (0, [.int (iI dots), .ref w])), (w, .inl (cJ, nw, .inr (.inl f2)))] _ := hP
      have hD : va_D A [(h, .inr (0, [.int (iI dots), .ref w])), (w, .inl (cJ, nw, .inr (.inl f2)))] := hD
      refine lv_lor hx hb d_Ln_blacken_54 ?_
      refine xi_last hx hb hK hP hD hS 1 1 rfl rfl (by omega) (by omega) (by omega) d_Ln_blacken_55 (fun H locs hP hD hS => ?_)
      have hP : va_P D xcl [(h, .inr (0, [.int (iI dots), .ref w])), (w, .inl (cJ, nw, .inr (.inl (va_up f2 (x / 64).toNat ((f2 (x / 64).toNat) ||| (bW (63 - x % 64).toNat))))))] _ := hP
      have hD : va_D A [(h, .inr (0, [.int (iI dots), .ref w])), (w, .inl (cJ, nw, .inr (.inl (va_up f2 (x / 64).toNat ((f2 (x / 64).toNat) ||| (bW (63 - x % 64).toNat))))))] := hD
      refine xi_iinc (lv' := [(4, .int (iI (x + 1))), (5, .int (iI (x / 64))), (3, .int (iI (min (fr + n) dots))), (0, .ref h), (1, .int (iI fr)), (2, .int (iI n))]) hx hb d_Ln_blacken_56 hl (k := 1) rfl (by decide) rfl (fun ls hl => ?_)
      refine lv_goto (tgt := 18) hx hb d_Ln_blacken_59 (by decide) ?_
      exact ih_18 (x + 1) (va_up f2 (x / 64).toNat ((f2 (x / 64).toNat) ||| (bW (63 - x % 64).toNat))) _ _ _ (by omega) ⟨by omega, by omega, fun y => by rw [dt_setI _ (by omega), h3 y, Bool.or_assoc]; congr 1; rw [← Bool.decide_or]; exact decide_eq_decide.mpr (by omega), hP, hD, hS, (lv_sub hl [0, 2, 3, 4, 5] rfl)⟩

theorem d_Ln_merge_0 : decode b_Ln_merge 0 = .ok (.iconst 0, 1) := by decide +kernel
theorem d_Ln_merge_1 : decode b_Ln_merge 1 = .ok (.istore_n 2, 1) := by decide +kernel
theorem d_Ln_merge_2 : decode b_Ln_merge 2 = .ok (.iconst 0, 1) := by decide +kernel
theorem d_Ln_merge_3 : decode b_Ln_merge 3 = .ok (.istore_n 3, 1) := by decide +kernel
theorem d_Ln_merge_4 : decode b_Ln_merge 4 = .ok (.iload_n 3, 1) := by decide +kernel
theorem d_Ln_merge_5 : decode b_Ln_merge 5 = .ok (.aload_n 0, 1) := by decide +kernel
theorem d_Ln_merge_6 : decode b_Ln_merge 6 = .ok (.getfield 19, 3) := by decide +kernel
theorem d_Ln_merge_9 : decode b_Ln_merge 9 = .ok (.arraylength, 1) := by decide +kernel
theorem d_Ln_merge_10 : decode b_Ln_merge 10 = .ok (.if_icmp .ge 46, 3) := by decide +kernel
theorem d_Ln_merge_13 : decode b_Ln_merge 13 = .ok (.aload_n 1, 1) := by decide +kernel
theorem d_Ln_merge_14 : decode b_Ln_merge 14 = .ok (.iload_n 3, 1) := by decide +kernel
theorem d_Ln_merge_15 : decode b_Ln_merge 15 = .ok (.invokevirtual 36, 3) := by decide +kernel
theorem d_Ln_merge_18 : decode b_Ln_merge 18 = .ok (.aload_n 0, 1) := by decide +kernel
theorem d_Ln_merge_19 : decode b_Ln_merge 19 = .ok (.getfield 19, 3) := by decide +kernel
theorem d_Ln_merge_22 : decode b_Ln_merge 22 = .ok (.iload_n 3, 1) := by decide +kernel
theorem d_Ln_merge_23 : decode b_Ln_merge 23 = .ok (.laload, 1) := by decide +kernel
theorem d_Ln_merge_24 : decode b_Ln_merge 24 = .ok (.ldc2_w 39, 3) := by decide +kernel
theorem d_Ln_merge_27 : decode b_Ln_merge 27 = .ok (.lxor, 1) := by decide +kernel
theorem d_Ln_merge_28 : decode b_Ln_merge 28 = .ok (.land, 1) := by decide +kernel
theorem d_Ln_merge_29 : decode b_Ln_merge 29 = .ok (.lstore 4, 2) := by decide +kernel
theorem d_Ln_merge_31 : decode b_Ln_merge 31 = .ok (.aload_n 0, 1) := by decide +kernel
theorem d_Ln_merge_32 : decode b_Ln_merge 32 = .ok (.getfield 19, 3) := by decide +kernel
theorem d_Ln_merge_35 : decode b_Ln_merge 35 = .ok (.iload_n 3, 1) := by decide +kernel
theorem d_Ln_merge_36 : decode b_Ln_merge 36 = .ok (.dup2, 1) := by decide +kernel
theorem d_Ln_merge_37 : decode b_Ln_merge 37 = .ok (.laload, 1) := by decide +kernel
theorem d_Ln_merge_38 : decode b_Ln_merge 38 = .ok (.lload 4, 2) := by decide +kernel
theorem d_Ln_merge_40 : decode b_Ln_merge 40 = .ok (.lor, 1) := by decide +kernel
theorem d_Ln_merge_41 : decode b_Ln_merge 41 = .ok (.lastore, 1) := by decide +kernel
theorem d_Ln_merge_42 : decode b_Ln_merge 42 = .ok (.iload_n 2, 1) := by decide +kernel
theorem d_Ln_merge_43 : decode b_Ln_merge 43 = .ok (.lload 4, 2) := by decide +kernel
theorem d_Ln_merge_45 : decode b_Ln_merge 45 = .ok (.invokestatic 41, 3) := by decide +kernel
theorem d_Ln_merge_48 : decode b_Ln_merge 48 = .ok (.iadd, 1) := by decide +kernel
theorem d_Ln_merge_49 : decode b_Ln_merge 49 = .ok (.istore_n 2, 1) := by decide +kernel
theorem d_Ln_merge_50 : decode b_Ln_merge 50 = .ok (.iinc 3 1, 3) := by decide +kernel
theorem d_Ln_merge_53 : decode b_Ln_merge 53 = .ok (.goto (-49), 3) := by decide +kernel
theorem d_Ln_merge_56 : decode b_Ln_merge 56 = .ok (.iload_n 2, 1) := by decide +kernel
theorem d_Ln_merge_57 : decode b_Ln_merge 57 = .ok (.ireturn, 1) := by decide +kernel
theorem ds_Ln_merge : xDesc y_Ln_merge 1 := by decide +kernel

abbrev rm_Ln_merge : Room := { frames := 1, cells := 0, slots := 0, locals := 21 }
set_option maxHeartbeats 4000000 in
set_option maxRecDepth 100000 in
/-- Line.merge -/
theorem c_Ln_merge (l : Launch) (D : va_G) (cI cJ cQ : ClassId) (h : Nat) (dots : Int) (w : Nat) (nw : Nat) (f : Nat → Int64) (h2 : Nat) (dots2 : Int) (w2 : Nat) (g : Nat → Int64) (hnw : nw ≤ 80) : xMet l D (xT cI cJ cQ) y_Ln_merge b_Ln_merge 6 (some .int) rm_Ln_merge [.ref h, .ref h2] [(h, .inr (0, [.int (iI dots), .ref w])), (w, .inl (cJ, nw, .inr (.inl f))), (h2, .inr (0, [.int (iI dots2), .ref w2])), (w2, .inl (cJ, nw, .inr (.inl g)))] (fun v ws => v = some (.int (iI ((sumN (fun k => pcw (g k &&& (f k ^^^ (-1)))) nw : Nat) : Int))) ∧ ws = [(h, .inr (0, [.int (iI dots), .ref w])), (w, .inl (cJ, nw, .inr (.inl (fun j => f j ||| g j)))), (h2, .inr (0, [.int (iI dots2), .ref w2])), (w2, .inl (cJ, nw, .inr (.inl g)))]) := by
  refine x_met (by decide) (Nat.le_of_ble_eq_true rfl) ?_
  intro p e s m below meth c hx hb hr hml hts hown hlocks hin hF0 A hA hP hD hK ls hl hS
  have hl : lv_has ls 6 [(0, .ref h), (1, .ref h2)] := hl
  refine xi_iconst hx hb d_Ln_merge_0 ?_
  refine lv_istore_n (lv' := [(2, .int (iI 0)), (0, .ref h), (1, .ref h2)]) hx hb d_Ln_merge_1 rfl hl (by decide) rfl (fun ls hl => ?_)
  refine xi_iconst hx hb d_Ln_merge_2 ?_
  refine lv_istore_n (lv' := [(3, .int (iI 0)), (2, .int (iI 0)), (0, .ref h), (1, .ref h2)]) hx hb d_Ln_merge_3 rfl hl (by decide) rfl (fun ls hl => ?_)
  refine x_loop3 (fun (i : Int) (r : Int) (f2 : Nat → Int64) H locs ls => (0 ≤ i) ∧ (i ≤ (nw : Int)) ∧ (∀ j : Nat, (j : Int) < i → f2 j = f j ||| g j) ∧ (∀ j : Nat, i ≤ (j : Int) → f2 j = f j) ∧ (r = ((sumN (fun k => pcw (g k &&& (f k ^^^ (-1)))) i.toNat : Nat) : Int)) ∧ (0 ≤ r ∧ r ≤ 64 * i) ∧ va_P D xcl [(h, .inr (0, [.int (iI dots), .ref w])), (w, .inl (cJ, nw, .inr (.inl f2))), (h2, .inr (0, [.int (iI dots2), .ref w2])), (w2, .inl (cJ, nw, .inr (.inl g)))] H ∧ va_D A [(h, .inr (0, [.int (iI dots), .ref w])), (w, .inl (cJ, nw, .inr (.inl f2))), (h2, .inr (0, [.int (iI dots2), .ref w2])), (w2, .inl (cJ, nw, .inr (.inl g)))] ∧ va_S A s.heap H locs ∧ lv_has ls 6 [(3, .int (iI i)), (2, .int (iI r)), (0, .ref h), (1, .ref h2)]) (fun (i : Int) (r : Int) (f2 : Nat → Int64) => ((nw : Int) - i).toNat) 0 0 f ⟨by omega, by omega, fun j hj => by omega, fun j hj => rfl, rfl, by omega, hP, hD, hS, hl⟩ ?_
  intro i r f2 H locs ls hI ih_4
  obtain ⟨k1, k2, k3, k4, k5, k6, hP, hD, hS, hl⟩ := hI
  refine lv_iload_n hx hb d_Ln_merge_4 rfl (lv_at hl 0 rfl) ?_
  refine lv_aload_n hx hb d_Ln_merge_5 rfl (lv_at hl 2 rfl) ?_
  refine va_get (D := D) (cl := xcl) (ci := 0) (v := .ref w) (C := R_Ln) (T := T_Ln) (N := 2) hx hb hts i_Ln hown hK hP 0 rfl rfl 1 (by decide) (hts _ kw_48) (fun _ h9 => h9) rfl d_Ln_merge_6 ?_
  refine xi_alen (z := (nw : Int)) hx hb hK hP 1 1 rfl rfl rfl d_Ln_merge_9 ?_
  refine xi_icmp_ge (tgt := 56) hx hb d_Ln_merge_10 (by decide) ⟨by omega, by omega⟩ ⟨by omega, by omega⟩ (fun c_10 => ?_) (fun c_10 => ?_)
  ·
    refine lv_iload_n hx hb d_Ln_merge_56 rfl (lv_at hl 1 rfl) ?_
    obtain ⟨hP, hD⟩ := norm_l (fun j => f j ||| g j) 1 hP hD rfl (fun j hj => k3 j (by omega))
    have hP : va_P D xcl [(h, .inr (0, [.int (iI dots), .ref w])), (w, .inl (cJ, nw, .inr (.inl (fun j => f j ||| g j)))), (h2, .inr (0, [.int (iI dots2), .ref w2])), (w2, .inl (cJ, nw, .inr (.inl g)))] _ := hP
    have hD : va_D A [(h, .inr (0, [.int (iI dots), .ref w])), (w, .inl (cJ, nw, .inr (.inl (fun j => f j ||| g j)))), (h2, .inr (0, [.int (iI dots2), .ref w2])), (w2, .inl (cJ, nw, .inr (.inl g)))] := hD
    -- MISMATCH at return 57: [('((sumN (fun k => pcw (g k &&& (f k ^^^ (-1)))) nw : Nat) : Int)', '((sumN (fun k => pcw (g k &&& (f k ^^^ (-1)))) nw : Nat) : Int)', 'r')]
    exact x_iret hx hb hr hlocks hP hD hS (by decide) (by decide) ⟨by rw [k5, show i.toNat = nw by omega], rfl⟩ d_Ln_merge_57
  ·
    refine lv_aload_n hx hb d_Ln_merge_13 rfl (lv_at hl 3 rfl) ?_
    refine lv_iload_n hx hb d_Ln_merge_14 rfl (lv_at hl 0 rfl) ?_
    refine x_aft (x_runV (C := "RasterRows$Line") (As := [.int (iI i)]) (rest := []) (ci := 0) (q0 := 0) hx hb hml hown hts (c_Ln_wordAt l D cI cJ cQ h2 dots2 w2 nw g i (by omega) (⟨by omega, by omega⟩)) kw_419 kw_244 kw_245 kw_4 kw_246 ds_Ln_wordAt (by decide) hK (hP.sub (ws' := [(h2, .inr (0, [.int (iI dots2), .ref w2])), (w2, .inl (cJ, nw, .inr (.inl g)))]) [2, 3] rfl) (hD.sub (ws' := [(h2, .inr (0, [.int (iI dots2), .ref w2])), (w2, .inl (cJ, nw, .inr (.inl g)))]) [2, 3] (by decide) rfl) rfl rfl rfl hl.1 rfl (Nat.le_of_ble_eq_true rfl) d_Ln_merge_15) hP hD hS hA [2, 3] [0, 1] rfl (wr := [(h, .inr (0, [.int (iI dots), .ref w])), (w, .inl (cJ, nw, .inr (.inl f2)))]) rfl (by decide) (by decide) (fun v w1 H locs hq hP hD hS => ?_)
    obtain ⟨r_15, rfl, rfl, hr1_15, hr2_15⟩ := hq
    refine W.cs (cells' := 0) (slots' := 0) rfl rfl ?_
    refine W.eq (g2 := F0 m 18 ls [.long r_15]) rfl ?_
    have hP : va_P D xcl [(h, .inr (0, [.int (iI dots), .ref w])), (w, .inl (cJ, nw, .inr (.inl f2))), (h2, .inr (0, [.int (iI dots2), .ref w2])), (w2, .inl (cJ, nw, .inr (.inl g)))] _ := hP
    have hD : va_D A [(h, .inr (0, [.int (iI dots), .ref w])), (w, .inl (cJ, nw, .inr (.inl f2))), (h2, .inr (0, [.int (iI dots2), .ref w2])), (w2, .inl (cJ, nw, .inr (.inl g)))] := hD
    have e15 := hr1_15 k1 (by omega)
    subst e15
    refine lv_aload_n hx hb d_Ln_merge_18 rfl (lv_at hl 2 rfl) ?_
    refine va_get (D := D) (cl := xcl) (ci := 0) (v := .ref w) (C := R_Ln) (T := T_Ln) (N := 2) hx hb hts i_Ln hown hK hP 0 rfl rfl 1 (by decide) (hts _ kw_48) (fun _ h9 => h9) rfl d_Ln_merge_19 ?_
    refine lv_iload_n hx hb d_Ln_merge_22 rfl (lv_at hl 0 rfl) ?_
    refine xi_lald hx hb hK hP 1 1 rfl rfl (by omega) (by omega) (by omega) d_Ln_merge_23 ?_
    refine lv_ldc2 hx hb hown (hts _ kw_420) d_Ln_merge_24 ?_
    refine lv_lxor hx hb d_Ln_merge_27 ?_
    refine lv_land hx hb d_Ln_merge_28 ?_
    refine lv_lstore (lv' := [(4, .long ((g i.toNat) &&& ((f2 i.toNat) ^^^ (-1)))), (3, .int (iI i)), (2, .int (iI r)), (0, .ref h), (1, .ref h2)]) hx hb d_Ln_merge_29 hl (by decide) rfl (fun ls hl => ?_)
    refine lv_aload_n hx hb d_Ln_merge_31 rfl (lv_at hl 3 rfl) ?_
    refine va_get (D := D) (cl := xcl) (ci := 0) (v := .ref w) (C := R_Ln) (T := T_Ln) (N := 2) hx hb hts i_Ln hown hK hP 0 rfl rfl 1 (by decide) (hts _ kw_48) (fun _ h9 => h9) rfl d_Ln_merge_32 ?_
    refine lv_iload_n hx hb d_Ln_merge_35 rfl (lv_at hl 1 rfl) ?_
    refine lv_dup2_11 hx hb d_Ln_merge_36 rfl rfl ?_
    refine xi_lald hx hb hK hP 1 1 rfl rfl (by omega) (by omega) (by omega) d_Ln_merge_37 ?_
    refine lv_lload hx hb d_Ln_merge_38 (lv_at hl 0 rfl) ?_
    refine lv_lor hx hb d_Ln_merge_40 ?_
    refine xi_last hx hb hK hP hD hS 1 1 rfl rfl (by omega) (by omega) (by omega) d_Ln_merge_41 (fun H locs hP hD hS => ?_)
    have hP : va_P D xcl [(h, .inr (0, [.int (iI dots), .ref w])), (w, .inl (cJ, nw, .inr (.inl (va_up f2 i.toNat ((f2 i.toNat) ||| ((g i.toNat) &&& ((f2 i.toNat) ^^^ (-1)))))))), (h2, .inr (0, [.int (iI dots2), .ref w2])), (w2, .inl (cJ, nw, .inr (.inl g)))] _ := hP
    have hD : va_D A [(h, .inr (0, [.int (iI dots), .ref w])), (w, .inl (cJ, nw, .inr (.inl (va_up f2 i.toNat ((f2 i.toNat) ||| ((g i.toNat) &&& ((f2 i.toNat) ^^^ (-1)))))))), (h2, .inr (0, [.int (iI dots2), .ref w2])), (w2, .inl (cJ, nw, .inr (.inl g)))] := hD
    refine lv_iload_n hx hb d_Ln_merge_42 rfl (lv_at hl 2 rfl) ?_
    refine lv_lload hx hb d_Ln_merge_43 (lv_at hl 0 rfl) ?_
    refine x_aft (x_runS (As := [.long ((g i.toNat) &&& ((f2 i.toNat) ^^^ (-1)))]) (rest := [.int (iI r)]) hx hb hml hown hts (c_Lo_bitCount l D cI cJ cQ ((g i.toNat) &&& ((f2 i.toNat) ^^^ (-1))) ) kw_421 kw_422 kw_13 kw_423 ds_Lo_bitCount (by decide) hK (hP.sub (ws' := []) [] rfl) (hD.sub (ws' := []) [] (by decide) rfl) hl.1 rfl (Nat.le_of_ble_eq_true rfl) d_Ln_merge_45) hP hD hS hA [] [0, 1, 2, 3] rfl (wr := [(h, .inr (0, [.int (iI dots), .ref w])), (w, .inl (cJ, nw, .inr (.inl (va_up f2 i.toNat ((f2 i.toNat) ||| ((g i.toNat) &&& ((f2 i.toNat) ^^^ (-1)))))))), (h2, .inr (0, [.int (iI dots2), .ref w2])), (w2, .inl (cJ, nw, .inr (.inl g)))]) rfl (by decide) (by decide) (fun v w1 H locs hq hP hD hS => ?_)
    obtain ⟨rfl, rfl⟩ := hq
    refine W.cs (cells' := 0) (slots' := 0) rfl rfl ?_
    refine W.eq (g2 := F0 m 48 ls [.int (iI ((pcw ((g i.toNat) &&& ((f2 i.toNat) ^^^ (-1))) : Nat) : Int)), .int (iI r)]) rfl ?_
    have hP : va_P D xcl [(h, .inr (0, [.int (iI dots), .ref w])), (w, .inl (cJ, nw, .inr (.inl (va_up f2 i.toNat ((f2 i.toNat) ||| ((g i.toNat) &&& ((f2 i.toNat) ^^^ (-1)))))))), (h2, .inr (0, [.int (iI dots2), .ref w2])), (w2, .inl (cJ, nw, .inr (.inl g)))] _ := hP
    have hD : va_D A [(h, .inr (0, [.int (iI dots), .ref w])), (w, .inl (cJ, nw, .inr (.inl (va_up f2 i.toNat ((f2 i.toNat) ||| ((g i.toNat) &&& ((f2 i.toNat) ^^^ (-1)))))))), (h2, .inr (0, [.int (iI dots2), .ref w2])), (w2, .inl (cJ, nw, .inr (.inl g)))] := hD
    refine xi_iadd hx hb d_Ln_merge_48 ?_
    refine lv_istore_n (lv' := [(2, .int (iI (r + ((pcw ((g i.toNat) &&& ((f2 i.toNat) ^^^ (-1))) : Nat) : Int)))), (4, .long ((g i.toNat) &&& ((f2 i.toNat) ^^^ (-1)))), (3, .int (iI i)), (0, .ref h), (1, .ref h2)]) hx hb d_Ln_merge_49 rfl hl (by decide) rfl (fun ls hl => ?_)
    refine xi_iinc (lv' := [(3, .int (iI (i + 1))), (2, .int (iI (r + ((pcw ((g i.toNat) &&& ((f2 i.toNat) ^^^ (-1))) : Nat) : Int)))), (4, .long ((g i.toNat) &&& ((f2 i.toNat) ^^^ (-1)))), (0, .ref h), (1, .ref h2)]) hx hb d_Ln_merge_50 hl (k := 2) rfl (by decide) rfl (fun ls hl => ?_)
    refine lv_goto (tgt := 4) hx hb d_Ln_merge_53 (by decide) ?_
    exact ih_4 (i + 1) (r + ((pcw ((g i.toNat) &&& ((f2 i.toNat) ^^^ (-1))) : Nat) : Int)) (va_up f2 i.toNat ((f2 i.toNat) ||| ((g i.toNat) &&& ((f2 i.toNat) ^^^ (-1))))) _ _ _ (by omega) ⟨by omega, by omega, fun j hj => by
            by_cases e : j = i.toNat
            · subst e; rw [up_s, k4 _ (by omega), or_fresh]
            · rw [up_n _ _ e]; exact k3 j (by omega), fun j hj => by rw [up_n _ _ (by omega)]; exact k4 j (by omega), by rw [sumN_nx _ k1, k5, k4 _ (by omega)]; omega, by have := pcw_le (g i.toNat &&& (f2 i.toNat ^^^ (-1))); omega, hP, hD, hS, (lv_sub hl [0, 1, 3, 4] rfl)⟩
