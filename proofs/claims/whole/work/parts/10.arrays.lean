theorem d_Ar_fillI_0 : decode b_Ar_fillI 0 = .ok (.iconst 0, 1) := by decide +kernel
theorem d_Ar_fillI_1 : decode b_Ar_fillI 1 = .ok (.istore_n 2, 1) := by decide +kernel
theorem d_Ar_fillI_2 : decode b_Ar_fillI 2 = .ok (.aload_n 0, 1) := by decide +kernel
theorem d_Ar_fillI_3 : decode b_Ar_fillI 3 = .ok (.arraylength, 1) := by decide +kernel
theorem d_Ar_fillI_4 : decode b_Ar_fillI 4 = .ok (.istore_n 3, 1) := by decide +kernel
theorem d_Ar_fillI_5 : decode b_Ar_fillI 5 = .ok (.iload_n 2, 1) := by decide +kernel
theorem d_Ar_fillI_6 : decode b_Ar_fillI 6 = .ok (.iload_n 3, 1) := by decide +kernel
theorem d_Ar_fillI_7 : decode b_Ar_fillI 7 = .ok (.if_icmp .ge 13, 3) := by decide +kernel
theorem d_Ar_fillI_10 : decode b_Ar_fillI 10 = .ok (.aload_n 0, 1) := by decide +kernel
theorem d_Ar_fillI_11 : decode b_Ar_fillI 11 = .ok (.iload_n 2, 1) := by decide +kernel
theorem d_Ar_fillI_12 : decode b_Ar_fillI 12 = .ok (.iload_n 1, 1) := by decide +kernel
theorem d_Ar_fillI_13 : decode b_Ar_fillI 13 = .ok (.iastore, 1) := by decide +kernel
theorem d_Ar_fillI_14 : decode b_Ar_fillI 14 = .ok (.iinc 2 1, 3) := by decide +kernel
theorem d_Ar_fillI_17 : decode b_Ar_fillI 17 = .ok (.goto (-12), 3) := by decide +kernel
theorem d_Ar_fillI_20 : decode b_Ar_fillI 20 = .ok (.return_, 1) := by decide +kernel
theorem ds_Ar_fillI : xDesc y_Ar_fillI 2 := by decide +kernel

abbrev rm_Ar_fillI : Room := { frames := 0, cells := 0, slots := 0, locals := 0 }
set_option maxHeartbeats 4000000 in
set_option maxRecDepth 100000 in
/-- Arrays.fill(int[], int) -/
theorem c_Ar_fillI (l : Launch) (D : va_G) (cI cJ cQ : ClassId) (a : Nat) (n : Nat) (B : Nat → Int) (z : Int) (hn : n ≤ 1000000) : xMet l D (xT cI cJ cQ) y_Ar_fillI b_Ar_fillI 4 none rm_Ar_fillI [.ref a, .int (iI z)] [(a, .inl (cI, n, .inl (iA B)))] (fun v ws => v = none ∧ ws = [(a, .inl (cI, n, .inl (iA (fun _ => z))))]) := by
  refine x_met (by decide) (Nat.le_of_ble_eq_true rfl) ?_
  intro p e s m below meth c hx hb hr hml hts hown hlocks hin hF0 A hA hP hD hK ls hl hS
  have hl : lv_has ls 4 [(0, .ref a), (1, .int (iI z))] := hl
  refine xi_iconst hx hb d_Ar_fillI_0 ?_
  refine lv_istore_n (lv' := [(2, .int (iI 0)), (0, .ref a), (1, .int (iI z))]) hx hb d_Ar_fillI_1 rfl hl (by decide) rfl (fun ls hl => ?_)
  refine lv_aload_n hx hb d_Ar_fillI_2 rfl (lv_at hl 1 rfl) ?_
  refine xi_alen (z := (n : Int)) hx hb hK hP 0 0 rfl rfl rfl d_Ar_fillI_3 ?_
  refine lv_istore_n (lv' := [(3, .int (iI (n : Int))), (2, .int (iI 0)), (0, .ref a), (1, .int (iI z))]) hx hb d_Ar_fillI_4 rfl hl (by decide) rfl (fun ls hl => ?_)
  refine x_loop2 (fun (i : Int) (B2 : Nat → Int) H locs ls => (0 ≤ i) ∧ (i ≤ (n : Int)) ∧ (∀ j : Nat, (j : Int) < i → B2 j = z) ∧ va_P D xcl [(a, .inl (cI, n, .inl (iA B2)))] H ∧ va_D A [(a, .inl (cI, n, .inl (iA B2)))] ∧ va_S A s.heap H locs ∧ lv_has ls 4 [(2, .int (iI i)), (3, .int (iI (n : Int))), (0, .ref a), (1, .int (iI z))]) (fun (i : Int) (B2 : Nat → Int) => ((n : Int) - i).toNat) 0 B ⟨by omega, by omega, fun j hj => by omega, hP, hD, hS, (lv_sub hl [1, 0, 2, 3] rfl)⟩ ?_
  intro i B2 H locs ls hI ih_5
  obtain ⟨h1, h2, h3, hP, hD, hS, hl⟩ := hI
  refine lv_iload_n hx hb d_Ar_fillI_5 rfl (lv_at hl 0 rfl) ?_
  refine lv_iload_n hx hb d_Ar_fillI_6 rfl (lv_at hl 1 rfl) ?_
  refine xi_icmp_ge (tgt := 20) hx hb d_Ar_fillI_7 (by decide) ⟨by omega, by omega⟩ ⟨by omega, by omega⟩ (fun c_7 => ?_) (fun c_7 => ?_)
  ·
    obtain ⟨hP, hD⟩ := norm_i (fun _ => z) 0 hP hD rfl (fun j hj => h3 j (by omega))
    have hP : va_P D xcl [(a, .inl (cI, n, .inl (iA (fun _ => z))))] _ := hP
    have hD : va_D A [(a, .inl (cI, n, .inl (iA (fun _ => z))))] := hD
    exact x_vret hx hb hr hlocks hP hD hS (by decide) (by decide) ⟨rfl, rfl⟩ d_Ar_fillI_20
  ·
    refine lv_aload_n hx hb d_Ar_fillI_10 rfl (lv_at hl 2 rfl) ?_
    refine lv_iload_n hx hb d_Ar_fillI_11 rfl (lv_at hl 0 rfl) ?_
    refine lv_iload_n hx hb d_Ar_fillI_12 rfl (lv_at hl 3 rfl) ?_
    refine xi_iast hx hb hK hP hD hS 0 0 rfl rfl (by omega) (by omega) (by omega) d_Ar_fillI_13 (fun H locs hP hD hS => ?_)
    have hP : va_P D xcl [(a, .inl (cI, n, .inl (iA (va_up B2 i.toNat z))))] _ := hP
    have hD : va_D A [(a, .inl (cI, n, .inl (iA (va_up B2 i.toNat z))))] := hD
    refine xi_iinc (lv' := [(2, .int (iI (i + 1))), (3, .int (iI (n : Int))), (0, .ref a), (1, .int (iI z))]) hx hb d_Ar_fillI_14 hl (k := 0) rfl (by decide) rfl (fun ls hl => ?_)
    refine lv_goto (tgt := 5) hx hb d_Ar_fillI_17 (by decide) ?_
    exact ih_5 (i + 1) (va_up B2 i.toNat z) _ _ _ (by omega) ⟨by omega, by omega, fun j hj => by
          by_cases e : j = i.toNat
          · subst e; exact up_s _ _ _
          · rw [up_n _ _ e]; exact h3 j (by omega), hP, hD, hS, hl⟩

theorem d_Ar_fillJ_0 : decode b_Ar_fillJ 0 = .ok (.iconst 0, 1) := by decide +kernel
theorem d_Ar_fillJ_1 : decode b_Ar_fillJ 1 = .ok (.istore_n 3, 1) := by decide +kernel
theorem d_Ar_fillJ_2 : decode b_Ar_fillJ 2 = .ok (.aload_n 0, 1) := by decide +kernel
theorem d_Ar_fillJ_3 : decode b_Ar_fillJ 3 = .ok (.arraylength, 1) := by decide +kernel
theorem d_Ar_fillJ_4 : decode b_Ar_fillJ 4 = .ok (.istore 4, 2) := by decide +kernel
theorem d_Ar_fillJ_6 : decode b_Ar_fillJ 6 = .ok (.iload_n 3, 1) := by decide +kernel
theorem d_Ar_fillJ_7 : decode b_Ar_fillJ 7 = .ok (.iload 4, 2) := by decide +kernel
theorem d_Ar_fillJ_9 : decode b_Ar_fillJ 9 = .ok (.if_icmp .ge 13, 3) := by decide +kernel
theorem d_Ar_fillJ_12 : decode b_Ar_fillJ 12 = .ok (.aload_n 0, 1) := by decide +kernel
theorem d_Ar_fillJ_13 : decode b_Ar_fillJ 13 = .ok (.iload_n 3, 1) := by decide +kernel
theorem d_Ar_fillJ_14 : decode b_Ar_fillJ 14 = .ok (.lload_n 1, 1) := by decide +kernel
theorem d_Ar_fillJ_15 : decode b_Ar_fillJ 15 = .ok (.lastore, 1) := by decide +kernel
theorem d_Ar_fillJ_16 : decode b_Ar_fillJ 16 = .ok (.iinc 3 1, 3) := by decide +kernel
theorem d_Ar_fillJ_19 : decode b_Ar_fillJ 19 = .ok (.goto (-13), 3) := by decide +kernel
theorem d_Ar_fillJ_22 : decode b_Ar_fillJ 22 = .ok (.return_, 1) := by decide +kernel
theorem ds_Ar_fillJ : xDesc y_Ar_fillJ 2 := by decide +kernel

abbrev rm_Ar_fillJ : Room := { frames := 0, cells := 0, slots := 0, locals := 0 }
set_option maxHeartbeats 4000000 in
set_option maxRecDepth 100000 in
/-- Arrays.fill(long[], long) -/
theorem c_Ar_fillJ (l : Launch) (D : va_G) (cI cJ cQ : ClassId) (a : Nat) (n : Nat) (f : Nat → Int64) (z : Int64) (hn : n ≤ 1000000) : xMet l D (xT cI cJ cQ) y_Ar_fillJ b_Ar_fillJ 5 none rm_Ar_fillJ [.ref a, .long z] [(a, .inl (cJ, n, .inr (.inl f)))] (fun v ws => v = none ∧ ws = [(a, .inl (cJ, n, .inr (.inl (fun _ => z))))]) := by
  refine x_met (by decide) (Nat.le_of_ble_eq_true rfl) ?_
  intro p e s m below meth c hx hb hr hml hts hown hlocks hin hF0 A hA hP hD hK ls hl hS
  have hl : lv_has ls 5 [(0, .ref a), (1, .long z)] := hl
  refine xi_iconst hx hb d_Ar_fillJ_0 ?_
  refine lv_istore_n (lv' := [(3, .int (iI 0)), (0, .ref a), (1, .long z)]) hx hb d_Ar_fillJ_1 rfl hl (by decide) rfl (fun ls hl => ?_)
  refine lv_aload_n hx hb d_Ar_fillJ_2 rfl (lv_at hl 1 rfl) ?_
  refine xi_alen (z := (n : Int)) hx hb hK hP 0 1 rfl rfl rfl d_Ar_fillJ_3 ?_
  refine lv_istore (lv' := [(4, .int (iI (n : Int))), (3, .int (iI 0)), (0, .ref a), (1, .long z)]) hx hb d_Ar_fillJ_4 hl (by decide) rfl (fun ls hl => ?_)
  refine x_loop2 (fun (i : Int) (f2 : Nat → Int64) H locs ls => (0 ≤ i) ∧ (i ≤ (n : Int)) ∧ (∀ j : Nat, (j : Int) < i → f2 j = z) ∧ va_P D xcl [(a, .inl (cJ, n, .inr (.inl f2)))] H ∧ va_D A [(a, .inl (cJ, n, .inr (.inl f2)))] ∧ va_S A s.heap H locs ∧ lv_has ls 5 [(3, .int (iI i)), (4, .int (iI (n : Int))), (0, .ref a), (1, .long z)]) (fun (i : Int) (f2 : Nat → Int64) => ((n : Int) - i).toNat) 0 f ⟨by omega, by omega, fun j hj => by omega, hP, hD, hS, (lv_sub hl [1, 0, 2, 3] rfl)⟩ ?_
  intro i f2 H locs ls hI ih_6
  obtain ⟨h1, h2, h3, hP, hD, hS, hl⟩ := hI
  refine lv_iload_n hx hb d_Ar_fillJ_6 rfl (lv_at hl 0 rfl) ?_
  refine lv_iload hx hb d_Ar_fillJ_7 (lv_at hl 1 rfl) ?_
  refine xi_icmp_ge (tgt := 22) hx hb d_Ar_fillJ_9 (by decide) ⟨by omega, by omega⟩ ⟨by omega, by omega⟩ (fun c_9 => ?_) (fun c_9 => ?_)
  ·
    obtain ⟨hP, hD⟩ := norm_l (fun _ => z) 0 hP hD rfl (fun j hj => h3 j (by omega))
    have hP : va_P D xcl [(a, .inl (cJ, n, .inr (.inl (fun _ => z))))] _ := hP
    have hD : va_D A [(a, .inl (cJ, n, .inr (.inl (fun _ => z))))] := hD
    exact x_vret hx hb hr hlocks hP hD hS (by decide) (by decide) ⟨rfl, rfl⟩ d_Ar_fillJ_22
  ·
    refine lv_aload_n hx hb d_Ar_fillJ_12 rfl (lv_at hl 2 rfl) ?_
    refine lv_iload_n hx hb d_Ar_fillJ_13 rfl (lv_at hl 0 rfl) ?_
    refine lv_lload_n hx hb d_Ar_fillJ_14 rfl (lv_at hl 3 rfl) ?_
    refine xi_last hx hb hK hP hD hS 0 1 rfl rfl (by omega) (by omega) (by omega) d_Ar_fillJ_15 (fun H locs hP hD hS => ?_)
    have hP : va_P D xcl [(a, .inl (cJ, n, .inr (.inl (va_up f2 i.toNat z))))] _ := hP
    have hD : va_D A [(a, .inl (cJ, n, .inr (.inl (va_up f2 i.toNat z))))] := hD
    refine xi_iinc (lv' := [(3, .int (iI (i + 1))), (4, .int (iI (n : Int))), (0, .ref a), (1, .long z)]) hx hb d_Ar_fillJ_16 hl (k := 0) rfl (by decide) rfl (fun ls hl => ?_)
    refine lv_goto (tgt := 6) hx hb d_Ar_fillJ_19 (by decide) ?_
    exact ih_6 (i + 1) (va_up f2 i.toNat z) _ _ _ (by omega) ⟨by omega, by omega, fun j hj => by
          by_cases e : j = i.toNat
          · subst e; exact up_s _ _ _
          · rw [up_n _ _ e]; exact h3 j (by omega), hP, hD, hS, hl⟩
