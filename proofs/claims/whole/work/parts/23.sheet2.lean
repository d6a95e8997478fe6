def stW (Wd : Nat → Nat → Int64) (sf : Nat → Int64) (t : Int) : Nat → Nat → Int64 := fun z k => if (z : Int) = t then Wd z k ||| sf k else Wd z k
def rowW (Wd : Nat → Nat → Int64) (sf : Nat → Int64) (t n : Int) : Nat → Nat → Int64 := fun z k => if t ≤ (z : Int) ∧ (z : Int) < t + n then Wd z k ||| sf k else Wd z k
theorem rowW_0 (Wd : Nat → Nat → Int64) (sf : Nat → Int64) (t : Int) : rowW Wd sf t 0 = Wd := by
  funext z k; exact if_neg (by omega)
theorem rowW_step (Wd : Nat → Nat → Int64) (sf : Nat → Int64) (t : Int) {i : Int} (hi : 0 ≤ i) : stW (rowW Wd sf t i) sf (t + i) = rowW Wd sf t (i + 1) := by
  funext z k
  unfold stW
  by_cases h : (z : Int) = t + i
  · rw [if_pos h]
    unfold rowW
    rw [if_neg (by omega), if_pos (by omega)]
  · rw [if_neg h]
    unfold rowW
    by_cases q : t ≤ (z : Int) ∧ (z : Int) < t + i
    · rw [if_pos q, if_pos (by omega)]
    · rw [if_neg q, if_neg (by omega)]
theorem totW_congr {Wd Wd2 : Nat → Nat → Int64} {nw dn : Nat} (e : ∀ y, y < dn → ∀ k, k < nw → Wd y k = Wd2 y k) : totW Wd nw dn = totW Wd2 nw dn := sumN_congr (fun y hy => sumN_congr (fun k hk => by rw [e y hy k hk]))
theorem stW_out {Wd : Nat → Nat → Int64} {sf : Nat → Int64} {t : Int} {dn : Nat} (h : t < 0 ∨ (dn : Int) ≤ t) : ∀ y, y < dn → ∀ k : Nat, Wd y k = stW Wd sf t y k := fun y hy k => (if_neg (by omega)).symm

theorem d_Sh_drawStripe_0 : decode b_Sh_drawStripe 0 = .ok (.iload_n 1, 1) := by decide +kernel
theorem d_Sh_drawStripe_1 : decode b_Sh_drawStripe 1 = .ok (.ifCond .lt 12, 3) := by decide +kernel
theorem d_Sh_drawStripe_4 : decode b_Sh_drawStripe 4 = .ok (.iload_n 1, 1) := by decide +kernel
theorem d_Sh_drawStripe_5 : decode b_Sh_drawStripe 5 = .ok (.aload_n 0, 1) := by decide +kernel
theorem d_Sh_drawStripe_6 : decode b_Sh_drawStripe 6 = .ok (.getfield 37, 3) := by decide +kernel
theorem d_Sh_drawStripe_9 : decode b_Sh_drawStripe 9 = .ok (.arraylength, 1) := by decide +kernel
theorem d_Sh_drawStripe_10 : decode b_Sh_drawStripe 10 = .ok (.if_icmp .lt 4, 3) := by decide +kernel
theorem d_Sh_drawStripe_13 : decode b_Sh_drawStripe 13 = .ok (.return_, 1) := by decide +kernel
theorem d_Sh_drawStripe_14 : decode b_Sh_drawStripe 14 = .ok (.aload_n 0, 1) := by decide +kernel
theorem d_Sh_drawStripe_15 : decode b_Sh_drawStripe 15 = .ok (.getfield 37, 3) := by decide +kernel
theorem d_Sh_drawStripe_18 : decode b_Sh_drawStripe 18 = .ok (.iload_n 1, 1) := by decide +kernel
theorem d_Sh_drawStripe_19 : decode b_Sh_drawStripe 19 = .ok (.aaload, 1) := by decide +kernel
theorem d_Sh_drawStripe_20 : decode b_Sh_drawStripe 20 = .ok (.ifnonnull 20, 3) := by decide +kernel
theorem d_Sh_drawStripe_23 : decode b_Sh_drawStripe 23 = .ok (.aload_n 0, 1) := by decide +kernel
theorem d_Sh_drawStripe_24 : decode b_Sh_drawStripe 24 = .ok (.getfield 37, 3) := by decide +kernel
theorem d_Sh_drawStripe_27 : decode b_Sh_drawStripe 27 = .ok (.iload_n 1, 1) := by decide +kernel
theorem d_Sh_drawStripe_28 : decode b_Sh_drawStripe 28 = .ok (.new 35, 3) := by decide +kernel
theorem d_Sh_drawStripe_31 : decode b_Sh_drawStripe 31 = .ok (.dup, 1) := by decide +kernel
theorem d_Sh_drawStripe_32 : decode b_Sh_drawStripe 32 = .ok (.aload_n 0, 1) := by decide +kernel
theorem d_Sh_drawStripe_33 : decode b_Sh_drawStripe 33 = .ok (.getfield 29, 3) := by decide +kernel
theorem d_Sh_drawStripe_36 : decode b_Sh_drawStripe 36 = .ok (.invokespecial 41, 3) := by decide +kernel
theorem d_Sh_drawStripe_39 : decode b_Sh_drawStripe 39 = .ok (.aastore, 1) := by decide +kernel
theorem d_Sh_drawStripe_40 : decode b_Sh_drawStripe 40 = .ok (.aload_n 0, 1) := by decide +kernel
theorem d_Sh_drawStripe_41 : decode b_Sh_drawStripe 41 = .ok (.dup, 1) := by decide +kernel
theorem d_Sh_drawStripe_42 : decode b_Sh_drawStripe 42 = .ok (.getfield 22, 3) := by decide +kernel
theorem d_Sh_drawStripe_45 : decode b_Sh_drawStripe 45 = .ok (.aload_n 0, 1) := by decide +kernel
theorem d_Sh_drawStripe_46 : decode b_Sh_drawStripe 46 = .ok (.getfield 37, 3) := by decide +kernel
theorem d_Sh_drawStripe_49 : decode b_Sh_drawStripe 49 = .ok (.iload_n 1, 1) := by decide +kernel
theorem d_Sh_drawStripe_50 : decode b_Sh_drawStripe 50 = .ok (.aaload, 1) := by decide +kernel
theorem d_Sh_drawStripe_51 : decode b_Sh_drawStripe 51 = .ok (.aload_n 0, 1) := by decide +kernel
theorem d_Sh_drawStripe_52 : decode b_Sh_drawStripe 52 = .ok (.getfield 44, 3) := by decide +kernel
theorem d_Sh_drawStripe_55 : decode b_Sh_drawStripe 55 = .ok (.invokevirtual 79, 3) := by decide +kernel
theorem d_Sh_drawStripe_58 : decode b_Sh_drawStripe 58 = .ok (.iadd, 1) := by decide +kernel
theorem d_Sh_drawStripe_59 : decode b_Sh_drawStripe 59 = .ok (.putfield 22, 3) := by decide +kernel
theorem d_Sh_drawStripe_62 : decode b_Sh_drawStripe 62 = .ok (.return_, 1) := by decide +kernel
theorem ds_Sh_drawStripe : xDesc y_Sh_drawStripe 1 := by decide +kernel

abbrev rm_Sh_drawStripe : Room := { frames := 2, cells := 2, slots := 82, locals := 46 }
set_option maxHeartbeats 4000000 in
set_option maxRecDepth 100000 in
/-- Sheet.drawStripe -/
theorem c_Sh_drawStripe (l : Launch) (D : va_G) (cI cJ cQ : ClassId) (hs : Nat) (la : Nat) (st : Nat) (sw : Nat) (ac : Int) (dI : Int) (dn : Nat) (nw : Nat) (g : Nat → Option Nat) (sf : Nat → Int64) (kr : Int) (kb : Int) (ov : Int) (bd : Int) (pl : va_W) (Wd : Nat → Nat → Int64) (yy : Int) (hac : 1 ≤ ac ∧ ac ≤ 5100) (hdn : dI = (dn : Int) ∧ dn ≤ 5100) (hnw : (nw : Int) = (ac + 63) / 64) (hL : LOK cJ ac nw dn g pl Wd) (hy_ : inR yy) : xMet l D (xT cI cJ cQ) y_Sh_drawStripe b_Sh_drawStripe 2 none rm_Sh_drawStripe [.ref hs, .int (iI yy)] ([(hs, .inr (3, [.int (iI ac), .int (iI dI), .ref la, .ref st, .int (iI kr), .int (iI kb), .int (iI ov), .int (iI bd)])), (la, .inl (cQ, dn, .inr (.inr (.inr (.inr g))))), (st, .inr (0, [.int (iI ac), .ref sw])), (sw, .inl (cJ, nw, .inr (.inl sf)))] ++ pl) (fun v ws => ∃ (g2 : Nat → Option Nat) (pl2 : va_W) (bd2 : Int), v = none ∧ ws = ([(hs, .inr (3, [.int (iI ac), .int (iI dI), .ref la, .ref st, .int (iI kr), .int (iI kb), .int (iI ov), .int (iI bd2)])), (la, .inl (cQ, dn, .inr (.inr (.inr (.inr g2))))), (st, .inr (0, [.int (iI ac), .ref sw])), (sw, .inl (cJ, nw, .inr (.inl sf)))] ++ pl2) ∧ (LOK cJ ac nw dn g2 pl2 (stW Wd sf yy)) ∧ (bd2 = bd + ((totW (stW Wd sf yy) nw dn : Nat) : Int) - ((totW (Wd) nw dn : Nat) : Int))) := by
  refine x_met (by decide) (Nat.le_of_ble_eq_true rfl) ?_
  intro p e s m below meth c hx hb hr hml hts hown hlocks hin hF0 A hA hP hD hK ls hl hS
  have hl : lv_has ls 2 [(0, .ref hs), (1, .int (iI yy))] := hl
  refine lv_iload_n hx hb d_Sh_drawStripe_0 rfl (lv_at hl 1 rfl) ?_
  refine xi_if_lt (tgt := 13) hx hb d_Sh_drawStripe_1 (by decide) ⟨by omega, by omega⟩ (fun c_1 => ?_) (fun c_1 => ?_)
  ·
    exact x_vret hx hb hr hlocks hP hD hS (by decide) (by decide) ⟨g, pl, bd, rfl, rfl, LOK_congr hL (fun z hz k _ => stW_out (by omega) z hz k), by rw [totW_congr (Wd := Wd) (Wd2 := stW Wd sf yy) (fun z hz k _ => stW_out (by omega) z hz k)]; omega⟩ d_Sh_drawStripe_13
  ·
    refine lv_iload_n hx hb d_Sh_drawStripe_4 rfl (lv_at hl 1 rfl) ?_
    refine lv_aload_n hx hb d_Sh_drawStripe_5 rfl (lv_at hl 0 rfl) ?_
    refine va_get (D := D) (cl := xcl) (ci := 3) (v := .ref la) (C := R_Sh) (T := T_Sh) (N := 8) hx hb hts i_Sh hown hK hP 0 rfl rfl 2 (by decide) (hts _ kw_59) (fun _ h9 => h9) rfl d_Sh_drawStripe_6 ?_
    refine xi_alen (z := (dn : Int)) hx hb hK hP 1 2 rfl rfl rfl d_Sh_drawStripe_9 ?_
    refine xi_icmp_lt (tgt := 14) hx hb d_Sh_drawStripe_10 (by decide) ⟨by omega, by omega⟩ ⟨by omega, by omega⟩ (fun c_10 => ?_) (fun c_10 => ?_)
    ·
      refine x_cut5 40 (cJ := 2) (sJ := 82) (fun (a1 : Nat) (w1 : Nat) (f1 : Nat → Int64) (pl1 : va_W) (g1 : Nat → Option Nat) => []) (fun (a1 : Nat) (w1 : Nat) (f1 : Nat → Int64) (pl1 : va_W) (g1 : Nat → Option Nat) H locs ls => (g1 yy.toNat = some a1) ∧ (∀ k, k < nw → f1 k = Wd yy.toNat k) ∧ (LBK D cJ ac nw dn g1 yy.toNat a1 w1 pl1 Wd) ∧ va_P D xcl ([(hs, .inr (3, [.int (iI ac), .int (iI dI), .ref la, .ref st, .int (iI kr), .int (iI kb), .int (iI ov), .int (iI bd)])), (la, .inl (cQ, dn, .inr (.inr (.inr (.inr g1))))), (st, .inr (0, [.int (iI ac), .ref sw])), (sw, .inl (cJ, nw, .inr (.inl sf))), (a1, .inr (0, [.int (iI ac), .ref w1])), (w1, .inl (cJ, nw, .inr (.inl f1)))] ++ pl1) H ∧ va_D A ([(hs, .inr (3, [.int (iI ac), .int (iI dI), .ref la, .ref st, .int (iI kr), .int (iI kb), .int (iI ov), .int (iI bd)])), (la, .inl (cQ, dn, .inr (.inr (.inr (.inr g1))))), (st, .inr (0, [.int (iI ac), .ref sw])), (sw, .inl (cJ, nw, .inr (.inl sf))), (a1, .inr (0, [.int (iI ac), .ref w1])), (w1, .inl (cJ, nw, .inr (.inl f1)))] ++ pl1) ∧ va_S A s.heap H locs ∧ lv_has ls 2 [(0, .ref hs), (1, .int (iI yy))]) ?_ ?_
      ·
        intro a1 w1 f1 pl1 g1 H locs ls hI
        obtain ⟨j1, j2, j3, hP, hD, hS, hl⟩ := hI
        refine lv_aload_n hx hb d_Sh_drawStripe_40 rfl (lv_at hl 0 rfl) ?_
        refine lv_dup hx hb d_Sh_drawStripe_41 rfl ?_
        refine va_get (D := D) (cl := xcl) (ci := 3) (v := .int (iI bd)) (C := R_Sh) (T := T_Sh) (N := 8) hx hb hts i_Sh hown hK hP 0 rfl rfl 7 (by decide) (hts _ kw_67) (fun _ h9 => h9) rfl d_Sh_drawStripe_42 ?_
        refine lv_aload_n hx hb d_Sh_drawStripe_45 rfl (lv_at hl 0 rfl) ?_
        refine va_get (D := D) (cl := xcl) (ci := 3) (v := .ref la) (C := R_Sh) (T := T_Sh) (N := 8) hx hb hts i_Sh hown hK hP 0 rfl rfl 2 (by decide) (hts _ kw_59) (fun _ h9 => h9) rfl d_Sh_drawStripe_46 ?_
        refine lv_iload_n hx hb d_Sh_drawStripe_49 rfl (lv_at hl 1 rfl) ?_
        refine xi_aldq hx hb hK hP 1 rfl (by omega) (by omega) (by omega) d_Sh_drawStripe_50 ?_
        rw [j1]
        refine W.eq (g2 := F0 m 51 ls [.ref a1, .int (iI bd), .ref hs]) rfl ?_
        refine lv_aload_n hx hb d_Sh_drawStripe_51 rfl (lv_at hl 0 rfl) ?_
        refine va_get (D := D) (cl := xcl) (ci := 3) (v := .ref st) (C := R_Sh) (T := T_Sh) (N := 8) hx hb hts i_Sh hown hK hP 0 rfl rfl 3 (by decide) (hts _ kw_60) (fun _ h9 => h9) rfl d_Sh_drawStripe_52 ?_
        refine x_aftQ (X := [(hs, .inr (3, [.int (iI ac), .int (iI dI), .ref la, .ref st, .int (iI kr), .int (iI kb), .int (iI ov), .int (iI bd)])), (la, .inl (cQ, dn, .inr (.inr (.inr (.inr g1))))), (st, .inr (0, [.int (iI ac), .ref sw])), (sw, .inl (cJ, nw, .inr (.inl sf))), (a1, .inr (0, [.int (iI ac), .ref w1])), (w1, .inl (cJ, nw, .inr (.inl f1)))]) (pl := pl1) (x_runV (C := "RasterRows$Line") (As := [.ref st]) (rest := [.int (iI bd), .ref hs]) (ci := 0) (q0 := 0) hx hb hml hown hts (c_Ln_merge l D cI cJ cQ a1 ac w1 nw f1 st ac sw sf (by omega)) kw_415 kw_416 kw_417 kw_4 kw_418 ds_Ln_merge (by decide) hK (hP.sub (ws' := [(a1, .inr (0, [.int (iI ac), .ref w1])), (w1, .inl (cJ, nw, .inr (.inl f1))), (st, .inr (0, [.int (iI ac), .ref sw])), (sw, .inl (cJ, nw, .inr (.inl sf)))]) [4, 5, 2, 3] rfl) (hD.sub (ws' := [(a1, .inr (0, [.int (iI ac), .ref w1])), (w1, .inl (cJ, nw, .inr (.inl f1))), (st, .inr (0, [.int (iI ac), .ref sw])), (sw, .inl (cJ, nw, .inr (.inl sf)))]) [4, 5, 2, 3] (by decide) rfl) rfl rfl rfl hl.1 rfl (Nat.le_of_ble_eq_true rfl) d_Sh_drawStripe_55) hP hD hS hA [4, 5, 2, 3] [0, 1] rfl rfl (wr := [(hs, .inr (3, [.int (iI ac), .int (iI dI), .ref la, .ref st, .int (iI kr), .int (iI kb), .int (iI ov), .int (iI bd)])), (la, .inl (cQ, dn, .inr (.inr (.inr (.inr g1)))))]) rfl (by decide) (by decide) (fun v w1 H locs hq hP hD hS => ?_)
        obtain ⟨rfl, rfl⟩ := hq
        refine W.cs (cells' := 2) (slots' := 82) rfl rfl ?_
        refine W.eq (g2 := F0 m 58 ls [.int (iI ((sumN (fun k => pcw (sf k &&& (f1 k ^^^ (-1)))) nw : Nat) : Int)), .int (iI bd), .ref hs]) rfl ?_
        have hP : va_P D xcl ([(hs, .inr (3, [.int (iI ac), .int (iI dI), .ref la, .ref st, .int (iI kr), .int (iI kb), .int (iI ov), .int (iI bd)])), (la, .inl (cQ, dn, .inr (.inr (.inr (.inr g1))))), (a1, .inr (0, [.int (iI ac), .ref w1])), (w1, .inl (cJ, nw, .inr (.inl (fun j => f1 j ||| sf j)))), (st, .inr (0, [.int (iI ac), .ref sw])), (sw, .inl (cJ, nw, .inr (.inl sf)))] ++ pl1) _ := hP
        have hD : va_D A ([(hs, .inr (3, [.int (iI ac), .int (iI dI), .ref la, .ref st, .int (iI kr), .int (iI kb), .int (iI ov), .int (iI bd)])), (la, .inl (cQ, dn, .inr (.inr (.inr (.inr g1))))), (a1, .inr (0, [.int (iI ac), .ref w1])), (w1, .inl (cJ, nw, .inr (.inl (fun j => f1 j ||| sf j)))), (st, .inr (0, [.int (iI ac), .ref sw])), (sw, .inl (cJ, nw, .inr (.inl sf)))] ++ pl1) := hD
        refine xi_iadd hx hb d_Sh_drawStripe_58 ?_
        refine va_put (D := D) (cl := xcl) (ci := 3) (v := .int (iI (bd + ((sumN (fun k => pcw (sf k &&& (f1 k ^^^ (-1)))) nw : Nat) : Int)))) (ty := .int) (C := R_Sh) (T := T_Sh) (N := 8) hx hb hts i_Sh ty_Sh ty_Sh_ok nm_Sh hown hK hP hD hS 0 rfl rfl 7 (by decide) (hts _ kw_67) (fun _ h9 => h9) rfl (by decide +kernel) rfl rfl (Nat.le_of_ble_eq_true rfl) d_Sh_drawStripe_59 (fun H locs hP hD hS => ?_)
        have hP : va_P D xcl ([(hs, .inr (3, [.int (iI ac), .int (iI dI), .ref la, .ref st, .int (iI kr), .int (iI kb), .int (iI ov), .int (iI (bd + ((sumN (fun k => pcw (sf k &&& (f1 k ^^^ (-1)))) nw : Nat) : Int)))])), (la, .inl (cQ, dn, .inr (.inr (.inr (.inr g1))))), (a1, .inr (0, [.int (iI ac), .ref w1])), (w1, .inl (cJ, nw, .inr (.inl (fun j => f1 j ||| sf j)))), (st, .inr (0, [.int (iI ac), .ref sw])), (sw, .inl (cJ, nw, .inr (.inl sf)))] ++ pl1) _ := hP
        have hD : va_D A ([(hs, .inr (3, [.int (iI ac), .int (iI dI), .ref la, .ref st, .int (iI kr), .int (iI kb), .int (iI ov), .int (iI (bd + ((sumN (fun k => pcw (sf k &&& (f1 k ^^^ (-1)))) nw : Nat) : Int)))])), (la, .inl (cQ, dn, .inr (.inr (.inr (.inr g1))))), (a1, .inr (0, [.int (iI ac), .ref w1])), (w1, .inl (cJ, nw, .inr (.inl (fun j => f1 j ||| sf j)))), (st, .inr (0, [.int (iI ac), .ref sw])), (sw, .inl (cJ, nw, .inr (.inl sf)))] ++ pl1) := hD
        obtain ⟨pl_z, L_z, r_z⟩ := j3 (fun j => f1 j ||| sf j) (stW Wd sf yy) (fun k hk => by show f1 k ||| sf k = stW Wd sf yy yy.toNat k; unfold stW; rw [if_pos (by omega), j2 k hk]) (fun z hz e k hk => if_neg (by omega))
        obtain ⟨hP, hD⟩ := r_z _ [(hs, .inr (3, [.int (iI ac), .int (iI dI), .ref la, .ref st, .int (iI kr), .int (iI kb), .int (iI ov), .int (iI (bd + ((sumN (fun k => pcw (sf k &&& (f1 k ^^^ (-1)))) nw : Nat) : Int)))])), (la, .inl (cQ, dn, .inr (.inr (.inr (.inr g1))))), (st, .inr (0, [.int (iI ac), .ref sw])), (sw, .inl (cJ, nw, .inr (.inl sf)))] _ (hP.part (cx := [(hs, .inr (3, [.int (iI ac), .int (iI dI), .ref la, .ref st, .int (iI kr), .int (iI kb), .int (iI ov), .int (iI (bd + ((sumN (fun k => pcw (sf k &&& (f1 k ^^^ (-1)))) nw : Nat) : Int)))])), (la, .inl (cQ, dn, .inr (.inr (.inr (.inr g1))))), (st, .inr (0, [.int (iI ac), .ref sw])), (sw, .inl (cJ, nw, .inr (.inl sf))), (a1, .inr (0, [.int (iI ac), .ref w1])), (w1, .inl (cJ, nw, .inr (.inl (fun j => f1 j ||| sf j))))]) [0, 1, 4, 5, 2, 3] rfl) (hD.part (cx := [(hs, .inr (3, [.int (iI ac), .int (iI dI), .ref la, .ref st, .int (iI kr), .int (iI kb), .int (iI ov), .int (iI (bd + ((sumN (fun k => pcw (sf k &&& (f1 k ^^^ (-1)))) nw : Nat) : Int)))])), (la, .inl (cQ, dn, .inr (.inr (.inr (.inr g1))))), (st, .inr (0, [.int (iI ac), .ref sw])), (sw, .inl (cJ, nw, .inr (.inl sf))), (a1, .inr (0, [.int (iI ac), .ref w1])), (w1, .inl (cJ, nw, .inr (.inl (fun j => f1 j ||| sf j))))]) [0, 1, 4, 5, 2, 3] (by decide) rfl)
        have hP : va_P D xcl ([(hs, .inr (3, [.int (iI ac), .int (iI dI), .ref la, .ref st, .int (iI kr), .int (iI kb), .int (iI ov), .int (iI (bd + ((sumN (fun k => pcw (sf k &&& (f1 k ^^^ (-1)))) nw : Nat) : Int)))])), (la, .inl (cQ, dn, .inr (.inr (.inr (.inr g1))))), (st, .inr (0, [.int (iI ac), .ref sw])), (sw, .inl (cJ, nw, .inr (.inl sf)))] ++ pl_z) _ := hP
        have hD : va_D A ([(hs, .inr (3, [.int (iI ac), .int (iI dI), .ref la, .ref st, .int (iI kr), .int (iI kb), .int (iI ov), .int (iI (bd + ((sumN (fun k => pcw (sf k &&& (f1 k ^^^ (-1)))) nw : Nat) : Int)))])), (la, .inl (cQ, dn, .inr (.inr (.inr (.inr g1))))), (st, .inr (0, [.int (iI ac), .ref sw])), (sw, .inl (cJ, nw, .inr (.inl sf)))] ++ pl_z) := hD
        exact x_vret hx hb hr hlocks hP hD hS (by decide) (by decide) ⟨g1, pl_z, (bd + ((sumN (fun k => pcw (sf k &&& (f1 k ^^^ (-1)))) nw : Nat) : Int)), rfl, rfl, L_z, by rw [totW_row (Wd := Wd) (Wd2 := stW Wd sf yy) (y := yy.toNat) (sf := sf) (f := f1) (show yy.toNat < dn by omega) (fun k hk => if_pos (by omega)) (fun z hz e k hk => if_neg (by omega)) j2]; omega⟩ d_Sh_drawStripe_62
      ·
        intro hJ_40
        refine lv_aload_n hx hb d_Sh_drawStripe_14 rfl (lv_at hl 0 rfl) ?_
        refine va_get (D := D) (cl := xcl) (ci := 3) (v := .ref la) (C := R_Sh) (T := T_Sh) (N := 8) hx hb hts i_Sh hown hK hP 0 rfl rfl 2 (by decide) (hts _ kw_59) (fun _ h9 => h9) rfl d_Sh_drawStripe_15 ?_
        refine lv_iload_n hx hb d_Sh_drawStripe_18 rfl (lv_at hl 1 rfl) ?_
        refine xi_aldq hx hb hK hP 1 rfl (by omega) (by omega) (by omega) d_Sh_drawStripe_19 ?_
        refine x_opt (fun n_19 => ?_) (fun a_19 n_19 => ?_)
        ·
          refine lv_ifnonnullN hx hb d_Sh_drawStripe_20 ?_
          refine lv_aload_n hx hb d_Sh_drawStripe_23 rfl (lv_at hl 0 rfl) ?_
          refine va_get (D := D) (cl := xcl) (ci := 3) (v := .ref la) (C := R_Sh) (T := T_Sh) (N := 8) hx hb hts i_Sh hown hK hP 0 rfl rfl 2 (by decide) (hts _ kw_59) (fun _ h9 => h9) rfl d_Sh_drawStripe_24 ?_
          refine lv_iload_n hx hb d_Sh_drawStripe_27 rfl (lv_at hl 1 rfl) ?_
          refine va_new (ci := 0) (fs := [.int (iI 0), .null]) (C := R_Ln) (T := T_Ln) (N := 2) hx hb hts i_Ln ty_Ln ty_Ln_ok hown (hts _ kw_39) (hts _ kw_41) (hts _ kw_4) hK hP hD hS hA rfl (fun j hj => by rcases (show j = 0 ∨ j = 1 by omega) with rfl | rfl <;> rfl) (by decide) (by decide) d_Sh_drawStripe_28 (fun q28 H hP hD hS => ?_)
          have hP := hP.swap
          have hD := hD.swap
          have hP : va_P D xcl ([(hs, .inr (3, [.int (iI ac), .int (iI dI), .ref la, .ref st, .int (iI kr), .int (iI kb), .int (iI ov), .int (iI bd)])), (la, .inl (cQ, dn, .inr (.inr (.inr (.inr g))))), (st, .inr (0, [.int (iI ac), .ref sw])), (sw, .inl (cJ, nw, .inr (.inl sf))), (q28, .inr (0, [.int (iI 0), .null]))] ++ pl) _ := hP
          have hD : va_D A ([(hs, .inr (3, [.int (iI ac), .int (iI dI), .ref la, .ref st, .int (iI kr), .int (iI kb), .int (iI ov), .int (iI bd)])), (la, .inl (cQ, dn, .inr (.inr (.inr (.inr g))))), (st, .inr (0, [.int (iI ac), .ref sw])), (sw, .inl (cJ, nw, .inr (.inl sf))), (q28, .inr (0, [.int (iI 0), .null]))] ++ pl) := hD
          refine W.cs (cells' := 1) (slots' := 2) rfl rfl ?_
          refine lv_dup hx hb d_Sh_drawStripe_31 rfl ?_
          refine lv_aload_n hx hb d_Sh_drawStripe_32 rfl (lv_at hl 0 rfl) ?_
          refine va_get (D := D) (cl := xcl) (ci := 3) (v := .int (iI ac)) (C := R_Sh) (T := T_Sh) (N := 8) hx hb hts i_Sh hown hK hP 0 rfl rfl 0 (by decide) (hts _ kw_55) (fun _ h9 => h9) rfl d_Sh_drawStripe_33 ?_
          refine x_aftQ (X := [(hs, .inr (3, [.int (iI ac), .int (iI dI), .ref la, .ref st, .int (iI kr), .int (iI kb), .int (iI ov), .int (iI bd)])), (la, .inl (cQ, dn, .inr (.inr (.inr (.inr g))))), (st, .inr (0, [.int (iI ac), .ref sw])), (sw, .inl (cJ, nw, .inr (.inl sf))), (q28, .inr (0, [.int (iI 0), .null]))]) (pl := pl) (x_runI (As := [.int (iI ac)]) (rest := [.ref q28, .int (iI yy), .ref la]) hx hb hml hown hts (c_Ln_init l D cI cJ cQ q28 ac (hac.1) (hac.2)) kw_42 kw_43 kw_4 kw_44 rfl ds_Ln_init (by decide) hK (hP.sub (ws' := [(q28, .inr (0, [.int (iI 0), .null]))]) [4] rfl) (hD.sub (ws' := [(q28, .inr (0, [.int (iI 0), .null]))]) [4] (by decide) rfl) hl.1 rfl (Nat.le_of_ble_eq_true rfl) d_Sh_drawStripe_36) hP hD hS hA [4] [0, 1, 2, 3] rfl rfl (wr := [(hs, .inr (3, [.int (iI ac), .int (iI dI), .ref la, .ref st, .int (iI kr), .int (iI kb), .int (iI ov), .int (iI bd)])), (la, .inl (cQ, dn, .inr (.inr (.inr (.inr g))))), (st, .inr (0, [.int (iI ac), .ref sw])), (sw, .inl (cJ, nw, .inr (.inl sf)))]) rfl (by decide) (by decide) (fun v w1 H locs hq hP hD hS => ?_)
          obtain ⟨w_36, nw_36, rfl, rfl, hnw_36⟩ := hq
          refine W.widen (k := 2) (n := 82) (by decide) (by decide) ?_
          refine W.eq (g2 := F0 m 39 ls [.ref q28, .int (iI yy), .ref la]) rfl ?_
          have hP : va_P D xcl ([(hs, .inr (3, [.int (iI ac), .int (iI dI), .ref la, .ref st, .int (iI kr), .int (iI kb), .int (iI ov), .int (iI bd)])), (la, .inl (cQ, dn, .inr (.inr (.inr (.inr g))))), (st, .inr (0, [.int (iI ac), .ref sw])), (sw, .inl (cJ, nw, .inr (.inl sf))), (q28, .inr (0, [.int (iI ac), .ref w_36])), (w_36, .inl (cJ, nw_36, .inr (.inl (fun _ => 0))))] ++ pl) _ := hP
          have hD : va_D A ([(hs, .inr (3, [.int (iI ac), .int (iI dI), .ref la, .ref st, .int (iI kr), .int (iI kb), .int (iI ov), .int (iI bd)])), (la, .inl (cQ, dn, .inr (.inr (.inr (.inr g))))), (st, .inr (0, [.int (iI ac), .ref sw])), (sw, .inl (cJ, nw, .inr (.inl sf))), (q28, .inr (0, [.int (iI ac), .ref w_36])), (w_36, .inl (cJ, nw_36, .inr (.inl (fun _ => 0))))] ++ pl) := hD
          have e36 : nw = nw_36 := by omega
          subst e36
          have hP : va_P D xcl ([(hs, .inr (3, [.int (iI ac), .int (iI dI), .ref la, .ref st, .int (iI kr), .int (iI kb), .int (iI ov), .int (iI bd)])), (la, .inl (cQ, dn, .inr (.inr (.inr (.inr g))))), (st, .inr (0, [.int (iI ac), .ref sw])), (sw, .inl (cJ, nw, .inr (.inl sf))), (q28, .inr (0, [.int (iI ac), .ref w_36])), (w_36, .inl (cJ, nw, .inr (.inl (fun _ => 0))))] ++ pl) _ := hP
          have hD : va_D A ([(hs, .inr (3, [.int (iI ac), .int (iI dI), .ref la, .ref st, .int (iI kr), .int (iI kb), .int (iI ov), .int (iI bd)])), (la, .inl (cQ, dn, .inr (.inr (.inr (.inr g))))), (st, .inr (0, [.int (iI ac), .ref sw])), (sw, .inl (cJ, nw, .inr (.inl sf))), (q28, .inr (0, [.int (iI ac), .ref w_36])), (w_36, .inl (cJ, nw, .inr (.inl (fun _ => 0))))] ++ pl) := hD
          refine xi_astq hx hb hK hP hD hS 1 4 rfl rfl (by omega) (by omega) (by omega) d_Sh_drawStripe_39 (fun H locs hP hD hS => ?_)
          have hP : va_P D xcl ([(hs, .inr (3, [.int (iI ac), .int (iI dI), .ref la, .ref st, .int (iI kr), .int (iI kb), .int (iI ov), .int (iI bd)])), (la, .inl (cQ, dn, .inr (.inr (.inr (.inr (va_up g yy.toNat (some q28))))))), (st, .inr (0, [.int (iI ac), .ref sw])), (sw, .inl (cJ, nw, .inr (.inl sf))), (q28, .inr (0, [.int (iI ac), .ref w_36])), (w_36, .inl (cJ, nw, .inr (.inl (fun _ => 0))))] ++ pl) _ := hP
          have hD : va_D A ([(hs, .inr (3, [.int (iI ac), .int (iI dI), .ref la, .ref st, .int (iI kr), .int (iI kb), .int (iI ov), .int (iI bd)])), (la, .inl (cQ, dn, .inr (.inr (.inr (.inr (va_up g yy.toNat (some q28))))))), (st, .inr (0, [.int (iI ac), .ref sw])), (sw, .inl (cJ, nw, .inr (.inl sf))), (q28, .inr (0, [.int (iI ac), .ref w_36])), (w_36, .inl (cJ, nw, .inr (.inl (fun _ => 0))))] ++ pl) := hD
          exact hJ_40 q28 w_36 (fun _ => 0) pl (va_up g yy.toNat (some q28)) _ _ _ ⟨by first | exact n_19 | exact up_s _ _ _, by first | exact e_19 | exact fun k hk => (LOK_none hL (show yy.toNat < dn by omega) n_19 k hk).symm, by first | exact b_19 | exact LOK_new D hL (show yy.toNat < dn by omega) n_19 _ _, hP, hD, hS, hl⟩
        ·
          obtain ⟨w_19, f_19, pl_19, e_19, b_19, t_19⟩ := LOK_take D hL (show yy.toNat < dn by omega) n_19
          obtain ⟨hP, hD⟩ := t_19 _ [(hs, .inr (3, [.int (iI ac), .int (iI dI), .ref la, .ref st, .int (iI kr), .int (iI kb), .int (iI ov), .int (iI bd)])), (la, .inl (cQ, dn, .inr (.inr (.inr (.inr g))))), (st, .inr (0, [.int (iI ac), .ref sw])), (sw, .inl (cJ, nw, .inr (.inl sf)))] _ hP hD
          have hP : va_P D xcl ([(hs, .inr (3, [.int (iI ac), .int (iI dI), .ref la, .ref st, .int (iI kr), .int (iI kb), .int (iI ov), .int (iI bd)])), (la, .inl (cQ, dn, .inr (.inr (.inr (.inr g))))), (st, .inr (0, [.int (iI ac), .ref sw])), (sw, .inl (cJ, nw, .inr (.inl sf))), (a_19, .inr (0, [.int (iI ac), .ref w_19])), (w_19, .inl (cJ, nw, .inr (.inl f_19)))] ++ pl_19) _ := hP
          have hD : va_D A ([(hs, .inr (3, [.int (iI ac), .int (iI dI), .ref la, .ref st, .int (iI kr), .int (iI kb), .int (iI ov), .int (iI bd)])), (la, .inl (cQ, dn, .inr (.inr (.inr (.inr g))))), (st, .inr (0, [.int (iI ac), .ref sw])), (sw, .inl (cJ, nw, .inr (.inl sf))), (a_19, .inr (0, [.int (iI ac), .ref w_19])), (w_19, .inl (cJ, nw, .inr (.inl f_19)))] ++ pl_19) := hD
          refine lv_ifnonnull (tgt := 40) hx hb d_Sh_drawStripe_20 (by decide) ?_
          refine W.widen (k := 2) (n := 82) (by decide) (by decide) ?_
          exact hJ_40 a_19 w_19 f_19 pl_19 g _ _ _ ⟨by first | exact n_19 | exact up_s _ _ _, by first | exact e_19 | exact fun k hk => (LOK_none hL (show yy.toNat < dn by omega) n_19 k hk).symm, by first | exact b_19 | exact LOK_new D hL (show yy.toNat < dn by omega) n_19 _ _, hP, hD, hS, hl⟩
    ·
      exact x_vret hx hb hr hlocks hP hD hS (by decide) (by decide) ⟨g, pl, bd, rfl, rfl, LOK_congr hL (fun z hz k _ => stW_out (by omega) z hz k), by rw [totW_congr (Wd := Wd) (Wd2 := stW Wd sf yy) (fun z hz k _ => stW_out (by omega) z hz k)]; omega⟩ d_Sh_drawStripe_13

theorem d_Sh_draw_0 : decode b_Sh_draw 0 = .ok (.aload_n 0, 1) := by decide +kernel
theorem d_Sh_draw_1 : decode b_Sh_draw 1 = .ok (.getfield 44, 3) := by decide +kernel
theorem d_Sh_draw_4 : decode b_Sh_draw 4 = .ok (.invokevirtual 52, 3) := by decide +kernel
theorem d_Sh_draw_7 : decode b_Sh_draw 7 = .ok (.aload_n 1, 1) := by decide +kernel
theorem d_Sh_draw_8 : decode b_Sh_draw 8 = .ok (.aload_n 0, 1) := by decide +kernel
theorem d_Sh_draw_9 : decode b_Sh_draw 9 = .ok (.getfield 44, 3) := by decide +kernel
theorem d_Sh_draw_12 : decode b_Sh_draw 12 = .ok (.invokevirtual 66, 3) := by decide +kernel
theorem d_Sh_draw_15 : decode b_Sh_draw 15 = .ok (.iconst 0, 1) := by decide +kernel
theorem d_Sh_draw_16 : decode b_Sh_draw 16 = .ok (.istore_n 2, 1) := by decide +kernel
theorem d_Sh_draw_17 : decode b_Sh_draw 17 = .ok (.iload_n 2, 1) := by decide +kernel
theorem d_Sh_draw_18 : decode b_Sh_draw 18 = .ok (.aload_n 1, 1) := by decide +kernel
theorem d_Sh_draw_19 : decode b_Sh_draw 19 = .ok (.getfield 70, 3) := by decide +kernel
theorem d_Sh_draw_22 : decode b_Sh_draw 22 = .ok (.if_icmp .ge 19, 3) := by decide +kernel
theorem d_Sh_draw_25 : decode b_Sh_draw 25 = .ok (.aload_n 0, 1) := by decide +kernel
theorem d_Sh_draw_26 : decode b_Sh_draw 26 = .ok (.aload_n 1, 1) := by decide +kernel
theorem d_Sh_draw_27 : decode b_Sh_draw 27 = .ok (.invokevirtual 73, 3) := by decide +kernel
theorem d_Sh_draw_30 : decode b_Sh_draw 30 = .ok (.iload_n 2, 1) := by decide +kernel
theorem d_Sh_draw_31 : decode b_Sh_draw 31 = .ok (.iadd, 1) := by decide +kernel
theorem d_Sh_draw_32 : decode b_Sh_draw 32 = .ok (.invokevirtual 76, 3) := by decide +kernel
theorem d_Sh_draw_35 : decode b_Sh_draw 35 = .ok (.iinc 2 1, 3) := by decide +kernel
theorem d_Sh_draw_38 : decode b_Sh_draw 38 = .ok (.goto (-21), 3) := by decide +kernel
theorem d_Sh_draw_41 : decode b_Sh_draw 41 = .ok (.return_, 1) := by decide +kernel
theorem ds_Sh_draw : xDesc y_Sh_draw 1 := by decide +kernel

abbrev rm_Sh_draw : Room := { frames := 3, cells := 8, slots := 328, locals := 69 }
set_option maxHeartbeats 4000000 in
set_option maxRecDepth 100000 in
/-- Sheet.draw -/
theorem c_Sh_draw (l : Launch) (D : va_G) (cI cJ cQ : ClassId) (hs : Nat) (la : Nat) (st : Nat) (sw : Nat) (ac : Int) (dI : Int) (dn : Nat) (nw : Nat) (g : Nat → Option Nat) (sf : Nat → Int64) (kr : Int) (kb : Int) (ov : Int) (bd : Int) (pl : va_W) (Wd : Nat → Nat → Int64) (h : Nat) (a : Nat) (B : Nat → Int) (op : Int) (x : Int) (y : Int) (sc : Int) (wd : Int) (ht : Int) (ln : Int) (rw : Int) (hac : 1 ≤ ac ∧ ac ≤ 5100) (hdn : dI = (dn : Int) ∧ dn ≤ 5100) (hnw : (nw : Int) = (ac + 63) / 64) (hL : LOK cJ ac nw dn g pl Wd) (hln : 0 ≤ ln ∧ ln ≤ 640) (hB : ∀ j : Nat, 0 ≤ B j ∧ B j < 256) (hwd : 0 ≤ wd ∧ wd ≤ 5119) (hsc : 1 ≤ sc ∧ sc ≤ 4) (hxx : -10000 ≤ x ∧ x ≤ 10000) (hyy : -10000 ≤ y ∧ y ≤ 10000) (hrw : 0 ≤ rw ∧ rw ≤ 100000000) : xMet l D (xT cI cJ cQ) y_Sh_draw b_Sh_draw 3 none rm_Sh_draw [.ref hs, .ref h] ([(hs, .inr (3, [.int (iI ac), .int (iI dI), .ref la, .ref st, .int (iI kr), .int (iI kb), .int (iI ov), .int (iI bd)])), (la, .inl (cQ, dn, .inr (.inr (.inr (.inr g))))), (st, .inr (0, [.int (iI ac), .ref sw])), (sw, .inl (cJ, nw, .inr (.inl sf))), (h, .inr (2, [.ref a, .int (iI op), .int (iI x), .int (iI y), .int (iI sc), .int (iI wd), .int (iI ht), .int (iI ln), .int (iI rw)])), (a, .inl (cI, 640, .inl (iA B)))] ++ pl) (fun v ws => ∃ (sf2 : Nat → Int64) (g2 : Nat → Option Nat) (pl2 : va_W) (bd2 : Int), v = none ∧ ws = ([(hs, .inr (3, [.int (iI ac), .int (iI dI), .ref la, .ref st, .int (iI kr), .int (iI kb), .int (iI ov), .int (iI bd2)])), (la, .inl (cQ, dn, .inr (.inr (.inr (.inr g2))))), (st, .inr (0, [.int (iI ac), .ref sw])), (sw, .inl (cJ, nw, .inr (.inl sf2))), (h, .inr (2, [.ref a, .int (iI op), .int (iI x), .int (iI y), .int (iI sc), .int (iI wd), .int (iI ht), .int (iI ln), .int (iI rw)])), (a, .inl (cI, 640, .inl (iA B)))] ++ pl2) ∧ (∀ u : Nat, dt sf2 u = true ↔ drw B wd x sc ac (fun _ => 0) (8 * ln) u) ∧ (LOK cJ ac nw dn g2 pl2 (rowW Wd sf2 (y + sc * rw) sc)) ∧ (bd2 = bd + ((totW (rowW Wd sf2 (y + sc * rw) sc) nw dn : Nat) : Int) - ((totW (Wd) nw dn : Nat) : Int))) := by
  refine x_met (by decide) (Nat.le_of_ble_eq_true rfl) ?_
  intro p e s m below meth c hx hb hr hml hts hown hlocks hin hF0 A hA hP hD hK ls hl hS
  have hl : lv_has ls 3 [(0, .ref hs), (1, .ref h)] := hl
  refine lv_aload_n hx hb d_Sh_draw_0 rfl (lv_at hl 0 rfl) ?_
  refine va_get (D := D) (cl := xcl) (ci := 3) (v := .ref st) (C := R_Sh) (T := T_Sh) (N := 8) hx hb hts i_Sh hown hK hP 0 rfl rfl 3 (by decide) (hts _ kw_60) (fun _ h9 => h9) rfl d_Sh_draw_1 ?_
  refine x_aftQ (X := [(hs, .inr (3, [.int (iI ac), .int (iI dI), .ref la, .ref st, .int (iI kr), .int (iI kb), .int (iI ov), .int (iI bd)])), (la, .inl (cQ, dn, .inr (.inr (.inr (.inr g))))), (st, .inr (0, [.int (iI ac), .ref sw])), (sw, .inl (cJ, nw, .inr (.inl sf))), (h, .inr (2, [.ref a, .int (iI op), .int (iI x), .int (iI y), .int (iI sc), .int (iI wd), .int (iI ht), .int (iI ln), .int (iI rw)])), (a, .inl (cI, 640, .inl (iA B)))]) (pl := pl) (x_runV (C := "RasterRows$Line") (As := []) (rest := []) (ci := 0) (q0 := 0) hx hb hml hown hts (c_Ln_whiten l D cI cJ cQ st ac sw nw sf (by omega)) kw_228 kw_229 kw_230 kw_4 kw_231 ds_Ln_whiten (by decide) hK (hP.sub (ws' := [(st, .inr (0, [.int (iI ac), .ref sw])), (sw, .inl (cJ, nw, .inr (.inl sf)))]) [2, 3] rfl) (hD.sub (ws' := [(st, .inr (0, [.int (iI ac), .ref sw])), (sw, .inl (cJ, nw, .inr (.inl sf)))]) [2, 3] (by decide) rfl) rfl rfl rfl hl.1 rfl (Nat.le_of_ble_eq_true rfl) d_Sh_draw_4) hP hD hS hA [2, 3] [0, 1, 4, 5] rfl rfl (wr := [(hs, .inr (3, [.int (iI ac), .int (iI dI), .ref la, .ref st, .int (iI kr), .int (iI kb), .int (iI ov), .int (iI bd)])), (la, .inl (cQ, dn, .inr (.inr (.inr (.inr g))))), (h, .inr (2, [.ref a, .int (iI op), .int (iI x), .int (iI y), .int (iI sc), .int (iI wd), .int (iI ht), .int (iI ln), .int (iI rw)])), (a, .inl (cI, 640, .inl (iA B)))]) rfl (by decide) (by decide) (fun v w1 H locs hq hP hD hS => ?_)
  obtain ⟨rfl, rfl⟩ := hq
  refine W.cs (cells' := 0) (slots' := 0) rfl rfl ?_
  refine W.eq (g2 := F0 m 7 ls []) rfl ?_
  have hP : va_P D xcl ([(hs, .inr (3, [.int (iI ac), .int (iI dI), .ref la, .ref st, .int (iI kr), .int (iI kb), .int (iI ov), .int (iI bd)])), (la, .inl (cQ, dn, .inr (.inr (.inr (.inr g))))), (h, .inr (2, [.ref a, .int (iI op), .int (iI x), .int (iI y), .int (iI sc), .int (iI wd), .int (iI ht), .int (iI ln), .int (iI rw)])), (a, .inl (cI, 640, .inl (iA B))), (st, .inr (0, [.int (iI ac), .ref sw])), (sw, .inl (cJ, nw, .inr (.inl (fun _ => 0))))] ++ pl) _ := hP
  have hD : va_D A ([(hs, .inr (3, [.int (iI ac), .int (iI dI), .ref la, .ref st, .int (iI kr), .int (iI kb), .int (iI ov), .int (iI bd)])), (la, .inl (cQ, dn, .inr (.inr (.inr (.inr g))))), (h, .inr (2, [.ref a, .int (iI op), .int (iI x), .int (iI y), .int (iI sc), .int (iI wd), .int (iI ht), .int (iI ln), .int (iI rw)])), (a, .inl (cI, 640, .inl (iA B))), (st, .inr (0, [.int (iI ac), .ref sw])), (sw, .inl (cJ, nw, .inr (.inl (fun _ => 0))))] ++ pl) := hD
  refine lv_aload_n hx hb d_Sh_draw_7 rfl (lv_at hl 1 rfl) ?_
  refine lv_aload_n hx hb d_Sh_draw_8 rfl (lv_at hl 0 rfl) ?_
  refine va_get (D := D) (cl := xcl) (ci := 3) (v := .ref st) (C := R_Sh) (T := T_Sh) (N := 8) hx hb hts i_Sh hown hK hP 0 rfl rfl 3 (by decide) (hts _ kw_60) (fun _ h9 => h9) rfl d_Sh_draw_9 ?_
  refine x_aftQ (X := [(hs, .inr (3, [.int (iI ac), .int (iI dI), .ref la, .ref st, .int (iI kr), .int (iI kb), .int (iI ov), .int (iI bd)])), (la, .inl (cQ, dn, .inr (.inr (.inr (.inr g))))), (h, .inr (2, [.ref a, .int (iI op), .int (iI x), .int (iI y), .int (iI sc), .int (iI wd), .int (iI ht), .int (iI ln), .int (iI rw)])), (a, .inl (cI, 640, .inl (iA B))), (st, .inr (0, [.int (iI ac), .ref sw])), (sw, .inl (cJ, nw, .inr (.inl (fun _ => 0))))]) (pl := pl) (x_runV (C := "RasterRows$Raster") (As := [.ref st]) (rest := []) (ci := 2) (q0 := 0) hx hb hml hown hts (c_Ra_drawOn l D cI cJ cQ h a B op x y sc wd ht ln rw st ac sw nw (fun _ => 0) (hln) (hB) (hwd) (hsc) (hxx) (hac.1) (hac.2) (hnw)) kw_395 kw_396 kw_397 kw_5 kw_398 ds_Ra_drawOn (by decide) hK (hP.sub (ws' := [(h, .inr (2, [.ref a, .int (iI op), .int (iI x), .int (iI y), .int (iI sc), .int (iI wd), .int (iI ht), .int (iI ln), .int (iI rw)])), (a, .inl (cI, 640, .inl (iA B))), (st, .inr (0, [.int (iI ac), .ref sw])), (sw, .inl (cJ, nw, .inr (.inl (fun _ => 0))))]) [2, 3, 4, 5] rfl) (hD.sub (ws' := [(h, .inr (2, [.ref a, .int (iI op), .int (iI x), .int (iI y), .int (iI sc), .int (iI wd), .int (iI ht), .int (iI ln), .int (iI rw)])), (a, .inl (cI, 640, .inl (iA B))), (st, .inr (0, [.int (iI ac), .ref sw])), (sw, .inl (cJ, nw, .inr (.inl (fun _ => 0))))]) [2, 3, 4, 5] (by decide) rfl) rfl rfl rfl hl.1 rfl (Nat.le_of_ble_eq_true rfl) d_Sh_draw_12) hP hD hS hA [2, 3, 4, 5] [0, 1] rfl rfl (wr := [(hs, .inr (3, [.int (iI ac), .int (iI dI), .ref la, .ref st, .int (iI kr), .int (iI kb), .int (iI ov), .int (iI bd)])), (la, .inl (cQ, dn, .inr (.inr (.inr (.inr g)))))]) rfl (by decide) (by decide) (fun v w1 H locs hq hP hD hS => ?_)
  obtain ⟨f2_12, rfl, rfl, hf_12⟩ := hq
  refine W.cs (cells' := 0) (slots' := 0) rfl rfl ?_
  refine W.eq (g2 := F0 m 15 ls []) rfl ?_
  have hP : va_P D xcl ([(hs, .inr (3, [.int (iI ac), .int (iI dI), .ref la, .ref st, .int (iI kr), .int (iI kb), .int (iI ov), .int (iI bd)])), (la, .inl (cQ, dn, .inr (.inr (.inr (.inr g))))), (h, .inr (2, [.ref a, .int (iI op), .int (iI x), .int (iI y), .int (iI sc), .int (iI wd), .int (iI ht), .int (iI ln), .int (iI rw)])), (a, .inl (cI, 640, .inl (iA B))), (st, .inr (0, [.int (iI ac), .ref sw])), (sw, .inl (cJ, nw, .inr (.inl f2_12)))] ++ pl) _ := hP
  have hD : va_D A ([(hs, .inr (3, [.int (iI ac), .int (iI dI), .ref la, .ref st, .int (iI kr), .int (iI kb), .int (iI ov), .int (iI bd)])), (la, .inl (cQ, dn, .inr (.inr (.inr (.inr g))))), (h, .inr (2, [.ref a, .int (iI op), .int (iI x), .int (iI y), .int (iI sc), .int (iI wd), .int (iI ht), .int (iI ln), .int (iI rw)])), (a, .inl (cI, 640, .inl (iA B))), (st, .inr (0, [.int (iI ac), .ref sw])), (sw, .inl (cJ, nw, .inr (.inl f2_12)))] ++ pl) := hD
  refine xi_iconst hx hb d_Sh_draw_15 ?_
  refine lv_istore_n (lv' := [(2, .int (iI 0)), (0, .ref hs), (1, .ref h)]) hx hb d_Sh_draw_16 rfl hl (by decide) rfl (fun ls hl => ?_)
  refine W.cs (cells' := 2 * (0 : Int).toNat) (slots' := 82 * (0 : Int).toNat) rfl rfl ?_
  refine x_loopc4 (fun (i : Int) (g1 : Nat → Option Nat) (pl1 : va_W) (bd1 : Int) => 2 * i.toNat) (fun (i : Int) (g1 : Nat → Option Nat) (pl1 : va_W) (bd1 : Int) => 82 * i.toNat) (fun (i : Int) (g1 : Nat → Option Nat) (pl1 : va_W) (bd1 : Int) H locs ls => (0 ≤ i ∧ i ≤ sc) ∧ (LOK cJ ac nw dn g1 pl1 (rowW Wd f2_12 (y + sc * rw) i)) ∧ (bd1 = bd + ((totW (rowW Wd f2_12 (y + sc * rw) i) nw dn : Nat) : Int) - ((totW (Wd) nw dn : Nat) : Int)) ∧ va_P D xcl ([(hs, .inr (3, [.int (iI ac), .int (iI dI), .ref la, .ref st, .int (iI kr), .int (iI kb), .int (iI ov), .int (iI bd1)])), (la, .inl (cQ, dn, .inr (.inr (.inr (.inr g1))))), (st, .inr (0, [.int (iI ac), .ref sw])), (sw, .inl (cJ, nw, .inr (.inl f2_12))), (h, .inr (2, [.ref a, .int (iI op), .int (iI x), .int (iI y), .int (iI sc), .int (iI wd), .int (iI ht), .int (iI ln), .int (iI rw)])), (a, .inl (cI, 640, .inl (iA B)))] ++ pl1) H ∧ va_D A ([(hs, .inr (3, [.int (iI ac), .int (iI dI), .ref la, .ref st, .int (iI kr), .int (iI kb), .int (iI ov), .int (iI bd1)])), (la, .inl (cQ, dn, .inr (.inr (.inr (.inr g1))))), (st, .inr (0, [.int (iI ac), .ref sw])), (sw, .inl (cJ, nw, .inr (.inl f2_12))), (h, .inr (2, [.ref a, .int (iI op), .int (iI x), .int (iI y), .int (iI sc), .int (iI wd), .int (iI ht), .int (iI ln), .int (iI rw)])), (a, .inl (cI, 640, .inl (iA B)))] ++ pl1) ∧ va_S A s.heap H locs ∧ lv_has ls 3 [(2, .int (iI i)), (0, .ref hs), (1, .ref h)]) (fun (i : Int) (g1 : Nat → Option Nat) (pl1 : va_W) (bd1 : Int) => (sc - i).toNat) 0 g pl bd ⟨by omega, by rw [rowW_0]; exact hL, by rw [rowW_0]; omega, (hP.part (cx := [(hs, .inr (3, [.int (iI ac), .int (iI dI), .ref la, .ref st, .int (iI kr), .int (iI kb), .int (iI ov), .int (iI bd)])), (la, .inl (cQ, dn, .inr (.inr (.inr (.inr g))))), (st, .inr (0, [.int (iI ac), .ref sw])), (sw, .inl (cJ, nw, .inr (.inl f2_12))), (h, .inr (2, [.ref a, .int (iI op), .int (iI x), .int (iI y), .int (iI sc), .int (iI wd), .int (iI ht), .int (iI ln), .int (iI rw)])), (a, .inl (cI, 640, .inl (iA B)))]) [0, 1, 4, 5, 2, 3] rfl), (hD.part (cx := [(hs, .inr (3, [.int (iI ac), .int (iI dI), .ref la, .ref st, .int (iI kr), .int (iI kb), .int (iI ov), .int (iI bd)])), (la, .inl (cQ, dn, .inr (.inr (.inr (.inr g))))), (st, .inr (0, [.int (iI ac), .ref sw])), (sw, .inl (cJ, nw, .inr (.inl f2_12))), (h, .inr (2, [.ref a, .int (iI op), .int (iI x), .int (iI y), .int (iI sc), .int (iI wd), .int (iI ht), .int (iI ln), .int (iI rw)])), (a, .inl (cI, 640, .inl (iA B)))]) [0, 1, 4, 5, 2, 3] (by decide) rfl), hS, hl⟩ ?_
  intro i g1 pl1 bd1 H locs ls hI ih_17
  obtain ⟨k1, k2, k3, hP, hD, hS, hl⟩ := hI
  refine lv_iload_n hx hb d_Sh_draw_17 rfl (lv_at hl 0 rfl) ?_
  refine lv_aload_n hx hb d_Sh_draw_18 rfl (lv_at hl 2 rfl) ?_
  refine va_get (D := D) (cl := xcl) (ci := 2) (v := .int (iI sc)) (C := R_Ra) (T := T_Ra) (N := 9) hx hb hts i_Ra hown hK hP 4 rfl rfl 4 (by decide) (hts _ kw_99) (fun _ h9 => h9) rfl d_Sh_draw_19 ?_
  refine xi_icmp_ge (tgt := 41) hx hb d_Sh_draw_22 (by decide) ⟨by omega, by omega⟩ ⟨by omega, by omega⟩ (fun c_22 => ?_) (fun c_22 => ?_)
  ·
    exact x_vret hx hb hr hlocks hP hD hS (by show 2 * i.toNat ≤ 8; omega) (by show 82 * i.toNat ≤ 328; omega) ⟨f2_12, g1, pl1, bd1, rfl, rfl, hf_12, (show i = sc by omega) ▸ k2, (show i = sc by omega) ▸ k3⟩ d_Sh_draw_41
  ·
    refine lv_aload_n hx hb d_Sh_draw_25 rfl (lv_at hl 1 rfl) ?_
    refine lv_aload_n hx hb d_Sh_draw_26 rfl (lv_at hl 2 rfl) ?_
    refine x_aftQ (X := [(hs, .inr (3, [.int (iI ac), .int (iI dI), .ref la, .ref st, .int (iI kr), .int (iI kb), .int (iI ov), .int (iI bd1)])), (la, .inl (cQ, dn, .inr (.inr (.inr (.inr g1))))), (st, .inr (0, [.int (iI ac), .ref sw])), (sw, .inl (cJ, nw, .inr (.inl f2_12))), (h, .inr (2, [.ref a, .int (iI op), .int (iI x), .int (iI y), .int (iI sc), .int (iI wd), .int (iI ht), .int (iI ln), .int (iI rw)])), (a, .inl (cI, 640, .inl (iA B)))]) (pl := pl1) (x_runV (C := "RasterRows$Raster") (As := []) (rest := [.ref hs]) (ci := 2) (q0 := 0) hx hb hml hown hts (c_Ra_top l D cI cJ cQ h a B op x y sc wd ht ln rw ) kw_407 kw_408 kw_409 kw_5 kw_410 ds_Ra_top ⟨⟨by decide, by decide⟩, by dsimp only; omega, by dsimp only; omega⟩ hK (hP.sub (ws' := [(h, .inr (2, [.ref a, .int (iI op), .int (iI x), .int (iI y), .int (iI sc), .int (iI wd), .int (iI ht), .int (iI ln), .int (iI rw)])), (a, .inl (cI, 640, .inl (iA B)))]) [4, 5] rfl) (hD.sub (ws' := [(h, .inr (2, [.ref a, .int (iI op), .int (iI x), .int (iI y), .int (iI sc), .int (iI wd), .int (iI ht), .int (iI ln), .int (iI rw)])), (a, .inl (cI, 640, .inl (iA B)))]) [4, 5] (by decide) rfl) rfl rfl rfl hl.1 rfl (Nat.le_of_ble_eq_true rfl) d_Sh_draw_27) hP hD hS hA [4, 5] [0, 1, 2, 3] rfl rfl (wr := [(hs, .inr (3, [.int (iI ac), .int (iI dI), .ref la, .ref st, .int (iI kr), .int (iI kb), .int (iI ov), .int (iI bd1)])), (la, .inl (cQ, dn, .inr (.inr (.inr (.inr g1))))), (st, .inr (0, [.int (iI ac), .ref sw])), (sw, .inl (cJ, nw, .inr (.inl f2_12)))]) rfl (by decide) (by decide) (fun v w1 H locs hq hP hD hS => ?_)
    obtain ⟨rfl, rfl⟩ := hq
    refine W.cs (cells' := (2 * i.toNat)) (slots' := (82 * i.toNat)) rfl rfl ?_
    refine W.eq (g2 := F0 m 30 ls [.int (iI (y + sc * rw)), .ref hs]) rfl ?_
    have hP : va_P D xcl ([(hs, .inr (3, [.int (iI ac), .int (iI dI), .ref la, .ref st, .int (iI kr), .int (iI kb), .int (iI ov), .int (iI bd1)])), (la, .inl (cQ, dn, .inr (.inr (.inr (.inr g1))))), (st, .inr (0, [.int (iI ac), .ref sw])), (sw, .inl (cJ, nw, .inr (.inl f2_12))), (h, .inr (2, [.ref a, .int (iI op), .int (iI x), .int (iI y), .int (iI sc), .int (iI wd), .int (iI ht), .int (iI ln), .int (iI rw)])), (a, .inl (cI, 640, .inl (iA B)))] ++ pl1) _ := hP
    have hD : va_D A ([(hs, .inr (3, [.int (iI ac), .int (iI dI), .ref la, .ref st, .int (iI kr), .int (iI kb), .int (iI ov), .int (iI bd1)])), (la, .inl (cQ, dn, .inr (.inr (.inr (.inr g1))))), (st, .inr (0, [.int (iI ac), .ref sw])), (sw, .inl (cJ, nw, .inr (.inl f2_12))), (h, .inr (2, [.ref a, .int (iI op), .int (iI x), .int (iI y), .int (iI sc), .int (iI wd), .int (iI ht), .int (iI ln), .int (iI rw)])), (a, .inl (cI, 640, .inl (iA B)))] ++ pl1) := hD
    refine lv_iload_n hx hb d_Sh_draw_30 rfl (lv_at hl 0 rfl) ?_
    refine xi_iadd hx hb d_Sh_draw_31 ?_
    have m32 := mulB (a := sc) (b := rw) (A := 4) (B := 100000000) (by omega) (by omega) (by omega) (by omega)
    refine x_aftP (X := [(hs, .inr (3, [.int (iI ac), .int (iI dI), .ref la, .ref st, .int (iI kr), .int (iI kb), .int (iI ov), .int (iI bd1)])), (la, .inl (cQ, dn, .inr (.inr (.inr (.inr g1))))), (st, .inr (0, [.int (iI ac), .ref sw])), (sw, .inl (cJ, nw, .inr (.inl f2_12))), (h, .inr (2, [.ref a, .int (iI op), .int (iI x), .int (iI y), .int (iI sc), .int (iI wd), .int (iI ht), .int (iI ln), .int (iI rw)])), (a, .inl (cI, 640, .inl (iA B)))]) (pl := pl1) (cx := [(hs, .inr (3, [.int (iI ac), .int (iI dI), .ref la, .ref st, .int (iI kr), .int (iI kb), .int (iI ov), .int (iI bd1)])), (la, .inl (cQ, dn, .inr (.inr (.inr (.inr g1))))), (st, .inr (0, [.int (iI ac), .ref sw])), (sw, .inl (cJ, nw, .inr (.inl f2_12)))]) (x_runV (C := "RasterRows$Sheet") (As := [.int (iI ((y + sc * rw) + i))]) (rest := []) (ci := 3) (q0 := 0) hx hb hml hown hts (c_Sh_drawStripe l D cI cJ cQ hs la st sw ac dI dn nw g1 f2_12 kr kb ov bd1 pl1 (rowW Wd f2_12 (y + sc * rw) i) ((y + sc * rw) + i) (hac) (hdn) (hnw) (k2) (⟨by omega, by omega⟩)) kw_411 kw_413 kp_7 kw_2 kw_414 ds_Sh_drawStripe ⟨⟨by decide, by decide⟩, by show 2 * i.toNat + 2 ≤ 8; omega, by show 82 * i.toNat + 82 ≤ 328; omega⟩ hK (hP.part (cx := [(hs, .inr (3, [.int (iI ac), .int (iI dI), .ref la, .ref st, .int (iI kr), .int (iI kb), .int (iI ov), .int (iI bd1)])), (la, .inl (cQ, dn, .inr (.inr (.inr (.inr g1))))), (st, .inr (0, [.int (iI ac), .ref sw])), (sw, .inl (cJ, nw, .inr (.inl f2_12)))]) [0, 1, 2, 3] rfl) (hD.part (cx := [(hs, .inr (3, [.int (iI ac), .int (iI dI), .ref la, .ref st, .int (iI kr), .int (iI kb), .int (iI ov), .int (iI bd1)])), (la, .inl (cQ, dn, .inr (.inr (.inr (.inr g1))))), (st, .inr (0, [.int (iI ac), .ref sw])), (sw, .inl (cJ, nw, .inr (.inl f2_12)))]) [0, 1, 2, 3] (by decide) rfl) rfl rfl rfl hl.1 rfl (Nat.le_of_ble_eq_true rfl) d_Sh_draw_32) hP hD hS hA [0, 1, 2, 3] [4, 5] rfl (wr := [(h, .inr (2, [.ref a, .int (iI op), .int (iI x), .int (iI y), .int (iI sc), .int (iI wd), .int (iI ht), .int (iI ln), .int (iI rw)])), (a, .inl (cI, 640, .inl (iA B)))]) rfl (by decide) (by decide) (fun v w1 H locs hq hPD hS => ?_)
    obtain ⟨g2_32, pl2_32, bd2_32, rfl, hw1, hL2_32, hbd_32⟩ := hq
    obtain ⟨hP, hD⟩ := hPD [(hs, .inr (3, [.int (iI ac), .int (iI dI), .ref la, .ref st, .int (iI kr), .int (iI kb), .int (iI ov), .int (iI bd2_32)])), (la, .inl (cQ, dn, .inr (.inr (.inr (.inr g2_32))))), (st, .inr (0, [.int (iI ac), .ref sw])), (sw, .inl (cJ, nw, .inr (.inl f2_12)))] pl2_32 hw1
    refine W.cs (cells' := (2 * i.toNat) + 2) (slots' := (82 * i.toNat) + 82) rfl rfl ?_
    refine W.eq (g2 := F0 m 35 ls []) rfl ?_
    have hP : va_P D xcl ([(h, .inr (2, [.ref a, .int (iI op), .int (iI x), .int (iI y), .int (iI sc), .int (iI wd), .int (iI ht), .int (iI ln), .int (iI rw)])), (a, .inl (cI, 640, .inl (iA B))), (hs, .inr (3, [.int (iI ac), .int (iI dI), .ref la, .ref st, .int (iI kr), .int (iI kb), .int (iI ov), .int (iI bd2_32)])), (la, .inl (cQ, dn, .inr (.inr (.inr (.inr g2_32))))), (st, .inr (0, [.int (iI ac), .ref sw])), (sw, .inl (cJ, nw, .inr (.inl f2_12)))] ++ pl2_32) _ := hP
    have hD : va_D A ([(h, .inr (2, [.ref a, .int (iI op), .int (iI x), .int (iI y), .int (iI sc), .int (iI wd), .int (iI ht), .int (iI ln), .int (iI rw)])), (a, .inl (cI, 640, .inl (iA B))), (hs, .inr (3, [.int (iI ac), .int (iI dI), .ref la, .ref st, .int (iI kr), .int (iI kb), .int (iI ov), .int (iI bd2_32)])), (la, .inl (cQ, dn, .inr (.inr (.inr (.inr g2_32))))), (st, .inr (0, [.int (iI ac), .ref sw])), (sw, .inl (cJ, nw, .inr (.inl f2_12)))] ++ pl2_32) := hD
    refine xi_iinc (lv' := [(2, .int (iI (i + 1))), (0, .ref hs), (1, .ref h)]) hx hb d_Sh_draw_35 hl (k := 0) rfl (by decide) rfl (fun ls hl => ?_)
    refine lv_goto (tgt := 17) hx hb d_Sh_draw_38 (by decide) ?_
    refine W.widen (k := 2 * (i + 1).toNat) (n := 82 * (i + 1).toNat) (by omega) (by omega) ?_
    exact ih_17 (i + 1) g2_32 pl2_32 bd2_32 _ _ _ (by omega) ⟨by omega, by rw [← rowW_step _ _ _ k1.1]; exact hL2_32, by rw [← rowW_step _ _ _ k1.1]; omega, (hP.part (cx := [(hs, .inr (3, [.int (iI ac), .int (iI dI), .ref la, .ref st, .int (iI kr), .int (iI kb), .int (iI ov), .int (iI bd2_32)])), (la, .inl (cQ, dn, .inr (.inr (.inr (.inr g2_32))))), (st, .inr (0, [.int (iI ac), .ref sw])), (sw, .inl (cJ, nw, .inr (.inl f2_12))), (h, .inr (2, [.ref a, .int (iI op), .int (iI x), .int (iI y), .int (iI sc), .int (iI wd), .int (iI ht), .int (iI ln), .int (iI rw)])), (a, .inl (cI, 640, .inl (iA B)))]) [2, 3, 4, 5, 0, 1] rfl), (hD.part (cx := [(hs, .inr (3, [.int (iI ac), .int (iI dI), .ref la, .ref st, .int (iI kr), .int (iI kb), .int (iI ov), .int (iI bd2_32)])), (la, .inl (cQ, dn, .inr (.inr (.inr (.inr g2_32))))), (st, .inr (0, [.int (iI ac), .ref sw])), (sw, .inl (cJ, nw, .inr (.inl f2_12))), (h, .inr (2, [.ref a, .int (iI op), .int (iI x), .int (iI y), .int (iI sc), .int (iI wd), .int (iI ht), .int (iI ln), .int (iI rw)])), (a, .inl (cI, 640, .inl (iA B)))]) [2, 3, 4, 5, 0, 1] (by decide) rfl), hS, hl⟩

theorem d_Sh_take_0 : decode b_Sh_take 0 = .ok (.aload_n 1, 1) := by decide +kernel
theorem d_Sh_take_1 : decode b_Sh_take 1 = .ok (.invokevirtual 55, 3) := by decide +kernel
theorem d_Sh_take_4 : decode b_Sh_take 4 = .ok (.istore_n 2, 1) := by decide +kernel
theorem d_Sh_take_5 : decode b_Sh_take 5 = .ok (.iload_n 2, 1) := by decide +kernel
theorem d_Sh_take_6 : decode b_Sh_take 6 = .ok (.ifCond .ne 4, 3) := by decide +kernel
theorem d_Sh_take_9 : decode b_Sh_take 9 = .ok (.return_, 1) := by decide +kernel
theorem d_Sh_take_10 : decode b_Sh_take 10 = .ok (.aload_n 0, 1) := by decide +kernel
theorem d_Sh_take_11 : decode b_Sh_take 11 = .ok (.getfield 9, 3) := by decide +kernel
theorem d_Sh_take_14 : decode b_Sh_take 14 = .ok (.sipush 4096, 3) := by decide +kernel
theorem d_Sh_take_17 : decode b_Sh_take 17 = .ok (.if_icmp .ge 14, 3) := by decide +kernel
theorem d_Sh_take_20 : decode b_Sh_take 20 = .ok (.iload_n 2, 1) := by decide +kernel
theorem d_Sh_take_21 : decode b_Sh_take 21 = .ok (.ldc 61, 2) := by decide +kernel
theorem d_Sh_take_23 : decode b_Sh_take 23 = .ok (.aload_n 0, 1) := by decide +kernel
theorem d_Sh_take_24 : decode b_Sh_take 24 = .ok (.getfield 15, 3) := by decide +kernel
theorem d_Sh_take_27 : decode b_Sh_take 27 = .ok (.isub, 1) := by decide +kernel
theorem d_Sh_take_28 : decode b_Sh_take 28 = .ok (.if_icmp .le 9, 3) := by decide +kernel
theorem d_Sh_take_31 : decode b_Sh_take 31 = .ok (.aload_n 0, 1) := by decide +kernel
theorem d_Sh_take_32 : decode b_Sh_take 32 = .ok (.iconst 1, 1) := by decide +kernel
theorem d_Sh_take_33 : decode b_Sh_take 33 = .ok (.putfield 18, 3) := by decide +kernel
theorem d_Sh_take_36 : decode b_Sh_take 36 = .ok (.return_, 1) := by decide +kernel
theorem d_Sh_take_37 : decode b_Sh_take 37 = .ok (.aload_n 0, 1) := by decide +kernel
theorem d_Sh_take_38 : decode b_Sh_take 38 = .ok (.dup, 1) := by decide +kernel
theorem d_Sh_take_39 : decode b_Sh_take 39 = .ok (.getfield 9, 3) := by decide +kernel
theorem d_Sh_take_42 : decode b_Sh_take 42 = .ok (.iconst 1, 1) := by decide +kernel
theorem d_Sh_take_43 : decode b_Sh_take 43 = .ok (.iadd, 1) := by decide +kernel
theorem d_Sh_take_44 : decode b_Sh_take 44 = .ok (.putfield 9, 3) := by decide +kernel
theorem d_Sh_take_47 : decode b_Sh_take 47 = .ok (.aload_n 0, 1) := by decide +kernel
theorem d_Sh_take_48 : decode b_Sh_take 48 = .ok (.dup, 1) := by decide +kernel
theorem d_Sh_take_49 : decode b_Sh_take 49 = .ok (.getfield 15, 3) := by decide +kernel
theorem d_Sh_take_52 : decode b_Sh_take 52 = .ok (.iload_n 2, 1) := by decide +kernel
theorem d_Sh_take_53 : decode b_Sh_take 53 = .ok (.iadd, 1) := by decide +kernel
theorem d_Sh_take_54 : decode b_Sh_take 54 = .ok (.putfield 15, 3) := by decide +kernel
theorem d_Sh_take_57 : decode b_Sh_take 57 = .ok (.aload_n 0, 1) := by decide +kernel
theorem d_Sh_take_58 : decode b_Sh_take 58 = .ok (.aload_n 1, 1) := by decide +kernel
theorem d_Sh_take_59 : decode b_Sh_take 59 = .ok (.invokevirtual 62, 3) := by decide +kernel
theorem d_Sh_take_62 : decode b_Sh_take 62 = .ok (.return_, 1) := by decide +kernel
theorem ds_Sh_take : xDesc y_Sh_take 1 := by decide +kernel

abbrev rm_Sh_take : Room := { frames := 4, cells := 8, slots := 328, locals := 91 }
set_option maxHeartbeats 4000000 in
set_option maxRecDepth 100000 in
/-- Sheet.take -/
theorem c_Sh_take (l : Launch) (D : va_G) (cI cJ cQ : ClassId) (hs : Nat) (la : Nat) (st : Nat) (sw : Nat) (ac : Int) (dI : Int) (dn : Nat) (nw : Nat) (g : Nat → Option Nat) (sf : Nat → Int64) (kr : Int) (kb : Int) (ov : Int) (bd : Int) (pl : va_W) (Wd : Nat → Nat → Int64) (h : Nat) (a : Nat) (B : Nat → Int) (op : Int) (x : Int) (y : Int) (sc : Int) (wd : Int) (ht : Int) (ln : Int) (rw : Int) (hac : 1 ≤ ac ∧ ac ≤ 5100) (hdn : dI = (dn : Int) ∧ dn ≤ 5100) (hnw : (nw : Int) = (ac + 63) / 64) (hL : LOK cJ ac nw dn g pl Wd) (hln : 0 ≤ ln ∧ ln ≤ 640) (hB : ∀ j : Nat, 0 ≤ B j ∧ B j < 256) (hwd : 0 ≤ wd ∧ wd ≤ 5119) (hsc : 1 ≤ sc ∧ sc ≤ 4) (hxx : -10000 ≤ x ∧ x ≤ 10000) (hyy : -10000 ≤ y ∧ y ≤ 10000) (hrw : 0 ≤ rw ∧ rw ≤ 100000000) (hkr : 0 ≤ kr ∧ kr ≤ 4096) (hkb : 0 ≤ kb ∧ kb ≤ 65536) : xMet l D (xT cI cJ cQ) y_Sh_take b_Sh_take 3 none rm_Sh_take [.ref hs, .ref h] ([(hs, .inr (3, [.int (iI ac), .int (iI dI), .ref la, .ref st, .int (iI kr), .int (iI kb), .int (iI ov), .int (iI bd)])), (la, .inl (cQ, dn, .inr (.inr (.inr (.inr g))))), (st, .inr (0, [.int (iI ac), .ref sw])), (sw, .inl (cJ, nw, .inr (.inl sf))), (h, .inr (2, [.ref a, .int (iI op), .int (iI x), .int (iI y), .int (iI sc), .int (iI wd), .int (iI ht), .int (iI ln), .int (iI rw)])), (a, .inl (cI, 640, .inl (iA B)))] ++ pl) (fun v ws => ∃ (sf2 : Nat → Int64) (g2 : Nat → Option Nat) (pl2 : va_W) (bd2 : Int) (kr2 : Int) (kb2 : Int) (ov2 : Int) (u : Int) (Wd2 : Nat → Nat → Int64), v = none ∧ ws = ([(hs, .inr (3, [.int (iI ac), .int (iI dI), .ref la, .ref st, .int (iI kr2), .int (iI kb2), .int (iI ov2), .int (iI bd2)])), (la, .inl (cQ, dn, .inr (.inr (.inr (.inr g2))))), (st, .inr (0, [.int (iI ac), .ref sw])), (sw, .inl (cJ, nw, .inr (.inl sf2))), (h, .inr (2, [.ref a, .int (iI op), .int (iI x), .int (iI y), .int (iI sc), .int (iI wd), .int (iI ht), .int (iI ln), .int (iI rw)])), (a, .inl (cI, 640, .inl (iA B)))] ++ pl2) ∧ (0 ≤ u ∧ u ≤ ln) ∧ (∀ k : Nat, 8 * u ≤ (k : Int) → (k : Int) < 8 * ln → vis B wd k = false) ∧ (0 < u → ∃ k : Nat, 8 * (u - 1) ≤ (k : Int) ∧ (k : Int) < 8 * u ∧ vis B wd k = true) ∧ (LOK cJ ac nw dn g2 pl2 Wd2) ∧ ((u = 0 ∧ kr2 = kr ∧ kb2 = kb ∧ ov2 = ov ∧ bd2 = bd ∧ Wd2 = Wd) ∨ (0 < u ∧ (4096 ≤ kr ∨ 65536 - kb < u) ∧ kr2 = kr ∧ kb2 = kb ∧ ov2 = 1 ∧ bd2 = bd ∧ Wd2 = Wd) ∨ (0 < u ∧ kr < 4096 ∧ u ≤ 65536 - kb ∧ kr2 = kr + 1 ∧ kb2 = kb + u ∧ ov2 = ov ∧ Wd2 = rowW Wd sf2 (y + sc * rw) sc ∧ (∀ u : Nat, dt sf2 u = true ↔ drw B wd x sc ac (fun _ => 0) (8 * ln) u) ∧ bd2 = bd + ((totW (Wd2) nw dn : Nat) : Int) - ((totW (Wd) nw dn : Nat) : Int)))) := by
  refine x_met (by decide) (Nat.le_of_ble_eq_true rfl) ?_
  intro p e s m below meth c hx hb hr hml hts hown hlocks hin hF0 A hA hP hD hK ls hl hS
  have hl : lv_has ls 3 [(0, .ref hs), (1, .ref h)] := hl
  refine lv_aload_n hx hb d_Sh_take_0 rfl (lv_at hl 1 rfl) ?_
  refine x_aftQ (X := [(hs, .inr (3, [.int (iI ac), .int (iI dI), .ref la, .ref st, .int (iI kr), .int (iI kb), .int (iI ov), .int (iI bd)])), (la, .inl (cQ, dn, .inr (.inr (.inr (.inr g))))), (st, .inr (0, [.int (iI ac), .ref sw])), (sw, .inl (cJ, nw, .inr (.inl sf))), (h, .inr (2, [.ref a, .int (iI op), .int (iI x), .int (iI y), .int (iI sc), .int (iI wd), .int (iI ht), .int (iI ln), .int (iI rw)])), (a, .inl (cI, 640, .inl (iA B)))]) (pl := pl) (x_runV (C := "RasterRows$Raster") (As := []) (rest := []) (ci := 2) (q0 := 0) hx hb hml hown hts (c_Ra_usedBytes l D cI cJ cQ h a B op x y sc wd ht ln rw (hln) (hB) (hwd)) kw_382 kw_383 kw_384 kw_5 kw_385 ds_Ra_usedBytes (by decide) hK (hP.sub (ws' := [(h, .inr (2, [.ref a, .int (iI op), .int (iI x), .int (iI y), .int (iI sc), .int (iI wd), .int (iI ht), .int (iI ln), .int (iI rw)])), (a, .inl (cI, 640, .inl (iA B)))]) [4, 5] rfl) (hD.sub (ws' := [(h, .inr (2, [.ref a, .int (iI op), .int (iI x), .int (iI y), .int (iI sc), .int (iI wd), .int (iI ht), .int (iI ln), .int (iI rw)])), (a, .inl (cI, 640, .inl (iA B)))]) [4, 5] (by decide) rfl) rfl rfl rfl hl.1 rfl (Nat.le_of_ble_eq_true rfl) d_Sh_take_1) hP hD hS hA [4, 5] [0, 1, 2, 3] rfl rfl (wr := [(hs, .inr (3, [.int (iI ac), .int (iI dI), .ref la, .ref st, .int (iI kr), .int (iI kb), .int (iI ov), .int (iI bd)])), (la, .inl (cQ, dn, .inr (.inr (.inr (.inr g))))), (st, .inr (0, [.int (iI ac), .ref sw])), (sw, .inl (cJ, nw, .inr (.inl sf)))]) rfl (by decide) (by decide) (fun v w1 H locs hq hP hD hS => ?_)
  obtain ⟨r_1, rfl, rfl, hr1_1, hr2_1, hr3_1⟩ := hq
  refine W.cs (cells' := 0) (slots' := 0) rfl rfl ?_
  refine W.eq (g2 := F0 m 4 ls [.int (iI r_1)]) rfl ?_
  have hP : va_P D xcl ([(hs, .inr (3, [.int (iI ac), .int (iI dI), .ref la, .ref st, .int (iI kr), .int (iI kb), .int (iI ov), .int (iI bd)])), (la, .inl (cQ, dn, .inr (.inr (.inr (.inr g))))), (st, .inr (0, [.int (iI ac), .ref sw])), (sw, .inl (cJ, nw, .inr (.inl sf))), (h, .inr (2, [.ref a, .int (iI op), .int (iI x), .int (iI y), .int (iI sc), .int (iI wd), .int (iI ht), .int (iI ln), .int (iI rw)])), (a, .inl (cI, 640, .inl (iA B)))] ++ pl) _ := hP
  have hD : va_D A ([(hs, .inr (3, [.int (iI ac), .int (iI dI), .ref la, .ref st, .int (iI kr), .int (iI kb), .int (iI ov), .int (iI bd)])), (la, .inl (cQ, dn, .inr (.inr (.inr (.inr g))))), (st, .inr (0, [.int (iI ac), .ref sw])), (sw, .inl (cJ, nw, .inr (.inl sf))), (h, .inr (2, [.ref a, .int (iI op), .int (iI x), .int (iI y), .int (iI sc), .int (iI wd), .int (iI ht), .int (iI ln), .int (iI rw)])), (a, .inl (cI, 640, .inl (iA B)))] ++ pl) := hD
  refine lv_istore_n (lv' := [(2, .int (iI r_1)), (0, .ref hs), (1, .ref h)]) hx hb d_Sh_take_4 rfl hl (by decide) rfl (fun ls hl => ?_)
  refine lv_iload_n hx hb d_Sh_take_5 rfl (lv_at hl 0 rfl) ?_
  refine xi_if_ne (tgt := 10) hx hb d_Sh_take_6 (by decide) ⟨by omega, by omega⟩ (fun c_6 => ?_) (fun c_6 => ?_)
  ·
    refine lv_aload_n hx hb d_Sh_take_10 rfl (lv_at hl 1 rfl) ?_
    refine va_get (D := D) (cl := xcl) (ci := 3) (v := .int (iI kr)) (C := R_Sh) (T := T_Sh) (N := 8) hx hb hts i_Sh hown hK hP 0 rfl rfl 4 (by decide) (hts _ kw_61) (fun _ h9 => h9) rfl d_Sh_take_11 ?_
    refine xi_sipush hx hb d_Sh_take_14 (by decide) ?_
    refine xi_icmp_ge (tgt := 31) hx hb d_Sh_take_17 (by decide) ⟨by omega, by omega⟩ ⟨by decide, by decide⟩ (fun c_17 => ?_) (fun c_17 => ?_)
    ·
      refine lv_aload_n hx hb d_Sh_take_31 rfl (lv_at hl 1 rfl) ?_
      refine xi_iconst hx hb d_Sh_take_32 ?_
      refine va_put (D := D) (cl := xcl) (ci := 3) (v := .int (iI 1)) (ty := .boolean) (C := R_Sh) (T := T_Sh) (N := 8) hx hb hts i_Sh ty_Sh ty_Sh_ok nm_Sh hown hK hP hD hS 0 rfl rfl 6 (by decide) (hts _ kw_65) (fun _ h9 => h9) rfl (by decide +kernel) rfl rfl (Nat.le_of_ble_eq_true rfl) d_Sh_take_33 (fun H locs hP hD hS => ?_)
      have hP : va_P D xcl ([(hs, .inr (3, [.int (iI ac), .int (iI dI), .ref la, .ref st, .int (iI kr), .int (iI kb), .int (iI 1), .int (iI bd)])), (la, .inl (cQ, dn, .inr (.inr (.inr (.inr g))))), (st, .inr (0, [.int (iI ac), .ref sw])), (sw, .inl (cJ, nw, .inr (.inl sf))), (h, .inr (2, [.ref a, .int (iI op), .int (iI x), .int (iI y), .int (iI sc), .int (iI wd), .int (iI ht), .int (iI ln), .int (iI rw)])), (a, .inl (cI, 640, .inl (iA B)))] ++ pl) _ := hP
      have hD : va_D A ([(hs, .inr (3, [.int (iI ac), .int (iI dI), .ref la, .ref st, .int (iI kr), .int (iI kb), .int (iI 1), .int (iI bd)])), (la, .inl (cQ, dn, .inr (.inr (.inr (.inr g))))), (st, .inr (0, [.int (iI ac), .ref sw])), (sw, .inl (cJ, nw, .inr (.inl sf))), (h, .inr (2, [.ref a, .int (iI op), .int (iI x), .int (iI y), .int (iI sc), .int (iI wd), .int (iI ht), .int (iI ln), .int (iI rw)])), (a, .inl (cI, 640, .inl (iA B)))] ++ pl) := hD
      exact x_vret hx hb hr hlocks hP hD hS (by decide) (by decide) ⟨sf, g, pl, bd, kr, kb, 1, r_1, Wd, rfl, rfl, hr1_1, hr2_1, hr3_1, hL, Or.inr (Or.inl ⟨by omega, by omega, rfl, rfl, rfl, rfl, rfl⟩)⟩ d_Sh_take_36
    ·
      refine lv_iload_n hx hb d_Sh_take_20 rfl (lv_at hl 0 rfl) ?_
      refine xi_ldc (n := 65536) hx hb hown (hts _ kw_390) (by decide) d_Sh_take_21 ?_
      refine lv_aload_n hx hb d_Sh_take_23 rfl (lv_at hl 1 rfl) ?_
      refine va_get (D := D) (cl := xcl) (ci := 3) (v := .int (iI kb)) (C := R_Sh) (T := T_Sh) (N := 8) hx hb hts i_Sh hown hK hP 0 rfl rfl 5 (by decide) (hts _ kw_63) (fun _ h9 => h9) rfl d_Sh_take_24 ?_
      refine xi_isub hx hb d_Sh_take_27 ?_
      refine xi_icmp_le (tgt := 37) hx hb d_Sh_take_28 (by decide) ⟨by omega, by omega⟩ ⟨by omega, by omega⟩ (fun c_28 => ?_) (fun c_28 => ?_)
      ·
        refine lv_aload_n hx hb d_Sh_take_37 rfl (lv_at hl 1 rfl) ?_
        refine lv_dup hx hb d_Sh_take_38 rfl ?_
        refine va_get (D := D) (cl := xcl) (ci := 3) (v := .int (iI kr)) (C := R_Sh) (T := T_Sh) (N := 8) hx hb hts i_Sh hown hK hP 0 rfl rfl 4 (by decide) (hts _ kw_61) (fun _ h9 => h9) rfl d_Sh_take_39 ?_
        refine xi_iconst hx hb d_Sh_take_42 ?_
        refine xi_iadd hx hb d_Sh_take_43 ?_
        refine va_put (D := D) (cl := xcl) (ci := 3) (v := .int (iI (kr + 1))) (ty := .int) (C := R_Sh) (T := T_Sh) (N := 8) hx hb hts i_Sh ty_Sh ty_Sh_ok nm_Sh hown hK hP hD hS 0 rfl rfl 4 (by decide) (hts _ kw_61) (fun _ h9 => h9) rfl (by decide +kernel) rfl rfl (Nat.le_of_ble_eq_true rfl) d_Sh_take_44 (fun H locs hP hD hS => ?_)
        have hP : va_P D xcl ([(hs, .inr (3, [.int (iI ac), .int (iI dI), .ref la, .ref st, .int (iI (kr + 1)), .int (iI kb), .int (iI ov), .int (iI bd)])), (la, .inl (cQ, dn, .inr (.inr (.inr (.inr g))))), (st, .inr (0, [.int (iI ac), .ref sw])), (sw, .inl (cJ, nw, .inr (.inl sf))), (h, .inr (2, [.ref a, .int (iI op), .int (iI x), .int (iI y), .int (iI sc), .int (iI wd), .int (iI ht), .int (iI ln), .int (iI rw)])), (a, .inl (cI, 640, .inl (iA B)))] ++ pl) _ := hP
        have hD : va_D A ([(hs, .inr (3, [.int (iI ac), .int (iI dI), .ref la, .ref st, .int (iI (kr + 1)), .int (iI kb), .int (iI ov), .int (iI bd)])), (la, .inl (cQ, dn, .inr (.inr (.inr (.inr g))))), (st, .inr (0, [.int (iI ac), .ref sw])), (sw, .inl (cJ, nw, .inr (.inl sf))), (h, .inr (2, [.ref a, .int (iI op), .int (iI x), .int (iI y), .int (iI sc), .int (iI wd), .int (iI ht), .int (iI ln), .int (iI rw)])), (a, .inl (cI, 640, .inl (iA B)))] ++ pl) := hD
        refine lv_aload_n hx hb d_Sh_take_47 rfl (lv_at hl 1 rfl) ?_
        refine lv_dup hx hb d_Sh_take_48 rfl ?_
        refine va_get (D := D) (cl := xcl) (ci := 3) (v := .int (iI kb)) (C := R_Sh) (T := T_Sh) (N := 8) hx hb hts i_Sh hown hK hP 0 rfl rfl 5 (by decide) (hts _ kw_63) (fun _ h9 => h9) rfl d_Sh_take_49 ?_
        refine lv_iload_n hx hb d_Sh_take_52 rfl (lv_at hl 0 rfl) ?_
        refine xi_iadd hx hb d_Sh_take_53 ?_
        refine va_put (D := D) (cl := xcl) (ci := 3) (v := .int (iI (kb + r_1))) (ty := .int) (C := R_Sh) (T := T_Sh) (N := 8) hx hb hts i_Sh ty_Sh ty_Sh_ok nm_Sh hown hK hP hD hS 0 rfl rfl 5 (by decide) (hts _ kw_63) (fun _ h9 => h9) rfl (by decide +kernel) rfl rfl (Nat.le_of_ble_eq_true rfl) d_Sh_take_54 (fun H locs hP hD hS => ?_)
        have hP : va_P D xcl ([(hs, .inr (3, [.int (iI ac), .int (iI dI), .ref la, .ref st, .int (iI (kr + 1)), .int (iI (kb + r_1)), .int (iI ov), .int (iI bd)])), (la, .inl (cQ, dn, .inr (.inr (.inr (.inr g))))), (st, .inr (0, [.int (iI ac), .ref sw])), (sw, .inl (cJ, nw, .inr (.inl sf))), (h, .inr (2, [.ref a, .int (iI op), .int (iI x), .int (iI y), .int (iI sc), .int (iI wd), .int (iI ht), .int (iI ln), .int (iI rw)])), (a, .inl (cI, 640, .inl (iA B)))] ++ pl) _ := hP
        have hD : va_D A ([(hs, .inr (3, [.int (iI ac), .int (iI dI), .ref la, .ref st, .int (iI (kr + 1)), .int (iI (kb + r_1)), .int (iI ov), .int (iI bd)])), (la, .inl (cQ, dn, .inr (.inr (.inr (.inr g))))), (st, .inr (0, [.int (iI ac), .ref sw])), (sw, .inl (cJ, nw, .inr (.inl sf))), (h, .inr (2, [.ref a, .int (iI op), .int (iI x), .int (iI y), .int (iI sc), .int (iI wd), .int (iI ht), .int (iI ln), .int (iI rw)])), (a, .inl (cI, 640, .inl (iA B)))] ++ pl) := hD
        refine lv_aload_n hx hb d_Sh_take_57 rfl (lv_at hl 1 rfl) ?_
        refine lv_aload_n hx hb d_Sh_take_58 rfl (lv_at hl 2 rfl) ?_
        refine x_aftP (X := [(hs, .inr (3, [.int (iI ac), .int (iI dI), .ref la, .ref st, .int (iI (kr + 1)), .int (iI (kb + r_1)), .int (iI ov), .int (iI bd)])), (la, .inl (cQ, dn, .inr (.inr (.inr (.inr g))))), (st, .inr (0, [.int (iI ac), .ref sw])), (sw, .inl (cJ, nw, .inr (.inl sf))), (h, .inr (2, [.ref a, .int (iI op), .int (iI x), .int (iI y), .int (iI sc), .int (iI wd), .int (iI ht), .int (iI ln), .int (iI rw)])), (a, .inl (cI, 640, .inl (iA B)))]) (pl := pl) (cx := [(hs, .inr (3, [.int (iI ac), .int (iI dI), .ref la, .ref st, .int (iI (kr + 1)), .int (iI (kb + r_1)), .int (iI ov), .int (iI bd)])), (la, .inl (cQ, dn, .inr (.inr (.inr (.inr g))))), (st, .inr (0, [.int (iI ac), .ref sw])), (sw, .inl (cJ, nw, .inr (.inl sf))), (h, .inr (2, [.ref a, .int (iI op), .int (iI x), .int (iI y), .int (iI sc), .int (iI wd), .int (iI ht), .int (iI ln), .int (iI rw)])), (a, .inl (cI, 640, .inl (iA B)))]) (x_runV (C := "RasterRows$Sheet") (As := [.ref h]) (rest := []) (ci := 3) (q0 := 0) hx hb hml hown hts (c_Sh_draw l D cI cJ cQ hs la st sw ac dI dn nw g sf (kr + 1) (kb + r_1) ov bd pl Wd h a B op x y sc wd ht ln rw (hac) (hdn) (hnw) (hL) (hln) (hB) (hwd) (hsc) (hxx) (hyy) (hrw)) kw_391 kw_393 kp_6 kw_2 kw_394 ds_Sh_draw (by decide) hK (hP.part (cx := [(hs, .inr (3, [.int (iI ac), .int (iI dI), .ref la, .ref st, .int (iI (kr + 1)), .int (iI (kb + r_1)), .int (iI ov), .int (iI bd)])), (la, .inl (cQ, dn, .inr (.inr (.inr (.inr g))))), (st, .inr (0, [.int (iI ac), .ref sw])), (sw, .inl (cJ, nw, .inr (.inl sf))), (h, .inr (2, [.ref a, .int (iI op), .int (iI x), .int (iI y), .int (iI sc), .int (iI wd), .int (iI ht), .int (iI ln), .int (iI rw)])), (a, .inl (cI, 640, .inl (iA B)))]) [0, 1, 2, 3, 4, 5] rfl) (hD.part (cx := [(hs, .inr (3, [.int (iI ac), .int (iI dI), .ref la, .ref st, .int (iI (kr + 1)), .int (iI (kb + r_1)), .int (iI ov), .int (iI bd)])), (la, .inl (cQ, dn, .inr (.inr (.inr (.inr g))))), (st, .inr (0, [.int (iI ac), .ref sw])), (sw, .inl (cJ, nw, .inr (.inl sf))), (h, .inr (2, [.ref a, .int (iI op), .int (iI x), .int (iI y), .int (iI sc), .int (iI wd), .int (iI ht), .int (iI ln), .int (iI rw)])), (a, .inl (cI, 640, .inl (iA B)))]) [0, 1, 2, 3, 4, 5] (by decide) rfl) rfl rfl rfl hl.1 rfl (Nat.le_of_ble_eq_true rfl) d_Sh_take_59) hP hD hS hA [0, 1, 2, 3, 4, 5] [] rfl (wr := []) rfl (by decide) (by decide) (fun v w1 H locs hq hPD hS => ?_)
        obtain ⟨sf2_59, g2_59, pl2_59, bd2_59, rfl, hw1, hf_59, hL2_59, hbd_59⟩ := hq
        obtain ⟨hP, hD⟩ := hPD [(hs, .inr (3, [.int (iI ac), .int (iI dI), .ref la, .ref st, .int (iI (kr + 1)), .int (iI (kb + r_1)), .int (iI ov), .int (iI bd2_59)])), (la, .inl (cQ, dn, .inr (.inr (.inr (.inr g2_59))))), (st, .inr (0, [.int (iI ac), .ref sw])), (sw, .inl (cJ, nw, .inr (.inl sf2_59))), (h, .inr (2, [.ref a, .int (iI op), .int (iI x), .int (iI y), .int (iI sc), .int (iI wd), .int (iI ht), .int (iI ln), .int (iI rw)])), (a, .inl (cI, 640, .inl (iA B)))] pl2_59 hw1
        refine W.widen (k := 8) (n := 328) (by decide) (by decide) ?_
        refine W.eq (g2 := F0 m 62 ls []) rfl ?_
        have hP : va_P D xcl ([(hs, .inr (3, [.int (iI ac), .int (iI dI), .ref la, .ref st, .int (iI (kr + 1)), .int (iI (kb + r_1)), .int (iI ov), .int (iI bd2_59)])), (la, .inl (cQ, dn, .inr (.inr (.inr (.inr g2_59))))), (st, .inr (0, [.int (iI ac), .ref sw])), (sw, .inl (cJ, nw, .inr (.inl sf2_59))), (h, .inr (2, [.ref a, .int (iI op), .int (iI x), .int (iI y), .int (iI sc), .int (iI wd), .int (iI ht), .int (iI ln), .int (iI rw)])), (a, .inl (cI, 640, .inl (iA B)))] ++ pl2_59) _ := hP
        have hD : va_D A ([(hs, .inr (3, [.int (iI ac), .int (iI dI), .ref la, .ref st, .int (iI (kr + 1)), .int (iI (kb + r_1)), .int (iI ov), .int (iI bd2_59)])), (la, .inl (cQ, dn, .inr (.inr (.inr (.inr g2_59))))), (st, .inr (0, [.int (iI ac), .ref sw])), (sw, .inl (cJ, nw, .inr (.inl sf2_59))), (h, .inr (2, [.ref a, .int (iI op), .int (iI x), .int (iI y), .int (iI sc), .int (iI wd), .int (iI ht), .int (iI ln), .int (iI rw)])), (a, .inl (cI, 640, .inl (iA B)))] ++ pl2_59) := hD
        exact x_vret hx hb hr hlocks hP hD hS (by decide) (by decide) ⟨sf2_59, g2_59, pl2_59, bd2_59, (kr + 1), (kb + r_1), ov, r_1, (rowW Wd sf2_59 (y + sc * rw) sc), rfl, rfl, hr1_1, hr2_1, hr3_1, hL2_59, Or.inr (Or.inr ⟨by omega, by omega, by omega, rfl, rfl, rfl, rfl, hf_59, hbd_59⟩)⟩ d_Sh_take_62
      ·
        refine lv_aload_n hx hb d_Sh_take_31 rfl (lv_at hl 1 rfl) ?_
        refine xi_iconst hx hb d_Sh_take_32 ?_
        refine va_put (D := D) (cl := xcl) (ci := 3) (v := .int (iI 1)) (ty := .boolean) (C := R_Sh) (T := T_Sh) (N := 8) hx hb hts i_Sh ty_Sh ty_Sh_ok nm_Sh hown hK hP hD hS 0 rfl rfl 6 (by decide) (hts _ kw_65) (fun _ h9 => h9) rfl (by decide +kernel) rfl rfl (Nat.le_of_ble_eq_true rfl) d_Sh_take_33 (fun H locs hP hD hS => ?_)
        have hP : va_P D xcl ([(hs, .inr (3, [.int (iI ac), .int (iI dI), .ref la, .ref st, .int (iI kr), .int (iI kb), .int (iI 1), .int (iI bd)])), (la, .inl (cQ, dn, .inr (.inr (.inr (.inr g))))), (st, .inr (0, [.int (iI ac), .ref sw])), (sw, .inl (cJ, nw, .inr (.inl sf))), (h, .inr (2, [.ref a, .int (iI op), .int (iI x), .int (iI y), .int (iI sc), .int (iI wd), .int (iI ht), .int (iI ln), .int (iI rw)])), (a, .inl (cI, 640, .inl (iA B)))] ++ pl) _ := hP
        have hD : va_D A ([(hs, .inr (3, [.int (iI ac), .int (iI dI), .ref la, .ref st, .int (iI kr), .int (iI kb), .int (iI 1), .int (iI bd)])), (la, .inl (cQ, dn, .inr (.inr (.inr (.inr g))))), (st, .inr (0, [.int (iI ac), .ref sw])), (sw, .inl (cJ, nw, .inr (.inl sf))), (h, .inr (2, [.ref a, .int (iI op), .int (iI x), .int (iI y), .int (iI sc), .int (iI wd), .int (iI ht), .int (iI ln), .int (iI rw)])), (a, .inl (cI, 640, .inl (iA B)))] ++ pl) := hD
        exact x_vret hx hb hr hlocks hP hD hS (by decide) (by decide) ⟨sf, g, pl, bd, kr, kb, 1, r_1, Wd, rfl, rfl, hr1_1, hr2_1, hr3_1, hL, Or.inr (Or.inl ⟨by omega, by omega, rfl, rfl, rfl, rfl, rfl⟩)⟩ d_Sh_take_36
  ·
    exact x_vret hx hb hr hlocks hP hD hS (by decide) (by decide) ⟨sf, g, pl, bd, kr, kb, ov, r_1, Wd, rfl, rfl, hr1_1, hr2_1, hr3_1, hL, Or.inl ⟨c_6, rfl, rfl, rfl, rfl, rfl⟩⟩ d_Sh_take_9
