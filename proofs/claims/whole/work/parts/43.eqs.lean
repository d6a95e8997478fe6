theorem scl_eq {dp rs a b : Int} (hdp : dp = 75 ∨ dp = 150 ∨ dp = 300) (hrs : rs = 75 ∨ rs = 100 ∨ rs = 150 ∨ rs = 300) (h1 : (rs < dp ∧ a = dp / rs) ∨ (dp ≤ rs ∧ a = 1)) (h2 : (dp / rs < 1 ∧ b = 1) ∨ (1 ≤ dp / rs ∧ b = dp / rs)) : b = a := by
  rcases hdp with rfl | rfl | rfl <;> rcases hrs with rfl | rfl | rfl | rfl <;> omega
theorem open_eq {op r mr op2 mop2 x y sc wd ht ln rw x2 y2 sc2 wd2 ht2 ln2 rw2 mx my msc mwd mht mln mrw mx2 my2 msc2 mwd2 mht2 mln2 mrw2 zx zy dp rs nW nH i : Int} {B B2 MB mB2 : Nat → Int} (hi : 3 ≤ i ∧ i ≤ 2055) (hop : op = 0 ∨ op = 1) (hdp : dp = 75 ∨ dp = 150 ∨ dp = 300) (hrs : rs = 75 ∨ rs = 100 ∨ rs = 150 ∨ rs = 300) (hnW : 0 ≤ nW ∧ nW ≤ 5119) (hnH : 0 ≤ nH ∧ nH ≤ 5119) (hln : 0 ≤ ln ∧ ln ≤ 640) (hB : ∀ j : Nat, 0 ≤ B j ∧ B j < 256) (hwd : 0 ≤ wd ∧ wd ≤ 5119) (hsc : 1 ≤ sc ∧ sc ≤ 4) (hxx : -10000 ≤ x ∧ x ≤ 10000) (hyy : -10000 ≤ y ∧ y ≤ 10000) (hh : 0 ≤ ht ∧ ht ≤ 5119) (hrw : 0 ≤ rw ∧ rw ≤ 10001 * i) (htr : op = 1 → 0 < ht → rw ≤ ht) (hE : op = 1 → mx = x ∧ my = y ∧ mwd = wd ∧ mht = ht ∧ msc = sc ∧ mrw = rw ∧ mln = ln ∧ MB = B) (hmh : 0 ≤ mht ∧ mht ≤ 5119) (hmr : 0 ≤ mrw ∧ mrw ≤ 10001 * i) (hml_ : 0 ≤ mln ∧ mln ≤ 640) (hC : (r = 0 ∧ (op = 1 ∨ zx < -10000 ∨ 10000 < zx ∨ zy < -10000 ∨ 10000 < zy) ∧ B2 = B ∧ op2 = op ∧ x2 = x ∧ y2 = y ∧ sc2 = sc ∧ wd2 = wd ∧ ht2 = ht ∧ ln2 = ln ∧ rw2 = rw) ∨ (r = 1 ∧ op = 0 ∧ -10000 ≤ zx ∧ zx ≤ 10000 ∧ -10000 ≤ zy ∧ zy ≤ 10000 ∧ B2 = (fun _ => 0) ∧ op2 = 1 ∧ x2 = zx ∧ y2 = zy ∧ ((rs < dp ∧ sc2 = dp / rs) ∨ (dp ≤ rs ∧ sc2 = 1)) ∧ (1 ≤ sc2 ∧ sc2 ≤ 4) ∧ wd2 = nW ∧ ht2 = nH ∧ ((0 < nW ∧ ln2 = (nW + 7) / 8) ∨ (nW = 0 ∧ ln2 = 640)) ∧ rw2 = 0)) (hM : (mr = 0 ∧ (op = 1 ∨ zx < -10000 ∨ 10000 < zx ∨ zy < -10000 ∨ 10000 < zy) ∧ mB2 = MB ∧ mop2 = op ∧ mx2 = mx ∧ my2 = my ∧ msc2 = msc ∧ mwd2 = mwd ∧ mht2 = mht ∧ mln2 = mln ∧ mrw2 = mrw) ∨ (mr = 1 ∧ op = 0 ∧ -10000 ≤ zx ∧ zx ≤ 10000 ∧ -10000 ≤ zy ∧ zy ≤ 10000 ∧ mB2 = (fun _ => 0) ∧ mop2 = 1 ∧ mx2 = zx ∧ my2 = zy ∧ ((dp / rs < 1 ∧ msc2 = 1) ∨ (1 ≤ dp / rs ∧ msc2 = dp / rs)) ∧ mwd2 = nW ∧ mht2 = nH ∧ ((0 < nW ∧ mln2 = (nW + 7) / 8) ∨ (nW = 0 ∧ mln2 = 640)) ∧ mrw2 = 0)) :
    (mr = r ∧ mop2 = op2 ∧ (r = 0 ∨ r = 1) ∧ (op2 = 0 ∨ op2 = 1)) ∧ (0 ≤ ln2 ∧ ln2 ≤ 640) ∧ (∀ j : Nat, 0 ≤ B2 j ∧ B2 j < 256) ∧ (0 ≤ wd2 ∧ wd2 ≤ 5119) ∧ (1 ≤ sc2 ∧ sc2 ≤ 4) ∧ (-10000 ≤ x2 ∧ x2 ≤ 10000) ∧ (-10000 ≤ y2 ∧ y2 ≤ 10000) ∧ (0 ≤ ht2 ∧ ht2 ≤ 5119) ∧ (0 ≤ rw2 ∧ rw2 ≤ 10001 * (i + 4)) ∧ (op2 = 1 → 0 < ht2 → rw2 ≤ ht2) ∧ (op2 = 1 → mx2 = x2 ∧ my2 = y2 ∧ mwd2 = wd2 ∧ mht2 = ht2 ∧ msc2 = sc2 ∧ mrw2 = rw2 ∧ mln2 = ln2 ∧ mB2 = B2) ∧ (0 ≤ mht2 ∧ mht2 ≤ 5119) ∧ (0 ≤ mrw2 ∧ mrw2 ≤ 10001 * (i + 4)) ∧ (0 ≤ mln2 ∧ mln2 ≤ 640) := by
  rcases hC with ⟨c0, c1, rfl, rfl, rfl, rfl, rfl, rfl, rfl, rfl, rfl⟩ | ⟨c0, c1, c2, c3, c4, c5, rfl, rfl, rfl, rfl, c6, c7, rfl, rfl, c8, rfl⟩
  · rcases hM with ⟨m0, m1, rfl, rfl, rfl, rfl, rfl, rfl, rfl, rfl, rfl⟩ | ⟨m0, m1, m2, m3, m4, m5, -⟩
    · exact ⟨⟨by omega, rfl, Or.inl c0, hop⟩, hln, hB, hwd, hsc, hxx, hyy, hh, by omega, htr, hE, hmh, by omega, hml_⟩
    · omega
  · rcases hM with ⟨m0, m1, -⟩ | ⟨m0, m1, m2, m3, m4, m5, rfl, rfl, rfl, rfl, m6, rfl, rfl, m8, rfl⟩
    · omega
    · exact ⟨⟨by omega, rfl, Or.inr c0, Or.inr rfl⟩, by omega, fun _ => ⟨by show (0 : Int) ≤ 0; decide, by show (0 : Int) < 256; decide⟩, hnW, c7, by omega, by omega, hnH, by omega, fun _ _ => by omega, fun _ => ⟨rfl, rfl, rfl, rfl, scl_eq hdp hrs c6 m6, rfl, by omega, rfl⟩, hnH, by omega, by omega⟩
theorem data_eq {r mr n ct ct2 mct2 : Int} {P P2 mP2 : Nat → Int} {w : Int64} (hct : 0 ≤ ct ∧ ct ≤ 4096) (hPb : ∀ j : Nat, 0 ≤ P j ∧ P j < 256) (hC : (r = 0 ∧ (n < 1 ∨ 8 < n ∨ 4096 < ct + n) ∧ P2 = P ∧ ct2 = ct) ∨ (r = 1 ∧ 1 ≤ n ∧ n ≤ 8 ∧ ct + n ≤ 4096 ∧ P2 = dataS w n.toNat P ct ∧ ct2 = ct + n)) (hM : (mr = 0 ∧ (n < 1 ∨ 8 < n ∨ 4096 < ct + n) ∧ mP2 = P ∧ mct2 = ct) ∨ (mr = 1 ∧ 1 ≤ n ∧ n ≤ 8 ∧ ct + n ≤ 4096 ∧ mP2 = dataS w n.toNat P ct ∧ mct2 = ct + n)) : (mr = r ∧ mP2 = P2 ∧ mct2 = ct2 ∧ (r = 0 ∨ r = 1)) ∧ (0 ≤ ct2 ∧ ct2 ≤ 4096) ∧ ∀ j : Nat, 0 ≤ P2 j ∧ P2 j < 256 := by
  rcases hC with ⟨c0, c1, rfl, rfl⟩ | ⟨c0, c1, c2, c3, rfl, rfl⟩
  · rcases hM with ⟨m0, m1, rfl, rfl⟩ | ⟨m0, m1, m2, m3, -⟩
    · exact ⟨⟨by omega, rfl, rfl, Or.inl c0⟩, hct, hPb⟩
    · omega
  · rcases hM with ⟨m0, m1, -⟩ | ⟨m0, m1, m2, m3, rfl, rfl⟩
    · omega
    · exact ⟨⟨by omega, rfl, rfl, Or.inr c0⟩, by omega, byte_data w _ P ct hPb⟩
theorem skA_eq {n op ht rw rw2 r th2 i : Int} {B B2 : Nat → Int} (hn : n < 0 ∨ 10000 < n) (hM : (th2 = 1 ∧ (n < 0 ∨ 10000 < n) ∧ rw2 = rw ∧ B2 = B) ∨ (th2 = 2 ∧ 0 ≤ n ∧ n ≤ 10000 ∧ op = 0 ∧ rw2 = rw ∧ B2 = B) ∨ (th2 = 0 ∧ 0 ≤ n ∧ n ≤ 10000 ∧ op = 1 ∧ ((0 < ht ∧ rw2 = min (rw + n) ht) ∨ (ht = 0 ∧ rw2 = rw + n)) ∧ B2 = (fun _ => 0) ∧ r = rw2)) : th2 = 1 ∧ rw2 = rw ∧ B2 = B := by
  rcases hM with ⟨m0, m1, m2, m3⟩ | ⟨m0, m1, m2, -⟩ | ⟨m0, m1, m2, -⟩
  · exact ⟨m0, m2, m3⟩
  · omega
  · omega
theorem skS_eq {n op ht rw rw2 r th2 i : Int} {B B2 : Nat → Int} (hop : op = 0) (hn : 0 ≤ n ∧ n ≤ 10000) (hM : (th2 = 1 ∧ (n < 0 ∨ 10000 < n) ∧ rw2 = rw ∧ B2 = B) ∨ (th2 = 2 ∧ 0 ≤ n ∧ n ≤ 10000 ∧ op = 0 ∧ rw2 = rw ∧ B2 = B) ∨ (th2 = 0 ∧ 0 ≤ n ∧ n ≤ 10000 ∧ op = 1 ∧ ((0 < ht ∧ rw2 = min (rw + n) ht) ∨ (ht = 0 ∧ rw2 = rw + n)) ∧ B2 = (fun _ => 0) ∧ r = rw2)) : th2 = 2 ∧ rw2 = rw ∧ B2 = B := by
  rcases hM with ⟨m0, m1, -⟩ | ⟨m0, m1, m2, m3, m4, m5⟩ | ⟨m0, m1, m2, m3, -⟩
  · omega
  · exact ⟨m0, m4, m5⟩
  · omega
theorem skR_eq {n op ht rw rw2 r th2 i : Int} {B B2 : Nat → Int} {w2 : Int} (hop : op = 1) (hn : 0 ≤ n ∧ n ≤ 10000) (hi : 3 ≤ i ∧ i ≤ 2055) (hh : 0 ≤ ht ∧ ht ≤ 5119) (hrw : 0 ≤ rw ∧ rw ≤ 10001 * i) (hC : (0 < ht ∧ w2 = min (rw + n) ht) ∨ (ht = 0 ∧ w2 = rw + n)) (hM : (th2 = 1 ∧ (n < 0 ∨ 10000 < n) ∧ rw2 = rw ∧ B2 = B) ∨ (th2 = 2 ∧ 0 ≤ n ∧ n ≤ 10000 ∧ op = 0 ∧ rw2 = rw ∧ B2 = B) ∨ (th2 = 0 ∧ 0 ≤ n ∧ n ≤ 10000 ∧ op = 1 ∧ ((0 < ht ∧ rw2 = min (rw + n) ht) ∨ (ht = 0 ∧ rw2 = rw + n)) ∧ B2 = (fun _ => 0) ∧ r = rw2)) : (th2 = 0 ∧ rw2 = w2 ∧ B2 = (fun _ => 0) ∧ r = w2) ∧ (0 ≤ w2 ∧ w2 ≤ 10001 * (i + 4)) ∧ (0 < ht → w2 ≤ ht) := by
  rcases hM with ⟨m0, m1, -⟩ | ⟨m0, m1, m2, m3, -⟩ | ⟨m0, m1, m2, m3, m4, m5, m6⟩
  · omega
  · omega
  · exact ⟨⟨m0, by omega, m5, by omega⟩, by omega, by omega⟩
theorem shT_eq {op op2 m2 mt y sc ht rw r th2 i : Int} (hop : op = 0) (hM : (th2 = 1 ∧ op = 0 ∧ op2 = op ∧ m2 = mt) ∨ (th2 = 0 ∧ op = 1 ∧ op2 = 0 ∧ m2 = 0 ∧ ((0 < ht ∧ r = y + sc * ht) ∨ (ht = 0 ∧ r = y + sc * rw)))) : th2 = 1 ∧ op2 = op ∧ m2 = mt := by
  rcases hM with ⟨m0, m1, m2, m3⟩ | ⟨m0, m1, -⟩
  · exact ⟨m0, m2, m3⟩
  · omega
theorem shR_eq {op op2 m2 mt y sc ht rw r th2 i : Int} {w2 : Int} (hop : op = 1) (hi : 3 ≤ i ∧ i ≤ 2055) (hh : 0 ≤ ht ∧ ht ≤ 5119) (hrw : 0 ≤ rw ∧ rw ≤ 10001 * i) (hC : (0 < ht ∧ w2 = ht) ∨ (ht = 0 ∧ w2 = rw)) (hM : (th2 = 1 ∧ op = 0 ∧ op2 = op ∧ m2 = mt) ∨ (th2 = 0 ∧ op = 1 ∧ op2 = 0 ∧ m2 = 0 ∧ ((0 < ht ∧ r = y + sc * ht) ∨ (ht = 0 ∧ r = y + sc * rw)))) : (th2 = 0 ∧ op2 = 0 ∧ m2 = 0 ∧ r = y + sc * w2) ∧ 0 ≤ w2 ∧ w2 ≤ 10001 * (i + 4) := by
  rcases hM with ⟨m0, m1, -⟩ | ⟨m0, m1, m2, m3, m4⟩
  · omega
  · refine ⟨⟨m0, m2, m3, ?_⟩, by omega⟩
    rcases hC with ⟨a, rfl⟩ | ⟨a, rfl⟩
    · rcases m4 with ⟨_, m4⟩ | ⟨b, _⟩
      · exact m4
      · omega
    · rcases m4 with ⟨b, _⟩ | ⟨_, m4⟩
      · omega
      · exact m4
theorem line_eq {ac dI yy kk : Int} {nw dn : Nat} {S : Nat → Int64} {Wd : Nat → Nat → Int64} {r mr : Int64} (hac : 1 ≤ ac ∧ ac ≤ 5100) (hdn : dI = (dn : Int) ∧ dn ≤ 5100) (hnw : (nw : Int) = (ac + 63) / 64) (hSW : SW nw dn S Wd) (c1 : 0 ≤ yy → yy < dI → 0 ≤ kk → kk < (nw : Int) → r = Wd yy.toNat kk.toNat) (c2 : (yy < 0 ∨ dI ≤ yy ∨ kk < 0 ∨ (nw : Int) ≤ kk) → r = 0) (m1 : 0 ≤ yy → yy < dI → 0 ≤ kk → kk < 80 → mr = S (80 * yy + kk).toNat) (m2 : (yy < 0 ∨ dI ≤ yy ∨ kk < 0 ∨ 80 ≤ kk) → mr = 0) : r = mr := by
  by_cases h : 0 ≤ yy ∧ yy < dI ∧ 0 ≤ kk ∧ kk < 80
  · obtain ⟨h1, h2, h3, h4⟩ := h
    have e := hSW yy.toNat kk.toNat (by omega) (by omega)
    rw [m1 h1 h2 h3 h4, show (80 * yy + kk).toNat = 80 * yy.toNat + kk.toNat by omega, e]
    by_cases q : kk < (nw : Int)
    · rw [if_pos (by omega), c1 h1 h2 h3 q]
    · rw [if_neg (by omega), c2 (by omega)]
  · rw [c2 (by omega), m2 (by omega)]
theorem blk_eq {ac dI xx yy r th2 : Int} {nw dn : Nat} {S O2 : Nat → Int64} {Wd : Nat → Nat → Int64} (hac : 1 ≤ ac ∧ ac ≤ 5100) (hdn : dI = (dn : Int) ∧ dn ≤ 5100) (hnw : (nw : Int) = (ac + 63) / 64) (hSW : SW nw dn S Wd) (hx_ : 0 ≤ xx ∧ xx < ac) (hy_ : 0 ≤ yy ∧ yy < dI) (hC : (O2 0 = 1 ∧ dt (Wd yy.toNat) xx.toNat = true) ∨ (O2 0 = 0 ∧ dt (Wd yy.toNat) xx.toNat = false)) (hM : (th2 = 1 ∧ (xx < 0 ∨ ac ≤ xx ∨ yy < 0 ∨ dI ≤ yy)) ∨ (th2 = 0 ∧ 0 ≤ xx ∧ xx < ac ∧ 0 ≤ yy ∧ yy < dI ∧ ((r = 1 ∧ dS S yy.toNat xx.toNat = true) ∨ (r = 0 ∧ dS S yy.toNat xx.toNat = false)))) : th2 = 0 ∧ ((O2 0 = 1 ∧ r = 1) ∨ (O2 0 = 0 ∧ r = 0)) := by
  have e := SW_dot hSW (z := yy.toNat) (u := xx.toNat) (by omega) (by omega)
  rw [decide_eq_true (show xx.toNat / 64 < nw by omega), Bool.true_and] at e
  rcases hM with ⟨m0, m1⟩ | ⟨m0, -, -, -, -, m1⟩
  · omega
  · refine ⟨m0, ?_⟩
    rw [e] at m1
    rcases hC with ⟨c0, c1⟩ | ⟨c0, c1⟩
    · rcases m1 with ⟨a, b⟩ | ⟨a, b⟩
      · exact Or.inl ⟨c0, a⟩
      · rw [c1] at b; cases b
    · rcases m1 with ⟨a, b⟩ | ⟨a, b⟩
      · rw [c1] at b; cases b
      · exact Or.inr ⟨c0, a⟩
theorem blT_eq {ac dI xx yy r th2 : Int} {S : Nat → Int64} (hno : xx < 0 ∨ ac ≤ xx ∨ yy < 0 ∨ dI ≤ yy) (hM : (th2 = 1 ∧ (xx < 0 ∨ ac ≤ xx ∨ yy < 0 ∨ dI ≤ yy)) ∨ (th2 = 0 ∧ 0 ≤ xx ∧ xx < ac ∧ 0 ≤ yy ∧ yy < dI ∧ ((r = 1 ∧ dS S yy.toNat xx.toNat = true) ∨ (r = 0 ∧ dS S yy.toNat xx.toNat = false)))) : th2 = 1 := by
  rcases hM with ⟨m0, m1⟩ | ⟨m0, a, b, c, d, -⟩
  · exact m0
  · omega
theorem seed_eq {op ln mln i r mr mx my mwd mht msc mrw x y wd ht sc rw : Int} {B MB : Nat → Int} (hop : op = 0 ∨ op = 1) (hB : ∀ j : Nat, 0 ≤ B j ∧ B j < 256) (hE : op = 1 → mx = x ∧ my = y ∧ mwd = wd ∧ mht = ht ∧ msc = sc ∧ mrw = rw ∧ mln = ln ∧ MB = B) (hC : (r = B i.toNat ∧ op = 1 ∧ 0 ≤ i ∧ i < ln) ∨ (r = -1 ∧ (op = 0 ∨ i < 0 ∨ ln ≤ i))) (hM : (mr = MB i.toNat ∧ op = 1 ∧ 0 ≤ i ∧ i < mln) ∨ (mr = -1 ∧ (op = 0 ∨ i < 0 ∨ mln ≤ i))) : mr = r ∧ inR r := by
  have hb := hB i.toNat
  rcases hop with h | h
  · exact ⟨by omega, by omega⟩
  · obtain ⟨-, -, -, -, -, -, e1, e2⟩ := hE h
    subst e1
    subst e2
    exact ⟨by omega, by omega⟩
theorem cnt_le (S : Nat → Int64) (n : Nat) : 0 ≤ cntS S n ∧ cntS S n ≤ 64 * (n : Int) := by
  have h : sumN (fun j => pcw (S j)) n ≤ 64 * n := by
    induction n with
    | zero => exact Nat.le_refl _
    | succ n ih =>
      show sumN _ n + pcw (S n) ≤ _
      have := pcw_le (S n)
      omega
  unfold cntS
  omega
theorem ifR {cd : Prop} [Decidable cd] {a b : Int} (ha : inR a) (hb : inR b) : inR (if cd then a else b) := by
  by_cases h : cd
  · rw [if_pos h]; exact ha
  · rw [if_neg h]; exact hb
theorem lookS_r {wh ac dI dp rs mt op rw ln sc ct kr kb ov bd : Int} (h1 : inR ac) (h2 : inR dI) (h3 : inR dp) (h4 : inR rs) (h5 : inR mt) (h6 : inR rw) (h7 : inR ln) (h8 : inR sc) (h9 : inR ct) (h10 : inR kr) (h11 : inR kb) (h12 : inR bd) : inR (lookS wh ac dI dp rs mt op rw ln sc ct kr kb ov bd) := by
  have d0 : inR 0 := inR_0
  have d1 : inR 1 := by decide
  have dm : inR (-1) := by decide
  exact ifR h1 (ifR h2 (ifR h3 (ifR h4 (ifR h5 (ifR (ifR d0 d1) (ifR (ifR dm h6) (ifR (ifR dm h7) (ifR (ifR dm h8) (ifR h9 (ifR h10 (ifR h11 (ifR (ifR d0 d1) (ifR h12 dm)))))))))))))
theorem look_eq {wh ac dI dp rs mt op rw ln sc mrw mln msc ct kr kb ov bd bk mx my mwd mht x y wd ht : Int} {B MB : Nat → Int} (hop : op = 0 ∨ op = 1) (hE : op = 1 → mx = x ∧ my = y ∧ mwd = wd ∧ mht = ht ∧ msc = sc ∧ mrw = rw ∧ mln = ln ∧ MB = B) (hb : bd = bk) : lookS wh ac dI dp rs mt op mrw mln msc ct kr kb ov bk = lookS wh ac dI dp rs mt op rw ln sc ct kr kb ov bd := by
  subst hb
  rcases hop with h | h
  · subst h
    unfold lookS
    simp
  · obtain ⟨-, -, -, -, e1, e2, e3, -⟩ := hE h
    subst e1
    subst e2
    subst e3
    rfl
theorem tot_0 (nw dn : Nat) : (0 : Int) = ((totW (fun _ _ => 0) nw dn : Nat) : Int) := by
  unfold totW
  rw [sumN_z (fun y _ => sumN_z (fun k _ => pcw_z))]
  rfl
theorem cnt_0 (n : Nat) : (0 : Int) = cntS (fun _ => 0) n := by
  unfold cntS
  rw [sumN_z (fun k _ => pcw_z)]
  rfl
theorem bd_bk {nw dn nS : Nat} {S : Nat → Int64} {Wd : Nat → Nat → Int64} {bd bk dI ac : Int} (hac : 1 ≤ ac ∧ ac ≤ 5100) (hnw : (nw : Int) = (ac + 63) / 64) (hdn : dI = (dn : Int) ∧ dn ≤ 5100) (hnS : (nS : Int) = 80 * dI) (hSW : SW nw dn S Wd) (hbd : bd = ((totW Wd nw dn : Nat) : Int)) (hbk : bk = cntS S nS) : bd = bk := by
  have e := SW_cnt (nw := nw) (dn := dn) (by omega) hSW
  have e2 : nS = 80 * dn := by omega
  subst e2
  rw [hbd, hbk]
  unfold cntS
  rw [e]
