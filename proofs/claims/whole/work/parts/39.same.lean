-- the two sheets tell the same
theorem tb_z (i : Nat) : tb 0 i = false := by simp [tb]
theorem pcw_z : pcw 0 = 0 := by
  have h : ∀ n : Nat, pcN (tb 0) n = 0 := fun n => by
    induction n with
    | zero => rfl
    | succ n ih => show pcN (tb 0) n + (tb 0 n).toNat = 0; rw [ih, tb_z]; rfl
  exact h 64
def SW (nw dn : Nat) (S : Nat → Int64) (Wd : Nat → Nat → Int64) : Prop := ∀ z k : Nat, z < dn → k < 80 → S (80 * z + k) = if k < nw then Wd z k else 0
theorem SW_0 (nw dn : Nat) : SW nw dn (fun _ => 0) (fun _ _ => 0) := fun z k _ _ => by simp
theorem SW_dot {nw dn : Nat} {S : Nat → Int64} {Wd : Nat → Nat → Int64} (h : SW nw dn S Wd) {z u : Nat} (hz : z < dn) (hu : u < 5120) : dS S z u = (decide (u / 64 < nw) && dt (Wd z) u) := by
  unfold dS dt
  show tb (S (80 * z + u / 64)) _ = _
  rw [h z (u / 64) hz (by omega)]
  by_cases q : u / 64 < nw
  · rw [if_pos q, decide_eq_true q, Bool.true_and]
  · rw [if_neg q, decide_eq_false q, Bool.false_and, tb_z]
theorem SW_of {nw dn : Nat} {S : Nat → Int64} {Wd : Nat → Nat → Int64} (h : ∀ z u : Nat, z < dn → u < 5120 → dS S z u = (decide (u / 64 < nw) && dt (Wd z) u)) : SW nw dn S Wd := fun z k hz hk => tb_ext (fun i hi => by
  have := h z (64 * k + (63 - i)) hz (by omega)
  unfold dS dt at this
  dsimp only at this
  rw [show (64 * k + (63 - i)) / 64 = k by omega, show 63 - (64 * k + (63 - i)) % 64 = i by omega] at this
  rw [this]
  by_cases q : k < nw
  · rw [if_pos q, decide_eq_true q, Bool.true_and]
  · rw [if_neg q, decide_eq_false q, Bool.false_and, tb_z])
theorem SW_row {nw dn : Nat} {S S2 : Nat → Int64} {Wd : Nat → Nat → Int64} {sf2 : Nat → Int64} {B2 : Nat → Int} {ac dI x T sc wd K : Int} (hnw : (nw : Int) = (ac + 63) / 64) (hac : 1 ≤ ac ∧ ac ≤ 5100) (hdn : dI = (dn : Int)) (h : SW nw dn S Wd) (hs : ∀ u : Nat, dt sf2 u = true ↔ drw B2 wd x sc ac (fun _ => 0) K u) (hm : ∀ z u : Nat, u < 5120 → (dS S2 z u = true ↔ drM B2 S ac dI x T sc wd K z u)) : SW nw dn S2 (rowW Wd sf2 T sc) := SW_of (fun z u hz hu => by
  have e1 := SW_dot h hz hu
  have e2 := hs u
  have e3 := hm z u hu
  have e4 : dt (rowW Wd sf2 T sc z) u = true ↔ (dt (Wd z) u = true ∨ (T ≤ (z : Int) ∧ (z : Int) < T + sc ∧ dt sf2 u = true)) := by
    unfold dt rowW
    by_cases q : T ≤ (z : Int) ∧ (z : Int) < T + sc
    · rw [if_pos q, tb_or, Bool.or_eq_true]
      constructor
      · rintro (a | a)
        · exact Or.inl a
        · exact Or.inr ⟨q.1, q.2, a⟩
      · rintro (a | ⟨_, _, a⟩)
        · exact Or.inl a
        · exact Or.inr a
    · rw [if_neg q]
      constructor
      · exact Or.inl
      · rintro (a | ⟨a, b, _⟩)
        · exact a
        · exact absurd ⟨a, b⟩ q
  have hz0 : dt (fun _ => (0 : Int64)) u = false := by unfold dt; exact tb_z _
  apply Bool.eq_iff_iff.mpr
  rw [e3, Bool.and_eq_true, decide_eq_true_eq, e4, e2]
  unfold drM drw
  rw [e1, Bool.and_eq_true, decide_eq_true_eq, hz0]
  constructor
  · rintro (⟨a, b⟩ | ⟨a, b, c, d, k, e⟩)
    · exact ⟨a, Or.inl b⟩
    · exact ⟨by omega, Or.inr ⟨c, d, Or.inr ⟨a, k, e⟩⟩⟩
  · rintro ⟨a, b | ⟨c, d, (f | ⟨g, k, e⟩)⟩⟩
    · exact Or.inl ⟨a, b⟩
    · cases f
    · exact Or.inr ⟨g, by omega, c, d, k, e⟩)
theorem sumN_app (F : Nat → Nat) (a b : Nat) : sumN F (a + b) = sumN F a + sumN (fun k => F (a + k)) b := by
  induction b with
  | zero => rfl
  | succ b ih =>
    show sumN F (a + b) + F (a + b) = sumN F a + (sumN (fun k => F (a + k)) b + F (a + b))
    rw [ih]; omega
theorem sumN_z {F : Nat → Nat} {n : Nat} (h : ∀ k, k < n → F k = 0) : sumN F n = 0 := by
  induction n with
  | zero => rfl
  | succ n ih => show sumN F n + F n = 0; rw [ih (fun k hk => h k (by omega)), h n (by omega)]
theorem SW_cnt {nw dn : Nat} {S : Nat → Int64} {Wd : Nat → Nat → Int64} (hnw : nw ≤ 80) (h : SW nw dn S Wd) : sumN (fun j => pcw (S j)) (80 * dn) = totW Wd nw dn := by
  induction dn with
  | zero => rfl
  | succ dn ih =>
    show _ = sumN (fun y => sumN (fun k => pcw (Wd y k)) nw) dn + sumN (fun k => pcw (Wd dn k)) nw
    rw [show 80 * (dn + 1) = 80 * dn + (nw + (80 - nw)) by omega, sumN_app, ih (fun z k hz hk => h z k (by omega) hk), sumN_app]
    rw [sumN_z (F := fun k => pcw (S (80 * dn + (nw + k)))) (fun k hk => by rw [h dn (nw + k) (by omega) (by omega), if_neg (by omega), pcw_z])]
    rw [sumN_congr (F := fun k => pcw (S (80 * dn + k))) (G := fun k => pcw (Wd dn k)) (fun k hk => by rw [h dn k (by omega) (by omega), if_pos hk])]
    unfold totW
    omega
theorem u_la {B2 : Nat → Int} {wd ln u la : Int} (hu1 : 0 ≤ u ∧ u ≤ ln) (hu2 : ∀ k : Nat, 8 * u ≤ (k : Int) → (k : Int) < 8 * ln → vis B2 wd k = false) (hu3 : 0 < u → ∃ k : Nat, 8 * (u - 1) ≤ (k : Int) ∧ (k : Int) < 8 * u ∧ vis B2 wd k = true) (hl1 : -1 ≤ la ∧ la < 8 * ln) (hl2 : ∀ k : Nat, la < (k : Int) → (k : Int) < 8 * ln → vis B2 wd k = false) (hl3 : 0 ≤ la → vis B2 wd la.toNat = true) : (u = 0 ∧ la < 0) ∨ (0 < u ∧ 0 ≤ la ∧ u = la / 8 + 1) := by
  by_cases h : la < 0
  · refine Or.inl ⟨?_, h⟩
    by_cases q : 0 < u
    · obtain ⟨k, a, b, c⟩ := hu3 q
      rw [hl2 k (by omega) (by omega)] at c
      cases c
    · omega
  · have hv := hl3 (by omega)
    have h1 : la < 8 * u := by
      by_cases q : la < 8 * u
      · exact q
      · rw [hu2 la.toNat (by omega) (by omega)] at hv
        cases hv
    obtain ⟨k, a, b, c⟩ := hu3 (by omega)
    have h2 : (k : Int) ≤ la := by
      by_cases q : (k : Int) ≤ la
      · exact q
      · rw [hl2 k (by omega) (by omega)] at c
        cases c
    exact Or.inr ⟨by omega, by omega, by omega⟩
theorem row_eq {nw dn nS : Nat} {op ht rw r mr w2 mw2 ct c2 mt ln wd x y sc ac dI kr kb ov kr2 kb2 ov2 mkr2 mkb2 mov2 bd bd2 bk b2 u la th2 i : Int} {B B2 mB2 P : Nat → Int} {S S2 : Nat → Int64} {Wd Wd2 : Nat → Nat → Int64} {sf2 : Nat → Int64} (hop : op = 1) (htr : 0 < ht → rw ≤ ht) (hnw : (nw : Int) = (ac + 63) / 64) (hac : 1 ≤ ac ∧ ac ≤ 5100) (hdn : dI = (dn : Int) ∧ dn ≤ 5100) (hh : 0 ≤ ht ∧ ht ≤ 5119) (hrw : 0 ≤ rw ∧ rw ≤ 10001 * i) (hkr : 0 ≤ kr ∧ kr ≤ 4096) (hkb : 0 ≤ kb ∧ kb ≤ 65536) (hov : ov = 0 ∨ ov = 1) (hB : ∀ j : Nat, 0 ≤ B j ∧ B j < 256) (hPb : ∀ j : Nat, 0 ≤ P j ∧ P j < 256)
    (hbd : bd = ((totW Wd nw dn : Nat) : Int)) (hbk : bk = cntS S nS) (hSW : SW nw dn S Wd) (hC : (0 < ht ∧ ht ≤ rw ∧ r = -1 ∧ B2 = B ∧ w2 = rw ∧ kr2 = kr ∧ kb2 = kb ∧ ov2 = ov ∧ bd2 = bd ∧ Wd2 = Wd) ∨ ((ht = 0 ∨ rw < ht) ∧ r = rw ∧ B2 = unpS P ct ln mt B ∧ w2 = rw + 1 ∧ (0 ≤ u ∧ u ≤ ln) ∧ (∀ k : Nat, 8 * u ≤ (k : Int) → (k : Int) < 8 * ln → vis B2 wd k = false) ∧ (0 < u → ∃ k : Nat, 8 * (u - 1) ≤ (k : Int) ∧ (k : Int) < 8 * u ∧ vis B2 wd k = true) ∧ ((u = 0 ∧ kr2 = kr ∧ kb2 = kb ∧ ov2 = ov ∧ bd2 = bd ∧ Wd2 = Wd) ∨ (0 < u ∧ (4096 ≤ kr ∨ 65536 - kb < u) ∧ kr2 = kr ∧ kb2 = kb ∧ ov2 = 1 ∧ bd2 = bd ∧ Wd2 = Wd) ∨ (0 < u ∧ kr < 4096 ∧ u ≤ 65536 - kb ∧ kr2 = kr + 1 ∧ kb2 = kb + u ∧ ov2 = ov ∧ Wd2 = rowW Wd sf2 (y + sc * rw) sc ∧ (∀ u : Nat, dt sf2 u = true ↔ drw B2 wd x sc ac (fun _ => 0) (8 * ln) u) ∧ bd2 = bd + ((totW (Wd2) nw dn : Nat) : Int) - ((totW (Wd) nw dn : Nat) : Int))))) (hM : (th2 = 1 ∧ op = 0 ∧ mB2 = B ∧ c2 = ct ∧ mw2 = rw ∧ mkr2 = kr ∧ mkb2 = kb ∧ mov2 = ov ∧ b2 = bk ∧ S2 = S) ∨ (th2 = 0 ∧ op = 1 ∧ 0 < ht ∧ rw = ht ∧ mr = -1 ∧ mB2 = B ∧ c2 = 0 ∧ mw2 = rw ∧ mkr2 = kr ∧ mkb2 = kb ∧ mov2 = ov ∧ b2 = bk ∧ S2 = S) ∨ (th2 = 0 ∧ op = 1 ∧ (ht = 0 ∨ rw ≠ ht) ∧ mr = rw ∧ mB2 = unpS P ct ln mt B ∧ c2 = 0 ∧ mw2 = rw + 1 ∧ ((-1 ≤ la ∧ la < 8 * ln) ∧ (∀ k : Nat, la < (k : Int) → (k : Int) < 8 * ln → vis mB2 wd k = false) ∧ (0 ≤ la → vis mB2 wd la.toNat = true)) ∧ ((la < 0 ∧ mkr2 = kr ∧ mkb2 = kb ∧ mov2 = ov ∧ b2 = bk ∧ S2 = S) ∨ (0 ≤ la ∧ (4096 ≤ kr ∨ 65536 < kb + (la / 8 + 1)) ∧ mkr2 = kr ∧ mkb2 = kb ∧ mov2 = 1 ∧ b2 = bk ∧ S2 = S) ∨ (0 ≤ la ∧ kr < 4096 ∧ kb + (la / 8 + 1) ≤ 65536 ∧ mkr2 = kr + 1 ∧ mkb2 = kb + (la / 8 + 1) ∧ mov2 = ov ∧ b2 = bk + cntS S2 nS - cntS S nS ∧ (∀ z u : Nat, u < 5120 → (dS S2 z u = true ↔ drM mB2 S ac dI x (y + sc * rw) sc wd (8 * ln) z u)))))) :
    (th2 = 0 ∧ mr = r ∧ mB2 = B2 ∧ c2 = 0 ∧ mw2 = w2 ∧ mkr2 = kr2 ∧ mkb2 = kb2 ∧ mov2 = ov2) ∧ SW nw dn S2 Wd2 ∧ bd2 = ((totW Wd2 nw dn : Nat) : Int) ∧ b2 = cntS S2 nS ∧ (0 ≤ w2 ∧ w2 ≤ 10001 * (i + 4)) ∧ (0 < ht → w2 ≤ ht) ∧ (0 ≤ kr2 ∧ kr2 ≤ 4096) ∧ (0 ≤ kb2 ∧ kb2 ≤ 65536) ∧ (ov2 = 0 ∨ ov2 = 1) ∧ ∀ j : Nat, 0 ≤ B2 j ∧ B2 j < 256 := by
  rcases hC with ⟨c1, c2', c3, rfl, rfl, rfl, rfl, rfl, rfl, rfl⟩ | ⟨c1, c2', rfl, c4, hu1, hu2, hu3, hc⟩
  · rcases hM with ⟨-, m1, -⟩ | ⟨m0, m1, m2, m3, m4, rfl, m5, m6, rfl, rfl, rfl, rfl, rfl⟩ | ⟨-, m1, m2, -⟩
    · omega
    · exact ⟨⟨m0, by omega, rfl, m5, m6, rfl, rfl, rfl⟩, hSW, hbd, hbk, by omega, htr, hkr, hkb, hov, hB⟩
    · have := htr c1
      omega
  · rcases hM with ⟨-, m1, -⟩ | ⟨-, m1, m2, m3, -⟩ | ⟨m0, m1, m2, m3, rfl, m5, m6, ⟨l1, l2, l3⟩, hm⟩
    · clear hu3; omega
    · clear hu3; omega
    · have hul := u_la hu1 hu2 hu3 l1 l2 l3
      clear hu3
      have hBn : ∀ j : Nat, 0 ≤ unpS P ct ln mt B j ∧ unpS P ct ln mt B j < 256 := byte_unp hPb hB
      rcases hc with ⟨d0, rfl, rfl, rfl, rfl, rfl⟩ | ⟨d0, d1, rfl, rfl, rfl, rfl, rfl⟩ | ⟨d0, d1, d2, d3, d4, rfl, rfl, d5, d6⟩
      · rcases hm with ⟨e0, rfl, rfl, rfl, rfl, rfl⟩ | ⟨e0, -⟩ | ⟨e0, -⟩
        · exact ⟨⟨m0, by omega, rfl, m5, by omega, rfl, rfl, rfl⟩, hSW, hbd, hbk, by omega, by omega, hkr, hkb, hov, hBn⟩
        · omega
        · omega
      · rcases hm with ⟨e0, -⟩ | ⟨e0, e1, rfl, rfl, rfl, rfl, rfl⟩ | ⟨e0, e1, e2, -⟩
        · omega
        · exact ⟨⟨m0, by omega, rfl, m5, by omega, rfl, rfl, rfl⟩, hSW, hbd, hbk, by omega, by omega, hkr, hkb, Or.inr rfl, hBn⟩
        · omega
      · rcases hm with ⟨e0, -⟩ | ⟨e0, e1, -⟩ | ⟨e0, e1, e2, e3, e4, rfl, e5, e6⟩
        · omega
        · omega
        · exact ⟨⟨m0, by omega, rfl, m5, by omega, by omega, by omega, rfl⟩, SW_row hnw hac hdn.1 hSW d5 e6, by omega, by omega, by omega, by omega, by omega, by omega, hov, hBn⟩
