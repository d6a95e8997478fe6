def cfL (i : Int) : Nat := 100 + 8 * i.toNat
def sfL (i : Int) : Nat := 500000 + 400 * i.toNat
theorem cfL_0 {i : Int} (hi : 3 ≤ i ∧ i ≤ 2055) : cfL i ≤ 600000 := by unfold cfL; omega
theorem cfL_k {i : Int} (hi : 3 ≤ i ∧ i ≤ 2055) {k : Nat} (hk : k ≤ 100) : cfL i + k ≤ 600000 := by unfold cfL; omega
theorem sfL_0 {i : Int} (hi : 3 ≤ i ∧ i ≤ 2055) : sfL i ≤ 7000000 := by unfold sfL; omega
theorem sfL_k {i : Int} (hi : 3 ≤ i ∧ i ≤ 2055) {k : Nat} (hk : k ≤ 1000) : sfL i + k ≤ 7000000 := by unfold sfL; omega
theorem cfL_w {i : Int} (hi : 3 ≤ i ∧ i ≤ 2055) : cfL i ≤ cfL (i + 4) := by unfold cfL; omega
theorem cfL_wk {i : Int} (hi : 3 ≤ i ∧ i ≤ 2055) {k : Nat} (hk : k ≤ 32) : cfL i + k ≤ cfL (i + 4) := by unfold cfL; omega
theorem sfL_w {i : Int} (hi : 3 ≤ i ∧ i ≤ 2055) : sfL i ≤ sfL (i + 4) := by unfold sfL; omega
theorem sfL_wk {i : Int} (hi : 3 ≤ i ∧ i ≤ 2055) {k : Nat} (hk : k ≤ 1600) : sfL i + k ≤ sfL (i + 4) := by unfold sfL; omega
theorem xrm {rm : Room} {maxL cells slots : Nat} (h : rm.frames + 1 ≤ room_1.frames ∧ 8 + (maxL + 11) + rm.locals ≤ room_1.locals) (h2 : rm.cells ≤ 1000 ∧ rm.slots ≤ 200000) (hc : cells ≤ 600000) (hs : slots ≤ 7000000) : xRoom room_1 rm maxL cells slots := ⟨h, Nat.le_trans (show cells + rm.cells ≤ 601000 by omega) (show 601000 ≤ room_1.cells by decide), Nat.le_trans (show slots + rm.slots ≤ 7200000 by omega) (show 7200000 ≤ room_1.slots by decide)⟩
theorem nxi {i : Int} {L : Nat} (hi : 3 ≤ i ∧ i ≤ 2055) (hi4 : i + 4 ≤ (L : Int)) (hLL : L ≤ 2051) : 3 ≤ i + 4 ∧ i + 4 ≤ 2055 := by omega
theorem nxr {i rw : Int} (h : 0 ≤ rw ∧ rw ≤ 10001 * i) : 0 ≤ rw ∧ rw ≤ 10001 * (i + 4) := by omega
theorem ixk {i k : Int} {L : Nat} (hi : 3 ≤ i ∧ i ≤ 2055) (hi4 : i + 4 ≤ (L : Int)) (hk : 0 ≤ k ∧ k < 4) : 0 ≤ i + k ∧ i + k < (L : Int) ∧ i + k < 2147483648 := by omega
theorem r01 {r : Int} (h : r = 0 ∨ r = 1) : inR r := by omega
theorem res_eq {op z r mr rs rs2 mrs2 : Int} (hrs : rs = 75 ∨ rs = 100 ∨ rs = 150 ∨ rs = 300) (hC : (r = 1 ∧ op = 0 ∧ (z = 75 ∨ z = 100 ∨ z = 150 ∨ z = 300) ∧ rs2 = z) ∨ (r = 0 ∧ (op = 1 ∨ (z ≠ 75 ∧ z ≠ 100 ∧ z ≠ 150 ∧ z ≠ 300)) ∧ rs2 = rs)) (hM : (mr = 1 ∧ op = 0 ∧ (z = 75 ∨ z = 100 ∨ z = 150 ∨ z = 300) ∧ mrs2 = z) ∨ (mr = 0 ∧ (op = 1 ∨ (z ≠ 75 ∧ z ≠ 100 ∧ z ≠ 150 ∧ z ≠ 300)) ∧ mrs2 = rs)) : (mr = r ∧ mrs2 = rs2 ∧ inR r) ∧ (rs2 = 75 ∨ rs2 = 100 ∨ rs2 = 150 ∨ rs2 = 300) := by omega
theorem siz_eq {hg n r mr nW nH w2 t2 mw2 mt2 : Int} (hnW : 0 ≤ nW ∧ nW ≤ 5119) (hnH : 0 ≤ nH ∧ nH ≤ 5119) (hC : (r = 1 ∧ 0 ≤ n ∧ n ≤ 5119 ∧ ((hg = 1 ∧ w2 = nW ∧ t2 = n) ∨ (hg = 0 ∧ w2 = n ∧ t2 = nH))) ∨ (r = 0 ∧ (n < 0 ∨ 5119 < n) ∧ w2 = nW ∧ t2 = nH)) (hM : (mr = 1 ∧ 0 ≤ n ∧ n ≤ 5119 ∧ ((hg = 1 ∧ mw2 = nW ∧ mt2 = n) ∨ (hg = 0 ∧ mw2 = n ∧ mt2 = nH))) ∨ (mr = 0 ∧ (n < 0 ∨ 5119 < n) ∧ mw2 = nW ∧ mt2 = nH)) : (mr = r ∧ mw2 = w2 ∧ mt2 = t2 ∧ inR r) ∧ (0 ≤ w2 ∧ w2 ≤ 5119) ∧ 0 ≤ t2 ∧ t2 ≤ 5119 := by omega
theorem met_eq {n r mr mt m2 mm2 : Int} (hmt : 0 ≤ mt ∧ mt ≤ 3) (hC : (r = 1 ∧ 0 ≤ n ∧ n ≤ 3 ∧ m2 = n) ∨ (r = 0 ∧ (n < 0 ∨ 3 < n) ∧ m2 = mt)) (hM : (mr = 1 ∧ 0 ≤ n ∧ n ≤ 3 ∧ mm2 = n) ∨ (mr = 0 ∧ (n < 0 ∨ 3 < n) ∧ mm2 = mt)) : (mr = r ∧ mm2 = m2 ∧ inR r) ∧ 0 ≤ m2 ∧ m2 ≤ 3 := by omega
theorem rw8 {i rw : Int} (hi : 3 ≤ i ∧ i ≤ 2055) (h : 0 ≤ rw ∧ rw ≤ 10001 * i) : 0 ≤ rw ∧ rw ≤ 100000000 := by omega
theorem rw9 {i rw : Int} (hi : 3 ≤ i ∧ i ≤ 2055) (h : 0 ≤ rw ∧ rw ≤ 10001 * i) : 0 ≤ rw ∧ rw ≤ 1000000000 := by omega
theorem skc {n op : Int} (hop : op = 0 ∨ op = 1) : (n < 0 ∨ 10000 < n) ∨ ((0 ≤ n ∧ n ≤ 10000) ∧ op = 0) ∨ ((0 ≤ n ∧ n ≤ 10000) ∧ op = 1) := by omega
theorem blc (x y ac dI : Int) : (x < 0 ∨ ac ≤ x ∨ y < 0 ∨ dI ≤ y) ∨ ((0 ≤ x ∧ x < ac) ∧ (0 ≤ y ∧ y < dI)) := by omega
theorem blr {r : Int} {o : Int64} (h : (o = 1 ∧ r = 1) ∨ (o = 0 ∧ r = 0)) : inR r := r01 (h.elim (fun z => Or.inr z.2) (fun z => Or.inl z.2))
theorem blx0 {r : Int} {o : Int64} (h : (o = 1 ∧ r = 1) ∨ (o = 0 ∧ r = 0)) (c : r = 0) : o = 0 := by
  rcases h with ⟨a, b⟩ | ⟨a, b⟩
  · omega
  · exact a
theorem blx1 {r : Int} {o : Int64} (h : (o = 1 ∧ r = 1) ∨ (o = 0 ∧ r = 0)) (c : ¬ r = 0) : o = 1 := by
  rcases h with ⟨a, b⟩ | ⟨a, b⟩
  · exact a
  · omega
theorem bdr {nS : Nat} {S : Nat → Int64} {bd bk dI : Int} (h : bd = bk) (hbk : bk = cntS S nS) (hnS : (nS : Int) = 80 * dI) (hdI : 1 ≤ dI ∧ dI ≤ 5100) : inR bd := by
  have := cnt_le S nS
  omega
theorem look_r (wh op ov : Int) {ac dI dp rs mt rw ln sc ct kr kb bd i : Int} (hi : 3 ≤ i ∧ i ≤ 2055) (hac : 1 ≤ ac ∧ ac ≤ 5100) (hdI : 1 ≤ dI ∧ dI ≤ 5100) (hdp : dp = 75 ∨ dp = 150 ∨ dp = 300) (hrs : rs = 75 ∨ rs = 100 ∨ rs = 150 ∨ rs = 300) (hmt : 0 ≤ mt ∧ mt ≤ 3) (hrw : 0 ≤ rw ∧ rw ≤ 10001 * i) (hln : 0 ≤ ln ∧ ln ≤ 640) (hsc : 1 ≤ sc ∧ sc ≤ 4) (hct : 0 ≤ ct ∧ ct ≤ 4096) (hkr : 0 ≤ kr ∧ kr ≤ 4096) (hkb : 0 ≤ kb ∧ kb ≤ 65536) (hbd : inR bd) : inR (lookS wh ac dI dp rs mt op rw ln sc ct kr kb ov bd) :=
  lookS_r (by omega) (by omega) (by omega) (by omega) (by omega) (by omega) (by omega) (by omega) (by omega) (by omega) (by omega) hbd
