-- for the reference: bytes of data by an arithmetic shift, single dots, counting
theorem tb_sshr (w : Int64) {z : Int} (h1 : 0 ≤ z) (h2 : z < 64) {i : Nat} (hi : i + z.toNat < 64) : tb (w >>> ((iI z).toInt64 &&& 63)) i = tb w (z.toNat + i) := by
  obtain ⟨k, rfl⟩ := Int.eq_ofNat_of_zero_le h1
  rw [iI_nat, wb_c k (by omega)]
  show (w >>> lN k).toBitVec.getLsbD i = _
  rw [Int64.toBitVec_shiftRight, wb_tb, wb_sm k (by omega)]
  have e1 : (BitVec.ofNat 64 k).toNat = k := by rw [BitVec.toNat_ofNat, Nat.mod_eq_of_lt (by omega)]
  rw [BitVec.sshiftRight_eq', e1, BitVec.getLsbD_sshiftRight]
  simp only [Int.toNat_natCast] at hi
  simp [show ¬ 64 ≤ i by omega, show k + i < 64 by omega, tb]
theorem byt_s (w : Int64) {i : Int} (h1 : 0 ≤ i) (h2 : i < 8) : (w >>> ((iI (8 * i)).toInt64 &&& 63)) &&& 255 = lN (byt w i).toNat := by
  have hb := byt_r w i
  apply tb_ext
  intro j hj
  rw [tb_and, tb_lN (by omega)]
  have e255 : ∀ j, j < 64 → tb 255 j = decide (j < 8) := by decide +kernel
  rw [e255 j hj]
  have e1 : (byt w i).toNat = (wN w / 2 ^ (8 * i).toNat) % 2 ^ 8 := by unfold byt; omega
  rw [e1, Nat.testBit_mod_two_pow, Nat.testBit_div_two_pow]
  by_cases q : j < 8
  · rw [tb_sshr w (by omega) (by omega) (by omega)]
    have : tb w ((8 * i).toNat + j) = (wN w).testBit ((8 * i).toNat + j) := by
      conv => lhs; rw [wN_eq w]
      exact tb_lN (wN_lt w) _
    rw [this]
    simp [q, Nat.add_comm]
  · simp [q]
theorem isb {B : Nat → Int} (hB : ∀ j : Nat, 0 ≤ B j ∧ B j < 256) {k : Int} (hk : 0 ≤ k) : ∃ z : Int, ((iI (B (k / 8).toNat)) >>> ((iI (7 - (k % 8))) &&& 31)) &&& iI 1 = iI z ∧ ((z = 1 ∧ bb (B (k.toNat / 8)) (k.toNat % 8) = true) ∨ (z = 0 ∧ bb (B (k.toNat / 8)) (k.toNat % 8) = false)) := by
  obtain ⟨n, rfl⟩ := Int.eq_ofNat_of_zero_le hk
  have e1 : ((n : Int) / 8).toNat = n / 8 := by omega
  have e2 : ((n : Int)).toNat = n := by omega
  rw [e1, e2]
  obtain ⟨v, hv, ev⟩ := byteN (hB (n / 8))
  have h3 := bb_t3 v hv (n % 8) (Nat.mod_lt _ (by decide))
  rw [ev, show (7 : Int) - (n : Int) % 8 = 7 - ((n % 8 : Nat) : Int) by omega]
  refine ⟨if bb v (n % 8) then 1 else 0, h3, ?_⟩
  cases bb v (n % 8)
  · exact Or.inr ⟨rfl, rfl⟩
  · exact Or.inl ⟨rfl, rfl⟩
theorem vis_k {B : Nat → Int} {wd : Int} {k : Int} (hk : 0 ≤ k) (h : wd = 0 ∨ k < wd) : vis B wd k.toNat = bb (B (k.toNat / 8)) (k.toNat % 8) := by
  unfold vis
  rw [← Bool.decide_or, decide_eq_true (show wd = 0 ∨ ((k.toNat : Nat) : Int) < wd by omega), Bool.true_and]
theorem vis_no {B : Nat → Int} {wd : Int} {k : Int} (hk : 0 ≤ k) (h : wd ≠ 0 ∧ wd ≤ k) : vis B wd k.toNat = false := by
  unfold vis
  rw [← Bool.decide_or, decide_eq_false (show ¬ (wd = 0 ∨ ((k.toNat : Nat) : Int) < wd) by omega), Bool.false_and]
-- the reference's sheet: 80 words a line
def dS (S : Nat → Int64) (z u : Nat) : Bool := dt (fun k => S (80 * z + k)) u
theorem dS_set (S : Nat → Int64) {v u : Nat} (hu : u < 5120) (z w : Nat) (hw : w < 5120) : dS (va_up S (80 * v + u / 64) (S (80 * v + u / 64) ||| bW (63 - u % 64))) z w = (dS S z w || decide (z = v ∧ w = u)) := by
  unfold dS dt
  dsimp only
  by_cases h : 80 * z + w / 64 = 80 * v + u / 64
  · rw [h, up_s, tb_or, tb_bW (by omega)]
    congr 1
    exact decide_eq_decide.mpr (by omega)
  · rw [up_n _ _ h]
    have : ¬ (z = v ∧ w = u) := fun q => h (by rw [q.1, q.2])
    simp [this]
theorem bW_and {w : Int64} {k : Nat} (hk : k < 64) : w &&& bW k = 0 ↔ tb w k = false := by
  constructor
  · intro h
    have := congrArg (fun x => tb x k) h
    simp only [tb_and, tb_bW hk, tb_0] at this
    simpa using this
  · intro h
    apply tb_ext
    intro i hi
    rw [tb_and, tb_bW hk, tb_0]
    by_cases e : i = k
    · subst e; rw [h]; rfl
    · simp [e]
theorem pcN_one (k : Nat) : ∀ n, pcN (fun i => decide (i = k)) n = if k < n then 1 else 0
  | 0 => by simp [pcN]
  | n + 1 => by
    show pcN _ n + (decide (n = k)).toNat = _
    rw [pcN_one k n]
    by_cases h : n = k
    · subst h; simp
    · by_cases h2 : k < n
      · rw [if_pos h2, if_pos (by omega)]; simp [h]
      · rw [if_neg h2, if_neg (by omega)]; simp [h]
theorem pcN_none : ∀ n, pcN (fun _ => false) n = 0
  | 0 => rfl
  | n + 1 => by show pcN _ n + 0 = 0; rw [pcN_none n]
theorem pcw_bit (w : Int64) {k : Nat} (hk : k < 64) : pcw (w ||| bW k) = pcw w + (if tb w k = true then 0 else 1) := by
  rw [pcw_or]
  congr 1
  by_cases h : tb w k = true
  · rw [if_pos h]
    refine (pcN_congr (q := fun _ => false) (fun i hi => ?_)).trans (pcN_none 64)
    rw [tb_and, tb_bW hk, tb_xor, tb_m1 i hi]
    by_cases e : i = k
    · subst e; rw [h]; simp
    · simp [e]
  · rw [if_neg h]
    refine (pcN_congr (q := fun i => decide (i = k)) (fun i hi => ?_)).trans ((pcN_one k 64).trans (if_pos hk))
    rw [tb_and, tb_bW hk, tb_xor, tb_m1 i hi]
    by_cases e : i = k
    · subst e
      have : tb w i = false := by cases q : tb w i <;> simp_all
      rw [this]; simp
    · simp [e]
theorem sumN_set {S : Nat → Int64} {n j : Nat} (hj : j < n) (x : Int64) : sumN (fun i => pcw (va_up S j x i)) n + pcw (S j) = sumN (fun i => pcw (S i)) n + pcw x := by
  have := sumN_one (F := fun i => pcw (S i)) (G := fun i => pcw (va_up S j x i)) hj (fun z _ e => by show pcw (va_up S j x z) = pcw (S z); rw [up_n _ _ e])
  simp only [up_s] at this
  exact this
