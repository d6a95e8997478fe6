-- bits of longs
def tb (w : Int64) (i : Nat) : Bool := w.toBitVec.getLsbD i
theorem tb_ext {a b : Int64} (h : ∀ i, i < 64 → tb a i = tb b i) : a = b := Int64.toBitVec.inj (BitVec.eq_of_getLsbD_eq h)
theorem tb_or (a b : Int64) (i : Nat) : tb (a ||| b) i = (tb a i || tb b i) := by simp [tb]
theorem tb_and (a b : Int64) (i : Nat) : tb (a &&& b) i = (tb a i && tb b i) := by simp [tb]
theorem tb_xor (a b : Int64) (i : Nat) : tb (a ^^^ b) i = (tb a i ^^ tb b i) := by simp [tb]
theorem tb_0 (i : Nat) : tb 0 i = false := by simp [tb]
theorem tb_m1 : ∀ i, i < 64 → tb (-1) i = true := by decide +kernel
theorem tb_big {a : Int64} {i : Nat} (h : 64 ≤ i) : tb a i = false := BitVec.getLsbD_of_ge _ _ h
def bW (k : Nat) : Int64 := Int64.ofBitVec (BitVec.twoPow 64 k)
theorem tb_bW {k : Nat} (hk : k < 64) (i : Nat) : tb (bW k) i = decide (i = k) := by
  show (BitVec.twoPow 64 k).getLsbD i = _
  rw [BitVec.getLsbD_twoPow]
  by_cases h : i = k
  · subst h; simp [hk]
  · have : ¬ k = i := fun q => h q.symm
    simp [h, this]
theorem bW_shl : ∀ k : Nat, k < 64 → (1 : Int64) <<< ((iI (k : Int)).toInt64 &&& 63) = bW k := by decide +kernel
-- masks and shifts of ints
theorem iI_mask (z : Int) (k : Nat) (hk : k ≤ 30) {m : Int} (hm : (iI m).toBitVec.toNat = 2 ^ k - 1) : iI z &&& iI m = iI (z % 2 ^ k) := by
  rw [pk_and (iI z) k hm]
  have e1 : (iI z).toBitVec.toNat = (z % 2 ^ 32).toNat := by
    show (BitVec.ofInt 32 z).toNat = _
    rw [BitVec.toNat_ofInt]; rfl
  rw [e1, ← iI_nat]
  congr 1
  have h2 : (2 : Int) ^ 32 = 2 ^ k * 2 ^ (32 - k) := by
    rw [← Int.pow_add]; congr 1; omega
  have hpos : (0 : Int) < 2 ^ k := Int.pow_pos (by decide)
  have hb : 0 ≤ z % 2 ^ 32 := Int.emod_nonneg _ (by decide)
  have e3 : (((z % 2 ^ 32).toNat % 2 ^ k : Nat) : Int) = (z % 2 ^ 32) % 2 ^ k := by
    rw [Int.natCast_emod, Int.toNat_of_nonneg hb]; simp
  rw [e3]
  exact Int.emod_emod_of_dvd z ⟨_, h2⟩
theorem iI_and63 (z : Int) : iI z &&& iI 63 = iI (z % 64) := iI_mask z 6 (by decide) (by decide +kernel)
theorem iI_and15 (z : Int) : iI z &&& iI 15 = iI (z % 16) := iI_mask z 4 (by decide) (by decide +kernel)
theorem iI_and1 (z : Int) : iI z &&& iI 1 = iI (z % 2) := iI_mask z 1 (by decide) (by decide +kernel)
theorem iI_and255 (z : Int) : iI z &&& iI 255 = iI (z % 256) := iI_mask z 8 (by decide) (by decide +kernel)
theorem iI_shr {z : Int} (hz : inR z) {t : Int} {k : Nat} (hs : ((iI t &&& 31).toBitVec.smod 32).toNat = k) : iI z >>> (iI t &&& 31) = iI (z / 2 ^ k) := by
  apply Int32.toInt_inj.mp
  have h2 : (1 : Int) ≤ 2 ^ k := by
    have h : (0 : Int) < 2 ^ k := Int.pow_pos (by decide)
    exact h
  rw [pk_shr _ _ k hs, iI_toInt hz, Int.shiftRight_eq_div_pow]
  have a1 : z / 2 ^ k ≤ 2147483647 := by
    apply Int.ediv_le_of_le_mul (by omega)
    have : (2147483647 : Int) * 1 ≤ 2147483647 * 2 ^ k := Int.mul_le_mul_of_nonneg_left h2 (by decide)
    omega
  have a2 : -2147483648 ≤ z / 2 ^ k := by
    apply Int.le_ediv_of_mul_le (by omega)
    have : (-2147483648 : Int) * 2 ^ k ≤ -2147483648 * 1 := Int.mul_le_mul_of_nonpos_left (by decide) h2
    omega
  rw [iI_toInt ⟨a2, by omega⟩]; simp
theorem iI_shr6 {z : Int} (hz : inR z) : iI z >>> (iI 6 &&& 31) = iI (z / 64) := iI_shr hz (k := 6) (by decide +kernel)
-- bits of bytes: dot t of a byte, the first one highest
def bb (v : Int) (t : Nat) : Bool := decide (v / 2 ^ (7 - t) % 2 = 1)
theorem bb_t1 : ∀ v : Nat, v < 256 → ∀ t : Nat, t < 8 → (iI (v : Int) &&& (iI 128 >>> (iI (t : Int) &&& 31)) = 0 ↔ bb v t = false) := by decide +kernel
theorem bb_t2 : ∀ v : Nat, v < 256 → ∀ t : Nat, t < 9 → iI (v : Int) &&& (iI 255 <<< (iI (t : Int) &&& 31)) = iI (v - v % 2 ^ t) := by decide +kernel
theorem bb_t3 : ∀ v : Nat, v < 256 → ∀ t : Nat, t < 8 → (iI (v : Int) >>> (iI (7 - t : Int) &&& 31)) &&& iI 1 = iI (if bb v t then 1 else 0) := by decide +kernel
-- counting
def pcN (p : Nat → Bool) : Nat → Nat
  | 0 => 0
  | n + 1 => pcN p n + (p n).toNat
def pcw (w : Int64) : Nat := pcN (tb w) 64
