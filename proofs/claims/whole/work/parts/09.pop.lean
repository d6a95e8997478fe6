-- counting bits as Long.bitCount does it, over natural numbers
theorem pcN_add (p : Nat → Bool) (a b : Nat) : pcN p (a + b) = pcN p a + pcN (fun i => p (a + i)) b := by
  induction b with
  | zero => rfl
  | succ b ih => show pcN p (a + b) + (p (a + b)).toNat = _; rw [ih]; exact Nat.add_assoc _ _ _
theorem pcN_congr {p q : Nat → Bool} {n : Nat} (h : ∀ i, i < n → p i = q i) : pcN p n = pcN q n := by
  induction n with
  | zero => rfl
  | succ n ih => show pcN p n + (p n).toNat = pcN q n + (q n).toNat; rw [ih (fun i hi => h i (by omega)), h n (by omega)]
theorem pcN_le (p : Nat → Bool) (n : Nat) : pcN p n ≤ n := by
  induction n with
  | zero => exact Nat.le_refl 0
  | succ n ih =>
    have : (p n).toNat ≤ 1 := by cases p n <;> decide
    show pcN p n + (p n).toNat ≤ n + 1
    omega
def pc4 (d : Nat) : Nat := pcN d.testBit 4
theorem pc4_le (d : Nat) : pc4 d ≤ 4 := pcN_le _ _
theorem and_split (a b c : Nat) (hb : b < 16) : a &&& (b + 16 * c) = (a % 16 &&& b) + 16 * (a / 16 &&& c) := by
  have h1 : (a &&& (b + 16 * c)) % 2 ^ 4 = (a % 2 ^ 4) &&& ((b + 16 * c) % 2 ^ 4) := Nat.and_mod_two_pow
  have h2 : (a &&& (b + 16 * c)) / 2 ^ 4 = (a / 2 ^ 4) &&& ((b + 16 * c) / 2 ^ 4) := Nat.and_div_two_pow
  have e1 : (b + 16 * c) % 2 ^ 4 = b := by omega
  have e2 : (b + 16 * c) / 2 ^ 4 = c := by omega
  rw [e1] at h1
  rw [e2] at h2
  have h3 := Nat.mod_add_div (a &&& (b + 16 * c)) (2 ^ 4)
  rw [h1, h2] at h3
  exact h3.symm
theorem and_split2 (a c : Nat) : a &&& (15 + 256 * c) = a % 16 + 256 * (a / 256 &&& c) := by
  rw [show 15 + 256 * c = 15 + 16 * (0 + 16 * c) by omega, and_split a 15 _ (by decide), and_split (a / 16) 0 c (by decide)]
  have h1 : a % 16 &&& 15 = a % 16 := by
    have := Nat.and_two_pow_sub_one_eq_mod (a % 16) 4
    rw [show 2 ^ 4 - 1 = 15 by decide] at this
    omega
  rw [h1, Nat.and_zero, Nat.div_div_eq_div_mul, show 16 * 16 = 256 by decide]
  omega
def m5 : Nat → Nat
  | 0 => 0
  | k + 1 => 5 + 16 * m5 k
def m3 : Nat → Nat
  | 0 => 0
  | k + 1 => 3 + 16 * m3 k
def mF : Nat → Nat
  | 0 => 0
  | k + 1 => 15 + 256 * mF k
def gN (f : Nat → Nat) : Nat → Nat → Nat
  | 0, _ => 0
  | k + 1, n => f (n % 16) + 16 * gN f k (n / 16)
theorem t_f1 : ∀ d, d < 16 → ∀ b, b < 2 → (d / 2 + 8 * b) &&& 5 = d / 2 &&& 5 := by decide +kernel
theorem t_f2 : ∀ d, d < 16 → ∀ b, b < 4 → (d / 4 + 4 * b) &&& 3 = d / 4 &&& 3 := by decide +kernel
theorem t_f3 : ∀ d, d < 16 → d / 2 &&& 5 ≤ d ∧ d - (d / 2 &&& 5) < 16 ∧ ((d - (d / 2 &&& 5)) &&& 3) + ((d - (d / 2 &&& 5)) / 4 &&& 3) = pc4 d := by decide +kernel
theorem pop1 : ∀ (k n : Nat), n < 16 ^ k → n - (n / 2 &&& m5 k) = gN (fun d => d - (d / 2 &&& 5)) k n
  | 0, n, h => by have : n = 0 := by simpa using h
                  subst this; rfl
  | k + 1, n, h => by
    have ih := pop1 k (n / 16) (by rw [Nat.pow_succ] at h; omega)
    show n - (n / 2 &&& (5 + 16 * m5 k)) = (n % 16 - (n % 16 / 2 &&& 5)) + 16 * gN _ k (n / 16)
    rw [and_split _ _ _ (by decide), ← ih]
    have e1 : n / 2 % 16 = n % 16 / 2 + 8 * (n / 16 % 2) := by omega
    have e2 : n / 2 / 16 = n / 16 / 2 := by omega
    rw [e1, e2, t_f1 _ (Nat.mod_lt _ (by decide)) _ (Nat.mod_lt _ (by decide))]
    have h1 := (t_f3 (n % 16) (Nat.mod_lt _ (by decide))).1
    have h2 : n / 16 / 2 &&& m5 k ≤ n / 16 / 2 := Nat.and_le_left
    omega
theorem pop2 : ∀ (k a : Nat), a < 16 ^ k → (a &&& m3 k) + (a / 4 &&& m3 k) = gN (fun d => (d &&& 3) + (d / 4 &&& 3)) k a
  | 0, a, h => by show (a &&& 0) + (a / 4 &&& 0) = 0; simp
  | k + 1, a, h => by
    have ih := pop2 k (a / 16) (by rw [Nat.pow_succ] at h; omega)
    show (a &&& (3 + 16 * m3 k)) + (a / 4 &&& (3 + 16 * m3 k)) = ((a % 16 &&& 3) + (a % 16 / 4 &&& 3)) + 16 * gN _ k (a / 16)
    rw [and_split _ _ _ (by decide), and_split _ _ _ (by decide), ← ih]
    have e1 : a / 4 % 16 = a % 16 / 4 + 4 * (a / 16 % 4) := by omega
    have e2 : a / 4 / 16 = a / 16 / 4 := by omega
    rw [e1, e2, t_f2 _ (Nat.mod_lt _ (by decide)) _ (Nat.mod_lt _ (by decide))]
    omega
theorem gN_lt (f : Nat → Nat) (hf : ∀ d, d < 16 → f d < 16) : ∀ (k n : Nat), gN f k n < 16 ^ k
  | 0, n => by show 0 < 1; decide
  | k + 1, n => by
    have h1 := gN_lt f hf k (n / 16)
    have h2 := hf (n % 16) (Nat.mod_lt _ (by decide))
    show f (n % 16) + 16 * gN f k (n / 16) < 16 ^ (k + 1)
    rw [Nat.pow_succ]; omega
theorem gN_comp (f g h : Nat → Nat) (hf : ∀ d, d < 16 → f d < 16) (hg : ∀ d, d < 16 → g (f d) = h d) : ∀ (k n : Nat), gN g k (gN f k n) = gN h k n
  | 0, n => rfl
  | k + 1, n => by
    have h1 := hf (n % 16) (Nat.mod_lt _ (by decide))
    show g ((f (n % 16) + 16 * gN f k (n / 16)) % 16) + 16 * gN g k ((f (n % 16) + 16 * gN f k (n / 16)) / 16) = h (n % 16) + 16 * gN h k (n / 16)
    have e1 : (f (n % 16) + 16 * gN f k (n / 16)) % 16 = f (n % 16) := by omega
    have e2 : (f (n % 16) + 16 * gN f k (n / 16)) / 16 = gN f k (n / 16) := by omega
    rw [e1, e2, hg _ (Nat.mod_lt _ (by decide)), gN_comp f g h hf hg k (n / 16)]
theorem pop12 {n : Nat} {k : Nat} (h : n < 16 ^ k) : ((n - (n / 2 &&& m5 k)) &&& m3 k) + ((n - (n / 2 &&& m5 k)) / 4 &&& m3 k) = gN pc4 k n := by
  have hf : ∀ d, d < 16 → d - (d / 2 &&& 5) < 16 := fun d hd => (t_f3 d hd).2.1
  rw [pop1 k n h, pop2 k _ (gN_lt _ hf k n), gN_comp _ _ pc4 hf (fun d hd => (t_f3 d hd).2.2)]
def hB : Nat → Nat → Nat
  | 0, _ => 0
  | k + 1, n => (pc4 (n % 16) + pc4 (n / 16 % 16)) + 256 * hB k (n / 256)
theorem gN_mod (k n : Nat) : gN pc4 k n % 16 ≤ 4 := by
  cases k with
  | zero => show 0 % 16 ≤ 4; decide
  | succ k =>
    have := pc4_le (n % 16)
    show (pc4 (n % 16) + 16 * gN pc4 k (n / 16)) % 16 ≤ 4
    omega
theorem pop3 : ∀ (k n : Nat), (gN pc4 (2 * k) n + gN pc4 (2 * k) n / 16) &&& mF k = hB k n
  | 0, n => by show _ &&& 0 = 0; simp
  | k + 1, n => by
    have ih := pop3 k (n / 256)
    have h0 := pc4_le (n % 16)
    have h1 := pc4_le (n / 16 % 16)
    have e0 : gN pc4 (2 * (k + 1)) n = pc4 (n % 16) + 16 * (pc4 (n / 16 % 16) + 16 * gN pc4 (2 * k) (n / 256)) := by
      show pc4 (n % 16) + 16 * (pc4 (n / 16 % 16) + 16 * gN pc4 (2 * k) (n / 16 / 16)) = _
      rw [Nat.div_div_eq_div_mul]
    have h2 := gN_mod (2 * k) (n / 256)
    rw [e0]
    show _ &&& (15 + 256 * mF k) = (pc4 (n % 16) + pc4 (n / 16 % 16)) + 256 * hB k (n / 256)
    generalize gN pc4 (2 * k) (n / 256) = a at ih h2 ⊢
    generalize pc4 (n % 16) = x at h0 ⊢
    generalize pc4 (n / 16 % 16) = y at h1 ⊢
    rw [and_split2, ← ih]
    have e1 : (x + 16 * (y + 16 * a) + (x + 16 * (y + 16 * a)) / 16) % 16 = x + y := by omega
    have e2 : (x + 16 * (y + 16 * a) + (x + 16 * (y + 16 * a)) / 16) / 256 = a + a / 16 := by omega
    rw [e1, e2]
theorem pcN_nib (k n : Nat) : pcN n.testBit (4 + k) = pc4 (n % 16) + pcN (n / 16).testBit k := by
  rw [pcN_add]
  congr 1
  · exact pcN_congr (fun i hi => by rw [show (16 : Nat) = 2 ^ 4 by decide, Nat.testBit_mod_two_pow]; simp [hi])
  · exact pcN_congr (fun i hi => by rw [show (16 : Nat) = 2 ^ 4 by decide, Nat.testBit_div_two_pow]; congr 1; omega)
theorem pcN_byte (k n : Nat) : pcN n.testBit (8 + k) = (pc4 (n % 16) + pc4 (n / 16 % 16)) + pcN (n / 256).testBit k := by
  rw [show 8 + k = 4 + (4 + k) by omega, pcN_nib, pcN_nib, Nat.div_div_eq_div_mul, show 16 * 16 = 256 by decide]; omega
theorem pop_sum (n : Nat) : ∃ c0 c1 c2 c3 c4 c5 c6 c7 : Nat, (c0 ≤ 8 ∧ c1 ≤ 8 ∧ c2 ≤ 8 ∧ c3 ≤ 8 ∧ c4 ≤ 8 ∧ c5 ≤ 8 ∧ c6 ≤ 8 ∧ c7 ≤ 8) ∧ hB 8 n = c0 + 256 * (c1 + 256 * (c2 + 256 * (c3 + 256 * (c4 + 256 * (c5 + 256 * (c6 + 256 * (c7 + 256 * 0))))))) ∧ pcN n.testBit 64 = c0 + (c1 + (c2 + (c3 + (c4 + (c5 + (c6 + (c7 + 0))))))) := by
  have b : ∀ x : Nat, pc4 (x % 16) + pc4 (x / 16 % 16) ≤ 8 := fun x => by have := pc4_le (x % 16); have := pc4_le (x / 16 % 16); omega
  exact ⟨_, _, _, _, _, _, _, _, ⟨b _, b _, b _, b _, b _, b _, b _, b _⟩, rfl, by
    rw [show 64 = 8 + (8 + (8 + (8 + (8 + (8 + (8 + (8 + 0))))))) by decide, pcN_byte, pcN_byte, pcN_byte, pcN_byte, pcN_byte, pcN_byte, pcN_byte, pcN_byte]; rfl⟩
/-- the steps of Long.bitCount -/
def bc3 (n : Nat) : Nat := hB 8 n
def bc6 (n : Nat) : Nat := (bc3 n + bc3 n / 256 + (bc3 n + bc3 n / 256) / 65536) + (bc3 n + bc3 n / 256 + (bc3 n + bc3 n / 256) / 65536) / 4294967296
theorem dv1 (x y : Nat) (h : x < 256) : (x + 256 * y) / 256 = y := by omega
theorem dv2 (x0 x1 y : Nat) (h0 : x0 < 256) (h1 : x1 < 256) : (x0 + 256 * (x1 + 256 * y)) / 65536 = y := by omega
theorem dv4 (x0 x1 x2 x3 y : Nat) (h0 : x0 < 256) (h1 : x1 < 256) (h2 : x2 < 256) (h3 : x3 < 256) : (x0 + 256 * (x1 + 256 * (x2 + 256 * (x3 + 256 * y)))) / 4294967296 = y := by
  rw [show 4294967296 = 65536 * 65536 by decide, ← Nat.div_div_eq_div_mul, dv2 _ _ _ h0 h1, dv2 _ _ _ h2 h3]
theorem up8 (x0 x1 x2 x3 x4 x5 x6 x7 : Nat) (h : x0 ≤ 64 ∧ x1 ≤ 64 ∧ x2 ≤ 64 ∧ x3 ≤ 64 ∧ x4 ≤ 64 ∧ x5 ≤ 64 ∧ x6 ≤ 64 ∧ x7 ≤ 64) : x0 + 256 * (x1 + 256 * (x2 + 256 * (x3 + 256 * (x4 + 256 * (x5 + 256 * (x6 + 256 * x7)))))) < 2 ^ 63 := by omega
theorem bc6_nums (c0 c1 c2 c3 c4 c5 c6 c7 : Nat) (hb : c0 ≤ 8 ∧ c1 ≤ 8 ∧ c2 ≤ 8 ∧ c3 ≤ 8 ∧ c4 ≤ 8 ∧ c5 ≤ 8 ∧ c6 ≤ 8 ∧ c7 ≤ 8) :
    (c0 ≤ 64 ∧ c1 ≤ 64 ∧ c2 ≤ 64 ∧ c3 ≤ 64 ∧ c4 ≤ 64 ∧ c5 ≤ 64 ∧ c6 ≤ 64 ∧ c7 ≤ 64) ∧ (c0 + c1 ≤ 64 ∧ c1 + c2 ≤ 64 ∧ c2 + c3 ≤ 64 ∧ c3 + c4 ≤ 64 ∧ c4 + c5 ≤ 64 ∧ c5 + c6 ≤ 64 ∧ c6 + c7 ≤ 64 ∧ c7 ≤ 64) ∧
    (c0 + c1 + c2 + c3 ≤ 64 ∧ c1 + c2 + c3 + c4 ≤ 64 ∧ c2 + c3 + c4 + c5 ≤ 64 ∧ c3 + c4 + c5 + c6 ≤ 64 ∧ c4 + c5 + c6 + c7 ≤ 64 ∧ c5 + c6 + c7 ≤ 64 ∧ c6 + c7 ≤ 64 ∧ c7 ≤ 64) ∧
    (c0 + c1 + c2 + c3 + c4 + c5 + c6 + c7 ≤ 64 ∧ c1 + c2 + c3 + c4 + c5 + c6 + c7 ≤ 64 ∧ c2 + c3 + c4 + c5 + c6 + c7 ≤ 64 ∧ c3 + c4 + c5 + c6 + c7 ≤ 64 ∧ c4 + c5 + c6 + c7 ≤ 64 ∧ c5 + c6 + c7 ≤ 64 ∧ c6 + c7 ≤ 64 ∧ c7 ≤ 64) := by omega
theorem bc6_s1 (c0 c1 c2 c3 c4 c5 c6 c7 : Nat) : (c0 + 256 * (c1 + 256 * (c2 + 256 * (c3 + 256 * (c4 + 256 * (c5 + 256 * (c6 + 256 * c7))))))) + (c1 + 256 * (c2 + 256 * (c3 + 256 * (c4 + 256 * (c5 + 256 * (c6 + 256 * c7)))))) = (c0 + c1) + 256 * ((c1 + c2) + 256 * ((c2 + c3) + 256 * ((c3 + c4) + 256 * ((c4 + c5) + 256 * ((c5 + c6) + 256 * ((c6 + c7) + 256 * c7)))))) := by omega
theorem bc6_s2 (c0 c1 c2 c3 c4 c5 c6 c7 : Nat) : ((c0 + c1) + 256 * ((c1 + c2) + 256 * ((c2 + c3) + 256 * ((c3 + c4) + 256 * ((c4 + c5) + 256 * ((c5 + c6) + 256 * ((c6 + c7) + 256 * c7))))))) + ((c2 + c3) + 256 * ((c3 + c4) + 256 * ((c4 + c5) + 256 * ((c5 + c6) + 256 * ((c6 + c7) + 256 * c7))))) = (c0 + c1 + c2 + c3) + 256 * ((c1 + c2 + c3 + c4) + 256 * ((c2 + c3 + c4 + c5) + 256 * ((c3 + c4 + c5 + c6) + 256 * ((c4 + c5 + c6 + c7) + 256 * ((c5 + c6 + c7) + 256 * ((c6 + c7) + 256 * c7)))))) := by omega
theorem bc6_s3 (c0 c1 c2 c3 c4 c5 c6 c7 : Nat) : ((c0 + c1 + c2 + c3) + 256 * ((c1 + c2 + c3 + c4) + 256 * ((c2 + c3 + c4 + c5) + 256 * ((c3 + c4 + c5 + c6) + 256 * ((c4 + c5 + c6 + c7) + 256 * ((c5 + c6 + c7) + 256 * ((c6 + c7) + 256 * c7))))))) + ((c4 + c5 + c6 + c7) + 256 * ((c5 + c6 + c7) + 256 * ((c6 + c7) + 256 * c7))) = (c0 + c1 + c2 + c3 + c4 + c5 + c6 + c7) + 256 * ((c1 + c2 + c3 + c4 + c5 + c6 + c7) + 256 * ((c2 + c3 + c4 + c5 + c6 + c7) + 256 * ((c3 + c4 + c5 + c6 + c7) + 256 * ((c4 + c5 + c6 + c7) + 256 * ((c5 + c6 + c7) + 256 * ((c6 + c7) + 256 * c7)))))) := by omega
theorem md128 (x y : Nat) (h : x ≤ 64) : (x + 256 * y) % 128 = x := by omega
theorem lt256 {x : Nat} (h : x ≤ 64) : x < 256 := Nat.lt_of_le_of_lt h (by decide)
theorem bc6_eq (n : Nat) : bc6 n % 128 = pcN n.testBit 64 ∧ bc3 n + bc3 n / 256 < 2 ^ 63 ∧ bc3 n + bc3 n / 256 + (bc3 n + bc3 n / 256) / 65536 < 2 ^ 63 ∧ bc6 n < 2 ^ 63 ∧ bc3 n < 2 ^ 63 := by
  obtain ⟨c0, c1, c2, c3, c4, c5, c6, c7, hb, h1, h2⟩ := pop_sum n
  obtain ⟨u0, u1, u2, u3⟩ := bc6_nums c0 c1 c2 c3 c4 c5 c6 c7 hb
  have e1 : bc3 n = c0 + 256 * (c1 + 256 * (c2 + 256 * (c3 + 256 * (c4 + 256 * (c5 + 256 * (c6 + 256 * c7)))))) := h1
  have a1 : bc3 n / 256 = c1 + 256 * (c2 + 256 * (c3 + 256 * (c4 + 256 * (c5 + 256 * (c6 + 256 * c7))))) := by rw [e1]; exact dv1 _ _ (lt256 u0.1)
  have a2 := bc6_s1 c0 c1 c2 c3 c4 c5 c6 c7
  rw [← e1, ← a1] at a2
  have a3 : (bc3 n + bc3 n / 256) / 65536 = (c2 + c3) + 256 * ((c3 + c4) + 256 * ((c4 + c5) + 256 * ((c5 + c6) + 256 * ((c6 + c7) + 256 * c7)))) := by rw [a2]; exact dv2 _ _ _ (lt256 u1.1) (lt256 u1.2.1)
  have a4 := bc6_s2 c0 c1 c2 c3 c4 c5 c6 c7
  rw [← a2, ← a3] at a4
  have a5 : (bc3 n + bc3 n / 256 + (bc3 n + bc3 n / 256) / 65536) / 4294967296 = (c4 + c5 + c6 + c7) + 256 * ((c5 + c6 + c7) + 256 * ((c6 + c7) + 256 * c7)) := by rw [a4]; exact dv4 _ _ _ _ _ (lt256 u2.1) (lt256 u2.2.1) (lt256 u2.2.2.1) (lt256 u2.2.2.2.1)
  have a6 : (bc3 n + bc3 n / 256 + (bc3 n + bc3 n / 256) / 65536) + (bc3 n + bc3 n / 256 + (bc3 n + bc3 n / 256) / 65536) / 4294967296 = (c0 + c1 + c2 + c3 + c4 + c5 + c6 + c7) + 256 * ((c1 + c2 + c3 + c4 + c5 + c6 + c7) + 256 * ((c2 + c3 + c4 + c5 + c6 + c7) + 256 * ((c3 + c4 + c5 + c6 + c7) + 256 * ((c4 + c5 + c6 + c7) + 256 * ((c5 + c6 + c7) + 256 * ((c6 + c7) + 256 * c7)))))) := by rw [a5, a4]; exact bc6_s3 c0 c1 c2 c3 c4 c5 c6 c7
  have h63 : (c0 + c1 + c2 + c3 + c4 + c5 + c6 + c7) + 256 * ((c1 + c2 + c3 + c4 + c5 + c6 + c7) + 256 * ((c2 + c3 + c4 + c5 + c6 + c7) + 256 * ((c3 + c4 + c5 + c6 + c7) + 256 * ((c4 + c5 + c6 + c7) + 256 * ((c5 + c6 + c7) + 256 * ((c6 + c7) + 256 * c7)))))) < 2 ^ 63 := up8 _ _ _ _ _ _ _ _ u3
  have m1 := md128 (c0 + c1 + c2 + c3 + c4 + c5 + c6 + c7) ((c1 + c2 + c3 + c4 + c5 + c6 + c7) + 256 * ((c2 + c3 + c4 + c5 + c6 + c7) + 256 * ((c3 + c4 + c5 + c6 + c7) + 256 * ((c4 + c5 + c6 + c7) + 256 * ((c5 + c6 + c7) + 256 * ((c6 + c7) + 256 * c7)))))) u3.1
  rw [← a6] at h63 m1
  have h2' : pcN n.testBit 64 = c0 + c1 + c2 + c3 + c4 + c5 + c6 + c7 := by rw [h2]; clear h63 m1 a6 a5 a4 a3 a2 a1 e1 h1 h2 u0 u1 u2 u3 hb; omega
  have g1 : bc3 n + bc3 n / 256 < 2 ^ 63 := by rw [a2]; exact up8 _ _ _ _ _ _ _ _ u1
  have g2 : bc3 n + bc3 n / 256 + (bc3 n + bc3 n / 256) / 65536 < 2 ^ 63 := by rw [a4]; exact up8 _ _ _ _ _ _ _ _ u2
  have g3 : bc3 n < 2 ^ 63 := by rw [e1]; exact up8 _ _ _ _ _ _ _ _ u0
  exact ⟨m1.trans h2'.symm, g1, g2, h63, g3⟩
