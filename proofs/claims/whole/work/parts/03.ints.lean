-- ints by their value: 'iI z' is the int whose number is z (wrapped if it doesn't fit)
def iI (z : Int) : Int32 := Int32.ofInt z
abbrev inR (z : Int) : Prop := -2147483648 ≤ z ∧ z < 2147483648
theorem iI_toInt {z : Int} (h : inR z) : (iI z).toInt = z := Int32.toInt_ofInt_of_le h.1 h.2
theorem iI_self (x : Int32) : iI x.toInt = x := Int32.ofInt_toInt x
theorem iI_ex (x : Int32) : ∃ z : Int, inR z ∧ x = iI z := ⟨x.toInt, ⟨Int32.le_toInt x, Int32.toInt_lt x⟩, (iI_self x).symm⟩
theorem iI_add (a b : Int) : iI a + iI b = iI (a + b) := (Int32.ofInt_add a b).symm
theorem iI_sub (a b : Int) : iI a - iI b = iI (a - b) := (Int32.ofInt_sub a b).symm
theorem iI_mul (a b : Int) : iI a * iI b = iI (a * b) := (Int32.ofInt_mul a b).symm
theorem iI_neg (a : Int) : -iI a = iI (-a) := Int32.neg_ofInt
theorem iI_lt {a b : Int} (ha : inR a) (hb : inR b) : iI a < iI b ↔ a < b := by
  rw [Int32.lt_iff_toInt_lt, iI_toInt ha, iI_toInt hb]
theorem iI_le {a b : Int} (ha : inR a) (hb : inR b) : iI a ≤ iI b ↔ a ≤ b := by
  rw [Int32.le_iff_toInt_le, iI_toInt ha, iI_toInt hb]
theorem iI_eq {a b : Int} (ha : inR a) (hb : inR b) : iI a = iI b ↔ a = b := by
  rw [← Int32.toInt_inj, iI_toInt ha, iI_toInt hb]
theorem iI_0 : iI 0 = 0 := rfl
theorem iI_nat (n : Nat) : iI (n : Int) = nI n := Int32.ofInt_eq_ofNat
theorem inR_0 : inR 0 := ⟨by decide, by decide⟩
theorem iI_clamp {z : Int} (h : 0 ≤ z) (h2 : z < 2147483648) : (iI z).toNatClampNeg = z.toNat := by
  rw [← Int32.toNat_toInt, iI_toInt ⟨by omega, h2⟩]
theorem iI_in {z : Int} {n : Nat} (h : 0 ≤ z) (h2 : z < (n : Int)) (h3 : z < 2147483648) : vp_in (iI z) n := by
  rw [vp_in_iff, iI_toInt ⟨by omega, h3⟩]
  exact ⟨h, h2⟩
theorem iI_div {a b : Int} (ha : 0 ≤ a) (ha2 : a < 2147483648) (hb : 0 < b) (hb2 : b < 2147483648) : iI a / iI b = iI (a / b) := by
  obtain ⟨n, rfl⟩ := Int.eq_ofNat_of_zero_le ha
  obtain ⟨d, rfl⟩ := Int.eq_ofNat_of_zero_le (show 0 ≤ b by omega)
  rw [iI_nat, iI_nat, pk_div (by omega) (by omega) (by omega), ← Int.natCast_ediv, iI_nat]
theorem iI_rem {a b : Int} (ha : 0 ≤ a) (ha2 : a < 2147483648) (hb : 0 < b) (hb2 : b < 2147483648) : iI a - iI a / iI b * iI b = iI (a % b) := by
  obtain ⟨n, rfl⟩ := Int.eq_ofNat_of_zero_le ha
  obtain ⟨d, rfl⟩ := Int.eq_ofNat_of_zero_le (show 0 ≤ b by omega)
  rw [iI_nat, iI_nat, pk_rem (by omega) (by omega) (by omega), ← Int.natCast_emod, iI_nat]
theorem iI_ne0 {a : Int} (ha : inR a) (h : a ≠ 0) : ¬ iI a = 0 := fun q => h ((iI_eq ha inR_0).mp q)
-- arrays of ints by their values
def iA (B : Nat → Int) : Nat → Int32 := fun j => iI (B j)
theorem iA_up (B : Nat → Int) (k : Nat) (v : Int) : upd (iA B) k (iI v) = iA (va_up B k v) := by
  funext j
  show (if j = k then iI v else iI (B j)) = iI (if j = k then v else B j)
  by_cases h : j = k <;> simp [h]
theorem iA_0 : (fun _ : Nat => (0 : Int32)) = iA (fun _ => 0) := rfl
theorem up_s {α : Type} (f : Nat → α) (k : Nat) (v : α) : va_up f k v k = v := va_up_self f k v
theorem up_n {α : Type} (f : Nat → α) {k j : Nat} (v : α) (h : j ≠ k) : va_up f k v j = f j := va_up_ne f v h
