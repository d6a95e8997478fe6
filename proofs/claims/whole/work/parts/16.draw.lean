-- what is drawn of a row
theorem vis_byte {B : Nat → Int} {wd i r : Int} (hi : 0 ≤ i) (hrb : ∀ t : Nat, t < 8 → bb r t = ((decide (wd = 0) || decide (8 * i + (t : Int) < wd)) && bb (B i.toNat) t)) {k : Nat} (h1 : 8 * i ≤ (k : Int)) (h2 : (k : Int) < 8 * i + 8) : vis B wd k = bb r (k % 8) := by
  unfold vis
  rw [hrb (k % 8) (Nat.mod_lt _ (by decide)), show k / 8 = i.toNat by omega, show 8 * i + ((k % 8 : Nat) : Int) = (k : Int) by omega]
theorem bb_nz {r : Int} (h : 0 ≤ r ∧ r < 256) (h0 : r ≠ 0) : ∃ t, t < 8 ∧ bb r t = true := by
  obtain ⟨v, hv, rfl⟩ := byteN h
  exact bb_zero v hv (by omega)
theorem bb_and {r : Int} (h : 0 ≤ r ∧ r < 256) {b : Int} (h1 : 0 ≤ b) (h2 : b < 8) : iI r &&& (iI 128 >>> (iI b &&& 31)) = 0 ↔ bb r b.toNat = false := by
  obtain ⟨v, hv, rfl⟩ := byteN h
  obtain ⟨t, rfl⟩ := Int.eq_ofNat_of_zero_le h1
  exact bb_t1 v hv t (by omega)
def drw (B : Nat → Int) (wd x sc dots : Int) (f : Nat → Int64) (K : Int) (y : Nat) : Prop := dt f y = true ∨ ((y : Int) < dots ∧ ∃ k : Nat, (k : Int) < K ∧ vis B wd k = true ∧ x + sc * (k : Int) ≤ (y : Int) ∧ (y : Int) < x + sc * (k : Int) + sc)
theorem drw_0 {B : Nat → Int} {wd x sc dots : Int} {f : Nat → Int64} {y : Nat} : dt f y = true ↔ drw B wd x sc dots f 0 y := by
  constructor
  · exact Or.inl
  · rintro (h | ⟨-, k, hk, -⟩)
    · exact h
    · omega
theorem drw_skip {B : Nat → Int} {wd x sc dots : Int} {f : Nat → Int64} {K K2 : Int} (hK : K ≤ K2) (h : ∀ k : Nat, K ≤ (k : Int) → (k : Int) < K2 → vis B wd k = false) (y : Nat) : drw B wd x sc dots f K y ↔ drw B wd x sc dots f K2 y := by
  constructor
  · rintro (h1 | ⟨h1, k, h2, h3⟩)
    · exact Or.inl h1
    · exact Or.inr ⟨h1, k, by omega, h3⟩
  · rintro (h1 | ⟨h1, k, h2, h3, h4⟩)
    · exact Or.inl h1
    · by_cases q : (k : Int) < K
      · exact Or.inr ⟨h1, k, q, h3, h4⟩
      · rw [h k (by omega) h2] at h3; cases h3
theorem drw_add {B : Nat → Int} {wd x sc dots : Int} {f f2 f3 : Nat → Int64} {K : Int} (hK : 0 ≤ K) (hv : vis B wd K.toNat = true) {y : Nat} (h1 : dt f2 y = true ↔ drw B wd x sc dots f K y) (h2 : dt f3 y = (dt f2 y || decide (x + sc * K ≤ (y : Int) ∧ (y : Int) < x + sc * K + sc ∧ (y : Int) < dots))) : dt f3 y = true ↔ drw B wd x sc dots f (K + 1) y := by
  rw [h2, Bool.or_eq_true, decide_eq_true_eq, h1]
  constructor
  · rintro ((h | ⟨h, k, a, b⟩) | ⟨a, b, c⟩)
    · exact Or.inl h
    · exact Or.inr ⟨h, k, by omega, b⟩
    · exact Or.inr ⟨c, K.toNat, by omega, hv, by rw [Int.toNat_of_nonneg hK]; exact a, by rw [Int.toNat_of_nonneg hK]; exact b⟩
  · rintro (h | ⟨h, k, a, b, c, d⟩)
    · exact Or.inl (Or.inl h)
    · by_cases q : (k : Int) < K
      · exact Or.inl (Or.inr ⟨h, k, q, b, c, d⟩)
      · have e : (k : Int) = K := by omega
        rw [e] at c d
        exact Or.inr ⟨c, d, h⟩
