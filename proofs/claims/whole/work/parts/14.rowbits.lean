-- bytes of a row and their dots
def putB (B : Nat → Int) (ln p b : Int) : Nat → Int := if 0 ≤ p ∧ p < ln then va_up B p.toNat b else B
def fillB (B : Nat → Int) (ln p t b : Int) : Nat → Int := fun j => if p ≤ (j : Int) ∧ (j : Int) < p + t ∧ (j : Int) < ln then b else B j
def vis (B : Nat → Int) (wd : Int) (k : Nat) : Bool := (decide (wd = 0) || decide ((k : Int) < wd)) && bb (B (k / 8)) (k % 8)
theorem bb_cut : ∀ v : Nat, v < 256 → ∀ h : Nat, h < 9 → ∀ t : Nat, t < 8 → bb ((v : Int) - (v : Int) % 2 ^ h) t = (decide (t + h < 8) && bb v t) := by decide +kernel
theorem bb_cutr : ∀ v : Nat, v < 256 → ∀ h : Nat, h < 9 → 0 ≤ (v : Int) - (v : Int) % 2 ^ h ∧ (v : Int) - (v : Int) % 2 ^ h < 256 := by decide +kernel
theorem bb_zero : ∀ v : Nat, v < 256 → v ≠ 0 → ∃ t, t < 8 ∧ bb v t = true := by decide +kernel
theorem bb_0 : ∀ t, t < 8 → bb 0 t = false := by decide +kernel
theorem byteN {v : Int} (h : 0 ≤ v ∧ v < 256) : ∃ n : Nat, n < 256 ∧ v = (n : Int) := ⟨v.toNat, by omega, by omega⟩
theorem mulB {a b A B : Int} (ha : 0 ≤ a) (ha2 : a ≤ A) (hb : 0 ≤ b) (hb2 : b ≤ B) : 0 ≤ a * b ∧ a * b ≤ A * B := ⟨Int.mul_nonneg ha hb, Int.mul_le_mul ha2 hb2 hb (by omega)⟩
theorem fillB_step {B : Nat → Int} {ln p i b : Int} (h1 : p ≤ i) (h0 : 0 ≤ p) (h2 : i < ln) : putB (fillB B ln p (i - p) b) ln i b = fillB B ln p (i + 1 - p) b := by
  funext j
  unfold putB
  rw [if_pos ⟨by omega, h2⟩]
  unfold fillB
  by_cases e : j = i.toNat
  · subst e; rw [up_s, if_pos (by omega)]
  · rw [up_n _ _ e]
    by_cases q : p ≤ (j : Int) ∧ (j : Int) < p + (i - p) ∧ (j : Int) < ln
    · rw [if_pos q, if_pos (by omega)]
    · rw [if_neg q, if_neg (by omega)]
theorem fillB_0 {B : Nat → Int} {ln p b : Int} {t : Int} (h : t ≤ 0 ∨ ln ≤ p) : fillB B ln p t b = B := by
  funext j
  unfold fillB
  rw [if_neg (by omega)]
theorem fillB_end {B : Nat → Int} {ln p t b t2 : Int} (h : (t = t2) ∨ (ln ≤ p + t ∧ ln ≤ p + t2)) : fillB B ln p t b = fillB B ln p t2 b := by
  funext j
  unfold fillB
  by_cases q : p ≤ (j : Int) ∧ (j : Int) < p + t ∧ (j : Int) < ln
  · rw [if_pos q, if_pos (by omega)]
  · rw [if_neg q, if_neg (by omega)]
theorem byte_fill {B : Nat → Int} {ln p t b : Int} (hB : ∀ j, 0 ≤ B j ∧ B j < 256) (hb : 0 ≤ b ∧ b < 256) : ∀ j, 0 ≤ fillB B ln p t b j ∧ fillB B ln p t b j < 256 := fun j => by
  unfold fillB
  split
  · exact hb
  · exact hB j
theorem byte_put {B : Nat → Int} {ln p b : Int} (hB : ∀ j, 0 ≤ B j ∧ B j < 256) (hb : 0 ≤ b ∧ b < 256) : ∀ j, 0 ≤ putB B ln p b j ∧ putB B ln p b j < 256 := fun j => by
  unfold putB
  split
  · by_cases e : j = p.toNat
    · subst e; rw [up_s]; exact hb
    · rw [up_n _ _ e]; exact hB j
  · exact hB j
