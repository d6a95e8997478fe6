theorem dS_setI (S : Nat → Int64) {V U : Int} (hU : 0 ≤ U ∧ U < 5120) (hV : 0 ≤ V) (z u : Nat) (hu : u < 5120) : dS (va_up S (80 * V + U / 64).toNat (S (80 * V + U / 64).toNat ||| bW (63 - U % 64).toNat)) z u = (dS S z u || decide ((z : Int) = V ∧ (u : Int) = U)) := by
  obtain ⟨n, rfl⟩ := Int.eq_ofNat_of_zero_le hU.1
  obtain ⟨k, rfl⟩ := Int.eq_ofNat_of_zero_le hV
  have e1 : (80 * (k : Int) + (n : Int) / 64).toNat = 80 * k + n / 64 := by omega
  have e2 : (63 - (n : Int) % 64).toNat = 63 - n % 64 := by omega
  rw [e1, e2, dS_set S (by omega) z u hu]
  congr 1
  exact decide_eq_decide.mpr (by omega)
abbrev cntS (S : Nat → Int64) (n : Nat) : Int := ((sumN (fun j => pcw (S j)) n : Nat) : Int)
theorem cnt_set1 {S : Nat → Int64} {n j b : Nat} (hj : j < n) (hb : b < 64) (h : tb (S j) b = false) : cntS (va_up S j (S j ||| bW b)) n = cntS S n + 1 := by
  have a := sumN_set (S := S) hj (S j ||| bW b)
  rw [pcw_bit _ hb, h] at a
  unfold cntS
  have e : (if false = true then 0 else 1) = 1 := rfl
  rw [e] at a
  omega
theorem cnt_set0 {S : Nat → Int64} {n j b : Nat} (hj : j < n) (hb : b < 64) (h : tb (S j) b = true) : cntS (va_up S j (S j ||| bW b)) n = cntS S n := by
  have a := sumN_set (S := S) hj (S j ||| bW b)
  rw [pcw_bit _ hb, h] at a
  unfold cntS
  have e : (if true = true then 0 else 1) = 0 := rfl
  rw [e] at a
  omega
def bkP (S : Nat → Int64) (ac dI X T sc i j : Int) (z u : Nat) : Prop := dS S z u = true ∨ ((u : Int) < ac ∧ (z : Int) < dI ∧ T ≤ (z : Int) ∧ X ≤ (u : Int) ∧ (((u : Int) < X + i ∧ (z : Int) < T + sc) ∨ ((u : Int) = X + i ∧ (z : Int) < T + j)))
theorem bkP_0 {S : Nat → Int64} {ac dI X T sc : Int} {z u : Nat} : dS S z u = true ↔ bkP S ac dI X T sc 0 0 z u := by
  unfold bkP
  constructor
  · exact Or.inl
  · rintro (h | h)
    · exact h
    · omega
theorem bkP_next {S : Nat → Int64} {ac dI X T sc i : Int} {z u : Nat} : bkP S ac dI X T sc i sc z u ↔ bkP S ac dI X T sc (i + 1) 0 z u := by
  unfold bkP
  constructor
  · rintro (h | h)
    · exact Or.inl h
    · exact Or.inr (by omega)
  · rintro (h | h)
    · exact Or.inl h
    · exact Or.inr (by omega)
theorem bkP_out {S : Nat → Int64} {ac dI X T sc i j : Int} {z u : Nat} (h : X + i < 0 ∨ ac ≤ X + i ∨ T + j < 0 ∨ dI ≤ T + j) : bkP S ac dI X T sc i j z u ↔ bkP S ac dI X T sc i (j + 1) z u := by
  unfold bkP
  constructor
  · rintro (q | q)
    · exact Or.inl q
    · exact Or.inr (by omega)
  · rintro (q | q)
    · exact Or.inl q
    · exact Or.inr (by omega)
theorem bkP_in {S S1 S2 : Nat → Int64} {ac dI X T sc i j : Int} {z u : Nat} (h1 : 0 ≤ X + i ∧ X + i < ac) (h2 : 0 ≤ T + j ∧ T + j < dI) (h0 : 0 ≤ i ∧ 0 ≤ j) (hs : dS S2 z u = (dS S1 z u || decide ((z : Int) = T + j ∧ (u : Int) = X + i))) (h : dS S1 z u = true ↔ bkP S ac dI X T sc i j z u) : dS S2 z u = true ↔ bkP S ac dI X T sc i (j + 1) z u := by
  rw [hs, Bool.or_eq_true, decide_eq_true_eq, h]
  unfold bkP
  constructor
  · rintro ((q | q) | q)
    · exact Or.inl q
    · exact Or.inr (by omega)
    · exact Or.inr (by omega)
  · rintro (q | q)
    · exact Or.inl (Or.inl q)
    · by_cases r : (z : Int) = T + j ∧ (u : Int) = X + i
      · exact Or.inr r
      · exact Or.inl (Or.inr (by omega))
def drM (B : Nat → Int) (S : Nat → Int64) (ac dI x T sc wd K : Int) (z u : Nat) : Prop := dS S z u = true ∨ ((u : Int) < ac ∧ (z : Int) < dI ∧ T ≤ (z : Int) ∧ (z : Int) < T + sc ∧ ∃ k : Nat, (k : Int) < K ∧ vis B wd k = true ∧ x + sc * (k : Int) ≤ (u : Int) ∧ (u : Int) < x + sc * (k : Int) + sc)
theorem drM_0 {B : Nat → Int} {S : Nat → Int64} {ac dI x T sc wd : Int} {z u : Nat} : dS S z u = true ↔ drM B S ac dI x T sc wd 0 z u := by
  unfold drM
  constructor
  · exact Or.inl
  · rintro (h | ⟨-, -, -, -, k, hk, -⟩)
    · exact h
    · omega
theorem drM_skip {B : Nat → Int} {S : Nat → Int64} {ac dI x T sc wd K K2 : Int} (hK : K ≤ K2) (h : ∀ k : Nat, K ≤ (k : Int) → (k : Int) < K2 → vis B wd k = false) (z u : Nat) : drM B S ac dI x T sc wd K z u ↔ drM B S ac dI x T sc wd K2 z u := by
  unfold drM
  constructor
  · rintro (q | ⟨a, b, c, d, k, e, f⟩)
    · exact Or.inl q
    · exact Or.inr ⟨a, b, c, d, k, by omega, f⟩
  · rintro (q | ⟨a, b, c, d, k, e, f, g⟩)
    · exact Or.inl q
    · by_cases r : (k : Int) < K
      · exact Or.inr ⟨a, b, c, d, k, r, f, g⟩
      · rw [h k (by omega) e] at f; cases f
theorem drM_add {B : Nat → Int} {S S1 S2 : Nat → Int64} {ac dI x T sc wd K : Int} (hK : 0 ≤ K) (hv : vis B wd K.toNat = true) {z u : Nat} (h1 : dS S1 z u = true ↔ drM B S ac dI x T sc wd K z u) (h2 : dS S2 z u = true ↔ dS S1 z u = true ∨ ((u : Int) < ac ∧ (z : Int) < dI ∧ T ≤ (z : Int) ∧ (z : Int) < T + sc ∧ x + sc * K ≤ (u : Int) ∧ (u : Int) < x + sc * K + sc)) : dS S2 z u = true ↔ drM B S ac dI x T sc wd (K + 1) z u := by
  rw [h2, h1]
  unfold drM
  constructor
  · rintro ((q | ⟨a, b, c, d, k, e, f⟩) | ⟨a, b, c, d, e, f⟩)
    · exact Or.inl q
    · exact Or.inr ⟨a, b, c, d, k, by omega, f⟩
    · exact Or.inr ⟨a, b, c, d, K.toNat, by omega, hv, by rw [Int.toNat_of_nonneg hK]; exact e, by rw [Int.toNat_of_nonneg hK]; exact f⟩
  · rintro (q | ⟨a, b, c, d, k, e, f, g, i⟩)
    · exact Or.inl (Or.inl q)
    · by_cases r : (k : Int) < K
      · exact Or.inl (Or.inr ⟨a, b, c, d, k, r, f, g, i⟩)
      · have e1 : (k : Int) = K := by omega
        rw [e1] at g i
        exact Or.inr ⟨a, b, c, d, g, i⟩
