-- numbers of longs, bytes of data, what look answers
def wN (w : Int64) : Nat := w.toBitVec.toNat
theorem wN_lt (w : Int64) : wN w < 2 ^ 64 := w.toBitVec.isLt
theorem wN_eq (w : Int64) : w = lN (wN w) := wb_inj (by rw [wb_tb]; simp [wN])
theorem us_w (w : Int64) {z : Int} (h1 : 0 ≤ z) (h2 : z < 64) : (w.toUInt64 >>> ((iI z).toInt64.toUInt64 &&& Int64.toUInt64 63)).toInt64 = lN (wN w / 2 ^ z.toNat) := by
  obtain ⟨k, rfl⟩ := Int.eq_ofNat_of_zero_le h1
  rw [iI_nat]
  have := wb_shr (n := wN w) (k := k) (wN_lt w) (by omega)
  rw [← wN_eq w] at this
  exact this
def byt (w : Int64) (i : Int) : Int := ((wN w / 2 ^ (8 * i).toNat : Nat) : Int) % 256
theorem byt_r (w : Int64) (i : Int) : 0 ≤ byt w i ∧ byt w i < 256 := by unfold byt; omega
def dataS (w : Int64) : Nat → (Nat → Int) → Int → (Nat → Int)
  | 0, P, _ => P
  | k + 1, P, ct => dataS w k (va_up P ct.toNat (byt w (k : Int))) (ct + 1)
theorem dataS_go (w : Int64) {i : Int} (h : 0 ≤ i) (P : Nat → Int) (ct : Int) : dataS w (i + 1).toNat P ct = dataS w i.toNat (va_up P ct.toNat (byt w i)) (ct + 1) := by
  obtain ⟨k, rfl⟩ := Int.eq_ofNat_of_zero_le h
  rw [show ((k : Int) + 1).toNat = k + 1 by omega, show ((k : Int)).toNat = k by omega]
  rfl
theorem byte_data (w : Int64) : ∀ (k : Nat) (P : Nat → Int) (ct : Int), (∀ j, 0 ≤ P j ∧ P j < 256) → ∀ j, 0 ≤ dataS w k P ct j ∧ dataS w k P ct j < 256
  | 0, P, _, h => h
  | k + 1, P, ct, h => byte_data w k _ _ (fun j => by
    by_cases e : j = ct.toNat
    · subst e; rw [up_s]; exact byt_r w _
    · rw [up_n _ _ e]; exact h j)
def lookS (wh ac dI dp rs mt op rw ln sc ct kr kb ov bd : Int) : Int := if wh = 0 then ac else if wh = 1 then dI else if wh = 2 then dp else if wh = 3 then rs else if wh = 4 then mt else if wh = 5 then (if op = 0 then 0 else 1) else if wh = 6 then (if op = 0 then -1 else rw) else if wh = 7 then (if op = 0 then -1 else ln) else if wh = 8 then (if op = 0 then -1 else sc) else if wh = 9 then ct else if wh = 10 then kr else if wh = 11 then kb else if wh = 12 then (if ov = 0 then 0 else 1) else if wh = 13 then bd else -1
theorem lookS_out {wh ac dI dp rs mt op rw ln sc ct kr kb ov bd : Int} (h : wh < 0 ∨ 13 < wh) : lookS wh ac dI dp rs mt op rw ln sc ct kr kb ov bd = -1 := by
  unfold lookS
  repeat rw [if_neg (by omega)]
