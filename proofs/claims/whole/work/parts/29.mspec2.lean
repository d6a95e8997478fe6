theorem fillB_put {B : Nat → Int} {ln pl t b : Int} (h0 : 0 ≤ pl) (h1 : 0 ≤ t) : putB (fillB B ln pl t b) ln (pl + t) b = fillB B ln pl (t + 1) b := by
  by_cases q : pl + t < ln
  · have := fillB_step (B := B) (ln := ln) (p := pl) (i := pl + t) (b := b) (by omega) h0 q
    rw [show pl + t - pl = t by omega, show pl + t + 1 - pl = t + 1 by omega] at this
    exact this
  · unfold putB
    rw [if_neg (by omega)]
    exact fillB_end (Or.inr ⟨by omega, by omega⟩)
theorem lgc0 {x y : Int64} : lg_cmp x y = 0 ↔ x = y := by
  unfold lg_cmp
  constructor
  · intro h
    split at h
    · cases h
    · split at h
      · assumption
      · cases h
  · intro h
    subst h
    simp [Int64.lt_irrefl]
theorem sh1 (w : Int64) {z : Int} (h1 : 0 ≤ z) (h2 : z < 64) : (w >>> ((iI z).toInt64 &&& 63)) &&& 1 = 1 ↔ tb w z.toNat = true := by
  have e0 : tb ((w >>> ((iI z).toInt64 &&& 63)) &&& 1) 0 = tb w z.toNat := by
    rw [tb_and, tb_sshr w h1 h2 (by omega)]
    have : tb 1 0 = true := by decide +kernel
    rw [this]; simp
  constructor
  · intro h
    rw [← e0, h]; decide +kernel
  · intro h
    apply tb_ext
    intro i hi
    by_cases e : i = 0
    · subst e; rw [e0, h]; decide +kernel
    · rw [tb_and]
      have : ∀ i, i < 64 → i ≠ 0 → tb 1 i = false := by decide +kernel
      rw [this i hi e]; simp
theorem zero_if {B : Nat → Int} {mt : Int} (h : mt ≠ 3) : (fun j => if mt = 3 then B j else 0) = fun _ => 0 := by funext j; exact if_neg h
theorem self_if {B : Nat → Int} {mt : Int} (h : mt = 3) : (fun j => if mt = 3 then B j else 0) = B := by funext j; exact if_pos h
