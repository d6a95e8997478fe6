-- the four ways to unpack, as functions
def copyB (B P : Nat → Int) (ln pl fr n : Int) : Nat → Int := fun j => if pl ≤ (j : Int) ∧ (j : Int) < pl + n ∧ (j : Int) < ln then P (fr + ((j : Int) - pl)).toNat else B j
theorem copyB_0 {B P : Nat → Int} {ln pl fr n : Int} (h : n ≤ 0) : copyB B P ln pl fr n = B := by
  funext j; unfold copyB; rw [if_neg (by omega)]
theorem copyB_step {B P : Nat → Int} {ln pl fr i : Int} (h0 : 0 ≤ pl) (h1 : 0 ≤ i) : putB (copyB B P ln pl fr i) ln (pl + i) (P (fr + i).toNat) = copyB B P ln pl fr (i + 1) := by
  funext j
  unfold putB
  by_cases q : pl + i < ln
  · rw [if_pos ⟨by omega, q⟩]
    unfold copyB
    by_cases e : j = (pl + i).toNat
    · subst e; rw [up_s, if_pos (by omega)]; congr 1; omega
    · rw [up_n _ _ e]
      by_cases r : pl ≤ (j : Int) ∧ (j : Int) < pl + i ∧ (j : Int) < ln
      · rw [if_pos r, if_pos (by omega)]
      · rw [if_neg r, if_neg (by omega)]
  · rw [if_neg (by omega)]
    unfold copyB
    by_cases r : pl ≤ (j : Int) ∧ (j : Int) < pl + i ∧ (j : Int) < ln
    · rw [if_pos r, if_pos (by omega)]
    · rw [if_neg r, if_neg (by omega)]
theorem byte_copy {B P : Nat → Int} {ln pl fr n : Int} (hB : ∀ j, 0 ≤ B j ∧ B j < 256) (hP : ∀ j, 0 ≤ P j ∧ P j < 256) : ∀ j, 0 ≤ copyB B P ln pl fr n j ∧ copyB B P ln pl fr n j < 256 := fun j => by
  unfold copyB
  split
  · exact hP _
  · exact hB j
def pairsS (P : Nat → Int) (c ln : Int) : Nat → Int → Int → (Nat → Int) → (Nat → Int)
  | 0, _, _, B => B
  | n + 1, i, pl, B => if i + 1 < c then pairsS P c ln n (i + 2) (pl + (P i.toNat + 1)) (fillB B ln pl (P i.toNat + 1) (P (i + 1).toNat)) else B
theorem pairsS_go {P : Nat → Int} {c ln : Int} {n : Nat} {i pl : Int} {B : Nat → Int} (hn : 0 < n) (h : i + 1 < c) : pairsS P c ln n i pl B = pairsS P c ln (n - 1) (i + 2) (pl + (P i.toNat + 1)) (fillB B ln pl (P i.toNat + 1) (P (i + 1).toNat)) := by
  obtain ⟨k, rfl⟩ : ∃ k, n = k + 1 := ⟨n - 1, by omega⟩
  exact if_pos h
theorem pairsS_end {P : Nat → Int} {c ln : Int} {n : Nat} {i pl : Int} {B : Nat → Int} (h : c ≤ i + 1) : pairsS P c ln n i pl B = B := by
  cases n with
  | zero => rfl
  | succ n => exact if_neg (by omega)
theorem byte_pairs {P : Nat → Int} {c ln : Int} (hP : ∀ j, 0 ≤ P j ∧ P j < 256) : ∀ (n : Nat) (i pl : Int) (B : Nat → Int), (∀ j, 0 ≤ B j ∧ B j < 256) → ∀ j, 0 ≤ pairsS P c ln n i pl B j ∧ pairsS P c ln n i pl B j < 256
  | 0, _, _, B, hB => hB
  | n + 1, i, pl, B, hB => by
    by_cases h : i + 1 < c
    · rw [pairsS_go (Nat.succ_pos n) h]; exact byte_pairs hP n _ _ _ (byte_fill hB (hP _))
    · rw [pairsS_end (by omega)]; exact hB
def runsS (P : Nat → Int) (c ln : Int) : Nat → Int → Int → (Nat → Int) → (Nat → Int)
  | 0, _, _, B => B
  | n + 1, i, pl, B => if i < c then (if P i.toNat < 128 then runsS P c ln n (i + 1 + min (P i.toNat + 1) (c - (i + 1))) (pl + min (P i.toNat + 1) (c - (i + 1))) (copyB B P ln pl (i + 1) (min (P i.toNat + 1) (c - (i + 1)))) else if 128 < P i.toNat ∧ i + 1 < c then runsS P c ln n (i + 1 + 1) (pl + (257 - P i.toNat)) (fillB B ln pl (257 - P i.toNat) (P (i + 1).toNat)) else runsS P c ln n (i + 1) pl B) else B
theorem runsS_lit {P : Nat → Int} {c ln : Int} {n : Nat} {i pl : Int} {B : Nat → Int} (hn : 0 < n) (h : i < c) (h2 : P i.toNat < 128) : runsS P c ln n i pl B = runsS P c ln (n - 1) (i + 1 + min (P i.toNat + 1) (c - (i + 1))) (pl + min (P i.toNat + 1) (c - (i + 1))) (copyB B P ln pl (i + 1) (min (P i.toNat + 1) (c - (i + 1)))) := by
  obtain ⟨k, rfl⟩ : ∃ k, n = k + 1 := ⟨n - 1, by omega⟩
  exact (if_pos h).trans (if_pos h2)
theorem runsS_rep {P : Nat → Int} {c ln : Int} {n : Nat} {i pl : Int} {B : Nat → Int} (hn : 0 < n) (h : i < c) (h2 : 128 < P i.toNat) (h3 : i + 1 < c) : runsS P c ln n i pl B = runsS P c ln (n - 1) (i + 1 + 1) (pl + (257 - P i.toNat)) (fillB B ln pl (257 - P i.toNat) (P (i + 1).toNat)) := by
  obtain ⟨k, rfl⟩ : ∃ k, n = k + 1 := ⟨n - 1, by omega⟩
  exact (if_pos h).trans ((if_neg (by omega)).trans (if_pos ⟨h2, h3⟩))
theorem runsS_nop {P : Nat → Int} {c ln : Int} {n : Nat} {i pl : Int} {B : Nat → Int} (hn : 0 < n) (h : i < c) (h1 : 128 ≤ P i.toNat) (h2 : P i.toNat ≤ 128 ∨ c ≤ i + 1) : runsS P c ln n i pl B = runsS P c ln (n - 1) (i + 1) pl B := by
  obtain ⟨k, rfl⟩ : ∃ k, n = k + 1 := ⟨n - 1, by omega⟩
  exact (if_pos h).trans ((if_neg (by omega)).trans (if_neg (by omega)))
theorem runsS_end {P : Nat → Int} {c ln : Int} {n : Nat} {i pl : Int} {B : Nat → Int} (h : c ≤ i) : runsS P c ln n i pl B = B := by
  cases n with
  | zero => rfl
  | succ n => exact if_neg (by omega)
theorem byte_runs {P : Nat → Int} {c ln : Int} (hP : ∀ j, 0 ≤ P j ∧ P j < 256) : ∀ (n : Nat) (i pl : Int) (B : Nat → Int), (∀ j, 0 ≤ B j ∧ B j < 256) → ∀ j, 0 ≤ runsS P c ln n i pl B j ∧ runsS P c ln n i pl B j < 256
  | 0, _, _, B, hB => hB
  | n + 1, i, pl, B, hB => by
    by_cases h : i < c
    · by_cases h2 : P i.toNat < 128
      · rw [runsS_lit (Nat.succ_pos n) h h2]; exact byte_runs hP n _ _ _ (byte_copy hB hP)
      · by_cases h3 : 128 < P i.toNat ∧ i + 1 < c
        · rw [runsS_rep (Nat.succ_pos n) h h3.1 h3.2]; exact byte_runs hP n _ _ _ (byte_fill hB (hP _))
        · rw [runsS_nop (Nat.succ_pos n) h (by omega) (by omega)]; exact byte_runs hP n _ _ _ hB
    · rw [runsS_end (by omega)]; exact hB
def offS (P : Nat → Int) (c : Int) : Nat → Int → Int → Int → Int × Int
  | 0, j, q, _ => (j, q)
  | n + 1, j, q, m => if m ≠ 0 ∧ j < c then offS P c n (j + 1) (q + P j.toNat) (if P j.toNat = 255 then 1 else 0) else (j, q)
theorem offS_go {P : Nat → Int} {c : Int} {n : Nat} {j q m : Int} (hn : 0 < n) (hm : m ≠ 0) (hj : j < c) : offS P c n j q m = offS P c (n - 1) (j + 1) (q + P j.toNat) (if P j.toNat = 255 then 1 else 0) := by
  obtain ⟨k, rfl⟩ : ∃ k, n = k + 1 := ⟨n - 1, by omega⟩
  exact if_pos ⟨hm, hj⟩
theorem offS_end {P : Nat → Int} {c : Int} {n : Nat} {j q m : Int} (h : m = 0 ∨ c ≤ j) : offS P c n j q m = (j, q) := by
  cases n with
  | zero => rfl
  | succ n => exact if_neg (by omega)
abbrev offC (P : Nat → Int) (c i pl : Int) : Int × Int := offS P c 5000 (i + 1) (pl + P i.toNat % 32) (if P i.toNat % 32 = 31 then 1 else 0)
def chS (P : Nat → Int) (c ln : Int) : Nat → Int → Int → (Nat → Int) → (Nat → Int)
  | 0, _, _, B => B
  | n + 1, i, pl, B => if i < c then chS P c ln n ((offC P c i pl).1 + min (P i.toNat / 32 + 1) (c - (offC P c i pl).1)) ((offC P c i pl).2 + min (P i.toNat / 32 + 1) (c - (offC P c i pl).1)) (copyB B P ln (offC P c i pl).2 (offC P c i pl).1 (min (P i.toNat / 32 + 1) (c - (offC P c i pl).1))) else B
theorem chS_go {P : Nat → Int} {c ln : Int} {n : Nat} {i pl j q : Int} {B : Nat → Int} (hn : 0 < n) (h : i < c) (ho : offC P c i pl = (j, q)) : chS P c ln n i pl B = chS P c ln (n - 1) (j + min (P i.toNat / 32 + 1) (c - j)) (q + min (P i.toNat / 32 + 1) (c - j)) (copyB B P ln q j (min (P i.toNat / 32 + 1) (c - j))) := by
  obtain ⟨k, rfl⟩ : ∃ k, n = k + 1 := ⟨n - 1, by omega⟩
  refine (if_pos h).trans ?_
  rw [ho]; rfl
theorem chS_end {P : Nat → Int} {c ln : Int} {n : Nat} {i pl : Int} {B : Nat → Int} (h : c ≤ i) : chS P c ln n i pl B = B := by
  cases n with
  | zero => rfl
  | succ n => exact if_neg (by omega)
theorem byte_ch {P : Nat → Int} {c ln : Int} (hP : ∀ j, 0 ≤ P j ∧ P j < 256) : ∀ (n : Nat) (i pl : Int) (B : Nat → Int), (∀ j, 0 ≤ B j ∧ B j < 256) → ∀ j, 0 ≤ chS P c ln n i pl B j ∧ chS P c ln n i pl B j < 256
  | 0, _, _, B, hB => hB
  | n + 1, i, pl, B, hB => by
    by_cases h : i < c
    · rw [chS_go (Nat.succ_pos n) h rfl]; exact byte_ch hP n _ _ _ (byte_copy hB hP)
    · rw [chS_end (by omega)]; exact hB
def unpS (P : Nat → Int) (c ln mt : Int) (B : Nat → Int) : Nat → Int := if mt = 3 then chS P c ln 5000 0 0 B else if mt = 2 then runsS P c ln 5000 0 0 (fun _ => 0) else if mt = 1 then pairsS P c ln 5000 0 0 (fun _ => 0) else copyB (fun _ => 0) P ln 0 0 c
theorem byte_unp {P : Nat → Int} {c ln mt : Int} {B : Nat → Int} (hP : ∀ j, 0 ≤ P j ∧ P j < 256) (hB : ∀ j, 0 ≤ B j ∧ B j < 256) : ∀ j, 0 ≤ unpS P c ln mt B j ∧ unpS P c ln mt B j < 256 := by
  have h0 : ∀ j : Nat, 0 ≤ (fun _ : Nat => (0 : Int)) j ∧ (fun _ : Nat => (0 : Int)) j < 256 := fun _ => ⟨Int.le_refl 0, by show (0 : Int) < 256; decide⟩
  unfold unpS
  split
  · exact byte_ch hP _ _ _ _ hB
  · split
    · exact byte_runs hP _ _ _ _ h0
    · split
      · exact byte_pairs hP _ _ _ _ h0
      · exact byte_copy h0 hP
