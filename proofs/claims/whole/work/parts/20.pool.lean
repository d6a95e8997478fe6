-- the lines of the sheet: a pool of pairs of cells (a line, its words)
theorem vP_iff {D : va_G} {cl : List vw_C} {ws : va_W} {H : Heap} : va_P D cl ws H ↔ ∀ q ∈ ws, va_at D cl q H := by
  constructor
  · intro h q hq
    obtain ⟨k, hk⟩ := List.mem_iff_getElem?.mp hq
    exact h k q hk
  · intro h k q hk
    exact h q (List.mem_of_getElem? hk)
theorem vD_iff {A : Nat → Prop} {ws : va_W} : va_D A ws ↔ (ws.map Prod.fst).Nodup ∧ ∀ q ∈ ws, A q.1 := by
  constructor
  · rintro ⟨h1, h2⟩
    refine ⟨List.pairwise_iff_getElem.mpr (fun i j hi hj hij => ?_), fun q hq => ?_⟩
    · rw [List.getElem_map, List.getElem_map]
      rw [List.length_map] at hi hj
      intro e
      have := h1 i j _ _ (List.getElem?_eq_getElem hi) (List.getElem?_eq_getElem hj) e
      omega
    · obtain ⟨k, hk⟩ := List.mem_iff_getElem?.mp hq
      exact h2 k q hk
  · rintro ⟨h1, h2⟩
    refine ⟨fun i j p q hi hj e => ?_, fun k q hk => h2 q (List.mem_of_getElem? hk)⟩
    have h1 := List.pairwise_iff_getElem.mp h1
    obtain ⟨li, ei⟩ := List.getElem?_eq_some_iff.mp hi
    obtain ⟨lj, ej⟩ := List.getElem?_eq_some_iff.mp hj
    rcases Nat.lt_trichotomy i j with h | h | h
    · exact absurd (by rw [List.getElem_map, List.getElem_map, ei, ej]; exact e) (h1 i j (by rw [List.length_map]; exact li) (by rw [List.length_map]; exact lj) h)
    · exact h
    · exact absurd (by rw [List.getElem_map, List.getElem_map, ei, ej]; exact e.symm) (h1 j i (by rw [List.length_map]; exact lj) (by rw [List.length_map]; exact li) h)
theorem vP_perm {D : va_G} {cl : List vw_C} {w1 w2 : va_W} {H : Heap} (hp : w1.Perm w2) (h : va_P D cl w1 H) : va_P D cl w2 H := vP_iff.mpr (fun q hq => vP_iff.mp h q (hp.mem_iff.mpr hq))
theorem vD_perm {A : Nat → Prop} {w1 w2 : va_W} (hp : w1.Perm w2) (h : va_D A w1) : va_D A w2 := vD_iff.mpr ⟨(hp.map Prod.fst).nodup_iff.mp (vD_iff.mp h).1, fun q hq => (vD_iff.mp h).2 q (hp.mem_iff.mpr hq)⟩
theorem fm_congr {α β : Type} {l : List α} {f g : α → List β} (h : ∀ a ∈ l, f a = g a) : l.flatMap f = l.flatMap g := by
  induction l with
  | nil => rfl
  | cons a l ih => rw [List.flatMap_cons, List.flatMap_cons, h a List.mem_cons_self, ih (fun b hb => h b (List.mem_cons_of_mem _ hb))]
abbrev lnC (cJ : ClassId) (ac : Int) (nw a w : Nat) (f : Nat → Int64) : va_W := [(a, .inr (0, [.int (iI ac), .ref w])), (w, .inl (cJ, nw, .inr (.inl f)))]
def LOK (cJ : ClassId) (ac : Int) (nw dn : Nat) (g : Nat → Option Nat) (pl : va_W) (Wd : Nat → Nat → Int64) : Prop :=
  ∃ (ys : List Nat) (la wa : Nat → Nat) (M : Nat → Nat → Int64), pl = ys.flatMap (fun y => lnC cJ ac nw (la y) (wa y) (M y)) ∧ ys.Nodup ∧ (∀ y, y < dn → g y = if y ∈ ys then some (la y) else none) ∧ (∀ y, y < dn → ∀ k, k < nw → Wd y k = if y ∈ ys then M y k else 0)
def LBK (D : va_G) (cJ : ClassId) (ac : Int) (nw dn : Nat) (g : Nat → Option Nat) (y a w : Nat) (pl : va_W) (Wd : Nat → Nat → Int64) : Prop :=
  ∀ (f2 : Nat → Int64) (Wd2 : Nat → Nat → Int64), (∀ k, k < nw → f2 k = Wd2 y k) → (∀ z, z < dn → z ≠ y → ∀ k, k < nw → Wd2 z k = Wd z k) →
    ∃ pl2, LOK cJ ac nw dn g pl2 Wd2 ∧ ∀ (A : Nat → Prop) (X : va_W) (H : Heap), va_P D xcl ((X ++ lnC cJ ac nw a w f2) ++ pl) H → va_D A ((X ++ lnC cJ ac nw a w f2) ++ pl) → va_P D xcl (X ++ pl2) H ∧ va_D A (X ++ pl2)
theorem LOK_0 (cJ : ClassId) (ac : Int) (nw dn : Nat) : LOK cJ ac nw dn (fun _ => none) [] (fun _ _ => 0) := ⟨[], fun _ => 0, fun _ => 0, fun _ _ => 0, rfl, List.nodup_nil, fun y _ => by simp, fun y _ k _ => by simp⟩
theorem LOK_none {cJ : ClassId} {ac : Int} {nw dn : Nat} {g : Nat → Option Nat} {pl : va_W} {Wd : Nat → Nat → Int64} (h : LOK cJ ac nw dn g pl Wd) {y : Nat} (hy : y < dn) (hg : g y = none) : ∀ k, k < nw → Wd y k = 0 := by
  obtain ⟨ys, la, wa, M, -, -, h3, h4⟩ := h
  have hn : ¬ y ∈ ys := fun q => by rw [h3 y hy, if_pos q] at hg; cases hg
  exact fun k hk => by rw [h4 y hy k hk, if_neg hn]
theorem LOK_take {cJ : ClassId} {ac : Int} {nw dn : Nat} {g : Nat → Option Nat} {pl : va_W} {Wd : Nat → Nat → Int64} (D : va_G) (h : LOK cJ ac nw dn g pl Wd) {y a : Nat} (hy : y < dn) (hg : g y = some a) :
    ∃ (w : Nat) (f : Nat → Int64) (pl' : va_W), (∀ k, k < nw → f k = Wd y k) ∧ LBK D cJ ac nw dn g y a w pl' Wd ∧ ∀ (A : Nat → Prop) (X : va_W) (H : Heap), va_P D xcl (X ++ pl) H → va_D A (X ++ pl) → va_P D xcl ((X ++ lnC cJ ac nw a w f) ++ pl') H ∧ va_D A ((X ++ lnC cJ ac nw a w f) ++ pl') := by
  obtain ⟨ys, la, wa, M, rfl, h2, h3, h4⟩ := h
  have hm : y ∈ ys := by
    by_cases q : y ∈ ys
    · exact q
    · rw [h3 y hy, if_neg q] at hg; cases hg
  have ha : la y = a := by rw [h3 y hy, if_pos hm] at hg; exact Option.some.inj hg
  subst ha
  have hne : ∀ z ∈ ys.erase y, z ≠ y := fun z hz => ((List.Nodup.mem_erase_iff h2).mp hz).1
  have per : ∀ (F : Nat → va_W) (X : va_W), (X ++ ys.flatMap F).Perm ((X ++ F y) ++ (ys.erase y).flatMap F) := fun F X => by
    rw [List.append_assoc]
    refine List.Perm.append_left X ?_
    have := (List.perm_cons_erase hm).flatMap_right F
    rwa [List.flatMap_cons] at this
  refine ⟨wa y, M y, (ys.erase y).flatMap (fun y => lnC cJ ac nw (la y) (wa y) (M y)), fun k hk => by rw [h4 y hy k hk, if_pos hm], ?_, fun A X H hP hD => ⟨vP_perm (per _ X) hP, vD_perm (per _ X) hD⟩⟩
  intro f2 Wd2 q1 q2
  refine ⟨ys.flatMap (fun z => lnC cJ ac nw (la z) (wa z) (va_up M y f2 z)), ⟨ys, la, wa, va_up M y f2, rfl, h2, h3, fun z hz k hk => ?_⟩, fun A X H hP hD => ?_⟩
  · by_cases e : z = y
    · subst e; rw [if_pos hm, up_s, q1 k hk]
    · rw [q2 z hz e k hk, h4 z hz k hk, up_n _ _ e]
  · have e1 : (ys.erase y).flatMap (fun z => lnC cJ ac nw (la z) (wa z) (va_up M y f2 z)) = (ys.erase y).flatMap (fun z => lnC cJ ac nw (la z) (wa z) (M z)) := fm_congr (fun z hz => by rw [up_n _ _ (hne z hz)])
    have p1 := per (fun z => lnC cJ ac nw (la z) (wa z) (va_up M y f2 z)) X
    rw [e1] at p1
    have e2 : va_up M y f2 y = f2 := up_s _ _ _
    simp only [e2] at p1
    exact ⟨vP_perm p1.symm hP, vD_perm p1.symm hD⟩
theorem LOK_new {cJ : ClassId} {ac : Int} {nw dn : Nat} {g : Nat → Option Nat} {pl : va_W} {Wd : Nat → Nat → Int64} (D : va_G) (h : LOK cJ ac nw dn g pl Wd) {y : Nat} (hy : y < dn) (hg : g y = none) (a w : Nat) : LBK D cJ ac nw dn (va_up g y (some a)) y a w pl Wd := by
  obtain ⟨ys, la, wa, M, rfl, h2, h3, h4⟩ := h
  have hn : ¬ y ∈ ys := fun q => by rw [h3 y hy, if_pos q] at hg; cases hg
  intro f2 Wd2 q1 q2
  have hne : ∀ z ∈ ys, z ≠ y := fun z hz e => hn (e ▸ hz)
  have e1 : ys.flatMap (fun z => lnC cJ ac nw (va_up la y a z) (va_up wa y w z) (va_up M y f2 z)) = ys.flatMap (fun z => lnC cJ ac nw (la z) (wa z) (M z)) := fm_congr (fun z hz => by rw [up_n _ _ (hne z hz), up_n _ _ (hne z hz), up_n _ _ (hne z hz)])
  refine ⟨(y :: ys).flatMap (fun z => lnC cJ ac nw (va_up la y a z) (va_up wa y w z) (va_up M y f2 z)), ⟨y :: ys, va_up la y a, va_up wa y w, va_up M y f2, rfl, List.nodup_cons.mpr ⟨hn, h2⟩, fun z hz => ?_, fun z hz k hk => ?_⟩, fun A X H hP hD => ?_⟩
  · by_cases e : z = y
    · subst e; rw [up_s, up_s, if_pos List.mem_cons_self]
    · rw [up_n _ _ e, up_n _ _ e, h3 z hz]
      by_cases q : z ∈ ys
      · rw [if_pos q, if_pos (List.mem_cons_of_mem _ q)]
      · rw [if_neg q, if_neg (fun r => (List.mem_cons.mp r).elim e q)]
  · by_cases e : z = y
    · subst e; rw [if_pos List.mem_cons_self, up_s, q1 k hk]
    · rw [q2 z hz e k hk, h4 z hz k hk, up_n _ _ e]
      by_cases q : z ∈ ys
      · rw [if_pos q, if_pos (List.mem_cons_of_mem _ q)]
      · rw [if_neg q, if_neg (fun r => (List.mem_cons.mp r).elim e q)]
  · rw [List.flatMap_cons, e1]
    have e2 : lnC cJ ac nw (va_up la y a y) (va_up wa y w y) (va_up M y f2 y) = lnC cJ ac nw a w f2 := by rw [up_s, up_s, up_s]
    rw [e2, ← List.append_assoc]
    exact ⟨hP, hD⟩
-- counting the sheet's dots
def totW (Wd : Nat → Nat → Int64) (nw dn : Nat) : Nat := sumN (fun y => sumN (fun k => pcw (Wd y k)) nw) dn
theorem pcN_or (p q : Nat → Bool) (n : Nat) : pcN (fun i => p i || q i) n = pcN p n + pcN (fun i => q i && (p i ^^ true)) n := by
  induction n with
  | zero => rfl
  | succ n ih =>
    show pcN _ n + (p n || q n).toNat = pcN p n + (p n).toNat + (pcN _ n + (q n && (p n ^^ true)).toNat)
    rw [ih]
    cases p n <;> cases q n <;> simp <;> omega
theorem pcw_or (a b : Int64) : pcw (a ||| b) = pcw a + pcw (b &&& (a ^^^ (-1))) := by
  unfold pcw
  rw [pcN_congr (q := fun i => tb a i || tb b i) (fun i _ => tb_or a b i), pcN_or, pcN_congr (p := tb (b &&& (a ^^^ (-1)))) (q := fun i => tb b i && (tb a i ^^ true)) (fun i hi => by rw [tb_and, tb_xor, tb_m1 i hi])]
theorem sumN_add (F G : Nat → Nat) (n : Nat) : sumN (fun k => F k + G k) n = sumN F n + sumN G n := by
  induction n with
  | zero => rfl
  | succ n ih => show sumN _ n + (F n + G n) = (sumN F n + F n) + (sumN G n + G n); rw [ih]; omega
theorem sumN_one {F G : Nat → Nat} {n y : Nat} (hy : y < n) (h : ∀ z, z < n → z ≠ y → G z = F z) : sumN G n + F y = sumN F n + G y := by
  induction n with
  | zero => omega
  | succ n ih =>
    show sumN G n + G n + F y = sumN F n + F n + G y
    by_cases e : y = n
    · subst e
      rw [sumN_congr (F := G) (G := F) (fun i hi => h i (by omega) (by omega))]; omega
    · have := ih (by omega) (fun z hz hzy => h z (by omega) hzy)
      have h2 := h n (by omega) (by omega)
      omega
theorem totW_row {Wd Wd2 : Nat → Nat → Int64} {nw dn y : Nat} {sf f : Nat → Int64} (hy : y < dn) (h1 : ∀ k, k < nw → Wd2 y k = Wd y k ||| sf k) (h2 : ∀ z, z < dn → z ≠ y → ∀ k, k < nw → Wd2 z k = Wd z k) (hf : ∀ k, k < nw → f k = Wd y k) : totW Wd2 nw dn = totW Wd nw dn + sumN (fun k => pcw (sf k &&& (f k ^^^ (-1)))) nw := by
  have a := sumN_one (F := fun y => sumN (fun k => pcw (Wd y k)) nw) (G := fun y => sumN (fun k => pcw (Wd2 y k)) nw) hy (fun z hz e => sumN_congr (fun k hk => by rw [h2 z hz e k hk]))
  have b : sumN (fun k => pcw (Wd2 y k)) nw = sumN (fun k => pcw (Wd y k)) nw + sumN (fun k => pcw (sf k &&& (f k ^^^ (-1)))) nw := by
    rw [← sumN_add]; exact sumN_congr (fun k hk => by rw [h1 k hk, pcw_or, hf k hk])
  unfold totW
  omega
