-- an array's contents count up to its length alone
theorem arrV_congr (cA : ClassId) (n : Nat) {f g : Nat → Value} (h : ∀ j, j < n → f j = g j) : arrV cA n f = arrV cA n g := by
  unfold arrV
  congr 1
  apply Array.ext
  · simp
  · intro j h1 h2
    simp at h1
    simp [h j h1]
theorem norm_i {D : va_G} {cl : List vw_C} {A : Nat → Prop} {ws : va_W} {H : Heap} {a n : Nat} {cA : ClassId} {B : Nat → Int} (B' : Nat → Int) (k : Nat) (hP : va_P D cl ws H) (hD : va_D A ws) (hk : ws[k]? = some (a, .inl (cA, n, .inl (iA B)))) (h : ∀ j, j < n → B j = B' j) :
    va_P D cl (ws.set k (a, .inl (cA, n, .inl (iA B')))) H ∧ va_D A (ws.set k (a, .inl (cA, n, .inl (iA B')))) := by
  refine ⟨hP.set hD hk ?_ (fun _ _ => rfl), hD.set hk⟩
  have h1 : H[a]? = some (vp_cell cA (n, .inl (iA B))) := hP k _ hk
  show H[a]? = some (vp_cell cA (n, .inl (iA B')))
  rw [h1, vp_cell_i, vp_cell_i]
  exact congrArg some (arrV_congr cA n (fun j hj => by show Value.int (iI (B j)) = .int (iI (B' j)); rw [h j hj]))
theorem norm_l {D : va_G} {cl : List vw_C} {A : Nat → Prop} {ws : va_W} {H : Heap} {a n : Nat} {cA : ClassId} {f : Nat → Int64} (f' : Nat → Int64) (k : Nat) (hP : va_P D cl ws H) (hD : va_D A ws) (hk : ws[k]? = some (a, .inl (cA, n, .inr (.inl f)))) (h : ∀ j, j < n → f j = f' j) :
    va_P D cl (ws.set k (a, .inl (cA, n, .inr (.inl f')))) H ∧ va_D A (ws.set k (a, .inl (cA, n, .inr (.inl f')))) := by
  refine ⟨hP.set hD hk ?_ (fun _ _ => rfl), hD.set hk⟩
  have h1 : H[a]? = some (vp_cell cA (n, .inr (.inl f))) := hP k _ hk
  show H[a]? = some (vp_cell cA (n, .inr (.inl f')))
  rw [h1, vp_cell_l, vp_cell_l]
  exact congrArg some (arrV_congr cA n (fun j hj => by show Value.long (f j) = .long (f' j); rw [h j hj]))
