/-! what a row holds beyond its end is free -/
theorem arrV_ext (cA : ClassId) (n : Nat) {f g : Nat → Value} (h : ∀ j, j < n → f j = g j) : arrV cA n f = arrV cA n g := by
  have e : (Array.ofFn (n := n) (fun j => f j)) = Array.ofFn (n := n) (fun j => g j) := by
    congr 1
    funext j
    exact h j.1 j.2
  first
    | (unfold arrV; rw [e]; done)
    | (simp only [arrV, e]; done)
    | (unfold arrV; congr 1; apply Array.ext (by simp); intro i h1 h2; simp at h1 h2 ⊢; exact h i (by omega))
theorem wd_cell {D : va_G} {A : Nat → Prop} {H0 H : Heap} {sg : List va_W} {locs : List Loc} (Wd : WD D A H0 sg H locs) (i j : Nat) {w : va_W} {a n : Nat} {cA : ClassId} {g g' : Int → Int} {sg' : List va_W} (hs : ix sg i = some w) (ha : ix w j = some (a, .inl (cA, n, .inl (zA g)))) (hw : sg.set i (w.set j (a, .inl (cA, n, .inl (zA g')))) = sg') (h : ∀ k : Int, 0 ≤ k → k < (n : Int) → g k = g' k) : WD D A H0 sg' H locs := by
  obtain ⟨k0, h1, h2⟩ := flat_at sg i j w _ hs ha
  have e : vp_cell cA (n, .inl (zA g)) = vp_cell cA (n, .inl (zA g')) := by
    rw [vp_cell_i, vp_cell_i]
    exact arrV_ext cA n (fun j hj => by show Value.int (zi (g j)) = Value.int (zi (g' j)); rw [h j (by omega) (by omega)])
  have hat : va_at D vwCl (a, .inl (cA, n, .inl (zA g'))) H := by
    have h3 := Wd.1.1 k0 _ h1
    show H[a]? = some (vp_cell cA (n, .inl (zA g')))
    rw [← e]
    exact h3
  have hP := Wd.1.1.set Wd.1.2 h1 hat (fun _ _ => rfl)
  have hD := Wd.1.2.set (e := .inl (cA, n, .inl (zA g'))) h1
  rw [h2, hw] at hP hD
  exact ⟨⟨hP, hD⟩, Wd.2⟩
theorem z_cmp3 {x y q : Int} (h : q = if y < x then 1 else if x = y then 0 else -1) : (y < x ∧ q = 1) ∨ (x = y ∧ q = 0) ∨ (x < y ∧ q = -1) := by
  by_cases h1 : y < x
  · rw [if_pos h1] at h; exact Or.inl ⟨h1, h⟩
  · rw [if_neg h1] at h
    by_cases h2 : x = y
    · rw [if_pos h2] at h; exact Or.inr (Or.inl ⟨h2, h⟩)
    · rw [if_neg h2] at h; exact Or.inr (Or.inr ⟨by omega, h⟩)
