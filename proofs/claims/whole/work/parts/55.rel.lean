/-! an isle's cells stand for the reference's row -/
def relI (S M : Int) (sk sc mk ms mp g : Int → Int) : Prop := (g 1 = S ∧ g 0 = M ∧ 0 ≤ S ∧ S ≤ 3 ∧ 0 ≤ M ∧ M ≤ 8) ∧ (∀ h, 0 ≤ h → h < S → sk h = g (17 + h) ∧ sc h = g (14 + h)) ∧ (∀ m, 0 ≤ m → m < M → mk m = g (20 + m) ∧ ms m = g (28 + m) ∧ mp m = g (6 + m) - 1 ∧ g (6 + m) ≤ S) ∧ (∀ h, S ≤ h → h < 3 → g (14 + h) = 0)
theorem rel_cnt {S M : Int} {sk sc mk ms mp g : Int → Int} (r : relI S M sk sc mk ms mp g) (v : Int) : cntZ mp v M = cntG g (v + 1) := by
  obtain ⟨⟨-, h0, -, -, m0, -⟩, -, hm, -⟩ := r
  unfold cntG
  rw [h0]
  refine fZ_rel (P := fun _ x y => x = y) rfl (M := M) (fun i x y q1 q2 q => ?_) M m0 (Int.le_refl M)
  have e := (hm i q1 q2).2.2.1
  have e2 : shZ g 6 i = g (6 + i) := rfl
  rw [q]
  by_cases c : mp i = v
  · rw [if_pos c, if_pos (by omega)]
  · rw [if_neg c, if_neg (by omega)]
theorem rel_sum {S M : Int} {sk sc mk ms mp g : Int → Int} (r : relI S M sk sc mk ms mp g) (v : Int) : sumZ mp ms v M = sumG g (v + 1) := by
  obtain ⟨⟨-, h0, -, -, m0, -⟩, -, hm, -⟩ := r
  unfold sumG
  rw [h0]
  refine fZ_rel (P := fun _ x y => x = y) rfl (M := M) (fun i x y q1 q2 q => ?_) M m0 (Int.le_refl M)
  have e := (hm i q1 q2).2.2.1
  have e3 := (hm i q1 q2).2.1
  have e2 : shZ g 6 i = g (6 + i) := rfl
  have e4 : shZ g 28 i = g (28 + i) := rfl
  rw [q]
  by_cases c : mp i = v
  · rw [if_pos c, if_pos (by omega), e3, e4]
  · rw [if_neg c, if_neg (by omega)]
theorem rel_bit {S M : Int} {sk sc mk ms mp g : Int → Int} (r : relI S M sk sc mk ms mp g) (v : Int) : bitZ mp v M = bitZ (shZ g 6) (v + 1) (g 0) := by
  obtain ⟨⟨-, h0, -, -, m0, -⟩, -, hm, -⟩ := r
  rw [h0]
  refine fZ_rel (P := fun _ x y => x = y) rfl (M := M) (fun i x y q1 q2 q => ?_) M m0 (Int.le_refl M)
  have e := (hm i q1 q2).2.2.1
  have e2 : shZ g 6 i = g (6 + i) := rfl
  rw [q]
  by_cases c : mp i = v
  · rw [if_pos c, if_pos (by omega)]
  · rw [if_neg c, if_neg (by omega)]
theorem rel_lst {S M : Int} {sk sc mk ms mp g : Int → Int} (r : relI S M sk sc mk ms mp g) {h : Int} (hh : 0 ≤ h ∧ h < S) : lstI S M sc mk ms mp h = lstG g h := by
  obtain ⟨⟨-, h0, -, -, m0, -⟩, hs, hm, -⟩ := r
  unfold lstI lstG
  rw [if_pos hh, h0]
  have ec := (hs h hh.1 hh.2).2
  have key : ∀ i, 0 ≤ i → i ≤ M → (lstZ mp (lkZ mk ms (sc h)) h i = lstZ (shZ g 6) (lkZ (shZ g 20) (shZ g 28) (g (14 + h))) (h + 1) i ∧ (lstZ mp (lkZ mk ms (sc h)) h i = -1 ∨ (0 ≤ lstZ mp (lkZ mk ms (sc h)) h i ∧ lstZ mp (lkZ mk ms (sc h)) h i < i))) := by
    refine fZ_rel (P := fun i x y => x = y ∧ (x = -1 ∨ (0 ≤ x ∧ x < i))) ⟨rfl, Or.inl rfl⟩ (M := M) (fun i x y q1 q2 q => ?_)
    have el : ∀ k, 0 ≤ k → k < M → lkZ mk ms (sc h) k = lkZ (shZ g 20) (shZ g 28) (g (14 + h)) k := fun k k1 k2 => by
      have e := hm k k1 k2
      show likedZ (mk k) (ms k) (sc h) = likedZ (g (20 + k)) (g (28 + k)) (g (14 + h))
      rw [e.1, e.2.1, ec]
    have e := (hm i q1 q2).2.2.1
    have e2 : shZ g 6 i = g (6 + i) := rfl
    have eq1 : mp i = h ↔ shZ g 6 i = h + 1 := by omega
    have eli := el i q1 q2
    rw [← q.1]
    by_cases c : mp i = h ∧ (x = -1 ∨ lkZ mk ms (sc h) i < lkZ mk ms (sc h) x)
    · have c' : shZ g 6 i = h + 1 ∧ (x = -1 ∨ lkZ (shZ g 20) (shZ g 28) (g (14 + h)) i < lkZ (shZ g 20) (shZ g 28) (g (14 + h)) x) := by
        refine ⟨eq1.mp c.1, ?_⟩
        rcases q.2 with w | w
        · exact Or.inl w
        · rw [← eli, ← el x w.1 (by omega)]; exact c.2
      rw [if_pos c, if_pos c']
      exact ⟨rfl, by omega⟩
    · have c' : ¬ (shZ g 6 i = h + 1 ∧ (x = -1 ∨ lkZ (shZ g 20) (shZ g 28) (g (14 + h)) i < lkZ (shZ g 20) (shZ g 28) (g (14 + h)) x)) := by
        intro w
        refine c ⟨eq1.mpr w.1, ?_⟩
        rcases q.2 with v | v
        · exact Or.inl v
        · rw [eli, el x v.1 (by omega)]; exact w.2
      rw [if_neg c, if_neg c']
      exact ⟨rfl, by omega⟩
  exact (key M m0 (Int.le_refl M)).1
theorem rel_0 (sk sc mk ms mp : Int → Int) : relI 0 0 sk sc mk ms mp (fun _ => 0) := ⟨⟨rfl, rfl, by omega⟩, fun h q1 q2 => by omega, fun m q1 q2 => by omega, fun h q1 q2 => rfl⟩
theorem rel_shp {S M : Int} {sk sc mk ms mp g : Int → Int} (r : relI S M sk sc mk ms mp g) (hS : S < 3) (kd : Int) : relI (S + 1) M (zu sk S kd) (zu sc S 0) mk ms mp (shpR g kd) := by
  obtain ⟨⟨h1, h0, s0, s3, m0, m8⟩, hs, hm, hz⟩ := r
  have e1 : ∀ j, j ≠ 1 → j ≠ 17 + S → shpR g kd j = g j := fun j q1 q2 => by
    unfold shpR
    rw [zu_n _ _ q1, zu_n _ _ (by omega)]
  have e2 : shpR g kd (17 + S) = kd := by
    unfold shpR
    rw [zu_n _ _ (by omega), h1, zu_s]
  refine ⟨⟨?_, by rw [e1 0 (by omega) (by omega)]; exact h0, by omega⟩, fun h q1 q2 => ?_, fun m q1 q2 => ?_, fun h q1 q2 => ?_⟩
  · unfold shpR
    rw [zu_s, h1]
  · by_cases c : h = S
    · subst c
      rw [zu_s, zu_s, e2, e1 _ (by omega) (by omega)]
      exact ⟨rfl, (hz h (by omega) hS).symm⟩
    · rw [zu_n _ _ c, zu_n _ _ c, e1 _ (by omega) (by omega), e1 _ (by omega) (by omega)]
      exact hs h q1 (by omega)
  · rw [e1 _ (by omega) (by omega), e1 _ (by omega) (by omega), e1 _ (by omega) (by omega)]
    have := hm m q1 q2
    exact ⟨this.1, this.2.1, this.2.2.1, by omega⟩
  · rw [e1 _ (by omega) (by omega)]
    exact hz h (by omega) q2
theorem rel_lay {S M : Int} {sk sc mk ms mp g : Int → Int} (r : relI S M sk sc mk ms mp g) (hM : M < 8) (kd t : Int) {pl : Int} (hp : 0 ≤ pl ∧ pl ≤ S) : relI S (M + 1) sk sc (zu mk M kd) (zu ms M t) (zu mp M (pl - 1)) (layG g kd t pl) := by
  obtain ⟨⟨h1, h0, s0, s3, m0, m8⟩, hs, hm, hz⟩ := r
  have e1 : ∀ j, j ≠ 0 → j ≠ 20 + M → j ≠ 28 + M → j ≠ 6 + M → layG g kd t pl j = g j := fun j q1 q2 q3 q4 => by
    unfold layG
    rw [zu_n _ _ q1, zu_n _ _ (by omega), zu_n _ _ (by omega), zu_n _ _ (by omega)]
  have e2 : layG g kd t pl (20 + M) = kd := by
    unfold layG
    rw [zu_n _ _ (by omega), zu_n _ _ (by omega), zu_n _ _ (by omega), h0, zu_s]
  have e3 : layG g kd t pl (28 + M) = t := by
    unfold layG
    rw [zu_n _ _ (by omega), zu_n _ _ (by omega), h0, zu_s]
  have e4 : layG g kd t pl (6 + M) = pl := by
    unfold layG
    rw [zu_n _ _ (by omega), h0, zu_s]
  refine ⟨⟨by rw [e1 1 (by omega) (by omega) (by omega) (by omega)]; exact h1, ?_, by omega⟩, fun h q1 q2 => ?_, fun m q1 q2 => ?_, fun h q1 q2 => ?_⟩
  · unfold layG
    rw [zu_s, h0]
  · rw [e1 _ (by omega) (by omega) (by omega) (by omega), e1 _ (by omega) (by omega) (by omega) (by omega)]
    exact hs h q1 q2
  · by_cases c : m = M
    · subst c
      rw [zu_s, zu_s, zu_s, e2, e3, e4]
      exact ⟨rfl, rfl, rfl, hp.2⟩
    · rw [zu_n _ _ c, zu_n _ _ c, zu_n _ _ c, e1 _ (by omega) (by omega) (by omega) (by omega), e1 _ (by omega) (by omega) (by omega) (by omega), e1 _ (by omega) (by omega) (by omega) (by omega)]
      exact hm m q1 (by omega)
  · rw [e1 _ (by omega) (by omega) (by omega) (by omega)]
    exact hz h q1 q2
theorem rel_go {S M : Int} {sk sc mk ms mp g : Int → Int} (r : relI S M sk sc mk ms mp g) {h z : Int} (hh : 0 ≤ h ∧ h < S) (hz0 : z = -1 ∨ (0 ≤ z ∧ z < M)) : relI S M sk (goSc sc h z) mk ms (goMp mp z) (goG g h z) := by
  by_cases c : z = -1
  · rw [goSc, goMp, goG, if_pos c, if_pos c, if_pos c]
    exact r
  · rw [goSc, goMp, goG, if_neg c, if_neg c, if_neg c]
    obtain ⟨⟨h1, h0, s0, s3, m0, m8⟩, hs, hm, hz⟩ := r
    have e1 : ∀ j, j ≠ 6 + z → j ≠ 14 + h → zu (zu g (6 + z) 0) (14 + h) (min 99 (g (14 + h) + 1)) j = g j := fun j q1 q2 => by
      rw [zu_n _ _ q2, zu_n _ _ q1]
    refine ⟨⟨by rw [e1 1 (by omega) (by omega)]; exact h1, by rw [e1 0 (by omega) (by omega)]; exact h0, by omega⟩, fun k q1 q2 => ?_, fun m q1 q2 => ?_, fun k q1 q2 => ?_⟩
    · rw [e1 (17 + k) (by omega) (by omega)]
      by_cases d : k = h
      · subst d
        rw [zu_s, zu_s, (hs k q1 q2).2]
        exact ⟨(hs k q1 q2).1, rfl⟩
      · rw [zu_n _ _ d, e1 (14 + k) (by omega) (by omega)]
        exact hs k q1 q2
    · rw [e1 (20 + m) (by omega) (by omega), e1 (28 + m) (by omega) (by omega)]
      have w := hm m q1 q2
      by_cases d : m = z
      · subst d
        rw [zu_s, zu_n _ _ (by omega), zu_s]
        exact ⟨w.1, w.2.1, by omega, by omega⟩
      · rw [zu_n _ _ d, e1 (6 + m) (by omega) (by omega)]
        exact w
    · rw [e1 _ (by omega) (by omega)]
      exact hz k q1 q2
theorem rel_brd {S M : Int} {sk sc mk ms mp g : Int → Int} (r : relI S M sk sc mk ms mp g) {h i : Int} (hh : 0 ≤ h ∧ h < S) (hi : 0 ≤ i ∧ i < M) : relI S M sk sc mk ms (zu mp i h) (zu g (6 + i) (h + 1)) := by
  obtain ⟨⟨h1, h0, s0, s3, m0, m8⟩, hs, hm, hz⟩ := r
  refine ⟨⟨by rw [zu_n _ _ (by omega)]; exact h1, by rw [zu_n _ _ (by omega)]; exact h0, by omega⟩, fun k q1 q2 => ?_, fun m q1 q2 => ?_, fun k q1 q2 => ?_⟩
  · rw [zu_n _ _ (by omega), zu_n _ _ (by omega)]
    exact hs k q1 q2
  · rw [zu_n _ _ (show 20 + m ≠ 6 + i by omega), zu_n _ _ (show 28 + m ≠ 6 + i by omega)]
    have w := hm m q1 q2
    by_cases d : m = i
    · subst d
      rw [zu_s, zu_s]
      exact ⟨w.1, w.2.1, by omega, by omega⟩
    · rw [zu_n _ _ d, zu_n _ _ (show 6 + m ≠ 6 + i by omega)]
      exact w
  · rw [zu_n _ _ (by omega)]
    exact hz k q1 q2
