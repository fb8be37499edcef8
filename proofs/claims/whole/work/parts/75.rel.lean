/-! what ties the class' isle to the reference's row -/
def rwF (r : Int) (f g : Int → Int) (c o n : Int) : Prop := g c = r ∧ (0 ≤ r ∧ r ≤ n) ∧ ∀ j, 0 ≤ j → j < 4 * r → f j = g (o + j)
def rowK (r1 : Int) (f1 : Int → Int) (r2 : Int) (f2 : Int → Int) (r3 : Int) (f3 : Int → Int) : Prop := (∀ k, 0 ≤ k → k < r1 → 0 ≤ f1 (4 * k + 1)) ∧ (∀ k, 0 ≤ k → k < r2 → 1 ≤ f2 (4 * k + 1) ∧ f2 (4 * k + 1) ≤ 30 ∧ 0 ≤ f2 (4 * k + 2) ∧ f2 (4 * k + 2) ≤ 8) ∧ (∀ k, 0 ≤ k → k < r3 → 0 ≤ f3 (4 * k + 1) ∧ f3 (4 * k + 1) ≤ 9 ∧ 0 ≤ f3 (4 * k + 2))
def undR (S M r : Int) (f g : Int → Int) : Prop := g 5 = r ∧ (0 ≤ r ∧ r ≤ 8) ∧ ∀ i, 0 ≤ i → i < r → ((0 ≤ f (4 * i + 0) ∧ f (4 * i + 0) < S) ∧ (0 ≤ f (4 * i + 1) ∧ f (4 * i + 1) ≤ 99) ∧ (0 ≤ f (4 * i + 2) ∧ f (4 * i + 2) < M) ∧ (-1 ≤ f (4 * i + 3) ∧ f (4 * i + 3) < S)) ∧ ∀ j, 0 ≤ j → j < 11 → g (104 + 11 * i + j) = if j = f (4 * i + 2) then f (4 * i + 3) + 1 else if j = 8 + f (4 * i + 0) then f (4 * i + 1) else if i + 1 = r then g (6 + j) else g (104 + 11 * (i + 1) + j)
def REL (S M : Int) (sk sc mk ms mp : Int → Int) (r1 : Int) (f1 : Int → Int) (r2 : Int) (f2 : Int → Int) (r3 : Int) (f3 : Int → Int) (r4 : Int) (f4 g : Int → Int) : Prop := relI S M sk sc mk ms mp g ∧ rwF r1 f1 g 2 36 5 ∧ rwF r2 f2 g 3 56 6 ∧ rwF r3 f3 g 4 80 6 ∧ rowK r1 f1 r2 f2 r3 f3 ∧ undR S M r4 f4 g
theorem relI_x {S M : Int} {sk sc mk ms mp g g' : Int → Int} (r : relI S M sk sc mk ms mp g) (h : ∀ j, 0 ≤ j → j < 36 → j ≠ 2 → j ≠ 3 → j ≠ 4 → j ≠ 5 → g' j = g j) : relI S M sk sc mk ms mp g' := by
  obtain ⟨⟨a1, a0, a⟩, b, c, d⟩ := r
  refine ⟨⟨?_, ?_, a⟩, fun k q1 q2 => ?_, fun m q1 q2 => ?_, fun k q1 q2 => ?_⟩
  · rw [h 1 (by omega) (by omega) (by omega) (by omega) (by omega) (by omega)]; exact a1
  · rw [h 0 (by omega) (by omega) (by omega) (by omega) (by omega) (by omega)]; exact a0
  · rw [h (17 + k) (by omega) (by omega) (by omega) (by omega) (by omega) (by omega), h (14 + k) (by omega) (by omega) (by omega) (by omega) (by omega) (by omega)]; exact b k q1 q2
  · rw [h (20 + m) (by omega) (by omega) (by omega) (by omega) (by omega) (by omega), h (28 + m) (by omega) (by omega) (by omega) (by omega) (by omega) (by omega), h (6 + m) (by omega) (by omega) (by omega) (by omega) (by omega) (by omega)]; exact c m q1 q2
  · rw [h (14 + k) (by omega) (by omega) (by omega) (by omega) (by omega) (by omega)]; exact d k q1 q2
theorem rwF_x {r : Int} {f g g' : Int → Int} {c o n : Int} (h : rwF r f g c o n) (hc : g' c = g c) (ho : ∀ j, o ≤ j → j < o + 4 * n → g' j = g j) : rwF r f g' c o n := by
  obtain ⟨h1, h2, h3⟩ := h
  exact ⟨by rw [hc]; exact h1, h2, fun j q1 q2 => by rw [ho (o + j) (by omega) (by omega)]; exact h3 j q1 q2⟩
theorem undR_x {S M r : Int} {f g g' : Int → Int} (h : undR S M r f g) (h5 : g' 5 = g 5) (h6 : ∀ j, 6 ≤ j → j < 17 → g' j = g j) (hr : ∀ j, 104 ≤ j → j < 192 → g' j = g j) : undR S M r f g' := by
  obtain ⟨a, b, c⟩ := h
  refine ⟨by rw [h5]; exact a, b, fun i q1 q2 => ⟨(c i q1 q2).1, fun j w1 w2 => ?_⟩⟩
  rw [hr (104 + 11 * i + j) (by omega) (by omega), h6 (6 + j) (by omega) (by omega), (c i q1 q2).2 j w1 w2]
  by_cases e : i + 1 = r
  · rw [if_pos e, if_pos e]
  · rw [if_neg e, if_neg e, hr (104 + 11 * (i + 1) + j) (by omega) (by omega)]
theorem undR_0 (S M : Int) (f : Int → Int) {g : Int → Int} (h : g 5 = 0) : undR S M 0 f g := ⟨h, by omega, fun i q1 q2 => by omega⟩
theorem rwF_0 (f : Int → Int) {g : Int → Int} {c o n : Int} (h : g c = 0) (hn : 0 ≤ n) : rwF 0 f g c o n := ⟨h, by omega, fun j q1 q2 => by omega⟩
theorem rowK_0 (f1 f2 f3 : Int → Int) : rowK 0 f1 0 f2 0 f3 := ⟨fun k q1 q2 => by omega, fun k q1 q2 => by omega, fun k q1 q2 => by omega⟩
theorem REL_g {S M : Int} {sk sc mk ms mp : Int → Int} {r1 : Int} {f1 : Int → Int} {r2 : Int} {f2 : Int → Int} {r3 : Int} {f3 : Int → Int} {r4 : Int} {f4 g g' : Int → Int} (h : REL S M sk sc mk ms mp r1 f1 r2 f2 r3 f3 r4 f4 g) (he : ∀ j, 0 ≤ j → j < 192 → g' j = g j) : REL S M sk sc mk ms mp r1 f1 r2 f2 r3 f3 r4 f4 g' := by
  obtain ⟨a, b, c, d, e, f⟩ := h
  exact ⟨relI_x a (fun j q1 q2 _ _ _ _ => he j q1 (by omega)), rwF_x b (he 2 (by omega) (by omega)) (fun j q1 q2 => he j (by omega) (by omega)), rwF_x c (he 3 (by omega) (by omega)) (fun j q1 q2 => he j (by omega) (by omega)), rwF_x d (he 4 (by omega) (by omega)) (fun j q1 q2 => he j (by omega) (by omega)), e, undR_x f (he 5 (by omega) (by omega)) (fun j q1 q2 => he j (by omega) (by omega)) (fun j q1 q2 => he j (by omega) (by omega))⟩
/-- only the isle's own numbers have changed, and nothing may be undone -/
theorem REL_i {S M : Int} {sk sc mk ms mp : Int → Int} {r1 : Int} {f1 : Int → Int} {r2 : Int} {f2 : Int → Int} {r3 : Int} {f3 : Int → Int} {r4 : Int} {f4 g g' : Int → Int} {S' M' : Int} {sk' sc' mk' ms' mp' : Int → Int} (h : REL S M sk sc mk ms mp r1 f1 r2 f2 r3 f3 r4 f4 g) (hr : relI S' M' sk' sc' mk' ms' mp' g') (h5 : g' 5 = 0) (h2 : g' 2 = g 2 ∧ g' 3 = g 3 ∧ g' 4 = g 4) (ho : ∀ j, 36 ≤ j → j < 104 → g' j = g j) : REL S' M' sk' sc' mk' ms' mp' r1 f1 r2 f2 r3 f3 0 f4 g' := by
  obtain ⟨a, b, c, d, e, f⟩ := h
  exact ⟨hr, rwF_x b h2.1 (fun j q1 q2 => ho j (by omega) (by omega)), rwF_x c h2.2.1 (fun j q1 q2 => ho j (by omega) (by omega)), rwF_x d h2.2.2 (fun j q1 q2 => ho j (by omega) (by omega)), e, undR_0 _ _ _ h5⟩
theorem REL_cp {S M : Int} {sk sc mk ms mp : Int → Int} {r1 : Int} {f1 : Int → Int} {r2 : Int} {f2 : Int → Int} {r3 : Int} {f3 : Int → Int} {r4 : Int} {f4 : Int → Int} {S' M' : Int} {sk' sc' mk' ms' mp' : Int → Int} {r1' : Int} {f1' : Int → Int} {r2' : Int} {f2' : Int → Int} {r3' : Int} {f3' : Int → Int} {r4' : Int} {f4' g : Int → Int} (h : cpI S M sk sc mk ms mp r1 f1 r2 f2 r3 f3 r4 f4 S' M' sk' sc' mk' ms' mp' r1' f1' r2' f2' r3' f3' r4' f4') (r : REL S M sk sc mk ms mp r1 f1 r2 f2 r3 f3 r4 f4 g) : REL S' M' sk' sc' mk' ms' mp' r1' f1' r2' f2' r3' f3' r4' f4' g := by
  have hI := relI_cp h r.1
  obtain ⟨⟨rfl, rfl, rfl, rfl, rfl, rfl⟩, h1, h2, h3, h4, h5, h6⟩ := h
  obtain ⟨-, ⟨b1, b2, b3⟩, ⟨c1, c2, c3⟩, ⟨d1, d2, d3⟩, ⟨e1, e2, e3⟩, ⟨u1, u2, u3⟩⟩ := r
  refine ⟨hI, ⟨b1, b2, fun j q1 q2 => by rw [h3 j q1 q2]; exact b3 j q1 q2⟩, ⟨c1, c2, fun j q1 q2 => by rw [h4 j q1 q2]; exact c3 j q1 q2⟩, ⟨d1, d2, fun j q1 q2 => by rw [h5 j q1 q2]; exact d3 j q1 q2⟩, ⟨fun k q1 q2 => ?_, fun k q1 q2 => ?_, fun k q1 q2 => ?_⟩, ⟨u1, u2, fun i q1 q2 => ?_⟩⟩
  · rw [h3 _ (by omega) (by omega)]; exact e1 k q1 q2
  · rw [h4 _ (by omega) (by omega), h4 (4 * k + 2) (by omega) (by omega)]; exact e2 k q1 q2
  · rw [h5 _ (by omega) (by omega), h5 (4 * k + 2) (by omega) (by omega)]; exact e3 k q1 q2
  · rw [h6 (4 * i + 0) (by omega) (by omega), h6 (4 * i + 1) (by omega) (by omega), h6 (4 * i + 2) (by omega) (by omega), h6 (4 * i + 3) (by omega) (by omega)]; exact u3 i q1 q2
theorem REL_clr {S M : Int} {sk sc mk ms mp : Int → Int} {r1 : Int} {f1 : Int → Int} {r2 : Int} {f2 : Int → Int} {r3 : Int} {f3 : Int → Int} {r4 : Int} {f4 g : Int → Int} (h : REL S M sk sc mk ms mp r1 f1 r2 f2 r3 f3 r4 f4 g) : REL 0 0 sk sc mk ms mp 0 f1 0 f2 0 f3 0 f4 (clrG g 104) := by
  have e : ∀ j, 0 ≤ j → j < 104 → clrG g 104 j = 0 := fun j q1 q2 => by simp only [clrG]; rw [if_pos ⟨q1, q2⟩]
  exact ⟨relI_x (rel_0 sk sc mk ms mp) (fun j q1 q2 _ _ _ _ => e j q1 (by omega)), rwF_0 _ (e 2 (by omega) (by omega)) (by omega), rwF_0 _ (e 3 (by omega) (by omega)) (by omega), rwF_0 _ (e 4 (by omega) (by omega)) (by omega), rowK_0 _ _ _, undR_0 _ _ _ (e 5 (by omega) (by omega))⟩
theorem REL_shp {S M : Int} {sk sc mk ms mp : Int → Int} {r1 : Int} {f1 : Int → Int} {r2 : Int} {f2 : Int → Int} {r3 : Int} {f3 : Int → Int} {r4 : Int} {f4 g : Int → Int} (h : REL S M sk sc mk ms mp r1 f1 r2 f2 r3 f3 r4 f4 g) (hS : S < 3) (kd : Int) : REL (S + 1) M (zu sk S kd) (zu sc S 0) mk ms mp r1 f1 r2 f2 r3 f3 0 f4 (shpG g kd) := by
  have h1 := h.1.1.1
  have hS0 := h.1.1.2.2.1
  have e : shpG g kd = zu (shpR g kd) 5 0 := rfl
  have o : ∀ j, j ≠ 1 → j ≠ 5 → ¬ (17 ≤ j ∧ j < 20) → shpG g kd j = g j := fun j q1 q2 q3 => by
    unfold shpG
    rw [zu_n _ _ q2, zu_n _ _ q1, zu_n _ _ (by omega)]
  refine REL_i h (relI_x (rel_shp h.1 hS kd) (fun j q1 q2 q3 q4 q5 q6 => by rw [e, zu_n _ _ q6])) (by rw [e, zu_s]) ⟨o 2 (by omega) (by omega) (by omega), o 3 (by omega) (by omega) (by omega), o 4 (by omega) (by omega) (by omega)⟩ (fun j q1 q2 => o j (by omega) (by omega) (by omega))
theorem REL_lay {S M : Int} {sk sc mk ms mp : Int → Int} {r1 : Int} {f1 : Int → Int} {r2 : Int} {f2 : Int → Int} {r3 : Int} {f3 : Int → Int} {r4 : Int} {f4 g : Int → Int} (h : REL S M sk sc mk ms mp r1 f1 r2 f2 r3 f3 r4 f4 g) (hM : M < 8) (kd t : Int) {pl : Int} (hp : -1 ≤ pl ∧ pl < S) : REL S (M + 1) sk sc (zu mk M kd) (zu ms M t) (zu mp M pl) r1 f1 r2 f2 r3 f3 0 f4 (zu (layG g kd t (pl + 1)) 5 0) := by
  have h0 := h.1.1.2.1
  have hM0 := h.1.1.2.2.2.2.1
  have o : ∀ j, j ≠ 0 → ¬ (6 ≤ j ∧ j < 14) → ¬ (20 ≤ j ∧ j < 36) → layG g kd t (pl + 1) j = g j := fun j q1 q2 q3 => by
    unfold layG
    rw [zu_n _ _ q1, zu_n _ _ (by omega), zu_n _ _ (by omega), zu_n _ _ (by omega)]
  have hr := rel_lay h.1 hM kd t (pl := pl + 1) (by omega)
  rw [show pl + 1 - 1 = pl by omega] at hr
  exact REL_i h (relI_x hr (fun j q1 q2 q3 q4 q5 q6 => zu_n _ _ q6)) (zu_s _ _ _) ⟨by rw [zu_n _ _ (by omega)]; exact o 2 (by omega) (by omega) (by omega), by rw [zu_n _ _ (by omega)]; exact o 3 (by omega) (by omega) (by omega), by rw [zu_n _ _ (by omega)]; exact o 4 (by omega) (by omega) (by omega)⟩ (fun j q1 q2 => by rw [zu_n _ _ (by omega)]; exact o j (by omega) (by omega) (by omega))
/-! rows kept to be undone -/
theorem sav_lo {g : Int → Int} (h : 0 ≤ g 5 ∧ g 5 ≤ 8) {j : Int} (hj : 0 ≤ j ∧ j < 104) (h5 : j ≠ 5) : savG g j = g j := by
  unfold savG
  split
  · rw [zu_n _ _ h5]
    simp only [rowG]
    rw [if_neg (by omega), zu_n _ _ h5]
    simp only [shfG]
    rw [if_neg (by omega)]
  · rw [zu_n _ _ h5]
    simp only [rowG]
    rw [if_neg (by omega)]
theorem sav_5 {g : Int → Int} (h : 0 ≤ g 5 ∧ g 5 ≤ 8) : savG g 5 = min 8 (g 5 + 1) := by
  unfold savG
  split
  · rw [zu_s]; omega
  · rw [zu_s]; omega
theorem sav_row {g : Int → Int} (h : 0 ≤ g 5 ∧ g 5 ≤ 8) {i j : Int} (hi : 0 ≤ i ∧ i < min 8 (g 5 + 1)) (hj : 0 ≤ j ∧ j < 11) : savG g (104 + 11 * i + j) = if g 5 = 8 then (if i = 7 then g (6 + j) else g (104 + 11 * (i + 1) + j)) else (if i = g 5 then g (6 + j) else g (104 + 11 * i + j)) := by
  unfold savG
  by_cases e : g 5 = 8
  · rw [if_pos e, if_pos e, zu_n _ _ (by omega)]
    simp only [rowG]
    by_cases e2 : i = 7
    · rw [if_pos (by omega), if_pos e2, show 6 + (104 + 11 * i + j - (104 + 11 * 7)) = 6 + j by omega, zu_n _ _ (by omega)]
      simp only [shfG]
      rw [if_neg (by omega)]
    · rw [if_neg (by omega), if_neg e2, zu_n _ _ (by omega)]
      simp only [shfG]
      rw [if_pos (by omega)]
      congr 1
      omega
  · rw [if_neg e, if_neg e, zu_n _ _ (by omega)]
    simp only [rowG]
    by_cases e2 : i = g 5
    · rw [if_pos (by omega), if_pos e2]
      congr 1
      omega
    · rw [if_neg (by omega), if_neg e2]
def fo4 (a b c d k : Int) : Int := if k = 0 then a else if k = 1 then b else if k = 2 then c else d
theorem put_at (f : Int → Int) (n a b c d : Int) {j : Int} : putZ f n a b c d j = if n ≤ j ∧ j < n + 4 then fo4 a b c d (j - n) else f j := by
  unfold putZ fo4
  simp only [zu]
  repeat' split
  all_goals first | rfl | omega
theorem push_at {f : Int → Int} {r a b c d i k : Int} (hr : 0 ≤ r ∧ r ≤ 8) (hi : 0 ≤ i ∧ i < min 8 (r + 1)) (hk : 0 ≤ k ∧ k < 4) : pushZ f r a b c d (4 * i + k) = if r = 8 then (if i = 7 then fo4 a b c d k else f (4 * (i + 1) + k)) else (if i = r then fo4 a b c d k else f (4 * i + k)) := by
  unfold pushZ
  by_cases e : r = 8
  · rw [if_pos (by omega), if_pos e, put_at]
    by_cases e2 : i = 7
    · rw [if_pos (by omega), if_pos e2]
      congr 1
      omega
    · rw [if_neg (by omega), if_neg e2, zcp_in _ _ (by omega)]
      congr 1
      omega
  · rw [if_neg (by omega), if_neg e, put_at]
    by_cases e2 : i = r
    · rw [if_pos (by omega), if_pos e2]
      congr 1
      omega
    · rw [if_neg (by omega), if_neg e2]
/-- a step is kept: ship h with sc calls, man m at mp; then only his place and her calls may change -/
theorem und_push {S M r h m c p : Int} {f g g' : Int → Int} (u : undR S M r f g) (hh : 0 ≤ h ∧ h < S) (hS : S ≤ 3) (hm : 0 ≤ m ∧ m < M) (hM : M ≤ 8) (hc : c = g (14 + h) ∧ 0 ≤ c ∧ c ≤ 99) (hp : p + 1 = g (6 + m) ∧ -1 ≤ p ∧ p < S) (h5 : g' 5 = savG g 5) (hrow : ∀ j, 104 ≤ j → j < 192 → g' j = savG g j) (h6 : ∀ j, 0 ≤ j → j < 11 → j ≠ m → j ≠ 8 + h → g' (6 + j) = g (6 + j)) : undR S M (min 8 (r + 1)) (pushZ f r h c m p) g' := by
  obtain ⟨u5, ur, uu⟩ := u
  have h58 : 0 ≤ g 5 ∧ g 5 ≤ 8 := by omega
  refine ⟨by rw [h5, sav_5 h58, u5], by omega, fun i q1 q2 => ?_⟩
  have hi : 0 ≤ i ∧ i < min 8 (r + 1) := ⟨q1, q2⟩
  rw [push_at ur hi (k := 0) (by omega), push_at ur hi (k := 1) (by omega), push_at ur hi (k := 2) (by omega), push_at ur hi (k := 3) (by omega)]
  have hsv : ∀ j, 0 ≤ j → j < 11 → g' (104 + 11 * i + j) = if g 5 = 8 then (if i = 7 then g (6 + j) else g (104 + 11 * (i + 1) + j)) else (if i = g 5 then g (6 + j) else g (104 + 11 * i + j)) := fun j w1 w2 => by
    rw [hrow _ (by omega) (by omega), sav_row h58 (by rw [u5]; exact hi) ⟨w1, w2⟩]
  have new : ∀ j, 0 ≤ j → j < 11 → g (6 + j) = if j = m then p + 1 else if j = 8 + h then c else g' (6 + j) := fun j w1 w2 => by
    by_cases e1 : j = m
    · rw [if_pos e1, e1, hp.1]
    · rw [if_neg e1]
      by_cases e2 : j = 8 + h
      · rw [if_pos e2, e2, hc.1]
        congr 1
        omega
      · rw [if_neg e2, h6 j w1 w2 e1 e2]
  by_cases e8 : r = 8
  · simp only [if_pos e8]
    by_cases e7 : i = 7
    · simp only [if_pos e7]
      refine ⟨by unfold fo4; exact ⟨hh, hc.2, hm, hp.2⟩, fun j w1 w2 => ?_⟩
      rw [hsv j w1 w2, if_pos (by omega), if_pos e7, if_pos (show i + 1 = min 8 (r + 1) by omega), new j w1 w2]
      rfl
    · simp only [if_neg e7]
      obtain ⟨a, b⟩ := uu (i + 1) (by omega) (by omega)
      refine ⟨a, fun j w1 w2 => ?_⟩
      rw [hsv j w1 w2, if_pos (by omega), if_neg e7, if_neg (show ¬ i + 1 = min 8 (r + 1) by omega), b j w1 w2]
      have hs2 := (hrow (104 + 11 * (i + 1) + j) (by omega) (by omega)).trans (sav_row h58 (i := i + 1) (j := j) (by omega) ⟨w1, w2⟩)
      rw [hs2, if_pos (show g 5 = 8 by omega)]
      by_cases e6 : i + 1 = 7
      · rw [if_pos (show i + 1 + 1 = r by omega), if_pos e6]
      · rw [if_neg (show ¬ i + 1 + 1 = r by omega), if_neg e6]
  · simp only [if_neg e8]
    by_cases e7 : i = r
    · simp only [if_pos e7]
      refine ⟨by unfold fo4; exact ⟨hh, hc.2, hm, hp.2⟩, fun j w1 w2 => ?_⟩
      rw [hsv j w1 w2, if_neg (by omega), if_pos (by omega), if_pos (show i + 1 = min 8 (r + 1) by omega), new j w1 w2]
      rfl
    · simp only [if_neg e7]
      obtain ⟨a, b⟩ := uu i (by omega) (by omega)
      refine ⟨a, fun j w1 w2 => ?_⟩
      rw [hsv j w1 w2, if_neg (by omega), if_neg (by omega), if_neg (show ¬ i + 1 = min 8 (r + 1) by omega), b j w1 w2]
      have hs2 := (hrow (104 + 11 * (i + 1) + j) (by omega) (by omega)).trans (sav_row h58 (i := i + 1) (j := j) (by omega) ⟨w1, w2⟩)
      rw [hs2, if_neg (show ¬ g 5 = 8 by omega)]
      by_cases e6 : i + 1 = r
      · rw [if_pos e6, if_pos (show i + 1 = g 5 by omega)]
      · rw [if_neg e6, if_neg (show ¬ i + 1 = g 5 by omega)]
theorem relI_sav {S M : Int} {sk sc mk ms mp g : Int → Int} (r : relI S M sk sc mk ms mp g) (h : 0 ≤ g 5 ∧ g 5 ≤ 8) : relI S M sk sc mk ms mp (savG g) := relI_x r (fun j q1 q2 _ _ _ q6 => sav_lo h ⟨q1, by omega⟩ q6)
theorem REL_go {S M : Int} {sk sc mk ms mp : Int → Int} {r1 : Int} {f1 : Int → Int} {r2 : Int} {f2 : Int → Int} {r3 : Int} {f3 : Int → Int} {r4 : Int} {f4 g : Int → Int} (r : REL S M sk sc mk ms mp r1 f1 r2 f2 r3 f3 r4 f4 g) {h z : Int} (hh : 0 ≤ h ∧ h < S) (hz : 0 ≤ z ∧ z < M) (hsc : ∀ j, 0 ≤ sc j ∧ sc j ≤ 99) (hmp : -1 ≤ mp z ∧ mp z < S) : REL S M sk (goSc sc h z) mk ms (goMp mp z) r1 f1 r2 f2 r3 f3 (min 8 (r4 + 1)) (pushZ f4 r4 h (sc h) z (mp z)) (goG (savG g) h z) := by
  obtain ⟨a, b, c, d, e, u⟩ := r
  have hS := a.1.2.2
  have h58 : 0 ≤ g 5 ∧ g 5 ≤ 8 := by have := u.1; have := u.2.1; omega
  have hne : ¬ z = -1 := by omega
  have gv : ∀ j, j ≠ 6 + z → j ≠ 14 + h → goG (savG g) h z j = savG g j := fun j q1 q2 => by
    rw [goG, if_neg hne, zu_n _ _ q2, zu_n _ _ q1]
  have lo : ∀ j, 0 ≤ j → j < 104 → j ≠ 5 → j ≠ 6 + z → j ≠ 14 + h → goG (savG g) h z j = g j := fun j q1 q2 q3 q4 q5 => by
    rw [gv j q4 q5, sav_lo h58 ⟨q1, q2⟩ q3]
  refine ⟨rel_go (relI_sav a h58) hh (Or.inr hz), rwF_x b (lo 2 (by omega) (by omega) (by omega) (by omega) (by omega)) (fun j q1 q2 => lo j (by omega) (by omega) (by omega) (by omega) (by omega)), rwF_x c (lo 3 (by omega) (by omega) (by omega) (by omega) (by omega)) (fun j q1 q2 => lo j (by omega) (by omega) (by omega) (by omega) (by omega)), rwF_x d (lo 4 (by omega) (by omega) (by omega) (by omega) (by omega)) (fun j q1 q2 => lo j (by omega) (by omega) (by omega) (by omega) (by omega)), e, ?_⟩
  exact und_push u hh (by omega) hz (by omega) ⟨(a.2.1 h hh.1 hh.2).2, hsc h⟩ ⟨by have := (a.2.2.1 z hz.1 hz.2).2.2.1; omega, hmp⟩ (gv 5 (by omega) (by omega)) (fun j q1 q2 => gv j (by omega) (by omega)) (fun j q1 q2 q3 q4 => lo (6 + j) (by omega) (by omega) (by omega) (by omega) (by omega))
theorem REL_brd {S M : Int} {sk sc mk ms mp : Int → Int} {r1 : Int} {f1 : Int → Int} {r2 : Int} {f2 : Int → Int} {r3 : Int} {f3 : Int → Int} {r4 : Int} {f4 g : Int → Int} (r : REL S M sk sc mk ms mp r1 f1 r2 f2 r3 f3 r4 f4 g) {h z : Int} (hh : 0 ≤ h ∧ h < S) (hz : 0 ≤ z ∧ z < M) (hsc : ∀ j, 0 ≤ sc j ∧ sc j ≤ 99) (hmp : -1 ≤ mp z ∧ mp z < S) : REL S M sk sc mk ms (zu mp z h) r1 f1 r2 f2 r3 f3 (min 8 (r4 + 1)) (pushZ f4 r4 h (sc h) z (mp z)) (zu (savG g) (6 + z) (h + 1)) := by
  obtain ⟨a, b, c, d, e, u⟩ := r
  have hS := a.1.2.2
  have h58 : 0 ≤ g 5 ∧ g 5 ≤ 8 := by have := u.1; have := u.2.1; omega
  have gv : ∀ j, j ≠ 6 + z → zu (savG g) (6 + z) (h + 1) j = savG g j := fun j q1 => zu_n _ _ q1
  have lo : ∀ j, 0 ≤ j → j < 104 → j ≠ 5 → j ≠ 6 + z → zu (savG g) (6 + z) (h + 1) j = g j := fun j q1 q2 q3 q4 => by
    rw [gv j q4, sav_lo h58 ⟨q1, q2⟩ q3]
  refine ⟨rel_brd (relI_sav a h58) hh hz, rwF_x b (lo 2 (by omega) (by omega) (by omega) (by omega)) (fun j q1 q2 => lo j (by omega) (by omega) (by omega) (by omega)), rwF_x c (lo 3 (by omega) (by omega) (by omega) (by omega)) (fun j q1 q2 => lo j (by omega) (by omega) (by omega) (by omega)), rwF_x d (lo 4 (by omega) (by omega) (by omega) (by omega)) (fun j q1 q2 => lo j (by omega) (by omega) (by omega) (by omega)), e, ?_⟩
  exact und_push u hh (by omega) hz (by omega) ⟨(a.2.1 h hh.1 hh.2).2, hsc h⟩ ⟨by have := (a.2.2.1 z hz.1 hz.2).2.2.1; omega, hmp⟩ (gv 5 (by omega)) (fun j q1 q2 => gv j (by omega)) (fun j q1 q2 q3 q4 => lo (6 + j) (by omega) (by omega) (by omega) (by omega))
theorem REL_und {S M : Int} {sk sc mk ms mp : Int → Int} {r1 : Int} {f1 : Int → Int} {r2 : Int} {f2 : Int → Int} {r3 : Int} {f3 : Int → Int} {r4 : Int} {f4 g : Int → Int} (r : REL S M sk sc mk ms mp r1 f1 r2 f2 r3 f3 r4 f4 g) (h4 : 0 < r4) : REL S M sk (zu sc (f4 (4 * (r4 - 1) + 0)) (f4 (4 * (r4 - 1) + 1))) mk ms (zu mp (f4 (4 * (r4 - 1) + 2)) (f4 (4 * (r4 - 1) + 3))) r1 f1 r2 f2 r3 f3 (r4 - 1) f4 (undG g) := by
  obtain ⟨a, b, c, d, e, u⟩ := r
  obtain ⟨u5, ur, uu⟩ := u
  obtain ⟨⟨v1, v2, v3, v4⟩, w⟩ := uu (r4 - 1) (by omega) (by omega)
  have hS := a.1.2.2
  have z5 : zu g 5 (g 5 - 1) 5 = r4 - 1 := by rw [zu_s, u5]
  have out : ∀ j, ¬ (6 ≤ j ∧ j < 17) → j ≠ 5 → undG g j = g j := fun j q1 q2 => by
    unfold undG
    simp only [bckG]
    rw [if_neg (by omega), zu_n _ _ q2]
  have inn : ∀ j, 0 ≤ j → j < 11 → undG g (6 + j) = g (104 + 11 * (r4 - 1) + j) := fun j q1 q2 => by
    unfold undG
    simp only [bckG]
    rw [if_pos (by omega), z5, zu_n _ _ (by omega)]
    congr 1
    omega
  have val : ∀ j, 0 ≤ j → j < 11 → undG g (6 + j) = if j = f4 (4 * (r4 - 1) + 2) then f4 (4 * (r4 - 1) + 3) + 1 else if j = 8 + f4 (4 * (r4 - 1) + 0) then f4 (4 * (r4 - 1) + 1) else g (6 + j) := fun j q1 q2 => by
    rw [inn j q1 q2, w j q1 q2]
    by_cases e1 : j = f4 (4 * (r4 - 1) + 2)
    · rw [if_pos e1, if_pos e1]
    · rw [if_neg e1, if_neg e1]
      by_cases e2 : j = 8 + f4 (4 * (r4 - 1) + 0)
      · rw [if_pos e2, if_pos e2]
      · rw [if_neg e2, if_neg e2, if_pos (by omega)]
  have e5 : undG g 5 = r4 - 1 := by
    unfold undG
    simp only [bckG]
    rw [if_neg (by omega), z5]
  refine ⟨?_, rwF_x b (out 2 (by omega) (by omega)) (fun j q1 q2 => out j (by omega) (by omega)), rwF_x c (out 3 (by omega) (by omega)) (fun j q1 q2 => out j (by omega) (by omega)), rwF_x d (out 4 (by omega) (by omega)) (fun j q1 q2 => out j (by omega) (by omega)), e, e5, by omega, fun i q1 q2 => ?_⟩
  · obtain ⟨⟨a1, a0, ab⟩, ah, am, az⟩ := a
    refine ⟨⟨by rw [out 1 (by omega) (by omega)]; exact a1, by rw [out 0 (by omega) (by omega)]; exact a0, ab⟩, fun h q1 q2 => ?_, fun m q1 q2 => ?_, fun h q1 q2 => ?_⟩
    · rw [out (17 + h) (by omega) (by omega), show (14 : Int) + h = 6 + (8 + h) by omega, val (8 + h) (by omega) (by omega), if_neg (by omega)]
      refine ⟨(ah h q1 q2).1, ?_⟩
      by_cases e1 : h = f4 (4 * (r4 - 1) + 0)
      · rw [if_pos (by omega), e1, zu_s]
      · rw [if_neg (by omega), zu_n _ _ e1, (ah h q1 q2).2]
        congr 1
        omega
    · rw [out (20 + m) (by omega) (by omega), out (28 + m) (by omega) (by omega), val m (by omega) (by omega)]
      have hm := am m q1 q2
      refine ⟨hm.1, hm.2.1, ?_⟩
      by_cases e1 : m = f4 (4 * (r4 - 1) + 2)
      · rw [if_pos e1, e1, zu_s]
        omega
      · rw [if_neg e1, zu_n _ _ e1, if_neg (by omega)]
        exact hm.2.2
    · rw [show (14 : Int) + h = 6 + (8 + h) by omega, val (8 + h) (by omega) (by omega), if_neg (by omega), if_neg (by omega), show (6 : Int) + (8 + h) = 14 + h by omega]
      exact az h q1 q2
  · obtain ⟨x1, x2⟩ := uu i q1 (by omega)
    refine ⟨x1, fun j q3 q4 => ?_⟩
    rw [out (104 + 11 * i + j) (by omega) (by omega), x2 j q3 q4]
    by_cases e1 : i + 1 = r4 - 1
    · rw [if_neg (show ¬ i + 1 = r4 by omega), if_pos e1, inn j q3 q4, e1]
    · rw [if_neg (show ¬ i + 1 = r4 by omega), if_neg e1, out (104 + 11 * (i + 1) + j) (by omega) (by omega)]
