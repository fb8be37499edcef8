/-! both sides' answers are the same: one by one -/
theorem okZ_eq {f f' : Int → Int} (kd i t : Int) {n : Int} (hn : 0 ≤ n) (h : ∀ j, 0 ≤ j → j < 4 * n → f j = f' j) : okZ f kd i t n = okZ f' kd i t n :=
  fZ_rel (P := fun _ x y => x = y) rfl (M := n) (fun k x y q1 q2 e => by rw [h (4 * k) (by omega) (by omega), h (4 * k + 1) (by omega) (by omega), h (4 * k + 2) (by omega) (by omega), h (4 * k + 3) (by omega) (by omega), e]) n hn (Int.le_refl n)
theorem fitZ_eq {f f' : Int → Int} (val : Int → Int → Int) (i : Int) {n : Int} (hn : 0 ≤ n) (h : ∀ j, 0 ≤ j → j < 4 * n → f j = f' j) : fitZ f val i n = fitZ f' val i n :=
  fZ_rel (P := fun _ x y => x = y) rfl (M := n) (fun k x y q1 q2 e => by rw [h (4 * k) (by omega) (by omega), h (4 * k + 1) (by omega) (by omega), h (4 * k + 2) (by omega) (by omega), h (4 * k + 3) (by omega) (by omega), e]) n hn (Int.le_refl n)
theorem kbZ_eq {f f' : Int → Int} (nt i : Int) {n m : Int} (hn : 0 ≤ n) (h : ∀ j, 0 ≤ j → j < 4 * n → f j = f' j) : kbZ f nt i n m = kbZ f' nt i n m := by
  unfold kbZ
  rw [show (fun kd => fitZ f (vlZ nt kd) i n) = (fun kd => fitZ f' (vlZ nt kd) i n) from funext fun kd => fitZ_eq _ i hn h]
theorem okS_eq {f f' : Int → Int} (kd i : Int) {n : Int} (hn : 0 ≤ n) (h : ∀ j, 0 ≤ j → j < 4 * n → f j = f' j) : okS f kd i n = okS f' kd i n := by
  funext t
  simp only [okS]
  rw [okZ_eq kd i t hn h]
theorem rwF_e {r : Int} {f g : Int → Int} {c o n : Int} (h : rwF r f g c o n) : ∀ j, 0 ≤ j → j < 4 * r → f j = shZ g o j := h.2.2
theorem rel_ok {r : Int} {f g : Int → Int} (kd i : Int) (h : rwF r f g 2 36 5) : okS f kd i r = okS (shZ g 36) kd i (g 2) := by
  rw [okS_eq kd i h.2.1.1 (rwF_e h), h.1]
theorem rel_k {r : Int} {f g : Int → Int} {c o n : Int} (nt i : Int) (h : rwF r f g c o n) : kbZ f nt i r 6 = kbZ (shZ g o) nt i (g c) 6 := by
  rw [kbZ_eq nt i h.2.1.1 (rwF_e h), h.1]
theorem cnt_9 {ok : Int → Int} (h : ok 0 = 0) : cntZ ok 1 10 ≤ 9 := by
  have e : ∀ i, 1 ≤ i → (i ≤ 10 → cntZ ok 1 i ≤ i - 1) := by
    refine nat_ind1 (fun _ => by rw [cntZ_1 h]; omega) (fun k hk e q => ?_)
    rw [cntZ_s _ _ (by omega)]
    have := e (by omega)
    split <;> omega
  have := e 10 (by omega) (by omega)
  omega
theorem bstZ_no {key enc : Int → Int} (f0 : Int) {n : Int} (hn : 0 ≤ n) (h : ∀ j, 0 ≤ j → j < n → ¬ 0 < key j) : bstZ key enc f0 n = (-1, f0) :=
  fZ_ind (P := fun _ x => x = (-1, f0)) rfl (M := n) (fun k x q1 q2 e => by rw [if_neg (fun q => h k q1 q2 q.1)]; exact e) n hn (Int.le_refl n)
theorem tell_eq {ok : Int → Int} (kd : Int) (h : ok 0 = 0) : (if bitZ ok 1 10 = 0 then -1 else (bstZ (tellK ok kd) tellE 10 186).1) = (bstZ (tellK ok kd) tellE 1000000 186).1 := by
  have hk : ∀ j, tellK ok kd j = max (lvZ ok kd (j / 31) (j % 31) 10) (ntZ ok kd (j / 31) (j % 31) 10) := fun j => rfl
  have hs : ∀ j, lvZ ok kd (j / 31) (j % 31) 10 + ntZ ok kd (j / 31) (j % 31) 10 = cntZ ok 1 10 := fun j => lvnt ok kd _ _ (by omega)
  have hl : ∀ j, 0 ≤ lvZ ok kd (j / 31) (j % 31) 10 := fun j => (lvZ_b ok kd _ _ (by omega)).1
  have hn : ∀ j, 0 ≤ ntZ ok kd (j / 31) (j % 31) 10 := fun j => (ntZ_b ok kd _ _ (by omega)).1
  have hb := bitZ_pos (f := ok) (v := 1) (m := 10) (by omega)
  have h9 := cnt_9 h
  by_cases q : bitZ ok 1 10 = 0
  · rw [if_pos q, bstZ_no 1000000 (by omega) (fun j _ _ => by have := hs j; have := hl j; have := hn j; have := hb.mp q; rw [hk j]; omega)]
  · rw [if_neg q]
    have hc : cntZ ok 1 10 ≠ 0 := fun w => q (hb.mpr w)
    have := hs 0; have := hl 0; have := hn 0
    rw [bstZ_f0 (f0 := 10) (f1 := 1000000) (by rw [hk 0]; omega) (by rw [hk 0]; omega) (by rw [hk 0]; omega) 186 (by omega)]
theorem look_eq {x : Int} (h : 0 ≤ x) : (if x = 0 then -1 else (bstY (lookK x) lookE 7 270).1) = (if 0 < x then (bstY (lookK x) lookE 1000000 270).1 else -1) := by
  by_cases q : x = 0
  · rw [if_pos q, if_neg (by omega)]
  · have ht : lookK x 0 ≤ 6 := (topZ_b _ x (m := 6) (by omega)).2
    rw [if_neg q, if_pos (by omega), bstY_f0 (f0 := 7) (f1 := 1000000) (by omega) (by omega) 270 (by omega)]
theorem ask_eq (t : Int) {x : Int} (h : 0 ≤ x) : (if x = 0 then -1 else (bstY (askK t x) (fun j => j) 7 10).1) = (if 0 < x then (bstY (askK t x) (fun j => j) 1000000 10).1 else -1) := by
  by_cases q : x = 0
  · rw [if_pos q, if_neg (by omega)]
  · have ht : askK t x 0 ≤ 6 := (topZ_b _ x (m := 6) (by omega)).2
    rw [if_neg q, if_pos (by omega), bstY_f0 (f0 := 7) (f1 := 1000000) (by omega) (by omega) 10 (by omega)]
theorem rel_can {S M : Int} {sk sc mk ms mp g : Int → Int} (r : relI S M sk sc mk ms mp g) {h : Int} (hh : 0 ≤ h ∧ h < S) (d : Int) : canI S M sk ms mp h d ↔ canG g h d := by
  show ((0 ≤ h ∧ h < S) ∧ 0 < cntZ mp h M ∧ needZ (sk h) d (cntZ mp h M) ≤ sumZ mp ms h M) ↔ (0 < cntG g (h + 1) ∧ needZ (g (17 + h)) d (cntG g (h + 1)) ≤ sumG g (h + 1))
  rw [rel_cnt r, rel_sum r, (r.2.1 h hh.1 hh.2).1]
  exact ⟨fun q => q.2, fun q => ⟨hh, q⟩⟩
theorem rel_calls {S M : Int} {sk sc mk ms mp g : Int → Int} (r : relI S M sk sc mk ms mp g) {h : Int} (hh : 0 ≤ h ∧ h < S) {k : Int} (hk : 0 ≤ k) : relI S M sk (callsI S M sc mk ms mp h k).2.1 mk ms (callsI S M sc mk ms mp h k).2.2 (callsG g h k).2 ∧ (callsI S M sc mk ms mp h k).1 = (callsG g h k).1 := by
  refine fZ_rel (P := fun _ (x : Int × (Int → Int) × (Int → Int)) (y : Int × (Int → Int)) => relI S M sk x.2.1 mk ms x.2.2 y.2 ∧ x.1 = y.1) ⟨r, rfl⟩ (M := k) (fun i x y q1 q2 e => ?_) k hk (Int.le_refl k)
  have e1 := rel_lst e.1 hh
  refine ⟨?_, e1⟩
  show relI S M sk (goSc x.2.1 h (lstI S M x.2.1 mk ms x.2.2 h)) mk ms (goMp x.2.2 (lstI S M x.2.1 mk ms x.2.2 h)) (goG y.2 h (lstG y.2 h))
  rw [← e1]
  exact rel_go e.1 hh (rel_lb e.1)
theorem far_eq {S M : Int} {sk sc mk ms mp g : Int → Int} (r : relI S M sk sc mk ms mp g) {h z z' : Int} (hh : 0 ≤ h ∧ h < S) (a : (0 ≤ z ∧ z ≤ 30) ∧ (z = 0 ∨ canI S M sk ms mp h z) ∧ (∀ d, z < d → d ≤ 30 → ¬ canI S M sk ms mp h d)) (b : 0 ≤ z' ∧ z' ≤ 30 ∧ (z' = 0 ∨ canG g h z') ∧ ∀ d, z' < d → d ≤ 30 → ¬ canG g h d) : z = z' := by
  obtain ⟨a1, a2, a3⟩ := a
  obtain ⟨b1, b2, b3, b4⟩ := b
  by_cases q : z < z'
  · exact absurd ((rel_can r hh z').mpr (b3.resolve_left (by omega))) (a3 z' q b2)
  · by_cases w : z' < z
    · exact absurd ((rel_can r hh z).mp (a2.resolve_left (by omega))) (b4 z w a1.2)
    · omega
theorem calls_cnt {g : Int → Int} {h d : Int} (hh : 0 ≤ h ∧ h ≤ 2) (h0 : 0 ≤ g 0 ∧ g 0 ≤ 8) {k : Int} (hk : 0 ≤ k) (hc : ∀ j, 0 ≤ j → j < k → canG (callsG g h j).2 h d) : cntG (callsG g h k).2 (h + 1) + k ≤ 8 := by
  have key : ∀ i, 0 ≤ i → i ≤ k → cntG (callsG g h i).2 (h + 1) + i ≤ 8 := by
    intro i hi
    obtain ⟨n, rfl⟩ := Int.eq_ofNat_of_zero_le hi
    clear hi
    induction n with
    | zero =>
      intro _
      have := cntZ_b (shZ g 6) (h + 1) (m := g 0) h0.1
      show cntG g (h + 1) + 0 ≤ 8
      unfold cntG
      omega
    | succ n ih =>
      intro q
      have e : ((n + 1 : Nat) : Int) = (n : Int) + 1 := by omega
      rw [e] at q ⊢
      have i1 := ih (by omega)
      have c1 := (hc n (by omega) (by omega)).1
      rw [callsG_s _ _ (by omega)]
      show cntG (goG (callsG g h n).2 h (lstG (callsG g h n).2 h)) (h + 1) + (n + 1) ≤ 8
      rw [goG_cnt hh (by rw [callsG_k hh.1 h0.1 (by omega) (by omega)]; exact h0) c1]
      omega
  exact key k hk (Int.le_refl k)
theorem lasts_eq {S M : Int} {sk sc mk ms mp g : Int → Int} (r : relI S M sk sc mk ms mp g) {h d z z' : Int} (hh : 0 ≤ h ∧ h < S) (a : (0 ≤ z ∧ z ≤ 8) ∧ (z = 8 ∨ ¬ canI S M sk ms (callsI S M sc mk ms mp h z).2.2 h d) ∧ (∀ j, 0 ≤ j → j < z → canI S M sk ms (callsI S M sc mk ms mp h j).2.2 h d)) (b : 0 ≤ z' ∧ ¬ canG (callsG g h z').2 h d ∧ ∀ j, 0 ≤ j → j < z' → canG (callsG g h j).2 h d) : z = z' := by
  obtain ⟨a1, a2, a3⟩ := a
  obtain ⟨b1, b2, b3⟩ := b
  have hS := r.1
  have e : ∀ j, 0 ≤ j → (canI S M sk ms (callsI S M sc mk ms mp h j).2.2 h d ↔ canG (callsG g h j).2 h d) := fun j q => rel_can (rel_calls r hh q).1 hh d
  by_cases q : z < z'
  · rcases a2 with w | w
    · have h1 := calls_cnt (g := g) (h := h) (d := d) (by omega) (by omega) b1 b3
      have h2 := cntZ_b (shZ (callsG g h z').2 6) (h + 1) (m := (callsG g h z').2 0) (by rw [callsG_k hh.1 (by omega) b1 (by omega)]; omega)
      have h3 : cntG (callsG g h z').2 (h + 1) = cntZ (shZ (callsG g h z').2 6) (h + 1) ((callsG g h z').2 0) := rfl
      omega
    · exact absurd ((e z a1.1).mpr (b3 z a1.1 q)) w
  · by_cases w : z' < z
    · exact absurd ((e z' b1).mp (a3 z' b1 w)) b2
    · omega
theorem rel_cen {S M : Int} {sk sc mk ms mp g : Int → Int} (r : relI S M sk sc mk ms mp g) (sd : Int) {k : Int} (hk : 0 ≤ k) : relI S M sk (cenI S M sc mk ms mp sd k).2.1 mk ms (cenI S M sc mk ms mp sd k).2.2 (cenG g sd k).2 ∧ (cenI S M sc mk ms mp sd k).1 = (cenG g sd k).1 := by
  have h1 := r.1.1
  have h0 := r.1.2.1
  refine fZ_rel (P := fun _ (x : Int × (Int → Int) × (Int → Int)) (y : Int × (Int → Int)) => relI S M sk x.2.1 mk ms x.2.2 y.2 ∧ x.1 = y.1) ⟨r, rfl⟩ (M := k) (fun i x y q1 q2 e => ?_) k hk (Int.le_refl k)
  obtain ⟨e1, e2⟩ := e
  obtain ⟨X, c, p⟩ := x
  obtain ⟨Y, G⟩ := y
  have e2 : X = Y := e2
  subst e2
  have e1 : relI S M sk c mk ms p G := e1
  refine ⟨?_, rfl⟩
  show relI S M sk (yearSc S M c mk ms p (lcgZ X / 65536 % 3) (lcgZ X / 1048576 % 16)) mk ms (yearMp S M c mk ms p (lcgZ X / 65536 % 3) (lcgZ X / 1048576 % 16)) (yearG g G (lcgZ X / 65536 % 3) (lcgZ X / 1048576 % 16))
  obtain ⟨h, eh⟩ : ∃ h, h = lcgZ X / 65536 % 3 := ⟨_, rfl⟩
  obtain ⟨y, ey⟩ : ∃ y, y = lcgZ X / 1048576 % 16 := ⟨_, rfl⟩
  rw [← eh, ← ey]
  have hh : 0 ≤ h ∧ h < 3 := by omega
  have hy : 0 ≤ y ∧ y < 16 := by omega
  unfold yearSc yearMp yearG
  rw [h1, h0]
  by_cases a : h < S
  · rw [if_pos a, if_pos a]
    by_cases b : 8 ≤ y
    · rw [if_pos b, if_pos b, if_pos ⟨a, b⟩, ← rel_lst e1 ⟨hh.1, a⟩]
      exact rel_go e1 ⟨hh.1, a⟩ (rel_lb e1)
    · rw [if_neg b, if_neg b, if_neg (show ¬ (h < S ∧ 8 ≤ y) from fun q => b q.2)]
      by_cases c1 : y < M
      · have hm := (e1.2.2.1 y hy.1 c1).2.2.1
        by_cases d : p y = -1
        · rw [if_pos ⟨c1, d⟩, if_pos ⟨a, c1, by omega⟩]
          exact rel_brd e1 ⟨hh.1, a⟩ ⟨hy.1, c1⟩
        · rw [if_neg (show ¬ (y < M ∧ p y = -1) from fun q => d q.2), if_neg (show ¬ (h < S ∧ y < M ∧ G (6 + y) = 0) from fun q => by have := q.2.2; omega)]
          exact e1
      · rw [if_neg (show ¬ (y < M ∧ p y = -1) from fun q => c1 q.1), if_neg (show ¬ (h < S ∧ y < M ∧ G (6 + y) = 0) from fun q => c1 q.2.1)]
        exact e1
  · rw [if_neg a, if_neg a, if_neg (show ¬ (h < S ∧ 8 ≤ y) from fun q => a q.1), if_neg (show ¬ (h < S ∧ y < M ∧ G (6 + y) = 0) from fun q => a q.1)]
    exact e1
/-! two unlike ships' calls -/
theorem cntZ_i {f f' : Int → Int} {v m : Int} (hm : 0 ≤ m) (h : ∀ k, 0 ≤ k → k < m → (f' k = v ↔ f k = v)) : cntZ f' v m = cntZ f v m :=
  fZ_rel (P := fun _ x y => x = y) rfl (M := m) (fun k x y q1 q2 e => by
    by_cases w : f k = v
    · rw [if_pos w, if_pos ((h k q1 q2).mpr w), e]
    · rw [if_neg w, if_neg (fun z => w ((h k q1 q2).mp z)), e]) m hm (Int.le_refl m)
theorem sumZ_i {f f' t t' : Int → Int} {v m : Int} (hm : 0 ≤ m) (h : ∀ k, 0 ≤ k → k < m → (f' k = v ↔ f k = v)) (ht : ∀ k, 0 ≤ k → k < m → t' k = t k) : sumZ f' t' v m = sumZ f t v m :=
  fZ_rel (P := fun _ x y => x = y) rfl (M := m) (fun k x y q1 q2 e => by
    by_cases w : f k = v
    · rw [if_pos w, if_pos ((h k q1 q2).mpr w), e, ht k q1 q2]
    · rw [if_neg w, if_neg (fun z => w ((h k q1 q2).mp z)), e]) m hm (Int.le_refl m)
theorem lstZ_i {f f' : Int → Int} (t : Int → Int) {v m : Int} (hm : 0 ≤ m) (h : ∀ k, 0 ≤ k → k < m → (f' k = v ↔ f k = v)) : lstZ f' t v m = lstZ f t v m :=
  fZ_rel (P := fun _ x y => x = y) rfl (M := m) (fun k x y q1 q2 e => by
    rw [e]
    by_cases w : f k = v ∧ (y = -1 ∨ t k < t y)
    · rw [if_pos w, if_pos ⟨(h k q1 q2).mpr w.1, w.2⟩]
    · rw [if_neg w, if_neg (fun z => w ⟨(h k q1 q2).mp z.1, z.2⟩)]) m hm (Int.le_refl m)
/-- a call of h moves nobody to or from another ship -/
theorem go_pl {g : Int → Int} {h k z i : Int} (hh : 0 ≤ h) (hk : 0 ≤ k) (hne : k ≠ h) (h0 : 0 ≤ g 0 ∧ g 0 ≤ 8) (hz : z = -1 ∨ (0 ≤ z ∧ z < g 0 ∧ g (6 + z) = h + 1)) (hi : 0 ≤ i ∧ i < g 0) : goG g h z (6 + i) = k + 1 ↔ g (6 + i) = k + 1 := by
  unfold goG
  by_cases q : z = -1
  · rw [if_pos q]
  · have hz2 := hz.resolve_left q
    rw [if_neg q, zu_n _ _ (by omega)]
    by_cases w : i = z
    · subst w
      rw [zu_s]
      omega
    · rw [zu_n _ _ (by omega)]
theorem go_no {g : Int → Int} {h z j : Int} (hh : 0 ≤ h ∧ h ≤ 2) (h0 : 0 ≤ g 0 ∧ g 0 ≤ 8) (hz : z = -1 ∨ (0 ≤ z ∧ z < g 0 ∧ g (6 + z) = h + 1)) (hj : j < 6 ∨ 17 ≤ j ∨ (14 ≤ j ∧ j ≠ 14 + h)) : goG g h z j = g j := by
  unfold goG
  split
  · rfl
  · rw [zu_n _ _ (by omega), zu_n _ _ (by omega)]
theorem go_can {g : Int → Int} {h k z d : Int} (hh : 0 ≤ h ∧ h ≤ 2) (hk : 0 ≤ k ∧ k ≤ 2) (hne : k ≠ h) (h0 : 0 ≤ g 0 ∧ g 0 ≤ 8) (hz : z = -1 ∨ (0 ≤ z ∧ z < g 0 ∧ g (6 + z) = h + 1)) : canG (goG g h z) k d ↔ canG g k d := by
  have e0 : goG g h z 0 = g 0 := go_no hh h0 hz (by omega)
  have e1 : cntG (goG g h z) (k + 1) = cntG g (k + 1) := by
    unfold cntG
    rw [e0]
    exact cntZ_i h0.1 (fun i q1 q2 => go_pl hh.1 hk.1 hne h0 hz ⟨q1, q2⟩)
  have e2 : sumG (goG g h z) (k + 1) = sumG g (k + 1) := by
    unfold sumG
    rw [e0]
    exact sumZ_i h0.1 (fun i q1 q2 => go_pl hh.1 hk.1 hne h0 hz ⟨q1, q2⟩) (fun i q1 q2 => go_no hh h0 hz (by omega))
  show (0 < cntG (goG g h z) (k + 1) ∧ needZ (goG g h z (17 + k)) d (cntG (goG g h z) (k + 1)) ≤ sumG (goG g h z) (k + 1)) ↔ (0 < cntG g (k + 1) ∧ needZ (g (17 + k)) d (cntG g (k + 1)) ≤ sumG g (k + 1))
  rw [e1, e2, go_no hh h0 hz (by omega)]
theorem go_lst {g : Int → Int} {h k z : Int} (hh : 0 ≤ h ∧ h ≤ 2) (hk : 0 ≤ k ∧ k ≤ 2) (hne : k ≠ h) (h0 : 0 ≤ g 0 ∧ g 0 ≤ 8) (hz : z = -1 ∨ (0 ≤ z ∧ z < g 0 ∧ g (6 + z) = h + 1)) : lstG (goG g h z) k = lstG g k := by
  unfold lstG
  rw [go_no hh h0 hz (j := 0) (by omega), go_no hh h0 hz (j := 14 + k) (by omega)]
  have e : lkZ (shZ (goG g h z) 20) (shZ (goG g h z) 28) (g (14 + k)) = lkZ (shZ (goG g h z) 20) (shZ (goG g h z) 28) (g (14 + k)) := rfl
  have e2 : lstZ (shZ (goG g h z) 6) (lkZ (shZ (goG g h z) 20) (shZ (goG g h z) 28) (g (14 + k))) (k + 1) (g 0) = lstZ (shZ g 6) (lkZ (shZ (goG g h z) 20) (shZ (goG g h z) 28) (g (14 + k))) (k + 1) (g 0) := lstZ_i _ h0.1 (fun i q1 q2 => go_pl hh.1 hk.1 hne h0 hz ⟨q1, q2⟩)
  rw [e2]
  have e3 : ∀ i, 0 ≤ i → i ≤ g 0 → (lstZ (shZ g 6) (lkZ (shZ (goG g h z) 20) (shZ (goG g h z) 28) (g (14 + k))) (k + 1) i = lstZ (shZ g 6) (lkZ (shZ g 20) (shZ g 28) (g (14 + k))) (k + 1) i ∧ (lstZ (shZ g 6) (lkZ (shZ g 20) (shZ g 28) (g (14 + k))) (k + 1) i = -1 ∨ 0 ≤ lstZ (shZ g 6) (lkZ (shZ g 20) (shZ g 28) (g (14 + k))) (k + 1) i)) := by
    have el : ∀ i, 0 ≤ i → lkZ (shZ (goG g h z) 20) (shZ (goG g h z) 28) (g (14 + k)) i = lkZ (shZ g 20) (shZ g 28) (g (14 + k)) i := fun i q => by
      show likedZ (goG g h z (20 + i)) (goG g h z (28 + i)) _ = likedZ (g (20 + i)) (g (28 + i)) _
      rw [go_no hh h0 hz (by omega), go_no hh h0 hz (by omega)]
    refine fZ_rel (P := fun i x y => x = y ∧ (y = -1 ∨ 0 ≤ y)) ⟨rfl, Or.inl rfl⟩ (M := g 0) (fun i x y q1 q2 w => ?_)
    obtain ⟨rfl, w⟩ := w
    rcases w with w | w
    · subst w
      by_cases c : shZ g 6 i = k + 1
      · rw [if_pos ⟨c, Or.inl rfl⟩, if_pos ⟨c, Or.inl rfl⟩]
        exact ⟨rfl, Or.inr q1⟩
      · rw [if_neg (fun v => c v.1), if_neg (fun v => c v.1)]
        exact ⟨rfl, Or.inl rfl⟩
    · rw [el i q1, el x w]
      refine ⟨rfl, ?_⟩
      split
      · exact Or.inr q1
      · exact Or.inr w
  exact (e3 (g 0) h0.1 (Int.le_refl _)).1
/-- behind both calls: a ship can as behind her own -/
theorem go_two {g : Int → Int} {h k d : Int} (hh : 0 ≤ h ∧ h ≤ 2) (hk : 0 ≤ k ∧ k ≤ 2) (hne : k ≠ h) (h0 : 0 ≤ g 0 ∧ g 0 ≤ 8) : canG (goG (goG g h (lstG g h)) k (lstG (goG g h (lstG g h)) k)) k d ↔ canG (goG g k (lstG g k)) k d := by
  have hz := lstG_b (g := g) h h0.1
  have hw := lstG_b (g := g) k h0.1
  rw [go_lst hh hk hne h0 hz]
  obtain ⟨z, ez⟩ : ∃ z, z = lstG g h := ⟨_, rfl⟩
  obtain ⟨w, ew⟩ : ∃ w, w = lstG g k := ⟨_, rfl⟩
  rw [← ez, ← ew]
  rw [← ez] at hz
  rw [← ew] at hw
  have e0 : goG g h z 0 = g 0 := go_no hh h0 hz (by omega)
  have hp : ∀ i, 0 ≤ i → i < g 0 → (goG (goG g h z) k w (6 + i) = k + 1 ↔ goG g k w (6 + i) = k + 1) := fun i q1 q2 => by
    by_cases c : w = -1
    · have u1 : ∀ x : Int → Int, goG x k w = x := fun x => by unfold goG; rw [if_pos c]
      rw [u1, u1]
      exact go_pl hh.1 hk.1 hne h0 hz ⟨q1, q2⟩
    · have hw2 := hw.resolve_left c
      have u1 : ∀ x : Int → Int, goG x k w = zu (zu x (6 + w) 0) (14 + k) (min 99 (x (14 + k) + 1)) := fun x => by unfold goG; rw [if_neg c]
      rw [u1, u1, zu_n _ _ (show 6 + i ≠ 14 + k by omega), zu_n _ _ (show 6 + i ≠ 14 + k by omega)]
      by_cases v : i = w
      · rw [v, zu_s, zu_s]
      · rw [zu_n _ _ (show 6 + i ≠ 6 + w by omega), zu_n _ _ (show 6 + i ≠ 6 + w by omega)]
        exact go_pl hh.1 hk.1 hne h0 hz ⟨q1, q2⟩
  have oth : ∀ j, j < 6 ∨ 17 ≤ j → goG (goG g h z) k w j = g j ∧ goG g k w j = g j := fun j q => by
    have b1 : goG g k w j = g j := go_no hk h0 hw (by omega)
    refine ⟨?_, b1⟩
    by_cases c : w = -1
    · have u1 : ∀ x : Int → Int, goG x k w = x := fun x => by unfold goG; rw [if_pos c]
      rw [u1]
      exact go_no hh h0 hz (by omega)
    · have hw2 := hw.resolve_left c
      have u1 : ∀ x : Int → Int, goG x k w = zu (zu x (6 + w) 0) (14 + k) (min 99 (x (14 + k) + 1)) := fun x => by unfold goG; rw [if_neg c]
      rw [u1, zu_n _ _ (by omega), zu_n _ _ (by omega)]
      exact go_no hh h0 hz (by omega)
  have e1 : cntG (goG (goG g h z) k w) (k + 1) = cntG (goG g k w) (k + 1) := by
    unfold cntG
    rw [(oth 0 (by omega)).1, (oth 0 (by omega)).2]
    exact cntZ_i h0.1 hp
  have e2 : sumG (goG (goG g h z) k w) (k + 1) = sumG (goG g k w) (k + 1) := by
    unfold sumG
    rw [(oth 0 (by omega)).1, (oth 0 (by omega)).2]
    exact sumZ_i h0.1 hp (fun i q1 q2 => (oth (28 + i) (by omega)).1.trans (oth (28 + i) (by omega)).2.symm)
  show (0 < cntG (goG (goG g h z) k w) (k + 1) ∧ needZ (goG (goG g h z) k w (17 + k)) d (cntG (goG (goG g h z) k w) (k + 1)) ≤ sumG (goG (goG g h z) k w) (k + 1)) ↔ (0 < cntG (goG g k w) (k + 1) ∧ needZ (goG g k w (17 + k)) d (cntG (goG g k w) (k + 1)) ≤ sumG (goG g k w) (k + 1))
  rw [e1, e2, (oth (17 + k) (by omega)).1, (oth (17 + k) (by omega)).2]
theorem gnI_i {a b a' b' : Int} (h1 : a = 1 ↔ a' = 1) (h2 : b = 1 ↔ b' = 1) : gnI a b = gnI a' b' := by
  unfold gnI
  by_cases p : a = 1
  · by_cases q : b = 1
    · rw [if_pos p, if_pos q, if_pos (h1.mp p), if_pos (h2.mp q)]
    · rw [if_pos p, if_neg q, if_pos (h1.mp p), if_neg (fun w => q (h2.mpr w))]
  · by_cases q : b = 1
    · rw [if_neg p, if_pos q, if_neg (fun w => p (h1.mpr w)), if_pos (h2.mp q)]
    · rw [if_neg p, if_neg q, if_neg (fun w => p (h1.mpr w)), if_neg (fun w => q (h2.mpr w))]
theorem isP_i (P : Prop) : isP P = 1 ↔ P := by
  constructor
  · intro q
    exact Classical.byContradiction fun w => isP_0 w q
  · exact isP_1
theorem canZ_i (g : Int → Int) (h d : Int) : canZ g h d = 1 ↔ canG g h d := by
  rcases canZ_iff g h d with q | q
  · exact ⟨fun _ => q.2, fun _ => q.1⟩
  · exact ⟨fun w => by omega, fun w => absurd w q.2⟩
theorem canZ_b (g : Int → Int) (h d : Int) : canZ g h d = 0 ∨ canZ g h d = 1 := by
  rcases canZ_iff g h d with q | q
  · exact Or.inr q.1
  · exact Or.inl q.1
theorem wat_all {a b c d : Int} (ha : a = 0 ∨ a = 1) (hb : b = 0 ∨ b = 1) (hc : c = 0 ∨ c = 1) (hd : d = 0 ∨ d = 1) : watI (gnI a c) (gnI b d) = watZ a b c d 4 := by
  rcases ha with rfl | rfl <;> rcases hb with rfl | rfl <;> rcases hc with rfl | rfl <;> rcases hd with rfl | rfl <;> decide +kernel
theorem wat_eq {S M : Int} {sk sc mk ms mp g : Int → Int} (r : relI S M sk sc mk ms mp g) {a c d : Int} (ha : 0 ≤ a ∧ a < S) (hc : 0 ≤ c ∧ c < S) (hne : ¬ a = c) : watI (gnI (cnI S M sk ms (goMp (goMp mp (lstI S M sc mk ms mp a)) (lstI S M (goSc sc a (lstI S M sc mk ms mp a)) mk ms (goMp mp (lstI S M sc mk ms mp a)) c)) a d) (cnI S M sk ms mp a d)) (gnI (cnI S M sk ms (goMp (goMp mp (lstI S M sc mk ms mp a)) (lstI S M (goSc sc a (lstI S M sc mk ms mp a)) mk ms (goMp mp (lstI S M sc mk ms mp a)) c)) c d) (cnI S M sk ms mp c d)) = watZ (canZ (goG g a (lstG g a)) a d) (canZ (goG g c (lstG g c)) c d) (canZ g a d) (canZ g c d) 4 := by
  have hS := r.1
  have h0 : 0 ≤ g 0 ∧ g 0 ≤ 8 := by omega
  have r1 := rel_go r ha (rel_lb r (h := a))
  have r2 := rel_go r1 hc (rel_lb r1 (h := c))
  have l1 := rel_lst r ha
  have l2 := rel_lst r1 hc
  rw [l2, l1] at r2
  rw [l2, l1]
  rw [← wat_all (canZ_b _ _ _) (canZ_b _ _ _) (canZ_b _ _ _) (canZ_b _ _ _)]
  have hza := lstG_b (g := g) a h0.1
  have e0 : goG g a (lstG g a) 0 = g 0 := go_no (by omega) h0 hza (by omega)
  have hzc := lstG_b (g := goG g a (lstG g a)) c (by rw [e0]; exact h0.1)
  have A1 : (cnI S M sk ms (goMp (goMp mp (lstG g a)) (lstG (goG g a (lstG g a)) c)) a d = 1 ↔ canZ (goG g a (lstG g a)) a d = 1) := by
    rw [canZ_i, ← go_can (d := d) (z := lstG (goG g a (lstG g a)) c) (h := c) (k := a) (by omega) (by omega) hne (by rw [e0]; exact h0) hzc]
    exact (isP_i _).trans (rel_can r2 ha d)
  have A2 : (cnI S M sk ms (goMp (goMp mp (lstG g a)) (lstG (goG g a (lstG g a)) c)) c d = 1 ↔ canZ (goG g c (lstG g c)) c d = 1) := by
    rw [canZ_i, ← go_two (d := d) (h := a) (k := c) (by omega) (by omega) (fun w => hne w.symm) h0]
    exact (isP_i _).trans (rel_can r2 hc d)
  have B1 : (cnI S M sk ms mp a d = 1 ↔ canZ g a d = 1) := (isP_i _).trans ((rel_can r ha d).trans (canZ_i g a d).symm)
  have B2 : (cnI S M sk ms mp c d = 1 ↔ canZ g c d = 1) := (isP_i _).trans ((rel_can r hc d).trans (canZ_i g c d).symm)
  rw [gnI_i A1 B1, gnI_i A2 B2]
/-! counts and the digest -/
theorem ct_eq {S M : Int} {sk sc mk ms mp : Int → Int} {r1 : Int} {f1 : Int → Int} {r2 : Int} {f2 : Int → Int} {r3 : Int} {f3 : Int → Int} {r4 : Int} {f4 g : Int → Int} (r : REL S M sk sc mk ms mp r1 f1 r2 f2 r3 f3 r4 f4 g) (ln : Int) {w : Int} (hw : 0 ≤ w ∧ w ≤ 9) : ctI S M sc ms mp r1 r2 r3 r4 ln w = ctG g ln w := by
  obtain ⟨a, b, c, d, e, u⟩ := r
  have ht : totZ sc S = g 14 + g 15 + g 16 := by
    have hS := a.1
    rcases (show S = 0 ∨ S = 1 ∨ S = 2 ∨ S = 3 by omega) with q | q | q | q
    · subst q
      have h0 := a.2.2.2 0 (by omega) (by omega); have h1 := a.2.2.2 1 (by omega) (by omega); have h2 := a.2.2.2 2 (by omega) (by omega)
      show 0 = g (14 + 0) + g (14 + 1) + g (14 + 2)
      omega
    · subst q
      have h0 := (a.2.1 0 (by omega) (by omega)).2; have h1 := a.2.2.2 1 (by omega) (by omega); have h2 := a.2.2.2 2 (by omega) (by omega)
      show 0 + sc 0 = g (14 + 0) + g (14 + 1) + g (14 + 2)
      omega
    · subst q
      have h0 := (a.2.1 0 (by omega) (by omega)).2; have h1 := (a.2.1 1 (by omega) (by omega)).2; have h2 := a.2.2.2 2 (by omega) (by omega)
      show 0 + sc 0 + sc 1 = g (14 + 0) + g (14 + 1) + g (14 + 2)
      omega
    · subst q
      have h0 := (a.2.1 0 (by omega) (by omega)).2; have h1 := (a.2.1 1 (by omega) (by omega)).2; have h2 := (a.2.1 2 (by omega) (by omega)).2
      show 0 + sc 0 + sc 1 + sc 2 = g (14 + 0) + g (14 + 1) + g (14 + 2)
      omega
  have h2 := b.1; have h3 := c.1; have h4 := d.1; have h5 := u.1
  have h0 := a.1.2.1; have h1 := a.1.1
  have hc := rel_cnt a (-1); have hs := rel_sum a (-1)
  rw [show (-1 : Int) + 1 = 0 by omega] at hc hs
  unfold ctI ctG
  rcases (show w = 0 ∨ w = 1 ∨ w = 2 ∨ w = 3 ∨ w = 4 ∨ w = 5 ∨ w = 6 ∨ w = 7 ∨ w = 8 ∨ w = 9 by omega) with q | q | q | q | q | q | q | q | q | q <;> subst q
  · exact h0.symm
  · exact h1.symm
  · exact hc
  · exact hs
  · exact ht
  · exact h2.symm
  · exact h3.symm
  · exact h4.symm
  · exact h5.symm
  · rfl
theorem hash_eq {f g : Int → Int} {o o' n : Int} (hn : 0 ≤ n) (h : ∀ j, 0 ≤ j → j < n → f (o + j) = g (o' + j)) (x : Int) : hashZ f o x n = hashZ g o' x n :=
  fZ_rel (P := fun _ x y => x = y) rfl (M := n) (fun k x y q1 q2 e => by rw [h k q1 q2, e]) n hn (Int.le_refl n)
theorem hash_rw {r : Int} {f g : Int → Int} {c o n : Int} (h : rwF r f g c o n) (x : Int) : hashZ f 0 x (4 * r) = hashZ g o x (4 * g c) := by
  rw [h.1]
  exact hash_eq (by have := h.2.1; omega) (fun j q1 q2 => by rw [Int.zero_add]; exact h.2.2 j q1 q2) x
theorem dig_eq {S M : Int} {sk sc mk ms mp : Int → Int} {r1 : Int} {f1 : Int → Int} {r2 : Int} {f2 : Int → Int} {r3 : Int} {f3 : Int → Int} {r4 : Int} {f4 g : Int → Int} (r : REL S M sk sc mk ms mp r1 f1 r2 f2 r3 f3 r4 f4 g) (ln ab be : Int) : (31 * (31 * hashZ f3 0 (hashZ f2 0 (hashZ f1 0 (hashM mk ms mp (hashS sk sc (hashZ (ctI S M sc ms mp r1 r2 r3 r4 ln) 0 1721 10) S) M) (4 * r1)) (4 * r2)) (4 * r3) + ab) + be) = digG g ln ab be := by
  have hc : hashZ (ctI S M sc ms mp r1 r2 r3 r4 ln) 0 1721 10 = hashZ (ctG g ln) 0 1721 10 := hash_eq (by omega) (fun j q1 q2 => ct_eq r ln (by omega)) 1721
  obtain ⟨a, b, c, d, e, u⟩ := r
  have hS := a.1
  rw [hc, hash_rw b, hash_rw c, hash_rw d]
  unfold digG
  have e1 : hashS sk sc (hashZ (ctG g ln) 0 1721 10) S = hashS (shZ g 17) (shZ g 14) (hashZ (ctG g ln) 0 1721 10) (g 1) := by
    rw [hS.1]
    exact fZ_rel (P := fun _ x y => x = y) rfl (M := S) (fun k x y q1 q2 w => by rw [(a.2.1 k q1 q2).1, (a.2.1 k q1 q2).2, w]; rfl) S (by omega) (Int.le_refl S)
  have e2 : ∀ x, hashM mk ms mp x M = hashM (shZ g 20) (shZ g 28) (plG g) x (g 0) := fun x => by
    rw [hS.2.1]
    exact fZ_rel (P := fun _ x y => x = y) rfl (M := M) (fun k x y q1 q2 w => by rw [(a.2.2.1 k q1 q2).1, (a.2.2.1 k q1 q2).2.1, (a.2.2.1 k q1 q2).2.2.1, w]; rfl) M (by omega) (Int.le_refl M)
  rw [e1, e2]
