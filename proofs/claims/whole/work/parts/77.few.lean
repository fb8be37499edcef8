/-! few: the class' search by totals finds what the reference's search by codes finds -/
theorem lstZ_j {f f' t t' : Int → Int} {v m : Int} (hm : 0 ≤ m) (h : ∀ k, 0 ≤ k → k < m → (f' k = v ↔ f k = v)) (ht : ∀ k, 0 ≤ k → t' k = t k) : lstZ f' t' v m = lstZ f t v m := by
  have key : ∀ i, 0 ≤ i → i ≤ m → (lstZ f' t' v i = lstZ f t v i ∧ (lstZ f t v i = -1 ∨ 0 ≤ lstZ f t v i)) := by
    refine fZ_rel (P := fun i x y => x = y ∧ (y = -1 ∨ 0 ≤ y)) ⟨rfl, Or.inl rfl⟩ (M := m) (fun i x y q1 q2 w => ?_)
    obtain ⟨rfl, w⟩ := w
    have hi := h i q1 q2
    rcases w with w | w
    · subst w
      by_cases c : f i = v
      · rw [if_pos ⟨hi.mpr c, Or.inl rfl⟩, if_pos ⟨c, Or.inl rfl⟩]
        exact ⟨rfl, Or.inr q1⟩
      · rw [if_neg (fun u => c (hi.mp u.1)), if_neg (fun u => c u.1)]
        exact ⟨rfl, Or.inl rfl⟩
    · rw [ht i q1, ht x w]
      by_cases c : f i = v ∧ (x = -1 ∨ t i < t x)
      · rw [if_pos ⟨hi.mpr c.1, c.2⟩, if_pos c]
        exact ⟨rfl, Or.inr q1⟩
      · rw [if_neg (fun u => c ⟨hi.mp u.1, u.2⟩), if_neg c]
        exact ⟨rfl, Or.inr w⟩
  exact (key m hm (Int.le_refl m)).1
theorem sumZ_ch {f f' t : Int → Int} {v z m : Int} (hm : 0 ≤ m) (hz : 0 ≤ z ∧ z < m) (h1 : f' z = v) (h2 : ¬ f z = v) (h : ∀ k, 0 ≤ k → k < m → k ≠ z → (f' k = v ↔ f k = v)) : sumZ f' t v m = sumZ f t v m + t z := by
  have key : ∀ i, 0 ≤ i → i ≤ m → sumZ f' t v i = sumZ f t v i + (if z < i then t z else 0) := by
    refine fZ_rel (P := fun i x y => x = y + (if z < i then t z else 0)) ?_ (M := m) (fun i x y q1 q2 e => ?_)
    · rw [if_neg (by omega)]; rfl
    · by_cases c : i = z
      · subst c
        rw [if_neg (by omega)] at e
        rw [if_pos h1, if_neg h2, if_pos (show i < i + 1 by omega)]
        omega
      · have q := h i q1 q2 c
        by_cases w : f i = v
        · rw [if_pos w, if_pos (q.mpr w)]
          by_cases s : z < i
          · rw [if_pos s] at e; rw [if_pos (by omega)]; omega
          · rw [if_neg s] at e; rw [if_neg (by omega)]; omega
        · rw [if_neg w, if_neg (fun y => w (q.mp y))]
          by_cases s : z < i
          · rw [if_pos s] at e; rw [if_pos (by omega)]; omega
          · rw [if_neg s] at e; rw [if_neg (by omega)]; omega
  have := key m hm (Int.le_refl m)
  rw [if_pos hz.2] at this
  exact this
/-- ship h and all aboard her are alike in both rows -/
def EqS (h : Int) (g g' : Int → Int) : Prop := (g' 0 = g 0 ∧ g' 1 = g 1) ∧ (∀ i, 0 ≤ i → i < g 0 → (g' (6 + i) = h + 1 ↔ g (6 + i) = h + 1)) ∧ g' (14 + h) = g (14 + h) ∧ ∀ j, 17 ≤ j → g' j = g j
theorem EqS_rf (h : Int) (g : Int → Int) : EqS h g g := ⟨⟨rfl, rfl⟩, fun _ _ _ => Iff.rfl, rfl, fun _ _ => rfl⟩
theorem EqS_tr {h : Int} {g g1 g2 : Int → Int} (a : EqS h g g1) (b : EqS h g1 g2) : EqS h g g2 := by
  obtain ⟨⟨a0, a1⟩, a2, a3, a4⟩ := a
  obtain ⟨⟨b0, b1⟩, b2, b3, b4⟩ := b
  exact ⟨⟨b0.trans a0, b1.trans a1⟩, fun i q1 q2 => (b2 i q1 (by omega)).trans (a2 i q1 q2), b3.trans a3, fun j q => (b4 j q).trans (a4 j q)⟩
theorem EqS_lst {h : Int} {g g' : Int → Int} (h0 : 0 ≤ g 0) (e : EqS h g g') : lstG g' h = lstG g h := by
  obtain ⟨⟨e0, e1⟩, e2, e3, e4⟩ := e
  unfold lstG
  rw [e0, e3]
  refine lstZ_j h0 e2 (fun k q => ?_)
  show likedZ (g' (20 + k)) (g' (28 + k)) _ = likedZ (g (20 + k)) (g (28 + k)) _
  rw [e4 (20 + k) (by omega), e4 (28 + k) (by omega)]
theorem EqS_cnt {h : Int} {g g' : Int → Int} (h0 : 0 ≤ g 0) (e : EqS h g g') : cntG g' (h + 1) = cntG g (h + 1) := by
  unfold cntG
  rw [e.1.1]
  exact cntZ_i h0 e.2.1
theorem EqS_go {h z : Int} {g g' : Int → Int} (hh : 0 ≤ h ∧ h ≤ 2) (hz : z = -1 ∨ (0 ≤ z ∧ z < 8)) (e : EqS h g g') : EqS h (goG g h z) (goG g' h z) := by
  by_cases c : z = -1
  · rw [goG, if_pos c, goG, if_pos c]
    exact e
  · have hz2 := hz.resolve_left c
    obtain ⟨⟨e0, e1⟩, e2, e3, e4⟩ := e
    have o : ∀ x : Int → Int, goG x h z = zu (zu x (6 + z) 0) (14 + h) (min 99 (x (14 + h) + 1)) := fun x => by rw [goG, if_neg c]
    have n : ∀ (x : Int → Int) (j : Int), j ≠ 6 + z → j ≠ 14 + h → goG x h z j = x j := fun x j q1 q2 => by rw [o, zu_n _ _ q2, zu_n _ _ q1]
    refine ⟨⟨?_, ?_⟩, fun i q1 q2 => ?_, ?_, fun j q => ?_⟩
    · rw [n _ 0 (by omega) (by omega), n _ 0 (by omega) (by omega), e0]
    · rw [n _ 1 (by omega) (by omega), n _ 1 (by omega) (by omega), e1]
    · rw [n _ 0 (by omega) (by omega)] at q2
      by_cases w : i = z
      · subst w
        rw [o, o]
        by_cases v : 6 + i = 14 + h
        · rw [v, zu_s, zu_s, e3]
        · rw [zu_n _ _ v, zu_n _ _ v, zu_s, zu_s]
      · by_cases v : 6 + i = 14 + h
        · rw [o, o, v, zu_s, zu_s, e3]
        · rw [n _ _ (by omega) v, n _ _ (by omega) v]
          exact e2 i q1 q2
    · rw [o, o, zu_s, zu_s, e3]
    · rw [n _ j (by omega) (by omega), n _ j (by omega) (by omega), e4 j q]
theorem EqS_calls {h : Int} {g g' : Int → Int} (hh : 0 ≤ h ∧ h ≤ 2) (h0 : 0 ≤ g 0 ∧ g 0 ≤ 8) (e : EqS h g g') {k : Int} (hk : 0 ≤ k) : EqS h (callsG g h k).2 (callsG g' h k).2 := by
  have key : ∀ i, 0 ≤ i → i ≤ k → (EqS h (callsG g h i).2 (callsG g' h i).2 ∧ 0 ≤ (callsG g h i).2 0 ∧ (callsG g h i).2 0 ≤ 8) := by
    refine fZ_rel (P := fun _ (x y : Int × (Int → Int)) => EqS h x.2 y.2 ∧ 0 ≤ x.2 0 ∧ x.2 0 ≤ 8) ⟨e, h0⟩ (M := k) (fun i x y q1 q2 w => ?_)
    have hb := lstG_b (g := x.2) h w.2.1
    show EqS h (goG x.2 h (lstG x.2 h)) (goG y.2 h (lstG y.2 h)) ∧ 0 ≤ goG x.2 h (lstG x.2 h) 0 ∧ goG x.2 h (lstG x.2 h) 0 ≤ 8
    rw [EqS_lst w.2.1 w.1, goG_k hh.1 (hb.imp id (fun q => q.1)) (by omega)]
    exact ⟨EqS_go hh (hb.imp id (fun q => ⟨q.1, by omega⟩)) w.1, w.2⟩
  exact (key k hk (Int.le_refl k)).1
theorem EqS_oth {h k : Int} {g : Int → Int} (hh : 0 ≤ h ∧ h ≤ 2) (hk : 0 ≤ k ∧ k ≤ 2) (hne : h ≠ k) (h0 : 0 ≤ g 0 ∧ g 0 ≤ 8) {n : Int} (hn : 0 ≤ n) : EqS h g (callsG g k n).2 := by
  have key : ∀ i, 0 ≤ i → i ≤ n → EqS h g (callsG g k i).2 := by
    refine fZ_ind (P := fun _ (x : Int × (Int → Int)) => EqS h g x.2) (EqS_rf h g) (M := n) (fun i x q1 q2 w => ?_)
    have x0 : 0 ≤ x.2 0 ∧ x.2 0 ≤ 8 := by rw [w.1.1]; exact h0
    have hb := lstG_b (g := x.2) k x0.1
    refine EqS_tr w ?_
    show EqS h x.2 (goG x.2 k (lstG x.2 k))
    exact ⟨⟨go_no hk x0 hb (by omega), go_no hk x0 hb (by omega)⟩, fun i w1 w2 => go_pl hk.1 hh.1 hne x0 hb ⟨w1, w2⟩, go_no hk x0 hb (by omega), fun j q => go_no hk x0 hb (by omega)⟩
  exact key n hn (Int.le_refl n)
/-- what k calls of a ship leave -/
def dlG (g : Int → Int) (h k : Int) : Int := fZ (fun j n => n + (if lstG (callsG g h j).2 h = -1 then 0 else g (28 + lstG (callsG g h j).2 h))) 0 k
theorem dlG_s (g : Int → Int) (h : Int) {k : Int} (q : 0 ≤ k) : dlG g h (k + 1) = dlG g h k + (if lstG (callsG g h k).2 h = -1 then 0 else g (28 + lstG (callsG g h k).2 h)) := fZ_s _ _ q
theorem dlG_eq {h : Int} {g g' : Int → Int} (hh : 0 ≤ h ∧ h ≤ 2) (h0 : 0 ≤ g 0 ∧ g 0 ≤ 8) (e : EqS h g g') {k : Int} (hk : 0 ≤ k) : dlG g' h k = dlG g h k := by
  refine fZ_rel (P := fun _ x y => x = y) rfl (M := k) (fun i x y q1 q2 w => ?_) k hk (Int.le_refl k)
  have c0 : 0 ≤ (callsG g h i).2 0 := by rw [callsG_k hh.1 h0.1 q1 (by omega)]; exact h0.1
  have hb := lstG_b (g := (callsG g h i).2) h c0
  rw [EqS_lst c0 (EqS_calls hh h0 e q1), w]
  by_cases c : lstG (callsG g h i).2 h = -1
  · rw [if_pos c, if_pos c]
  · have := hb.resolve_left c
    rw [if_neg c, if_neg c, e.2.2.2 _ (by omega)]
theorem sum_calls {h : Int} {g : Int → Int} (hh : 0 ≤ h ∧ h ≤ 2) (h0 : 0 ≤ g 0 ∧ g 0 ≤ 8) {k : Int} (hk : 0 ≤ k) : sumG (callsG g h k).2 0 = sumG g 0 + dlG g h k := by
  have key : ∀ i, 0 ≤ i → i ≤ k → sumG (callsG g h i).2 0 = sumG g 0 + dlG g h i := by
    intro i hi
    obtain ⟨n, rfl⟩ := Int.eq_ofNat_of_zero_le hi
    clear hi
    induction n with
    | zero =>
      intro _
      show sumG g 0 = sumG g 0 + 0
      omega
    | succ n ih =>
      intro q
      have e : ((n + 1 : Nat) : Int) = (n : Int) + 1 := by omega
      rw [e] at q ⊢
      have i1 := ih (by omega)
      rw [dlG_s _ _ (by omega), callsG_s _ _ (by omega), ← Int.add_assoc, ← i1]
      show sumG (goG (callsG g h n).2 h (lstG (callsG g h n).2 h)) 0 = _
      have hk0 := fun {j : Int} (hj : j < 6 ∨ 17 ≤ j) => callsG_n (g := g) hh h0 (n : Int) j hj
      generalize hx : (callsG g h n).2 = x at hk0 ⊢
      have x0 : x 0 = g 0 := hk0 (by omega)
      have hb := lstG_b (g := x) h (by omega)
      by_cases c : lstG x h = -1
      · rw [if_pos c, goG, if_pos c]
        omega
      · have hb2 := hb.resolve_left c
        rw [if_neg c]
        unfold sumG
        rw [goG_k hh.1 (Or.inr hb2.1) (by omega)]
        have o : ∀ j, j ≠ 14 + h → j ≠ 6 + lstG x h → goG x h (lstG x h) j = x j := fun j q1 q2 => by rw [goG, if_neg c, zu_n _ _ q1, zu_n _ _ q2]
        have s1 : sumZ (shZ (goG x h (lstG x h)) 6) (shZ (goG x h (lstG x h)) 28) 0 (x 0) = sumZ (shZ (goG x h (lstG x h)) 6) (shZ x 28) 0 (x 0) := sumZ_i (by omega) (fun _ _ _ => Iff.rfl) (fun i q1 q2 => o (28 + i) (by omega) (by omega))
        rw [s1, sumZ_ch (f := shZ x 6) (z := lstG x h) (by omega) ⟨hb2.1, hb2.2.1⟩ ?_ ?_ (fun i q1 q2 q3 => ?_)]
        · show _ + x (28 + lstG x h) = _ + g (28 + lstG x h)
          rw [hk0 (j := 28 + lstG x h) (by omega)]
        · show goG x h (lstG x h) (6 + lstG x h) = 0
          rw [goG, if_neg c, zu_n _ _ (by omega), zu_s]
        · show ¬ x (6 + lstG x h) = 0
          omega
        · show goG x h (lstG x h) (6 + i) = 0 ↔ x (6 + i) = 0
          rw [o (6 + i) (by omega) (by omega)]
  exact key k hk (Int.le_refl k)
theorem mks_sum {g m : Int → Int} (h0 : 0 ≤ g 0 ∧ g 0 ≤ 8) (hm : ∀ h, 0 ≤ m h) : sumG (mksG g m 3) 0 = sumG g 0 + dlG g 0 (m 0) + dlG g 1 (m 1) + dlG g 2 (m 2) := by
  have e : ∀ n, 0 ≤ n → n ≤ 3 → ((∀ h, n ≤ h → h ≤ 2 → EqS h g (mksG g m n)) ∧ sumG (mksG g m n) 0 = sumG g 0 + fZ (fun h s => s + dlG g h (m h)) 0 n) := by
    refine fZ_rel (P := fun n (x : Int → Int) (y : Int) => (∀ h, n ≤ h → h ≤ 2 → EqS h g x) ∧ sumG x 0 = sumG g 0 + y) ⟨fun h _ _ => EqS_rf h g, by omega⟩ (M := 3) (fun n x y q1 q2 w => ?_)
    have en := w.1 n (by omega) (by omega)
    have x0 : 0 ≤ x 0 ∧ x 0 ≤ 8 := by rw [en.1.1]; exact h0
    refine ⟨fun h w1 w2 => EqS_tr (w.1 h (by omega) w2) (EqS_oth (by omega) (by omega) (by omega) x0 (hm n)), ?_⟩
    rw [sum_calls (by omega) x0 (hm n), w.2, dlG_eq (by omega) h0 en (hm n)]
    omega
  have h3 := (e 3 (by omega) (by omega)).2
  have e3 : fZ (fun h s => s + dlG g h (m h)) 0 3 = 0 + dlG g 0 (m 0) + dlG g 1 (m 1) + dlG g 2 (m 2) := rfl
  rw [h3, e3]
  omega
/-- what the class' row holds for ship h and k calls -/
def VP (g : Int → Int) (S h k v : Int) : Prop := (0 ≤ v ∧ (k = 0 ∨ (h < S ∧ k ≤ cntG g (h + 1))) ∧ v = dlG g h k) ∨ (v = -1 ∧ ¬ (k = 0 ∨ (h < S ∧ k ≤ cntG g (h + 1))))
theorem row_rel {S M : Int} {sk c mk ms p G : Int → Int} (r : relI S M sk c mk ms p G) {h : Int} (hh : 0 ≤ h ∧ h < S) (hms : ∀ j, 0 ≤ ms j) {k : Int} (hk : 0 ≤ k) : relI S M sk (rowI S M c mk ms p h k).2.1 mk ms (rowI S M c mk ms p h k).2.2 (callsG G h k).2 ∧ ((0 ≤ (rowI S M c mk ms p h k).1 ∧ k ≤ cntG G (h + 1) ∧ (rowI S M c mk ms p h k).1 = dlG G h k) ∨ ((rowI S M c mk ms p h k).1 = -1 ∧ cntG G (h + 1) < k)) ∧ cntG (callsG G h k).2 (h + 1) = max 0 (cntG G (h + 1) - k) := by
  have hS := r.1
  have h0 : 0 ≤ G 0 ∧ G 0 ≤ 8 := by omega
  have hh2 : 0 ≤ h ∧ h ≤ 2 := by omega
  have hc0 : 0 ≤ cntG G (h + 1) := (cntZ_b (shZ G 6) (h + 1) h0.1).1
  obtain ⟨n, rfl⟩ := Int.eq_ofNat_of_zero_le hk
  clear hk
  induction n with
  | zero => exact ⟨r, Or.inl ⟨by show (0 : Int) ≤ 0; omega, by omega, rfl⟩, by show cntG G (h + 1) = max 0 (cntG G (h + 1) - 0); omega⟩
  | succ n ih =>
    have e : ((n + 1 : Nat) : Int) = (n : Int) + 1 := by omega
    rw [e]
    obtain ⟨i1, i2, i3⟩ := ih
    rw [rowI_s _ _ _ _ _ _ _ (by omega), callsG_s _ _ (by omega), dlG_s _ _ (by omega)]
    have hl := rel_lst i1 hh
    have hz := rel_lz i1 hh
    have hkn := fun {j : Int} (hj : j < 6 ∨ 17 ≤ j) => callsG_n (g := G) hh2 h0 (n : Int) j hj
    generalize hR : rowI S M c mk ms p h n = R at i1 i2 hl hz ⊢
    generalize hC : (callsG G h n).2 = C at i1 i3 hl hz hkn ⊢
    have C0 : C 0 = G 0 := hkn (by omega)
    have hb := lstG_b (g := C) h (by omega)
    rw [hl] at hz ⊢
    rcases i2 with w | w
    · by_cases q : lstG C h = -1
      · have hc := hz.mp q
        rw [if_neg (fun u => u.2.2 q), if_pos q]
        refine ⟨?_, Or.inr ⟨rfl, by omega⟩, ?_⟩
        · show relI S M sk R.2.1 mk ms R.2.2 (goG C h (lstG C h))
          rw [goG, if_pos q]
          exact i1
        · show cntG (goG C h (lstG C h)) (h + 1) = _
          rw [goG, if_pos q]
          omega
      · have hc : ¬ cntG C (h + 1) = 0 := fun u => q (hz.mpr u)
        have hb2 := hb.resolve_left q
        rw [if_pos ⟨hh, w.1, q⟩, if_neg q]
        have hmz : ms (lstG C h) = G (28 + lstG C h) := by
          rw [(i1.2.2.1 (lstG C h) hb2.1 (by have := i1.1.2.1; omega)).2.1]
          exact hkn (by omega)
        have hm0 := hms (lstG C h)
        refine ⟨?_, Or.inl ⟨?_, by omega, ?_⟩, ?_⟩
        · exact rel_go i1 hh (Or.inr ⟨hb2.1, by have := i1.1.2.1; omega⟩)
        · show 0 ≤ R.1 + ms (lstG C h)
          omega
        · show R.1 + ms (lstG C h) = _
          rw [hmz, w.2.2]
        · show cntG (goG C h (lstG C h)) (h + 1) = _
          rw [goG_cnt hh2 (by omega) (by omega)]
          omega
    · rw [if_neg (fun u => by have := u.2.1; omega)]
      have q : lstG C h = -1 := hz.mpr (by omega)
      refine ⟨?_, Or.inr ⟨rfl, by omega⟩, ?_⟩
      · show relI S M sk R.2.1 mk ms R.2.2 (goG C h (lstG C h))
        rw [goG, if_pos q]
        exact i1
      · show cntG (goG C h (lstG C h)) (h + 1) = _
        rw [goG, if_pos q]
        omega
theorem row_out {S M : Int} (c mk ms p : Int → Int) {h : Int} (hh : S ≤ h) {k : Int} (hk : 0 ≤ k) : rowI S M c mk ms p h k = (if k = 0 then 0 else -1, c, p) := by
  obtain ⟨n, rfl⟩ := Int.eq_ofNat_of_zero_le hk
  clear hk
  induction n with
  | zero => rfl
  | succ n ih =>
    have e : ((n + 1 : Nat) : Int) = (n : Int) + 1 := by omega
    rw [e, rowI_s _ _ _ _ _ _ _ (by omega), if_neg (fun u => by have := u.1.2; omega), ih, if_neg (show ¬ (n : Int) + 1 = 0 by omega)]
theorem rows_rel {S M : Int} {sk sc mk ms mp g : Int → Int} (r : relI S M sk sc mk ms mp g) (hms : ∀ j, 0 ≤ ms j) : ∀ h k, 0 ≤ h → h < 3 → 0 ≤ k → k ≤ 8 → VP g S h k ((rowsS S M sc mk ms mp 3).1 (9 * h + k)) := by
  have hS := r.1
  have h0 : 0 ≤ g 0 ∧ g 0 ≤ 8 := by omega
  have e : ∀ n, 0 ≤ n → n ≤ 3 → (∃ G, relI S M sk (rowsS S M sc mk ms mp n).2.1 mk ms (rowsS S M sc mk ms mp n).2.2 G ∧ ∀ h, n ≤ h → h ≤ 2 → EqS h g G) ∧ ∀ h k, 0 ≤ h → h < n → 0 ≤ k → k ≤ 8 → VP g S h k ((rowsS S M sc mk ms mp n).1 (9 * h + k)) := by
    refine fZ_ind (P := fun n (t : (Int → Int) × (Int → Int) × (Int → Int)) => (∃ G, relI S M sk t.2.1 mk ms t.2.2 G ∧ ∀ h, n ≤ h → h ≤ 2 → EqS h g G) ∧ ∀ h k, 0 ≤ h → h < n → 0 ≤ k → k ≤ 8 → VP g S h k (t.1 (9 * h + k))) ⟨⟨g, r, fun h _ _ => EqS_rf h g⟩, fun h k q1 q2 => by omega⟩ (M := 3) (fun n t q1 q2 w => ?_)
    obtain ⟨⟨G, rG, eG⟩, hv⟩ := w
    have en := eG n (by omega) (by omega)
    have G0 : 0 ≤ G 0 ∧ G 0 ≤ 8 := by rw [en.1.1]; exact h0
    have new : ∀ k, 0 ≤ k → k ≤ 8 → VP g S n k (rowI S M t.2.1 mk ms t.2.2 n k).1 := fun k k1 k2 => by
      by_cases a : n < S
      · rcases (row_rel rG ⟨q1, a⟩ hms k1).2.1 with u | u
        · refine Or.inl ⟨u.1, ?_, ?_⟩
          · rw [← EqS_cnt h0.1 en]
            omega
          · rw [u.2.2, dlG_eq (by omega) h0 en k1]
        · have hcg := EqS_cnt h0.1 en
          have hcb := (cntZ_b (shZ G 6) (n + 1) G0.1).1
          have hcd : cntG G (n + 1) = cntZ (shZ G 6) (n + 1) (G 0) := rfl
          refine Or.inr ⟨u.1, fun z => ?_⟩
          omega
      · rw [row_out _ _ _ _ (by omega) k1]
        by_cases b : k = 0
        · subst b
          exact Or.inl ⟨by show (0 : Int) ≤ 0; omega, Or.inl rfl, rfl⟩
        · refine Or.inr ⟨by show (if k = 0 then (0 : Int) else -1) = -1; rw [if_neg b], fun z => by omega⟩
    refine ⟨?_, fun h k w1 w2 w3 w4 => ?_⟩
    · by_cases a : n < S
      · exact ⟨(callsG G n 9).2, (row_rel rG ⟨q1, a⟩ hms (k := 9) (by omega)).1, fun h w1 w2 => EqS_tr (eG h (by omega) w2) (EqS_oth (by omega) (by omega) (by omega) G0 (by omega))⟩
      · refine ⟨G, ?_, fun h w1 w2 => eG h (by omega) w2⟩
        show relI S M sk (rowI S M t.2.1 mk ms t.2.2 n 9).2.1 mk ms (rowI S M t.2.1 mk ms t.2.2 n 9).2.2 G
        rw [row_out _ _ _ _ (by omega) (by omega)]
        exact rG
    · show VP g S h k (if 9 * n ≤ 9 * h + k ∧ 9 * h + k < 9 * n + 9 then (rowI S M t.2.1 mk ms t.2.2 n (9 * h + k - 9 * n)).1 else t.1 (9 * h + k))
      by_cases a : h = n
      · subst a
        rw [if_pos (by omega), show 9 * h + k - 9 * h = k by omega]
        exact new k w3 w4
      · rw [if_neg (by omega)]
        exact hv h k w1 (by omega) w3 w4
  exact fun h k q1 q2 q3 q4 => (e 3 (by omega) (by omega)).2 h k q1 q2 q3 q4
theorem QG_iff {S M : Int} {sk sc mk ms mp g : Int → Int} (r : relI S M sk sc mk ms mp g) (hms : ∀ j, 0 ≤ ms j) (x : Int) {y : Int} (hy : 0 ≤ y ∧ y < 729) : QG g x y ↔ lvsP (rowsS S M sc mk ms mp 3).1 (mkZ y 0) (mkZ y 1) (mkZ y 2) (x - sumZ mp ms (-1) M) := by
  have hS := r.1
  have h0 : 0 ≤ g 0 ∧ g 0 ≤ 8 := by omega
  have b := fun h => mkZ_b h hy
  have v0 := rows_rel r hms 0 (mkZ y 0) (by omega) (by omega) (b 0).1 (b 0).2
  have v1 := rows_rel r hms 1 (mkZ y 1) (by omega) (by omega) (b 1).1 (b 1).2
  have v2 := rows_rel r hms 2 (mkZ y 2) (by omega) (by omega) (b 2).1 (b 2).2
  rw [show 9 * (0 : Int) + mkZ y 0 = mkZ y 0 by omega] at v0
  rw [show 9 * (1 : Int) + mkZ y 1 = 9 + mkZ y 1 by omega] at v1
  rw [show 9 * (2 : Int) + mkZ y 2 = 18 + mkZ y 2 by omega] at v2
  have hs := mks_sum (g := g) (m := mkZ y) h0 (fun h => (b h).1)
  have hx := rel_sum r (-1)
  rw [show (-1 : Int) + 1 = 0 by omega] at hx
  have g1 := hS.1
  have b0 := b 0; have b1 := b 1; have b2 := b 2
  unfold QG lvsP
  constructor
  · intro q
    have m0 : mkZ y 0 = 0 ∨ (0 < S ∧ mkZ y 0 ≤ cntG g (0 + 1)) := by
      by_cases w : mkZ y 0 = 0
      · exact Or.inl w
      · have := q.1 0 (by omega) (by omega) (by omega); exact Or.inr (by omega)
    have m1 : mkZ y 1 = 0 ∨ (1 < S ∧ mkZ y 1 ≤ cntG g (1 + 1)) := by
      by_cases w : mkZ y 1 = 0
      · exact Or.inl w
      · have := q.1 1 (by omega) (by omega) (by omega); exact Or.inr (by omega)
    have m2 : mkZ y 2 = 0 ∨ (2 < S ∧ mkZ y 2 ≤ cntG g (2 + 1)) := by
      by_cases w : mkZ y 2 = 0
      · exact Or.inl w
      · have := q.1 2 (by omega) (by omega) (by omega); exact Or.inr (by omega)
    have u0 := v0.resolve_right (fun z => z.2 m0)
    have u1 := v1.resolve_right (fun z => z.2 m1)
    have u2 := v2.resolve_right (fun z => z.2 m2)
    have q2 := q.2
    omega
  · intro q
    have u0 := v0.resolve_right (fun z => by have := z.1; omega)
    have u1 := v1.resolve_right (fun z => by have := z.1; omega)
    have u2 := v2.resolve_right (fun z => by have := z.1; omega)
    refine ⟨fun h w1 w2 w3 => ?_, by omega⟩
    rcases (show h = 0 ∨ h = 1 ∨ h = 2 by omega) with e | e | e
    · subst e
      have := u0.2.1
      rw [g1]
      omega
    · subst e
      have := u1.2.1
      rw [g1]
      omega
    · subst e
      have := u2.2.1
      rw [g1]
      omega
theorem cnt_all {g : Int → Int} (h0 : 0 ≤ g 0) : cntG g (0 + 1) + cntG g (1 + 1) + cntG g (2 + 1) ≤ g 0 := by
  have key : ∀ i, 0 ≤ i → i ≤ g 0 → cntZ (shZ g 6) (0 + 1) i + cntZ (shZ g 6) (1 + 1) i + cntZ (shZ g 6) (2 + 1) i ≤ i := by
    intro i hi
    obtain ⟨n, rfl⟩ := Int.eq_ofNat_of_zero_le hi
    clear hi
    induction n with
    | zero => intro _; show 0 + 0 + 0 ≤ (0 : Int); omega
    | succ n ih =>
      intro q
      have e : ((n + 1 : Nat) : Int) = (n : Int) + 1 := by omega
      rw [e] at q ⊢
      have := ih (by omega)
      rw [cntZ_s _ _ (by omega), cntZ_s _ _ (by omega), cntZ_s _ _ (by omega)]
      split <;> split <;> split <;> omega
  exact key (g 0) h0 (Int.le_refl _)
theorem QG_tot {g : Int → Int} (h0 : 0 ≤ g 0 ∧ g 0 ≤ 8) {x y : Int} (hy : 0 ≤ y ∧ y < 729) (q : QG g x y) : totM y ≤ 8 := by
  have b := fun h => mkZ_b h hy
  have b0 := b 0; have b1 := b 1; have b2 := b 2
  have c := cnt_all h0.1
  have c0 := (cntZ_b (shZ g 6) (0 + 1) h0.1).1
  have c1 := (cntZ_b (shZ g 6) (1 + 1) h0.1).1
  have c2 := (cntZ_b (shZ g 6) (2 + 1) h0.1).1
  have d0 : cntG g (0 + 1) = cntZ (shZ g 6) (0 + 1) (g 0) := rfl
  have d1 : cntG g (1 + 1) = cntZ (shZ g 6) (1 + 1) (g 0) := rfl
  have d2 : cntG g (2 + 1) = cntZ (shZ g 6) (2 + 1) (g 0) := rfl
  have m0 : mkZ y 0 ≤ cntG g (0 + 1) := by
    by_cases w : mkZ y 0 = 0
    · omega
    · have := q.1 0 (by omega) (by omega) (by omega); omega
  have m1 : mkZ y 1 ≤ cntG g (1 + 1) := by
    by_cases w : mkZ y 1 = 0
    · omega
    · have := q.1 1 (by omega) (by omega) (by omega); omega
  have m2 : mkZ y 2 ≤ cntG g (2 + 1) := by
    by_cases w : mkZ y 2 = 0
    · omega
    · have := q.1 2 (by omega) (by omega) (by omega); omega
  unfold totM
  omega
theorem mk_code {a b c : Int} (ha : 0 ≤ a ∧ a ≤ 8) (hb : 0 ≤ b ∧ b ≤ 8) (hc : 0 ≤ c ∧ c ≤ 8) : mkZ (81 * a + 9 * b + c) 0 = a ∧ mkZ (81 * a + 9 * b + c) 1 = b ∧ mkZ (81 * a + 9 * b + c) 2 = c := by
  unfold mkZ
  refine ⟨?_, ?_, ?_⟩
  · rw [if_pos rfl]; omega
  · rw [if_neg (by decide), if_pos rfl]; omega
  · rw [if_neg (by decide), if_neg (by decide)]; omega
theorem mk_back {y : Int} (hy : 0 ≤ y ∧ y < 729) : y = 81 * mkZ y 0 + 9 * mkZ y 1 + mkZ y 2 := by
  unfold mkZ
  rw [if_pos rfl, if_neg (by decide), if_pos rfl, if_neg (by decide), if_neg (by decide)]
  omega
theorem few_eq {S M : Int} {sk sc mk ms mp g : Int → Int} (r : relI S M sk sc mk ms mp g) (hms : ∀ j, 0 ≤ ms j) {x w z z' : Int} (hw : -1 ≤ w ∧ w < S) (a : FewI S M sc mk ms mp x w z) (b : FewG g x w z') : z = z' := by
  have hS := r.1
  have h0 : 0 ≤ g 0 ∧ g 0 ≤ 8 := by omega
  obtain ⟨t, fm, hf, hz⟩ := a
  rcases hf with ⟨t6, hn⟩ | ⟨tb, a1, b1, c1, ha, hb, hc, ht, hl, f0, f1, f2, hsm, hlx⟩
  · have e1 : z = -6 := by omega
    rcases b with ⟨q, -⟩ | ⟨y, hy, hq, -, -⟩
    · omega
    · have b0 := mkZ_b 0 hy; have b1 := mkZ_b 1 hy; have b2 := mkZ_b 2 hy
      have h8 := QG_tot h0 hy hq
      unfold totM at h8
      exact absurd ((QG_iff r hms x hy).mp hq) (hn _ _ _ b0.1 b1.1 b2.1 h8)
  · obtain ⟨k0, k1, k2⟩ := mk_code (a := a1) (b := b1) (c := c1) (by omega) (by omega) (by omega)
    obtain ⟨y0, ey⟩ : ∃ y0, y0 = 81 * a1 + 9 * b1 + c1 := ⟨_, rfl⟩
    rw [← ey] at k0 k1 k2
    have hy0 : 0 ≤ y0 ∧ y0 < 729 := by omega
    have hq0 : QG g x y0 := (QG_iff r hms x hy0).mpr (by rw [k0, k1, k2]; exact hl)
    rcases b with ⟨-, q⟩ | ⟨y, hy, hq, hz2, hmin⟩
    · exact absurd hq0 (q y0 hy0.1 hy0.2)
    · have m0 := mkZ_b 0 hy; have m1 := mkZ_b 1 hy; have m2 := mkZ_b 2 hy
      have ly := (QG_iff r hms x hy).mp hq
      have mm := hmin y0 hy0.1 hy0.2 hq0
      have t0 : totM y0 = t := by unfold totM; omega
      have bk := mk_back hy
      have ty : totM y = mkZ y 0 + mkZ y 1 + mkZ y 2 := rfl
      have ge : t ≤ totM y := by
        by_cases v : totM y < t
        · exact absurd ly (hsm _ _ _ m0.1 m1.1 m2.1 (by omega))
        · omega
      have nl : ¬ (mkZ y 0 < a1 ∨ mkZ y 0 = a1 ∧ mkZ y 1 < b1) := fun v => hlx _ _ _ m0.1 m1.1 m2.1 (by omega) v ly
      have eyy : y = y0 := by
        by_cases v : y0 < y
        · have := mm.2 v; omega
        · omega
      subst eyy
      rw [hz2]
      rcases hz with v | v
      · omega
      · rw [v.2]
        by_cases u : w = -1
        · rw [if_pos u, if_pos u, t0]
        · rw [if_neg u, if_neg u]
          rcases (show w = 0 ∨ w = 1 ∨ w = 2 by omega) with e | e | e
          · subst e; rw [f0, k0]
          · subst e; rw [f1, k1]
          · subst e; rw [f2, k2]
