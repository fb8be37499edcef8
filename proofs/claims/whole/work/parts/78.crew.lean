/-! crew: the best worth is the first best way -/
def wayZ (e : Int → Int) (m : Int) : Int := fZ (fun k n => 4 * n + e k) 0 m
theorem wayZ_s (e : Int → Int) {m : Int} (h : 0 ≤ m) : wayZ e (m + 1) = 4 * wayZ e m + e m := fZ_s _ _ h
theorem wayZ_x {e f : Int → Int} {m : Int} (hm : 0 ≤ m) (h : ∀ k, 0 ≤ k → k < m → e k = f k) : wayZ e m = wayZ f m :=
  fZ_rel (P := fun _ x y => x = y) rfl (M := m) (fun k x y q1 q2 w => by rw [h k q1 q2, w]) m hm (Int.le_refl m)
/-- the part of a way that goes to the first n ships -/
def parE (e : Int → Int) (n : Int) : Int → Int := fun k => if 1 ≤ e k ∧ e k ≤ n then e k else 0
theorem par_way (e : Int → Int) {n : Int} (hn : 0 ≤ n ∧ n ≤ 2) {m : Int} (hm : 0 ≤ m ∧ m ≤ 8) : wayZ (parE e (n + 1)) m = wayZ (parE e n) m + (n + 1) * onB (bitZ e (n + 1) 8) m := by
  have key : ∀ i, 0 ≤ i → i ≤ m → wayZ (parE e (n + 1)) i = wayZ (parE e n) i + (n + 1) * onB (bitZ e (n + 1) 8) i := by
    intro i hi
    obtain ⟨k, rfl⟩ := Int.eq_ofNat_of_zero_le hi
    clear hi
    induction k with
    | zero => intro _; show (0 : Int) = 0 + (n + 1) * 0; omega
    | succ k ih =>
      intro q
      have e1 : ((k + 1 : Nat) : Int) = (k : Int) + 1 := by omega
      rw [e1] at q ⊢
      have i1 := ih (by omega)
      rw [wayZ_s _ (by omega), wayZ_s _ (by omega), onB_s _ (by omega), i1, zbt_bitZ e (n + 1) (by omega) (by omega)]
      have c1 : parE e (n + 1) k = parE e n k + (n + 1) * (if (k : Int) < 8 ∧ e k = n + 1 then 1 else 0) := by
        unfold parE
        by_cases c : e k = n + 1
        · rw [if_pos (show 1 ≤ e k ∧ e k ≤ n + 1 by omega), if_neg (show ¬ (1 ≤ e k ∧ e k ≤ n) by omega), if_pos (show (k : Int) < 8 ∧ e k = n + 1 from ⟨by omega, c⟩), c]
          omega
        · rw [if_neg (show ¬ ((k : Int) < 8 ∧ e k = n + 1) from fun w => c w.2), Int.mul_zero, Int.add_zero]
          by_cases d : 1 ≤ e k ∧ e k ≤ n
          · rw [if_pos d, if_pos (by omega)]
          · rw [if_neg d, if_neg (by omega)]
      rw [c1, Int.mul_add (n + 1) (4 * _) _, Int.mul_left_comm (n + 1) 4 _]
      generalize (n + 1) * onB (bitZ e (n + 1) 8) (k : Int) = X
      generalize (n + 1) * (if (k : Int) < 8 ∧ e k = n + 1 then (1 : Int) else 0) = Y
      omega
  exact key m hm.1 (Int.le_refl m)
/-- how many of the first n ships sail -/
def saiZ (P : Int → Prop) (n : Int) : Int → Prop := fun v => ∃ f : Int → Int, (∀ h, (P h ∧ f h = 1) ∨ (¬ P h ∧ f h = 0)) ∧ v = cntZ f 1 n
theorem val_way {C U sk : Int → Int} {d : Int} {ms : Int → Int} (e f : Int → Int) (hf : ∀ h, (wtP (C h) (U h) (sk h) d ms (bitZ e (h + 1) 8) ∧ f h = 1) ∨ (¬ wtP (C h) (U h) (sk h) d ms (bitZ e (h + 1) 8) ∧ f h = 0)) {n : Int} (hn : 0 ≤ n ∧ n ≤ 3) : valE (fun h_ x_ => wthZ (C h_) (U h_) (sk h_) d ms h_ x_) n e = 65536 * cntZ f 1 n - wayZ (parE e n) 8 := by
  have key : ∀ i, 0 ≤ i → i ≤ n → valE (fun h_ x_ => wthZ (C h_) (U h_) (sk h_) d ms h_ x_) i e = 65536 * cntZ f 1 i - wayZ (parE e i) 8 := by
    intro i hi
    obtain ⟨k, rfl⟩ := Int.eq_ofNat_of_zero_le hi
    clear hi
    induction k with
    | zero =>
      intro _
      have e0 : wayZ (parE e 0) 8 = 0 := by
        refine fZ_ind (P := fun _ x => x = 0) rfl (M := 8) (fun j x w1 w2 w3 => ?_) 8 (by omega) (by omega)
        rw [w3]
        unfold parE
        rw [if_neg (by omega)]
        omega
      show (0 : Int) = 65536 * 0 - wayZ (parE e 0) 8
      rw [e0]
      omega
    | succ k ih =>
      intro q
      have e1 : ((k + 1 : Nat) : Int) = (k : Int) + 1 := by omega
      rw [e1] at q ⊢
      have i1 := ih (by omega)
      rw [valE_s _ _ (by omega), cntZ_s _ _ (by omega), i1, par_way e (by omega) (by omega)]
      show _ + wthZ (C k) (U k) (sk k) d ms k (bitZ e (k + 1) 8) = _
      unfold wthZ
      generalize ((k : Int) + 1) * onB (bitZ e ((k : Int) + 1) 8) 8 = X
      rcases hf k with w | w
      · rw [if_pos w.1, if_pos w.2]
        omega
      · rw [if_neg w.1, if_neg (by omega)]
        omega
  exact key n hn.1 (Int.le_refl n)
theorem par_all {e : Int → Int} {n m : Int} (hm : 0 ≤ m) (h : ∀ k, 0 ≤ k → k < m → 0 ≤ e k ∧ e k ≤ n) : wayZ (parE e n) m = wayZ e m :=
  wayZ_x hm (fun k q1 q2 => by
    have := h k q1 q2
    unfold parE
    by_cases c : 1 ≤ e k ∧ e k ≤ n
    · rw [if_pos c]
    · rw [if_neg c]; omega)
theorem skB_sum (e ms : Int → Int) (v : Int) : skB ms (bitZ e v 8) 8 = sumZ e ms v 8 := by
  refine fZ_rel (P := fun _ x y => x = y) rfl (M := 8) (fun k x y q1 q2 w => ?_) 8 (by omega) (by omega)
  have b := bit8 e v q1 q2
  by_cases c : e k = v
  · rw [if_pos (b.mpr c), if_pos c, w]
  · rw [if_neg (fun z => c (b.mp z)), if_neg c, w]
    omega
theorem cnt_out {e : Int → Int} {v M : Int} (hv : 1 ≤ v) (hM : 0 ≤ M ∧ M ≤ 8) (h : ∀ k, M ≤ k → k < 8 → e k = 0) : cntZ e v 8 = cntZ e v M := by
  have key : ∀ i, 0 ≤ i → (M + i ≤ 8 → cntZ e v (M + i) = cntZ e v M) := by
    intro i hi
    obtain ⟨k, rfl⟩ := Int.eq_ofNat_of_zero_le hi
    clear hi
    induction k with
    | zero => intro _; rw [show M + ((0 : Nat) : Int) = M by omega]
    | succ k ih =>
      intro q
      rw [show M + ((k + 1 : Nat) : Int) = (M + k) + 1 by omega, cntZ_s _ _ (by omega), ih (by omega), if_neg (by have := h (M + k) (by omega) (by omega); omega)]
      omega
  have := key (8 - M) (by omega) (by omega)
  rw [show M + (8 - M) = 8 by omega] at this
  exact this
theorem sum_out {e ms : Int → Int} {v M : Int} (hv : 1 ≤ v) (hM : 0 ≤ M ∧ M ≤ 8) (h : ∀ k, M ≤ k → k < 8 → e k = 0) : sumZ e ms v 8 = sumZ e ms v M := by
  have key : ∀ i, 0 ≤ i → (M + i ≤ 8 → sumZ e ms v (M + i) = sumZ e ms v M) := by
    intro i hi
    obtain ⟨k, rfl⟩ := Int.eq_ofNat_of_zero_le hi
    clear hi
    induction k with
    | zero => intro _; rw [show M + ((0 : Nat) : Int) = M by omega]
    | succ k ih =>
      intro q
      rw [show M + ((k + 1 : Nat) : Int) = (M + k) + 1 by omega, sumZ_s _ _ _ (by omega), ih (by omega), if_neg (by have := h (M + k) (by omega) (by omega); omega)]
      omega
  have := key (8 - M) (by omega) (by omega)
  rw [show M + (8 - M) = 8 by omega] at this
  exact this
theorem way_pl (g e : Int → Int) {i : Int} (hi : 0 ≤ i ∧ i < g 0) : wayL g e (-1) (6 + i) = if 0 < e i then e i else g (6 + i) := by
  simp only [wayL]
  rw [show 6 + i - 6 = i by omega]
  by_cases c : 0 < e i
  · rw [if_pos (show 6 + -1 < 6 + i ∧ 6 + i < 6 + g 0 ∧ 0 < e i from ⟨by omega, by omega, c⟩), if_pos c]
  · rw [if_neg (fun w => c w.2.2), if_neg c]
theorem way_no {g : Int → Int} (e : Int → Int) (h0 : 0 ≤ g 0 ∧ g 0 ≤ 8) {j : Int} (hj : j < 6 ∨ 14 ≤ j) : wayL g e (-1) j = g j := by
  simp only [wayL]
  rw [if_neg (by omega)]
/-- a ship sails by a way as the class reckons: as the reference does -/
theorem sai_eq {S M : Int} {sk sc mk ms mp g : Int → Int} (r : relI S M sk sc mk ms mp g) {e : Int → Int} (ha : asgE S (bitZ mp (-1) M) e) {h d : Int} (hh : 0 ≤ h ∧ h < S) : wtP (cntZ mp h M) (sumZ mp ms h M) (sk h) d ms (bitZ e (h + 1) 8) ↔ canG (wayL g e (-1)) h d := by
  have hS := r.1
  have h0 : 0 ≤ g 0 ∧ g 0 ≤ 8 := by omega
  have free : ∀ k, 0 ≤ k → k < 8 → 0 < e k → k < M ∧ mp k = -1 := fun k q1 q2 q3 => by
    have w := (ha k q1 q2).2.2 q3
    rw [zbt_bitZ mp (-1) q1 (by omega)] at w
    by_cases c : k < M ∧ mp k = -1
    · exact c
    · rw [if_neg c] at w; omega
  have out : ∀ k, M ≤ k → k < 8 → e k = 0 := fun k q1 q2 => by
    have a := ha k (by omega) q2
    by_cases c : 0 < e k
    · have := free k (by omega) q2 c; omega
    · omega
  have fg : ∀ k, 0 ≤ k → k < M → 0 < e k → g (6 + k) = 0 := fun k q1 q2 q3 => by
    have w := (free k q1 (by omega) q3).2
    have := (r.2.2.1 k q1 q2).2.2.1
    omega
  have e0 : wayL g e (-1) 0 = g 0 := way_no e h0 (by omega)
  have c1 : cntG (wayL g e (-1)) (h + 1) = cntG g (h + 1) + cntZ e (h + 1) 8 := by
    rw [cnt_out (by omega) (by omega) out]
    unfold cntG
    rw [e0, hS.2.1]
    have key : ∀ i, 0 ≤ i → i ≤ M → cntZ (shZ (wayL g e (-1)) 6) (h + 1) i = cntZ (shZ g 6) (h + 1) i + cntZ e (h + 1) i := by
      intro i hi
      obtain ⟨k, rfl⟩ := Int.eq_ofNat_of_zero_le hi
      clear hi
      induction k with
      | zero => intro _; rfl
      | succ k ih =>
        intro q
        have e1 : ((k + 1 : Nat) : Int) = (k : Int) + 1 := by omega
        rw [e1] at q ⊢
        have i1 := ih (by omega)
        have wp : shZ (wayL g e (-1)) 6 k = if 0 < e k then e k else g (6 + k) := way_pl g e ⟨by omega, by omega⟩
        have gs : shZ g 6 k = g (6 + k) := rfl
        rw [cntZ_s _ _ (by omega), cntZ_s _ _ (by omega), cntZ_s _ _ (by omega), i1, wp, gs]
        by_cases c : 0 < e k
        · have := fg k (by omega) (by omega) c
          rw [if_pos c, if_neg (show ¬ g (6 + (k : Int)) = h + 1 by omega)]
          omega
        · have := (ha k (by omega) (by omega)).1
          rw [if_neg c, if_neg (show ¬ e (k : Int) = h + 1 by omega)]
          omega
    exact key M (by omega) (Int.le_refl M)
  have s1 : sumG (wayL g e (-1)) (h + 1) = sumG g (h + 1) + sumZ e ms (h + 1) 8 := by
    rw [sum_out (by omega) (by omega) out]
    unfold sumG
    rw [e0, hS.2.1]
    have key : ∀ i, 0 ≤ i → i ≤ M → sumZ (shZ (wayL g e (-1)) 6) (shZ (wayL g e (-1)) 28) (h + 1) i = sumZ (shZ g 6) (shZ g 28) (h + 1) i + sumZ e ms (h + 1) i := by
      intro i hi
      obtain ⟨k, rfl⟩ := Int.eq_ofNat_of_zero_le hi
      clear hi
      induction k with
      | zero => intro _; rfl
      | succ k ih =>
        intro q
        have e1 : ((k + 1 : Nat) : Int) = (k : Int) + 1 := by omega
        rw [e1] at q ⊢
        have i1 := ih (by omega)
        have wp : shZ (wayL g e (-1)) 6 k = if 0 < e k then e k else g (6 + k) := way_pl g e ⟨by omega, by omega⟩
        have ws : shZ (wayL g e (-1)) 28 k = g (28 + k) := way_no e h0 (by omega)
        have gs : shZ g 6 k = g (6 + k) := rfl
        have gt : shZ g 28 k = g (28 + k) := rfl
        have mk' := (r.2.2.1 k (by omega) (by omega)).2.1
        rw [sumZ_s _ _ _ (by omega), sumZ_s _ _ _ (by omega), sumZ_s _ _ _ (by omega), i1, wp, ws, gs, gt, mk']
        by_cases c : 0 < e k
        · have := fg k (by omega) (by omega) c
          rw [if_pos c, if_neg (show ¬ g (6 + (k : Int)) = h + 1 by omega)]
          omega
        · have := (ha k (by omega) (by omega)).1
          rw [if_neg c, if_neg (show ¬ e (k : Int) = h + 1 by omega)]
          omega
    exact key M (by omega) (Int.le_refl M)
  show (0 < cntZ mp h M + popZ (bitZ e (h + 1) 8) 10 ∧ needZ (sk h) d (cntZ mp h M + popZ (bitZ e (h + 1) 8) 10) ≤ sumZ mp ms h M + skB ms (bitZ e (h + 1) 8) 8) ↔ (0 < cntG (wayL g e (-1)) (h + 1) ∧ needZ (wayL g e (-1) (17 + h)) d (cntG (wayL g e (-1)) (h + 1)) ≤ sumG (wayL g e (-1)) (h + 1))
  rw [c1, s1, way_no e h0 (by omega), popZ_bitZ e (h + 1) ⟨by omega, by omega⟩, skB_sum, rel_cnt r h, rel_sum r h, (r.2.1 h hh.1 hh.2).1]
theorem crew_val {S M : Int} {sk sc mk ms mp g : Int → Int} (r : relI S M sk sc mk ms mp g) {e : Int → Int} (ha : asgE S (bitZ mp (-1) M) e) (d : Int) : valE (fun h_ x_ => wthZ (cntZ mp h_ M) (sumZ mp ms h_ M) (sk h_) d ms h_ x_) S e = 65536 * cncG g e d - wayZ e 8 := by
  have hS := r.1
  have hf : ∀ h, (wtP (cntZ mp h M) (sumZ mp ms h M) (sk h) d ms (bitZ e (h + 1) 8) ∧ isP (wtP (cntZ mp h M) (sumZ mp ms h M) (sk h) d ms (bitZ e (h + 1) 8)) = 1) ∨ (¬ wtP (cntZ mp h M) (sumZ mp ms h M) (sk h) d ms (bitZ e (h + 1) 8) ∧ isP (wtP (cntZ mp h M) (sumZ mp ms h M) (sk h) d ms (bitZ e (h + 1) 8)) = 0) := fun h => by
    by_cases c : wtP (cntZ mp h M) (sumZ mp ms h M) (sk h) d ms (bitZ e (h + 1) 8)
    · exact Or.inl ⟨c, isP_1 c⟩
    · refine Or.inr ⟨c, ?_⟩
      unfold isP
      rw [@if_neg _ (Classical.propDecidable _) c Int 1 0]
  have hv := val_way (C := fun h => cntZ mp h M) (U := fun h => sumZ mp ms h M) (sk := sk) (d := d) (ms := ms) e (fun h => isP (wtP (cntZ mp h M) (sumZ mp ms h M) (sk h) d ms (bitZ e (h + 1) 8))) hf (n := S) (by omega)
  have h1 : valE (fun h_ x_ => wthZ (cntZ mp h_ M) (sumZ mp ms h_ M) (sk h_) d ms h_ x_) S e = _ := hv
  rw [h1, par_all (by omega) (fun k q1 q2 => ⟨(ha k q1 q2).1, (ha k q1 q2).2.1⟩)]
  unfold cncG
  rw [hS.1]
  congr 2
  exact cntZ_i (by omega) (fun h q1 q2 => ((isP_i _).trans (sai_eq r ha ⟨q1, q2⟩)).trans (canZ_i _ _ _).symm)
/-! codes -/
theorem way_div {e : Int → Int} (h : ∀ k, 0 ≤ k → 0 ≤ e k ∧ e k ≤ 3) {i t : Int} (hi : 0 ≤ i) (ht : 0 ≤ t) : wayZ e (i + t) / zpw (2 * t) = wayZ e i := by
  obtain ⟨n, rfl⟩ := Int.eq_ofNat_of_zero_le ht
  clear ht
  induction n with
  | zero => rw [show i + ((0 : Nat) : Int) = i by omega, show 2 * ((0 : Nat) : Int) = 0 by omega, zpw_0, Int.ediv_one]
  | succ n ih =>
    have := h (i + n) (by omega)
    rw [show i + ((n + 1 : Nat) : Int) = (i + n) + 1 by omega, wayZ_s _ (by omega), show ((n + 1 : Nat) : Int) = (n : Int) + 1 by omega, zpw_dbl (by omega), Int.mul_comm (zpw _) 4, ← Int.ediv_ediv_of_nonneg (by omega), show (4 * wayZ e (i + n) + e (i + n)) / 4 = wayZ e (i + n) by omega]
    exact ih
theorem way_b {e : Int → Int} (h : ∀ k, 0 ≤ k → 0 ≤ e k ∧ e k ≤ 3) {m : Int} (hm : 0 ≤ m) : 0 ≤ wayZ e m ∧ wayZ e m < zpw (2 * m) := by
  obtain ⟨n, rfl⟩ := Int.eq_ofNat_of_zero_le hm
  clear hm
  induction n with
  | zero => exact ⟨Int.le_refl 0, by show (0 : Int) < 1; omega⟩
  | succ n ih =>
    have := h n (by omega)
    rw [show ((n + 1 : Nat) : Int) = (n : Int) + 1 by omega, wayZ_s _ (by omega), zpw_dbl (by omega)]
    omega
theorem way_dig {e : Int → Int} (h : ∀ k, 0 ≤ k → 0 ≤ e k ∧ e k ≤ 3) {m i : Int} (hi : 0 ≤ i ∧ i < m) : eG m (wayZ e m) i = e i := by
  have := h i hi.1
  show wayZ e m / zpw (2 * (m - 1 - i)) % 4 = e i
  have w := way_div h (i := i + 1) (t := m - 1 - i) (by omega) (by omega)
  rw [show i + 1 + (m - 1 - i) = m by omega] at w
  rw [w, wayZ_s _ hi.1]
  omega
theorem dig_way {m v : Int} (hm : 0 ≤ m) (hv : 0 ≤ v ∧ v < zpw (2 * m)) : wayZ (eG m v) m = v := by
  have key : ∀ i, 0 ≤ i → i ≤ m → wayZ (eG m v) i = v / zpw (2 * (m - i)) := by
    intro i hi
    obtain ⟨k, rfl⟩ := Int.eq_ofNat_of_zero_le hi
    clear hi
    induction k with
    | zero =>
      intro _
      rw [show m - ((0 : Nat) : Int) = m by omega, Int.ediv_eq_zero_of_lt hv.1 hv.2]
      rfl
    | succ k ih =>
      intro q
      have i1 := ih (by omega)
      have d := dg_step v (k := m - 1 - k) (by omega)
      rw [show ((k + 1 : Nat) : Int) = (k : Int) + 1 by omega, wayZ_s _ (by omega), i1, show m - (k : Int) = m - 1 - k + 1 by omega, ← d, show m - ((k : Int) + 1) = m - 1 - k by omega]
      show 4 * (v / zpw (2 * (m - 1 - k)) / 4) + v / zpw (2 * (m - 1 - k)) % 4 = _
      omega
  rw [key m hm (Int.le_refl m), show m - m = 0 by omega, show (2 : Int) * 0 = 0 by omega, zpw_0, Int.ediv_one]
theorem way_ext {e : Int → Int} {m : Int} (hm : 0 ≤ m ∧ m ≤ 8) (h : ∀ k, m ≤ k → k < 8 → e k = 0) : wayZ e 8 = wayZ e m * zpw (2 * (8 - m)) := by
  have key : ∀ i, 0 ≤ i → (m + i ≤ 8 → wayZ e (m + i) = wayZ e m * zpw (2 * i)) := by
    intro i hi
    obtain ⟨k, rfl⟩ := Int.eq_ofNat_of_zero_le hi
    clear hi
    induction k with
    | zero => intro _; rw [show m + ((0 : Nat) : Int) = m by omega, show 2 * ((0 : Nat) : Int) = 0 by omega, zpw_0, Int.mul_one]
    | succ k ih =>
      intro q
      rw [show m + ((k + 1 : Nat) : Int) = (m + k) + 1 by omega, wayZ_s _ (by omega), ih (by omega), h (m + k) (by omega) (by omega), show ((k + 1 : Nat) : Int) = (k : Int) + 1 by omega, zpw_dbl (by omega), ← Int.mul_assoc (wayZ e m)]
      omega
  have := key (8 - m) (by omega) (by omega)
  rw [show m + (8 - m) = 8 by omega] at this
  exact this
def cutE (m : Int) (e : Int → Int) : Int → Int := fun k => if 0 ≤ k ∧ k < m then e k else 0
theorem cnc_x {g e f : Int → Int} (d : Int) (h : ∀ k, 0 ≤ k → k < g 0 → e k = f k) : cncG g e d = cncG g f d := by
  have w : wayL g e (-1) = wayL g f (-1) := by
    funext j
    simp only [wayL]
    by_cases c : 6 + -1 < j ∧ j < 6 + g 0
    · rw [h (j - 6) (by omega) (by omega)]
    · rw [if_neg (fun q => c ⟨q.1, q.2.1⟩), if_neg (fun q => c ⟨q.1, q.2.1⟩)]
  unfold cncG
  rw [w]
theorem crew_eq {S M : Int} {sk sc mk ms mp g : Int → Int} (r : relI S M sk sc mk ms mp g) {d m fo z z' : Int} (hm : m = -1 ∨ (0 ≤ m ∧ m < M)) (hb : bestP (fun h_ x_ => wthZ (cntZ mp h_ M) (sumZ mp ms h_ M) (sk h_) d ms h_ x_) S (bitZ mp (-1) M) fo) (hz : z = (if m = -1 then (fo + 65536 - 1) / 65536 else (((fo + 65536 - 1) / 65536 * 65536 - fo) / zpw (2 * (7 - m))) % 4 - 1)) (b : CrewG g d m z') : z = z' := by
  have hS := r.1
  have h0 : 0 ≤ g 0 ∧ g 0 ≤ 8 := by omega
  obtain ⟨bw, hbw, hwok, hmin, hz'⟩ := b
  obtain ⟨⟨e0, ha0, hf0⟩, hmax⟩ := hb
  rw [hS.2.1] at hbw hwok hmin hz'
  have pM := zpw_pos (2 * M)
  have pK := zpw_pos (2 * (8 - M))
  have pMK : zpw (2 * M) * zpw (2 * (8 - M)) = 65536 := by
    rw [← zpw_add (by omega) (by omega), show 2 * M + 2 * (8 - M) = 16 by omega]
    decide +kernel
  -- the first best code, as a way
  have d4 : ∀ v k, 0 ≤ eG M v k ∧ eG M v k ≤ 3 := fun v k => by
    show 0 ≤ v / zpw (2 * (M - 1 - k)) % 4 ∧ v / zpw (2 * (M - 1 - k)) % 4 ≤ 3
    omega
  have hasg : asgE S (bitZ mp (-1) M) (cutE M (eG M bw)) := fun k q1 q2 => by
    unfold cutE
    by_cases c : 0 ≤ k ∧ k < M
    · rw [if_pos c]
      have b4 := d4 bw k
      refine ⟨b4.1, ?_, fun q => ?_⟩
      · by_cases w : 0 < eG M bw k
        · have := (hwok k q1 (by omega) w).2; omega
        · omega
      · have w := (hwok k q1 (by omega) q).1
        have := (r.2.2.1 k q1 c.2).2.2.1
        rw [zbt_bitZ mp (-1) q1 (by omega), if_pos ⟨c.2, by omega⟩]
    · rw [if_neg c]
      exact ⟨Int.le_refl 0, by omega, fun q => by omega⟩
  have v1 := crew_val r hasg d
  have n1 : cncG g (cutE M (eG M bw)) d = cncG g (eG M bw) d := cnc_x d (fun k q1 q2 => by unfold cutE; rw [if_pos ⟨q1, by omega⟩])
  have w1 : wayZ (cutE M (eG M bw)) 8 = bw * zpw (2 * (8 - M)) := by
    rw [way_ext (m := M) (by omega) (fun k q1 q2 => by unfold cutE; rw [if_neg (by omega)]), wayZ_x (f := eG M bw) (by omega) (fun k q1 q2 => by unfold cutE; rw [if_pos ⟨q1, q2⟩]), dig_way (by omega) hbw]
  have m1 := hmax _ hasg
  rw [v1, n1, w1] at m1
  -- the class' best, as a code
  have free : ∀ k, 0 ≤ k → k < 8 → 0 < e0 k → k < M ∧ mp k = -1 := fun k q1 q2 q3 => by
    have w := (ha0 k q1 q2).2.2 q3
    rw [zbt_bitZ mp (-1) q1 (by omega)] at w
    by_cases c : k < M ∧ mp k = -1
    · exact c
    · rw [if_neg c] at w; omega
  have out : ∀ k, M ≤ k → k < 8 → e0 k = 0 := fun k q1 q2 => by
    have a := ha0 k (by omega) q2
    by_cases c : 0 < e0 k
    · have := free k (by omega) q2 c; omega
    · omega
  have c3 : ∀ k, 0 ≤ k → 0 ≤ cutE M e0 k ∧ cutE M e0 k ≤ 3 := fun k q => by
    unfold cutE
    by_cases c : 0 ≤ k ∧ k < M
    · rw [if_pos c]
      have := ha0 k q (by omega)
      omega
    · rw [if_neg c]; omega
  obtain ⟨v, ev⟩ : ∃ v, v = wayZ (cutE M e0) M := ⟨_, rfl⟩
  have vb := way_b c3 (m := M) (by omega)
  rw [← ev] at vb
  have dg : ∀ k, 0 ≤ k → k < M → eG M v k = e0 k := fun k q1 q2 => by
    rw [ev, way_dig c3 ⟨q1, q2⟩]
    unfold cutE
    rw [if_pos ⟨q1, q2⟩]
  have vok : wokG g (eG M v) := fun k q1 q2 q3 => by
    rw [dg k q1 (by omega)] at q3 ⊢
    have f := free k q1 (by omega) q3
    have := (r.2.2.1 k q1 f.1).2.2.1
    have a := ha0 k q1 (by omega)
    omega
  have v0 := crew_val r ha0 d
  have w0 : wayZ e0 8 = v * zpw (2 * (8 - M)) := by
    rw [way_ext (m := M) (by omega) out, ev, wayZ_x (e := e0) (f := cutE M e0) (by omega) (fun k q1 q2 => by unfold cutE; rw [if_pos ⟨q1, q2⟩])]
  have n0 : cncG g e0 d = cncG g (eG M v) d := cnc_x d (fun k q1 q2 => (dg k q1 (by omega)).symm)
  rw [v0, w0, n0] at hf0
  have mm := hmin v vb.1 vb.2 vok
  have l1 : bw * zpw (2 * (8 - M)) < 65536 := by
    rw [← pMK]
    exact Int.mul_lt_mul_of_pos_right hbw.2 (by omega)
  have l2 : 0 ≤ bw * zpw (2 * (8 - M)) := Int.mul_nonneg hbw.1 (by omega)
  have l3 : 0 ≤ v * zpw (2 * (8 - M)) := Int.mul_nonneg vb.1 (by omega)
  have eN : cncG g (eG M v) d = cncG g (eG M bw) d := by omega
  have evb : v = bw := by
    by_cases q : v < bw
    · have := mm.2 q; omega
    · by_cases w : bw < v
      · have : bw * zpw (2 * (8 - M)) < v * zpw (2 * (8 - M)) := Int.mul_lt_mul_of_pos_right w (by omega)
        omega
      · omega
  rw [eN, evb] at hf0
  have hq : (fo + 65536 - 1) / 65536 = cncG g (eG M bw) d := by omega
  rw [hz, hz', hq]
  by_cases u : m = -1
  · rw [if_pos u, if_pos u]
  · have hm2 := hm.resolve_left u
    rw [if_neg u, if_neg u]
    have e2 : cncG g (eG M bw) d * 65536 - fo = bw * zpw (2 * (8 - M)) := by omega
    rw [e2]
    show bw * zpw (2 * (8 - M)) / zpw (2 * (7 - m)) % 4 - 1 = bw / zpw (2 * (M - 1 - m)) % 4 - 1
    rw [show 2 * (7 - m) = 2 * (M - 1 - m) + 2 * (8 - M) by omega, zpw_add (by omega) (by omega), Int.mul_ediv_mul_of_pos_left _ _ (by omega)]
