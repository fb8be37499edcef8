/-! rows of what was seen, noted, marked; images; the isle that a text tells -/
theorem put4_at (g : Int → Int) (n a b c d : Int) {j : Int} : put4 g n a b c d j = if n ≤ j ∧ j < n + 4 then fo4 a b c d (j - n) else g j := by
  unfold put4 fo4
  simp only [zu]
  repeat' split
  all_goals first | rfl | omega
theorem rwF_put {r : Int} {f g g' : Int → Int} {c o n : Int} (a0 a1 a2 a3 : Int) (h : rwF r f g c o n) (hr : r < n) (hc : g' c = r + 1) (ho : ∀ j, o ≤ j → j < o + 4 * n → g' j = put4 g (o + 4 * r) a0 a1 a2 a3 j) : rwF (r + 1) (putZ f (4 * r) a0 a1 a2 a3) g' c o n := by
  obtain ⟨h1, h2, h3⟩ := h
  refine ⟨hc, by omega, fun j q1 q2 => ?_⟩
  rw [ho (o + j) (by omega) (by omega), put_at, put4_at]
  by_cases e : 4 * r ≤ j
  · rw [if_pos (by omega), if_pos (by omega)]
    congr 1
    omega
  · rw [if_neg (by omega), if_neg (by omega)]
    exact h3 j q1 (by omega)
theorem row_put {r : Int} {f : Int → Int} {a0 a1 a2 a3 : Int} {P : Int → Int → Prop} (hr : 0 ≤ r) (h : ∀ k, 0 ≤ k → k < r → P (f (4 * k + 1)) (f (4 * k + 2))) (hn : P a1 a2) : ∀ k, 0 ≤ k → k < r + 1 → P (putZ f (4 * r) a0 a1 a2 a3 (4 * k + 1)) (putZ f (4 * r) a0 a1 a2 a3 (4 * k + 2)) := by
  intro k q1 q2
  rw [put_at, put_at]
  by_cases e : k = r
  · subst e
    rw [if_pos (by omega), if_pos (by omega), show 4 * k + 1 - 4 * k = 1 by omega, show 4 * k + 2 - 4 * k = 2 by omega]
    exact hn
  · rw [if_neg (by omega), if_neg (by omega)]
    exact h k q1 (by omega)
section REL79
variable {S M : Int} {sk sc mk ms mp : Int → Int} {r1 : Int} {f1 : Int → Int} {r2 : Int} {f2 : Int → Int} {r3 : Int} {f3 : Int → Int} {r4 : Int} {f4 g : Int → Int}
theorem REL_seen (r : REL S M sk sc mk ms mp r1 f1 r2 f2 r3 f3 r4 f4 g) (h : r1 < 5) {a0 a1 a2 a3 : Int} (ha : 0 ≤ a1) : REL S M sk sc mk ms mp (r1 + 1) (putZ f1 (4 * r1) a0 a1 a2 a3) r2 f2 r3 f3 r4 f4 (zu (put4 g (36 + 4 * g 2) a0 a1 a2 a3) 2 (g 2 + 1)) := by
  obtain ⟨a, b, c, d, e, u⟩ := r
  have e2 := b.1
  have hr := b.2.1
  have lo : ∀ j, j ≠ 2 → ¬ (36 ≤ j ∧ j < 56) → zu (put4 g (36 + 4 * g 2) a0 a1 a2 a3) 2 (g 2 + 1) j = g j := fun j q1 q2 => by
    rw [zu_n _ _ q1, put4_at, if_neg (by omega)]
  refine ⟨relI_x a (fun j q1 q2 q3 _ _ _ => lo j q3 (by omega)), rwF_put a0 a1 a2 a3 b h (by rw [zu_s, e2]) (fun j q1 q2 => by rw [zu_n _ _ (by omega), e2]), rwF_x c (lo 3 (by omega) (by omega)) (fun j q1 q2 => lo j (by omega) (by omega)), rwF_x d (lo 4 (by omega) (by omega)) (fun j q1 q2 => lo j (by omega) (by omega)), ⟨row_put (P := fun x _ => 0 ≤ x) hr.1 e.1 ha, e.2⟩, undR_x u (lo 5 (by omega) (by omega)) (fun j q1 q2 => lo j (by omega) (by omega)) (fun j q1 q2 => lo j (by omega) (by omega))⟩
theorem REL_note (r : REL S M sk sc mk ms mp r1 f1 r2 f2 r3 f3 r4 f4 g) (h : r2 < 6) {a0 a1 a2 a3 : Int} (ha : 1 ≤ a1 ∧ a1 ≤ 30 ∧ 0 ≤ a2 ∧ a2 ≤ 8) : REL S M sk sc mk ms mp r1 f1 (r2 + 1) (putZ f2 (4 * r2) a0 a1 a2 a3) r3 f3 r4 f4 (zu (put4 g (56 + 4 * g 3) a0 a1 a2 a3) 3 (g 3 + 1)) := by
  obtain ⟨a, b, c, d, e, u⟩ := r
  have e2 := c.1
  have hr := c.2.1
  have lo : ∀ j, j ≠ 3 → ¬ (56 ≤ j ∧ j < 80) → zu (put4 g (56 + 4 * g 3) a0 a1 a2 a3) 3 (g 3 + 1) j = g j := fun j q1 q2 => by
    rw [zu_n _ _ q1, put4_at, if_neg (by omega)]
  refine ⟨relI_x a (fun j q1 q2 _ q3 _ _ => lo j q3 (by omega)), rwF_x b (lo 2 (by omega) (by omega)) (fun j q1 q2 => lo j (by omega) (by omega)), rwF_put a0 a1 a2 a3 c h (by rw [zu_s, e2]) (fun j q1 q2 => by rw [zu_n _ _ (by omega), e2]), rwF_x d (lo 4 (by omega) (by omega)) (fun j q1 q2 => lo j (by omega) (by omega)), ⟨e.1, row_put (P := fun x y => 1 ≤ x ∧ x ≤ 30 ∧ 0 ≤ y ∧ y ≤ 8) hr.1 e.2.1 ha, e.2.2⟩, undR_x u (lo 5 (by omega) (by omega)) (fun j q1 q2 => lo j (by omega) (by omega)) (fun j q1 q2 => lo j (by omega) (by omega))⟩
theorem REL_mark (r : REL S M sk sc mk ms mp r1 f1 r2 f2 r3 f3 r4 f4 g) (h : r3 < 6) {a0 a1 a2 a3 : Int} (ha : 0 ≤ a1 ∧ a1 ≤ 9 ∧ 0 ≤ a2) : REL S M sk sc mk ms mp r1 f1 r2 f2 (r3 + 1) (putZ f3 (4 * r3) a0 a1 a2 a3) r4 f4 (zu (put4 g (80 + 4 * g 4) a0 a1 a2 a3) 4 (g 4 + 1)) := by
  obtain ⟨a, b, c, d, e, u⟩ := r
  have e2 := d.1
  have hr := d.2.1
  have lo : ∀ j, j ≠ 4 → ¬ (80 ≤ j ∧ j < 104) → zu (put4 g (80 + 4 * g 4) a0 a1 a2 a3) 4 (g 4 + 1) j = g j := fun j q1 q2 => by
    rw [zu_n _ _ q1, put4_at, if_neg (by omega)]
  refine ⟨relI_x a (fun j q1 q2 _ _ q3 _ => lo j q3 (by omega)), rwF_x b (lo 2 (by omega) (by omega)) (fun j q1 q2 => lo j (by omega) (by omega)), rwF_x c (lo 3 (by omega) (by omega)) (fun j q1 q2 => lo j (by omega) (by omega)), rwF_put a0 a1 a2 a3 d h (by rw [zu_s, e2]) (fun j q1 q2 => by rw [zu_n _ _ (by omega), e2]), ⟨e.1, e.2.1, row_put (P := fun x y => 0 ≤ x ∧ x ≤ 9 ∧ 0 ≤ y) hr.1 e.2.2 ha⟩, undR_x u (lo 5 (by omega) (by omega)) (fun j q1 q2 => lo j (by omega) (by omega)) (fun j q1 q2 => lo j (by omega) (by omega))⟩
theorem REL_f0 (r : REL S M sk sc mk ms mp r1 f1 r2 f2 r3 f3 r4 f4 g) : REL S M sk sc mk ms mp 0 f1 r2 f2 r3 f3 r4 f4 (zu g (2 + 0) 0) := by
  obtain ⟨a, b, c, d, e, u⟩ := r
  have lo : ∀ j, j ≠ 2 → zu g (2 + 0) 0 j = g j := fun j q => zu_n _ _ (by omega)
  exact ⟨relI_x a (fun j q1 q2 q3 _ _ _ => lo j q3), rwF_0 _ (zu_s _ _ _) (by omega), rwF_x c (lo 3 (by omega)) (fun j q1 q2 => lo j (by omega)), rwF_x d (lo 4 (by omega)) (fun j q1 q2 => lo j (by omega)), ⟨fun k q1 q2 => by omega, e.2⟩, undR_x u (lo 5 (by omega)) (fun j q1 q2 => lo j (by omega)) (fun j q1 q2 => lo j (by omega))⟩
theorem REL_f1 (r : REL S M sk sc mk ms mp r1 f1 r2 f2 r3 f3 r4 f4 g) : REL S M sk sc mk ms mp r1 f1 0 f2 r3 f3 r4 f4 (zu g (2 + 1) 0) := by
  obtain ⟨a, b, c, d, e, u⟩ := r
  have lo : ∀ j, j ≠ 3 → zu g (2 + 1) 0 j = g j := fun j q => zu_n _ _ (by omega)
  exact ⟨relI_x a (fun j q1 q2 _ q3 _ _ => lo j q3), rwF_x b (lo 2 (by omega)) (fun j q1 q2 => lo j (by omega)), rwF_0 _ (zu_s _ _ _) (by omega), rwF_x d (lo 4 (by omega)) (fun j q1 q2 => lo j (by omega)), ⟨e.1, fun k q1 q2 => by omega, e.2.2⟩, undR_x u (lo 5 (by omega)) (fun j q1 q2 => lo j (by omega)) (fun j q1 q2 => lo j (by omega))⟩
theorem REL_f2 (r : REL S M sk sc mk ms mp r1 f1 r2 f2 r3 f3 r4 f4 g) : REL S M sk sc mk ms mp r1 f1 r2 f2 0 f3 r4 f4 (zu g (2 + 2) 0) := by
  obtain ⟨a, b, c, d, e, u⟩ := r
  have lo : ∀ j, j ≠ 4 → zu g (2 + 2) 0 j = g j := fun j q => zu_n _ _ (by omega)
  exact ⟨relI_x a (fun j q1 q2 _ _ q3 _ => lo j q3), rwF_x b (lo 2 (by omega)) (fun j q1 q2 => lo j (by omega)), rwF_x c (lo 3 (by omega)) (fun j q1 q2 => lo j (by omega)), rwF_0 _ (zu_s _ _ _) (by omega), ⟨e.1, e.2.1, fun k q1 q2 => by omega⟩, undR_x u (lo 5 (by omega)) (fun j q1 q2 => lo j (by omega)) (fun j q1 q2 => lo j (by omega))⟩
theorem REL_im (kq : Int → Int) (r : REL S M sk sc mk ms mp r1 f1 r2 f2 r3 f3 r4 f4 g) (i : Int) : REL S M sk sc mk ms mp r1 f1 r2 f2 r3 f3 r4 f4 (shZ (imG kq g i 192) (192 * i)) :=
  REL_g r (fun j q1 q2 => by
    simp only [shZ, imG]
    rw [if_pos (by omega)]
    congr 1
    omega)
theorem REL_io {kq : Int → Int} {i k : Int} (hne : k + 1 ≤ i ∨ i + 1 ≤ k) (g0 : Int → Int) (r : REL S M sk sc mk ms mp r1 f1 r2 f2 r3 f3 r4 f4 (shZ kq (192 * k))) : REL S M sk sc mk ms mp r1 f1 r2 f2 r3 f3 r4 f4 (shZ (imG kq g0 i 192) (192 * k)) :=
  REL_g r (fun j q1 q2 => by
    simp only [shZ, imG]
    rw [if_neg (by omega)])
/-! a row that was read holds nothing but the isle -/
def zpG (g : Int → Int) : Prop := (g 2 = 0 ∧ g 3 = 0 ∧ g 4 = 0 ∧ g 5 = 0) ∧ (0 ≤ g 0 ∧ g 0 ≤ 8) ∧ (0 ≤ g 1 ∧ g 1 ≤ 3)
theorem zp_shp {yb g : Int → Int} {bl s : Int} (h : zpG g) : zpG (shpI yb bl s g).2.2 := by
  unfold shpI
  split
  · exact h
  · split
    · obtain ⟨a, b, c⟩ := h
      have o : ∀ v j, j ≠ 1 → j < 17 → shpR g v j = g j := fun v j q1 q2 => by
        unfold shpR
        rw [zu_n _ _ q1, zu_n _ _ (by omega)]
      have o1 : ∀ v, shpR g v 1 = g 1 + 1 := fun v => by unfold shpR; rw [zu_s]
      refine ⟨⟨?_, ?_, ?_, ?_⟩, ?_, ?_⟩
      · show shpR g _ 2 = 0
        rw [o _ 2 (by omega) (by omega)]; exact a.1
      · show shpR g _ 3 = 0
        rw [o _ 3 (by omega) (by omega)]; exact a.2.1
      · show shpR g _ 4 = 0
        rw [o _ 4 (by omega) (by omega)]; exact a.2.2.1
      · show shpR g _ 5 = 0
        rw [o _ 5 (by omega) (by omega)]; exact a.2.2.2
      · show 0 ≤ shpR g _ 0 ∧ shpR g _ 0 ≤ 8
        rw [o _ 0 (by omega) (by omega)]; exact b
      · show 0 ≤ shpR g (tV yb bl (tE yb bl s)) 1 ∧ shpR g (tV yb bl (tE yb bl s)) 1 ≤ 3
        rw [o1]; omega
    · exact h
theorem zp_lay {g : Int → Int} (kd t pl : Int) (h : zpG g) (h8 : ¬ g 0 = 8) : zpG (layG g kd t pl) := by
  obtain ⟨a, b, c⟩ := h
  have o : ∀ j, j ≠ 0 → j < 6 → layG g kd t pl j = g j := fun j q1 q2 => by
    unfold layG
    rw [zu_n _ _ q1, zu_n _ _ (by omega), zu_n _ _ (by omega), zu_n _ _ (by omega)]
  have o0 : layG g kd t pl 0 = g 0 + 1 := by unfold layG; rw [zu_s]
  refine ⟨⟨by rw [o 2 (by omega) (by omega)]; exact a.1, by rw [o 3 (by omega) (by omega)]; exact a.2.1, by rw [o 4 (by omega) (by omega)]; exact a.2.2.1, by rw [o 5 (by omega) (by omega)]; exact a.2.2.2⟩, by rw [o0]; omega, by rw [o 1 (by omega) (by omega)]; exact c⟩
theorem zp_man {yb g : Int → Int} {bl s : Int} (h : zpG g) : zpG (manI yb bl s g).2.2 := by
  unfold manI
  split
  · exact h
  · split
    · split
      · split
        · rename_i q _ _ _
          exact zp_lay _ _ _ h q
        · exact h
      · exact h
    · exact h
theorem zp_lo {g g' : Int → Int} (h : zpG g) (e : ∀ j, j < 6 → g' j = g j) : zpG g' := by
  obtain ⟨a, b, c⟩ := h
  exact ⟨⟨by rw [e 2 (by omega)]; exact a.1, by rw [e 3 (by omega)]; exact a.2.1, by rw [e 4 (by omega)]; exact a.2.2.1, by rw [e 5 (by omega)]; exact a.2.2.2⟩, by rw [e 0 (by omega)]; exact b, by rw [e 1 (by omega)]; exact c⟩
theorem zp_cal {yb g : Int → Int} {bl s : Int} (h : zpG g) : zpG (calI yb bl s g).2.2 := by
  unfold calI
  split
  · rename_i q
    have hh : 0 ≤ tV yb bl (tE yb bl s) := q.1.2.1
    refine zp_lo h (fun j hj => ?_)
    show goG g (tV yb bl (tE yb bl s)) (lstG g (tV yb bl (tE yb bl s))) j = g j
    exact goG_k hh ((lstG_b _ h.2.1.1).imp id (fun w => w.1)) hj
  · exact h
theorem zp_brd {yb g : Int → Int} {bl s : Int} (h : zpG g) : zpG (brdI yb bl s g).2.2 := by
  unfold brdI
  split
  · split
    · rename_i q
      have hh : 0 ≤ tV yb bl (tE yb bl (tE yb bl s)) := q.1.2.1
      refine zp_lo h (fun j hj => ?_)
      show zu g _ _ j = g j
      rw [zu_n _ _ (by omega)]
    · exact h
  · exact h
theorem zp_itm {yb g : Int → Int} {bl s k : Int} (h : zpG g) : zpG (itmF yb bl s k g).2.2 := by
  have hb : zpG (if k = 0 then itm0 yb bl s g else itmN yb bl s g).2.2 := by
    split
    · unfold itm0
      split
      · exact h
      · exact h
    · unfold itmN
      split
      · exact zp_shp h
      · split
        · exact zp_man h
        · split
          · exact zp_cal h
          · split
            · exact zp_brd h
            · exact h
  have key : ∀ r : Int × Int × (Int → Int), zpG r.2.2 → zpG (clsF yb bl r).2.2 := fun r q => by
    unfold clsF
    split
    · split
      · exact q
      · exact q
    · exact q
  exact key _ hb
theorem zp_rdF {yb : Int → Int} {bl : Int} : ∀ (n : Nat) (s k : Int) (g : Int → Int), zpG g → zpG (rdF yb bl n s k g).2
  | 0, _, _, _, h => h
  | n + 1, s, k, g, h => by
    unfold rdF
    split
    · exact h
    · split
      · exact zp_rdF n _ _ _ (zp_itm h)
      · exact h
theorem zp_rd (yb : Int → Int) (bl : Int) : zpG (rdK yb bl 0 0 (fun _ => 0)).2 := zp_rdF _ _ _ _ ⟨⟨rfl, rfl, rfl, rfl⟩, ⟨Int.le_refl 0, by show (0 : Int) ≤ 8; omega⟩, ⟨Int.le_refl 0, by show (0 : Int) ≤ 3; omega⟩⟩
theorem REL_rd {R : Int → Int} (r : relI S M sk sc mk ms mp R) (z : zpG R) (f1 f2 f3 f4 g : Int → Int) : REL S M sk sc mk ms mp 0 f1 0 f2 0 f3 0 f4 (cpG R g 104) := by
  have e : ∀ j, 0 ≤ j → j < 104 → cpG R g 104 j = R j := fun j q1 q2 => by simp only [cpG]; rw [if_pos ⟨q1, q2⟩]
  obtain ⟨⟨a2, a3, a4, a5⟩, -, -⟩ := z
  exact ⟨relI_x r (fun j q1 q2 _ _ _ _ => e j q1 (by omega)), rwF_0 _ ((e 2 (by omega) (by omega)).trans a2) (by omega), rwF_0 _ ((e 3 (by omega) (by omega)).trans a3) (by omega), rwF_0 _ ((e 4 (by omega) (by omega)).trans a4) (by omega), rowK_0 _ _ _, undR_0 _ _ _ ((e 5 (by omega) (by omega)).trans a5)⟩
end REL79
