/-! the law's entry: the tables, the string constants -/
theorem z0b {lo hi : Int} (h : lo ≤ 0 ∧ 0 ≤ hi) : ∀ j : Int, lo ≤ (fun _ : Int => (0 : Int)) j ∧ (fun _ : Int => (0 : Int)) j ≤ hi := fun _ => h
theorem REL_0 : REL 0 0 (fun _ => 0) (fun _ => 0) (fun _ => 0) (fun _ => 0) (fun _ => 0) 0 (fun _ => 0) 0 (fun _ => 0) 0 (fun _ => 0) 0 (fun _ => 0) (fun _ => 0) :=
  ⟨rel_0 _ _ _ _ _, rwF_0 _ rfl (by omega), rwF_0 _ rfl (by omega), rwF_0 _ rfl (by omega), rowK_0 _ _ _, undR_0 _ _ _ rfl⟩
theorem RR_0 : RR 0 0 0 0 := ⟨by omega, by omega, by omega, by omega, by omega, by omega, by omega, by omega⟩
theorem LBI_0 : LBI 0 0 (fun _ => 0) (fun _ => 0) (fun _ => 0) (fun _ => 0) (fun _ => 0) := ⟨by omega, by omega, z0b (by omega), z0b (by omega), z0b (by omega), z0b (by omega), z0b (by omega)⟩
theorem LBF_0 : LBF (fun _ => 0) (fun _ => 0) (fun _ => 0) (fun _ => 0) := ⟨z0b (by omega), z0b (by omega), z0b (by omega), z0b (by omega)⟩
def se_tm (i : Nat) : Term := .string RX6 (se_idx.getD i 0)
theorem se_start {b : Nat} {s : State} (hts : ∀ w ∈ lw_tbl, w.before #[Value.ref b] s = true) (hgv : (Jvm.Cond.and given_1 narrow_1).before #[Value.ref b] s = true) : ∃ sa sv : Nat → Nat, SE sa sv (fun q : Nat => s.heap.size ≤ q) s s.heap := by
  have hs := flat_of_before _ hgv
  have hA : ∀ a : Nat, a < s.heap.size → ¬ (fun q : Nat => s.heap.size ≤ q) a := fun a h => Nat.not_le.mpr h
  have c5 : ∀ {P : Nat → Prop}, P 0 → P 1 → P 2 → P 3 → P 4 → ∀ i : Nat, i < 5 → P i := fun p0 p1 p2 p3 p4 i hi => by
    rcases (show i = 0 ∨ i = 1 ∨ i = 2 ∨ i = 3 ∨ i = 4 by omega) with rfl | rfl | rfl | rfl | rfl <;> assumption
  obtain ⟨sa, sv, h1, h2⟩ := vk_Sof (args := #[Value.ref b]) (s := s) (N := 5) (tm := se_tm) (len := se_len) (byt := se_byt) (A := fun q : Nat => s.heap.size ≤ q)
    (fun i hi => by have := (se_all i hi).1; omega)
    (c5 (hs _ (by decide +kernel)) (hs _ (by decide +kernel)) (hs _ (by decide +kernel)) (hs _ (by decide +kernel)) (hs _ (by decide +kernel)))
    (c5 (hs _ (by decide +kernel)) (hs _ (by decide +kernel)) (hs _ (by decide +kernel)) (hs _ (by decide +kernel)) (hs _ (by decide +kernel)))
    (c5 (hs _ (by decide +kernel)) (hs _ (by decide +kernel)) (hs _ (by decide +kernel)) (hs _ (by decide +kernel)) (hs _ (by decide +kernel)))
    (c5 (hs _ (by decide +kernel)) (hs _ (by decide +kernel)) (hs _ (by decide +kernel)) (hs _ (by decide +kernel)) (hs _ (by decide +kernel)))
    (c5 (P := fun i => ∀ j : Nat, j < se_len.getD i 0 → (Cond.eq (.elem (.field (se_tm i) "java/lang/String" "value" "[B") (.int (Int32.ofNat j))) (.int ((se_byt.getD i []).getD j 0))).before #[Value.ref b] s = true)
      (fun j hj => by rcases (show j = 0 ∨ j = 1 ∨ j = 2 ∨ j = 3 ∨ j = 4 ∨ j = 5 by have hj : j < 6 := hj; omega) with rfl | rfl | rfl | rfl | rfl | rfl <;> exact hs _ (by decide +kernel))
      (fun j hj => by rcases (show j = 0 ∨ j = 1 ∨ j = 2 ∨ j = 3 by have hj : j < 4 := hj; omega) with rfl | rfl | rfl | rfl <;> exact hs _ (by decide +kernel))
      (fun j hj => by rcases (show j = 0 ∨ j = 1 ∨ j = 2 by have hj : j < 3 := hj; omega) with rfl | rfl | rfl <;> exact hs _ (by decide +kernel))
      (fun j hj => by rcases (show j = 0 ∨ j = 1 ∨ j = 2 ∨ j = 3 by have hj : j < 4 := hj; omega) with rfl | rfl | rfl | rfl <;> exact hs _ (by decide +kernel))
      (fun j hj => by rcases (show j = 0 ∨ j = 1 ∨ j = 2 ∨ j = 3 ∨ j = 4 by have hj : j < 5 := hj; omega) with rfl | rfl | rfl | rfl | rfl <;> exact hs _ (by decide +kernel)))
    (fun i j hi hj hne => by
      rcases (show i = 0 ∨ i = 1 ∨ i = 2 ∨ i = 3 ∨ i = 4 by omega) with rfl | rfl | rfl | rfl | rfl <;> rcases (show j = 0 ∨ j = 1 ∨ j = 2 ∨ j = 3 ∨ j = 4 by omega) with rfl | rfl | rfl | rfl | rfl <;> first | exact absurd rfl hne | exact Or.inl (hs _ (by decide +kernel)) | exact Or.inr (hs _ (by decide +kernel)))
    hA
  refine ⟨sa, sv, h1, va_Zof (hts _ (by decide +kernel)) (hts _ (by decide +kernel)) (va_eqt (hs (Cond.eq (.static "java/lang/String" "COMPACT_STRINGS" "Z") (.int 1)) (by decide +kernel))) hA, ?_, ?_⟩
  · have hz : va_Zq RJ3 "SIOOBE_FORMATTER" "Ljava/util/function/BiFunction;" (fun q : Nat => s.heap.size ≤ q) s s.heap := va_Zqof (hts _ (by decide +kernel)) (hts _ (by decide +kernel)) (hs _ (by decide +kernel)) hA
    rcases hz with h | ⟨t, h⟩
    · exact ⟨.null, Or.inl rfl, h⟩
    · exact ⟨.ref t, Or.inr ⟨t, rfl⟩, h⟩
  · exact fun i hi => vk_R.of (c5 (P := fun i => (Cond.stringRef RX6 (se_idx.getD i 0) (se_tx.getD i "")).before #[Value.ref b] s = true) (hts _ (by decide +kernel)) (hts _ (by decide +kernel)) (hts _ (by decide +kernel)) (hts _ (by decide +kernel)) (hts _ (by decide +kernel)) i hi) (h2 i hi)
theorem k_start {b : Nat} {s : State} (hts : ∀ w ∈ lw_tbl, w.before #[Value.ref b] s = true) : ∃ (D : va_G) (cy : Nat → ClassId), va_K D vwCl (tyL cy) s := by
  obtain ⟨c0, i0, h0⟩ := u_known (C := RX0) (T := TX0) (N := 3) (n := 3) hts inX0 (hts (.instantiable RX0 3) (by decide +kernel))
  obtain ⟨c1, i1, h1⟩ := u_known (C := RX1) (T := TX1) (N := 2) (n := 2) hts inX1 (hts (.instantiable RX1 2) (by decide +kernel))
  obtain ⟨c2, i2, h2⟩ := u_known (C := RX2) (T := TX2) (N := 3) (n := 3) hts inX2 (hts (.instantiable RX2 3) (by decide +kernel))
  obtain ⟨c3, i3, h3⟩ := u_known (C := RX3) (T := TX3) (N := 1) (n := 1) hts inX3 (hts (.instantiable RX3 1) (by decide +kernel))
  obtain ⟨c4, i4, h4⟩ := u_known (C := RX4) (T := TX4) (N := 11) (n := 11) hts inX4 (hts (.instantiable RX4 11) (by decide +kernel))
  obtain ⟨c5, i5, h5⟩ := u_known (C := RX6) (T := TX6) (N := 6) (n := 6) hts inX6 (hts (.instantiable RX6 6) (by decide +kernel))
  obtain ⟨c6, i6, h6⟩ := u_known (C := RX7) (T := TX7) (N := 13) (n := 13) hts inX7 (hts (.instantiable RX7 13) (by decide +kernel))
  obtain ⟨c7, i7, h7⟩ := u_known (C := RX8) (T := TX8) (N := 19) (n := 19) hts inX8 (hts (.instantiable RX8 19) (by decide +kernel))
  obtain ⟨a0, k0, m0, f0, g0, e0⟩ := Cond.arrayClass_spec (args := #[Value.ref b]) (first := s) (s := s) (o := none) (idx := []) (type := .int) (hts (.arrayClass .int) (by decide +kernel))
  obtain ⟨a1, k1, m1, f1, g1, e1⟩ := Cond.arrayClass_spec (args := #[Value.ref b]) (first := s) (s := s) (o := none) (idx := []) (type := .byte) (hts (.arrayClass .byte) (by decide +kernel))
  obtain ⟨a2, k2, m2, f2, g2, e2⟩ := Cond.arrayClass_spec (args := #[Value.ref b]) (first := s) (s := s) (o := none) (idx := []) (type := .boolean) (hts (.arrayClass .boolean) (by decide +kernel))
  obtain ⟨m3, a3, k3, f3, -, g3, e3, j3⟩ := Cond.arrayOver_spec (args := #[Value.ref b]) (first := s) (s := s) (o := none) (idx := []) (n := "LeftBehind$Isle") (hts (.arrayOver (.object "LeftBehind$Isle")) (by decide +kernel))
  refine ⟨(fun k => [c0, c1, c2, c3, c4, c5, c6, c7].getD k 0, fun k => [i0, i1, i2, i3, i4, i5, i6, i7].getD k (fun _ => 0)), fun k => [a0, a1, a2, a3].getD k 0, fun k q hq => ?_, fun k q hq => ?_⟩
  · match k, hq with
    | 0, hq => cases hq; exact h0
    | 1, hq => cases hq; exact h1
    | 2, hq => cases hq; exact h2
    | 3, hq => cases hq; exact h3
    | 4, hq => cases hq; exact h4
    | 5, hq => cases hq; exact h5
    | 6, hq => cases hq; exact h6
    | 7, hq => cases hq; exact h7
    | k + 8, hq => simp [vwCl] at hq
  · match k, hq with
    | 0, hq => cases hq; exact ⟨fun n z => ⟨fun k h => (by cases h), k0, g0, m0, e0⟩, f0⟩
    | 1, hq => cases hq; exact ⟨fun n z => ⟨fun k h => (by cases h), k1, g1, m1, e1⟩, f1⟩
    | 2, hq => cases hq; exact ⟨fun n z => ⟨fun k h => (by cases h), k2, g2, m2, e2⟩, f2⟩
    | 3, hq => cases hq; exact ⟨fun n z => ⟨fun k h => (by cases h), k3, g3, m3, e3⟩, k3, m3, g3, e3, f3, j3⟩
    | k + 4, hq => simp at hq
theorem e_start {b : Nat} {s : State} (hts : ∀ w ∈ lw_tbl, w.before #[Value.ref b] s = true) : EX7 s :=
  ⟨va_AO.of (A := #[Value.ref b]) (hts _ (by decide +kernel)), va_Nw.of (A := #[Value.ref b]) rfl (hts _ (by decide +kernel)), va_Nw.of (A := #[Value.ref b]) rfl (hts _ (by decide +kernel)), va_Nw.of (A := #[Value.ref b]) rfl (hts _ (by decide +kernel)), va_Nw.of (A := #[Value.ref b]) rfl (hts _ (by decide +kernel)), va_Nw.of (A := #[Value.ref b]) rfl (hts _ (by decide +kernel))⟩

