/-! the cells of a Text -/
abbrev wX (cy : Nat → ClassId) (x : Nat → Nat) (ln tok st en va : Int) (xb : Int → Int) : va_W := [(x 0, .inr (5, [.ref (x 1), .int (zi ln), .int (zi tok), .int (zi st), .int (zi en), .int (zi va)])), (x 1, .inl (cy 1, 150, .inl (zA xb)))]
theorem TokR_x {xb : Int → Int} {ln s a k e t v : Int} (ha : s ≤ a ∧ a ≤ ln) (hsp : ∀ j, s ≤ j → j < a → xb j = 32) (hk : (ln ≤ a ∧ k = 0) ∨ (a < ln ∧ k = ckZ (xb a) ∧ ¬ k = 4 ∧ 1 ≤ k ∧ k ≤ 5)) (h : ((k = 3 ∨ k = 5) ∧ a < ln ∧ e = a + 1 ∧ t = k) ∨ (¬ k = 3 ∧ ¬ k = 5 ∧ ((k = 0 ∧ e = a) ∨ ((k = 1 ∨ k = 2) ∧ RunR xb ln a e)) ∧ ((k = 2 ∧ 2 < e - a ∧ t = 5) ∨ (¬ (k = 2 ∧ 2 < e - a) ∧ t = k)) ∧ (k = 2 → e - a ≤ 2 → v = valZ xb a e))) : TokR xb ln s t a e v := by
  have hc := ck_f (xb a)
  refine ⟨⟨ha.1, ha.2, hsp, fun q => by omega⟩, ?_, ?_⟩
  · rcases h with q | q
    · refine Or.inr (Or.inl ⟨q.2.1, by omega, by omega, q.2.2.1⟩)
    · rcases q.2.2.1 with w | w
      · exact Or.inl ⟨by omega, by omega, w.2⟩
      · refine Or.inr (Or.inr ⟨by omega, by omega, w.2, ?_⟩)
        split <;> omega
  · intro q
    rcases h with w | w
    · omega
    · exact w.2.2.2.2 (by omega) (by omega)
theorem nx_rr {xb : Int → Int} {ln s a z e k : Int} (ha : s ≤ a ∧ a ≤ ln) (hk : (ln ≤ a ∧ z = 0) ∨ (a < ln ∧ z = ckZ (xb a) ∧ ¬ z = 4 ∧ 1 ≤ z ∧ z ≤ 5)) (he : a ≤ e ∧ e ≤ ln) (hgo : (k = 1 ∧ (z = 1 ∨ z = 2)) ∨ (k = 0 ∧ ((z = 0 ∧ e = a) ∨ ((z = 3 ∨ z = 5) ∧ e = a + 1)))) (hrun : k = 1 → ∀ j, a ≤ j → j < e → ckZ (xb j) = z) (h0 : ¬ k = 0) (hend : ln ≤ e ∨ (e < ln ∧ ¬ ckZ (xb e) = z)) : (k = 1 ∧ (z = 1 ∨ z = 2) ∧ (∀ j, a ≤ j → j < e → ckZ (xb j) = z) ∧ RunR xb ln a e) ∨ (k = 0 ∧ ((z = 0 ∧ e = a) ∨ ((z = 3 ∨ z = 5) ∧ e = a + 1))) := by
  have g := hgo.resolve_right (fun q => h0 q.1)
  have w := hk.resolve_left (fun q => by omega)
  have r := hrun g.1
  refine Or.inl ⟨g.1, g.2, r, ?_, he.2, fun j j1 j2 => (r j j1 j2).trans w.2.1, fun q => ?_⟩
  · rcases Int.lt_or_eq_of_le he.1 with q | q
    · exact q
    · rw [← q] at hend
      rcases hend with v | v
      · omega
      · exact absurd w.2.1.symm v.2
  · rcases hend with v | v
    · omega
    · rw [← w.2.1]; exact v.2
abbrev nxP (xb : Int → Int) (ln a z e k : Int) : Prop := (k = 1 ∧ (z = 1 ∨ z = 2) ∧ (∀ j, a ≤ j → j < e → ckZ (xb j) = z) ∧ RunR xb ln a e) ∨ (k = 0 ∧ ((z = 0 ∧ e = a) ∨ ((z = 3 ∨ z = 5) ∧ e = a + 1)))
theorem nx_2 {xb : Int → Int} {ln a z e k : Int} (h : nxP xb ln a z e k) (hz : z = 2) : (∀ j, a ≤ j → j < e → ckZ (xb j) = z) ∧ RunR xb ln a e := by
  rcases h with q | q
  · exact q.2.2
  · exfalso; omega
theorem nx_d1 {xb : Int → Int} {ln a z e k : Int} (h : nxP xb ln a z e k) (hz : z = 2) : a < e := (nx_2 h hz).2.1
theorem nx_d2 {xb : Int → Int} {ln a z e k : Int} (h : nxP xb ln a z e k) (hz : z = 2) : ∀ j, a ≤ j → j < e → 48 ≤ xb j ∧ xb j ≤ 57 := fun j j1 j2 => (ck_f (xb j)).2.2.1.mp (((nx_2 h hz).1 j j1 j2).trans hz)
theorem nx_f {xb : Int → Int} {ln a z e k v : Int} (h : nxP xb ln a z e k) (hk : (ln ≤ a ∧ z = 0) ∨ (a < ln ∧ z = ckZ (xb a) ∧ ¬ z = 4 ∧ 1 ≤ z ∧ z ≤ 5)) (hz : ¬ z = 2) : ((z = 3 ∨ z = 5) ∧ a < ln ∧ e = a + 1 ∧ z = z) ∨ (¬ z = 3 ∧ ¬ z = 5 ∧ ((z = 0 ∧ e = a) ∨ ((z = 1 ∨ z = 2) ∧ RunR xb ln a e)) ∧ ((z = 2 ∧ 2 < e - a ∧ z = 5) ∨ (¬ (z = 2 ∧ 2 < e - a) ∧ z = z)) ∧ (z = 2 → e - a ≤ 2 → v = valZ xb a e)) := by
  rcases h with q | q
  · exact Or.inr ⟨by omega, by omega, Or.inr ⟨q.2.1, q.2.2.2⟩, Or.inr ⟨fun w => hz w.1, rfl⟩, fun w => absurd w hz⟩
  · rcases q.2 with w | w
    · exact Or.inr ⟨by omega, by omega, Or.inl w, Or.inr ⟨fun w => hz w.1, rfl⟩, fun w => absurd w hz⟩
    · exact Or.inl ⟨w.1, by omega, w.2, rfl⟩
theorem nx_g {xb : Int → Int} {ln a z e k t v : Int} (h : nxP xb ln a z e k) (hz : z = 2) (ht : (2 < e - a ∧ t = 5) ∨ (¬ 2 < e - a ∧ t = 2)) (hv : e - a ≤ 2 → v = valZ xb a e) : ((z = 3 ∨ z = 5) ∧ a < ln ∧ e = a + 1 ∧ t = z) ∨ (¬ z = 3 ∧ ¬ z = 5 ∧ ((z = 0 ∧ e = a) ∨ ((z = 1 ∨ z = 2) ∧ RunR xb ln a e)) ∧ ((z = 2 ∧ 2 < e - a ∧ t = 5) ∨ (¬ (z = 2 ∧ 2 < e - a) ∧ t = z)) ∧ (z = 2 → e - a ≤ 2 → v = valZ xb a e)) :=
  Or.inr ⟨by omega, by omega, Or.inr ⟨Or.inr hz, (nx_2 h hz).2⟩, by omega, fun _ => hv⟩
def knZ (xb : Int → Int) (ln i : Int) : Int := if 0 ≤ i ∧ i < ln then ckZ (xb i) else 0

abbrev rX6_size : Room := { frames := 0, cells := 0, slots := 0, locals := 0 }
set_option maxHeartbeats 1000000 in
set_option maxRecDepth 100000 in
theorem c_X6_size (l_ : Launch) (D : va_G) (cy : Nat → ClassId) (x : Nat → Nat) (ln : Int) (tok : Int) (st : Int) (en : Int) (va : Int) (xb : Int → Int) (bxb : ∀ j : Int, 0 ≤ xb j ∧ xb j ≤ 127) : CTi l_ D cy yX6_size wsX6_size rX6_size [.ref (x 0)] ([wX cy x ln tok st en va xb]) (fun (z : Int) (u : Unit) => (z = ln)) (fun (_ : Unit) => [wX cy x ln tok st en va xb]) := by
  refine CTi.of RX6 cX6_size 1 rfl (by decide) rfl (fun z u hz => rfl) (Nat.le_of_ble_eq_true rfl) ?_
  intro p_ e_ s_ m_ ar_ be_ me_ c_ Q_ A_ ls_ F_ K_ W_ hl hret
  have hl : lv_has ls_ 1 [(0, .ref (x 0))] := hl
  obtain ⟨H_, hH_⟩ : ∃ x, x = s_.heap := ⟨_, rfl⟩
  obtain ⟨lo_, hlo_⟩ : ∃ x : List Loc, x = [] := ⟨_, rfl⟩
  have W_ : WD D A_ s_.heap ([wX cy x ln tok st en va xb]) H_ lo_ := by rw [hH_, hlo_]; exact W_
  rw [← hlo_]
  suffices hg_ : W p_ l_ e_ rX6_size s_ m_ ar_ be_ me_ c_ H_ lo_ 0 0 Q_ (F0 m_ 0 ls_ []) by rw [hH_] at hg_; exact hg_
  clear hH_ hlo_
  have hinX6 : ∀ w ∈ u_ws RX6 TX6 6, w ∈ wsX6_size := fun w h => List.mem_cons_of_mem _ (List.mem_append_right _ h)
  refine lv_aload_n F_.1 F_.2.1 dX6_size_0 rfl (lv_at hl 0 rfl) ?_
  refine z_get F_ K_ W_ 0 0 1 rfl rfl rfl (C := RX6) (T := TX6) (N := 6) rfl (by decide) hinX6 (List.mem_of_getElem? (i := 1) rfl) dX6_size_1 ?_
  exact hret _ _ _ _ ln () dX6_size_4 (by first | omega | assumption) W_
abbrev rX6_empty : Room := { frames := 0, cells := 0, slots := 0, locals := 0 }
set_option maxHeartbeats 1000000 in
set_option maxRecDepth 100000 in
theorem c_X6_empty (l_ : Launch) (D : va_G) (cy : Nat → ClassId) (x : Nat → Nat) (ln : Int) (tok : Int) (st : Int) (en : Int) (va : Int) (xb : Int → Int) (bxb : ∀ j : Int, 0 ≤ xb j ∧ xb j ≤ 127) : CTi l_ D cy yX6_empty wsX6_empty rX6_empty [.ref (x 0)] ([wX cy x ln tok st en va xb]) (fun (z : Int) (u : Unit) => (z = ln)) (fun (u : Unit) => [wX cy x 0 tok st en va xb]) := by
  refine CTi.of RX6 cX6_empty 2 rfl (by decide) rfl (fun z u hz => rfl) (Nat.le_of_ble_eq_true rfl) ?_
  intro p_ e_ s_ m_ ar_ be_ me_ c_ Q_ A_ ls_ F_ K_ W_ hl hret
  have hl : lv_has ls_ 2 [(0, .ref (x 0))] := hl
  obtain ⟨H_, hH_⟩ : ∃ x, x = s_.heap := ⟨_, rfl⟩
  obtain ⟨lo_, hlo_⟩ : ∃ x : List Loc, x = [] := ⟨_, rfl⟩
  have W_ : WD D A_ s_.heap ([wX cy x ln tok st en va xb]) H_ lo_ := by rw [hH_, hlo_]; exact W_
  rw [← hlo_]
  suffices hg_ : W p_ l_ e_ rX6_empty s_ m_ ar_ be_ me_ c_ H_ lo_ 0 0 Q_ (F0 m_ 0 ls_ []) by rw [hH_] at hg_; exact hg_
  clear hH_ hlo_
  have hinX6 : ∀ w ∈ u_ws RX6 TX6 6, w ∈ wsX6_empty := fun w h => List.mem_cons_of_mem _ (List.mem_append_right _ h)
  refine lv_aload_n F_.1 F_.2.1 dX6_empty_0 rfl (lv_at hl 0 rfl) ?_
  refine z_get F_ K_ W_ 0 0 1 rfl rfl rfl (C := RX6) (T := TX6) (N := 6) rfl (by decide) hinX6 (List.mem_of_getElem? (i := 1) rfl) dX6_empty_1 ?_
  refine lv_istore_n (lv' := [(1, .int (zi ln)), (0, .ref (x 0))]) F_.1 F_.2.1 dX6_empty_4 rfl hl (by decide) rfl (fun ls_ hl => ?_)
  refine lv_aload_n F_.1 F_.2.1 dX6_empty_5 rfl (lv_at hl 1 rfl) ?_
  refine z_iconst F_ dX6_empty_6 ?_
  refine z_put (sg' := [wX cy x 0 tok st en va xb]) F_ K_ W_ 0 0 1 rfl rfl rfl (C := RX6) (T := TX6) (N := 6) rfl ⟨Nat.le_of_ble_eq_true rfl, Nat.le_of_ble_eq_true rfl⟩ tyX6 tyX6_ok nmX6 rfl rfl rfl hinX6 (List.mem_of_getElem? (i := 1) rfl) dX6_empty_7 (fun H_ lo_ W_ => ?_)
  refine lv_iload_n F_.1 F_.2.1 dX6_empty_10 rfl (lv_at hl 0 rfl) ?_
  exact hret _ _ _ _ ln () dX6_empty_11 (by first | omega | assumption) W_
abbrev rX6_kindAt : Room := { frames := 0, cells := 0, slots := 0, locals := 0 }
set_option maxHeartbeats 1000000 in
set_option maxRecDepth 100000 in
theorem c_X6_kindAt (l_ : Launch) (D : va_G) (cy : Nat → ClassId) (x : Nat → Nat) (ln : Int) (tok : Int) (st : Int) (en : Int) (va : Int) (xb : Int → Int) (i : Int) (bxb : ∀ j : Int, 0 ≤ xb j ∧ xb j ≤ 127) (ri : -2147483648 ≤ i ∧ i < 2147483648) (hln : 0 ≤ ln ∧ ln ≤ 150) : CTi l_ D cy yX6_kindAt wsX6_kindAt rX6_kindAt [.ref (x 0), .int (zi i)] ([wX cy x ln tok st en va xb]) (fun (z : Int) (u : Unit) => (z = knZ xb ln i)) (fun (_ : Unit) => [wX cy x ln tok st en va xb]) := by
  refine CTi.of RX6 cX6_kindAt 3 rfl (by decide) rfl (fun z u hz => rfl) (Nat.le_of_ble_eq_true rfl) ?_
  intro p_ e_ s_ m_ ar_ be_ me_ c_ Q_ A_ ls_ F_ K_ W_ hl hret
  have hl : lv_has ls_ 3 [(0, .ref (x 0)), (1, .int (zi i))] := hl
  obtain ⟨H_, hH_⟩ : ∃ x, x = s_.heap := ⟨_, rfl⟩
  obtain ⟨lo_, hlo_⟩ : ∃ x : List Loc, x = [] := ⟨_, rfl⟩
  have W_ : WD D A_ s_.heap ([wX cy x ln tok st en va xb]) H_ lo_ := by rw [hH_, hlo_]; exact W_
  rw [← hlo_]
  suffices hg_ : W p_ l_ e_ rX6_kindAt s_ m_ ar_ be_ me_ c_ H_ lo_ 0 0 Q_ (F0 m_ 0 ls_ []) by rw [hH_] at hg_; exact hg_
  clear hH_ hlo_
  have hinX6 : ∀ w ∈ u_ws RX6 TX6 6, w ∈ wsX6_kindAt := fun w h => List.mem_cons_of_mem _ (List.mem_append_right _ h)
  refine lv_iload_n F_.1 F_.2.1 dX6_kindAt_0 rfl (lv_at hl 1 rfl) ?_
  refine z_if_lt (tgt := 12) F_ (by omega) dX6_kindAt_1 (by decide) (fun c1 => ?_) (fun c1 => ?_)
  · refine z_iconst F_ dX6_kindAt_12 ?_
    exact hret _ _ _ _ 0 () dX6_kindAt_13 (by unfold knZ; rw [if_neg (by omega)]) W_
  · refine lv_iload_n F_.1 F_.2.1 dX6_kindAt_4 rfl (lv_at hl 1 rfl) ?_
    refine lv_aload_n F_.1 F_.2.1 dX6_kindAt_5 rfl (lv_at hl 0 rfl) ?_
    refine z_get F_ K_ W_ 0 0 1 rfl rfl rfl (C := RX6) (T := TX6) (N := 6) rfl (by decide) hinX6 (List.mem_of_getElem? (i := 1) rfl) dX6_kindAt_6 ?_
    refine z_icmp_lt (tgt := 14) F_ (by omega) dX6_kindAt_9 (by decide) (fun c9 => ?_) (fun c9 => ?_)
    · refine lv_aload_n F_.1 F_.2.1 dX6_kindAt_14 rfl (lv_at hl 0 rfl) ?_
      refine z_get F_ K_ W_ 0 0 0 rfl rfl rfl (C := RX6) (T := TX6) (N := 6) rfl (by decide) hinX6 (List.mem_of_getElem? (i := 2) rfl) dX6_kindAt_15 ?_
      refine lv_iload_n F_.1 F_.2.1 dX6_kindAt_18 rfl (lv_at hl 1 rfl) ?_
      refine z_bald F_ K_ W_ 0 1 rfl rfl (by omega) (by decide) dX6_kindAt_19 ?_
      have b_1 := bxb i
      refine lv_istore_n (lv' := [(2, .int (zi (xb i))), (0, .ref (x 0)), (1, .int (zi i))]) F_.1 F_.2.1 dX6_kindAt_20 rfl hl (by decide) rfl (fun ls_ hl => ?_)
      have hck := ck_f (xb i)
      refine lv_iload_n F_.1 F_.2.1 dX6_kindAt_21 rfl (lv_at hl 0 rfl) ?_
      refine z_bipush F_ (by decide) dX6_kindAt_22 ?_
      have J35 : ∀ (g35 : ((xb i < 97)) ∨ ((97 ≤ xb i) ∧ (122 < xb i))) (ls_ : Array Slot) (H_ : Heap) (lo_ : List Loc), WD D A_ s_.heap ([wX cy x ln tok st en va xb]) H_ lo_ → lv_has ls_ 3 [(2, .int (zi (xb i))), (0, .ref (x 0)), (1, .int (zi i))] → W p_ l_ e_ rX6_kindAt s_ m_ ar_ be_ me_ c_ H_ lo_ 0 0 Q_ (F0 m_ 35 ls_ []) := by
        intro g35 ls_ H_ lo_ W_ hl
        refine lv_iload_n F_.1 F_.2.1 dX6_kindAt_35 rfl (lv_at hl 0 rfl) ?_
        refine z_bipush F_ (by decide) dX6_kindAt_36 ?_
        have J49 : ∀ (g49 : ((xb i < 48)) ∨ ((48 ≤ xb i) ∧ (57 < xb i))) (ls_ : Array Slot) (H_ : Heap) (lo_ : List Loc), WD D A_ s_.heap ([wX cy x ln tok st en va xb]) H_ lo_ → lv_has ls_ 3 [(2, .int (zi (xb i))), (0, .ref (x 0)), (1, .int (zi i))] → W p_ l_ e_ rX6_kindAt s_ m_ ar_ be_ me_ c_ H_ lo_ 0 0 Q_ (F0 m_ 49 ls_ []) := by
          intro g49 ls_ H_ lo_ W_ hl
          refine lv_iload_n F_.1 F_.2.1 dX6_kindAt_49 rfl (lv_at hl 0 rfl) ?_
          refine z_bipush F_ (by decide) dX6_kindAt_50 ?_
          refine z_icmp_ne (tgt := 57) F_ (by omega) dX6_kindAt_52 (by decide) (fun c52 => ?_) (fun c52 => ?_)
          · refine lv_iload_n F_.1 F_.2.1 dX6_kindAt_57 rfl (lv_at hl 0 rfl) ?_
            refine z_bipush F_ (by decide) dX6_kindAt_58 ?_
            refine z_icmp_ne (tgt := 67) F_ (by omega) dX6_kindAt_60 (by decide) (fun c60 => ?_) (fun c60 => ?_)
            · refine z_iconst F_ dX6_kindAt_67 ?_
              exact hret _ _ _ _ 5 () dX6_kindAt_68 (by unfold knZ; rw [if_pos ⟨by omega, by omega⟩]; omega) W_
            · refine z_iconst F_ dX6_kindAt_63 ?_
              refine z_goto (tgt := 68) F_ dX6_kindAt_64 (by decide) ?_
              exact hret _ _ _ _ 4 () dX6_kindAt_68 (by unfold knZ; rw [if_pos ⟨by omega, by omega⟩]; omega) W_
          · refine z_iconst F_ dX6_kindAt_55 ?_
            exact hret _ _ _ _ 3 () dX6_kindAt_56 (by unfold knZ; rw [if_pos ⟨by omega, by omega⟩]; omega) W_
        refine z_icmp_lt (tgt := 49) F_ (by omega) dX6_kindAt_38 (by decide) (fun c38 => ?_) (fun c38 => ?_)
        · exact J49 (by first | omega | grind) ls_ H_ lo_ W_ (lv_sub hl [0, 1, 2] rfl)
        · refine lv_iload_n F_.1 F_.2.1 dX6_kindAt_41 rfl (lv_at hl 0 rfl) ?_
          refine z_bipush F_ (by decide) dX6_kindAt_42 ?_
          refine z_icmp_gt (tgt := 49) F_ (by omega) dX6_kindAt_44 (by decide) (fun c44 => ?_) (fun c44 => ?_)
          · exact J49 (by first | omega | grind) ls_ H_ lo_ W_ (lv_sub hl [0, 1, 2] rfl)
          · refine z_iconst F_ dX6_kindAt_47 ?_
            exact hret _ _ _ _ 2 () dX6_kindAt_48 (by unfold knZ; rw [if_pos ⟨by omega, by omega⟩]; omega) W_
      refine z_icmp_lt (tgt := 35) F_ (by omega) dX6_kindAt_24 (by decide) (fun c24 => ?_) (fun c24 => ?_)
      · exact J35 (by first | omega | grind) ls_ H_ lo_ W_ (lv_sub hl [0, 1, 2] rfl)
      · refine lv_iload_n F_.1 F_.2.1 dX6_kindAt_27 rfl (lv_at hl 0 rfl) ?_
        refine z_bipush F_ (by decide) dX6_kindAt_28 ?_
        refine z_icmp_gt (tgt := 35) F_ (by omega) dX6_kindAt_30 (by decide) (fun c30 => ?_) (fun c30 => ?_)
        · exact J35 (by first | omega | grind) ls_ H_ lo_ W_ (lv_sub hl [0, 1, 2] rfl)
        · refine z_iconst F_ dX6_kindAt_33 ?_
          exact hret _ _ _ _ 1 () dX6_kindAt_34 (by unfold knZ; rw [if_pos ⟨by omega, by omega⟩]; omega) W_
    · refine z_iconst F_ dX6_kindAt_12 ?_
      exact hret _ _ _ _ 0 () dX6_kindAt_13 (by unfold knZ; rw [if_neg (by omega)]) W_
abbrev rX6_weighFigures : Room := { frames := 0, cells := 0, slots := 0, locals := 0 }
set_option maxHeartbeats 1000000 in
set_option maxRecDepth 100000 in
theorem c_X6_weighFigures (l_ : Launch) (D : va_G) (cy : Nat → ClassId) (x : Nat → Nat) (ln : Int) (tok : Int) (st : Int) (en : Int) (va : Int) (xb : Int → Int) (bxb : ∀ j : Int, 0 ≤ xb j ∧ xb j ≤ 127) (hln : 0 ≤ ln ∧ ln ≤ 150) (htk : tok = 2) (hst : 0 ≤ st ∧ st < en ∧ en ≤ ln) (hdg : ∀ j, st ≤ j → j < en → 48 ≤ xb j ∧ xb j ≤ 57) : CTv l_ D cy yX6_weighFigures wsX6_weighFigures rX6_weighFigures [.ref (x 0)] ([wX cy x ln tok st en va xb]) (fun (u : (Int) × (Int)) => ((2 < en - st ∧ u.1 = 5) ∨ (¬ 2 < en - st ∧ u.1 = 2)) ∧ (en - st ≤ 2 → u.2 = valZ xb st en) ∧ (0 ≤ u.2 ∧ u.2 ≤ 99)) (fun (u : (Int) × (Int)) => [wX cy x ln u.1 st en u.2 xb]) := by
  refine CTv.of RX6 cX6_weighFigures 2 rfl (by decide) rfl (Nat.le_of_ble_eq_true rfl) ?_
  intro p_ e_ s_ m_ ar_ be_ me_ c_ Q_ A_ ls_ F_ K_ W_ hl hret
  have hl : lv_has ls_ 2 [(0, .ref (x 0))] := hl
  obtain ⟨H_, hH_⟩ : ∃ x, x = s_.heap := ⟨_, rfl⟩
  obtain ⟨lo_, hlo_⟩ : ∃ x : List Loc, x = [] := ⟨_, rfl⟩
  have W_ : WD D A_ s_.heap ([wX cy x ln tok st en va xb]) H_ lo_ := by rw [hH_, hlo_]; exact W_
  rw [← hlo_]
  suffices hg_ : W p_ l_ e_ rX6_weighFigures s_ m_ ar_ be_ me_ c_ H_ lo_ 0 0 Q_ (F0 m_ 0 ls_ []) by rw [hH_] at hg_; exact hg_
  clear hH_ hlo_
  have hinX6 : ∀ w ∈ u_ws RX6 TX6 6, w ∈ wsX6_weighFigures := fun w h => List.mem_cons_of_mem _ (List.mem_append_right _ h)
  refine lv_aload_n F_.1 F_.2.1 dX6_weighFigures_0 rfl (lv_at hl 0 rfl) ?_
  refine z_iconst F_ dX6_weighFigures_1 ?_
  refine z_put (sg' := [wX cy x ln tok st en 0 xb]) F_ K_ W_ 0 0 5 rfl rfl rfl (C := RX6) (T := TX6) (N := 6) rfl ⟨Nat.le_of_ble_eq_true rfl, Nat.le_of_ble_eq_true rfl⟩ tyX6 tyX6_ok nmX6 rfl rfl rfl hinX6 (List.mem_of_getElem? (i := 1) rfl) dX6_weighFigures_2 (fun H_ lo_ W_ => ?_)
  refine lv_aload_n F_.1 F_.2.1 dX6_weighFigures_5 rfl (lv_at hl 0 rfl) ?_
  refine z_get F_ K_ W_ 0 0 3 rfl rfl rfl (C := RX6) (T := TX6) (N := 6) rfl (by decide) hinX6 (List.mem_of_getElem? (i := 2) rfl) dX6_weighFigures_6 ?_
  refine lv_istore_n (lv' := [(1, .int (zi st)), (0, .ref (x 0))]) F_.1 F_.2.1 dX6_weighFigures_9 rfl hl (by decide) rfl (fun ls_ hl => ?_)
  have L10 : ∀ (n_ : Nat) (i : Int) (v1 : Int) (hi : st ≤ i ∧ i ≤ st + 2 ∧ i ≤ en) (hv1 : (i = st ∧ v1 = 0) ∨ (i = st + 1 ∧ v1 = xb st - 48) ∨ (i = st + 2 ∧ v1 = 10 * (xb st - 48) + xb (st + 1) - 48)) (hvb : 0 ≤ v1 ∧ v1 ≤ 99) (hm_ : (en - i : Int) < (n_ : Int)) (ls_ : Array Slot) (H_ : Heap) (lo_ : List Loc), WD D A_ s_.heap ([wX cy x ln tok st en v1 xb]) H_ lo_ → lv_has ls_ 2 [(1, .int (zi i)), (0, .ref (x 0))] → W p_ l_ e_ rX6_weighFigures s_ m_ ar_ be_ me_ c_ H_ lo_ 0 0 Q_ (F0 m_ 10 ls_ []) := by
    intro n_
    induction n_ with
    | zero =>
      intro i v1 hi hv1 hvb hm_ ls_ H_ lo_ _ _
      exact absurd hm_ (by omega)
    | succ n_ ih_ =>
      intro i v1 hi hv1 hvb hm_ ls_ H_ lo_ W_ hl
      have ih10 := ih_
      refine lv_iload_n F_.1 F_.2.1 dX6_weighFigures_10 rfl (lv_at hl 0 rfl) ?_
      refine lv_aload_n F_.1 F_.2.1 dX6_weighFigures_11 rfl (lv_at hl 1 rfl) ?_
      refine z_get F_ K_ W_ 0 0 3 rfl rfl rfl (C := RX6) (T := TX6) (N := 6) rfl (by decide) hinX6 (List.mem_of_getElem? (i := 2) rfl) dX6_weighFigures_12 ?_
      refine z_iconst F_ dX6_weighFigures_15 ?_
      refine z_iadd F_ dX6_weighFigures_16 ?_
      have J55 : ∀ (g55 : ((st + 2 ≤ i)) ∨ ((i < st + 2) ∧ (en ≤ i))) (ls_ : Array Slot) (H_ : Heap) (lo_ : List Loc), WD D A_ s_.heap ([wX cy x ln tok st en v1 xb]) H_ lo_ → lv_has ls_ 2 [(1, .int (zi i)), (0, .ref (x 0))] → W p_ l_ e_ rX6_weighFigures s_ m_ ar_ be_ me_ c_ H_ lo_ 0 0 Q_ (F0 m_ 55 ls_ []) := by
        intro g55 ls_ H_ lo_ W_ hl
        refine lv_aload_n F_.1 F_.2.1 dX6_weighFigures_55 rfl (lv_at hl 1 rfl) ?_
        refine z_get F_ K_ W_ 0 0 4 rfl rfl rfl (C := RX6) (T := TX6) (N := 6) rfl (by decide) hinX6 (List.mem_of_getElem? (i := 3) rfl) dX6_weighFigures_56 ?_
        refine lv_aload_n F_.1 F_.2.1 dX6_weighFigures_59 rfl (lv_at hl 1 rfl) ?_
        refine z_get F_ K_ W_ 0 0 3 rfl rfl rfl (C := RX6) (T := TX6) (N := 6) rfl (by decide) hinX6 (List.mem_of_getElem? (i := 2) rfl) dX6_weighFigures_60 ?_
        refine z_isub F_ dX6_weighFigures_63 ?_
        refine z_iconst F_ dX6_weighFigures_64 ?_
        refine z_icmp_le (tgt := 73) F_ (by omega) dX6_weighFigures_65 (by decide) (fun c65 => ?_) (fun c65 => ?_)
        · exact hret _ _ _ _ (tok, v1) dX6_weighFigures_73 ⟨(by first | exact Or.inr ⟨by omega, by omega⟩ | exact Or.inl ⟨by omega, rfl⟩), (by intro q2; show v1 = valZ xb st en; replace q2 : en - st ≤ 2 := q2; unfold valZ; split <;> omega), (by exact hvb)⟩ W_
        · refine lv_aload_n F_.1 F_.2.1 dX6_weighFigures_68 rfl (lv_at hl 1 rfl) ?_
          refine z_iconst F_ dX6_weighFigures_69 ?_
          refine z_put (sg' := [wX cy x ln 5 st en v1 xb]) F_ K_ W_ 0 0 2 rfl rfl rfl (C := RX6) (T := TX6) (N := 6) rfl ⟨Nat.le_of_ble_eq_true rfl, Nat.le_of_ble_eq_true rfl⟩ tyX6 tyX6_ok nmX6 rfl rfl rfl hinX6 (List.mem_of_getElem? (i := 5) rfl) dX6_weighFigures_70 (fun H_ lo_ W_ => ?_)
          exact hret _ _ _ _ (5, v1) dX6_weighFigures_73 ⟨(by first | exact Or.inr ⟨by omega, by omega⟩ | exact Or.inl ⟨by omega, rfl⟩), (by intro q2; show v1 = valZ xb st en; replace q2 : en - st ≤ 2 := q2; unfold valZ; split <;> omega), (by exact hvb)⟩ W_
      refine z_icmp_ge (tgt := 55) F_ (by omega) dX6_weighFigures_17 (by decide) (fun c17 => ?_) (fun c17 => ?_)
      · exact J55 (by first | omega | grind) ls_ H_ lo_ W_ (lv_sub hl [0, 1] rfl)
      · refine lv_iload_n F_.1 F_.2.1 dX6_weighFigures_20 rfl (lv_at hl 0 rfl) ?_
        refine lv_aload_n F_.1 F_.2.1 dX6_weighFigures_21 rfl (lv_at hl 1 rfl) ?_
        refine z_get F_ K_ W_ 0 0 4 rfl rfl rfl (C := RX6) (T := TX6) (N := 6) rfl (by decide) hinX6 (List.mem_of_getElem? (i := 3) rfl) dX6_weighFigures_22 ?_
        refine z_icmp_ge (tgt := 55) F_ (by omega) dX6_weighFigures_25 (by decide) (fun c25 => ?_) (fun c25 => ?_)
        · exact J55 (by first | omega | grind) ls_ H_ lo_ W_ (lv_sub hl [0, 1] rfl)
        · have hdi : 48 ≤ xb i ∧ xb i ≤ 57 := hdg i (by omega) (by omega)
          have hd0 : 48 ≤ xb st ∧ xb st ≤ 57 := hdg st (by omega) (by omega)
          refine lv_aload_n F_.1 F_.2.1 dX6_weighFigures_28 rfl (lv_at hl 1 rfl) ?_
          refine z_bipush F_ (by decide) dX6_weighFigures_29 ?_
          refine lv_aload_n F_.1 F_.2.1 dX6_weighFigures_31 rfl (lv_at hl 1 rfl) ?_
          refine z_get F_ K_ W_ 0 0 5 rfl rfl rfl (C := RX6) (T := TX6) (N := 6) rfl (by decide) hinX6 (List.mem_of_getElem? (i := 1) rfl) dX6_weighFigures_32 ?_
          refine z_imul F_ dX6_weighFigures_35 ?_
          refine lv_aload_n F_.1 F_.2.1 dX6_weighFigures_36 rfl (lv_at hl 1 rfl) ?_
          refine z_get F_ K_ W_ 0 0 0 rfl rfl rfl (C := RX6) (T := TX6) (N := 6) rfl (by decide) hinX6 (List.mem_of_getElem? (i := 4) rfl) dX6_weighFigures_37 ?_
          refine lv_iload_n F_.1 F_.2.1 dX6_weighFigures_40 rfl (lv_at hl 0 rfl) ?_
          refine z_bald F_ K_ W_ 0 1 rfl rfl (by omega) (by decide) dX6_weighFigures_41 ?_
          have b_1 := bxb i
          refine z_iadd F_ dX6_weighFigures_42 ?_
          refine z_bipush F_ (by decide) dX6_weighFigures_43 ?_
          refine z_isub F_ dX6_weighFigures_45 ?_
          refine z_put (sg' := [wX cy x ln tok st en (((10 * v1) + (xb i)) - 48) xb]) F_ K_ W_ 0 0 5 rfl rfl rfl (C := RX6) (T := TX6) (N := 6) rfl ⟨Nat.le_of_ble_eq_true rfl, Nat.le_of_ble_eq_true rfl⟩ tyX6 tyX6_ok nmX6 rfl rfl rfl hinX6 (List.mem_of_getElem? (i := 1) rfl) dX6_weighFigures_46 (fun H_ lo_ W_ => ?_)
          refine z_iinc (lv' := [(1, .int (zi (i + 1))), (0, .ref (x 0))]) F_ dX6_weighFigures_49 hl (k := 0) rfl (by decide) rfl (fun ls_ hl => ?_)
          refine z_goto (tgt := 10) F_ dX6_weighFigures_52 (by decide) ?_
          exact ih10 (i + 1) (((10 * v1) + (xb i)) - 48) (by first | omega | assumption) (by rcases hv1 with q | q | q; (refine Or.inr (Or.inl ⟨by omega, ?_⟩); rw [q.1, q.2]; first | done | omega); (refine Or.inr (Or.inr ⟨by omega, ?_⟩); rw [q.1, q.2]; first | done | omega); all_goals omega) (by rcases hv1 with q | q | q; (have e0 : i = st := q.1); (rw [e0] at hdi; rw [e0]; omega); omega; omega) (by omega) ls_ H_ lo_ W_ (lv_sub hl [0, 1] rfl)
  exact L10 ((en - st : Int).toNat + 1) st 0 (by first | omega | assumption) (by first | omega | assumption) (by first | omega | assumption) (by have := Int.self_le_toNat (en - st : Int); omega) ls_ H_ lo_ W_ (lv_sub hl [0, 1] rfl)
abbrev rX6_nextToken : Room := { frames := 1, cells := 0, slots := 0, locals := 22 }
set_option maxHeartbeats 1000000 in
set_option maxRecDepth 100000 in
theorem c_X6_nextToken (l_ : Launch) (D : va_G) (cy : Nat → ClassId) (x : Nat → Nat) (ln : Int) (tok : Int) (st : Int) (en : Int) (va : Int) (xb : Int → Int) (bxb : ∀ j : Int, 0 ≤ xb j ∧ xb j ≤ 127) (hln : 0 ≤ ln ∧ ln ≤ 150) (hen : 0 ≤ en ∧ en ≤ ln) : CTv l_ D cy yX6_nextToken wsX6_nextToken rX6_nextToken [.ref (x 0)] ([wX cy x ln tok st en va xb]) (fun (u : (Int) × (Int) × (Int) × (Int)) => (TokR xb ln en u.2.2.1 u.1 u.2.1 u.2.2.2) ∧ ((u.2.2.1 = 2 → 0 ≤ u.2.2.2 ∧ u.2.2.2 ≤ 99) ∧ 0 ≤ u.2.2.1 ∧ u.2.2.1 ≤ 5 ∧ en ≤ u.1 ∧ u.1 ≤ u.2.1 ∧ u.2.1 ≤ ln)) (fun (u : (Int) × (Int) × (Int) × (Int)) => [wX cy x ln u.2.2.1 u.1 u.2.1 u.2.2.2 xb]) := by
  refine CTv.of RX6 cX6_nextToken 2 rfl (by decide) rfl (Nat.le_of_ble_eq_true rfl) ?_
  intro p_ e_ s_ m_ ar_ be_ me_ c_ Q_ A_ ls_ F_ K_ W_ hl hret
  have hl : lv_has ls_ 2 [(0, .ref (x 0))] := hl
  obtain ⟨H_, hH_⟩ : ∃ x, x = s_.heap := ⟨_, rfl⟩
  obtain ⟨lo_, hlo_⟩ : ∃ x : List Loc, x = [] := ⟨_, rfl⟩
  have W_ : WD D A_ s_.heap ([wX cy x ln tok st en va xb]) H_ lo_ := by rw [hH_, hlo_]; exact W_
  rw [← hlo_]
  suffices hg_ : W p_ l_ e_ rX6_nextToken s_ m_ ar_ be_ me_ c_ H_ lo_ 0 0 Q_ (F0 m_ 0 ls_ []) by rw [hH_] at hg_; exact hg_
  clear hH_ hlo_
  have hinX6 : ∀ w ∈ u_ws RX6 TX6 6, w ∈ wsX6_nextToken := fun w h => List.mem_cons_of_mem _ (List.mem_append_right _ h)
  refine lv_aload_n F_.1 F_.2.1 dX6_nextToken_0 rfl (lv_at hl 0 rfl) ?_
  refine lv_aload_n F_.1 F_.2.1 dX6_nextToken_1 rfl (lv_at hl 0 rfl) ?_
  refine z_get F_ K_ W_ 0 0 4 rfl rfl rfl (C := RX6) (T := TX6) (N := 6) rfl (by decide) hinX6 (List.mem_of_getElem? (i := 1) rfl) dX6_nextToken_2 ?_
  refine z_put (sg' := [wX cy x ln tok en en va xb]) F_ K_ W_ 0 0 3 rfl rfl rfl (C := RX6) (T := TX6) (N := 6) rfl ⟨Nat.le_of_ble_eq_true rfl, Nat.le_of_ble_eq_true rfl⟩ tyX6 tyX6_ok nmX6 rfl rfl rfl hinX6 (List.mem_of_getElem? (i := 2) rfl) dX6_nextToken_5 (fun H_ lo_ W_ => ?_)
  have L8 : ∀ (n_ : Nat) (a : Int) (ha : en ≤ a ∧ a ≤ ln) (hsp : ∀ j, en ≤ j → j < a → xb j = 32) (hm_ : (ln - a : Int) < (n_ : Int)) (ls_ : Array Slot) (H_ : Heap) (lo_ : List Loc), WD D A_ s_.heap ([wX cy x ln tok a en va xb]) H_ lo_ → lv_has ls_ 2 [(0, .ref (x 0))] → W p_ l_ e_ rX6_nextToken s_ m_ ar_ be_ me_ c_ H_ lo_ 0 0 Q_ (F0 m_ 8 ls_ []) := by
    intro n_
    induction n_ with
    | zero =>
      intro a ha hsp hm_ ls_ H_ lo_ _ _
      exact absurd hm_ (by omega)
    | succ n_ ih_ =>
      intro a ha hsp hm_ ls_ H_ lo_ W_ hl
      have ih8 := ih_
      refine lv_aload_n F_.1 F_.2.1 dX6_nextToken_8 rfl (lv_at hl 0 rfl) ?_
      refine z_get F_ K_ W_ 0 0 3 rfl rfl rfl (C := RX6) (T := TX6) (N := 6) rfl (by decide) hinX6 (List.mem_of_getElem? (i := 2) rfl) dX6_nextToken_9 ?_
      refine lv_aload_n F_.1 F_.2.1 dX6_nextToken_12 rfl (lv_at hl 0 rfl) ?_
      refine z_get F_ K_ W_ 0 0 1 rfl rfl rfl (C := RX6) (T := TX6) (N := 6) rfl (by decide) hinX6 (List.mem_of_getElem? (i := 3) rfl) dX6_nextToken_13 ?_
      have J44 : ∀ (hend : (ln ≤ a) ∨ (a < ln ∧ ¬ ckZ (xb a) = 4)) (ls_ : Array Slot) (H_ : Heap) (lo_ : List Loc), WD D A_ s_.heap ([wX cy x ln tok a en va xb]) H_ lo_ → lv_has ls_ 2 [(0, .ref (x 0))] → W p_ l_ e_ rX6_nextToken s_ m_ ar_ be_ me_ c_ H_ lo_ 0 0 Q_ (F0 m_ 44 ls_ []) := by
        intro hend ls_ H_ lo_ W_ hl
        refine lv_aload_n F_.1 F_.2.1 dX6_nextToken_44 rfl (lv_at hl 0 rfl) ?_
        refine lv_aload_n F_.1 F_.2.1 dX6_nextToken_45 rfl (lv_at hl 0 rfl) ?_
        refine lv_aload_n F_.1 F_.2.1 dX6_nextToken_46 rfl (lv_at hl 0 rfl) ?_
        refine z_get F_ K_ W_ 0 0 3 rfl rfl rfl (C := RX6) (T := TX6) (N := 6) rfl (by decide) hinX6 (List.mem_of_getElem? (i := 2) rfl) dX6_nextToken_47 ?_
        refine z_callVip F_ K_ W_ [.int (zi a)] (c_X6_kindAt l_ D cy x ln tok a en va xb a bxb (by first | omega | assumption) (by first | omega | assumption)) 1 rfl gX6_nextToken_X6_kindAt rfl (by decide +kernel) ⟨⟨Nat.le_of_ble_eq_true rfl, Nat.le_of_ble_eq_true rfl⟩, rfl, rfl, Nat.zero_le _, Nat.zero_le _⟩ 0 0 5 rfl rfl rfl rfl hl.1 rfl (Nat.le_of_ble_eq_true rfl) [0] ([] : List Nat) ([] : List va_W) 1 (by decide +kernel) rfl rfl rfl dX6_nextToken_50 (fun z_1 _ H_ lo_ hw_ W_ => ?_)
        replace hw_ : (z_1 = knZ xb ln a) := hw_
        have f50_v := hw_
        clear hw_
        have hk50 : (ln ≤ a ∧ z_1 = 0) ∨ (a < ln ∧ z_1 = ckZ (xb a) ∧ ¬ z_1 = 4 ∧ 1 ≤ z_1 ∧ z_1 ≤ 5) := by
          have w1 := (ck_f (xb a)).1
          rw [f50_v, knZ]
          rcases hend with q | q
          · exact Or.inl ⟨q, if_neg (by omega)⟩
          · rw [if_pos ⟨by omega, q.1⟩]; exact Or.inr ⟨q.1, rfl, q.2, w1⟩
        clear f50_v
        refine z_put (sg' := [wX cy x ln z_1 a en va xb]) F_ K_ W_ 0 0 2 rfl rfl rfl (C := RX6) (T := TX6) (N := 6) rfl ⟨Nat.le_of_ble_eq_true rfl, Nat.le_of_ble_eq_true rfl⟩ tyX6 tyX6_ok nmX6 rfl rfl rfl hinX6 (List.mem_of_getElem? (i := 4) rfl) dX6_nextToken_53 (fun H_ lo_ W_ => ?_)
        refine lv_aload_n F_.1 F_.2.1 dX6_nextToken_56 rfl (lv_at hl 0 rfl) ?_
        refine lv_aload_n F_.1 F_.2.1 dX6_nextToken_57 rfl (lv_at hl 0 rfl) ?_
        refine z_get F_ K_ W_ 0 0 2 rfl rfl rfl (C := RX6) (T := TX6) (N := 6) rfl (by decide) hinX6 (List.mem_of_getElem? (i := 4) rfl) dX6_nextToken_58 ?_
        refine z_iconst F_ dX6_nextToken_61 ?_
        have J86 : ∀ (k86_0 : Int) (g86 : ((z_1 = 3) ∧ (k86_0 = a + 1)) ∨ ((¬ z_1 = 3) ∧ (¬ z_1 = 5) ∧ (k86_0 = a)) ∨ ((¬ z_1 = 3) ∧ (z_1 = 5) ∧ (k86_0 = a + 1))) (ls_ : Array Slot) (H_ : Heap) (lo_ : List Loc), WD D A_ s_.heap ([wX cy x ln z_1 a en va xb]) H_ lo_ → lv_has ls_ 2 [(0, .ref (x 0))] → W p_ l_ e_ rX6_nextToken s_ m_ ar_ be_ me_ c_ H_ lo_ 0 0 Q_ (F0 m_ 86 ls_ [.int (zi k86_0), .ref (x 0)]) := by
          intro k86_0 g86 ls_ H_ lo_ W_ hl
          refine z_put (sg' := [wX cy x ln z_1 a k86_0 va xb]) F_ K_ W_ 0 0 4 rfl rfl rfl (C := RX6) (T := TX6) (N := 6) rfl ⟨Nat.le_of_ble_eq_true rfl, Nat.le_of_ble_eq_true rfl⟩ tyX6 tyX6_ok nmX6 rfl rfl rfl hinX6 (List.mem_of_getElem? (i := 1) rfl) dX6_nextToken_86 (fun H_ lo_ W_ => ?_)
          refine lv_aload_n F_.1 F_.2.1 dX6_nextToken_89 rfl (lv_at hl 0 rfl) ?_
          refine z_get F_ K_ W_ 0 0 2 rfl rfl rfl (C := RX6) (T := TX6) (N := 6) rfl (by decide) hinX6 (List.mem_of_getElem? (i := 4) rfl) dX6_nextToken_90 ?_
          refine z_iconst F_ dX6_nextToken_93 ?_
          have J110 : ∀ (k110_0 : Int) (g110 : (k110_0 = 1 ∧ (z_1 = 1 ∨ z_1 = 2)) ∨ (k110_0 = 0 ∧ ¬ z_1 = 1 ∧ ¬ z_1 = 2)) (ls_ : Array Slot) (H_ : Heap) (lo_ : List Loc), WD D A_ s_.heap ([wX cy x ln z_1 a k86_0 va xb]) H_ lo_ → lv_has ls_ 2 [(0, .ref (x 0))] → W p_ l_ e_ rX6_nextToken s_ m_ ar_ be_ me_ c_ H_ lo_ 0 0 Q_ (F0 m_ 110 ls_ [.int (zi k110_0)]) := by
            intro k110_0 g110 ls_ H_ lo_ W_ hl
            refine lv_istore_n (lv' := [(1, .int (zi k110_0)), (0, .ref (x 0))]) F_.1 F_.2.1 dX6_nextToken_110 rfl hl (by decide) rfl (fun ls_ hl => ?_)
            have L111 : ∀ (n_ : Nat) (e : Int) (he : a ≤ e ∧ e ≤ ln) (hgo : (k110_0 = 1 ∧ (z_1 = 1 ∨ z_1 = 2)) ∨ (k110_0 = 0 ∧ ((z_1 = 0 ∧ e = a) ∨ ((z_1 = 3 ∨ z_1 = 5) ∧ e = a + 1)))) (hrun : k110_0 = 1 → ∀ j, a ≤ j → j < e → ckZ (xb j) = z_1) (hm_ : (ln - e : Int) < (n_ : Int)) (ls_ : Array Slot) (H_ : Heap) (lo_ : List Loc), WD D A_ s_.heap ([wX cy x ln z_1 a e va xb]) H_ lo_ → lv_has ls_ 2 [(1, .int (zi k110_0)), (0, .ref (x 0))] → W p_ l_ e_ rX6_nextToken s_ m_ ar_ be_ me_ c_ H_ lo_ 0 0 Q_ (F0 m_ 111 ls_ []) := by
              intro n_
              induction n_ with
              | zero =>
                intro e he hgo hrun hm_ ls_ H_ lo_ _ _
                exact absurd hm_ (by omega)
              | succ n_ ih_ =>
                intro e he hgo hrun hm_ ls_ H_ lo_ W_ hl
                have ih111 := ih_
                refine lv_iload_n F_.1 F_.2.1 dX6_nextToken_111 rfl (lv_at hl 0 rfl) ?_
                have J154 : ∀ (hrr : (k110_0 = 1 ∧ (z_1 = 1 ∨ z_1 = 2) ∧ (∀ j, a ≤ j → j < e → ckZ (xb j) = z_1) ∧ RunR xb ln a e) ∨ (k110_0 = 0 ∧ ((z_1 = 0 ∧ e = a) ∨ ((z_1 = 3 ∨ z_1 = 5) ∧ e = a + 1)))) (ls_ : Array Slot) (H_ : Heap) (lo_ : List Loc), WD D A_ s_.heap ([wX cy x ln z_1 a e va xb]) H_ lo_ → lv_has ls_ 2 [(1, .int (zi k110_0)), (0, .ref (x 0))] → W p_ l_ e_ rX6_nextToken s_ m_ ar_ be_ me_ c_ H_ lo_ 0 0 Q_ (F0 m_ 154 ls_ []) := by
                  intro hrr ls_ H_ lo_ W_ hl
                  refine lv_aload_n F_.1 F_.2.1 dX6_nextToken_154 rfl (lv_at hl 1 rfl) ?_
                  refine z_get F_ K_ W_ 0 0 2 rfl rfl rfl (C := RX6) (T := TX6) (N := 6) rfl (by decide) hinX6 (List.mem_of_getElem? (i := 4) rfl) dX6_nextToken_155 ?_
                  refine z_iconst F_ dX6_nextToken_158 ?_
                  refine z_icmp_ne (tgt := 166) F_ (by omega) dX6_nextToken_159 (by decide) (fun c159 => ?_) (fun c159 => ?_)
                  · exact hret _ _ _ _ (a, e, z_1, va) dX6_nextToken_166 ⟨(by first | exact TokR_x ha hsp hk50 (nx_f hrr hk50 (by omega)) | exact TokR_x ha hsp hk50 (nx_g hrr (by omega) f163_t f163_v)), (by first | (show (z_1 = 2 → 0 ≤ va ∧ va ≤ 99) ∧ 0 ≤ z_1 ∧ z_1 ≤ 5 ∧ en ≤ a ∧ a ≤ e ∧ e ≤ ln; exact ⟨fun q => by omega, by omega, by omega, by omega, by omega, by omega⟩) | (show (tok2_N = 2 → 0 ≤ va2_N ∧ va2_N ≤ 99) ∧ 0 ≤ tok2_N ∧ tok2_N ≤ 5 ∧ en ≤ a ∧ a ≤ e ∧ e ≤ ln; exact ⟨fun q => f163_b, by omega, by omega, by omega, by omega, by omega⟩))⟩ W_
                  · refine lv_aload_n F_.1 F_.2.1 dX6_nextToken_162 rfl (lv_at hl 1 rfl) ?_
                    refine z_callVv F_ K_ W_ [] (c_X6_weighFigures l_ D cy x ln z_1 a e va xb bxb (by first | omega | assumption) (by first | omega | assumption) (by have hq := nx_d1 hrr (by omega); omega) (by exact nx_d2 hrr (by omega))) 0 rfl gX6_nextToken_X6_weighFigures rfl (by decide +kernel) ⟨⟨Nat.le_of_ble_eq_true rfl, Nat.le_of_ble_eq_true rfl⟩, rfl, rfl, Nat.zero_le _, Nat.zero_le _⟩ 0 0 5 rfl rfl rfl rfl hl.1 rfl (Nat.le_of_ble_eq_true rfl) [0] ([] : List Nat) ([] : List va_W) (fun (u_ : (Int) × (Int)) => [wX cy x ln u_.1 a e u_.2 xb]) 1 (by decide +kernel) rfl rfl rfl (fun _ => rfl) (fun _ => rfl) (fun _ => rfl) dX6_nextToken_163 (fun u_ H_ lo_ hw_ W_ => ?_)
                    obtain ⟨tok2_3, va2_4⟩ := u_
                    have W_ : WD D A_ s_.heap ([wX cy x ln tok2_3 a e va2_4 xb]) H_ lo_ := W_
                    replace hw_ : ((2 < e - a ∧ tok2_3 = 5) ∨ (¬ 2 < e - a ∧ tok2_3 = 2)) ∧ (e - a ≤ 2 → va2_4 = valZ xb a e) ∧ (0 ≤ va2_4 ∧ va2_4 ≤ 99) := hw_
                    obtain ⟨f163_t, f163_v, f163_b⟩ := hw_
                    exact hret _ _ _ _ (a, e, tok2_3, va2_4) dX6_nextToken_166 ⟨(by first | exact TokR_x ha hsp hk50 (nx_f hrr hk50 (by omega)) | exact TokR_x ha hsp hk50 (nx_g hrr (by omega) f163_t f163_v)), (by first | (show (z_1 = 2 → 0 ≤ va ∧ va ≤ 99) ∧ 0 ≤ z_1 ∧ z_1 ≤ 5 ∧ en ≤ a ∧ a ≤ e ∧ e ≤ ln; exact ⟨fun q => by omega, by omega, by omega, by omega, by omega, by omega⟩) | (show (tok2_3 = 2 → 0 ≤ va2_4 ∧ va2_4 ≤ 99) ∧ 0 ≤ tok2_3 ∧ tok2_3 ≤ 5 ∧ en ≤ a ∧ a ≤ e ∧ e ≤ ln; exact ⟨fun q => f163_b, by omega, by omega, by omega, by omega, by omega⟩))⟩ W_
                refine z_if_eq (tgt := 154) F_ (by omega) dX6_nextToken_112 (by decide) (fun c112 => ?_) (fun c112 => ?_)
                · exact J154 (by first | exact Or.inr (hgo.resolve_left (fun q => by omega)) | exact nx_rr ha hk50 he hgo hrun (by omega) (Or.inl (by omega)) | exact nx_rr ha hk50 he hgo hrun (by omega) (Or.inr ⟨by omega, by rw [← hk131]; assumption⟩)) ls_ H_ lo_ W_ (lv_sub hl [0, 1] rfl)
                · refine lv_aload_n F_.1 F_.2.1 dX6_nextToken_115 rfl (lv_at hl 1 rfl) ?_
                  refine z_get F_ K_ W_ 0 0 4 rfl rfl rfl (C := RX6) (T := TX6) (N := 6) rfl (by decide) hinX6 (List.mem_of_getElem? (i := 1) rfl) dX6_nextToken_116 ?_
                  refine lv_aload_n F_.1 F_.2.1 dX6_nextToken_119 rfl (lv_at hl 1 rfl) ?_
                  refine z_get F_ K_ W_ 0 0 1 rfl rfl rfl (C := RX6) (T := TX6) (N := 6) rfl (by decide) hinX6 (List.mem_of_getElem? (i := 3) rfl) dX6_nextToken_120 ?_
                  refine z_icmp_ge (tgt := 154) F_ (by omega) dX6_nextToken_123 (by decide) (fun c123 => ?_) (fun c123 => ?_)
                  · exact J154 (by first | exact Or.inr (hgo.resolve_left (fun q => by omega)) | exact nx_rr ha hk50 he hgo hrun (by omega) (Or.inl (by omega)) | exact nx_rr ha hk50 he hgo hrun (by omega) (Or.inr ⟨by omega, by rw [← hk131]; assumption⟩)) ls_ H_ lo_ W_ (lv_sub hl [0, 1] rfl)
                  · refine lv_aload_n F_.1 F_.2.1 dX6_nextToken_126 rfl (lv_at hl 1 rfl) ?_
                    refine lv_aload_n F_.1 F_.2.1 dX6_nextToken_127 rfl (lv_at hl 1 rfl) ?_
                    refine z_get F_ K_ W_ 0 0 4 rfl rfl rfl (C := RX6) (T := TX6) (N := 6) rfl (by decide) hinX6 (List.mem_of_getElem? (i := 1) rfl) dX6_nextToken_128 ?_
                    refine z_callVip F_ K_ W_ [.int (zi e)] (c_X6_kindAt l_ D cy x ln z_1 a e va xb e bxb (by first | omega | assumption) (by first | omega | assumption)) 1 rfl gX6_nextToken_X6_kindAt rfl (by decide +kernel) ⟨⟨Nat.le_of_ble_eq_true rfl, Nat.le_of_ble_eq_true rfl⟩, rfl, rfl, Nat.zero_le _, Nat.zero_le _⟩ 0 0 5 rfl rfl rfl rfl hl.1 rfl (Nat.le_of_ble_eq_true rfl) [0] ([] : List Nat) ([] : List va_W) 1 (by decide +kernel) rfl rfl rfl dX6_nextToken_131 (fun z_5 _ H_ lo_ hw_ W_ => ?_)
                    replace hw_ : (z_5 = knZ xb ln e) := hw_
                    have f131_v := hw_
                    clear hw_
                    have hk131 : z_5 = ckZ (xb e) := by rw [f131_v, knZ, if_pos ⟨by omega, by omega⟩]
                    have hk131b := (ck_f (xb e)).1
                    clear f131_v
                    refine lv_aload_n F_.1 F_.2.1 dX6_nextToken_134 rfl (lv_at hl 1 rfl) ?_
                    refine z_get F_ K_ W_ 0 0 2 rfl rfl rfl (C := RX6) (T := TX6) (N := 6) rfl (by decide) hinX6 (List.mem_of_getElem? (i := 4) rfl) dX6_nextToken_135 ?_
                    refine z_icmp_ne (tgt := 154) F_ (by omega) dX6_nextToken_138 (by decide) (fun c138 => ?_) (fun c138 => ?_)
                    · exact J154 (by first | exact Or.inr (hgo.resolve_left (fun q => by omega)) | exact nx_rr ha hk50 he hgo hrun (by omega) (Or.inl (by omega)) | exact nx_rr ha hk50 he hgo hrun (by omega) (Or.inr ⟨by omega, by rw [← hk131]; assumption⟩)) ls_ H_ lo_ W_ (lv_sub hl [0, 1] rfl)
                    · refine lv_aload_n F_.1 F_.2.1 dX6_nextToken_141 rfl (lv_at hl 1 rfl) ?_
                      refine lv_dup F_.1 F_.2.1 dX6_nextToken_142 rfl ?_
                      refine z_get F_ K_ W_ 0 0 4 rfl rfl rfl (C := RX6) (T := TX6) (N := 6) rfl (by decide) hinX6 (List.mem_of_getElem? (i := 1) rfl) dX6_nextToken_143 ?_
                      refine z_iconst F_ dX6_nextToken_146 ?_
                      refine z_iadd F_ dX6_nextToken_147 ?_
                      refine z_put (sg' := [wX cy x ln z_1 a (e + 1) va xb]) F_ K_ W_ 0 0 4 rfl rfl rfl (C := RX6) (T := TX6) (N := 6) rfl ⟨Nat.le_of_ble_eq_true rfl, Nat.le_of_ble_eq_true rfl⟩ tyX6 tyX6_ok nmX6 rfl rfl rfl hinX6 (List.mem_of_getElem? (i := 1) rfl) dX6_nextToken_148 (fun H_ lo_ W_ => ?_)
                      refine z_goto (tgt := 111) F_ dX6_nextToken_151 (by decide) ?_
                      exact ih111 (e + 1) (by first | omega | assumption) (by first | omega | assumption) (by intro q0 j q1 q2; rcases Int.lt_or_eq_of_le (show j ≤ e by omega) with q | q; exact hrun q0 j q1 q; (rw [q, ← hk131]; assumption)) (by omega) ls_ H_ lo_ W_ (lv_sub hl [0, 1] rfl)
            exact L111 ((ln - k86_0 : Int).toNat + 1) k86_0 (by first | omega | assumption) (by first | omega | assumption) (by intro q0 j q1 q2; omega) (by have := Int.self_le_toNat (ln - k86_0 : Int); omega) ls_ H_ lo_ W_ (lv_sub hl [0, 1] rfl)
          refine z_icmp_eq (tgt := 105) F_ (by omega) dX6_nextToken_94 (by decide) (fun c94 => ?_) (fun c94 => ?_)
          · refine z_iconst F_ dX6_nextToken_105 ?_
            refine z_goto (tgt := 110) F_ dX6_nextToken_106 (by decide) ?_
            exact J110 1 (by first | omega | assumption) ls_ H_ lo_ W_ (lv_sub hl [0] rfl)
          · refine lv_aload_n F_.1 F_.2.1 dX6_nextToken_97 rfl (lv_at hl 0 rfl) ?_
            refine z_get F_ K_ W_ 0 0 2 rfl rfl rfl (C := RX6) (T := TX6) (N := 6) rfl (by decide) hinX6 (List.mem_of_getElem? (i := 4) rfl) dX6_nextToken_98 ?_
            refine z_iconst F_ dX6_nextToken_101 ?_
            refine z_icmp_ne (tgt := 109) F_ (by omega) dX6_nextToken_102 (by decide) (fun c102 => ?_) (fun c102 => ?_)
            · refine z_iconst F_ dX6_nextToken_109 ?_
              exact J110 0 (by first | omega | assumption) ls_ H_ lo_ W_ (lv_sub hl [0] rfl)
            · refine z_iconst F_ dX6_nextToken_105 ?_
              refine z_goto (tgt := 110) F_ dX6_nextToken_106 (by decide) ?_
              exact J110 1 (by first | omega | assumption) ls_ H_ lo_ W_ (lv_sub hl [0] rfl)
        have J73 : ∀ (g73 : ((z_1 = 3)) ∨ ((¬ z_1 = 3) ∧ (z_1 = 5))) (ls_ : Array Slot) (H_ : Heap) (lo_ : List Loc), WD D A_ s_.heap ([wX cy x ln z_1 a en va xb]) H_ lo_ → lv_has ls_ 2 [(0, .ref (x 0))] → W p_ l_ e_ rX6_nextToken s_ m_ ar_ be_ me_ c_ H_ lo_ 0 0 Q_ (F0 m_ 73 ls_ [.ref (x 0)]) := by
          intro g73 ls_ H_ lo_ W_ hl
          refine lv_aload_n F_.1 F_.2.1 dX6_nextToken_73 rfl (lv_at hl 0 rfl) ?_
          refine z_get F_ K_ W_ 0 0 3 rfl rfl rfl (C := RX6) (T := TX6) (N := 6) rfl (by decide) hinX6 (List.mem_of_getElem? (i := 2) rfl) dX6_nextToken_74 ?_
          refine z_iconst F_ dX6_nextToken_77 ?_
          refine z_iadd F_ dX6_nextToken_78 ?_
          refine z_goto (tgt := 86) F_ dX6_nextToken_79 (by decide) ?_
          exact J86 (a + 1) (by first | omega | grind) ls_ H_ lo_ W_ (lv_sub hl [0] rfl)
        refine z_icmp_eq (tgt := 73) F_ (by omega) dX6_nextToken_62 (by decide) (fun c62 => ?_) (fun c62 => ?_)
        · exact J73 (by first | omega | grind) ls_ H_ lo_ W_ (lv_sub hl [0] rfl)
        · refine lv_aload_n F_.1 F_.2.1 dX6_nextToken_65 rfl (lv_at hl 0 rfl) ?_
          refine z_get F_ K_ W_ 0 0 2 rfl rfl rfl (C := RX6) (T := TX6) (N := 6) rfl (by decide) hinX6 (List.mem_of_getElem? (i := 4) rfl) dX6_nextToken_66 ?_
          refine z_iconst F_ dX6_nextToken_69 ?_
          refine z_icmp_ne (tgt := 82) F_ (by omega) dX6_nextToken_70 (by decide) (fun c70 => ?_) (fun c70 => ?_)
          · refine lv_aload_n F_.1 F_.2.1 dX6_nextToken_82 rfl (lv_at hl 0 rfl) ?_
            refine z_get F_ K_ W_ 0 0 3 rfl rfl rfl (C := RX6) (T := TX6) (N := 6) rfl (by decide) hinX6 (List.mem_of_getElem? (i := 2) rfl) dX6_nextToken_83 ?_
            exact J86 a (by first | omega | grind) ls_ H_ lo_ W_ (lv_sub hl [0] rfl)
          · exact J73 (by first | omega | grind) ls_ H_ lo_ W_ (lv_sub hl [0] rfl)
      refine z_icmp_ge (tgt := 44) F_ (by omega) dX6_nextToken_16 (by decide) (fun c16 => ?_) (fun c16 => ?_)
      · exact J44 (by first | exact Or.inl (by omega) | exact Or.inr ⟨by omega, by rw [← hk24]; assumption⟩) ls_ H_ lo_ W_ (lv_sub hl [0] rfl)
      · refine lv_aload_n F_.1 F_.2.1 dX6_nextToken_19 rfl (lv_at hl 0 rfl) ?_
        refine lv_aload_n F_.1 F_.2.1 dX6_nextToken_20 rfl (lv_at hl 0 rfl) ?_
        refine z_get F_ K_ W_ 0 0 3 rfl rfl rfl (C := RX6) (T := TX6) (N := 6) rfl (by decide) hinX6 (List.mem_of_getElem? (i := 2) rfl) dX6_nextToken_21 ?_
        refine z_callVip F_ K_ W_ [.int (zi a)] (c_X6_kindAt l_ D cy x ln tok a en va xb a bxb (by first | omega | assumption) (by first | omega | assumption)) 1 rfl gX6_nextToken_X6_kindAt rfl (by decide +kernel) ⟨⟨Nat.le_of_ble_eq_true rfl, Nat.le_of_ble_eq_true rfl⟩, rfl, rfl, Nat.zero_le _, Nat.zero_le _⟩ 0 0 5 rfl rfl rfl rfl hl.1 rfl (Nat.le_of_ble_eq_true rfl) [0] ([] : List Nat) ([] : List va_W) 1 (by decide +kernel) rfl rfl rfl dX6_nextToken_24 (fun z_6 _ H_ lo_ hw_ W_ => ?_)
        replace hw_ : (z_6 = knZ xb ln a) := hw_
        have f24_v := hw_
        clear hw_
        have hk24 : z_6 = ckZ (xb a) := by rw [f24_v, knZ, if_pos ⟨by omega, by omega⟩]
        have hk24b := (ck_f (xb a)).1
        clear f24_v
        refine z_iconst F_ dX6_nextToken_27 ?_
        refine z_icmp_ne (tgt := 44) F_ (by omega) dX6_nextToken_28 (by decide) (fun c28 => ?_) (fun c28 => ?_)
        · exact J44 (by first | exact Or.inl (by omega) | exact Or.inr ⟨by omega, by rw [← hk24]; assumption⟩) ls_ H_ lo_ W_ (lv_sub hl [0] rfl)
        · refine lv_aload_n F_.1 F_.2.1 dX6_nextToken_31 rfl (lv_at hl 0 rfl) ?_
          refine lv_dup F_.1 F_.2.1 dX6_nextToken_32 rfl ?_
          refine z_get F_ K_ W_ 0 0 3 rfl rfl rfl (C := RX6) (T := TX6) (N := 6) rfl (by decide) hinX6 (List.mem_of_getElem? (i := 2) rfl) dX6_nextToken_33 ?_
          refine z_iconst F_ dX6_nextToken_36 ?_
          refine z_iadd F_ dX6_nextToken_37 ?_
          refine z_put (sg' := [wX cy x ln tok (a + 1) en va xb]) F_ K_ W_ 0 0 3 rfl rfl rfl (C := RX6) (T := TX6) (N := 6) rfl ⟨Nat.le_of_ble_eq_true rfl, Nat.le_of_ble_eq_true rfl⟩ tyX6 tyX6_ok nmX6 rfl rfl rfl hinX6 (List.mem_of_getElem? (i := 2) rfl) dX6_nextToken_38 (fun H_ lo_ W_ => ?_)
          refine z_goto (tgt := 8) F_ dX6_nextToken_41 (by decide) ?_
          exact ih8 (a + 1) (by first | omega | assumption) (by intro j q1 q2; rcases Int.lt_or_eq_of_le (show j ≤ a by omega) with q | q; exact hsp j q1 q; (rw [q]; exact (ck_f (xb a)).2.2.2.2.mp (hk24.symm.trans c28))) (by omega) ls_ H_ lo_ W_ (lv_sub hl [0] rfl)
  exact L8 ((ln - en : Int).toNat + 1) en (by first | omega | assumption) (by intro j q1 q2; omega) (by have := Int.self_le_toNat (ln - en : Int); omega) ls_ H_ lo_ W_ (lv_sub hl [0] rfl)
