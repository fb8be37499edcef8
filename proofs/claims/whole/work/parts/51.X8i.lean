theorem rd_a {yb : Int → Int} {bl : Int} (h : ¬ isP (wdS yb bl 0 6 (cwZ 105 115 108 97 110 100)) = 1) : rdK yb bl 0 0 (fun _ => 0) = (-10 - tA yb bl 0, fun _ => 0) := by
  have e : itmF yb bl 0 0 (fun _ => 0) = (0, tA yb bl 0, fun _ => 0) := by
    rw [itmF, if_pos rfl, itm0, if_neg h, clsF, if_neg (by show ¬ (0 : Int) = 1; decide)]
  rw [rdK_s _ _ _ _ (by omega), if_neg (fun q => absurd q.2 (by decide)), e, if_neg (by show ¬ (0 : Int) = 1; decide)]
theorem rd_b {yb : Int → Int} {bl : Int} (h : isP (wdS yb bl 0 6 (cwZ 105 115 108 97 110 100)) = 1) (h3 : ¬ tK yb bl (tE yb bl 0) = 3) : rdK yb bl 0 0 (fun _ => 0) = (-10 - tA yb bl (tE yb bl 0), fun _ => 0) := by
  have e : itmF yb bl 0 0 (fun _ => 0) = (0, tA yb bl (tE yb bl 0), fun _ => 0) := by
    rw [itmF, if_pos rfl, itm0, if_pos h, clsF, if_pos (by show (1 : Int) = 1; rfl), if_neg h3]
  rw [rdK_s _ _ _ _ (by omega), if_neg (fun q => absurd q.2 (by decide)), e, if_neg (by show ¬ (0 : Int) = 1; decide)]
theorem rd_c {yb : Int → Int} {bl : Int} (h : isP (wdS yb bl 0 6 (cwZ 105 115 108 97 110 100)) = 1) (h3 : tK yb bl (tE yb bl 0) = 3) : rdK yb bl 0 0 (fun _ => 0) = rdK yb bl (tE yb bl (tE yb bl 0)) 1 (fun _ => 0) := by
  have e : itmF yb bl 0 0 (fun _ => 0) = (1, tE yb bl (tE yb bl 0), fun _ => 0) := by
    rw [itmF, if_pos rfl, itm0, if_pos h, clsF, if_pos (by show (1 : Int) = 1; rfl), if_pos h3]
  rw [rdK_s _ _ _ _ (by omega), if_neg (fun q => absurd q.2 (by decide)), e, if_pos (by show (1 : Int) = 1; rfl)]
  rfl
theorem rd_d {yb g : Int → Int} {bl s k : Int} (hk : 1 ≤ k ∧ k ≤ 150) (h : tK yb bl s = 0) : rdK yb bl s k g = (k, g) := by
  rw [rdK_s _ _ _ _ (by omega), if_pos ⟨h, by omega⟩]
theorem rd_e {yb g : Int → Int} {bl s k : Int} (hk : 1 ≤ k ∧ k ≤ 150) (h : ¬ tK yb bl s = 0) (h1 : (itmN yb bl s g).1 = 0) : rdK yb bl s k g = (-10 - (itmN yb bl s g).2.1, g) := by
  have e : itmF yb bl s k g = itmN yb bl s g := by
    rw [itmF, if_neg (by omega), clsF, if_neg (by omega)]
  rw [rdK_s _ _ _ _ (by omega), if_neg (fun q => h q.1), e, if_neg (by omega)]
theorem rd_f {yb g : Int → Int} {bl s k : Int} (hk : 1 ≤ k ∧ k ≤ 150) (h : ¬ tK yb bl s = 0) (h1 : (itmN yb bl s g).1 = 1) (h3 : ¬ tK yb bl (itmN yb bl s g).2.1 = 3) : rdK yb bl s k g = (-10 - tA yb bl (itmN yb bl s g).2.1, g) := by
  have e : itmF yb bl s k g = (0, tA yb bl (itmN yb bl s g).2.1, (itmN yb bl s g).2.2) := by
    rw [itmF, if_neg (by omega), clsF, if_pos h1, if_neg h3]
  rw [rdK_s _ _ _ _ (by omega), if_neg (fun q => h q.1), e, if_neg (by show ¬ (0 : Int) = 1; decide)]
theorem rd_g {yb g : Int → Int} {bl s k : Int} (hk : 1 ≤ k ∧ k ≤ 150) (h : ¬ tK yb bl s = 0) (h1 : (itmN yb bl s g).1 = 1) (h3 : tK yb bl (itmN yb bl s g).2.1 = 3) : rdK yb bl s k g = rdK yb bl (tE yb bl (itmN yb bl s g).2.1) (k + 1) (itmN yb bl s g).2.2 := by
  have e : itmF yb bl s k g = (1, tE yb bl (itmN yb bl s g).2.1, (itmN yb bl s g).2.2) := by
    rw [itmF, if_neg (by omega), clsF, if_pos h1, if_pos h3]
  rw [rdK_s _ _ _ _ (by omega), if_neg (fun q => h q.1), e, if_pos (by show (1 : Int) = 1; rfl)]

abbrev rX8_read : Room := { frames := 7, cells := 0, slots := 0, locals := 152 }
set_option maxHeartbeats 1000000 in
set_option maxRecDepth 100000 in
theorem c_X8_read (l_ : Launch) (D : va_G) (cy : Nat → ClassId) (o : Nat → Nat) (ab : Int) (be : Int) (bl : Int) (ta : Int) (tl : Int) (tk : Int) (vl : Int) (g : Int → Int) (yb : Int → Int) (an : Int → Int) (va : Int → Int) (bg : ∀ j : Int, 0 ≤ g j ∧ g j ≤ 99) (byb : ∀ j : Int, 0 ≤ yb j ∧ yb j ≤ 127) (ban : ∀ j : Int, 0 ≤ an j ∧ an j ≤ 99) (bva : ∀ j : Int, 0 ≤ va j ∧ va j ≤ 99) (hbl : 0 ≤ bl ∧ bl ≤ 150) : CTi l_ D cy yX8_read wsX8_read rX8_read [.ref (o 0)] ([wO cy o ab be bl ta tl tk vl, wA cy (o 1) 192 g, wB cy (o 10) yb, wA cy (o 11) 104 an, wA cy (o 12) 3 va]) (fun (z : Int) (u : (Int) × (Int) × (Int) × (Int) × (Int → Int) × (Int → Int) × (Int → Int)) => ((0 < z ∧ z = (rdK yb bl 0 0 (fun _ => 0)).1 ∧ u.2.2.2.2.2.2 = cpG (rdK yb bl 0 0 (fun _ => 0)).2 g 104) ∨ (z ≤ -10 ∧ z = (rdK yb bl 0 0 (fun _ => 0)).1 ∧ u.2.2.2.2.2.2 = g)) ∧ (∀ j : Int, 0 ≤ u.2.2.2.2.1 j ∧ u.2.2.2.2.1 j ≤ 99) ∧ (∀ j : Int, 0 ≤ u.2.2.2.2.2.1 j ∧ u.2.2.2.2.2.1 j ≤ 99) ∧ (∀ j : Int, 0 ≤ u.2.2.2.2.2.2 j ∧ u.2.2.2.2.2.2 j ≤ 99)) (fun (u : (Int) × (Int) × (Int) × (Int) × (Int → Int) × (Int → Int) × (Int → Int)) => [wO cy o ab be bl u.1 u.2.1 u.2.2.1 u.2.2.2.1, wA cy (o 1) 192 u.2.2.2.2.2.2, wB cy (o 10) yb, wA cy (o 11) 104 u.2.2.2.2.1, wA cy (o 12) 3 u.2.2.2.2.2.1]) := by
  refine CTi.of RX8 cX8_read 3 rfl (by decide) rfl (fun z u hz => rfl) (Nat.le_of_ble_eq_true rfl) ?_
  intro p_ e_ s_ m_ ar_ be_ me_ c_ Q_ A_ ls_ F_ K_ W_ hl hret
  have hl : lv_has ls_ 3 [(0, .ref (o 0))] := hl
  obtain ⟨H_, hH_⟩ : ∃ x, x = s_.heap := ⟨_, rfl⟩
  obtain ⟨lo_, hlo_⟩ : ∃ x : List Loc, x = [] := ⟨_, rfl⟩
  have W_ : WD D A_ s_.heap ([wO cy o ab be bl ta tl tk vl, wA cy (o 1) 192 g, wB cy (o 10) yb, wA cy (o 11) 104 an, wA cy (o 12) 3 va]) H_ lo_ := by rw [hH_, hlo_]; exact W_
  rw [← hlo_]
  suffices hg_ : W p_ l_ e_ rX8_read s_ m_ ar_ be_ me_ c_ H_ lo_ 0 0 Q_ (F0 m_ 0 ls_ []) by rw [hH_] at hg_; exact hg_
  clear hH_ hlo_
  have hinX8 : ∀ w ∈ u_ws RX8 TX8 19, w ∈ wsX8_read := fun w h => List.mem_cons_of_mem _ (List.mem_append_right _ h)
  refine lv_aload_n F_.1 F_.2.1 dX8_read_0 rfl (lv_at hl 0 rfl) ?_
  refine z_iconst F_ dX8_read_1 ?_
  refine z_callVv F_ K_ W_ [.int (zi 0)] (c_X8_lookAt l_ D cy o ab be bl ta tl tk vl yb 0 byb (by first | omega | assumption) (by first | omega | assumption) (by first | omega | assumption)) 1 rfl gX8_read_X8_lookAt rfl (by decide +kernel) ⟨⟨Nat.le_of_ble_eq_true rfl, Nat.le_of_ble_eq_true rfl⟩, rfl, rfl, Nat.zero_le _, Nat.zero_le _⟩ 0 0 7 rfl rfl rfl rfl hl.1 rfl (Nat.le_of_ble_eq_true rfl) [0, 2] [1, 3, 4] [wA cy (o 1) 192 g, wA cy (o 11) 104 an, wA cy (o 12) 3 va] (fun (u_ : (Int) × (Int) × (Int) × (Int)) => [wO cy o ab be bl u_.1 u_.2.1 u_.2.2.1 u_.2.2.2, wA cy (o 1) 192 g, wB cy (o 10) yb, wA cy (o 11) 104 an, wA cy (o 12) 3 va]) 5 (by decide +kernel) rfl rfl rfl (fun _ => rfl) (fun _ => rfl) (fun _ => rfl) dX8_read_2 (fun u_ H_ lo_ hw_ W_ => ?_)
  obtain ⟨ta2_2, tl2_3, tk2_4, vl2_5⟩ := u_
  have W_ : WD D A_ s_.heap ([wO cy o ab be bl ta2_2 tl2_3 tk2_4 vl2_5, wA cy (o 1) 192 g, wB cy (o 10) yb, wA cy (o 11) 104 an, wA cy (o 12) 3 va]) H_ lo_ := W_
  replace hw_ : (TS yb bl 0 tk2_4 ta2_2 tl2_3 vl2_5) := hw_
  have f2_v := hw_
  clear hw_
  obtain ⟨tf1, tf2, tf3, tf4, tf5⟩ := TS_f f2_v
  refine lv_aload_n F_.1 F_.2.1 dX8_read_5 rfl (lv_at hl 0 rfl) ?_
  refine z_bipush F_ (by decide) dX8_read_6 ?_
  refine z_bipush F_ (by decide) dX8_read_8 ?_
  refine z_bipush F_ (by decide) dX8_read_10 ?_
  refine z_bipush F_ (by decide) dX8_read_12 ?_
  refine z_bipush F_ (by decide) dX8_read_14 ?_
  refine z_bipush F_ (by decide) dX8_read_16 ?_
  refine z_bipush F_ (by decide) dX8_read_18 ?_
  refine z_callVip F_ K_ W_ [.int (zi 6), .int (zi 105), .int (zi 115), .int (zi 108), .int (zi 97), .int (zi 110), .int (zi 100)] (c_X8_spells l_ D cy o ab be bl ta2_2 tl2_3 tk2_4 vl2_5 yb 6 105 115 108 97 110 100 byb (by first | omega | assumption) (by first | omega | assumption) (by first | omega | assumption) (by first | omega | assumption) (by first | omega | assumption) (by first | omega | assumption) (by first | omega | assumption) (by first | omega | assumption) (by first | omega | assumption) (by first | omega | assumption)) 7 rfl gX8_read_X8_spells rfl (by decide +kernel) ⟨⟨Nat.le_of_ble_eq_true rfl, Nat.le_of_ble_eq_true rfl⟩, rfl, rfl, Nat.zero_le _, Nat.zero_le _⟩ 0 0 7 rfl rfl rfl rfl hl.1 rfl (Nat.le_of_ble_eq_true rfl) [0, 2] [1, 3, 4] [wA cy (o 1) 192 g, wA cy (o 11) 104 an, wA cy (o 12) 3 va] 5 (by decide +kernel) rfl rfl rfl dX8_read_20 (fun z_6 _ H_ lo_ hw_ W_ => ?_)
  replace hw_ : ((z_6 = 1 ∧ (wdP yb tk2_4 ta2_2 tl2_3 6 (cwZ 105 115 108 97 110 100))) ∨ (z_6 = 0 ∧ ¬ (wdP yb tk2_4 ta2_2 tl2_3 6 (cwZ 105 115 108 97 110 100)))) := hw_
  have f20_v := hw_
  clear hw_
  have w20 := isP_if f20_v (wd_TS f2_v (n := 6) (c := cwZ 105 115 108 97 110 100))
  have htk1 : ¬ z_6 = 0 → tk2_4 = 1 := fun q => (f20_v.resolve_right (fun w_ => q w_.1)).2.1
  clear f20_v
  refine z_if_ne (tgt := 34) F_ (by omega) dX8_read_23 (by decide) (fun c23 => ?_) (fun c23 => ?_)
  · have hwi := w20.1 (by omega)
    refine lv_aload_n F_.1 F_.2.1 dX8_read_34 rfl (lv_at hl 0 rfl) ?_
    refine z_callVv F_ K_ W_ [] (c_X8_goBehind l_ D cy o ab be bl ta2_2 tl2_3 tk2_4 vl2_5 yb byb (by first | omega | assumption) (by first | omega | assumption)) 0 rfl gX8_read_X8_goBehind rfl (by decide +kernel) ⟨⟨Nat.le_of_ble_eq_true rfl, Nat.le_of_ble_eq_true rfl⟩, rfl, rfl, Nat.zero_le _, Nat.zero_le _⟩ 0 0 7 rfl rfl rfl rfl hl.1 rfl (Nat.le_of_ble_eq_true rfl) [0, 2] [1, 3, 4] [wA cy (o 1) 192 g, wA cy (o 11) 104 an, wA cy (o 12) 3 va] (fun (u_ : (Int) × (Int) × (Int) × (Int)) => [wO cy o ab be bl u_.1 u_.2.1 u_.2.2.1 u_.2.2.2, wA cy (o 1) 192 g, wB cy (o 10) yb, wA cy (o 11) 104 an, wA cy (o 12) 3 va]) 5 (by decide +kernel) rfl rfl rfl (fun _ => rfl) (fun _ => rfl) (fun _ => rfl) dX8_read_35 (fun u_ H_ lo_ hw_ W_ => ?_)
    obtain ⟨ta2_8, tl2_9, tk2_10, vl2_11⟩ := u_
    have W_ : WD D A_ s_.heap ([wO cy o ab be bl ta2_8 tl2_9 tk2_10 vl2_11, wA cy (o 1) 192 g, wB cy (o 10) yb, wA cy (o 11) 104 an, wA cy (o 12) 3 va]) H_ lo_ := W_
    replace hw_ : (TS yb bl (ta2_2 + tl2_3) tk2_10 ta2_8 tl2_9 vl2_11) := hw_
    have f35_v := hw_
    clear hw_
    have hts1 : TS yb bl (tE yb bl 0) tk2_10 ta2_8 tl2_9 vl2_11 := by rw [tf3]; exact f35_v
    obtain ⟨ug1, ug2, ug3, ug4, ug5⟩ := TS_f hts1
    refine lv_aload_n F_.1 F_.2.1 dX8_read_38 rfl (lv_at hl 0 rfl) ?_
    refine z_get F_ K_ W_ 0 0 15 rfl rfl rfl (C := RX8) (T := TX8) (N := 19) rfl (by decide) hinX8 (List.mem_of_getElem? (i := 2) rfl) dX8_read_39 ?_
    refine z_iconst F_ dX8_read_42 ?_
    refine z_icmp_eq (tgt := 54) F_ (by omega) dX8_read_43 (by decide) (fun c43 => ?_) (fun c43 => ?_)
    · 
      refine lv_aload_n F_.1 F_.2.1 dX8_read_54 rfl (lv_at hl 0 rfl) ?_
      refine z_callVv F_ K_ W_ [] (c_X8_goBehind l_ D cy o ab be bl ta2_8 tl2_9 tk2_10 vl2_11 yb byb (by first | omega | assumption) (by first | omega | assumption)) 0 rfl gX8_read_X8_goBehind rfl (by decide +kernel) ⟨⟨Nat.le_of_ble_eq_true rfl, Nat.le_of_ble_eq_true rfl⟩, rfl, rfl, Nat.zero_le _, Nat.zero_le _⟩ 0 0 7 rfl rfl rfl rfl hl.1 rfl (Nat.le_of_ble_eq_true rfl) [0, 2] [1, 3, 4] [wA cy (o 1) 192 g, wA cy (o 11) 104 an, wA cy (o 12) 3 va] (fun (u_ : (Int) × (Int) × (Int) × (Int)) => [wO cy o ab be bl u_.1 u_.2.1 u_.2.2.1 u_.2.2.2, wA cy (o 1) 192 g, wB cy (o 10) yb, wA cy (o 11) 104 an, wA cy (o 12) 3 va]) 5 (by decide +kernel) rfl rfl rfl (fun _ => rfl) (fun _ => rfl) (fun _ => rfl) dX8_read_55 (fun u_ H_ lo_ hw_ W_ => ?_)
      obtain ⟨ta2_13, tl2_14, tk2_15, vl2_16⟩ := u_
      have W_ : WD D A_ s_.heap ([wO cy o ab be bl ta2_13 tl2_14 tk2_15 vl2_16, wA cy (o 1) 192 g, wB cy (o 10) yb, wA cy (o 11) 104 an, wA cy (o 12) 3 va]) H_ lo_ := W_
      replace hw_ : (TS yb bl (ta2_8 + tl2_9) tk2_15 ta2_13 tl2_14 vl2_16) := hw_
      have f55_v := hw_
      clear hw_
      have hts2 : TS yb bl (tE yb bl (tE yb bl 0)) tk2_15 ta2_13 tl2_14 vl2_16 := by rw [ug3]; exact f55_v
      refine lv_aload_n F_.1 F_.2.1 dX8_read_58 rfl (lv_at hl 0 rfl) ?_
      refine z_get F_ K_ W_ 0 0 17 rfl rfl rfl (C := RX8) (T := TX8) (N := 19) rfl (by decide) hinX8 (List.mem_of_getElem? (i := 3) rfl) dX8_read_59 ?_
      refine z_callSv F_ K_ W_ [.ref (o 11)] (c_X8_begin l_ D cy (o 11) 104 an ban (by first | omega | assumption)) 1 rfl gX8_read_X8_begin rfl (by decide +kernel) ⟨⟨Nat.le_of_ble_eq_true rfl, Nat.le_of_ble_eq_true rfl⟩, rfl, rfl, Nat.zero_le _, Nat.zero_le _⟩ hl.1 rfl (Nat.le_of_ble_eq_true rfl) [3] [0, 1, 2, 4] [wO cy o ab be bl ta2_13 tl2_14 tk2_15 vl2_16, wA cy (o 1) 192 g, wB cy (o 10) yb, wA cy (o 12) 3 va] (fun (u_ : (Int → Int)) => [wO cy o ab be bl ta2_13 tl2_14 tk2_15 vl2_16, wA cy (o 1) 192 g, wB cy (o 10) yb, wA cy (o 11) 104 u_, wA cy (o 12) 3 va]) 5 (by decide +kernel) rfl rfl rfl (fun _ => rfl) (fun _ => rfl) (fun _ => rfl) dX8_read_62 (fun u_ H_ lo_ hw_ W_ => ?_)
      obtain ⟨g2_18, rfl⟩ : ∃ x, x = u_ := ⟨_, rfl⟩
      have W_ : WD D A_ s_.heap ([wO cy o ab be bl ta2_13 tl2_14 tk2_15 vl2_16, wA cy (o 1) 192 g, wB cy (o 10) yb, wA cy (o 11) 104 g2_18, wA cy (o 12) 3 va]) H_ lo_ := W_
      replace hw_ : (g2_18 = clrG an 104) ∧ (∀ j : Int, 0 ≤ g2_18 j ∧ g2_18 j ≤ 99) := hw_
      obtain ⟨f62_v, f62_B_A_g⟩ := hw_
      have hb0 : ∀ j : Int, 0 ≤ (fun _ : Int => (0 : Int)) j ∧ (fun _ : Int => (0 : Int)) j ≤ 99 := fun j => by show (0 : Int) ≤ 0 ∧ (0 : Int) ≤ 99; omega
      have W_ : WD D A_ s_.heap ([wO cy o ab be bl ta2_13 tl2_14 tk2_15 vl2_16, wA cy (o 1) 192 g, wB cy (o 10) yb, wA cy (o 11) 104 (fun _ => 0), wA cy (o 12) 3 va]) H_ lo_ := wd_cell W_ 3 0 rfl rfl rfl (by intro j_ h1_ h2_; rw [f62_v]; simp only [clrG]; rw [if_pos (by omega)])
      refine z_iconst F_ dX8_read_65 ?_
      refine lv_istore_n (lv' := [(1, .int (zi 1)), (0, .ref (o 0))]) F_.1 F_.2.1 dX8_read_66 rfl hl (by decide) rfl (fun ls_ hl => ?_)
      have L67 : ∀ (n_ : Nat) (k : Int) (s : Int) (ta3 : Int) (tl3 : Int) (tk3 : Int) (vl3 : Int) (an3 : Int → Int) (va3 : Int → Int) (ban3 : ∀ j : Int, 0 ≤ an3 j ∧ an3 j ≤ 99) (bva3 : ∀ j : Int, 0 ≤ va3 j ∧ va3 j ≤ 99) (hks : 1 ≤ k ∧ k ≤ s ∧ s ≤ 150) (hts : TS yb bl s tk3 ta3 tl3 vl3) (hn : (0 ≤ an3 0 ∧ an3 0 ≤ 8) ∧ (0 ≤ an3 1 ∧ an3 1 ≤ 3)) (hR : rdK yb bl s k an3 = (rdK yb bl 0 0 (fun _ => 0))) (hm_ : (151 - k : Int) < (n_ : Int)) (ls_ : Array Slot) (H_ : Heap) (lo_ : List Loc), WD D A_ s_.heap ([wO cy o ab be bl ta3 tl3 tk3 vl3, wA cy (o 1) 192 g, wB cy (o 10) yb, wA cy (o 11) 104 an3, wA cy (o 12) 3 va3]) H_ lo_ → lv_has ls_ 3 [(1, .int (zi k)), (0, .ref (o 0))] → W p_ l_ e_ rX8_read s_ m_ ar_ be_ me_ c_ H_ lo_ 0 0 Q_ (F0 m_ 67 ls_ []) := by
        intro n_
        induction n_ with
        | zero =>
          intro k s ta3 tl3 tk3 vl3 an3 va3 ban3 bva3 hks hts hn hR hm_ ls_ H_ lo_ _ _
          exact absurd hm_ (by omega)
        | succ n_ ih_ =>
          intro k s ta3 tl3 tk3 vl3 an3 va3 ban3 bva3 hks hts hn hR hm_ ls_ H_ lo_ W_ hl
          have ih67 := ih_
          obtain ⟨tg1, tg2, tg3, tg4, tg5⟩ := TS_f hts
          refine lv_aload_n F_.1 F_.2.1 dX8_read_67 rfl (lv_at hl 1 rfl) ?_
          refine z_get F_ K_ W_ 0 0 15 rfl rfl rfl (C := RX8) (T := TX8) (N := 19) rfl (by decide) hinX8 (List.mem_of_getElem? (i := 2) rfl) dX8_read_68 ?_
          refine z_if_eq (tgt := 107) F_ (by omega) dX8_read_71 (by decide) (fun c71 => ?_) (fun c71 => ?_)
          · have hte0 : tK yb bl s = 0 := by rw [tg1]; split <;> omega
            refine z_iconst F_ dX8_read_107 ?_
            refine lv_istore_n (lv' := [(2, .int (zi 0)), (1, .int (zi k)), (0, .ref (o 0))]) F_.1 F_.2.1 dX8_read_108 rfl hl (by decide) rfl (fun ls_ hl => ?_)
            have L109 : ∀ (n_ : Nat) (i : Int) (x : Int → Int) (bx : ∀ j : Int, 0 ≤ x j ∧ x j ≤ 99) (hi : 0 ≤ i ∧ i ≤ 104) (hx : x = cpG an3 g i) (hm_ : (104 - i : Int) < (n_ : Int)) (ls_ : Array Slot) (H_ : Heap) (lo_ : List Loc), WD D A_ s_.heap ([wO cy o ab be bl ta3 tl3 tk3 vl3, wA cy (o 1) 192 x, wB cy (o 10) yb, wA cy (o 11) 104 an3, wA cy (o 12) 3 va3]) H_ lo_ → lv_has ls_ 3 [(2, .int (zi i)), (1, .int (zi k)), (0, .ref (o 0))] → W p_ l_ e_ rX8_read s_ m_ ar_ be_ me_ c_ H_ lo_ 0 0 Q_ (F0 m_ 109 ls_ []) := by
              intro n_
              induction n_ with
              | zero =>
                intro i x bx hi hx hm_ ls_ H_ lo_ _ _
                exact absurd hm_ (by omega)
              | succ n_ ih_ =>
                intro i x bx hi hx hm_ ls_ H_ lo_ W_ hl
                have ih109 := ih_
                refine lv_iload_n F_.1 F_.2.1 dX8_read_109 rfl (lv_at hl 0 rfl) ?_
                refine z_bipush F_ (by decide) dX8_read_110 ?_
                refine z_icmp_ge (tgt := 133) F_ (by omega) dX8_read_112 (by decide) (fun c112 => ?_) (fun c112 => ?_)
                · refine lv_iload_n F_.1 F_.2.1 dX8_read_133 rfl (lv_at hl 1 rfl) ?_
                  exact hret _ _ _ _ k (ta3, tl3, tk3, vl3, an3, va3, x) dX8_read_134 ⟨(by have hr := rd_d (k := k) (g := an3) (by omega) hte0; exact Or.inl ⟨by omega, by rw [← hR, hr], by rw [← hR, hr]; show x = cpG an3 g 104; rw [hx, show i = 104 by omega]⟩), ban3, bva3, bx⟩ W_
                · refine lv_aload_n F_.1 F_.2.1 dX8_read_115 rfl (lv_at hl 2 rfl) ?_
                  refine z_get F_ K_ W_ 0 0 0 rfl rfl rfl (C := RX8) (T := TX8) (N := 19) rfl (by decide) hinX8 (List.mem_of_getElem? (i := 4) rfl) dX8_read_116 ?_
                  refine lv_iload_n F_.1 F_.2.1 dX8_read_119 rfl (lv_at hl 0 rfl) ?_
                  refine lv_aload_n F_.1 F_.2.1 dX8_read_120 rfl (lv_at hl 2 rfl) ?_
                  refine z_get F_ K_ W_ 0 0 17 rfl rfl rfl (C := RX8) (T := TX8) (N := 19) rfl (by decide) hinX8 (List.mem_of_getElem? (i := 3) rfl) dX8_read_121 ?_
                  refine lv_iload_n F_.1 F_.2.1 dX8_read_124 rfl (lv_at hl 0 rfl) ?_
                  refine z_iald F_ K_ W_ 3 0 rfl rfl (by omega) (by decide) dX8_read_125 ?_
                  have b_19 := ban3 i
                  refine z_iast (sg' := [wO cy o ab be bl ta3 tl3 tk3 vl3, wA cy (o 1) 192 (zu x i (an3 i)), wB cy (o 10) yb, wA cy (o 11) 104 an3, wA cy (o 12) 3 va3]) F_ K_ W_ 1 0 rfl rfl rfl (by omega) (by decide) dX8_read_126 (fun H_ lo_ W_ => ?_)
                  obtain ⟨g_20, eg_20⟩ : ∃ x_ : Int → Int, x_ = zu x i (an3 i) := ⟨_, rfl⟩
                  rw [← eg_20] at W_
                  have bg_20 : ∀ j : Int, 0 ≤ g_20 j ∧ g_20 j ≤ 99 := by rw [eg_20]; exact zu_b bx (by omega)
                  refine z_iinc (lv' := [(2, .int (zi (i + 1))), (1, .int (zi k)), (0, .ref (o 0))]) F_ dX8_read_127 hl (k := 0) rfl (by decide) rfl (fun ls_ hl => ?_)
                  refine z_goto (tgt := 109) F_ dX8_read_130 (by decide) ?_
                  exact ih109 (i + 1) g_20 bg_20 (by first | omega | assumption) (by rw [eg_20, hx]; funext j_; simp only [zu_at, cpG]; repeat (first | omega | rfl | split | (congr 1; omega))) (by omega) ls_ H_ lo_ W_ (lv_sub hl [0, 1, 2] rfl)
            exact L109 ((104 - 0 : Int).toNat + 1) 0 g bg (by first | omega | assumption) (by funext j_; simp only [zu_at, cpG]; repeat (first | omega | rfl | split | (congr 1; omega))) (by have := Int.self_le_toNat (104 - 0 : Int); omega) ls_ H_ lo_ W_ (lv_sub hl [0, 1, 2] rfl)
          · have hts0 : ¬ tK yb bl s = 0 := by rw [tg1]; split <;> omega
            refine lv_aload_n F_.1 F_.2.1 dX8_read_74 rfl (lv_at hl 1 rfl) ?_
            refine z_callVi F_ K_ W_ [] (c_X8_takesItem l_ D cy o ab be bl ta3 tl3 tk3 vl3 yb an3 va3 s byb ban3 bva3 (by first | omega | assumption) (by first | omega | assumption) (by first | omega | assumption) (by first | omega | assumption)) 0 rfl gX8_read_X8_takesItem rfl (by decide +kernel) ⟨⟨Nat.le_of_ble_eq_true rfl, Nat.le_of_ble_eq_true rfl⟩, rfl, rfl, Nat.zero_le _, Nat.zero_le _⟩ 0 0 7 rfl rfl rfl rfl hl.1 rfl (Nat.le_of_ble_eq_true rfl) [0, 2, 3, 4] [1] [wA cy (o 1) 192 g] (fun (u_ : (Int) × (Int) × (Int) × (Int) × (Int → Int) × (Int → Int)) => [wO cy o ab be bl u_.1 u_.2.1 u_.2.2.1 u_.2.2.2.1, wA cy (o 1) 192 g, wB cy (o 10) yb, wA cy (o 11) 104 u_.2.2.2.2.1, wA cy (o 12) 3 u_.2.2.2.2.2]) 5 (by decide +kernel) rfl rfl rfl (fun _ => rfl) (fun _ => rfl) (fun _ => rfl) dX8_read_75 (fun z_21 u_ H_ lo_ hw_ W_ => ?_)
            obtain ⟨ta2_22, tl2_23, tk2_24, vl2_25, an2_26, va2_27⟩ := u_
            have W_ : WD D A_ s_.heap ([wO cy o ab be bl ta2_22 tl2_23 tk2_24 vl2_25, wA cy (o 1) 192 g, wB cy (o 10) yb, wA cy (o 11) 104 an2_26, wA cy (o 12) 3 va2_27]) H_ lo_ := W_
            replace hw_ : ((z_21 = 1 ∧ (itmN yb bl s an3).1 = 1 ∧ an2_26 = (itmN yb bl s an3).2.2 ∧ s ≤ (itmN yb bl s an3).2.1 ∧ TS yb bl (itmN yb bl s an3).2.1 tk2_24 ta2_22 tl2_23 vl2_25) ∨ (z_21 = 0 ∧ (itmN yb bl s an3).1 = 0 ∧ ta2_22 = (itmN yb bl s an3).2.1 ∧ 0 ≤ ta2_22 ∧ ta2_22 ≤ 150)) ∧ ((0 ≤ an2_26 0 ∧ an2_26 0 ≤ 8) ∧ (0 ≤ an2_26 1 ∧ an2_26 1 ≤ 3)) ∧ (∀ j : Int, 0 ≤ an2_26 j ∧ an2_26 j ≤ 99) ∧ (∀ j : Int, 0 ≤ va2_27 j ∧ va2_27 j ≤ 99) := hw_
            obtain ⟨f75_v, f75_n, f75_B_W_g, f75_B_V_g⟩ := hw_
            refine z_if_eq (tgt := 89) F_ (by omega) dX8_read_78 (by decide) (fun c78 => ?_) (fun c78 => ?_)
            · refine z_bipush F_ (by decide) dX8_read_89 ?_
              refine lv_aload_n F_.1 F_.2.1 dX8_read_91 rfl (lv_at hl 1 rfl) ?_
              refine z_get F_ K_ W_ 0 0 13 rfl rfl rfl (C := RX8) (T := TX8) (N := 19) rfl (by decide) hinX8 (List.mem_of_getElem? (i := 1) rfl) dX8_read_92 ?_
              refine z_isub F_ dX8_read_95 ?_
              exact hret _ _ _ _ ((-10) - ta2_22) (ta2_22, tl2_23, tk2_24, vl2_25, an2_26, va2_27, g) dX8_read_96 ⟨(by first | (have hf := f75_v.resolve_left (fun q => absurd q.1 (by omega)); have hr := rd_e (k := k) (by omega) hts0 hf.2.1; exact Or.inr ⟨by omega, by rw [← hR, hr]; show _ = -10 - (itmN yb bl s an3).2.1; rw [← hf.2.2.1], rfl⟩) | (have hf := f75_v.resolve_right (fun q => absurd q.1 (by omega)); have hx := TS_f hf.2.2.2.2; have hx1 := hx.1; have hx5 := hx.2.2.2.2; have hr := rd_f (k := k) (by omega) hts0 hf.2.1 (by rw [hx1]; split <;> omega); exact Or.inr ⟨by omega, by rw [← hR, hr]; show _ = -10 - tA yb bl (itmN yb bl s an3).2.1; rw [hx.2.1], rfl⟩)), f75_B_W_g, f75_B_V_g, bg⟩ W_
            · have hx81 := (TS_f (f75_v.resolve_right (fun q => c78 q.1)).2.2.2.2).2.2.2.2
              refine lv_aload_n F_.1 F_.2.1 dX8_read_81 rfl (lv_at hl 1 rfl) ?_
              refine z_get F_ K_ W_ 0 0 15 rfl rfl rfl (C := RX8) (T := TX8) (N := 19) rfl (by decide) hinX8 (List.mem_of_getElem? (i := 2) rfl) dX8_read_82 ?_
              refine z_iconst F_ dX8_read_85 ?_
              refine z_icmp_eq (tgt := 97) F_ (by omega) dX8_read_86 (by decide) (fun c86 => ?_) (fun c86 => ?_)
              · have hf := f75_v.resolve_right (fun q => c78 q.1)
                obtain ⟨xg1, xg2, xg3, xg4, xg5⟩ := TS_f hf.2.2.2.2
                have htk3 : tk2_24 = 3 := by omega
                refine lv_aload_n F_.1 F_.2.1 dX8_read_97 rfl (lv_at hl 1 rfl) ?_
                refine z_callVv F_ K_ W_ [] (c_X8_goBehind l_ D cy o ab be bl ta2_22 tl2_23 tk2_24 vl2_25 yb byb (by first | omega | assumption) (by first | omega | assumption)) 0 rfl gX8_read_X8_goBehind rfl (by decide +kernel) ⟨⟨Nat.le_of_ble_eq_true rfl, Nat.le_of_ble_eq_true rfl⟩, rfl, rfl, Nat.zero_le _, Nat.zero_le _⟩ 0 0 7 rfl rfl rfl rfl hl.1 rfl (Nat.le_of_ble_eq_true rfl) [0, 2] [1, 3, 4] [wA cy (o 1) 192 g, wA cy (o 11) 104 an2_26, wA cy (o 12) 3 va2_27] (fun (u_ : (Int) × (Int) × (Int) × (Int)) => [wO cy o ab be bl u_.1 u_.2.1 u_.2.2.1 u_.2.2.2, wA cy (o 1) 192 g, wB cy (o 10) yb, wA cy (o 11) 104 an2_26, wA cy (o 12) 3 va2_27]) 5 (by decide +kernel) rfl rfl rfl (fun _ => rfl) (fun _ => rfl) (fun _ => rfl) dX8_read_98 (fun u_ H_ lo_ hw_ W_ => ?_)
                obtain ⟨ta2_29, tl2_30, tk2_31, vl2_32⟩ := u_
                have W_ : WD D A_ s_.heap ([wO cy o ab be bl ta2_29 tl2_30 tk2_31 vl2_32, wA cy (o 1) 192 g, wB cy (o 10) yb, wA cy (o 11) 104 an2_26, wA cy (o 12) 3 va2_27]) H_ lo_ := W_
                replace hw_ : (TS yb bl (ta2_22 + tl2_23) tk2_31 ta2_29 tl2_30 vl2_32) := hw_
                have f98_v := hw_
                clear hw_
                refine z_iinc (lv' := [(1, .int (zi (k + 1))), (0, .ref (o 0))]) F_ dX8_read_101 hl (k := 0) rfl (by decide) rfl (fun ls_ hl => ?_)
                refine z_goto (tgt := 67) F_ dX8_read_104 (by decide) ?_
                exact ih67 (k + 1) (tE yb bl (itmN yb bl s an3).2.1) ta2_29 tl2_30 tk2_31 vl2_32 an2_26 va2_27 f75_B_W_g f75_B_V_g (by first | omega | assumption) (by rw [xg3]; exact f98_v) (by first | omega | assumption) (by rw [hf.2.2.1, ← hR]; exact (rd_g (by omega) hts0 hf.2.1 (by rw [xg1, htk3]; rfl)).symm) (by omega) ls_ H_ lo_ W_ (lv_sub hl [0, 1] rfl)
              · refine z_bipush F_ (by decide) dX8_read_89 ?_
                refine lv_aload_n F_.1 F_.2.1 dX8_read_91 rfl (lv_at hl 1 rfl) ?_
                refine z_get F_ K_ W_ 0 0 13 rfl rfl rfl (C := RX8) (T := TX8) (N := 19) rfl (by decide) hinX8 (List.mem_of_getElem? (i := 1) rfl) dX8_read_92 ?_
                refine z_isub F_ dX8_read_95 ?_
                exact hret _ _ _ _ ((-10) - ta2_22) (ta2_22, tl2_23, tk2_24, vl2_25, an2_26, va2_27, g) dX8_read_96 ⟨(by first | (have hf := f75_v.resolve_left (fun q => absurd q.1 (by omega)); have hr := rd_e (k := k) (by omega) hts0 hf.2.1; exact Or.inr ⟨by omega, by rw [← hR, hr]; show _ = -10 - (itmN yb bl s an3).2.1; rw [← hf.2.2.1], rfl⟩) | (have hf := f75_v.resolve_right (fun q => absurd q.1 (by omega)); have hx := TS_f hf.2.2.2.2; have hx1 := hx.1; have hx5 := hx.2.2.2.2; have hr := rd_f (k := k) (by omega) hts0 hf.2.1 (by rw [hx1]; split <;> omega); exact Or.inr ⟨by omega, by rw [← hR, hr]; show _ = -10 - tA yb bl (itmN yb bl s an3).2.1; rw [hx.2.1], rfl⟩)), f75_B_W_g, f75_B_V_g, bg⟩ W_
      exact L67 ((151 - 1 : Int).toNat + 1) 1 (tE yb bl (tE yb bl 0)) ta2_13 tl2_14 tk2_15 vl2_16 (fun _ => 0) va hb0 bva (by have := htk1 (by omega); omega) (by exact hts2) (by exact ⟨⟨Int.le_refl 0, by decide⟩, ⟨Int.le_refl 0, by decide⟩⟩) (by exact (rd_c hwi (by rw [ug1]; split <;> omega)).symm) (by have := Int.self_le_toNat (151 - 1 : Int); omega) ls_ H_ lo_ W_ (lv_sub hl [0, 1] rfl)
    · refine z_bipush F_ (by decide) dX8_read_46 ?_
      refine lv_aload_n F_.1 F_.2.1 dX8_read_48 rfl (lv_at hl 0 rfl) ?_
      refine z_get F_ K_ W_ 0 0 13 rfl rfl rfl (C := RX8) (T := TX8) (N := 19) rfl (by decide) hinX8 (List.mem_of_getElem? (i := 1) rfl) dX8_read_49 ?_
      refine z_isub F_ dX8_read_52 ?_
      exact hret _ _ _ _ ((-10) - ta2_8) (ta2_8, tl2_9, tk2_10, vl2_11, an, va, g) dX8_read_53 ⟨(by have hr := rd_b hwi (by rw [ug1]; split <;> omega); exact Or.inr ⟨by omega, by rw [hr]; show _ = -10 - tA yb bl (tE yb bl 0); rw [ug2], rfl⟩), ban, bva, bg⟩ W_
  · refine z_bipush F_ (by decide) dX8_read_26 ?_
    refine lv_aload_n F_.1 F_.2.1 dX8_read_28 rfl (lv_at hl 0 rfl) ?_
    refine z_get F_ K_ W_ 0 0 13 rfl rfl rfl (C := RX8) (T := TX8) (N := 19) rfl (by decide) hinX8 (List.mem_of_getElem? (i := 1) rfl) dX8_read_29 ?_
    refine z_isub F_ dX8_read_32 ?_
    exact hret _ _ _ _ ((-10) - ta2_2) (ta2_2, tl2_3, tk2_4, vl2_5, an, va, g) dX8_read_33 ⟨(by have hr := rd_a (w20.2.1 (by omega)); exact Or.inr ⟨by omega, by rw [hr]; show _ = -10 - tA yb bl 0; rw [tf2], rfl⟩), ban, bva, bg⟩ W_
