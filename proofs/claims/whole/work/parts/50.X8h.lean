theorem z_bl4 {z : Int} {P N B : Prop} (h : ((z = 1 ∧ P) ∨ (z = 0 ∧ N)) ∧ B) : narrow .boolean (.int (zi z)) = .int (zi z) := z_bl h.1
theorem shpI_0 {yb g : Int → Int} {bl s : Int} (h1 : ¬ g 1 = 3) (h2 : ¬ nmP yb bl 0 5 (tE yb bl s)) : shpI yb bl s g = (0, tA yb bl (tE yb bl s), g) := by
  rw [shpI, if_neg h1, if_neg h2]
theorem shpI_1 {yb g : Int → Int} {bl s : Int} (h1 : ¬ g 1 = 3) (h2 : nmP yb bl 0 5 (tE yb bl s)) : shpI yb bl s g = (1, tE yb bl (tE yb bl s), shpR g (tV yb bl (tE yb bl s))) := by
  rw [shpI, if_neg h1, if_pos h2]
theorem shpR_n {g : Int → Int} (v : Int) (h : 0 ≤ g 1 ∧ g 1 ≤ 3) : shpR g v 0 = g 0 ∧ shpR g v 1 = g 1 + 1 := by
  unfold shpR
  exact ⟨by rw [zu_n _ _ (by omega), zu_n _ _ (by omega)], zu_s _ _ _⟩
theorem layG_n {g : Int → Int} (a b c : Int) (h : 0 ≤ g 0 ∧ g 0 ≤ 8) : layG g a b c 0 = g 0 + 1 ∧ layG g a b c 1 = g 1 := by
  unfold layG
  exact ⟨zu_s _ _ _, by rw [zu_n _ _ (by omega), zu_n _ _ (by omega), zu_n _ _ (by omega), zu_n _ _ (by omega)]⟩
theorem manI_1 {yb g : Int → Int} {bl s : Int} (h1 : ¬ g 0 = 8) (h2 : ¬ nmP yb bl 0 5 (tE yb bl s)) : manI yb bl s g = (0, tA yb bl (tE yb bl s), g) := by
  rw [manI, if_neg h1, if_neg h2]
theorem manI_2 {yb g : Int → Int} {bl s : Int} (h1 : ¬ g 0 = 8) (h2 : nmP yb bl 0 5 (tE yb bl s)) (h3 : ¬ nmP yb bl 1 9 (tE yb bl (tE yb bl s))) : manI yb bl s g = (0, tA yb bl (tE yb bl (tE yb bl s)), g) := by
  rw [manI, if_neg h1, if_pos h2, if_neg h3]
theorem manI_3 {yb g : Int → Int} {bl s : Int} (h1 : ¬ g 0 = 8) (h2 : nmP yb bl 0 5 (tE yb bl s)) (h3 : nmP yb bl 1 9 (tE yb bl (tE yb bl s))) (h4 : ¬ (tK yb bl (tE yb bl (tE yb bl (tE yb bl s))) = 2 ∧ (tV yb bl (tE yb bl (tE yb bl (tE yb bl s))) = 9 ∨ tV yb bl (tE yb bl (tE yb bl (tE yb bl s))) < g 1))) : manI yb bl s g = (0, tA yb bl (tE yb bl (tE yb bl (tE yb bl s))), g) := by
  rw [manI, if_neg h1, if_pos h2, if_pos h3, if_neg h4]
theorem manI_4 {yb g : Int → Int} {bl s : Int} (h1 : ¬ g 0 = 8) (h2 : nmP yb bl 0 5 (tE yb bl s)) (h3 : nmP yb bl 1 9 (tE yb bl (tE yb bl s))) (h4 : tK yb bl (tE yb bl (tE yb bl (tE yb bl s))) = 2 ∧ (tV yb bl (tE yb bl (tE yb bl (tE yb bl s))) = 9 ∨ tV yb bl (tE yb bl (tE yb bl (tE yb bl s))) < g 1)) : manI yb bl s g = (1, tE yb bl (tE yb bl (tE yb bl (tE yb bl s))), layG g (tV yb bl (tE yb bl s)) (tV yb bl (tE yb bl (tE yb bl s))) (if tV yb bl (tE yb bl (tE yb bl (tE yb bl s))) = 9 then 0 else tV yb bl (tE yb bl (tE yb bl (tE yb bl s))) + 1)) := by
  rw [manI, if_neg h1, if_pos h2, if_pos h3, if_pos h4]
theorem calI_0 {yb g : Int → Int} {bl s : Int} (h : ¬ (nmP yb bl 0 (g 1 - 1) (tE yb bl s) ∧ ¬ cntG g (tV yb bl (tE yb bl s) + 1) = 0)) : calI yb bl s g = (0, tA yb bl (tE yb bl s), g) := by
  rw [calI, if_neg h]
theorem calI_1 {yb g : Int → Int} {bl s : Int} (h : nmP yb bl 0 (g 1 - 1) (tE yb bl s) ∧ ¬ cntG g (tV yb bl (tE yb bl s) + 1) = 0) : calI yb bl s g = (1, tE yb bl (tE yb bl s), goG g (tV yb bl (tE yb bl s)) (lstG g (tV yb bl (tE yb bl s)))) := by
  rw [calI, if_pos h]
theorem brdI_1 {yb g : Int → Int} {bl s : Int} (h : ¬ nmP yb bl 0 (g 1 - 1) (tE yb bl s)) : brdI yb bl s g = (0, tA yb bl (tE yb bl s), g) := by
  rw [brdI, if_neg h]
theorem brdI_2 {yb g : Int → Int} {bl s : Int} (h : nmP yb bl 0 (g 1 - 1) (tE yb bl s)) (h2 : ¬ (nmP yb bl 0 (g 0 - 1) (tE yb bl (tE yb bl s)) ∧ g (6 + tV yb bl (tE yb bl (tE yb bl s))) = 0)) : brdI yb bl s g = (0, tA yb bl (tE yb bl (tE yb bl s)), g) := by
  rw [brdI, if_pos h, if_neg h2]
theorem brdI_3 {yb g : Int → Int} {bl s : Int} (h : nmP yb bl 0 (g 1 - 1) (tE yb bl s)) (h2 : nmP yb bl 0 (g 0 - 1) (tE yb bl (tE yb bl s)) ∧ g (6 + tV yb bl (tE yb bl (tE yb bl s))) = 0) : brdI yb bl s g = (1, tE yb bl (tE yb bl (tE yb bl s)), zu g (6 + tV yb bl (tE yb bl (tE yb bl s))) (tV yb bl (tE yb bl s) + 1)) := by
  rw [brdI, if_pos h, if_pos h2]
theorem wd_TS {yb : Int → Int} {bl s tk ta tl vl n : Int} {c : Int → Int} (h : TS yb bl s tk ta tl vl) : wdS yb bl s n c ↔ wdP yb tk ta tl n c := by
  obtain ⟨h1, h2, h3, h4, h5⟩ := TS_f h
  show (tK yb bl s = 1 ∧ tE yb bl s - tA yb bl s = n ∧ ∀ j, 0 ≤ j → j < n → yb (tA yb bl s + j) = c j) ↔ (tk = 1 ∧ tl = n ∧ ∀ j, 0 ≤ j → j < n → yb (ta + j) = c j)
  rw [h1, h2, h3]
  constructor
  · intro q
    refine ⟨?_, by omega, q.2.2⟩
    have := q.1
    split at this <;> omega
  · intro q
    refine ⟨?_, by omega, q.2.2⟩
    rw [if_neg (by omega)]
    exact q.1
theorem isP_if {z : Int} {P Q : Prop} (h : (z = 1 ∧ Q) ∨ (z = 0 ∧ ¬ Q)) (e : P ↔ Q) : ((¬ z = 0) → isP P = 1) ∧ ((z = 0) → ¬ isP P = 1) ∧ (z = 0 ∨ z = 1) := by
  rcases h with q | q
  · exact ⟨fun _ => isP_1 (e.mpr q.2), fun w => by omega, Or.inr q.1⟩
  · exact ⟨fun w => absurd q.1 w, fun _ => isP_0 (fun w => q.2 (e.mp w)), Or.inl q.1⟩

abbrev rX8_takesShip : Room := { frames := 5, cells := 0, slots := 0, locals := 112 }
set_option maxHeartbeats 1000000 in
set_option maxRecDepth 100000 in
theorem c_X8_takesShip (l_ : Launch) (D : va_G) (cy : Nat → ClassId) (o : Nat → Nat) (ab : Int) (be : Int) (bl : Int) (ta : Int) (tl : Int) (tk : Int) (vl : Int) (yb : Int → Int) (an : Int → Int) (va : Int → Int) (s : Int) (byb : ∀ j : Int, 0 ≤ yb j ∧ yb j ≤ 127) (ban : ∀ j : Int, 0 ≤ an j ∧ an j ≤ 99) (bva : ∀ j : Int, 0 ≤ va j ∧ va j ≤ 99) (hbl : 0 ≤ bl ∧ bl ≤ 150) (hts : TS yb bl s tk ta tl vl) (hs0 : 0 ≤ s) (hn : (0 ≤ an 0 ∧ an 0 ≤ 8) ∧ (0 ≤ an 1 ∧ an 1 ≤ 3)) : CTi l_ D cy yX8_takesShip wsX8_takesShip rX8_takesShip [.ref (o 0)] ([wO cy o ab be bl ta tl tk vl, wB cy (o 10) yb, wA cy (o 11) 104 an, wA cy (o 12) 3 va]) (fun (z : Int) (u : (Int) × (Int) × (Int) × (Int) × (Int → Int) × (Int → Int)) => ((z = 1 ∧ (shpI yb bl s an).1 = 1 ∧ u.2.2.2.2.1 = (shpI yb bl s an).2.2 ∧ s ≤ (shpI yb bl s an).2.1 ∧ TS yb bl (shpI yb bl s an).2.1 u.2.2.1 u.1 u.2.1 u.2.2.2.1) ∨ (z = 0 ∧ (shpI yb bl s an).1 = 0 ∧ u.1 = (shpI yb bl s an).2.1 ∧ 0 ≤ u.1 ∧ u.1 ≤ 150)) ∧ ((0 ≤ u.2.2.2.2.1 0 ∧ u.2.2.2.2.1 0 ≤ 8) ∧ (0 ≤ u.2.2.2.2.1 1 ∧ u.2.2.2.2.1 1 ≤ 3)) ∧ (∀ j : Int, 0 ≤ u.2.2.2.2.1 j ∧ u.2.2.2.2.1 j ≤ 99) ∧ (∀ j : Int, 0 ≤ u.2.2.2.2.2 j ∧ u.2.2.2.2.2 j ≤ 99)) (fun (u : (Int) × (Int) × (Int) × (Int) × (Int → Int) × (Int → Int)) => [wO cy o ab be bl u.1 u.2.1 u.2.2.1 u.2.2.2.1, wB cy (o 10) yb, wA cy (o 11) 104 u.2.2.2.2.1, wA cy (o 12) 3 u.2.2.2.2.2]) := by
  refine CTi.of RX8 cX8_takesShip 1 rfl (by decide) rfl (fun z u hz => z_bl4 hz) (Nat.le_of_ble_eq_true rfl) ?_
  intro p_ e_ s_ m_ ar_ be_ me_ c_ Q_ A_ ls_ F_ K_ W_ hl hret
  have hl : lv_has ls_ 1 [(0, .ref (o 0))] := hl
  obtain ⟨H_, hH_⟩ : ∃ x, x = s_.heap := ⟨_, rfl⟩
  obtain ⟨lo_, hlo_⟩ : ∃ x : List Loc, x = [] := ⟨_, rfl⟩
  have W_ : WD D A_ s_.heap ([wO cy o ab be bl ta tl tk vl, wB cy (o 10) yb, wA cy (o 11) 104 an, wA cy (o 12) 3 va]) H_ lo_ := by rw [hH_, hlo_]; exact W_
  rw [← hlo_]
  suffices hg_ : W p_ l_ e_ rX8_takesShip s_ m_ ar_ be_ me_ c_ H_ lo_ 0 0 Q_ (F0 m_ 0 ls_ []) by rw [hH_] at hg_; exact hg_
  clear hH_ hlo_
  have hinX8 : ∀ w ∈ u_ws RX8 TX8 19, w ∈ wsX8_takesShip := fun w h => List.mem_cons_of_mem _ (List.mem_append_right _ h)
  obtain ⟨tf1, tf2, tf3, tf4, tf5⟩ := TS_f hts
  refine lv_aload_n F_.1 F_.2.1 dX8_takesShip_0 rfl (lv_at hl 0 rfl) ?_
  refine z_get F_ K_ W_ 0 0 17 rfl rfl rfl (C := RX8) (T := TX8) (N := 19) rfl (by decide) hinX8 (List.mem_of_getElem? (i := 1) rfl) dX8_takesShip_1 ?_
  refine z_iconst F_ dX8_takesShip_4 ?_
  refine z_iald F_ K_ W_ 2 0 rfl rfl (by omega) (by decide) dX8_takesShip_5 ?_
  have b_1 := ban 1
  refine z_iconst F_ dX8_takesShip_6 ?_
  refine z_icmp_ne (tgt := 12) F_ (by omega) dX8_takesShip_7 (by decide) (fun c7 => ?_) (fun c7 => ?_)
  · refine lv_aload_n F_.1 F_.2.1 dX8_takesShip_12 rfl (lv_at hl 0 rfl) ?_
    refine z_callVv F_ K_ W_ [] (c_X8_goBehind l_ D cy o ab be bl ta tl tk vl yb byb (by first | omega | assumption) (by first | omega | assumption)) 0 rfl gX8_takesShip_X8_goBehind rfl (by decide +kernel) ⟨⟨Nat.le_of_ble_eq_true rfl, Nat.le_of_ble_eq_true rfl⟩, rfl, rfl, Nat.zero_le _, Nat.zero_le _⟩ 0 0 7 rfl rfl rfl rfl hl.1 rfl (Nat.le_of_ble_eq_true rfl) [0, 1] [2, 3] [wA cy (o 11) 104 an, wA cy (o 12) 3 va] (fun (u_ : (Int) × (Int) × (Int) × (Int)) => [wO cy o ab be bl u_.1 u_.2.1 u_.2.2.1 u_.2.2.2, wB cy (o 10) yb, wA cy (o 11) 104 an, wA cy (o 12) 3 va]) 4 (by decide +kernel) rfl rfl rfl (fun _ => rfl) (fun _ => rfl) (fun _ => rfl) dX8_takesShip_13 (fun u_ H_ lo_ hw_ W_ => ?_)
    obtain ⟨ta2_3, tl2_4, tk2_5, vl2_6⟩ := u_
    have W_ : WD D A_ s_.heap ([wO cy o ab be bl ta2_3 tl2_4 tk2_5 vl2_6, wB cy (o 10) yb, wA cy (o 11) 104 an, wA cy (o 12) 3 va]) H_ lo_ := W_
    replace hw_ : (TS yb bl (ta + tl) tk2_5 ta2_3 tl2_4 vl2_6) := hw_
    have f13_v := hw_
    clear hw_
    have hts1 : TS yb bl (tE yb bl s) tk2_5 ta2_3 tl2_4 vl2_6 := by rw [tf3]; exact f13_v
    obtain ⟨ug1, ug2, ug3, ug4, ug5⟩ := TS_f hts1
    refine lv_aload_n F_.1 F_.2.1 dX8_takesShip_16 rfl (lv_at hl 0 rfl) ?_
    refine z_iconst F_ dX8_takesShip_17 ?_
    refine z_iconst F_ dX8_takesShip_18 ?_
    refine z_iconst F_ dX8_takesShip_19 ?_
    refine z_callVi F_ K_ W_ [.int (zi 0), .int (zi 0), .int (zi 5)] (c_X8_takes l_ D cy o ab be bl ta2_3 tl2_4 tk2_5 vl2_6 yb va (tE yb bl s) 0 0 5 byb bva (by first | omega | assumption) (by first | omega | assumption) (by first | omega | assumption) (by first | omega | assumption) (by exact hts1) (by omega) (by first | omega | assumption) (by first | omega | assumption)) 3 rfl gX8_takesShip_X8_takes rfl (by decide +kernel) ⟨⟨Nat.le_of_ble_eq_true rfl, Nat.le_of_ble_eq_true rfl⟩, rfl, rfl, Nat.zero_le _, Nat.zero_le _⟩ 0 0 7 rfl rfl rfl rfl hl.1 rfl (Nat.le_of_ble_eq_true rfl) [0, 1, 3] [2] [wA cy (o 11) 104 an] (fun (u_ : (Int) × (Int) × (Int) × (Int) × (Int → Int)) => [wO cy o ab be bl u_.1 u_.2.1 u_.2.2.1 u_.2.2.2.1, wB cy (o 10) yb, wA cy (o 11) 104 an, wA cy (o 12) 3 u_.2.2.2.2]) 4 (by decide +kernel) rfl rfl rfl (fun _ => rfl) (fun _ => rfl) (fun _ => rfl) dX8_takesShip_20 (fun z_7 u_ H_ lo_ hw_ W_ => ?_)
    obtain ⟨ta2_8, tl2_9, tk2_10, vl2_11, va2_12⟩ := u_
    have W_ : WD D A_ s_.heap ([wO cy o ab be bl ta2_8 tl2_9 tk2_10 vl2_11, wB cy (o 10) yb, wA cy (o 11) 104 an, wA cy (o 12) 3 va2_12]) H_ lo_ := W_
    replace hw_ : ((z_7 = 1 ∧ (nmP yb bl 0 5 (tE yb bl s)) ∧ va2_12 = zu va 0 (tV yb bl (tE yb bl s)) ∧ TS yb bl (tE yb bl (tE yb bl s)) tk2_10 ta2_8 tl2_9 vl2_11) ∨ (z_7 = 0 ∧ ¬ (nmP yb bl 0 5 (tE yb bl s)) ∧ va2_12 = va ∧ ta2_8 = ta2_3 ∧ tl2_9 = tl2_4 ∧ tk2_10 = tk2_5 ∧ vl2_11 = vl2_6)) ∧ (∀ j : Int, 0 ≤ va2_12 j ∧ va2_12 j ≤ 99) := hw_
    obtain ⟨f20_v, f20_B_V_g⟩ := hw_
    refine z_if_ne (tgt := 28) F_ (by omega) dX8_takesShip_23 (by decide) (fun c23 => ?_) (fun c23 => ?_)
    · have hf := f20_v.resolve_right (fun q => c23 q.1)
      have hnm : tK yb bl (tE yb bl s) = 2 ∧ 0 ≤ (tV yb bl (tE yb bl s)) ∧ (tV yb bl (tE yb bl s)) ≤ 5 := hf.2.1
      obtain ⟨vg1, vg2, vg3, vg4, vg5⟩ := TS_f hf.2.2.2
      refine lv_aload_n F_.1 F_.2.1 dX8_takesShip_28 rfl (lv_at hl 0 rfl) ?_
      refine z_get F_ K_ W_ 0 0 17 rfl rfl rfl (C := RX8) (T := TX8) (N := 19) rfl (by decide) hinX8 (List.mem_of_getElem? (i := 1) rfl) dX8_takesShip_29 ?_
      refine z_bipush F_ (by decide) dX8_takesShip_32 ?_
      refine lv_aload_n F_.1 F_.2.1 dX8_takesShip_34 rfl (lv_at hl 0 rfl) ?_
      refine z_get F_ K_ W_ 0 0 17 rfl rfl rfl (C := RX8) (T := TX8) (N := 19) rfl (by decide) hinX8 (List.mem_of_getElem? (i := 1) rfl) dX8_takesShip_35 ?_
      refine z_iconst F_ dX8_takesShip_38 ?_
      refine z_iald F_ K_ W_ 2 0 rfl rfl (by omega) (by decide) dX8_takesShip_39 ?_
      refine z_iadd F_ dX8_takesShip_40 ?_
      refine lv_aload_n F_.1 F_.2.1 dX8_takesShip_41 rfl (lv_at hl 0 rfl) ?_
      refine z_get F_ K_ W_ 0 0 18 rfl rfl rfl (C := RX8) (T := TX8) (N := 19) rfl (by decide) hinX8 (List.mem_of_getElem? (i := 2) rfl) dX8_takesShip_42 ?_
      refine z_iconst F_ dX8_takesShip_45 ?_
      refine z_iald F_ K_ W_ 3 0 rfl rfl (by omega) (by decide) dX8_takesShip_46 ?_
      have b_13 := f20_B_V_g 0
      have i_14 : va2_12 0 = (tV yb bl (tE yb bl s)) := by rw [hf.2.2.1]; exact zu_s _ _ _
      rw [i_14]
      have b_15 := f20_B_V_g 0
      rw [i_14] at b_15
      refine z_iast (sg' := [wO cy o ab be bl ta2_8 tl2_9 tk2_10 vl2_11, wB cy (o 10) yb, wA cy (o 11) 104 (zu an (17 + (an 1)) (tV yb bl (tE yb bl s))), wA cy (o 12) 3 va2_12]) F_ K_ W_ 2 0 rfl rfl rfl (by omega) (by decide) dX8_takesShip_47 (fun H_ lo_ W_ => ?_)
      obtain ⟨g_16, eg_16⟩ : ∃ x_ : Int → Int, x_ = zu an (17 + (an 1)) (tV yb bl (tE yb bl s)) := ⟨_, rfl⟩
      rw [← eg_16] at W_
      have bg_16 : ∀ j : Int, 0 ≤ g_16 j ∧ g_16 j ≤ 99 := by rw [eg_16]; exact zu_b ban (by omega)
      refine lv_aload_n F_.1 F_.2.1 dX8_takesShip_48 rfl (lv_at hl 0 rfl) ?_
      refine z_get F_ K_ W_ 0 0 17 rfl rfl rfl (C := RX8) (T := TX8) (N := 19) rfl (by decide) hinX8 (List.mem_of_getElem? (i := 1) rfl) dX8_takesShip_49 ?_
      refine z_iconst F_ dX8_takesShip_52 ?_
      refine lv_dup2_11 F_.1 F_.2.1 dX8_takesShip_53 rfl rfl ?_
      refine z_iald F_ K_ W_ 2 0 rfl rfl (by omega) (by decide) dX8_takesShip_54 ?_
      have b_17 := bg_16 1
      have i_18 : g_16 1 = an 1 := by rw [eg_16]; repeat (first | rw [zu_s] | rw [zu_n _ _ (by omega)])
      rw [i_18]
      have b_19 := bg_16 1
      rw [i_18] at b_19
      refine z_iconst F_ dX8_takesShip_55 ?_
      refine z_iadd F_ dX8_takesShip_56 ?_
      refine z_iast (sg' := [wO cy o ab be bl ta2_8 tl2_9 tk2_10 vl2_11, wB cy (o 10) yb, wA cy (o 11) 104 (zu g_16 1 ((an 1) + 1)), wA cy (o 12) 3 va2_12]) F_ K_ W_ 2 0 rfl rfl rfl (by omega) (by decide) dX8_takesShip_57 (fun H_ lo_ W_ => ?_)
      obtain ⟨g_20, eg_20⟩ : ∃ x_ : Int → Int, x_ = zu g_16 1 ((an 1) + 1) := ⟨_, rfl⟩
      rw [← eg_20] at W_
      have bg_20 : ∀ j : Int, 0 ≤ g_20 j ∧ g_20 j ≤ 99 := by rw [eg_20]; exact zu_b bg_16 (by omega)
      have hsr : g_20 = shpR an (tV yb bl (tE yb bl s)) := by rw [eg_20, eg_16]; rfl
      refine z_iconst F_ dX8_takesShip_58 ?_
      exact hret _ _ _ _ 1 (ta2_8, tl2_9, tk2_10, vl2_11, g_20, va2_12) dX8_takesShip_59 ⟨(by have hr := shpI_1 (yb := yb) (bl := bl) (s := s) (g := an) (by omega) hf.2.1; exact Or.inl ⟨rfl, by rw [hr], by rw [hr]; exact hsr, by rw [hr]; show s ≤ tE yb bl (tE yb bl s); omega, by rw [hr]; exact hf.2.2.2⟩), (by show (0 ≤ g_20 0 ∧ g_20 0 ≤ 8) ∧ (0 ≤ g_20 1 ∧ g_20 1 ≤ 3); have q := shpR_n (g := an) (tV yb bl (tE yb bl s)) hn.2; rw [hsr, q.1, q.2]; omega), bg_20, f20_B_V_g⟩ W_
    · refine z_iconst F_ dX8_takesShip_26 ?_
      exact hret _ _ _ _ 0 (ta2_8, tl2_9, tk2_10, vl2_11, an, va2_12) dX8_takesShip_27 ⟨(by have hf := f20_v.resolve_left (fun q => absurd q.1 (by omega)); have hr := shpI_0 (yb := yb) (bl := bl) (s := s) (g := an) (by omega) hf.2.1; exact Or.inr ⟨rfl, by rw [hr], by rw [hr]; exact hf.2.2.2.1.trans ug2.symm, by omega, by omega⟩), (by exact hn), ban, f20_B_V_g⟩ W_
  · refine z_iconst F_ dX8_takesShip_10 ?_
    exact hret _ _ _ _ 0 (ta, tl, tk, vl, an, va) dX8_takesShip_11 ⟨(by exact Or.inr ⟨rfl, by rw [shpI, if_pos (by omega)], by rw [shpI, if_pos (by omega)]; exact tf2.symm, by omega, by omega⟩), (by exact hn), ban, bva⟩ W_
abbrev rX8_takesMan : Room := { frames := 5, cells := 0, slots := 0, locals := 112 }
set_option maxHeartbeats 1000000 in
set_option maxRecDepth 100000 in
theorem c_X8_takesMan (l_ : Launch) (D : va_G) (cy : Nat → ClassId) (o : Nat → Nat) (ab : Int) (be : Int) (bl : Int) (ta : Int) (tl : Int) (tk : Int) (vl : Int) (yb : Int → Int) (an : Int → Int) (va : Int → Int) (s : Int) (byb : ∀ j : Int, 0 ≤ yb j ∧ yb j ≤ 127) (ban : ∀ j : Int, 0 ≤ an j ∧ an j ≤ 99) (bva : ∀ j : Int, 0 ≤ va j ∧ va j ≤ 99) (hbl : 0 ≤ bl ∧ bl ≤ 150) (hts : TS yb bl s tk ta tl vl) (hs0 : 0 ≤ s) (hn : (0 ≤ an 0 ∧ an 0 ≤ 8) ∧ (0 ≤ an 1 ∧ an 1 ≤ 3)) : CTi l_ D cy yX8_takesMan wsX8_takesMan rX8_takesMan [.ref (o 0)] ([wO cy o ab be bl ta tl tk vl, wB cy (o 10) yb, wA cy (o 11) 104 an, wA cy (o 12) 3 va]) (fun (z : Int) (u : (Int) × (Int) × (Int) × (Int) × (Int → Int) × (Int → Int)) => ((z = 1 ∧ (manI yb bl s an).1 = 1 ∧ u.2.2.2.2.1 = (manI yb bl s an).2.2 ∧ s ≤ (manI yb bl s an).2.1 ∧ TS yb bl (manI yb bl s an).2.1 u.2.2.1 u.1 u.2.1 u.2.2.2.1) ∨ (z = 0 ∧ (manI yb bl s an).1 = 0 ∧ u.1 = (manI yb bl s an).2.1 ∧ 0 ≤ u.1 ∧ u.1 ≤ 150)) ∧ ((0 ≤ u.2.2.2.2.1 0 ∧ u.2.2.2.2.1 0 ≤ 8) ∧ (0 ≤ u.2.2.2.2.1 1 ∧ u.2.2.2.2.1 1 ≤ 3)) ∧ (∀ j : Int, 0 ≤ u.2.2.2.2.1 j ∧ u.2.2.2.2.1 j ≤ 99) ∧ (∀ j : Int, 0 ≤ u.2.2.2.2.2 j ∧ u.2.2.2.2.2 j ≤ 99)) (fun (u : (Int) × (Int) × (Int) × (Int) × (Int → Int) × (Int → Int)) => [wO cy o ab be bl u.1 u.2.1 u.2.2.1 u.2.2.2.1, wB cy (o 10) yb, wA cy (o 11) 104 u.2.2.2.2.1, wA cy (o 12) 3 u.2.2.2.2.2]) := by
  refine CTi.of RX8 cX8_takesMan 1 rfl (by decide) rfl (fun z u hz => z_bl4 hz) (Nat.le_of_ble_eq_true rfl) ?_
  intro p_ e_ s_ m_ ar_ be_ me_ c_ Q_ A_ ls_ F_ K_ W_ hl hret
  have hl : lv_has ls_ 1 [(0, .ref (o 0))] := hl
  obtain ⟨H_, hH_⟩ : ∃ x, x = s_.heap := ⟨_, rfl⟩
  obtain ⟨lo_, hlo_⟩ : ∃ x : List Loc, x = [] := ⟨_, rfl⟩
  have W_ : WD D A_ s_.heap ([wO cy o ab be bl ta tl tk vl, wB cy (o 10) yb, wA cy (o 11) 104 an, wA cy (o 12) 3 va]) H_ lo_ := by rw [hH_, hlo_]; exact W_
  rw [← hlo_]
  suffices hg_ : W p_ l_ e_ rX8_takesMan s_ m_ ar_ be_ me_ c_ H_ lo_ 0 0 Q_ (F0 m_ 0 ls_ []) by rw [hH_] at hg_; exact hg_
  clear hH_ hlo_
  have hinX8 : ∀ w ∈ u_ws RX8 TX8 19, w ∈ wsX8_takesMan := fun w h => List.mem_cons_of_mem _ (List.mem_append_right _ h)
  obtain ⟨tf1, tf2, tf3, tf4, tf5⟩ := TS_f hts
  refine lv_aload_n F_.1 F_.2.1 dX8_takesMan_0 rfl (lv_at hl 0 rfl) ?_
  refine z_get F_ K_ W_ 0 0 17 rfl rfl rfl (C := RX8) (T := TX8) (N := 19) rfl (by decide) hinX8 (List.mem_of_getElem? (i := 1) rfl) dX8_takesMan_1 ?_
  refine z_iconst F_ dX8_takesMan_4 ?_
  refine z_iald F_ K_ W_ 2 0 rfl rfl (by omega) (by decide) dX8_takesMan_5 ?_
  have b_1 := ban 0
  refine z_bipush F_ (by decide) dX8_takesMan_6 ?_
  refine z_icmp_ne (tgt := 13) F_ (by omega) dX8_takesMan_8 (by decide) (fun c8 => ?_) (fun c8 => ?_)
  · refine lv_aload_n F_.1 F_.2.1 dX8_takesMan_13 rfl (lv_at hl 0 rfl) ?_
    refine z_callVv F_ K_ W_ [] (c_X8_goBehind l_ D cy o ab be bl ta tl tk vl yb byb (by first | omega | assumption) (by first | omega | assumption)) 0 rfl gX8_takesMan_X8_goBehind rfl (by decide +kernel) ⟨⟨Nat.le_of_ble_eq_true rfl, Nat.le_of_ble_eq_true rfl⟩, rfl, rfl, Nat.zero_le _, Nat.zero_le _⟩ 0 0 7 rfl rfl rfl rfl hl.1 rfl (Nat.le_of_ble_eq_true rfl) [0, 1] [2, 3] [wA cy (o 11) 104 an, wA cy (o 12) 3 va] (fun (u_ : (Int) × (Int) × (Int) × (Int)) => [wO cy o ab be bl u_.1 u_.2.1 u_.2.2.1 u_.2.2.2, wB cy (o 10) yb, wA cy (o 11) 104 an, wA cy (o 12) 3 va]) 4 (by decide +kernel) rfl rfl rfl (fun _ => rfl) (fun _ => rfl) (fun _ => rfl) dX8_takesMan_14 (fun u_ H_ lo_ hw_ W_ => ?_)
    obtain ⟨ta2_3, tl2_4, tk2_5, vl2_6⟩ := u_
    have W_ : WD D A_ s_.heap ([wO cy o ab be bl ta2_3 tl2_4 tk2_5 vl2_6, wB cy (o 10) yb, wA cy (o 11) 104 an, wA cy (o 12) 3 va]) H_ lo_ := W_
    replace hw_ : (TS yb bl (ta + tl) tk2_5 ta2_3 tl2_4 vl2_6) := hw_
    have f14_v := hw_
    clear hw_
    have hts1 : TS yb bl (tE yb bl s) tk2_5 ta2_3 tl2_4 vl2_6 := by rw [tf3]; exact f14_v
    obtain ⟨ug1, ug2, ug3, ug4, ug5⟩ := TS_f hts1
    refine lv_aload_n F_.1 F_.2.1 dX8_takesMan_17 rfl (lv_at hl 0 rfl) ?_
    refine z_iconst F_ dX8_takesMan_18 ?_
    refine z_iconst F_ dX8_takesMan_19 ?_
    refine z_iconst F_ dX8_takesMan_20 ?_
    refine z_callVi F_ K_ W_ [.int (zi 0), .int (zi 0), .int (zi 5)] (c_X8_takes l_ D cy o ab be bl ta2_3 tl2_4 tk2_5 vl2_6 yb va (tE yb bl s) 0 0 5 byb bva (by first | omega | assumption) (by first | omega | assumption) (by first | omega | assumption) (by first | omega | assumption) (by exact hts1) (by omega) (by first | omega | assumption) (by first | omega | assumption)) 3 rfl gX8_takesMan_X8_takes rfl (by decide +kernel) ⟨⟨Nat.le_of_ble_eq_true rfl, Nat.le_of_ble_eq_true rfl⟩, rfl, rfl, Nat.zero_le _, Nat.zero_le _⟩ 0 0 7 rfl rfl rfl rfl hl.1 rfl (Nat.le_of_ble_eq_true rfl) [0, 1, 3] [2] [wA cy (o 11) 104 an] (fun (u_ : (Int) × (Int) × (Int) × (Int) × (Int → Int)) => [wO cy o ab be bl u_.1 u_.2.1 u_.2.2.1 u_.2.2.2.1, wB cy (o 10) yb, wA cy (o 11) 104 an, wA cy (o 12) 3 u_.2.2.2.2]) 4 (by decide +kernel) rfl rfl rfl (fun _ => rfl) (fun _ => rfl) (fun _ => rfl) dX8_takesMan_21 (fun z_7 u_ H_ lo_ hw_ W_ => ?_)
    obtain ⟨ta2_8, tl2_9, tk2_10, vl2_11, va2_12⟩ := u_
    have W_ : WD D A_ s_.heap ([wO cy o ab be bl ta2_8 tl2_9 tk2_10 vl2_11, wB cy (o 10) yb, wA cy (o 11) 104 an, wA cy (o 12) 3 va2_12]) H_ lo_ := W_
    replace hw_ : ((z_7 = 1 ∧ (nmP yb bl 0 5 (tE yb bl s)) ∧ va2_12 = zu va 0 (tV yb bl (tE yb bl s)) ∧ TS yb bl (tE yb bl (tE yb bl s)) tk2_10 ta2_8 tl2_9 vl2_11) ∨ (z_7 = 0 ∧ ¬ (nmP yb bl 0 5 (tE yb bl s)) ∧ va2_12 = va ∧ ta2_8 = ta2_3 ∧ tl2_9 = tl2_4 ∧ tk2_10 = tk2_5 ∧ vl2_11 = vl2_6)) ∧ (∀ j : Int, 0 ≤ va2_12 j ∧ va2_12 j ≤ 99) := hw_
    obtain ⟨f21_v, f21_B_V_g⟩ := hw_
    refine z_if_eq (tgt := 79) F_ (by omega) dX8_takesMan_24 (by decide) (fun c24 => ?_) (fun c24 => ?_)
    · refine z_iconst F_ dX8_takesMan_79 ?_
      exact hret _ _ _ _ 0 (ta2_8, tl2_9, tk2_10, vl2_11, an, va2_12) dX8_takesMan_80 ⟨(by first | (have hf := f73_v.resolve_left (fun q => absurd q.1 (by omega)); exact absurd (show nmP yb bl 0 9 (tE yb bl (tE yb bl (tE yb bl s))) from ⟨by omega, by have h := wg4 (by omega); omega, by have h := wg4 (by omega); omega⟩) hf.2.1) | (have hr := manI_3 (yb := yb) (bl := bl) (s := s) (g := an) (by omega) hf1.2.1 hf2.2.1 (fun q => by have h := wg4 (by omega); have h1 := q.1; have h2 := q.2; omega); exact Or.inr ⟨rfl, by rw [hr], by rw [hr]; exact wg2.symm, by omega, by omega⟩) | (have hf := f32_v.resolve_left (fun q => absurd q.1 (by omega)); have hr := manI_2 (yb := yb) (bl := bl) (s := s) (g := an) (by omega) hf1.2.1 hf.2.1; exact Or.inr ⟨rfl, by rw [hr], by rw [hr]; exact hf.2.2.2.1.trans vg2.symm, by omega, by omega⟩) | (have hf := f21_v.resolve_left (fun q => absurd q.1 (by omega)); have hr := manI_1 (yb := yb) (bl := bl) (s := s) (g := an) (by omega) hf.2.1; exact Or.inr ⟨rfl, by rw [hr], by rw [hr]; exact hf.2.2.2.1.trans ug2.symm, by omega, by omega⟩)), (by exact hn), ban, f21_B_V_g⟩ W_
    · have hf1 := f21_v.resolve_right (fun q => c24 q.1)
      have hnm1 : tK yb bl (tE yb bl s) = 2 ∧ 0 ≤ (tV yb bl (tE yb bl s)) ∧ (tV yb bl (tE yb bl s)) ≤ 5 := hf1.2.1
      obtain ⟨vg1, vg2, vg3, vg4, vg5⟩ := TS_f hf1.2.2.2
      refine lv_aload_n F_.1 F_.2.1 dX8_takesMan_27 rfl (lv_at hl 0 rfl) ?_
      refine z_iconst F_ dX8_takesMan_28 ?_
      refine z_iconst F_ dX8_takesMan_29 ?_
      refine z_bipush F_ (by decide) dX8_takesMan_30 ?_
      refine z_callVi F_ K_ W_ [.int (zi 1), .int (zi 1), .int (zi 9)] (c_X8_takes l_ D cy o ab be bl ta2_8 tl2_9 tk2_10 vl2_11 yb va2_12 (tE yb bl (tE yb bl s)) 1 1 9 byb f21_B_V_g (by first | omega | assumption) (by first | omega | assumption) (by first | omega | assumption) (by first | omega | assumption) (by exact hf1.2.2.2) (by omega) (by first | omega | assumption) (by first | omega | assumption)) 3 rfl gX8_takesMan_X8_takes rfl (by decide +kernel) ⟨⟨Nat.le_of_ble_eq_true rfl, Nat.le_of_ble_eq_true rfl⟩, rfl, rfl, Nat.zero_le _, Nat.zero_le _⟩ 0 0 7 rfl rfl rfl rfl hl.1 rfl (Nat.le_of_ble_eq_true rfl) [0, 1, 3] [2] [wA cy (o 11) 104 an] (fun (u_ : (Int) × (Int) × (Int) × (Int) × (Int → Int)) => [wO cy o ab be bl u_.1 u_.2.1 u_.2.2.1 u_.2.2.2.1, wB cy (o 10) yb, wA cy (o 11) 104 an, wA cy (o 12) 3 u_.2.2.2.2]) 4 (by decide +kernel) rfl rfl rfl (fun _ => rfl) (fun _ => rfl) (fun _ => rfl) dX8_takesMan_32 (fun z_13 u_ H_ lo_ hw_ W_ => ?_)
      obtain ⟨ta2_14, tl2_15, tk2_16, vl2_17, va2_18⟩ := u_
      have W_ : WD D A_ s_.heap ([wO cy o ab be bl ta2_14 tl2_15 tk2_16 vl2_17, wB cy (o 10) yb, wA cy (o 11) 104 an, wA cy (o 12) 3 va2_18]) H_ lo_ := W_
      replace hw_ : ((z_13 = 1 ∧ (nmP yb bl 1 9 (tE yb bl (tE yb bl s))) ∧ va2_18 = zu va2_12 1 (tV yb bl (tE yb bl (tE yb bl s))) ∧ TS yb bl (tE yb bl (tE yb bl (tE yb bl s))) tk2_16 ta2_14 tl2_15 vl2_17) ∨ (z_13 = 0 ∧ ¬ (nmP yb bl 1 9 (tE yb bl (tE yb bl s))) ∧ va2_18 = va2_12 ∧ ta2_14 = ta2_8 ∧ tl2_15 = tl2_9 ∧ tk2_16 = tk2_10 ∧ vl2_17 = vl2_11)) ∧ (∀ j : Int, 0 ≤ va2_18 j ∧ va2_18 j ≤ 99) := hw_
      obtain ⟨f32_v, f32_B_V_g⟩ := hw_
      refine z_if_eq (tgt := 79) F_ (by omega) dX8_takesMan_35 (by decide) (fun c35 => ?_) (fun c35 => ?_)
      · refine z_iconst F_ dX8_takesMan_79 ?_
        exact hret _ _ _ _ 0 (ta2_14, tl2_15, tk2_16, vl2_17, an, va2_18) dX8_takesMan_80 ⟨(by first | (have hf := f73_v.resolve_left (fun q => absurd q.1 (by omega)); exact absurd (show nmP yb bl 0 9 (tE yb bl (tE yb bl (tE yb bl s))) from ⟨by omega, by have h := wg4 (by omega); omega, by have h := wg4 (by omega); omega⟩) hf.2.1) | (have hr := manI_3 (yb := yb) (bl := bl) (s := s) (g := an) (by omega) hf1.2.1 hf2.2.1 (fun q => by have h := wg4 (by omega); have h1 := q.1; have h2 := q.2; omega); exact Or.inr ⟨rfl, by rw [hr], by rw [hr]; exact wg2.symm, by omega, by omega⟩) | (have hf := f32_v.resolve_left (fun q => absurd q.1 (by omega)); have hr := manI_2 (yb := yb) (bl := bl) (s := s) (g := an) (by omega) hf1.2.1 hf.2.1; exact Or.inr ⟨rfl, by rw [hr], by rw [hr]; exact hf.2.2.2.1.trans vg2.symm, by omega, by omega⟩) | (have hf := f21_v.resolve_left (fun q => absurd q.1 (by omega)); have hr := manI_1 (yb := yb) (bl := bl) (s := s) (g := an) (by omega) hf.2.1; exact Or.inr ⟨rfl, by rw [hr], by rw [hr]; exact hf.2.2.2.1.trans ug2.symm, by omega, by omega⟩)), (by exact hn), ban, f32_B_V_g⟩ W_
      · have hf2 := f32_v.resolve_right (fun q => c35 q.1)
        have hnm2 : tK yb bl (tE yb bl (tE yb bl s)) = 2 ∧ 1 ≤ (tV yb bl (tE yb bl (tE yb bl s))) ∧ (tV yb bl (tE yb bl (tE yb bl s))) ≤ 9 := hf2.2.1
        obtain ⟨wg1, wg2, wg3, wg4, wg5⟩ := TS_f hf2.2.2.2
        refine lv_aload_n F_.1 F_.2.1 dX8_takesMan_38 rfl (lv_at hl 0 rfl) ?_
        refine z_get F_ K_ W_ 0 0 15 rfl rfl rfl (C := RX8) (T := TX8) (N := 19) rfl (by decide) hinX8 (List.mem_of_getElem? (i := 2) rfl) dX8_takesMan_39 ?_
        refine z_iconst F_ dX8_takesMan_42 ?_
        refine z_icmp_ne (tgt := 79) F_ (by omega) dX8_takesMan_43 (by decide) (fun c43 => ?_) (fun c43 => ?_)
        · refine z_iconst F_ dX8_takesMan_79 ?_
          exact hret _ _ _ _ 0 (ta2_14, tl2_15, tk2_16, vl2_17, an, va2_18) dX8_takesMan_80 ⟨(by first | (have hf := f73_v.resolve_left (fun q => absurd q.1 (by omega)); exact absurd (show nmP yb bl 0 9 (tE yb bl (tE yb bl (tE yb bl s))) from ⟨by omega, by have h := wg4 (by omega); omega, by have h := wg4 (by omega); omega⟩) hf.2.1) | (have hr := manI_3 (yb := yb) (bl := bl) (s := s) (g := an) (by omega) hf1.2.1 hf2.2.1 (fun q => by have h := wg4 (by omega); have h1 := q.1; have h2 := q.2; omega); exact Or.inr ⟨rfl, by rw [hr], by rw [hr]; exact wg2.symm, by omega, by omega⟩) | (have hf := f32_v.resolve_left (fun q => absurd q.1 (by omega)); have hr := manI_2 (yb := yb) (bl := bl) (s := s) (g := an) (by omega) hf1.2.1 hf.2.1; exact Or.inr ⟨rfl, by rw [hr], by rw [hr]; exact hf.2.2.2.1.trans vg2.symm, by omega, by omega⟩) | (have hf := f21_v.resolve_left (fun q => absurd q.1 (by omega)); have hr := manI_1 (yb := yb) (bl := bl) (s := s) (g := an) (by omega) hf.2.1; exact Or.inr ⟨rfl, by rw [hr], by rw [hr]; exact hf.2.2.2.1.trans ug2.symm, by omega, by omega⟩)), (by exact hn), ban, f32_B_V_g⟩ W_
        · refine lv_aload_n F_.1 F_.2.1 dX8_takesMan_46 rfl (lv_at hl 0 rfl) ?_
          refine z_get F_ K_ W_ 0 0 16 rfl rfl rfl (C := RX8) (T := TX8) (N := 19) rfl (by decide) hinX8 (List.mem_of_getElem? (i := 3) rfl) dX8_takesMan_47 ?_
          refine z_bipush F_ (by decide) dX8_takesMan_50 ?_
          have J68 : ∀ (g68 : ((vl2_17 = 9)) ∨ ((¬ vl2_17 = 9) ∧ (vl2_17 < an 1))) (ls_ : Array Slot) (H_ : Heap) (lo_ : List Loc), WD D A_ s_.heap ([wO cy o ab be bl ta2_14 tl2_15 tk2_16 vl2_17, wB cy (o 10) yb, wA cy (o 11) 104 an, wA cy (o 12) 3 va2_18]) H_ lo_ → lv_has ls_ 1 [(0, .ref (o 0))] → W p_ l_ e_ rX8_takesMan s_ m_ ar_ be_ me_ c_ H_ lo_ 0 0 Q_ (F0 m_ 68 ls_ []) := by
            intro g68 ls_ H_ lo_ W_ hl
            refine lv_aload_n F_.1 F_.2.1 dX8_takesMan_68 rfl (lv_at hl 0 rfl) ?_
            refine z_iconst F_ dX8_takesMan_69 ?_
            refine z_iconst F_ dX8_takesMan_70 ?_
            refine z_bipush F_ (by decide) dX8_takesMan_71 ?_
            refine z_callVi F_ K_ W_ [.int (zi 2), .int (zi 0), .int (zi 9)] (c_X8_takes l_ D cy o ab be bl ta2_14 tl2_15 tk2_16 vl2_17 yb va2_18 (tE yb bl (tE yb bl (tE yb bl s))) 2 0 9 byb f32_B_V_g (by first | omega | assumption) (by first | omega | assumption) (by first | omega | assumption) (by first | omega | assumption) (by exact hf2.2.2.2) (by omega) (by first | omega | assumption) (by first | omega | assumption)) 3 rfl gX8_takesMan_X8_takes rfl (by decide +kernel) ⟨⟨Nat.le_of_ble_eq_true rfl, Nat.le_of_ble_eq_true rfl⟩, rfl, rfl, Nat.zero_le _, Nat.zero_le _⟩ 0 0 7 rfl rfl rfl rfl hl.1 rfl (Nat.le_of_ble_eq_true rfl) [0, 1, 3] [2] [wA cy (o 11) 104 an] (fun (u_ : (Int) × (Int) × (Int) × (Int) × (Int → Int)) => [wO cy o ab be bl u_.1 u_.2.1 u_.2.2.1 u_.2.2.2.1, wB cy (o 10) yb, wA cy (o 11) 104 an, wA cy (o 12) 3 u_.2.2.2.2]) 4 (by decide +kernel) rfl rfl rfl (fun _ => rfl) (fun _ => rfl) (fun _ => rfl) dX8_takesMan_73 (fun z_19 u_ H_ lo_ hw_ W_ => ?_)
            obtain ⟨ta2_20, tl2_21, tk2_22, vl2_23, va2_24⟩ := u_
            have W_ : WD D A_ s_.heap ([wO cy o ab be bl ta2_20 tl2_21 tk2_22 vl2_23, wB cy (o 10) yb, wA cy (o 11) 104 an, wA cy (o 12) 3 va2_24]) H_ lo_ := W_
            replace hw_ : ((z_19 = 1 ∧ (nmP yb bl 0 9 (tE yb bl (tE yb bl (tE yb bl s)))) ∧ va2_24 = zu va2_18 2 (tV yb bl (tE yb bl (tE yb bl (tE yb bl s)))) ∧ TS yb bl (tE yb bl (tE yb bl (tE yb bl (tE yb bl s)))) tk2_22 ta2_20 tl2_21 vl2_23) ∨ (z_19 = 0 ∧ ¬ (nmP yb bl 0 9 (tE yb bl (tE yb bl (tE yb bl s)))) ∧ va2_24 = va2_18 ∧ ta2_20 = ta2_14 ∧ tl2_21 = tl2_15 ∧ tk2_22 = tk2_16 ∧ vl2_23 = vl2_17)) ∧ (∀ j : Int, 0 ≤ va2_24 j ∧ va2_24 j ≤ 99) := hw_
            obtain ⟨f73_v, f73_B_V_g⟩ := hw_
            refine z_if_ne (tgt := 81) F_ (by omega) dX8_takesMan_76 (by decide) (fun c76 => ?_) (fun c76 => ?_)
            · have hf3 := f73_v.resolve_right (fun q => c76 q.1)
              have hnm3 : tK yb bl (tE yb bl (tE yb bl (tE yb bl s))) = 2 ∧ 0 ≤ (tV yb bl (tE yb bl (tE yb bl (tE yb bl s)))) ∧ (tV yb bl (tE yb bl (tE yb bl (tE yb bl s)))) ≤ 9 := hf3.2.1
              obtain ⟨xg1, xg2, xg3, xg4, xg5⟩ := TS_f hf3.2.2.2
              have htv3 := wg4 (by omega)
              refine lv_aload_n F_.1 F_.2.1 dX8_takesMan_81 rfl (lv_at hl 0 rfl) ?_
              refine z_get F_ K_ W_ 0 0 17 rfl rfl rfl (C := RX8) (T := TX8) (N := 19) rfl (by decide) hinX8 (List.mem_of_getElem? (i := 1) rfl) dX8_takesMan_82 ?_
              refine lv_aload_n F_.1 F_.2.1 dX8_takesMan_85 rfl (lv_at hl 0 rfl) ?_
              refine z_get F_ K_ W_ 0 0 18 rfl rfl rfl (C := RX8) (T := TX8) (N := 19) rfl (by decide) hinX8 (List.mem_of_getElem? (i := 4) rfl) dX8_takesMan_86 ?_
              refine z_iconst F_ dX8_takesMan_89 ?_
              refine z_iald F_ K_ W_ 3 0 rfl rfl (by omega) (by decide) dX8_takesMan_90 ?_
              have b_25 := f73_B_V_g 0
              have i_26 : va2_24 0 = (tV yb bl (tE yb bl s)) := by rw [hf3.2.2.1, zu_n _ _ (by omega), hf2.2.2.1, zu_n _ _ (by omega), hf1.2.2.1]; exact zu_s _ _ _
              rw [i_26]
              have b_27 := f73_B_V_g 0
              rw [i_26] at b_27
              refine lv_aload_n F_.1 F_.2.1 dX8_takesMan_91 rfl (lv_at hl 0 rfl) ?_
              refine z_get F_ K_ W_ 0 0 18 rfl rfl rfl (C := RX8) (T := TX8) (N := 19) rfl (by decide) hinX8 (List.mem_of_getElem? (i := 4) rfl) dX8_takesMan_92 ?_
              refine z_iconst F_ dX8_takesMan_95 ?_
              refine z_iald F_ K_ W_ 3 0 rfl rfl (by omega) (by decide) dX8_takesMan_96 ?_
              have b_28 := f73_B_V_g 1
              have i_29 : va2_24 1 = (tV yb bl (tE yb bl (tE yb bl s))) := by rw [hf3.2.2.1, zu_n _ _ (by omega), hf2.2.2.1]; exact zu_s _ _ _
              rw [i_29]
              have b_30 := f73_B_V_g 1
              rw [i_29] at b_30
              refine lv_aload_n F_.1 F_.2.1 dX8_takesMan_97 rfl (lv_at hl 0 rfl) ?_
              refine z_get F_ K_ W_ 0 0 18 rfl rfl rfl (C := RX8) (T := TX8) (N := 19) rfl (by decide) hinX8 (List.mem_of_getElem? (i := 4) rfl) dX8_takesMan_98 ?_
              refine z_iconst F_ dX8_takesMan_101 ?_
              refine z_iald F_ K_ W_ 3 0 rfl rfl (by omega) (by decide) dX8_takesMan_102 ?_
              have b_31 := f73_B_V_g 2
              have i_32 : va2_24 2 = (tV yb bl (tE yb bl (tE yb bl (tE yb bl s)))) := by rw [hf3.2.2.1]; exact zu_s _ _ _
              rw [i_32]
              have b_33 := f73_B_V_g 2
              rw [i_32] at b_33
              refine z_bipush F_ (by decide) dX8_takesMan_103 ?_
              refine z_icmp_ne (tgt := 112) F_ (by omega) dX8_takesMan_105 (by decide) (fun c105 => ?_) (fun c105 => ?_)
              · refine lv_aload_n F_.1 F_.2.1 dX8_takesMan_112 rfl (lv_at hl 0 rfl) ?_
                refine z_get F_ K_ W_ 0 0 18 rfl rfl rfl (C := RX8) (T := TX8) (N := 19) rfl (by decide) hinX8 (List.mem_of_getElem? (i := 4) rfl) dX8_takesMan_113 ?_
                refine z_iconst F_ dX8_takesMan_116 ?_
                refine z_iald F_ K_ W_ 3 0 rfl rfl (by omega) (by decide) dX8_takesMan_117 ?_
                have i_34 : va2_24 2 = (tV yb bl (tE yb bl (tE yb bl (tE yb bl s)))) := by rw [hf3.2.2.1]; exact zu_s _ _ _
                rw [i_34]
                have b_35 := f73_B_V_g 2
                rw [i_34] at b_35
                refine z_iconst F_ dX8_takesMan_118 ?_
                refine z_iadd F_ dX8_takesMan_119 ?_
                refine z_callSv F_ K_ W_ [.ref (o 11), .int (zi (tV yb bl (tE yb bl s))), .int (zi (tV yb bl (tE yb bl (tE yb bl s)))), .int (zi ((tV yb bl (tE yb bl (tE yb bl (tE yb bl s)))) + 1))] (c_X8_layMan l_ D cy (o 11) 104 an (tV yb bl (tE yb bl s)) (tV yb bl (tE yb bl (tE yb bl s))) ((tV yb bl (tE yb bl (tE yb bl (tE yb bl s)))) + 1) ban (by first | omega | assumption) (by first | omega | assumption) (by first | omega | assumption) (by first | omega | assumption) (by first | omega | assumption) (by first | omega | assumption)) 4 rfl gX8_takesMan_X8_layMan rfl (by decide +kernel) ⟨⟨Nat.le_of_ble_eq_true rfl, Nat.le_of_ble_eq_true rfl⟩, rfl, rfl, Nat.zero_le _, Nat.zero_le _⟩ hl.1 rfl (Nat.le_of_ble_eq_true rfl) [2] [0, 1, 3] [wO cy o ab be bl ta2_20 tl2_21 tk2_22 vl2_23, wB cy (o 10) yb, wA cy (o 12) 3 va2_24] (fun (u_ : (Int → Int)) => [wO cy o ab be bl ta2_20 tl2_21 tk2_22 vl2_23, wB cy (o 10) yb, wA cy (o 11) 104 u_, wA cy (o 12) 3 va2_24]) 4 (by decide +kernel) rfl rfl rfl (fun _ => rfl) (fun _ => rfl) (fun _ => rfl) dX8_takesMan_120 (fun u_ H_ lo_ hw_ W_ => ?_)
                obtain ⟨g2_37, rfl⟩ : ∃ x, x = u_ := ⟨_, rfl⟩
                have W_ : WD D A_ s_.heap ([wO cy o ab be bl ta2_20 tl2_21 tk2_22 vl2_23, wB cy (o 10) yb, wA cy (o 11) 104 g2_37, wA cy (o 12) 3 va2_24]) H_ lo_ := W_
                replace hw_ : (g2_37 = layG an (tV yb bl (tE yb bl s)) (tV yb bl (tE yb bl (tE yb bl s))) ((tV yb bl (tE yb bl (tE yb bl (tE yb bl s)))) + 1)) ∧ (∀ j : Int, 0 ≤ g2_37 j ∧ g2_37 j ≤ 99) := hw_
                obtain ⟨f120_v, f120_B_A_g⟩ := hw_
                refine z_iconst F_ dX8_takesMan_123 ?_
                exact hret _ _ _ _ 1 (ta2_20, tl2_21, tk2_22, vl2_23, g2_37, va2_24) dX8_takesMan_124 ⟨(by have hr := manI_4 (yb := yb) (bl := bl) (s := s) (g := an) (by omega) hf1.2.1 hf2.2.1 ⟨by omega, by omega⟩; exact Or.inl ⟨rfl, by rw [hr], by rw [hr, f120_v]; first | rw [if_pos c105] | rw [if_neg c105], by rw [hr]; show s ≤ tE yb bl (tE yb bl (tE yb bl (tE yb bl s))); omega, by rw [hr]; exact hf3.2.2.2⟩), (by show (0 ≤ g2_37 0 ∧ g2_37 0 ≤ 8) ∧ (0 ≤ g2_37 1 ∧ g2_37 1 ≤ 3); have q := fun x_ y_ w_ => layG_n (g := an) x_ y_ w_ hn.1; rw [f120_v, (q _ _ _).1, (q _ _ _).2]; omega), f120_B_A_g, f73_B_V_g⟩ W_
              · refine z_iconst F_ dX8_takesMan_108 ?_
                refine z_goto (tgt := 120) F_ dX8_takesMan_109 (by decide) ?_
                refine z_callSv F_ K_ W_ [.ref (o 11), .int (zi (tV yb bl (tE yb bl s))), .int (zi (tV yb bl (tE yb bl (tE yb bl s)))), .int (zi 0)] (c_X8_layMan l_ D cy (o 11) 104 an (tV yb bl (tE yb bl s)) (tV yb bl (tE yb bl (tE yb bl s))) 0 ban (by first | omega | assumption) (by first | omega | assumption) (by first | omega | assumption) (by first | omega | assumption) (by first | omega | assumption) (by first | omega | assumption)) 4 rfl gX8_takesMan_X8_layMan rfl (by decide +kernel) ⟨⟨Nat.le_of_ble_eq_true rfl, Nat.le_of_ble_eq_true rfl⟩, rfl, rfl, Nat.zero_le _, Nat.zero_le _⟩ hl.1 rfl (Nat.le_of_ble_eq_true rfl) [2] [0, 1, 3] [wO cy o ab be bl ta2_20 tl2_21 tk2_22 vl2_23, wB cy (o 10) yb, wA cy (o 12) 3 va2_24] (fun (u_ : (Int → Int)) => [wO cy o ab be bl ta2_20 tl2_21 tk2_22 vl2_23, wB cy (o 10) yb, wA cy (o 11) 104 u_, wA cy (o 12) 3 va2_24]) 4 (by decide +kernel) rfl rfl rfl (fun _ => rfl) (fun _ => rfl) (fun _ => rfl) dX8_takesMan_120 (fun u_ H_ lo_ hw_ W_ => ?_)
                obtain ⟨g2_39, rfl⟩ : ∃ x, x = u_ := ⟨_, rfl⟩
                have W_ : WD D A_ s_.heap ([wO cy o ab be bl ta2_20 tl2_21 tk2_22 vl2_23, wB cy (o 10) yb, wA cy (o 11) 104 g2_39, wA cy (o 12) 3 va2_24]) H_ lo_ := W_
                replace hw_ : (g2_39 = layG an (tV yb bl (tE yb bl s)) (tV yb bl (tE yb bl (tE yb bl s))) 0) ∧ (∀ j : Int, 0 ≤ g2_39 j ∧ g2_39 j ≤ 99) := hw_
                obtain ⟨f120_v, f120_B_A_g⟩ := hw_
                refine z_iconst F_ dX8_takesMan_123 ?_
                exact hret _ _ _ _ 1 (ta2_20, tl2_21, tk2_22, vl2_23, g2_39, va2_24) dX8_takesMan_124 ⟨(by have hr := manI_4 (yb := yb) (bl := bl) (s := s) (g := an) (by omega) hf1.2.1 hf2.2.1 ⟨by omega, by omega⟩; exact Or.inl ⟨rfl, by rw [hr], by rw [hr, f120_v]; first | rw [if_pos c105] | rw [if_neg c105], by rw [hr]; show s ≤ tE yb bl (tE yb bl (tE yb bl (tE yb bl s))); omega, by rw [hr]; exact hf3.2.2.2⟩), (by show (0 ≤ g2_39 0 ∧ g2_39 0 ≤ 8) ∧ (0 ≤ g2_39 1 ∧ g2_39 1 ≤ 3); have q := fun x_ y_ w_ => layG_n (g := an) x_ y_ w_ hn.1; rw [f120_v, (q _ _ _).1, (q _ _ _).2]; omega), f120_B_A_g, f73_B_V_g⟩ W_
            · refine z_iconst F_ dX8_takesMan_79 ?_
              exact hret _ _ _ _ 0 (ta2_20, tl2_21, tk2_22, vl2_23, an, va2_24) dX8_takesMan_80 ⟨(by first | (have hf := f73_v.resolve_left (fun q => absurd q.1 (by omega)); exact absurd (show nmP yb bl 0 9 (tE yb bl (tE yb bl (tE yb bl s))) from ⟨by omega, by have h := wg4 (by omega); omega, by have h := wg4 (by omega); omega⟩) hf.2.1) | (have hr := manI_3 (yb := yb) (bl := bl) (s := s) (g := an) (by omega) hf1.2.1 hf2.2.1 (fun q => by have h := wg4 (by omega); have h1 := q.1; have h2 := q.2; omega); exact Or.inr ⟨rfl, by rw [hr], by rw [hr]; exact wg2.symm, by omega, by omega⟩) | (have hf := f32_v.resolve_left (fun q => absurd q.1 (by omega)); have hr := manI_2 (yb := yb) (bl := bl) (s := s) (g := an) (by omega) hf1.2.1 hf.2.1; exact Or.inr ⟨rfl, by rw [hr], by rw [hr]; exact hf.2.2.2.1.trans vg2.symm, by omega, by omega⟩) | (have hf := f21_v.resolve_left (fun q => absurd q.1 (by omega)); have hr := manI_1 (yb := yb) (bl := bl) (s := s) (g := an) (by omega) hf.2.1; exact Or.inr ⟨rfl, by rw [hr], by rw [hr]; exact hf.2.2.2.1.trans ug2.symm, by omega, by omega⟩)), (by exact hn), ban, f73_B_V_g⟩ W_
          refine z_icmp_eq (tgt := 68) F_ (by omega) dX8_takesMan_52 (by decide) (fun c52 => ?_) (fun c52 => ?_)
          · exact J68 (by first | omega | grind) ls_ H_ lo_ W_ (lv_sub hl [0] rfl)
          · refine lv_aload_n F_.1 F_.2.1 dX8_takesMan_55 rfl (lv_at hl 0 rfl) ?_
            refine z_get F_ K_ W_ 0 0 16 rfl rfl rfl (C := RX8) (T := TX8) (N := 19) rfl (by decide) hinX8 (List.mem_of_getElem? (i := 3) rfl) dX8_takesMan_56 ?_
            refine lv_aload_n F_.1 F_.2.1 dX8_takesMan_59 rfl (lv_at hl 0 rfl) ?_
            refine z_get F_ K_ W_ 0 0 17 rfl rfl rfl (C := RX8) (T := TX8) (N := 19) rfl (by decide) hinX8 (List.mem_of_getElem? (i := 1) rfl) dX8_takesMan_60 ?_
            refine z_iconst F_ dX8_takesMan_63 ?_
            refine z_iald F_ K_ W_ 2 0 rfl rfl (by omega) (by decide) dX8_takesMan_64 ?_
            have b_40 := ban 1
            refine z_icmp_ge (tgt := 79) F_ (by omega) dX8_takesMan_65 (by decide) (fun c65 => ?_) (fun c65 => ?_)
            · refine z_iconst F_ dX8_takesMan_79 ?_
              exact hret _ _ _ _ 0 (ta2_14, tl2_15, tk2_16, vl2_17, an, va2_18) dX8_takesMan_80 ⟨(by first | (have hf := f73_v.resolve_left (fun q => absurd q.1 (by omega)); exact absurd (show nmP yb bl 0 9 (tE yb bl (tE yb bl (tE yb bl s))) from ⟨by omega, by have h := wg4 (by omega); omega, by have h := wg4 (by omega); omega⟩) hf.2.1) | (have hr := manI_3 (yb := yb) (bl := bl) (s := s) (g := an) (by omega) hf1.2.1 hf2.2.1 (fun q => by have h := wg4 (by omega); have h1 := q.1; have h2 := q.2; omega); exact Or.inr ⟨rfl, by rw [hr], by rw [hr]; exact wg2.symm, by omega, by omega⟩) | (have hf := f32_v.resolve_left (fun q => absurd q.1 (by omega)); have hr := manI_2 (yb := yb) (bl := bl) (s := s) (g := an) (by omega) hf1.2.1 hf.2.1; exact Or.inr ⟨rfl, by rw [hr], by rw [hr]; exact hf.2.2.2.1.trans vg2.symm, by omega, by omega⟩) | (have hf := f21_v.resolve_left (fun q => absurd q.1 (by omega)); have hr := manI_1 (yb := yb) (bl := bl) (s := s) (g := an) (by omega) hf.2.1; exact Or.inr ⟨rfl, by rw [hr], by rw [hr]; exact hf.2.2.2.1.trans ug2.symm, by omega, by omega⟩)), (by exact hn), ban, f32_B_V_g⟩ W_
            · exact J68 (by first | omega | grind) ls_ H_ lo_ W_ (lv_sub hl [0] rfl)
  · refine z_iconst F_ dX8_takesMan_11 ?_
    exact hret _ _ _ _ 0 (ta, tl, tk, vl, an, va) dX8_takesMan_12 ⟨(by exact Or.inr ⟨rfl, by rw [manI, if_pos (by omega)], by rw [manI, if_pos (by omega)]; exact tf2.symm, by omega, by omega⟩), (by exact hn), ban, bva⟩ W_
abbrev rX8_takesCall : Room := { frames := 4, cells := 0, slots := 0, locals := 91 }
set_option maxHeartbeats 1000000 in
set_option maxRecDepth 100000 in
theorem c_X8_takesCall (l_ : Launch) (D : va_G) (cy : Nat → ClassId) (o : Nat → Nat) (ab : Int) (be : Int) (bl : Int) (ta : Int) (tl : Int) (tk : Int) (vl : Int) (yb : Int → Int) (an : Int → Int) (va : Int → Int) (s : Int) (byb : ∀ j : Int, 0 ≤ yb j ∧ yb j ≤ 127) (ban : ∀ j : Int, 0 ≤ an j ∧ an j ≤ 99) (bva : ∀ j : Int, 0 ≤ va j ∧ va j ≤ 99) (hbl : 0 ≤ bl ∧ bl ≤ 150) (hts : TS yb bl s tk ta tl vl) (hs0 : 0 ≤ s) (hn : (0 ≤ an 0 ∧ an 0 ≤ 8) ∧ (0 ≤ an 1 ∧ an 1 ≤ 3)) : CTi l_ D cy yX8_takesCall wsX8_takesCall rX8_takesCall [.ref (o 0)] ([wO cy o ab be bl ta tl tk vl, wB cy (o 10) yb, wA cy (o 11) 104 an, wA cy (o 12) 3 va]) (fun (z : Int) (u : (Int) × (Int) × (Int) × (Int) × (Int → Int) × (Int → Int)) => ((z = 1 ∧ (calI yb bl s an).1 = 1 ∧ u.2.2.2.2.1 = (calI yb bl s an).2.2 ∧ s ≤ (calI yb bl s an).2.1 ∧ TS yb bl (calI yb bl s an).2.1 u.2.2.1 u.1 u.2.1 u.2.2.2.1) ∨ (z = 0 ∧ (calI yb bl s an).1 = 0 ∧ u.1 = (calI yb bl s an).2.1 ∧ 0 ≤ u.1 ∧ u.1 ≤ 150)) ∧ ((0 ≤ u.2.2.2.2.1 0 ∧ u.2.2.2.2.1 0 ≤ 8) ∧ (0 ≤ u.2.2.2.2.1 1 ∧ u.2.2.2.2.1 1 ≤ 3)) ∧ (∀ j : Int, 0 ≤ u.2.2.2.2.1 j ∧ u.2.2.2.2.1 j ≤ 99) ∧ (∀ j : Int, 0 ≤ u.2.2.2.2.2 j ∧ u.2.2.2.2.2 j ≤ 99)) (fun (u : (Int) × (Int) × (Int) × (Int) × (Int → Int) × (Int → Int)) => [wO cy o ab be bl u.1 u.2.1 u.2.2.1 u.2.2.2.1, wB cy (o 10) yb, wA cy (o 11) 104 u.2.2.2.2.1, wA cy (o 12) 3 u.2.2.2.2.2]) := by
  refine CTi.of RX8 cX8_takesCall 2 rfl (by decide) rfl (fun z u hz => z_bl4 hz) (Nat.le_of_ble_eq_true rfl) ?_
  intro p_ e_ s_ m_ ar_ be_ me_ c_ Q_ A_ ls_ F_ K_ W_ hl hret
  have hl : lv_has ls_ 2 [(0, .ref (o 0))] := hl
  obtain ⟨H_, hH_⟩ : ∃ x, x = s_.heap := ⟨_, rfl⟩
  obtain ⟨lo_, hlo_⟩ : ∃ x : List Loc, x = [] := ⟨_, rfl⟩
  have W_ : WD D A_ s_.heap ([wO cy o ab be bl ta tl tk vl, wB cy (o 10) yb, wA cy (o 11) 104 an, wA cy (o 12) 3 va]) H_ lo_ := by rw [hH_, hlo_]; exact W_
  rw [← hlo_]
  suffices hg_ : W p_ l_ e_ rX8_takesCall s_ m_ ar_ be_ me_ c_ H_ lo_ 0 0 Q_ (F0 m_ 0 ls_ []) by rw [hH_] at hg_; exact hg_
  clear hH_ hlo_
  have hinX8 : ∀ w ∈ u_ws RX8 TX8 19, w ∈ wsX8_takesCall := fun w h => List.mem_cons_of_mem _ (List.mem_append_right _ h)
  obtain ⟨tf1, tf2, tf3, tf4, tf5⟩ := TS_f hts
  refine lv_aload_n F_.1 F_.2.1 dX8_takesCall_0 rfl (lv_at hl 0 rfl) ?_
  refine z_callVv F_ K_ W_ [] (c_X8_goBehind l_ D cy o ab be bl ta tl tk vl yb byb (by first | omega | assumption) (by first | omega | assumption)) 0 rfl gX8_takesCall_X8_goBehind rfl (by decide +kernel) ⟨⟨Nat.le_of_ble_eq_true rfl, Nat.le_of_ble_eq_true rfl⟩, rfl, rfl, Nat.zero_le _, Nat.zero_le _⟩ 0 0 7 rfl rfl rfl rfl hl.1 rfl (Nat.le_of_ble_eq_true rfl) [0, 1] [2, 3] [wA cy (o 11) 104 an, wA cy (o 12) 3 va] (fun (u_ : (Int) × (Int) × (Int) × (Int)) => [wO cy o ab be bl u_.1 u_.2.1 u_.2.2.1 u_.2.2.2, wB cy (o 10) yb, wA cy (o 11) 104 an, wA cy (o 12) 3 va]) 4 (by decide +kernel) rfl rfl rfl (fun _ => rfl) (fun _ => rfl) (fun _ => rfl) dX8_takesCall_1 (fun u_ H_ lo_ hw_ W_ => ?_)
  obtain ⟨ta2_2, tl2_3, tk2_4, vl2_5⟩ := u_
  have W_ : WD D A_ s_.heap ([wO cy o ab be bl ta2_2 tl2_3 tk2_4 vl2_5, wB cy (o 10) yb, wA cy (o 11) 104 an, wA cy (o 12) 3 va]) H_ lo_ := W_
  replace hw_ : (TS yb bl (ta + tl) tk2_4 ta2_2 tl2_3 vl2_5) := hw_
  have f1_v := hw_
  clear hw_
  have hts1 : TS yb bl (tE yb bl s) tk2_4 ta2_2 tl2_3 vl2_5 := by rw [tf3]; exact f1_v
  obtain ⟨ug1, ug2, ug3, ug4, ug5⟩ := TS_f hts1
  refine lv_aload_n F_.1 F_.2.1 dX8_takesCall_4 rfl (lv_at hl 0 rfl) ?_
  refine z_get F_ K_ W_ 0 0 15 rfl rfl rfl (C := RX8) (T := TX8) (N := 19) rfl (by decide) hinX8 (List.mem_of_getElem? (i := 1) rfl) dX8_takesCall_5 ?_
  refine z_iconst F_ dX8_takesCall_8 ?_
  refine z_icmp_ne (tgt := 47) F_ (by omega) dX8_takesCall_9 (by decide) (fun c9 => ?_) (fun c9 => ?_)
  · refine z_iconst F_ dX8_takesCall_47 ?_
    exact hret _ _ _ _ 0 (ta2_2, tl2_3, tk2_4, vl2_5, an, va) dX8_takesCall_48 ⟨(by have hr := calI_0 (yb := yb) (bl := bl) (s := s) (g := an) (fun q => by have h1 : tK yb bl (tE yb bl s) = 2 ∧ 0 ≤ (tV yb bl (tE yb bl s)) ∧ (tV yb bl (tE yb bl s)) ≤ an 1 - 1 := q.1; have h2 := q.2; first | omega | (rw [htv] at h2; omega)); exact Or.inr ⟨rfl, by rw [hr], by rw [hr]; exact ug2.symm, by omega, by omega⟩), (by exact hn), ban, bva⟩ W_
  · have htv := ug4 (by omega)
    refine lv_aload_n F_.1 F_.2.1 dX8_takesCall_12 rfl (lv_at hl 0 rfl) ?_
    refine z_get F_ K_ W_ 0 0 16 rfl rfl rfl (C := RX8) (T := TX8) (N := 19) rfl (by decide) hinX8 (List.mem_of_getElem? (i := 2) rfl) dX8_takesCall_13 ?_
    refine z_i2l F_ (by omega) dX8_takesCall_16 ?_
    refine z_lconst (z := 0) F_ rfl dX8_takesCall_17 ?_
    refine lv_aload_n F_.1 F_.2.1 dX8_takesCall_18 rfl (lv_at hl 0 rfl) ?_
    refine z_get F_ K_ W_ 0 0 17 rfl rfl rfl (C := RX8) (T := TX8) (N := 19) rfl (by decide) hinX8 (List.mem_of_getElem? (i := 3) rfl) dX8_takesCall_19 ?_
    refine z_iconst F_ dX8_takesCall_22 ?_
    refine z_iald F_ K_ W_ 2 0 rfl rfl (by omega) (by decide) dX8_takesCall_23 ?_
    have b_6 := ban 1
    refine z_iconst F_ dX8_takesCall_24 ?_
    refine z_isub F_ dX8_takesCall_25 ?_
    refine z_i2l F_ (by omega) dX8_takesCall_26 ?_
    refine z_callSip F_ K_ W_ [.long (zl vl2_5), .long (zl 0), .long (zl ((an 1) - 1))] (c_X8_in l_ D cy vl2_5 0 ((an 1) - 1) (by first | omega | assumption)) 3 rfl gX8_takesCall_X8_in rfl (by decide +kernel) ⟨⟨Nat.le_of_ble_eq_true rfl, Nat.le_of_ble_eq_true rfl⟩, rfl, rfl, Nat.zero_le _, Nat.zero_le _⟩ hl.1 rfl (Nat.le_of_ble_eq_true rfl) ([] : List Nat) [0, 1, 2, 3] [wO cy o ab be bl ta2_2 tl2_3 tk2_4 vl2_5, wB cy (o 10) yb, wA cy (o 11) 104 an, wA cy (o 12) 3 va] 4 (by decide +kernel) rfl rfl rfl dX8_takesCall_27 (fun z_7 _ H_ lo_ hw_ W_ => ?_)
    replace hw_ : ((z_7 = 1 ∧ (0 ≤ vl2_5 ∧ vl2_5 ≤ ((an 1) - 1))) ∨ (z_7 = 0 ∧ ¬ (0 ≤ vl2_5 ∧ vl2_5 ≤ ((an 1) - 1)))) := hw_
    have f27_v := hw_
    clear hw_
    refine z_if_eq (tgt := 47) F_ (by omega) dX8_takesCall_30 (by decide) (fun c30 => ?_) (fun c30 => ?_)
    · refine z_iconst F_ dX8_takesCall_47 ?_
      exact hret _ _ _ _ 0 (ta2_2, tl2_3, tk2_4, vl2_5, an, va) dX8_takesCall_48 ⟨(by have hr := calI_0 (yb := yb) (bl := bl) (s := s) (g := an) (fun q => by have h1 : tK yb bl (tE yb bl s) = 2 ∧ 0 ≤ (tV yb bl (tE yb bl s)) ∧ (tV yb bl (tE yb bl s)) ≤ an 1 - 1 := q.1; have h2 := q.2; first | omega | (rw [htv] at h2; omega)); exact Or.inr ⟨rfl, by rw [hr], by rw [hr]; exact ug2.symm, by omega, by omega⟩), (by exact hn), ban, bva⟩ W_
    · refine lv_aload_n F_.1 F_.2.1 dX8_takesCall_33 rfl (lv_at hl 0 rfl) ?_
      refine z_get F_ K_ W_ 0 0 17 rfl rfl rfl (C := RX8) (T := TX8) (N := 19) rfl (by decide) hinX8 (List.mem_of_getElem? (i := 3) rfl) dX8_takesCall_34 ?_
      refine lv_aload_n F_.1 F_.2.1 dX8_takesCall_37 rfl (lv_at hl 0 rfl) ?_
      refine z_get F_ K_ W_ 0 0 16 rfl rfl rfl (C := RX8) (T := TX8) (N := 19) rfl (by decide) hinX8 (List.mem_of_getElem? (i := 2) rfl) dX8_takesCall_38 ?_
      refine z_callSip F_ K_ W_ [.ref (o 11), .int (zi vl2_5)] (c_X8_aboard l_ D cy (o 11) 104 an vl2_5 ban (by first | omega | assumption) (by first | omega | assumption) (by first | omega | assumption) (by first | omega | assumption)) 2 rfl gX8_takesCall_X8_aboard rfl (by decide +kernel) ⟨⟨Nat.le_of_ble_eq_true rfl, Nat.le_of_ble_eq_true rfl⟩, rfl, rfl, Nat.zero_le _, Nat.zero_le _⟩ hl.1 rfl (Nat.le_of_ble_eq_true rfl) [2] [0, 1, 3] [wO cy o ab be bl ta2_2 tl2_3 tk2_4 vl2_5, wB cy (o 10) yb, wA cy (o 12) 3 va] 4 (by decide +kernel) rfl rfl rfl dX8_takesCall_41 (fun z_8 _ H_ lo_ hw_ W_ => ?_)
      replace hw_ : (z_8 = cntG an (vl2_5 + 1)) := hw_
      have f41_v := hw_
      clear hw_
      have hcb : 0 ≤ cntG an (vl2_5 + 1) ∧ cntG an (vl2_5 + 1) ≤ an 0 := cntZ_b (shZ an 6) (vl2_5 + 1) (m := an 0) hn.1.1
      refine z_if_ne (tgt := 49) F_ (by omega) dX8_takesCall_44 (by decide) (fun c44 => ?_) (fun c44 => ?_)
      · refine lv_aload_n F_.1 F_.2.1 dX8_takesCall_49 rfl (lv_at hl 0 rfl) ?_
        refine z_get F_ K_ W_ 0 0 17 rfl rfl rfl (C := RX8) (T := TX8) (N := 19) rfl (by decide) hinX8 (List.mem_of_getElem? (i := 3) rfl) dX8_takesCall_50 ?_
        refine lv_aload_n F_.1 F_.2.1 dX8_takesCall_53 rfl (lv_at hl 0 rfl) ?_
        refine z_get F_ K_ W_ 0 0 16 rfl rfl rfl (C := RX8) (T := TX8) (N := 19) rfl (by decide) hinX8 (List.mem_of_getElem? (i := 2) rfl) dX8_takesCall_54 ?_
        refine z_callSi F_ K_ W_ [.ref (o 11), .int (zi vl2_5)] (c_X8_goCall l_ D cy (o 11) 104 an vl2_5 ban (by first | omega | assumption) (by first | omega | assumption) (by first | omega | assumption) (by first | omega | assumption)) 2 rfl gX8_takesCall_X8_goCall rfl (by decide +kernel) ⟨⟨Nat.le_of_ble_eq_true rfl, Nat.le_of_ble_eq_true rfl⟩, rfl, rfl, Nat.zero_le _, Nat.zero_le _⟩ hl.1 rfl (Nat.le_of_ble_eq_true rfl) [2] [0, 1, 3] [wO cy o ab be bl ta2_2 tl2_3 tk2_4 vl2_5, wB cy (o 10) yb, wA cy (o 12) 3 va] (fun (u_ : (Int → Int)) => [wO cy o ab be bl ta2_2 tl2_3 tk2_4 vl2_5, wB cy (o 10) yb, wA cy (o 11) 104 u_, wA cy (o 12) 3 va]) 4 (by decide +kernel) rfl rfl rfl (fun _ => rfl) (fun _ => rfl) (fun _ => rfl) dX8_takesCall_57 (fun z_9 u_ H_ lo_ hw_ W_ => ?_)
        obtain ⟨g2_10, rfl⟩ : ∃ x, x = u_ := ⟨_, rfl⟩
        have W_ : WD D A_ s_.heap ([wO cy o ab be bl ta2_2 tl2_3 tk2_4 vl2_5, wB cy (o 10) yb, wA cy (o 11) 104 g2_10, wA cy (o 12) 3 va]) H_ lo_ := W_
        replace hw_ : (z_9 = lstG an vl2_5) ∧ (g2_10 = goG an vl2_5 (lstG an vl2_5)) ∧ ((z_9 = -1 ∨ (0 ≤ z_9 ∧ z_9 < an 0)) ∧ g2_10 0 = an 0 ∧ g2_10 1 = an 1) ∧ (∀ j : Int, 0 ≤ g2_10 j ∧ g2_10 j ≤ 99) := hw_
        obtain ⟨f57_v, f57_c, f57_k, f57_B_A_g⟩ := hw_
        have hgk := goG_k (g := an) (h := vl2_5) (z := z_9) (k := 0) (by omega) (by omega) (by omega)
        refine lv_istore_n (lv' := [(1, .int (zi z_9)), (0, .ref (o 0))]) F_.1 F_.2.1 dX8_takesCall_60 rfl hl (by decide) rfl (fun ls_ hl => ?_)
        refine lv_aload_n F_.1 F_.2.1 dX8_takesCall_61 rfl (lv_at hl 1 rfl) ?_
        refine z_callVv F_ K_ W_ [] (c_X8_goBehind l_ D cy o ab be bl ta2_2 tl2_3 tk2_4 vl2_5 yb byb (by first | omega | assumption) (by first | omega | assumption)) 0 rfl gX8_takesCall_X8_goBehind rfl (by decide +kernel) ⟨⟨Nat.le_of_ble_eq_true rfl, Nat.le_of_ble_eq_true rfl⟩, rfl, rfl, Nat.zero_le _, Nat.zero_le _⟩ 0 0 7 rfl rfl rfl rfl hl.1 rfl (Nat.le_of_ble_eq_true rfl) [0, 1] [2, 3] [wA cy (o 11) 104 g2_10, wA cy (o 12) 3 va] (fun (u_ : (Int) × (Int) × (Int) × (Int)) => [wO cy o ab be bl u_.1 u_.2.1 u_.2.2.1 u_.2.2.2, wB cy (o 10) yb, wA cy (o 11) 104 g2_10, wA cy (o 12) 3 va]) 4 (by decide +kernel) rfl rfl rfl (fun _ => rfl) (fun _ => rfl) (fun _ => rfl) dX8_takesCall_62 (fun u_ H_ lo_ hw_ W_ => ?_)
        obtain ⟨ta2_12, tl2_13, tk2_14, vl2_15⟩ := u_
        have W_ : WD D A_ s_.heap ([wO cy o ab be bl ta2_12 tl2_13 tk2_14 vl2_15, wB cy (o 10) yb, wA cy (o 11) 104 g2_10, wA cy (o 12) 3 va]) H_ lo_ := W_
        replace hw_ : (TS yb bl (ta2_2 + tl2_3) tk2_14 ta2_12 tl2_13 vl2_15) := hw_
        have f62_v := hw_
        clear hw_
        refine z_iconst F_ dX8_takesCall_65 ?_
        exact hret _ _ _ _ 1 (ta2_12, tl2_13, tk2_14, vl2_15, g2_10, va) dX8_takesCall_66 ⟨(by have hr := calI_1 (yb := yb) (bl := bl) (s := s) (g := an) ⟨⟨by omega, by omega, by omega⟩, by rw [htv]; omega⟩; exact Or.inl ⟨rfl, by rw [hr], by rw [hr, htv, f57_c], by rw [hr]; show s ≤ tE yb bl (tE yb bl s); omega, by rw [hr]; show TS yb bl (tE yb bl (tE yb bl s)) _ _ _ _; rw [ug3]; exact f62_v⟩), (by show (0 ≤ g2_10 0 ∧ g2_10 0 ≤ 8) ∧ (0 ≤ g2_10 1 ∧ g2_10 1 ≤ 3); omega), f57_B_A_g, bva⟩ W_
      · refine z_iconst F_ dX8_takesCall_47 ?_
        exact hret _ _ _ _ 0 (ta2_2, tl2_3, tk2_4, vl2_5, an, va) dX8_takesCall_48 ⟨(by have hr := calI_0 (yb := yb) (bl := bl) (s := s) (g := an) (fun q => by have h1 : tK yb bl (tE yb bl s) = 2 ∧ 0 ≤ (tV yb bl (tE yb bl s)) ∧ (tV yb bl (tE yb bl s)) ≤ an 1 - 1 := q.1; have h2 := q.2; first | omega | (rw [htv] at h2; omega)); exact Or.inr ⟨rfl, by rw [hr], by rw [hr]; exact ug2.symm, by omega, by omega⟩), (by exact hn), ban, bva⟩ W_
abbrev rX8_takesBoard : Room := { frames := 5, cells := 0, slots := 0, locals := 112 }
set_option maxHeartbeats 1000000 in
set_option maxRecDepth 100000 in
theorem c_X8_takesBoard (l_ : Launch) (D : va_G) (cy : Nat → ClassId) (o : Nat → Nat) (ab : Int) (be : Int) (bl : Int) (ta : Int) (tl : Int) (tk : Int) (vl : Int) (yb : Int → Int) (an : Int → Int) (va : Int → Int) (s : Int) (byb : ∀ j : Int, 0 ≤ yb j ∧ yb j ≤ 127) (ban : ∀ j : Int, 0 ≤ an j ∧ an j ≤ 99) (bva : ∀ j : Int, 0 ≤ va j ∧ va j ≤ 99) (hbl : 0 ≤ bl ∧ bl ≤ 150) (hts : TS yb bl s tk ta tl vl) (hs0 : 0 ≤ s) (hn : (0 ≤ an 0 ∧ an 0 ≤ 8) ∧ (0 ≤ an 1 ∧ an 1 ≤ 3)) : CTi l_ D cy yX8_takesBoard wsX8_takesBoard rX8_takesBoard [.ref (o 0)] ([wO cy o ab be bl ta tl tk vl, wB cy (o 10) yb, wA cy (o 11) 104 an, wA cy (o 12) 3 va]) (fun (z : Int) (u : (Int) × (Int) × (Int) × (Int) × (Int → Int) × (Int → Int)) => ((z = 1 ∧ (brdI yb bl s an).1 = 1 ∧ u.2.2.2.2.1 = (brdI yb bl s an).2.2 ∧ s ≤ (brdI yb bl s an).2.1 ∧ TS yb bl (brdI yb bl s an).2.1 u.2.2.1 u.1 u.2.1 u.2.2.2.1) ∨ (z = 0 ∧ (brdI yb bl s an).1 = 0 ∧ u.1 = (brdI yb bl s an).2.1 ∧ 0 ≤ u.1 ∧ u.1 ≤ 150)) ∧ ((0 ≤ u.2.2.2.2.1 0 ∧ u.2.2.2.2.1 0 ≤ 8) ∧ (0 ≤ u.2.2.2.2.1 1 ∧ u.2.2.2.2.1 1 ≤ 3)) ∧ (∀ j : Int, 0 ≤ u.2.2.2.2.1 j ∧ u.2.2.2.2.1 j ≤ 99) ∧ (∀ j : Int, 0 ≤ u.2.2.2.2.2 j ∧ u.2.2.2.2.2 j ≤ 99)) (fun (u : (Int) × (Int) × (Int) × (Int) × (Int → Int) × (Int → Int)) => [wO cy o ab be bl u.1 u.2.1 u.2.2.1 u.2.2.2.1, wB cy (o 10) yb, wA cy (o 11) 104 u.2.2.2.2.1, wA cy (o 12) 3 u.2.2.2.2.2]) := by
  refine CTi.of RX8 cX8_takesBoard 1 rfl (by decide) rfl (fun z u hz => z_bl4 hz) (Nat.le_of_ble_eq_true rfl) ?_
  intro p_ e_ s_ m_ ar_ be_ me_ c_ Q_ A_ ls_ F_ K_ W_ hl hret
  have hl : lv_has ls_ 1 [(0, .ref (o 0))] := hl
  obtain ⟨H_, hH_⟩ : ∃ x, x = s_.heap := ⟨_, rfl⟩
  obtain ⟨lo_, hlo_⟩ : ∃ x : List Loc, x = [] := ⟨_, rfl⟩
  have W_ : WD D A_ s_.heap ([wO cy o ab be bl ta tl tk vl, wB cy (o 10) yb, wA cy (o 11) 104 an, wA cy (o 12) 3 va]) H_ lo_ := by rw [hH_, hlo_]; exact W_
  rw [← hlo_]
  suffices hg_ : W p_ l_ e_ rX8_takesBoard s_ m_ ar_ be_ me_ c_ H_ lo_ 0 0 Q_ (F0 m_ 0 ls_ []) by rw [hH_] at hg_; exact hg_
  clear hH_ hlo_
  have hinX8 : ∀ w ∈ u_ws RX8 TX8 19, w ∈ wsX8_takesBoard := fun w h => List.mem_cons_of_mem _ (List.mem_append_right _ h)
  obtain ⟨tf1, tf2, tf3, tf4, tf5⟩ := TS_f hts
  refine lv_aload_n F_.1 F_.2.1 dX8_takesBoard_0 rfl (lv_at hl 0 rfl) ?_
  refine z_callVv F_ K_ W_ [] (c_X8_goBehind l_ D cy o ab be bl ta tl tk vl yb byb (by first | omega | assumption) (by first | omega | assumption)) 0 rfl gX8_takesBoard_X8_goBehind rfl (by decide +kernel) ⟨⟨Nat.le_of_ble_eq_true rfl, Nat.le_of_ble_eq_true rfl⟩, rfl, rfl, Nat.zero_le _, Nat.zero_le _⟩ 0 0 7 rfl rfl rfl rfl hl.1 rfl (Nat.le_of_ble_eq_true rfl) [0, 1] [2, 3] [wA cy (o 11) 104 an, wA cy (o 12) 3 va] (fun (u_ : (Int) × (Int) × (Int) × (Int)) => [wO cy o ab be bl u_.1 u_.2.1 u_.2.2.1 u_.2.2.2, wB cy (o 10) yb, wA cy (o 11) 104 an, wA cy (o 12) 3 va]) 4 (by decide +kernel) rfl rfl rfl (fun _ => rfl) (fun _ => rfl) (fun _ => rfl) dX8_takesBoard_1 (fun u_ H_ lo_ hw_ W_ => ?_)
  obtain ⟨ta2_2, tl2_3, tk2_4, vl2_5⟩ := u_
  have W_ : WD D A_ s_.heap ([wO cy o ab be bl ta2_2 tl2_3 tk2_4 vl2_5, wB cy (o 10) yb, wA cy (o 11) 104 an, wA cy (o 12) 3 va]) H_ lo_ := W_
  replace hw_ : (TS yb bl (ta + tl) tk2_4 ta2_2 tl2_3 vl2_5) := hw_
  have f1_v := hw_
  clear hw_
  have hts1 : TS yb bl (tE yb bl s) tk2_4 ta2_2 tl2_3 vl2_5 := by rw [tf3]; exact f1_v
  obtain ⟨ug1, ug2, ug3, ug4, ug5⟩ := TS_f hts1
  refine lv_aload_n F_.1 F_.2.1 dX8_takesBoard_4 rfl (lv_at hl 0 rfl) ?_
  refine z_iconst F_ dX8_takesBoard_5 ?_
  refine z_iconst F_ dX8_takesBoard_6 ?_
  refine lv_aload_n F_.1 F_.2.1 dX8_takesBoard_7 rfl (lv_at hl 0 rfl) ?_
  refine z_get F_ K_ W_ 0 0 17 rfl rfl rfl (C := RX8) (T := TX8) (N := 19) rfl (by decide) hinX8 (List.mem_of_getElem? (i := 1) rfl) dX8_takesBoard_8 ?_
  refine z_iconst F_ dX8_takesBoard_11 ?_
  refine z_iald F_ K_ W_ 2 0 rfl rfl (by omega) (by decide) dX8_takesBoard_12 ?_
  have b_6 := ban 1
  refine z_iconst F_ dX8_takesBoard_13 ?_
  refine z_isub F_ dX8_takesBoard_14 ?_
  refine z_callVi F_ K_ W_ [.int (zi 0), .int (zi 0), .int (zi ((an 1) - 1))] (c_X8_takes l_ D cy o ab be bl ta2_2 tl2_3 tk2_4 vl2_5 yb va (tE yb bl s) 0 0 ((an 1) - 1) byb bva (by first | omega | assumption) (by first | omega | assumption) (by first | omega | assumption) (by first | omega | assumption) (by exact hts1) (by omega) (by first | omega | assumption) (by first | omega | assumption)) 3 rfl gX8_takesBoard_X8_takes rfl (by decide +kernel) ⟨⟨Nat.le_of_ble_eq_true rfl, Nat.le_of_ble_eq_true rfl⟩, rfl, rfl, Nat.zero_le _, Nat.zero_le _⟩ 0 0 7 rfl rfl rfl rfl hl.1 rfl (Nat.le_of_ble_eq_true rfl) [0, 1, 3] [2] [wA cy (o 11) 104 an] (fun (u_ : (Int) × (Int) × (Int) × (Int) × (Int → Int)) => [wO cy o ab be bl u_.1 u_.2.1 u_.2.2.1 u_.2.2.2.1, wB cy (o 10) yb, wA cy (o 11) 104 an, wA cy (o 12) 3 u_.2.2.2.2]) 4 (by decide +kernel) rfl rfl rfl (fun _ => rfl) (fun _ => rfl) (fun _ => rfl) dX8_takesBoard_15 (fun z_7 u_ H_ lo_ hw_ W_ => ?_)
  obtain ⟨ta2_8, tl2_9, tk2_10, vl2_11, va2_12⟩ := u_
  have W_ : WD D A_ s_.heap ([wO cy o ab be bl ta2_8 tl2_9 tk2_10 vl2_11, wB cy (o 10) yb, wA cy (o 11) 104 an, wA cy (o 12) 3 va2_12]) H_ lo_ := W_
  replace hw_ : ((z_7 = 1 ∧ (nmP yb bl 0 ((an 1) - 1) (tE yb bl s)) ∧ va2_12 = zu va 0 (tV yb bl (tE yb bl s)) ∧ TS yb bl (tE yb bl (tE yb bl s)) tk2_10 ta2_8 tl2_9 vl2_11) ∨ (z_7 = 0 ∧ ¬ (nmP yb bl 0 ((an 1) - 1) (tE yb bl s)) ∧ va2_12 = va ∧ ta2_8 = ta2_2 ∧ tl2_9 = tl2_3 ∧ tk2_10 = tk2_4 ∧ vl2_11 = vl2_5)) ∧ (∀ j : Int, 0 ≤ va2_12 j ∧ va2_12 j ≤ 99) := hw_
  obtain ⟨f15_v, f15_B_V_g⟩ := hw_
  refine z_if_eq (tgt := 65) F_ (by omega) dX8_takesBoard_18 (by decide) (fun c18 => ?_) (fun c18 => ?_)
  · refine z_iconst F_ dX8_takesBoard_65 ?_
    exact hret _ _ _ _ 0 (ta2_8, tl2_9, tk2_10, vl2_11, an, va2_12) dX8_takesBoard_66 ⟨(by first | (have hr := brdI_2 (yb := yb) (bl := bl) (s := s) (g := an) hf.2.1 (fun q => by have h1 : tK yb bl (tE yb bl (tE yb bl s)) = 2 ∧ 0 ≤ (tV yb bl (tE yb bl (tE yb bl s))) ∧ (tV yb bl (tE yb bl (tE yb bl s))) ≤ an 0 - 1 := q.1; have h2 := q.2; first | omega | (rw [htv] at h2; omega)); exact Or.inr ⟨rfl, by rw [hr], by rw [hr]; exact vg2.symm, by omega, by omega⟩) | (have hf := f15_v.resolve_left (fun q => absurd q.1 (by omega)); have hr := brdI_1 (yb := yb) (bl := bl) (s := s) (g := an) hf.2.1; exact Or.inr ⟨rfl, by rw [hr], by rw [hr]; exact hf.2.2.2.1.trans ug2.symm, by omega, by omega⟩)), (by exact hn), ban, f15_B_V_g⟩ W_
  · have hf := f15_v.resolve_right (fun q => c18 q.1)
    have hnm : tK yb bl (tE yb bl s) = 2 ∧ 0 ≤ (tV yb bl (tE yb bl s)) ∧ (tV yb bl (tE yb bl s)) ≤ an 1 - 1 := hf.2.1
    obtain ⟨vg1, vg2, vg3, vg4, vg5⟩ := TS_f hf.2.2.2
    refine lv_aload_n F_.1 F_.2.1 dX8_takesBoard_21 rfl (lv_at hl 0 rfl) ?_
    refine z_get F_ K_ W_ 0 0 15 rfl rfl rfl (C := RX8) (T := TX8) (N := 19) rfl (by decide) hinX8 (List.mem_of_getElem? (i := 2) rfl) dX8_takesBoard_22 ?_
    refine z_iconst F_ dX8_takesBoard_25 ?_
    refine z_icmp_ne (tgt := 65) F_ (by omega) dX8_takesBoard_26 (by decide) (fun c26 => ?_) (fun c26 => ?_)
    · refine z_iconst F_ dX8_takesBoard_65 ?_
      exact hret _ _ _ _ 0 (ta2_8, tl2_9, tk2_10, vl2_11, an, va2_12) dX8_takesBoard_66 ⟨(by first | (have hr := brdI_2 (yb := yb) (bl := bl) (s := s) (g := an) hf.2.1 (fun q => by have h1 : tK yb bl (tE yb bl (tE yb bl s)) = 2 ∧ 0 ≤ (tV yb bl (tE yb bl (tE yb bl s))) ∧ (tV yb bl (tE yb bl (tE yb bl s))) ≤ an 0 - 1 := q.1; have h2 := q.2; first | omega | (rw [htv] at h2; omega)); exact Or.inr ⟨rfl, by rw [hr], by rw [hr]; exact vg2.symm, by omega, by omega⟩) | (have hf := f15_v.resolve_left (fun q => absurd q.1 (by omega)); have hr := brdI_1 (yb := yb) (bl := bl) (s := s) (g := an) hf.2.1; exact Or.inr ⟨rfl, by rw [hr], by rw [hr]; exact hf.2.2.2.1.trans ug2.symm, by omega, by omega⟩)), (by exact hn), ban, f15_B_V_g⟩ W_
    · have htv := vg4 (by omega)
      refine lv_aload_n F_.1 F_.2.1 dX8_takesBoard_29 rfl (lv_at hl 0 rfl) ?_
      refine z_get F_ K_ W_ 0 0 16 rfl rfl rfl (C := RX8) (T := TX8) (N := 19) rfl (by decide) hinX8 (List.mem_of_getElem? (i := 3) rfl) dX8_takesBoard_30 ?_
      refine z_i2l F_ (by omega) dX8_takesBoard_33 ?_
      refine z_lconst (z := 0) F_ rfl dX8_takesBoard_34 ?_
      refine lv_aload_n F_.1 F_.2.1 dX8_takesBoard_35 rfl (lv_at hl 0 rfl) ?_
      refine z_get F_ K_ W_ 0 0 17 rfl rfl rfl (C := RX8) (T := TX8) (N := 19) rfl (by decide) hinX8 (List.mem_of_getElem? (i := 1) rfl) dX8_takesBoard_36 ?_
      refine z_iconst F_ dX8_takesBoard_39 ?_
      refine z_iald F_ K_ W_ 2 0 rfl rfl (by omega) (by decide) dX8_takesBoard_40 ?_
      have b_13 := ban 0
      refine z_iconst F_ dX8_takesBoard_41 ?_
      refine z_isub F_ dX8_takesBoard_42 ?_
      refine z_i2l F_ (by omega) dX8_takesBoard_43 ?_
      refine z_callSip F_ K_ W_ [.long (zl vl2_11), .long (zl 0), .long (zl ((an 0) - 1))] (c_X8_in l_ D cy vl2_11 0 ((an 0) - 1) (by first | omega | assumption)) 3 rfl gX8_takesBoard_X8_in rfl (by decide +kernel) ⟨⟨Nat.le_of_ble_eq_true rfl, Nat.le_of_ble_eq_true rfl⟩, rfl, rfl, Nat.zero_le _, Nat.zero_le _⟩ hl.1 rfl (Nat.le_of_ble_eq_true rfl) ([] : List Nat) [0, 1, 2, 3] [wO cy o ab be bl ta2_8 tl2_9 tk2_10 vl2_11, wB cy (o 10) yb, wA cy (o 11) 104 an, wA cy (o 12) 3 va2_12] 4 (by decide +kernel) rfl rfl rfl dX8_takesBoard_44 (fun z_14 _ H_ lo_ hw_ W_ => ?_)
      replace hw_ : ((z_14 = 1 ∧ (0 ≤ vl2_11 ∧ vl2_11 ≤ ((an 0) - 1))) ∨ (z_14 = 0 ∧ ¬ (0 ≤ vl2_11 ∧ vl2_11 ≤ ((an 0) - 1)))) := hw_
      have f44_v := hw_
      clear hw_
      refine z_if_eq (tgt := 65) F_ (by omega) dX8_takesBoard_47 (by decide) (fun c47 => ?_) (fun c47 => ?_)
      · refine z_iconst F_ dX8_takesBoard_65 ?_
        exact hret _ _ _ _ 0 (ta2_8, tl2_9, tk2_10, vl2_11, an, va2_12) dX8_takesBoard_66 ⟨(by first | (have hr := brdI_2 (yb := yb) (bl := bl) (s := s) (g := an) hf.2.1 (fun q => by have h1 : tK yb bl (tE yb bl (tE yb bl s)) = 2 ∧ 0 ≤ (tV yb bl (tE yb bl (tE yb bl s))) ∧ (tV yb bl (tE yb bl (tE yb bl s))) ≤ an 0 - 1 := q.1; have h2 := q.2; first | omega | (rw [htv] at h2; omega)); exact Or.inr ⟨rfl, by rw [hr], by rw [hr]; exact vg2.symm, by omega, by omega⟩) | (have hf := f15_v.resolve_left (fun q => absurd q.1 (by omega)); have hr := brdI_1 (yb := yb) (bl := bl) (s := s) (g := an) hf.2.1; exact Or.inr ⟨rfl, by rw [hr], by rw [hr]; exact hf.2.2.2.1.trans ug2.symm, by omega, by omega⟩)), (by exact hn), ban, f15_B_V_g⟩ W_
      · refine lv_aload_n F_.1 F_.2.1 dX8_takesBoard_50 rfl (lv_at hl 0 rfl) ?_
        refine z_get F_ K_ W_ 0 0 17 rfl rfl rfl (C := RX8) (T := TX8) (N := 19) rfl (by decide) hinX8 (List.mem_of_getElem? (i := 1) rfl) dX8_takesBoard_51 ?_
        refine z_bipush F_ (by decide) dX8_takesBoard_54 ?_
        refine lv_aload_n F_.1 F_.2.1 dX8_takesBoard_56 rfl (lv_at hl 0 rfl) ?_
        refine z_get F_ K_ W_ 0 0 16 rfl rfl rfl (C := RX8) (T := TX8) (N := 19) rfl (by decide) hinX8 (List.mem_of_getElem? (i := 3) rfl) dX8_takesBoard_57 ?_
        refine z_iadd F_ dX8_takesBoard_60 ?_
        refine z_iald F_ K_ W_ 2 0 rfl rfl (by omega) (by decide) dX8_takesBoard_61 ?_
        have b_15 := ban (6 + vl2_11)
        refine z_if_eq (tgt := 67) F_ (by omega) dX8_takesBoard_62 (by decide) (fun c62 => ?_) (fun c62 => ?_)
        · refine lv_aload_n F_.1 F_.2.1 dX8_takesBoard_67 rfl (lv_at hl 0 rfl) ?_
          refine z_get F_ K_ W_ 0 0 17 rfl rfl rfl (C := RX8) (T := TX8) (N := 19) rfl (by decide) hinX8 (List.mem_of_getElem? (i := 1) rfl) dX8_takesBoard_68 ?_
          refine z_bipush F_ (by decide) dX8_takesBoard_71 ?_
          refine lv_aload_n F_.1 F_.2.1 dX8_takesBoard_73 rfl (lv_at hl 0 rfl) ?_
          refine z_get F_ K_ W_ 0 0 16 rfl rfl rfl (C := RX8) (T := TX8) (N := 19) rfl (by decide) hinX8 (List.mem_of_getElem? (i := 3) rfl) dX8_takesBoard_74 ?_
          refine z_iadd F_ dX8_takesBoard_77 ?_
          refine lv_aload_n F_.1 F_.2.1 dX8_takesBoard_78 rfl (lv_at hl 0 rfl) ?_
          refine z_get F_ K_ W_ 0 0 18 rfl rfl rfl (C := RX8) (T := TX8) (N := 19) rfl (by decide) hinX8 (List.mem_of_getElem? (i := 4) rfl) dX8_takesBoard_79 ?_
          refine z_iconst F_ dX8_takesBoard_82 ?_
          refine z_iald F_ K_ W_ 3 0 rfl rfl (by omega) (by decide) dX8_takesBoard_83 ?_
          have b_16 := f15_B_V_g 0
          have i_17 : va2_12 0 = (tV yb bl (tE yb bl s)) := by rw [hf.2.2.1]; exact zu_s _ _ _
          rw [i_17]
          have b_18 := f15_B_V_g 0
          rw [i_17] at b_18
          refine z_iconst F_ dX8_takesBoard_84 ?_
          refine z_iadd F_ dX8_takesBoard_85 ?_
          refine z_iast (sg' := [wO cy o ab be bl ta2_8 tl2_9 tk2_10 vl2_11, wB cy (o 10) yb, wA cy (o 11) 104 (zu an (6 + vl2_11) ((tV yb bl (tE yb bl s)) + 1)), wA cy (o 12) 3 va2_12]) F_ K_ W_ 2 0 rfl rfl rfl (by omega) (by decide) dX8_takesBoard_86 (fun H_ lo_ W_ => ?_)
          obtain ⟨g_19, eg_19⟩ : ∃ x_ : Int → Int, x_ = zu an (6 + vl2_11) ((tV yb bl (tE yb bl s)) + 1) := ⟨_, rfl⟩
          rw [← eg_19] at W_
          have bg_19 : ∀ j : Int, 0 ≤ g_19 j ∧ g_19 j ≤ 99 := by rw [eg_19]; exact zu_b ban (by omega)
          have hA : g_19 0 = an 0 ∧ g_19 1 = an 1 := by rw [eg_19]; exact ⟨zu_n _ _ (by omega), zu_n _ _ (by omega)⟩
          refine lv_aload_n F_.1 F_.2.1 dX8_takesBoard_87 rfl (lv_at hl 0 rfl) ?_
          refine z_callVv F_ K_ W_ [] (c_X8_goBehind l_ D cy o ab be bl ta2_8 tl2_9 tk2_10 vl2_11 yb byb (by first | omega | assumption) (by first | omega | assumption)) 0 rfl gX8_takesBoard_X8_goBehind rfl (by decide +kernel) ⟨⟨Nat.le_of_ble_eq_true rfl, Nat.le_of_ble_eq_true rfl⟩, rfl, rfl, Nat.zero_le _, Nat.zero_le _⟩ 0 0 7 rfl rfl rfl rfl hl.1 rfl (Nat.le_of_ble_eq_true rfl) [0, 1] [2, 3] [wA cy (o 11) 104 g_19, wA cy (o 12) 3 va2_12] (fun (u_ : (Int) × (Int) × (Int) × (Int)) => [wO cy o ab be bl u_.1 u_.2.1 u_.2.2.1 u_.2.2.2, wB cy (o 10) yb, wA cy (o 11) 104 g_19, wA cy (o 12) 3 va2_12]) 4 (by decide +kernel) rfl rfl rfl (fun _ => rfl) (fun _ => rfl) (fun _ => rfl) dX8_takesBoard_88 (fun u_ H_ lo_ hw_ W_ => ?_)
          obtain ⟨ta2_21, tl2_22, tk2_23, vl2_24⟩ := u_
          have W_ : WD D A_ s_.heap ([wO cy o ab be bl ta2_21 tl2_22 tk2_23 vl2_24, wB cy (o 10) yb, wA cy (o 11) 104 g_19, wA cy (o 12) 3 va2_12]) H_ lo_ := W_
          replace hw_ : (TS yb bl (ta2_8 + tl2_9) tk2_23 ta2_21 tl2_22 vl2_24) := hw_
          have f88_v := hw_
          clear hw_
          refine z_iconst F_ dX8_takesBoard_91 ?_
          exact hret _ _ _ _ 1 (ta2_21, tl2_22, tk2_23, vl2_24, g_19, va2_12) dX8_takesBoard_92 ⟨(by have hr := brdI_3 (yb := yb) (bl := bl) (s := s) (g := an) hf.2.1 ⟨⟨by omega, by omega, by omega⟩, by rw [htv]; assumption⟩; exact Or.inl ⟨rfl, by rw [hr], by rw [hr, htv]; assumption, by rw [hr]; show s ≤ tE yb bl (tE yb bl (tE yb bl s)); omega, by rw [hr]; show TS yb bl (tE yb bl (tE yb bl (tE yb bl s))) _ _ _ _; rw [vg3]; exact f88_v⟩), (by show (0 ≤ g_19 0 ∧ g_19 0 ≤ 8) ∧ (0 ≤ g_19 1 ∧ g_19 1 ≤ 3); omega), bg_19, f15_B_V_g⟩ W_
        · refine z_iconst F_ dX8_takesBoard_65 ?_
          exact hret _ _ _ _ 0 (ta2_8, tl2_9, tk2_10, vl2_11, an, va2_12) dX8_takesBoard_66 ⟨(by first | (have hr := brdI_2 (yb := yb) (bl := bl) (s := s) (g := an) hf.2.1 (fun q => by have h1 : tK yb bl (tE yb bl (tE yb bl s)) = 2 ∧ 0 ≤ (tV yb bl (tE yb bl (tE yb bl s))) ∧ (tV yb bl (tE yb bl (tE yb bl s))) ≤ an 0 - 1 := q.1; have h2 := q.2; first | omega | (rw [htv] at h2; omega)); exact Or.inr ⟨rfl, by rw [hr], by rw [hr]; exact vg2.symm, by omega, by omega⟩) | (have hf := f15_v.resolve_left (fun q => absurd q.1 (by omega)); have hr := brdI_1 (yb := yb) (bl := bl) (s := s) (g := an) hf.2.1; exact Or.inr ⟨rfl, by rw [hr], by rw [hr]; exact hf.2.2.2.1.trans ug2.symm, by omega, by omega⟩)), (by exact hn), ban, f15_B_V_g⟩ W_
abbrev rX8_takesItem : Room := { frames := 6, cells := 0, slots := 0, locals := 132 }
set_option maxHeartbeats 1000000 in
set_option maxRecDepth 100000 in
theorem c_X8_takesItem (l_ : Launch) (D : va_G) (cy : Nat → ClassId) (o : Nat → Nat) (ab : Int) (be : Int) (bl : Int) (ta : Int) (tl : Int) (tk : Int) (vl : Int) (yb : Int → Int) (an : Int → Int) (va : Int → Int) (s : Int) (byb : ∀ j : Int, 0 ≤ yb j ∧ yb j ≤ 127) (ban : ∀ j : Int, 0 ≤ an j ∧ an j ≤ 99) (bva : ∀ j : Int, 0 ≤ va j ∧ va j ≤ 99) (hbl : 0 ≤ bl ∧ bl ≤ 150) (hts : TS yb bl s tk ta tl vl) (hs0 : 0 ≤ s) (hn : (0 ≤ an 0 ∧ an 0 ≤ 8) ∧ (0 ≤ an 1 ∧ an 1 ≤ 3)) : CTi l_ D cy yX8_takesItem wsX8_takesItem rX8_takesItem [.ref (o 0)] ([wO cy o ab be bl ta tl tk vl, wB cy (o 10) yb, wA cy (o 11) 104 an, wA cy (o 12) 3 va]) (fun (z : Int) (u : (Int) × (Int) × (Int) × (Int) × (Int → Int) × (Int → Int)) => ((z = 1 ∧ (itmN yb bl s an).1 = 1 ∧ u.2.2.2.2.1 = (itmN yb bl s an).2.2 ∧ s ≤ (itmN yb bl s an).2.1 ∧ TS yb bl (itmN yb bl s an).2.1 u.2.2.1 u.1 u.2.1 u.2.2.2.1) ∨ (z = 0 ∧ (itmN yb bl s an).1 = 0 ∧ u.1 = (itmN yb bl s an).2.1 ∧ 0 ≤ u.1 ∧ u.1 ≤ 150)) ∧ ((0 ≤ u.2.2.2.2.1 0 ∧ u.2.2.2.2.1 0 ≤ 8) ∧ (0 ≤ u.2.2.2.2.1 1 ∧ u.2.2.2.2.1 1 ≤ 3)) ∧ (∀ j : Int, 0 ≤ u.2.2.2.2.1 j ∧ u.2.2.2.2.1 j ≤ 99) ∧ (∀ j : Int, 0 ≤ u.2.2.2.2.2 j ∧ u.2.2.2.2.2 j ≤ 99)) (fun (u : (Int) × (Int) × (Int) × (Int) × (Int → Int) × (Int → Int)) => [wO cy o ab be bl u.1 u.2.1 u.2.2.1 u.2.2.2.1, wB cy (o 10) yb, wA cy (o 11) 104 u.2.2.2.2.1, wA cy (o 12) 3 u.2.2.2.2.2]) := by
  refine CTi.of RX8 cX8_takesItem 1 rfl (by decide) rfl (fun z u hz => z_bl4 hz) (Nat.le_of_ble_eq_true rfl) ?_
  intro p_ e_ s_ m_ ar_ be_ me_ c_ Q_ A_ ls_ F_ K_ W_ hl hret
  have hl : lv_has ls_ 1 [(0, .ref (o 0))] := hl
  obtain ⟨H_, hH_⟩ : ∃ x, x = s_.heap := ⟨_, rfl⟩
  obtain ⟨lo_, hlo_⟩ : ∃ x : List Loc, x = [] := ⟨_, rfl⟩
  have W_ : WD D A_ s_.heap ([wO cy o ab be bl ta tl tk vl, wB cy (o 10) yb, wA cy (o 11) 104 an, wA cy (o 12) 3 va]) H_ lo_ := by rw [hH_, hlo_]; exact W_
  rw [← hlo_]
  suffices hg_ : W p_ l_ e_ rX8_takesItem s_ m_ ar_ be_ me_ c_ H_ lo_ 0 0 Q_ (F0 m_ 0 ls_ []) by rw [hH_] at hg_; exact hg_
  clear hH_ hlo_
  obtain ⟨tf1, tf2, tf3, tf4, tf5⟩ := TS_f hts
  refine lv_aload_n F_.1 F_.2.1 dX8_takesItem_0 rfl (lv_at hl 0 rfl) ?_
  refine z_iconst F_ dX8_takesItem_1 ?_
  refine z_bipush F_ (by decide) dX8_takesItem_2 ?_
  refine z_bipush F_ (by decide) dX8_takesItem_4 ?_
  refine z_bipush F_ (by decide) dX8_takesItem_6 ?_
  refine z_bipush F_ (by decide) dX8_takesItem_8 ?_
  refine z_iconst F_ dX8_takesItem_10 ?_
  refine z_iconst F_ dX8_takesItem_11 ?_
  refine z_callVip F_ K_ W_ [.int (zi 4), .int (zi 115), .int (zi 104), .int (zi 105), .int (zi 112), .int (zi 0), .int (zi 0)] (c_X8_spells l_ D cy o ab be bl ta tl tk vl yb 4 115 104 105 112 0 0 byb (by first | omega | assumption) (by first | omega | assumption) (by first | omega | assumption) (by first | omega | assumption) (by first | omega | assumption) (by first | omega | assumption) (by first | omega | assumption) (by first | omega | assumption) (by first | omega | assumption) (by first | omega | assumption)) 7 rfl gX8_takesItem_X8_spells rfl (by decide +kernel) ⟨⟨Nat.le_of_ble_eq_true rfl, Nat.le_of_ble_eq_true rfl⟩, rfl, rfl, Nat.zero_le _, Nat.zero_le _⟩ 0 0 7 rfl rfl rfl rfl hl.1 rfl (Nat.le_of_ble_eq_true rfl) [0, 1] [2, 3] [wA cy (o 11) 104 an, wA cy (o 12) 3 va] 4 (by decide +kernel) rfl rfl rfl dX8_takesItem_12 (fun z_1 _ H_ lo_ hw_ W_ => ?_)
  replace hw_ : ((z_1 = 1 ∧ (wdP yb tk ta tl 4 (cwZ 115 104 105 112 0 0))) ∨ (z_1 = 0 ∧ ¬ (wdP yb tk ta tl 4 (cwZ 115 104 105 112 0 0)))) := hw_
  have f12_v := hw_
  clear hw_
  have w12 := isP_if f12_v (wd_TS hts (n := 4) (c := cwZ 115 104 105 112 0 0))
  clear f12_v
  refine z_if_eq (tgt := 23) F_ (by omega) dX8_takesItem_15 (by decide) (fun c15 => ?_) (fun c15 => ?_)
  · refine lv_aload_n F_.1 F_.2.1 dX8_takesItem_23 rfl (lv_at hl 0 rfl) ?_
    refine z_iconst F_ dX8_takesItem_24 ?_
    refine z_bipush F_ (by decide) dX8_takesItem_25 ?_
    refine z_bipush F_ (by decide) dX8_takesItem_27 ?_
    refine z_bipush F_ (by decide) dX8_takesItem_29 ?_
    refine z_iconst F_ dX8_takesItem_31 ?_
    refine z_iconst F_ dX8_takesItem_32 ?_
    refine z_iconst F_ dX8_takesItem_33 ?_
    refine z_callVip F_ K_ W_ [.int (zi 3), .int (zi 109), .int (zi 97), .int (zi 110), .int (zi 0), .int (zi 0), .int (zi 0)] (c_X8_spells l_ D cy o ab be bl ta tl tk vl yb 3 109 97 110 0 0 0 byb (by first | omega | assumption) (by first | omega | assumption) (by first | omega | assumption) (by first | omega | assumption) (by first | omega | assumption) (by first | omega | assumption) (by first | omega | assumption) (by first | omega | assumption) (by first | omega | assumption) (by first | omega | assumption)) 7 rfl gX8_takesItem_X8_spells rfl (by decide +kernel) ⟨⟨Nat.le_of_ble_eq_true rfl, Nat.le_of_ble_eq_true rfl⟩, rfl, rfl, Nat.zero_le _, Nat.zero_le _⟩ 0 0 7 rfl rfl rfl rfl hl.1 rfl (Nat.le_of_ble_eq_true rfl) [0, 1] [2, 3] [wA cy (o 11) 104 an, wA cy (o 12) 3 va] 4 (by decide +kernel) rfl rfl rfl dX8_takesItem_34 (fun z_2 _ H_ lo_ hw_ W_ => ?_)
    replace hw_ : ((z_2 = 1 ∧ (wdP yb tk ta tl 3 (cwZ 109 97 110 0 0 0))) ∨ (z_2 = 0 ∧ ¬ (wdP yb tk ta tl 3 (cwZ 109 97 110 0 0 0)))) := hw_
    have f34_v := hw_
    clear hw_
    have w34 := isP_if f34_v (wd_TS hts (n := 3) (c := cwZ 109 97 110 0 0 0))
    clear f34_v
    refine z_if_eq (tgt := 45) F_ (by omega) dX8_takesItem_37 (by decide) (fun c37 => ?_) (fun c37 => ?_)
    · refine lv_aload_n F_.1 F_.2.1 dX8_takesItem_45 rfl (lv_at hl 0 rfl) ?_
      refine z_iconst F_ dX8_takesItem_46 ?_
      refine z_bipush F_ (by decide) dX8_takesItem_47 ?_
      refine z_bipush F_ (by decide) dX8_takesItem_49 ?_
      refine z_bipush F_ (by decide) dX8_takesItem_51 ?_
      refine z_bipush F_ (by decide) dX8_takesItem_53 ?_
      refine z_iconst F_ dX8_takesItem_55 ?_
      refine z_iconst F_ dX8_takesItem_56 ?_
      refine z_callVip F_ K_ W_ [.int (zi 4), .int (zi 99), .int (zi 97), .int (zi 108), .int (zi 108), .int (zi 0), .int (zi 0)] (c_X8_spells l_ D cy o ab be bl ta tl tk vl yb 4 99 97 108 108 0 0 byb (by first | omega | assumption) (by first | omega | assumption) (by first | omega | assumption) (by first | omega | assumption) (by first | omega | assumption) (by first | omega | assumption) (by first | omega | assumption) (by first | omega | assumption) (by first | omega | assumption) (by first | omega | assumption)) 7 rfl gX8_takesItem_X8_spells rfl (by decide +kernel) ⟨⟨Nat.le_of_ble_eq_true rfl, Nat.le_of_ble_eq_true rfl⟩, rfl, rfl, Nat.zero_le _, Nat.zero_le _⟩ 0 0 7 rfl rfl rfl rfl hl.1 rfl (Nat.le_of_ble_eq_true rfl) [0, 1] [2, 3] [wA cy (o 11) 104 an, wA cy (o 12) 3 va] 4 (by decide +kernel) rfl rfl rfl dX8_takesItem_57 (fun z_3 _ H_ lo_ hw_ W_ => ?_)
      replace hw_ : ((z_3 = 1 ∧ (wdP yb tk ta tl 4 (cwZ 99 97 108 108 0 0))) ∨ (z_3 = 0 ∧ ¬ (wdP yb tk ta tl 4 (cwZ 99 97 108 108 0 0)))) := hw_
      have f57_v := hw_
      clear hw_
      have w57 := isP_if f57_v (wd_TS hts (n := 4) (c := cwZ 99 97 108 108 0 0))
      clear f57_v
      refine z_if_eq (tgt := 68) F_ (by omega) dX8_takesItem_60 (by decide) (fun c60 => ?_) (fun c60 => ?_)
      · refine lv_aload_n F_.1 F_.2.1 dX8_takesItem_68 rfl (lv_at hl 0 rfl) ?_
        refine z_iconst F_ dX8_takesItem_69 ?_
        refine z_bipush F_ (by decide) dX8_takesItem_70 ?_
        refine z_bipush F_ (by decide) dX8_takesItem_72 ?_
        refine z_bipush F_ (by decide) dX8_takesItem_74 ?_
        refine z_bipush F_ (by decide) dX8_takesItem_76 ?_
        refine z_bipush F_ (by decide) dX8_takesItem_78 ?_
        refine z_iconst F_ dX8_takesItem_80 ?_
        refine z_callVip F_ K_ W_ [.int (zi 5), .int (zi 98), .int (zi 111), .int (zi 97), .int (zi 114), .int (zi 100), .int (zi 0)] (c_X8_spells l_ D cy o ab be bl ta tl tk vl yb 5 98 111 97 114 100 0 byb (by first | omega | assumption) (by first | omega | assumption) (by first | omega | assumption) (by first | omega | assumption) (by first | omega | assumption) (by first | omega | assumption) (by first | omega | assumption) (by first | omega | assumption) (by first | omega | assumption) (by first | omega | assumption)) 7 rfl gX8_takesItem_X8_spells rfl (by decide +kernel) ⟨⟨Nat.le_of_ble_eq_true rfl, Nat.le_of_ble_eq_true rfl⟩, rfl, rfl, Nat.zero_le _, Nat.zero_le _⟩ 0 0 7 rfl rfl rfl rfl hl.1 rfl (Nat.le_of_ble_eq_true rfl) [0, 1] [2, 3] [wA cy (o 11) 104 an, wA cy (o 12) 3 va] 4 (by decide +kernel) rfl rfl rfl dX8_takesItem_81 (fun z_4 _ H_ lo_ hw_ W_ => ?_)
        replace hw_ : ((z_4 = 1 ∧ (wdP yb tk ta tl 5 (cwZ 98 111 97 114 100 0))) ∨ (z_4 = 0 ∧ ¬ (wdP yb tk ta tl 5 (cwZ 98 111 97 114 100 0)))) := hw_
        have f81_v := hw_
        clear hw_
        have w81 := isP_if f81_v (wd_TS hts (n := 5) (c := cwZ 98 111 97 114 100 0))
        clear f81_v
        refine z_if_eq (tgt := 98) F_ (by omega) dX8_takesItem_84 (by decide) (fun c84 => ?_) (fun c84 => ?_)
        · refine z_iconst F_ dX8_takesItem_98 ?_
          exact hret _ _ _ _ 0 (ta, tl, tk, vl, an, va) dX8_takesItem_99 ⟨(by first | (rw [show itmN yb bl s an = brdI yb bl s an by rw [itmN, if_neg (w12.2.1 (by omega)), if_neg (w34.2.1 (by omega)), if_neg (w57.2.1 (by omega)), if_pos (w81.1 (by omega))]]; first | exact Or.inl ⟨rfl, (f88_v.resolve_right (fun q => absurd q.1 (by omega))).2⟩ | exact Or.inr ⟨rfl, (f88_v.resolve_left (fun q => absurd q.1 (by omega))).2⟩) | (have hr : itmN yb bl s an = (0, tA yb bl s, an) := (by rw [itmN, if_neg (w12.2.1 (by omega)), if_neg (w34.2.1 (by omega)), if_neg (w57.2.1 (by omega)), if_neg (w81.2.1 (by omega))]); exact Or.inr ⟨rfl, by rw [hr], by rw [hr]; exact tf2.symm, by omega, by omega⟩)), (by first | exact f88_n | exact hn), ban, bva⟩ W_
        · refine lv_aload_n F_.1 F_.2.1 dX8_takesItem_87 rfl (lv_at hl 0 rfl) ?_
          refine z_callVi F_ K_ W_ [] (c_X8_takesBoard l_ D cy o ab be bl ta tl tk vl yb an va s byb ban bva (by first | omega | assumption) (by first | omega | assumption) (by first | omega | assumption) (by first | omega | assumption)) 0 rfl gX8_takesItem_X8_takesBoard rfl (by decide +kernel) ⟨⟨Nat.le_of_ble_eq_true rfl, Nat.le_of_ble_eq_true rfl⟩, rfl, rfl, Nat.zero_le _, Nat.zero_le _⟩ 0 0 7 rfl rfl rfl rfl hl.1 rfl (Nat.le_of_ble_eq_true rfl) [0, 1, 2, 3] ([] : List Nat) ([] : List va_W) (fun (u_ : (Int) × (Int) × (Int) × (Int) × (Int → Int) × (Int → Int)) => [wO cy o ab be bl u_.1 u_.2.1 u_.2.2.1 u_.2.2.2.1, wB cy (o 10) yb, wA cy (o 11) 104 u_.2.2.2.2.1, wA cy (o 12) 3 u_.2.2.2.2.2]) 4 (by decide +kernel) rfl rfl rfl (fun _ => rfl) (fun _ => rfl) (fun _ => rfl) dX8_takesItem_88 (fun z_5 u_ H_ lo_ hw_ W_ => ?_)
          obtain ⟨ta2_6, tl2_7, tk2_8, vl2_9, an2_10, va2_11⟩ := u_
          have W_ : WD D A_ s_.heap ([wO cy o ab be bl ta2_6 tl2_7 tk2_8 vl2_9, wB cy (o 10) yb, wA cy (o 11) 104 an2_10, wA cy (o 12) 3 va2_11]) H_ lo_ := W_
          replace hw_ : ((z_5 = 1 ∧ (brdI yb bl s an).1 = 1 ∧ an2_10 = (brdI yb bl s an).2.2 ∧ s ≤ (brdI yb bl s an).2.1 ∧ TS yb bl (brdI yb bl s an).2.1 tk2_8 ta2_6 tl2_7 vl2_9) ∨ (z_5 = 0 ∧ (brdI yb bl s an).1 = 0 ∧ ta2_6 = (brdI yb bl s an).2.1 ∧ 0 ≤ ta2_6 ∧ ta2_6 ≤ 150)) ∧ ((0 ≤ an2_10 0 ∧ an2_10 0 ≤ 8) ∧ (0 ≤ an2_10 1 ∧ an2_10 1 ≤ 3)) ∧ (∀ j : Int, 0 ≤ an2_10 j ∧ an2_10 j ≤ 99) ∧ (∀ j : Int, 0 ≤ va2_11 j ∧ va2_11 j ≤ 99) := hw_
          obtain ⟨f88_v, f88_n, f88_B_W_g, f88_B_V_g⟩ := hw_
          refine z_if_eq (tgt := 98) F_ (by omega) dX8_takesItem_91 (by decide) (fun c91 => ?_) (fun c91 => ?_)
          · refine z_iconst F_ dX8_takesItem_98 ?_
            exact hret _ _ _ _ 0 (ta2_6, tl2_7, tk2_8, vl2_9, an2_10, va2_11) dX8_takesItem_99 ⟨(by first | (rw [show itmN yb bl s an = brdI yb bl s an by rw [itmN, if_neg (w12.2.1 (by omega)), if_neg (w34.2.1 (by omega)), if_neg (w57.2.1 (by omega)), if_pos (w81.1 (by omega))]]; first | exact Or.inl ⟨rfl, (f88_v.resolve_right (fun q => absurd q.1 (by omega))).2⟩ | exact Or.inr ⟨rfl, (f88_v.resolve_left (fun q => absurd q.1 (by omega))).2⟩) | (have hr : itmN yb bl s an = (0, tA yb bl s, an) := (by rw [itmN, if_neg (w12.2.1 (by omega)), if_neg (w34.2.1 (by omega)), if_neg (w57.2.1 (by omega)), if_neg (w81.2.1 (by omega))]); exact Or.inr ⟨rfl, by rw [hr], by rw [hr]; exact tf2.symm, by omega, by omega⟩)), (by first | exact f88_n | exact hn), f88_B_W_g, f88_B_V_g⟩ W_
          · refine z_iconst F_ dX8_takesItem_94 ?_
            refine z_goto (tgt := 99) F_ dX8_takesItem_95 (by decide) ?_
            exact hret _ _ _ _ 1 (ta2_6, tl2_7, tk2_8, vl2_9, an2_10, va2_11) dX8_takesItem_99 ⟨(by first | (rw [show itmN yb bl s an = brdI yb bl s an by rw [itmN, if_neg (w12.2.1 (by omega)), if_neg (w34.2.1 (by omega)), if_neg (w57.2.1 (by omega)), if_pos (w81.1 (by omega))]]; first | exact Or.inl ⟨rfl, (f88_v.resolve_right (fun q => absurd q.1 (by omega))).2⟩ | exact Or.inr ⟨rfl, (f88_v.resolve_left (fun q => absurd q.1 (by omega))).2⟩) | (have hr : itmN yb bl s an = (0, tA yb bl s, an) := (by rw [itmN, if_neg (w12.2.1 (by omega)), if_neg (w34.2.1 (by omega)), if_neg (w57.2.1 (by omega)), if_neg (w81.2.1 (by omega))]); exact Or.inr ⟨rfl, by rw [hr], by rw [hr]; exact tf2.symm, by omega, by omega⟩)), (by first | exact f88_n | exact hn), f88_B_W_g, f88_B_V_g⟩ W_
      · refine lv_aload_n F_.1 F_.2.1 dX8_takesItem_63 rfl (lv_at hl 0 rfl) ?_
        refine z_callVi F_ K_ W_ [] (c_X8_takesCall l_ D cy o ab be bl ta tl tk vl yb an va s byb ban bva (by first | omega | assumption) (by first | omega | assumption) (by first | omega | assumption) (by first | omega | assumption)) 0 rfl gX8_takesItem_X8_takesCall rfl (by decide +kernel) ⟨⟨Nat.le_of_ble_eq_true rfl, Nat.le_of_ble_eq_true rfl⟩, rfl, rfl, Nat.zero_le _, Nat.zero_le _⟩ 0 0 7 rfl rfl rfl rfl hl.1 rfl (Nat.le_of_ble_eq_true rfl) [0, 1, 2, 3] ([] : List Nat) ([] : List va_W) (fun (u_ : (Int) × (Int) × (Int) × (Int) × (Int → Int) × (Int → Int)) => [wO cy o ab be bl u_.1 u_.2.1 u_.2.2.1 u_.2.2.2.1, wB cy (o 10) yb, wA cy (o 11) 104 u_.2.2.2.2.1, wA cy (o 12) 3 u_.2.2.2.2.2]) 4 (by decide +kernel) rfl rfl rfl (fun _ => rfl) (fun _ => rfl) (fun _ => rfl) dX8_takesItem_64 (fun z_12 u_ H_ lo_ hw_ W_ => ?_)
        obtain ⟨ta2_13, tl2_14, tk2_15, vl2_16, an2_17, va2_18⟩ := u_
        have W_ : WD D A_ s_.heap ([wO cy o ab be bl ta2_13 tl2_14 tk2_15 vl2_16, wB cy (o 10) yb, wA cy (o 11) 104 an2_17, wA cy (o 12) 3 va2_18]) H_ lo_ := W_
        replace hw_ : ((z_12 = 1 ∧ (calI yb bl s an).1 = 1 ∧ an2_17 = (calI yb bl s an).2.2 ∧ s ≤ (calI yb bl s an).2.1 ∧ TS yb bl (calI yb bl s an).2.1 tk2_15 ta2_13 tl2_14 vl2_16) ∨ (z_12 = 0 ∧ (calI yb bl s an).1 = 0 ∧ ta2_13 = (calI yb bl s an).2.1 ∧ 0 ≤ ta2_13 ∧ ta2_13 ≤ 150)) ∧ ((0 ≤ an2_17 0 ∧ an2_17 0 ≤ 8) ∧ (0 ≤ an2_17 1 ∧ an2_17 1 ≤ 3)) ∧ (∀ j : Int, 0 ≤ an2_17 j ∧ an2_17 j ≤ 99) ∧ (∀ j : Int, 0 ≤ va2_18 j ∧ va2_18 j ≤ 99) := hw_
        obtain ⟨f64_v, f64_n, f64_B_W_g, f64_B_V_g⟩ := hw_
        exact hret _ _ _ _ z_12 (ta2_13, tl2_14, tk2_15, vl2_16, an2_17, va2_18) dX8_takesItem_67 ⟨(by rw [show itmN yb bl s an = calI yb bl s an by rw [itmN, if_neg (w12.2.1 (by omega)), if_neg (w34.2.1 (by omega)), if_pos (w57.1 (by omega))]]; exact f64_v), (by exact f64_n), f64_B_W_g, f64_B_V_g⟩ W_
    · refine lv_aload_n F_.1 F_.2.1 dX8_takesItem_40 rfl (lv_at hl 0 rfl) ?_
      refine z_callVi F_ K_ W_ [] (c_X8_takesMan l_ D cy o ab be bl ta tl tk vl yb an va s byb ban bva (by first | omega | assumption) (by first | omega | assumption) (by first | omega | assumption) (by first | omega | assumption)) 0 rfl gX8_takesItem_X8_takesMan rfl (by decide +kernel) ⟨⟨Nat.le_of_ble_eq_true rfl, Nat.le_of_ble_eq_true rfl⟩, rfl, rfl, Nat.zero_le _, Nat.zero_le _⟩ 0 0 7 rfl rfl rfl rfl hl.1 rfl (Nat.le_of_ble_eq_true rfl) [0, 1, 2, 3] ([] : List Nat) ([] : List va_W) (fun (u_ : (Int) × (Int) × (Int) × (Int) × (Int → Int) × (Int → Int)) => [wO cy o ab be bl u_.1 u_.2.1 u_.2.2.1 u_.2.2.2.1, wB cy (o 10) yb, wA cy (o 11) 104 u_.2.2.2.2.1, wA cy (o 12) 3 u_.2.2.2.2.2]) 4 (by decide +kernel) rfl rfl rfl (fun _ => rfl) (fun _ => rfl) (fun _ => rfl) dX8_takesItem_41 (fun z_19 u_ H_ lo_ hw_ W_ => ?_)
      obtain ⟨ta2_20, tl2_21, tk2_22, vl2_23, an2_24, va2_25⟩ := u_
      have W_ : WD D A_ s_.heap ([wO cy o ab be bl ta2_20 tl2_21 tk2_22 vl2_23, wB cy (o 10) yb, wA cy (o 11) 104 an2_24, wA cy (o 12) 3 va2_25]) H_ lo_ := W_
      replace hw_ : ((z_19 = 1 ∧ (manI yb bl s an).1 = 1 ∧ an2_24 = (manI yb bl s an).2.2 ∧ s ≤ (manI yb bl s an).2.1 ∧ TS yb bl (manI yb bl s an).2.1 tk2_22 ta2_20 tl2_21 vl2_23) ∨ (z_19 = 0 ∧ (manI yb bl s an).1 = 0 ∧ ta2_20 = (manI yb bl s an).2.1 ∧ 0 ≤ ta2_20 ∧ ta2_20 ≤ 150)) ∧ ((0 ≤ an2_24 0 ∧ an2_24 0 ≤ 8) ∧ (0 ≤ an2_24 1 ∧ an2_24 1 ≤ 3)) ∧ (∀ j : Int, 0 ≤ an2_24 j ∧ an2_24 j ≤ 99) ∧ (∀ j : Int, 0 ≤ va2_25 j ∧ va2_25 j ≤ 99) := hw_
      obtain ⟨f41_v, f41_n, f41_B_W_g, f41_B_V_g⟩ := hw_
      exact hret _ _ _ _ z_19 (ta2_20, tl2_21, tk2_22, vl2_23, an2_24, va2_25) dX8_takesItem_44 ⟨(by rw [show itmN yb bl s an = manI yb bl s an by rw [itmN, if_neg (w12.2.1 (by omega)), if_pos (w34.1 (by omega))]]; exact f41_v), (by exact f41_n), f41_B_W_g, f41_B_V_g⟩ W_
  · refine lv_aload_n F_.1 F_.2.1 dX8_takesItem_18 rfl (lv_at hl 0 rfl) ?_
    refine z_callVi F_ K_ W_ [] (c_X8_takesShip l_ D cy o ab be bl ta tl tk vl yb an va s byb ban bva (by first | omega | assumption) (by first | omega | assumption) (by first | omega | assumption) (by first | omega | assumption)) 0 rfl gX8_takesItem_X8_takesShip rfl (by decide +kernel) ⟨⟨Nat.le_of_ble_eq_true rfl, Nat.le_of_ble_eq_true rfl⟩, rfl, rfl, Nat.zero_le _, Nat.zero_le _⟩ 0 0 7 rfl rfl rfl rfl hl.1 rfl (Nat.le_of_ble_eq_true rfl) [0, 1, 2, 3] ([] : List Nat) ([] : List va_W) (fun (u_ : (Int) × (Int) × (Int) × (Int) × (Int → Int) × (Int → Int)) => [wO cy o ab be bl u_.1 u_.2.1 u_.2.2.1 u_.2.2.2.1, wB cy (o 10) yb, wA cy (o 11) 104 u_.2.2.2.2.1, wA cy (o 12) 3 u_.2.2.2.2.2]) 4 (by decide +kernel) rfl rfl rfl (fun _ => rfl) (fun _ => rfl) (fun _ => rfl) dX8_takesItem_19 (fun z_26 u_ H_ lo_ hw_ W_ => ?_)
    obtain ⟨ta2_27, tl2_28, tk2_29, vl2_30, an2_31, va2_32⟩ := u_
    have W_ : WD D A_ s_.heap ([wO cy o ab be bl ta2_27 tl2_28 tk2_29 vl2_30, wB cy (o 10) yb, wA cy (o 11) 104 an2_31, wA cy (o 12) 3 va2_32]) H_ lo_ := W_
    replace hw_ : ((z_26 = 1 ∧ (shpI yb bl s an).1 = 1 ∧ an2_31 = (shpI yb bl s an).2.2 ∧ s ≤ (shpI yb bl s an).2.1 ∧ TS yb bl (shpI yb bl s an).2.1 tk2_29 ta2_27 tl2_28 vl2_30) ∨ (z_26 = 0 ∧ (shpI yb bl s an).1 = 0 ∧ ta2_27 = (shpI yb bl s an).2.1 ∧ 0 ≤ ta2_27 ∧ ta2_27 ≤ 150)) ∧ ((0 ≤ an2_31 0 ∧ an2_31 0 ≤ 8) ∧ (0 ≤ an2_31 1 ∧ an2_31 1 ≤ 3)) ∧ (∀ j : Int, 0 ≤ an2_31 j ∧ an2_31 j ≤ 99) ∧ (∀ j : Int, 0 ≤ va2_32 j ∧ va2_32 j ≤ 99) := hw_
    obtain ⟨f19_v, f19_n, f19_B_W_g, f19_B_V_g⟩ := hw_
    exact hret _ _ _ _ z_26 (ta2_27, tl2_28, tk2_29, vl2_30, an2_31, va2_32) dX8_takesItem_22 ⟨(by rw [show itmN yb bl s an = shpI yb bl s an by rw [itmN, if_pos (w12.1 (by omega))]]; exact f19_v), (by exact f19_n), f19_B_W_g, f19_B_V_g⟩ W_
