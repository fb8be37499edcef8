abbrev rX8_layMan : Room := { frames := 0, cells := 0, slots := 0, locals := 0 }
set_option maxHeartbeats 1000000 in
set_option maxRecDepth 100000 in
theorem c_X8_layMan (l_ : Launch) (D : va_G) (cy : Nat → ClassId) (a : Nat) (n : Nat) (g : Int → Int) (kd : Int) (t : Int) (pl : Int) (bg : ∀ j : Int, 0 ≤ g j ∧ g j ≤ 99) (rkd : -2147483648 ≤ kd ∧ kd < 2147483648) (rt : -2147483648 ≤ t ∧ t < 2147483648) (rpl : -2147483648 ≤ pl ∧ pl < 2147483648) (hn : 36 ≤ n ∧ n ≤ 400) (hg0 : 0 ≤ g 0 ∧ g 0 < 8) (hx : 0 ≤ kd ∧ kd ≤ 5 ∧ 1 ≤ t ∧ t ≤ 9 ∧ 0 ≤ pl ∧ pl ≤ 3) : CTv l_ D cy yX8_layMan wsX8_layMan rX8_layMan [.ref a, .int (zi kd), .int (zi t), .int (zi pl)] ([wA cy a n g]) (fun (u : (Int → Int)) => (u = layG g kd t pl) ∧ (∀ j : Int, 0 ≤ u j ∧ u j ≤ 99)) (fun (u : (Int → Int)) => [wA cy a n u]) := by
  refine CTv.of RX8 cX8_layMan 5 rfl (by decide) rfl (Nat.le_of_ble_eq_true rfl) ?_
  intro p_ e_ s_ m_ ar_ be_ me_ c_ Q_ A_ ls_ F_ K_ W_ hl hret
  have hl : lv_has ls_ 5 [(0, .ref a), (1, .int (zi kd)), (2, .int (zi t)), (3, .int (zi pl))] := hl
  obtain ⟨H_, hH_⟩ : ∃ x, x = s_.heap := ⟨_, rfl⟩
  obtain ⟨lo_, hlo_⟩ : ∃ x : List Loc, x = [] := ⟨_, rfl⟩
  have W_ : WD D A_ s_.heap ([wA cy a n g]) H_ lo_ := by rw [hH_, hlo_]; exact W_
  rw [← hlo_]
  suffices hg_ : W p_ l_ e_ rX8_layMan s_ m_ ar_ be_ me_ c_ H_ lo_ 0 0 Q_ (F0 m_ 0 ls_ []) by rw [hH_] at hg_; exact hg_
  clear hH_ hlo_
  refine lv_aload_n F_.1 F_.2.1 dX8_layMan_0 rfl (lv_at hl 0 rfl) ?_
  refine z_iconst F_ dX8_layMan_1 ?_
  refine z_iald F_ K_ W_ 0 0 rfl rfl (by omega) (by omega) dX8_layMan_2 ?_
  have b_1 := bg 0
  refine lv_istore (lv' := [(4, .int (zi (g 0))), (0, .ref a), (1, .int (zi kd)), (2, .int (zi t)), (3, .int (zi pl))]) F_.1 F_.2.1 dX8_layMan_3 hl (by decide) rfl (fun ls_ hl => ?_)
  refine lv_aload_n F_.1 F_.2.1 dX8_layMan_5 rfl (lv_at hl 1 rfl) ?_
  refine z_bipush F_ (by decide) dX8_layMan_6 ?_
  refine lv_iload F_.1 F_.2.1 dX8_layMan_8 (lv_at hl 0 rfl) ?_
  refine z_iadd F_ dX8_layMan_10 ?_
  refine lv_iload_n F_.1 F_.2.1 dX8_layMan_11 rfl (lv_at hl 2 rfl) ?_
  refine z_iast (sg' := [wA cy a n (zu g (20 + (g 0)) kd)]) F_ K_ W_ 0 0 rfl rfl rfl (by omega) (by omega) dX8_layMan_12 (fun H_ lo_ W_ => ?_)
  obtain ⟨g_2, eg_2⟩ : ∃ x_ : Int → Int, x_ = zu g (20 + (g 0)) kd := ⟨_, rfl⟩
  rw [← eg_2] at W_
  have bg_2 : ∀ j : Int, 0 ≤ g_2 j ∧ g_2 j ≤ 99 := by rw [eg_2]; exact zu_b bg (by omega)
  refine lv_aload_n F_.1 F_.2.1 dX8_layMan_13 rfl (lv_at hl 1 rfl) ?_
  refine z_bipush F_ (by decide) dX8_layMan_14 ?_
  refine lv_iload F_.1 F_.2.1 dX8_layMan_16 (lv_at hl 0 rfl) ?_
  refine z_iadd F_ dX8_layMan_18 ?_
  refine lv_iload_n F_.1 F_.2.1 dX8_layMan_19 rfl (lv_at hl 3 rfl) ?_
  refine z_iast (sg' := [wA cy a n (zu g_2 (28 + (g 0)) t)]) F_ K_ W_ 0 0 rfl rfl rfl (by omega) (by omega) dX8_layMan_20 (fun H_ lo_ W_ => ?_)
  obtain ⟨g_3, eg_3⟩ : ∃ x_ : Int → Int, x_ = zu g_2 (28 + (g 0)) t := ⟨_, rfl⟩
  rw [← eg_3] at W_
  have bg_3 : ∀ j : Int, 0 ≤ g_3 j ∧ g_3 j ≤ 99 := by rw [eg_3]; exact zu_b bg_2 (by omega)
  refine lv_aload_n F_.1 F_.2.1 dX8_layMan_21 rfl (lv_at hl 1 rfl) ?_
  refine z_bipush F_ (by decide) dX8_layMan_22 ?_
  refine lv_iload F_.1 F_.2.1 dX8_layMan_24 (lv_at hl 0 rfl) ?_
  refine z_iadd F_ dX8_layMan_26 ?_
  refine lv_iload_n F_.1 F_.2.1 dX8_layMan_27 rfl (lv_at hl 4 rfl) ?_
  refine z_iast (sg' := [wA cy a n (zu g_3 (6 + (g 0)) pl)]) F_ K_ W_ 0 0 rfl rfl rfl (by omega) (by omega) dX8_layMan_28 (fun H_ lo_ W_ => ?_)
  obtain ⟨g_4, eg_4⟩ : ∃ x_ : Int → Int, x_ = zu g_3 (6 + (g 0)) pl := ⟨_, rfl⟩
  rw [← eg_4] at W_
  have bg_4 : ∀ j : Int, 0 ≤ g_4 j ∧ g_4 j ≤ 99 := by rw [eg_4]; exact zu_b bg_3 (by omega)
  refine lv_aload_n F_.1 F_.2.1 dX8_layMan_29 rfl (lv_at hl 1 rfl) ?_
  refine z_iconst F_ dX8_layMan_30 ?_
  refine lv_dup2_11 F_.1 F_.2.1 dX8_layMan_31 rfl rfl ?_
  refine z_iald F_ K_ W_ 0 0 rfl rfl (by omega) (by omega) dX8_layMan_32 ?_
  have b_5 := bg_4 0
  have i_6 : g_4 0 = g 0 := by rw [eg_4, eg_3, eg_2]; repeat (first | rw [zu_s] | rw [zu_n _ _ (by omega)])
  rw [i_6]
  have b_7 := bg_4 0
  rw [i_6] at b_7
  refine z_iconst F_ dX8_layMan_33 ?_
  refine z_iadd F_ dX8_layMan_34 ?_
  refine z_iast (sg' := [wA cy a n (zu g_4 0 ((g 0) + 1))]) F_ K_ W_ 0 0 rfl rfl rfl (by omega) (by omega) dX8_layMan_35 (fun H_ lo_ W_ => ?_)
  obtain ⟨g_8, eg_8⟩ : ∃ x_ : Int → Int, x_ = zu g_4 0 ((g 0) + 1) := ⟨_, rfl⟩
  rw [← eg_8] at W_
  have bg_8 : ∀ j : Int, 0 ≤ g_8 j ∧ g_8 j ≤ 99 := by rw [eg_8]; exact zu_b bg_4 (by omega)
  exact hret _ _ _ _ g_8 dX8_layMan_36 ⟨(by simp only [layG, *]), bg_8⟩ W_
abbrev rX8_ashore : Room := { frames := 1, cells := 0, slots := 0, locals := 23 }
set_option maxHeartbeats 1000000 in
set_option maxRecDepth 100000 in
theorem c_X8_ashore (l_ : Launch) (D : va_G) (cy : Nat → ClassId) (a : Nat) (n : Nat) (g : Int → Int) (bg : ∀ j : Int, 0 ≤ g j ∧ g j ≤ 99) (hn : 36 ≤ n ∧ n ≤ 400) (hg0 : 0 ≤ g 0 ∧ g 0 ≤ 8) : CTi l_ D cy yX8_ashore wsX8_ashore rX8_ashore [.ref a] ([wA cy a n g]) (fun (z : Int) (u : Unit) => (z = cntG g 0)) (fun (_ : Unit) => [wA cy a n g]) := by
  refine CTi.of RX8 cX8_ashore 1 rfl (by decide) rfl (fun z u hz => rfl) (Nat.le_of_ble_eq_true rfl) ?_
  intro p_ e_ s_ m_ ar_ be_ me_ c_ Q_ A_ ls_ F_ K_ W_ hl hret
  have hl : lv_has ls_ 1 [(0, .ref a)] := hl
  obtain ⟨H_, hH_⟩ : ∃ x, x = s_.heap := ⟨_, rfl⟩
  obtain ⟨lo_, hlo_⟩ : ∃ x : List Loc, x = [] := ⟨_, rfl⟩
  have W_ : WD D A_ s_.heap ([wA cy a n g]) H_ lo_ := by rw [hH_, hlo_]; exact W_
  rw [← hlo_]
  suffices hg_ : W p_ l_ e_ rX8_ashore s_ m_ ar_ be_ me_ c_ H_ lo_ 0 0 Q_ (F0 m_ 0 ls_ []) by rw [hH_] at hg_; exact hg_
  clear hH_ hlo_
  refine lv_aload_n F_.1 F_.2.1 dX8_ashore_0 rfl (lv_at hl 0 rfl) ?_
  refine z_iconst F_ dX8_ashore_1 ?_
  refine z_callSip F_ K_ W_ [.ref a, .int (zi (-1))] (c_X8_aboard l_ D cy a n g (-1) bg (by first | omega | assumption) (by first | omega | assumption) (by first | omega | assumption) (by first | omega | assumption)) 2 rfl gX8_ashore_X8_aboard rfl (by decide +kernel) ⟨⟨Nat.le_of_ble_eq_true rfl, Nat.le_of_ble_eq_true rfl⟩, rfl, rfl, Nat.zero_le _, Nat.zero_le _⟩ hl.1 rfl (Nat.le_of_ble_eq_true rfl) [0] ([] : List Nat) ([] : List va_W) 1 (by decide +kernel) rfl rfl rfl dX8_ashore_2 (fun z_1 _ H_ lo_ hw_ W_ => ?_)
  have hw_ : (z_1 = cntG g ((-1) + 1)) := hw_
  have f2_v := hw_
  exact hret _ _ _ _ z_1 () dX8_ashore_5 (by first | omega | assumption) W_
abbrev rX8_island : Room := { frames := 1, cells := 0, slots := 0, locals := 21 }
set_option maxHeartbeats 1000000 in
set_option maxRecDepth 100000 in
theorem c_X8_island (l_ : Launch) (D : va_G) (cy : Nat → ClassId) (o : Nat → Nat) (ab : Int) (be : Int) (bl : Int) (ta : Int) (tl : Int) (tk : Int) (vl : Int) (g : Int → Int) (bg : ∀ j : Int, 0 ≤ g j ∧ g j ≤ 99) : CTi l_ D cy yX8_island wsX8_island rX8_island [.ref (o 0)] ([wO cy o ab be bl ta tl tk vl, wA cy (o 1) 192 g]) (fun (z : Int) (u : (Int → Int)) => (z = g 0) ∧ (u = clrG g 104) ∧ (∀ j : Int, 0 ≤ u j ∧ u j ≤ 99)) (fun (u : (Int → Int)) => [wO cy o ab be bl ta tl tk vl, wA cy (o 1) 192 u]) := by
  refine CTi.of RX8 cX8_island 2 rfl (by decide) rfl (fun z u hz => rfl) (Nat.le_of_ble_eq_true rfl) ?_
  intro p_ e_ s_ m_ ar_ be_ me_ c_ Q_ A_ ls_ F_ K_ W_ hl hret
  have hl : lv_has ls_ 2 [(0, .ref (o 0))] := hl
  obtain ⟨H_, hH_⟩ : ∃ x, x = s_.heap := ⟨_, rfl⟩
  obtain ⟨lo_, hlo_⟩ : ∃ x : List Loc, x = [] := ⟨_, rfl⟩
  have W_ : WD D A_ s_.heap ([wO cy o ab be bl ta tl tk vl, wA cy (o 1) 192 g]) H_ lo_ := by rw [hH_, hlo_]; exact W_
  rw [← hlo_]
  suffices hg_ : W p_ l_ e_ rX8_island s_ m_ ar_ be_ me_ c_ H_ lo_ 0 0 Q_ (F0 m_ 0 ls_ []) by rw [hH_] at hg_; exact hg_
  clear hH_ hlo_
  have hinX8 : ∀ w ∈ u_ws RX8 TX8 19, w ∈ wsX8_island := fun w h => List.mem_cons_of_mem _ (List.mem_append_right _ h)
  refine lv_aload_n F_.1 F_.2.1 dX8_island_0 rfl (lv_at hl 0 rfl) ?_
  refine z_callVip F_ K_ W_ [] (c_X8_many l_ D cy o ab be bl ta tl tk vl g bg) 0 rfl gX8_island_X8_many rfl (by decide +kernel) ⟨⟨Nat.le_of_ble_eq_true rfl, Nat.le_of_ble_eq_true rfl⟩, rfl, rfl, Nat.zero_le _, Nat.zero_le _⟩ 0 0 7 rfl rfl rfl rfl hl.1 rfl (Nat.le_of_ble_eq_true rfl) [0, 1] ([] : List Nat) ([] : List va_W) 2 (by decide +kernel) rfl rfl rfl dX8_island_1 (fun z_1 _ H_ lo_ hw_ W_ => ?_)
  have hw_ : (z_1 = g 0) := hw_
  have f1_v := hw_
  refine lv_istore_n (lv' := [(1, .int (zi z_1)), (0, .ref (o 0))]) F_.1 F_.2.1 dX8_island_4 rfl hl (by decide) rfl (fun ls_ hl => ?_)
  refine lv_aload_n F_.1 F_.2.1 dX8_island_5 rfl (lv_at hl 1 rfl) ?_
  refine z_get F_ K_ W_ 0 0 0 rfl rfl rfl (C := RX8) (T := TX8) (N := 19) rfl (by decide) hinX8 (List.mem_of_getElem? (i := 1) rfl) dX8_island_6 ?_
  refine z_callSv F_ K_ W_ [.ref (o 1)] (c_X8_begin l_ D cy (o 1) 192 g bg (by first | omega | assumption)) 1 rfl gX8_island_X8_begin rfl (by decide +kernel) ⟨⟨Nat.le_of_ble_eq_true rfl, Nat.le_of_ble_eq_true rfl⟩, rfl, rfl, Nat.zero_le _, Nat.zero_le _⟩ hl.1 rfl (Nat.le_of_ble_eq_true rfl) [1] [0] [wO cy o ab be bl ta tl tk vl] (fun (u_ : (Int → Int)) => [wO cy o ab be bl ta tl tk vl, wA cy (o 1) 192 u_]) 2 (by decide +kernel) rfl rfl rfl (fun _ => rfl) (fun _ => rfl) (fun _ => rfl) dX8_island_9 (fun u_ H_ lo_ hw_ W_ => ?_)
  obtain ⟨g2_3, rfl⟩ : ∃ x, x = u_ := ⟨_, rfl⟩
  have W_ : WD D A_ s_.heap ([wO cy o ab be bl ta tl tk vl, wA cy (o 1) 192 g2_3]) H_ lo_ := W_
  have hw_ : (g2_3 = clrG g 104) ∧ (∀ j : Int, 0 ≤ g2_3 j ∧ g2_3 j ≤ 99) := hw_
  obtain ⟨f9_v, f9_B_A_g⟩ := hw_
  refine lv_iload_n F_.1 F_.2.1 dX8_island_12 rfl (lv_at hl 0 rfl) ?_
  exact hret _ _ _ _ z_1 g2_3 dX8_island_13 ⟨(by first | omega | assumption), (by first | omega | assumption), f9_B_A_g⟩ W_
abbrev rX8_ship : Room := { frames := 2, cells := 0, slots := 0, locals := 45 }
set_option maxHeartbeats 1000000 in
set_option maxRecDepth 100000 in
theorem c_X8_ship (l_ : Launch) (D : va_G) (cy : Nat → ClassId) (o : Nat → Nat) (ab : Int) (be : Int) (bl : Int) (ta : Int) (tl : Int) (tk : Int) (vl : Int) (g : Int → Int) (rf : Int → Int) (kd : Int) (bg : ∀ j : Int, 0 ≤ g j ∧ g j ≤ 99) (rkd : -2147483648 ≤ kd ∧ kd < 2147483648) (hg1 : 0 ≤ g 1 ∧ g 1 ≤ 3) : CTi l_ D cy yX8_ship wsX8_ship rX8_ship [.ref (o 0), .int (zi kd)] ([wO cy o ab be bl ta tl tk vl, wA cy (o 1) 192 g, wR cy (o 4) 3 rf]) (fun (z : Int) (u : (Int → Int) × (Int → Int)) => ((¬ (0 ≤ kd ∧ kd ≤ 5) ∧ z = -2 ∧ u.1 = g ∧ u.2 = rfZ rf 0) ∨ ((0 ≤ kd ∧ kd ≤ 5) ∧ g 1 = 3 ∧ z = -4 ∧ u.1 = g ∧ u.2 = rfZ rf 2) ∨ ((0 ≤ kd ∧ kd ≤ 5) ∧ g 1 < 3 ∧ z = g 1 ∧ u.1 = shpG g kd ∧ u.2 = rf)) ∧ (∀ j : Int, 0 ≤ u.1 j ∧ u.1 j ≤ 99)) (fun (u : (Int → Int) × (Int → Int)) => [wO cy o ab be bl ta tl tk vl, wA cy (o 1) 192 u.1, wR cy (o 4) 3 u.2]) := by
  refine CTi.of RX8 cX8_ship 2 rfl (by decide) rfl (fun z u hz => rfl) (Nat.le_of_ble_eq_true rfl) ?_
  intro p_ e_ s_ m_ ar_ be_ me_ c_ Q_ A_ ls_ F_ K_ W_ hl hret
  have hl : lv_has ls_ 2 [(0, .ref (o 0)), (1, .int (zi kd))] := hl
  obtain ⟨H_, hH_⟩ : ∃ x, x = s_.heap := ⟨_, rfl⟩
  obtain ⟨lo_, hlo_⟩ : ∃ x : List Loc, x = [] := ⟨_, rfl⟩
  have W_ : WD D A_ s_.heap ([wO cy o ab be bl ta tl tk vl, wA cy (o 1) 192 g, wR cy (o 4) 3 rf]) H_ lo_ := by rw [hH_, hlo_]; exact W_
  rw [← hlo_]
  suffices hg_ : W p_ l_ e_ rX8_ship s_ m_ ar_ be_ me_ c_ H_ lo_ 0 0 Q_ (F0 m_ 0 ls_ []) by rw [hH_] at hg_; exact hg_
  clear hH_ hlo_
  have hinX8 : ∀ w ∈ u_ws RX8 TX8 19, w ∈ wsX8_ship := fun w h => List.mem_cons_of_mem _ (List.mem_append_right _ h)
  refine lv_iload_n F_.1 F_.2.1 dX8_ship_0 rfl (lv_at hl 1 rfl) ?_
  refine z_callSip F_ K_ W_ [.int (zi kd)] (c_X8_isKind l_ D cy kd (by first | omega | assumption)) 1 rfl gX8_ship_X8_isKind rfl (by decide +kernel) ⟨⟨Nat.le_of_ble_eq_true rfl, Nat.le_of_ble_eq_true rfl⟩, rfl, rfl, Nat.zero_le _, Nat.zero_le _⟩ hl.1 rfl (Nat.le_of_ble_eq_true rfl) ([] : List Nat) [0, 1, 2] [wO cy o ab be bl ta tl tk vl, wA cy (o 1) 192 g, wR cy (o 4) 3 rf] 3 (by decide +kernel) rfl rfl rfl dX8_ship_1 (fun z_1 _ H_ lo_ hw_ W_ => ?_)
  have hw_ : ((z_1 = 1 ∧ (0 ≤ kd ∧ kd ≤ 5)) ∨ (z_1 = 0 ∧ ¬ (0 ≤ kd ∧ kd ≤ 5))) := hw_
  have f1_v := hw_
  refine z_if_ne (tgt := 14) F_ (by omega) dX8_ship_4 (by decide) (fun c4 => ?_) (fun c4 => ?_)
  · refine lv_aload_n F_.1 F_.2.1 dX8_ship_14 rfl (lv_at hl 0 rfl) ?_
    refine z_get F_ K_ W_ 0 0 0 rfl rfl rfl (C := RX8) (T := TX8) (N := 19) rfl (by decide) hinX8 (List.mem_of_getElem? (i := 1) rfl) dX8_ship_15 ?_
    refine z_iconst F_ dX8_ship_18 ?_
    refine z_iald F_ K_ W_ 1 0 rfl rfl (by omega) (by decide) dX8_ship_19 ?_
    have b_2 := bg 1
    refine z_iconst F_ dX8_ship_20 ?_
    refine z_icmp_ne (tgt := 29) F_ (by omega) dX8_ship_21 (by decide) (fun c21 => ?_) (fun c21 => ?_)
    · refine lv_aload_n F_.1 F_.2.1 dX8_ship_29 rfl (lv_at hl 0 rfl) ?_
      refine z_get F_ K_ W_ 0 0 0 rfl rfl rfl (C := RX8) (T := TX8) (N := 19) rfl (by decide) hinX8 (List.mem_of_getElem? (i := 1) rfl) dX8_ship_30 ?_
      refine z_bipush F_ (by decide) dX8_ship_33 ?_
      refine lv_aload_n F_.1 F_.2.1 dX8_ship_35 rfl (lv_at hl 0 rfl) ?_
      refine z_get F_ K_ W_ 0 0 0 rfl rfl rfl (C := RX8) (T := TX8) (N := 19) rfl (by decide) hinX8 (List.mem_of_getElem? (i := 1) rfl) dX8_ship_36 ?_
      refine z_iconst F_ dX8_ship_39 ?_
      refine z_iald F_ K_ W_ 1 0 rfl rfl (by omega) (by decide) dX8_ship_40 ?_
      refine z_iadd F_ dX8_ship_41 ?_
      refine lv_iload_n F_.1 F_.2.1 dX8_ship_42 rfl (lv_at hl 1 rfl) ?_
      refine z_iast (sg' := [wO cy o ab be bl ta tl tk vl, wA cy (o 1) 192 (zu g (17 + (g 1)) kd), wR cy (o 4) 3 rf]) F_ K_ W_ 1 0 rfl rfl rfl (by omega) (by decide) dX8_ship_43 (fun H_ lo_ W_ => ?_)
      obtain ⟨g_3, eg_3⟩ : ∃ x_ : Int → Int, x_ = zu g (17 + (g 1)) kd := ⟨_, rfl⟩
      rw [← eg_3] at W_
      have bg_3 : ∀ j : Int, 0 ≤ g_3 j ∧ g_3 j ≤ 99 := by rw [eg_3]; exact zu_b bg (by omega)
      refine lv_aload_n F_.1 F_.2.1 dX8_ship_44 rfl (lv_at hl 0 rfl) ?_
      refine z_get F_ K_ W_ 0 0 0 rfl rfl rfl (C := RX8) (T := TX8) (N := 19) rfl (by decide) hinX8 (List.mem_of_getElem? (i := 1) rfl) dX8_ship_45 ?_
      refine z_iconst F_ dX8_ship_48 ?_
      refine lv_dup2_11 F_.1 F_.2.1 dX8_ship_49 rfl rfl ?_
      refine z_iald F_ K_ W_ 1 0 rfl rfl (by omega) (by decide) dX8_ship_50 ?_
      have b_4 := bg_3 1
      have i_5 : g_3 1 = g 1 := by rw [eg_3]; repeat (first | rw [zu_s] | rw [zu_n _ _ (by omega)])
      rw [i_5]
      have b_6 := bg_3 1
      rw [i_5] at b_6
      refine z_iconst F_ dX8_ship_51 ?_
      refine z_iadd F_ dX8_ship_52 ?_
      refine z_iast (sg' := [wO cy o ab be bl ta tl tk vl, wA cy (o 1) 192 (zu g_3 1 ((g 1) + 1)), wR cy (o 4) 3 rf]) F_ K_ W_ 1 0 rfl rfl rfl (by omega) (by decide) dX8_ship_53 (fun H_ lo_ W_ => ?_)
      obtain ⟨g_7, eg_7⟩ : ∃ x_ : Int → Int, x_ = zu g_3 1 ((g 1) + 1) := ⟨_, rfl⟩
      rw [← eg_7] at W_
      have bg_7 : ∀ j : Int, 0 ≤ g_7 j ∧ g_7 j ≤ 99 := by rw [eg_7]; exact zu_b bg_3 (by omega)
      refine lv_aload_n F_.1 F_.2.1 dX8_ship_54 rfl (lv_at hl 0 rfl) ?_
      refine z_get F_ K_ W_ 0 0 0 rfl rfl rfl (C := RX8) (T := TX8) (N := 19) rfl (by decide) hinX8 (List.mem_of_getElem? (i := 1) rfl) dX8_ship_55 ?_
      refine z_iconst F_ dX8_ship_58 ?_
      refine z_iconst F_ dX8_ship_59 ?_
      refine z_iast (sg' := [wO cy o ab be bl ta tl tk vl, wA cy (o 1) 192 (zu g_7 5 0), wR cy (o 4) 3 rf]) F_ K_ W_ 1 0 rfl rfl rfl (by omega) (by decide) dX8_ship_60 (fun H_ lo_ W_ => ?_)
      obtain ⟨g_8, eg_8⟩ : ∃ x_ : Int → Int, x_ = zu g_7 5 0 := ⟨_, rfl⟩
      rw [← eg_8] at W_
      have bg_8 : ∀ j : Int, 0 ≤ g_8 j ∧ g_8 j ≤ 99 := by rw [eg_8]; exact zu_b bg_7 (by omega)
      refine lv_aload_n F_.1 F_.2.1 dX8_ship_61 rfl (lv_at hl 0 rfl) ?_
      refine z_get F_ K_ W_ 0 0 0 rfl rfl rfl (C := RX8) (T := TX8) (N := 19) rfl (by decide) hinX8 (List.mem_of_getElem? (i := 1) rfl) dX8_ship_62 ?_
      refine z_iconst F_ dX8_ship_65 ?_
      refine z_iald F_ K_ W_ 1 0 rfl rfl (by omega) (by decide) dX8_ship_66 ?_
      have b_9 := bg_8 1
      have i_10 : g_8 1 = g 1 + 1 := by rw [eg_8, eg_7, eg_3]; repeat (first | rw [zu_s] | rw [zu_n _ _ (by omega)])
      rw [i_10]
      have b_11 := bg_8 1
      rw [i_10] at b_11
      refine z_iconst F_ dX8_ship_67 ?_
      refine z_isub F_ dX8_ship_68 ?_
      exact hret _ _ _ _ ((g 1 + 1) - 1) (g_8, rf) dX8_ship_69 ⟨(by exact Or.inr (Or.inr ⟨by omega, by omega, by omega, by simp only [shpG, *], rfl⟩)), bg_8⟩ W_
    · refine lv_aload_n F_.1 F_.2.1 dX8_ship_24 rfl (lv_at hl 0 rfl) ?_
      refine z_callVi F_ K_ W_ [] (c_X8_full l_ D cy o ab be bl ta tl tk vl rf) 0 rfl gX8_ship_X8_full rfl (by decide +kernel) ⟨⟨Nat.le_of_ble_eq_true rfl, Nat.le_of_ble_eq_true rfl⟩, rfl, rfl, Nat.zero_le _, Nat.zero_le _⟩ 0 0 7 rfl rfl rfl rfl hl.1 rfl (Nat.le_of_ble_eq_true rfl) [0, 2] [1] [wA cy (o 1) 192 g] (fun (u_ : (Int → Int)) => [wO cy o ab be bl ta tl tk vl, wA cy (o 1) 192 g, wR cy (o 4) 3 u_]) 3 (by decide +kernel) rfl rfl rfl (fun _ => rfl) (fun _ => rfl) (fun _ => rfl) dX8_ship_25 (fun z_12 u_ H_ lo_ hw_ W_ => ?_)
      obtain ⟨rf2_13, rfl⟩ : ∃ x, x = u_ := ⟨_, rfl⟩
      have W_ : WD D A_ s_.heap ([wO cy o ab be bl ta tl tk vl, wA cy (o 1) 192 g, wR cy (o 4) 3 rf2_13]) H_ lo_ := W_
      have hw_ : (z_12 = -4) ∧ (rf2_13 = rfZ rf 2) := hw_
      obtain ⟨f25_v, f25_r⟩ := hw_
      exact hret _ _ _ _ z_12 (g, rf2_13) dX8_ship_28 ⟨(by exact Or.inr (Or.inl ⟨by omega, by omega, by omega, rfl, by assumption⟩)), bg⟩ W_
  · refine lv_aload_n F_.1 F_.2.1 dX8_ship_7 rfl (lv_at hl 0 rfl) ?_
    refine z_bipush F_ (by decide) dX8_ship_8 ?_
    refine z_callVi F_ K_ W_ [.int (zi (-2))] (c_X8_bad l_ D cy o ab be bl ta tl tk vl rf (-2) (by first | omega | assumption)) 1 rfl gX8_ship_X8_bad rfl (by decide +kernel) ⟨⟨Nat.le_of_ble_eq_true rfl, Nat.le_of_ble_eq_true rfl⟩, rfl, rfl, Nat.zero_le _, Nat.zero_le _⟩ 0 0 7 rfl rfl rfl rfl hl.1 rfl (Nat.le_of_ble_eq_true rfl) [0, 2] [1] [wA cy (o 1) 192 g] (fun (u_ : (Int → Int)) => [wO cy o ab be bl ta tl tk vl, wA cy (o 1) 192 g, wR cy (o 4) 3 u_]) 3 (by decide +kernel) rfl rfl rfl (fun _ => rfl) (fun _ => rfl) (fun _ => rfl) dX8_ship_10 (fun z_14 u_ H_ lo_ hw_ W_ => ?_)
    obtain ⟨rf2_15, rfl⟩ : ∃ x, x = u_ := ⟨_, rfl⟩
    have W_ : WD D A_ s_.heap ([wO cy o ab be bl ta tl tk vl, wA cy (o 1) 192 g, wR cy (o 4) 3 rf2_15]) H_ lo_ := W_
    have hw_ : (z_14 = (-2)) ∧ (rf2_15 = rfZ rf 0) := hw_
    obtain ⟨f10_v, f10_r⟩ := hw_
    exact hret _ _ _ _ z_14 (g, rf2_15) dX8_ship_13 ⟨(by exact Or.inl ⟨by omega, by omega, rfl, by assumption⟩), bg⟩ W_
abbrev rX8_man : Room := { frames := 2, cells := 0, slots := 0, locals := 46 }
set_option maxHeartbeats 1000000 in
set_option maxRecDepth 100000 in
theorem c_X8_man (l_ : Launch) (D : va_G) (cy : Nat → ClassId) (o : Nat → Nat) (ab : Int) (be : Int) (bl : Int) (ta : Int) (tl : Int) (tk : Int) (vl : Int) (g : Int → Int) (rf : Int → Int) (kd : Int) (t : Int) (h : Int) (bg : ∀ j : Int, 0 ≤ g j ∧ g j ≤ 99) (rkd : -2147483648 ≤ kd ∧ kd < 2147483648) (rt : -2147483648 ≤ t ∧ t < 2147483648) (rh : -2147483648 ≤ h ∧ h < 2147483648) (hg0 : 0 ≤ g 0 ∧ g 0 ≤ 8) (hg1 : 0 ≤ g 1 ∧ g 1 ≤ 3) : CTi l_ D cy yX8_man wsX8_man rX8_man [.ref (o 0), .int (zi kd), .int (zi t), .int (zi h)] ([wO cy o ab be bl ta tl tk vl, wA cy (o 1) 192 g, wR cy (o 4) 3 rf]) (fun (z : Int) (u : (Int → Int) × (Int → Int)) => ((¬ (0 ≤ kd ∧ kd ≤ 5 ∧ 1 ≤ t ∧ t ≤ 9 ∧ -1 ≤ h ∧ h < g 1) ∧ z = -2 ∧ u.1 = g ∧ u.2 = rfZ rf 0) ∨ ((0 ≤ kd ∧ kd ≤ 5 ∧ 1 ≤ t ∧ t ≤ 9 ∧ -1 ≤ h ∧ h < g 1) ∧ g 0 = 8 ∧ z = -4 ∧ u.1 = g ∧ u.2 = rfZ rf 2) ∨ ((0 ≤ kd ∧ kd ≤ 5 ∧ 1 ≤ t ∧ t ≤ 9 ∧ -1 ≤ h ∧ h < g 1) ∧ g 0 < 8 ∧ z = g 0 ∧ u.1 = zu (layG g kd t (h + 1)) 5 0 ∧ u.2 = rf)) ∧ (∀ j : Int, 0 ≤ u.1 j ∧ u.1 j ≤ 99)) (fun (u : (Int → Int) × (Int → Int)) => [wO cy o ab be bl ta tl tk vl, wA cy (o 1) 192 u.1, wR cy (o 4) 3 u.2]) := by
  refine CTi.of RX8 cX8_man 4 rfl (by decide) rfl (fun z u hz => rfl) (Nat.le_of_ble_eq_true rfl) ?_
  intro p_ e_ s_ m_ ar_ be_ me_ c_ Q_ A_ ls_ F_ K_ W_ hl hret
  have hl : lv_has ls_ 4 [(0, .ref (o 0)), (1, .int (zi kd)), (2, .int (zi t)), (3, .int (zi h))] := hl
  obtain ⟨H_, hH_⟩ : ∃ x, x = s_.heap := ⟨_, rfl⟩
  obtain ⟨lo_, hlo_⟩ : ∃ x : List Loc, x = [] := ⟨_, rfl⟩
  have W_ : WD D A_ s_.heap ([wO cy o ab be bl ta tl tk vl, wA cy (o 1) 192 g, wR cy (o 4) 3 rf]) H_ lo_ := by rw [hH_, hlo_]; exact W_
  rw [← hlo_]
  suffices hg_ : W p_ l_ e_ rX8_man s_ m_ ar_ be_ me_ c_ H_ lo_ 0 0 Q_ (F0 m_ 0 ls_ []) by rw [hH_] at hg_; exact hg_
  clear hH_ hlo_
  have hinX8 : ∀ w ∈ u_ws RX8 TX8 19, w ∈ wsX8_man := fun w h => List.mem_cons_of_mem _ (List.mem_append_right _ h)
  refine lv_iload_n F_.1 F_.2.1 dX8_man_0 rfl (lv_at hl 1 rfl) ?_
  refine z_callSip F_ K_ W_ [.int (zi kd)] (c_X8_isKind l_ D cy kd (by first | omega | assumption)) 1 rfl gX8_man_X8_isKind rfl (by decide +kernel) ⟨⟨Nat.le_of_ble_eq_true rfl, Nat.le_of_ble_eq_true rfl⟩, rfl, rfl, Nat.zero_le _, Nat.zero_le _⟩ hl.1 rfl (Nat.le_of_ble_eq_true rfl) ([] : List Nat) [0, 1, 2] [wO cy o ab be bl ta tl tk vl, wA cy (o 1) 192 g, wR cy (o 4) 3 rf] 3 (by decide +kernel) rfl rfl rfl dX8_man_1 (fun z_1 _ H_ lo_ hw_ W_ => ?_)
  have hw_ : ((z_1 = 1 ∧ (0 ≤ kd ∧ kd ≤ 5)) ∨ (z_1 = 0 ∧ ¬ (0 ≤ kd ∧ kd ≤ 5))) := hw_
  have f1_v := hw_
  refine z_if_eq (tgt := 27) F_ (by omega) dX8_man_4 (by decide) (fun c4 => ?_) (fun c4 => ?_)
  · refine lv_aload_n F_.1 F_.2.1 dX8_man_27 rfl (lv_at hl 0 rfl) ?_
    refine z_bipush F_ (by decide) dX8_man_28 ?_
    refine z_callVi F_ K_ W_ [.int (zi (-2))] (c_X8_bad l_ D cy o ab be bl ta tl tk vl rf (-2) (by first | omega | assumption)) 1 rfl gX8_man_X8_bad rfl (by decide +kernel) ⟨⟨Nat.le_of_ble_eq_true rfl, Nat.le_of_ble_eq_true rfl⟩, rfl, rfl, Nat.zero_le _, Nat.zero_le _⟩ 0 0 7 rfl rfl rfl rfl hl.1 rfl (Nat.le_of_ble_eq_true rfl) [0, 2] [1] [wA cy (o 1) 192 g] (fun (u_ : (Int → Int)) => [wO cy o ab be bl ta tl tk vl, wA cy (o 1) 192 g, wR cy (o 4) 3 u_]) 3 (by decide +kernel) rfl rfl rfl (fun _ => rfl) (fun _ => rfl) (fun _ => rfl) dX8_man_30 (fun z_2 u_ H_ lo_ hw_ W_ => ?_)
    obtain ⟨rf2_3, rfl⟩ : ∃ x, x = u_ := ⟨_, rfl⟩
    have W_ : WD D A_ s_.heap ([wO cy o ab be bl ta tl tk vl, wA cy (o 1) 192 g, wR cy (o 4) 3 rf2_3]) H_ lo_ := W_
    have hw_ : (z_2 = (-2)) ∧ (rf2_3 = rfZ rf 0) := hw_
    obtain ⟨f30_v, f30_r⟩ := hw_
    exact hret _ _ _ _ z_2 (g, rf2_3) dX8_man_33 ⟨(by exact Or.inl ⟨by omega, by omega, rfl, by assumption⟩), bg⟩ W_
  · refine lv_iload_n F_.1 F_.2.1 dX8_man_7 rfl (lv_at hl 2 rfl) ?_
    refine z_callSip F_ K_ W_ [.int (zi t)] (c_X8_isSkill l_ D cy t (by first | omega | assumption)) 1 rfl gX8_man_X8_isSkill rfl (by decide +kernel) ⟨⟨Nat.le_of_ble_eq_true rfl, Nat.le_of_ble_eq_true rfl⟩, rfl, rfl, Nat.zero_le _, Nat.zero_le _⟩ hl.1 rfl (Nat.le_of_ble_eq_true rfl) ([] : List Nat) [0, 1, 2] [wO cy o ab be bl ta tl tk vl, wA cy (o 1) 192 g, wR cy (o 4) 3 rf] 3 (by decide +kernel) rfl rfl rfl dX8_man_8 (fun z_4 _ H_ lo_ hw_ W_ => ?_)
    have hw_ : ((z_4 = 1 ∧ (1 ≤ t ∧ t ≤ 9)) ∨ (z_4 = 0 ∧ ¬ (1 ≤ t ∧ t ≤ 9))) := hw_
    have f8_v := hw_
    refine z_if_eq (tgt := 27) F_ (by omega) dX8_man_11 (by decide) (fun c11 => ?_) (fun c11 => ?_)
    · refine lv_aload_n F_.1 F_.2.1 dX8_man_27 rfl (lv_at hl 0 rfl) ?_
      refine z_bipush F_ (by decide) dX8_man_28 ?_
      refine z_callVi F_ K_ W_ [.int (zi (-2))] (c_X8_bad l_ D cy o ab be bl ta tl tk vl rf (-2) (by first | omega | assumption)) 1 rfl gX8_man_X8_bad rfl (by decide +kernel) ⟨⟨Nat.le_of_ble_eq_true rfl, Nat.le_of_ble_eq_true rfl⟩, rfl, rfl, Nat.zero_le _, Nat.zero_le _⟩ 0 0 7 rfl rfl rfl rfl hl.1 rfl (Nat.le_of_ble_eq_true rfl) [0, 2] [1] [wA cy (o 1) 192 g] (fun (u_ : (Int → Int)) => [wO cy o ab be bl ta tl tk vl, wA cy (o 1) 192 g, wR cy (o 4) 3 u_]) 3 (by decide +kernel) rfl rfl rfl (fun _ => rfl) (fun _ => rfl) (fun _ => rfl) dX8_man_30 (fun z_5 u_ H_ lo_ hw_ W_ => ?_)
      obtain ⟨rf2_6, rfl⟩ : ∃ x, x = u_ := ⟨_, rfl⟩
      have W_ : WD D A_ s_.heap ([wO cy o ab be bl ta tl tk vl, wA cy (o 1) 192 g, wR cy (o 4) 3 rf2_6]) H_ lo_ := W_
      have hw_ : (z_5 = (-2)) ∧ (rf2_6 = rfZ rf 0) := hw_
      obtain ⟨f30_v, f30_r⟩ := hw_
      exact hret _ _ _ _ z_5 (g, rf2_6) dX8_man_33 ⟨(by exact Or.inl ⟨by omega, by omega, rfl, by assumption⟩), bg⟩ W_
    · refine lv_iload_n F_.1 F_.2.1 dX8_man_14 rfl (lv_at hl 3 rfl) ?_
      refine z_iconst F_ dX8_man_15 ?_
      have J34 : ∀ (hc34 : -1 ≤ h ∧ h < g 1) (ls_ : Array Slot) (H_ : Heap) (lo_ : List Loc), WD D A_ s_.heap ([wO cy o ab be bl ta tl tk vl, wA cy (o 1) 192 g, wR cy (o 4) 3 rf]) H_ lo_ → lv_has ls_ 4 [(0, .ref (o 0)), (1, .int (zi kd)), (2, .int (zi t)), (3, .int (zi h))] → W p_ l_ e_ rX8_man s_ m_ ar_ be_ me_ c_ H_ lo_ 0 0 Q_ (F0 m_ 34 ls_ []) := by
        intro hc34 ls_ H_ lo_ W_ hl
        refine lv_aload_n F_.1 F_.2.1 dX8_man_34 rfl (lv_at hl 0 rfl) ?_
        refine z_callVip F_ K_ W_ [] (c_X8_many l_ D cy o ab be bl ta tl tk vl g bg) 0 rfl gX8_man_X8_many rfl (by decide +kernel) ⟨⟨Nat.le_of_ble_eq_true rfl, Nat.le_of_ble_eq_true rfl⟩, rfl, rfl, Nat.zero_le _, Nat.zero_le _⟩ 0 0 7 rfl rfl rfl rfl hl.1 rfl (Nat.le_of_ble_eq_true rfl) [0, 1] [2] [wR cy (o 4) 3 rf] 3 (by decide +kernel) rfl rfl rfl dX8_man_35 (fun z_7 _ H_ lo_ hw_ W_ => ?_)
        have hw_ : (z_7 = g 0) := hw_
        have f35_v := hw_
        have f35_v := f35_v.symm
        subst f35_v
        refine z_bipush F_ (by decide) dX8_man_38 ?_
        refine z_icmp_ne (tgt := 48) F_ (by omega) dX8_man_40 (by decide) (fun c40 => ?_) (fun c40 => ?_)
        · refine lv_aload_n F_.1 F_.2.1 dX8_man_48 rfl (lv_at hl 0 rfl) ?_
          refine z_get F_ K_ W_ 0 0 0 rfl rfl rfl (C := RX8) (T := TX8) (N := 19) rfl (by decide) hinX8 (List.mem_of_getElem? (i := 1) rfl) dX8_man_49 ?_
          refine lv_iload_n F_.1 F_.2.1 dX8_man_52 rfl (lv_at hl 1 rfl) ?_
          refine lv_iload_n F_.1 F_.2.1 dX8_man_53 rfl (lv_at hl 2 rfl) ?_
          refine lv_iload_n F_.1 F_.2.1 dX8_man_54 rfl (lv_at hl 3 rfl) ?_
          refine z_iconst F_ dX8_man_55 ?_
          refine z_iadd F_ dX8_man_56 ?_
          refine z_callSv F_ K_ W_ [.ref (o 1), .int (zi kd), .int (zi t), .int (zi (h + 1))] (c_X8_layMan l_ D cy (o 1) 192 g kd t (h + 1) bg (by first | omega | assumption) (by first | omega | assumption) (by first | omega | assumption) (by first | omega | assumption) (by first | omega | assumption) (by first | omega | assumption)) 4 rfl gX8_man_X8_layMan rfl (by decide +kernel) ⟨⟨Nat.le_of_ble_eq_true rfl, Nat.le_of_ble_eq_true rfl⟩, rfl, rfl, Nat.zero_le _, Nat.zero_le _⟩ hl.1 rfl (Nat.le_of_ble_eq_true rfl) [1] [0, 2] [wO cy o ab be bl ta tl tk vl, wR cy (o 4) 3 rf] (fun (u_ : (Int → Int)) => [wO cy o ab be bl ta tl tk vl, wA cy (o 1) 192 u_, wR cy (o 4) 3 rf]) 3 (by decide +kernel) rfl rfl rfl (fun _ => rfl) (fun _ => rfl) (fun _ => rfl) dX8_man_57 (fun u_ H_ lo_ hw_ W_ => ?_)
          obtain ⟨g2_9, rfl⟩ : ∃ x, x = u_ := ⟨_, rfl⟩
          have W_ : WD D A_ s_.heap ([wO cy o ab be bl ta tl tk vl, wA cy (o 1) 192 g2_9, wR cy (o 4) 3 rf]) H_ lo_ := W_
          have hw_ : (g2_9 = layG g kd t (h + 1)) ∧ (∀ j : Int, 0 ≤ g2_9 j ∧ g2_9 j ≤ 99) := hw_
          obtain ⟨f57_v, f57_B_A_g⟩ := hw_
          refine lv_aload_n F_.1 F_.2.1 dX8_man_60 rfl (lv_at hl 0 rfl) ?_
          refine z_get F_ K_ W_ 0 0 0 rfl rfl rfl (C := RX8) (T := TX8) (N := 19) rfl (by decide) hinX8 (List.mem_of_getElem? (i := 1) rfl) dX8_man_61 ?_
          refine z_iconst F_ dX8_man_64 ?_
          refine z_iconst F_ dX8_man_65 ?_
          refine z_iast (sg' := [wO cy o ab be bl ta tl tk vl, wA cy (o 1) 192 (zu g2_9 5 0), wR cy (o 4) 3 rf]) F_ K_ W_ 1 0 rfl rfl rfl (by omega) (by decide) dX8_man_66 (fun H_ lo_ W_ => ?_)
          obtain ⟨g_10, eg_10⟩ : ∃ x_ : Int → Int, x_ = zu g2_9 5 0 := ⟨_, rfl⟩
          rw [← eg_10] at W_
          have bg_10 : ∀ j : Int, 0 ≤ g_10 j ∧ g_10 j ≤ 99 := by rw [eg_10]; exact zu_b f57_B_A_g (by omega)
          refine lv_aload_n F_.1 F_.2.1 dX8_man_67 rfl (lv_at hl 0 rfl) ?_
          refine z_callVip F_ K_ W_ [] (c_X8_many l_ D cy o ab be bl ta tl tk vl g_10 bg_10) 0 rfl gX8_man_X8_many rfl (by decide +kernel) ⟨⟨Nat.le_of_ble_eq_true rfl, Nat.le_of_ble_eq_true rfl⟩, rfl, rfl, Nat.zero_le _, Nat.zero_le _⟩ 0 0 7 rfl rfl rfl rfl hl.1 rfl (Nat.le_of_ble_eq_true rfl) [0, 1] [2] [wR cy (o 4) 3 rf] 3 (by decide +kernel) rfl rfl rfl dX8_man_68 (fun z_11 _ H_ lo_ hw_ W_ => ?_)
          have hw_ : (z_11 = g_10 0) := hw_
          have f68_v := hw_
          have e68 : z_11 = g 0 + 1 := by rw [f68_v, eg_10, zu_n _ _ (by omega), f57_v, layG, zu_s]
          refine z_iconst F_ dX8_man_71 ?_
          refine z_isub F_ dX8_man_72 ?_
          exact hret _ _ _ _ (z_11 - 1) (g_10, rf) dX8_man_73 ⟨(by exact Or.inr (Or.inr ⟨by omega, by omega, by omega, by rw [eg_10, f57_v], rfl⟩)), bg_10⟩ W_
        · refine lv_aload_n F_.1 F_.2.1 dX8_man_43 rfl (lv_at hl 0 rfl) ?_
          refine z_callVi F_ K_ W_ [] (c_X8_full l_ D cy o ab be bl ta tl tk vl rf) 0 rfl gX8_man_X8_full rfl (by decide +kernel) ⟨⟨Nat.le_of_ble_eq_true rfl, Nat.le_of_ble_eq_true rfl⟩, rfl, rfl, Nat.zero_le _, Nat.zero_le _⟩ 0 0 7 rfl rfl rfl rfl hl.1 rfl (Nat.le_of_ble_eq_true rfl) [0, 2] [1] [wA cy (o 1) 192 g] (fun (u_ : (Int → Int)) => [wO cy o ab be bl ta tl tk vl, wA cy (o 1) 192 g, wR cy (o 4) 3 u_]) 3 (by decide +kernel) rfl rfl rfl (fun _ => rfl) (fun _ => rfl) (fun _ => rfl) dX8_man_44 (fun z_12 u_ H_ lo_ hw_ W_ => ?_)
          obtain ⟨rf2_13, rfl⟩ : ∃ x, x = u_ := ⟨_, rfl⟩
          have W_ : WD D A_ s_.heap ([wO cy o ab be bl ta tl tk vl, wA cy (o 1) 192 g, wR cy (o 4) 3 rf2_13]) H_ lo_ := W_
          have hw_ : (z_12 = -4) ∧ (rf2_13 = rfZ rf 2) := hw_
          obtain ⟨f44_v, f44_r⟩ := hw_
          exact hret _ _ _ _ z_12 (g, rf2_13) dX8_man_47 ⟨(by exact Or.inr (Or.inl ⟨by omega, by omega, by omega, rfl, by assumption⟩)), bg⟩ W_
      refine z_icmp_eq (tgt := 34) F_ (by omega) dX8_man_16 (by decide) (fun c16 => ?_) (fun c16 => ?_)
      · exact J34 (by first | omega | assumption) ls_ H_ lo_ W_ (lv_sub hl [0, 1, 2, 3] rfl)
      · refine lv_aload_n F_.1 F_.2.1 dX8_man_19 rfl (lv_at hl 0 rfl) ?_
        refine lv_iload_n F_.1 F_.2.1 dX8_man_20 rfl (lv_at hl 3 rfl) ?_
        refine z_callVip F_ K_ W_ [.int (zi h)] (c_X8_isShip l_ D cy o ab be bl ta tl tk vl g h bg (by first | omega | assumption) (by first | omega | assumption)) 1 rfl gX8_man_X8_isShip rfl (by decide +kernel) ⟨⟨Nat.le_of_ble_eq_true rfl, Nat.le_of_ble_eq_true rfl⟩, rfl, rfl, Nat.zero_le _, Nat.zero_le _⟩ 0 0 7 rfl rfl rfl rfl hl.1 rfl (Nat.le_of_ble_eq_true rfl) [0, 1] [2] [wR cy (o 4) 3 rf] 3 (by decide +kernel) rfl rfl rfl dX8_man_21 (fun z_14 _ H_ lo_ hw_ W_ => ?_)
        have hw_ : ((z_14 = 1 ∧ (0 ≤ h ∧ h < g 1)) ∨ (z_14 = 0 ∧ ¬ (0 ≤ h ∧ h < g 1))) := hw_
        have f21_v := hw_
        refine z_if_ne (tgt := 34) F_ (by omega) dX8_man_24 (by decide) (fun c24 => ?_) (fun c24 => ?_)
        · exact J34 (by first | omega | assumption) ls_ H_ lo_ W_ (lv_sub hl [0, 1, 2, 3] rfl)
        · refine lv_aload_n F_.1 F_.2.1 dX8_man_27 rfl (lv_at hl 0 rfl) ?_
          refine z_bipush F_ (by decide) dX8_man_28 ?_
          refine z_callVi F_ K_ W_ [.int (zi (-2))] (c_X8_bad l_ D cy o ab be bl ta tl tk vl rf (-2) (by first | omega | assumption)) 1 rfl gX8_man_X8_bad rfl (by decide +kernel) ⟨⟨Nat.le_of_ble_eq_true rfl, Nat.le_of_ble_eq_true rfl⟩, rfl, rfl, Nat.zero_le _, Nat.zero_le _⟩ 0 0 7 rfl rfl rfl rfl hl.1 rfl (Nat.le_of_ble_eq_true rfl) [0, 2] [1] [wA cy (o 1) 192 g] (fun (u_ : (Int → Int)) => [wO cy o ab be bl ta tl tk vl, wA cy (o 1) 192 g, wR cy (o 4) 3 u_]) 3 (by decide +kernel) rfl rfl rfl (fun _ => rfl) (fun _ => rfl) (fun _ => rfl) dX8_man_30 (fun z_15 u_ H_ lo_ hw_ W_ => ?_)
          obtain ⟨rf2_16, rfl⟩ : ∃ x, x = u_ := ⟨_, rfl⟩
          have W_ : WD D A_ s_.heap ([wO cy o ab be bl ta tl tk vl, wA cy (o 1) 192 g, wR cy (o 4) 3 rf2_16]) H_ lo_ := W_
          have hw_ : (z_15 = (-2)) ∧ (rf2_16 = rfZ rf 0) := hw_
          obtain ⟨f30_v, f30_r⟩ := hw_
          exact hret _ _ _ _ z_15 (g, rf2_16) dX8_man_33 ⟨(by exact Or.inl ⟨by omega, by omega, rfl, by assumption⟩), bg⟩ W_
abbrev rX8_save : Room := { frames := 0, cells := 0, slots := 0, locals := 0 }
set_option maxHeartbeats 1000000 in
set_option maxRecDepth 100000 in
theorem c_X8_save (l_ : Launch) (D : va_G) (cy : Nat → ClassId) (o : Nat → Nat) (ab : Int) (be : Int) (bl : Int) (ta : Int) (tl : Int) (tk : Int) (vl : Int) (g : Int → Int) (bg : ∀ j : Int, 0 ≤ g j ∧ g j ≤ 99) (hg5 : 0 ≤ g 5 ∧ g 5 ≤ 8) : CTv l_ D cy yX8_save wsX8_save rX8_save [.ref (o 0)] ([wO cy o ab be bl ta tl tk vl, wA cy (o 1) 192 g]) (fun (u : (Int → Int)) => (u = savG g) ∧ (∀ j : Int, 0 ≤ u j ∧ u j ≤ 99)) (fun (u : (Int → Int)) => [wO cy o ab be bl ta tl tk vl, wA cy (o 1) 192 u]) := by
  refine CTv.of RX8 cX8_save 2 rfl (by decide) rfl (Nat.le_of_ble_eq_true rfl) ?_
  intro p_ e_ s_ m_ ar_ be_ me_ c_ Q_ A_ ls_ F_ K_ W_ hl hret
  have hl : lv_has ls_ 2 [(0, .ref (o 0))] := hl
  obtain ⟨H_, hH_⟩ : ∃ x, x = s_.heap := ⟨_, rfl⟩
  obtain ⟨lo_, hlo_⟩ : ∃ x : List Loc, x = [] := ⟨_, rfl⟩
  have W_ : WD D A_ s_.heap ([wO cy o ab be bl ta tl tk vl, wA cy (o 1) 192 g]) H_ lo_ := by rw [hH_, hlo_]; exact W_
  rw [← hlo_]
  suffices hg_ : W p_ l_ e_ rX8_save s_ m_ ar_ be_ me_ c_ H_ lo_ 0 0 Q_ (F0 m_ 0 ls_ []) by rw [hH_] at hg_; exact hg_
  clear hH_ hlo_
  have hinX8 : ∀ w ∈ u_ws RX8 TX8 19, w ∈ wsX8_save := fun w h => List.mem_cons_of_mem _ (List.mem_append_right _ h)
  refine lv_aload_n F_.1 F_.2.1 dX8_save_0 rfl (lv_at hl 0 rfl) ?_
  refine z_get F_ K_ W_ 0 0 0 rfl rfl rfl (C := RX8) (T := TX8) (N := 19) rfl (by decide) hinX8 (List.mem_of_getElem? (i := 1) rfl) dX8_save_1 ?_
  refine z_iconst F_ dX8_save_4 ?_
  refine z_iald F_ K_ W_ 1 0 rfl rfl (by omega) (by decide) dX8_save_5 ?_
  have b_1 := bg 5
  refine z_bipush F_ (by decide) dX8_save_6 ?_
  have J51 : ∀ (yy : Int → Int) (byy : ∀ j : Int, 0 ≤ yy j ∧ yy j ≤ 99) (hy : (¬ g 5 = 8 ∧ yy = g) ∨ (g 5 = 8 ∧ yy = zu (shfG g 77) 5 7)) (hy5 : 0 ≤ yy 5 ∧ yy 5 ≤ 7) (ls_ : Array Slot) (H_ : Heap) (lo_ : List Loc), WD D A_ s_.heap ([wO cy o ab be bl ta tl tk vl, wA cy (o 1) 192 yy]) H_ lo_ → lv_has ls_ 2 [(0, .ref (o 0))] → W p_ l_ e_ rX8_save s_ m_ ar_ be_ me_ c_ H_ lo_ 0 0 Q_ (F0 m_ 51 ls_ []) := by
    intro yy byy hy hy5 ls_ H_ lo_ W_ hl
    refine z_iconst F_ dX8_save_51 ?_
    refine lv_istore_n (lv' := [(1, .int (zi 0)), (0, .ref (o 0))]) F_.1 F_.2.1 dX8_save_52 rfl hl (by decide) rfl (fun ls_ hl => ?_)
    have L53 : ∀ (n_ : Nat) (k2 : Int) (x2 : Int → Int) (bx2 : ∀ j : Int, 0 ≤ x2 j ∧ x2 j ≤ 99) (hk2 : 0 ≤ k2 ∧ k2 ≤ 11) (hx2 : x2 = rowG yy (yy 5) k2) (hm_ : (11 - k2 : Int) < (n_ : Int)) (ls_ : Array Slot) (H_ : Heap) (lo_ : List Loc), WD D A_ s_.heap ([wO cy o ab be bl ta tl tk vl, wA cy (o 1) 192 x2]) H_ lo_ → lv_has ls_ 2 [(1, .int (zi k2)), (0, .ref (o 0))] → W p_ l_ e_ rX8_save s_ m_ ar_ be_ me_ c_ H_ lo_ 0 0 Q_ (F0 m_ 53 ls_ []) := by
      intro n_
      induction n_ with
      | zero =>
        intro k2 x2 bx2 hk2 hx2 hm_ ls_ H_ lo_ _ _
        exact absurd hm_ (by omega)
      | succ n_ ih_ =>
        intro k2 x2 bx2 hk2 hx2 hm_ ls_ H_ lo_ W_ hl
        have ih53 := ih_
        refine lv_iload_n F_.1 F_.2.1 dX8_save_53 rfl (lv_at hl 0 rfl) ?_
        refine z_bipush F_ (by decide) dX8_save_54 ?_
        refine z_icmp_ge (tgt := 93) F_ (by omega) dX8_save_56 (by decide) (fun c56 => ?_) (fun c56 => ?_)
        · refine lv_aload_n F_.1 F_.2.1 dX8_save_93 rfl (lv_at hl 1 rfl) ?_
          refine z_get F_ K_ W_ 0 0 0 rfl rfl rfl (C := RX8) (T := TX8) (N := 19) rfl (by decide) hinX8 (List.mem_of_getElem? (i := 1) rfl) dX8_save_94 ?_
          refine z_iconst F_ dX8_save_97 ?_
          refine lv_dup2_11 F_.1 F_.2.1 dX8_save_98 rfl rfl ?_
          refine z_iald F_ K_ W_ 1 0 rfl rfl (by omega) (by decide) dX8_save_99 ?_
          have b_2 := bx2 5
          have i_3 : x2 5 = yy 5 := by rw [hx2]; simp only [rowG]; rw [if_neg (by omega)]
          rw [i_3]
          have b_4 := bx2 5
          rw [i_3] at b_4
          refine z_iconst F_ dX8_save_100 ?_
          refine z_iadd F_ dX8_save_101 ?_
          refine z_iast (sg' := [wO cy o ab be bl ta tl tk vl, wA cy (o 1) 192 (zu x2 5 ((yy 5) + 1))]) F_ K_ W_ 1 0 rfl rfl rfl (by omega) (by decide) dX8_save_102 (fun H_ lo_ W_ => ?_)
          obtain ⟨g_5, eg_5⟩ : ∃ x_ : Int → Int, x_ = zu x2 5 ((yy 5) + 1) := ⟨_, rfl⟩
          rw [← eg_5] at W_
          have bg_5 : ∀ j : Int, 0 ≤ g_5 j ∧ g_5 j ≤ 99 := by rw [eg_5]; exact zu_b bx2 (by omega)
          exact hret _ _ _ _ g_5 dX8_save_103 ⟨(by rw [eg_5, hx2, savG, show k2 = 11 by omega]; rcases hy with q | q; (rw [if_neg q.1, q.2]); (have q5 : yy 5 = 7 := by rw [q.2, zu_s]); rw [if_pos q.1, q5, q.2]; rfl), bg_5⟩ W_
        · refine lv_aload_n F_.1 F_.2.1 dX8_save_59 rfl (lv_at hl 1 rfl) ?_
          refine z_get F_ K_ W_ 0 0 0 rfl rfl rfl (C := RX8) (T := TX8) (N := 19) rfl (by decide) hinX8 (List.mem_of_getElem? (i := 1) rfl) dX8_save_60 ?_
          refine z_bipush F_ (by decide) dX8_save_63 ?_
          refine z_bipush F_ (by decide) dX8_save_65 ?_
          refine lv_aload_n F_.1 F_.2.1 dX8_save_67 rfl (lv_at hl 1 rfl) ?_
          refine z_get F_ K_ W_ 0 0 0 rfl rfl rfl (C := RX8) (T := TX8) (N := 19) rfl (by decide) hinX8 (List.mem_of_getElem? (i := 1) rfl) dX8_save_68 ?_
          refine z_iconst F_ dX8_save_71 ?_
          refine z_iald F_ K_ W_ 1 0 rfl rfl (by omega) (by decide) dX8_save_72 ?_
          have b_6 := bx2 5
          have i_7 : x2 5 = yy 5 := by rw [hx2]; simp only [rowG]; rw [if_neg (by omega)]
          rw [i_7]
          have b_8 := bx2 5
          rw [i_7] at b_8
          refine z_imul F_ dX8_save_73 ?_
          refine z_iadd F_ dX8_save_74 ?_
          refine lv_iload_n F_.1 F_.2.1 dX8_save_75 rfl (lv_at hl 0 rfl) ?_
          refine z_iadd F_ dX8_save_76 ?_
          refine lv_aload_n F_.1 F_.2.1 dX8_save_77 rfl (lv_at hl 1 rfl) ?_
          refine z_get F_ K_ W_ 0 0 0 rfl rfl rfl (C := RX8) (T := TX8) (N := 19) rfl (by decide) hinX8 (List.mem_of_getElem? (i := 1) rfl) dX8_save_78 ?_
          refine z_bipush F_ (by decide) dX8_save_81 ?_
          refine lv_iload_n F_.1 F_.2.1 dX8_save_83 rfl (lv_at hl 0 rfl) ?_
          refine z_iadd F_ dX8_save_84 ?_
          refine z_iald F_ K_ W_ 1 0 rfl rfl (by omega) (by decide) dX8_save_85 ?_
          have b_9 := bx2 (6 + k2)
          refine z_iast (sg' := [wO cy o ab be bl ta tl tk vl, wA cy (o 1) 192 (zu x2 ((104 + (11 * (yy 5))) + k2) (x2 (6 + k2)))]) F_ K_ W_ 1 0 rfl rfl rfl (by omega) (by decide) dX8_save_86 (fun H_ lo_ W_ => ?_)
          obtain ⟨g_10, eg_10⟩ : ∃ x_ : Int → Int, x_ = zu x2 ((104 + (11 * (yy 5))) + k2) (x2 (6 + k2)) := ⟨_, rfl⟩
          rw [← eg_10] at W_
          have bg_10 : ∀ j : Int, 0 ≤ g_10 j ∧ g_10 j ≤ 99 := by rw [eg_10]; exact zu_b bx2 (by omega)
          refine z_iinc (lv' := [(1, .int (zi (k2 + 1))), (0, .ref (o 0))]) F_ dX8_save_87 hl (k := 0) rfl (by decide) rfl (fun ls_ hl => ?_)
          refine z_goto (tgt := 53) F_ dX8_save_90 (by decide) ?_
          exact ih53 (k2 + 1) g_10 bg_10 (by first | omega | assumption) (by rw [eg_10, hx2]; funext j_; simp only [zu_at, rowG]; repeat (first | omega | rfl | split | (congr 1; omega))) (by omega) ls_ H_ lo_ W_ (lv_sub hl [0, 1] rfl)
    exact L53 ((11 - 0 : Int).toNat + 1) 0 yy byy (by first | omega | assumption) (by funext j_; simp only [zu_at, rowG]; repeat (first | omega | rfl | split | (congr 1; omega))) (by have := Int.self_le_toNat (11 - 0 : Int); omega) ls_ H_ lo_ W_ (lv_sub hl [0, 1] rfl)
  refine z_icmp_ne (tgt := 51) F_ (by omega) dX8_save_8 (by decide) (fun c8 => ?_) (fun c8 => ?_)
  · exact J51 g bg (by first | exact Or.inl ⟨by omega, rfl⟩ | exact Or.inr ⟨by omega, by rw [eLASTDEF, hx]; congr 2; omega⟩) (by first | omega | (rw [eLASTDEF, zu_s]; omega)) ls_ H_ lo_ W_ (lv_sub hl [0] rfl)
  · refine z_iconst F_ dX8_save_11 ?_
    refine lv_istore_n (lv' := [(1, .int (zi 0)), (0, .ref (o 0))]) F_.1 F_.2.1 dX8_save_12 rfl hl (by decide) rfl (fun ls_ hl => ?_)
    have L13 : ∀ (n_ : Nat) (k : Int) (x : Int → Int) (bx : ∀ j : Int, 0 ≤ x j ∧ x j ≤ 99) (hk : 0 ≤ k ∧ k ≤ 77) (hx : x = shfG g k) (hm_ : (77 - k : Int) < (n_ : Int)) (ls_ : Array Slot) (H_ : Heap) (lo_ : List Loc), WD D A_ s_.heap ([wO cy o ab be bl ta tl tk vl, wA cy (o 1) 192 x]) H_ lo_ → lv_has ls_ 2 [(1, .int (zi k)), (0, .ref (o 0))] → W p_ l_ e_ rX8_save s_ m_ ar_ be_ me_ c_ H_ lo_ 0 0 Q_ (F0 m_ 13 ls_ []) := by
      intro n_
      induction n_ with
      | zero =>
        intro k x bx hk hx hm_ ls_ H_ lo_ _ _
        exact absurd hm_ (by omega)
      | succ n_ ih_ =>
        intro k x bx hk hx hm_ ls_ H_ lo_ W_ hl
        have ih13 := ih_
        refine lv_iload_n F_.1 F_.2.1 dX8_save_13 rfl (lv_at hl 0 rfl) ?_
        refine z_bipush F_ (by decide) dX8_save_14 ?_
        refine z_icmp_ge (tgt := 43) F_ (by omega) dX8_save_16 (by decide) (fun c16 => ?_) (fun c16 => ?_)
        · refine lv_aload_n F_.1 F_.2.1 dX8_save_43 rfl (lv_at hl 1 rfl) ?_
          refine z_get F_ K_ W_ 0 0 0 rfl rfl rfl (C := RX8) (T := TX8) (N := 19) rfl (by decide) hinX8 (List.mem_of_getElem? (i := 1) rfl) dX8_save_44 ?_
          refine z_iconst F_ dX8_save_47 ?_
          refine z_bipush F_ (by decide) dX8_save_48 ?_
          refine z_iast (sg' := [wO cy o ab be bl ta tl tk vl, wA cy (o 1) 192 (zu x 5 7)]) F_ K_ W_ 1 0 rfl rfl rfl (by omega) (by decide) dX8_save_50 (fun H_ lo_ W_ => ?_)
          obtain ⟨g_11, eg_11⟩ : ∃ x_ : Int → Int, x_ = zu x 5 7 := ⟨_, rfl⟩
          rw [← eg_11] at W_
          have bg_11 : ∀ j : Int, 0 ≤ g_11 j ∧ g_11 j ≤ 99 := by rw [eg_11]; exact zu_b bx (by omega)
          exact J51 g_11 bg_11 (by first | exact Or.inl ⟨by omega, rfl⟩ | exact Or.inr ⟨by omega, by rw [eg_11, hx]; congr 2; omega⟩) (by first | omega | (rw [eg_11, zu_s]; omega)) ls_ H_ lo_ W_ (lv_sub hl [1] rfl)
        · refine lv_aload_n F_.1 F_.2.1 dX8_save_19 rfl (lv_at hl 1 rfl) ?_
          refine z_get F_ K_ W_ 0 0 0 rfl rfl rfl (C := RX8) (T := TX8) (N := 19) rfl (by decide) hinX8 (List.mem_of_getElem? (i := 1) rfl) dX8_save_20 ?_
          refine z_bipush F_ (by decide) dX8_save_23 ?_
          refine lv_iload_n F_.1 F_.2.1 dX8_save_25 rfl (lv_at hl 0 rfl) ?_
          refine z_iadd F_ dX8_save_26 ?_
          refine lv_aload_n F_.1 F_.2.1 dX8_save_27 rfl (lv_at hl 1 rfl) ?_
          refine z_get F_ K_ W_ 0 0 0 rfl rfl rfl (C := RX8) (T := TX8) (N := 19) rfl (by decide) hinX8 (List.mem_of_getElem? (i := 1) rfl) dX8_save_28 ?_
          refine z_bipush F_ (by decide) dX8_save_31 ?_
          refine lv_iload_n F_.1 F_.2.1 dX8_save_33 rfl (lv_at hl 0 rfl) ?_
          refine z_iadd F_ dX8_save_34 ?_
          refine z_iald F_ K_ W_ 1 0 rfl rfl (by omega) (by decide) dX8_save_35 ?_
          have b_12 := bx (115 + k)
          refine z_iast (sg' := [wO cy o ab be bl ta tl tk vl, wA cy (o 1) 192 (zu x (104 + k) (x (115 + k)))]) F_ K_ W_ 1 0 rfl rfl rfl (by omega) (by decide) dX8_save_36 (fun H_ lo_ W_ => ?_)
          obtain ⟨g_13, eg_13⟩ : ∃ x_ : Int → Int, x_ = zu x (104 + k) (x (115 + k)) := ⟨_, rfl⟩
          rw [← eg_13] at W_
          have bg_13 : ∀ j : Int, 0 ≤ g_13 j ∧ g_13 j ≤ 99 := by rw [eg_13]; exact zu_b bx (by omega)
          refine z_iinc (lv' := [(1, .int (zi (k + 1))), (0, .ref (o 0))]) F_ dX8_save_37 hl (k := 0) rfl (by decide) rfl (fun ls_ hl => ?_)
          refine z_goto (tgt := 13) F_ dX8_save_40 (by decide) ?_
          exact ih13 (k + 1) g_13 bg_13 (by first | omega | assumption) (by rw [eg_13, hx]; funext j_; simp only [zu_at, shfG]; repeat (first | omega | rfl | split | (congr 1; omega))) (by omega) ls_ H_ lo_ W_ (lv_sub hl [0, 1] rfl)
    exact L13 ((77 - 0 : Int).toNat + 1) 0 g bg (by first | omega | assumption) (by funext j_; simp only [zu_at, shfG]; repeat (first | omega | rfl | split | (congr 1; omega))) (by have := Int.self_le_toNat (77 - 0 : Int); omega) ls_ H_ lo_ W_ (lv_sub hl [0, 1] rfl)
abbrev rX8_calls : Room := { frames := 4, cells := 0, slots := 0, locals := 91 }
set_option maxHeartbeats 1000000 in
set_option maxRecDepth 100000 in
theorem c_X8_calls (l_ : Launch) (D : va_G) (cy : Nat → ClassId) (o : Nat → Nat) (ab : Int) (be : Int) (bl : Int) (ta : Int) (tl : Int) (tk : Int) (vl : Int) (g : Int → Int) (rf : Int → Int) (h : Int) (bg : ∀ j : Int, 0 ≤ g j ∧ g j ≤ 99) (rh : -2147483648 ≤ h ∧ h < 2147483648) (hg0 : 0 ≤ g 0 ∧ g 0 ≤ 8) (hg1 : 0 ≤ g 1 ∧ g 1 ≤ 3) (hg5 : 0 ≤ g 5 ∧ g 5 ≤ 8) : CTi l_ D cy yX8_calls wsX8_calls rX8_calls [.ref (o 0), .int (zi h)] ([wO cy o ab be bl ta tl tk vl, wA cy (o 1) 192 g, wR cy (o 4) 3 rf]) (fun (z : Int) (u : (Int → Int) × (Int → Int)) => ((¬ (0 ≤ h ∧ h < g 1) ∧ z = -2 ∧ u.1 = g ∧ u.2 = rfZ rf 0) ∨ ((0 ≤ h ∧ h < g 1) ∧ cntG g (h + 1) = 0 ∧ z = -3 ∧ u.1 = g ∧ u.2 = rfZ rf 1) ∨ ((0 ≤ h ∧ h < g 1) ∧ ¬ cntG g (h + 1) = 0 ∧ z = lstG (savG g) h ∧ u.1 = goG (savG g) h z ∧ u.2 = rf)) ∧ (∀ j : Int, 0 ≤ u.1 j ∧ u.1 j ≤ 99)) (fun (u : (Int → Int) × (Int → Int)) => [wO cy o ab be bl ta tl tk vl, wA cy (o 1) 192 u.1, wR cy (o 4) 3 u.2]) := by
  refine CTi.of RX8 cX8_calls 2 rfl (by decide) rfl (fun z u hz => rfl) (Nat.le_of_ble_eq_true rfl) ?_
  intro p_ e_ s_ m_ ar_ be_ me_ c_ Q_ A_ ls_ F_ K_ W_ hl hret
  have hl : lv_has ls_ 2 [(0, .ref (o 0)), (1, .int (zi h))] := hl
  obtain ⟨H_, hH_⟩ : ∃ x, x = s_.heap := ⟨_, rfl⟩
  obtain ⟨lo_, hlo_⟩ : ∃ x : List Loc, x = [] := ⟨_, rfl⟩
  have W_ : WD D A_ s_.heap ([wO cy o ab be bl ta tl tk vl, wA cy (o 1) 192 g, wR cy (o 4) 3 rf]) H_ lo_ := by rw [hH_, hlo_]; exact W_
  rw [← hlo_]
  suffices hg_ : W p_ l_ e_ rX8_calls s_ m_ ar_ be_ me_ c_ H_ lo_ 0 0 Q_ (F0 m_ 0 ls_ []) by rw [hH_] at hg_; exact hg_
  clear hH_ hlo_
  have hinX8 : ∀ w ∈ u_ws RX8 TX8 19, w ∈ wsX8_calls := fun w h => List.mem_cons_of_mem _ (List.mem_append_right _ h)
  refine lv_aload_n F_.1 F_.2.1 dX8_calls_0 rfl (lv_at hl 0 rfl) ?_
  refine lv_iload_n F_.1 F_.2.1 dX8_calls_1 rfl (lv_at hl 1 rfl) ?_
  refine z_callVip F_ K_ W_ [.int (zi h)] (c_X8_isShip l_ D cy o ab be bl ta tl tk vl g h bg (by first | omega | assumption) (by first | omega | assumption)) 1 rfl gX8_calls_X8_isShip rfl (by decide +kernel) ⟨⟨Nat.le_of_ble_eq_true rfl, Nat.le_of_ble_eq_true rfl⟩, rfl, rfl, Nat.zero_le _, Nat.zero_le _⟩ 0 0 7 rfl rfl rfl rfl hl.1 rfl (Nat.le_of_ble_eq_true rfl) [0, 1] [2] [wR cy (o 4) 3 rf] 3 (by decide +kernel) rfl rfl rfl dX8_calls_2 (fun z_1 _ H_ lo_ hw_ W_ => ?_)
  have hw_ : ((z_1 = 1 ∧ (0 ≤ h ∧ h < g 1)) ∨ (z_1 = 0 ∧ ¬ (0 ≤ h ∧ h < g 1))) := hw_
  have f2_v := hw_
  refine z_if_ne (tgt := 15) F_ (by omega) dX8_calls_5 (by decide) (fun c5 => ?_) (fun c5 => ?_)
  · refine lv_aload_n F_.1 F_.2.1 dX8_calls_15 rfl (lv_at hl 0 rfl) ?_
    refine z_get F_ K_ W_ 0 0 0 rfl rfl rfl (C := RX8) (T := TX8) (N := 19) rfl (by decide) hinX8 (List.mem_of_getElem? (i := 1) rfl) dX8_calls_16 ?_
    refine lv_iload_n F_.1 F_.2.1 dX8_calls_19 rfl (lv_at hl 1 rfl) ?_
    refine z_callSip F_ K_ W_ [.ref (o 1), .int (zi h)] (c_X8_aboard l_ D cy (o 1) 192 g h bg (by first | omega | assumption) (by first | omega | assumption) (by first | omega | assumption) (by first | omega | assumption)) 2 rfl gX8_calls_X8_aboard rfl (by decide +kernel) ⟨⟨Nat.le_of_ble_eq_true rfl, Nat.le_of_ble_eq_true rfl⟩, rfl, rfl, Nat.zero_le _, Nat.zero_le _⟩ hl.1 rfl (Nat.le_of_ble_eq_true rfl) [1] [0, 2] [wO cy o ab be bl ta tl tk vl, wR cy (o 4) 3 rf] 3 (by decide +kernel) rfl rfl rfl dX8_calls_20 (fun z_2 _ H_ lo_ hw_ W_ => ?_)
    have hw_ : (z_2 = cntG g (h + 1)) := hw_
    have f20_v := hw_
    have f20_v := f20_v.symm
    subst f20_v
    have hcb : 0 ≤ cntG g (h + 1) ∧ cntG g (h + 1) ≤ g 0 := cntZ_b (shZ g 6) (h + 1) (m := g 0) (by omega)
    refine z_if_ne (tgt := 31) F_ (by omega) dX8_calls_23 (by decide) (fun c23 => ?_) (fun c23 => ?_)
    · refine lv_aload_n F_.1 F_.2.1 dX8_calls_31 rfl (lv_at hl 0 rfl) ?_
      refine z_callVv F_ K_ W_ [] (c_X8_save l_ D cy o ab be bl ta tl tk vl g bg (by first | omega | assumption)) 0 rfl gX8_calls_X8_save rfl (by decide +kernel) ⟨⟨Nat.le_of_ble_eq_true rfl, Nat.le_of_ble_eq_true rfl⟩, rfl, rfl, Nat.zero_le _, Nat.zero_le _⟩ 0 0 7 rfl rfl rfl rfl hl.1 rfl (Nat.le_of_ble_eq_true rfl) [0, 1] [2] [wR cy (o 4) 3 rf] (fun (u_ : (Int → Int)) => [wO cy o ab be bl ta tl tk vl, wA cy (o 1) 192 u_, wR cy (o 4) 3 rf]) 3 (by decide +kernel) rfl rfl rfl (fun _ => rfl) (fun _ => rfl) (fun _ => rfl) dX8_calls_32 (fun u_ H_ lo_ hw_ W_ => ?_)
      obtain ⟨g2_4, rfl⟩ : ∃ x, x = u_ := ⟨_, rfl⟩
      have W_ : WD D A_ s_.heap ([wO cy o ab be bl ta tl tk vl, wA cy (o 1) 192 g2_4, wR cy (o 4) 3 rf]) H_ lo_ := W_
      have hw_ : (g2_4 = savG g) ∧ (∀ j : Int, 0 ≤ g2_4 j ∧ g2_4 j ≤ 99) := hw_
      obtain ⟨f32_v, f32_B_A_g⟩ := hw_
      have hs0 : g2_4 0 = g 0 := by rw [f32_v]; exact savG_0 hg5
      refine lv_aload_n F_.1 F_.2.1 dX8_calls_35 rfl (lv_at hl 0 rfl) ?_
      refine z_get F_ K_ W_ 0 0 0 rfl rfl rfl (C := RX8) (T := TX8) (N := 19) rfl (by decide) hinX8 (List.mem_of_getElem? (i := 1) rfl) dX8_calls_36 ?_
      refine lv_iload_n F_.1 F_.2.1 dX8_calls_39 rfl (lv_at hl 1 rfl) ?_
      refine z_callSi F_ K_ W_ [.ref (o 1), .int (zi h)] (c_X8_goCall l_ D cy (o 1) 192 g2_4 h f32_B_A_g (by first | omega | assumption) (by first | omega | assumption) (by first | omega | assumption) (by first | omega | assumption)) 2 rfl gX8_calls_X8_goCall rfl (by decide +kernel) ⟨⟨Nat.le_of_ble_eq_true rfl, Nat.le_of_ble_eq_true rfl⟩, rfl, rfl, Nat.zero_le _, Nat.zero_le _⟩ hl.1 rfl (Nat.le_of_ble_eq_true rfl) [1] [0, 2] [wO cy o ab be bl ta tl tk vl, wR cy (o 4) 3 rf] (fun (u_ : (Int → Int)) => [wO cy o ab be bl ta tl tk vl, wA cy (o 1) 192 u_, wR cy (o 4) 3 rf]) 3 (by decide +kernel) rfl rfl rfl (fun _ => rfl) (fun _ => rfl) (fun _ => rfl) dX8_calls_40 (fun z_5 u_ H_ lo_ hw_ W_ => ?_)
      obtain ⟨g2_6, rfl⟩ : ∃ x, x = u_ := ⟨_, rfl⟩
      have W_ : WD D A_ s_.heap ([wO cy o ab be bl ta tl tk vl, wA cy (o 1) 192 g2_6, wR cy (o 4) 3 rf]) H_ lo_ := W_
      have hw_ : (z_5 = lstG g2_4 h) ∧ (g2_6 = goG g2_4 h (lstG g2_4 h)) ∧ ((z_5 = -1 ∨ (0 ≤ z_5 ∧ z_5 < g2_4 0)) ∧ g2_6 0 = g2_4 0 ∧ g2_6 1 = g2_4 1) ∧ (∀ j : Int, 0 ≤ g2_6 j ∧ g2_6 j ≤ 99) := hw_
      obtain ⟨f40_v, f40_c, f40_k, f40_B_A_g⟩ := hw_
      exact hret _ _ _ _ z_5 (g2_6, rf) dX8_calls_43 ⟨(by exact Or.inr (Or.inr ⟨by omega, by omega, by rw [f40_v, f32_v], by rw [f40_c, f40_v, f32_v], rfl⟩)), f40_B_A_g⟩ W_
    · refine lv_aload_n F_.1 F_.2.1 dX8_calls_26 rfl (lv_at hl 0 rfl) ?_
      refine z_callVi F_ K_ W_ [] (c_X8_no l_ D cy o ab be bl ta tl tk vl rf) 0 rfl gX8_calls_X8_no rfl (by decide +kernel) ⟨⟨Nat.le_of_ble_eq_true rfl, Nat.le_of_ble_eq_true rfl⟩, rfl, rfl, Nat.zero_le _, Nat.zero_le _⟩ 0 0 7 rfl rfl rfl rfl hl.1 rfl (Nat.le_of_ble_eq_true rfl) [0, 2] [1] [wA cy (o 1) 192 g] (fun (u_ : (Int → Int)) => [wO cy o ab be bl ta tl tk vl, wA cy (o 1) 192 g, wR cy (o 4) 3 u_]) 3 (by decide +kernel) rfl rfl rfl (fun _ => rfl) (fun _ => rfl) (fun _ => rfl) dX8_calls_27 (fun z_7 u_ H_ lo_ hw_ W_ => ?_)
      obtain ⟨rf2_8, rfl⟩ : ∃ x, x = u_ := ⟨_, rfl⟩
      have W_ : WD D A_ s_.heap ([wO cy o ab be bl ta tl tk vl, wA cy (o 1) 192 g, wR cy (o 4) 3 rf2_8]) H_ lo_ := W_
      have hw_ : (z_7 = -3) ∧ (rf2_8 = rfZ rf 1) := hw_
      obtain ⟨f27_v, f27_r⟩ := hw_
      exact hret _ _ _ _ z_7 (g, rf2_8) dX8_calls_30 ⟨(by exact Or.inr (Or.inl ⟨by omega, by omega, by omega, rfl, by assumption⟩)), bg⟩ W_
  · refine lv_aload_n F_.1 F_.2.1 dX8_calls_8 rfl (lv_at hl 0 rfl) ?_
    refine z_bipush F_ (by decide) dX8_calls_9 ?_
    refine z_callVi F_ K_ W_ [.int (zi (-2))] (c_X8_bad l_ D cy o ab be bl ta tl tk vl rf (-2) (by first | omega | assumption)) 1 rfl gX8_calls_X8_bad rfl (by decide +kernel) ⟨⟨Nat.le_of_ble_eq_true rfl, Nat.le_of_ble_eq_true rfl⟩, rfl, rfl, Nat.zero_le _, Nat.zero_le _⟩ 0 0 7 rfl rfl rfl rfl hl.1 rfl (Nat.le_of_ble_eq_true rfl) [0, 2] [1] [wA cy (o 1) 192 g] (fun (u_ : (Int → Int)) => [wO cy o ab be bl ta tl tk vl, wA cy (o 1) 192 g, wR cy (o 4) 3 u_]) 3 (by decide +kernel) rfl rfl rfl (fun _ => rfl) (fun _ => rfl) (fun _ => rfl) dX8_calls_11 (fun z_9 u_ H_ lo_ hw_ W_ => ?_)
    obtain ⟨rf2_10, rfl⟩ : ∃ x, x = u_ := ⟨_, rfl⟩
    have W_ : WD D A_ s_.heap ([wO cy o ab be bl ta tl tk vl, wA cy (o 1) 192 g, wR cy (o 4) 3 rf2_10]) H_ lo_ := W_
    have hw_ : (z_9 = (-2)) ∧ (rf2_10 = rfZ rf 0) := hw_
    obtain ⟨f11_v, f11_r⟩ := hw_
    exact hret _ _ _ _ z_9 (g, rf2_10) dX8_calls_14 ⟨(by exact Or.inl ⟨by omega, by omega, rfl, by assumption⟩), bg⟩ W_
abbrev rX8_boards : Room := { frames := 2, cells := 0, slots := 0, locals := 46 }
set_option maxHeartbeats 1000000 in
set_option maxRecDepth 100000 in
theorem c_X8_boards (l_ : Launch) (D : va_G) (cy : Nat → ClassId) (o : Nat → Nat) (ab : Int) (be : Int) (bl : Int) (ta : Int) (tl : Int) (tk : Int) (vl : Int) (g : Int → Int) (rf : Int → Int) (h : Int) (i : Int) (bg : ∀ j : Int, 0 ≤ g j ∧ g j ≤ 99) (rh : -2147483648 ≤ h ∧ h < 2147483648) (ri : -2147483648 ≤ i ∧ i < 2147483648) (hg0 : 0 ≤ g 0 ∧ g 0 ≤ 8) (hg1 : 0 ≤ g 1 ∧ g 1 ≤ 3) (hg5 : 0 ≤ g 5 ∧ g 5 ≤ 8) : CTi l_ D cy yX8_boards wsX8_boards rX8_boards [.ref (o 0), .int (zi h), .int (zi i)] ([wO cy o ab be bl ta tl tk vl, wA cy (o 1) 192 g, wR cy (o 4) 3 rf]) (fun (z : Int) (u : (Int → Int) × (Int → Int)) => ((¬ ((0 ≤ h ∧ h < g 1) ∧ 0 ≤ i ∧ i < g 0) ∧ z = -2 ∧ u.1 = g ∧ u.2 = rfZ rf 0) ∨ (((0 ≤ h ∧ h < g 1) ∧ 0 ≤ i ∧ i < g 0) ∧ ¬ g (6 + i) = 0 ∧ z = -3 ∧ u.1 = g ∧ u.2 = rfZ rf 1) ∨ (((0 ≤ h ∧ h < g 1) ∧ 0 ≤ i ∧ i < g 0) ∧ g (6 + i) = 0 ∧ z = cntG u.1 (h + 1) ∧ u.1 = zu (savG g) (6 + i) (h + 1) ∧ u.2 = rf)) ∧ (∀ j : Int, 0 ≤ u.1 j ∧ u.1 j ≤ 99)) (fun (u : (Int → Int) × (Int → Int)) => [wO cy o ab be bl ta tl tk vl, wA cy (o 1) 192 u.1, wR cy (o 4) 3 u.2]) := by
  refine CTi.of RX8 cX8_boards 3 rfl (by decide) rfl (fun z u hz => rfl) (Nat.le_of_ble_eq_true rfl) ?_
  intro p_ e_ s_ m_ ar_ be_ me_ c_ Q_ A_ ls_ F_ K_ W_ hl hret
  have hl : lv_has ls_ 3 [(0, .ref (o 0)), (1, .int (zi h)), (2, .int (zi i))] := hl
  obtain ⟨H_, hH_⟩ : ∃ x, x = s_.heap := ⟨_, rfl⟩
  obtain ⟨lo_, hlo_⟩ : ∃ x : List Loc, x = [] := ⟨_, rfl⟩
  have W_ : WD D A_ s_.heap ([wO cy o ab be bl ta tl tk vl, wA cy (o 1) 192 g, wR cy (o 4) 3 rf]) H_ lo_ := by rw [hH_, hlo_]; exact W_
  rw [← hlo_]
  suffices hg_ : W p_ l_ e_ rX8_boards s_ m_ ar_ be_ me_ c_ H_ lo_ 0 0 Q_ (F0 m_ 0 ls_ []) by rw [hH_] at hg_; exact hg_
  clear hH_ hlo_
  have hinX8 : ∀ w ∈ u_ws RX8 TX8 19, w ∈ wsX8_boards := fun w h => List.mem_cons_of_mem _ (List.mem_append_right _ h)
  refine lv_aload_n F_.1 F_.2.1 dX8_boards_0 rfl (lv_at hl 0 rfl) ?_
  refine lv_iload_n F_.1 F_.2.1 dX8_boards_1 rfl (lv_at hl 1 rfl) ?_
  refine z_callVip F_ K_ W_ [.int (zi h)] (c_X8_isShip l_ D cy o ab be bl ta tl tk vl g h bg (by first | omega | assumption) (by first | omega | assumption)) 1 rfl gX8_boards_X8_isShip rfl (by decide +kernel) ⟨⟨Nat.le_of_ble_eq_true rfl, Nat.le_of_ble_eq_true rfl⟩, rfl, rfl, Nat.zero_le _, Nat.zero_le _⟩ 0 0 7 rfl rfl rfl rfl hl.1 rfl (Nat.le_of_ble_eq_true rfl) [0, 1] [2] [wR cy (o 4) 3 rf] 3 (by decide +kernel) rfl rfl rfl dX8_boards_2 (fun z_1 _ H_ lo_ hw_ W_ => ?_)
  have hw_ : ((z_1 = 1 ∧ (0 ≤ h ∧ h < g 1)) ∨ (z_1 = 0 ∧ ¬ (0 ≤ h ∧ h < g 1))) := hw_
  have f2_v := hw_
  refine z_if_eq (tgt := 16) F_ (by omega) dX8_boards_5 (by decide) (fun c5 => ?_) (fun c5 => ?_)
  · refine lv_aload_n F_.1 F_.2.1 dX8_boards_16 rfl (lv_at hl 0 rfl) ?_
    refine z_bipush F_ (by decide) dX8_boards_17 ?_
    refine z_callVi F_ K_ W_ [.int (zi (-2))] (c_X8_bad l_ D cy o ab be bl ta tl tk vl rf (-2) (by first | omega | assumption)) 1 rfl gX8_boards_X8_bad rfl (by decide +kernel) ⟨⟨Nat.le_of_ble_eq_true rfl, Nat.le_of_ble_eq_true rfl⟩, rfl, rfl, Nat.zero_le _, Nat.zero_le _⟩ 0 0 7 rfl rfl rfl rfl hl.1 rfl (Nat.le_of_ble_eq_true rfl) [0, 2] [1] [wA cy (o 1) 192 g] (fun (u_ : (Int → Int)) => [wO cy o ab be bl ta tl tk vl, wA cy (o 1) 192 g, wR cy (o 4) 3 u_]) 3 (by decide +kernel) rfl rfl rfl (fun _ => rfl) (fun _ => rfl) (fun _ => rfl) dX8_boards_19 (fun z_2 u_ H_ lo_ hw_ W_ => ?_)
    obtain ⟨rf2_3, rfl⟩ : ∃ x, x = u_ := ⟨_, rfl⟩
    have W_ : WD D A_ s_.heap ([wO cy o ab be bl ta tl tk vl, wA cy (o 1) 192 g, wR cy (o 4) 3 rf2_3]) H_ lo_ := W_
    have hw_ : (z_2 = (-2)) ∧ (rf2_3 = rfZ rf 0) := hw_
    obtain ⟨f19_v, f19_r⟩ := hw_
    exact hret _ _ _ _ z_2 (g, rf2_3) dX8_boards_22 ⟨(by exact Or.inl ⟨by omega, by omega, rfl, by assumption⟩), bg⟩ W_
  · refine lv_aload_n F_.1 F_.2.1 dX8_boards_8 rfl (lv_at hl 0 rfl) ?_
    refine lv_iload_n F_.1 F_.2.1 dX8_boards_9 rfl (lv_at hl 2 rfl) ?_
    refine z_callVip F_ K_ W_ [.int (zi i)] (c_X8_isMan l_ D cy o ab be bl ta tl tk vl g i bg (by first | omega | assumption) (by first | omega | assumption)) 1 rfl gX8_boards_X8_isMan rfl (by decide +kernel) ⟨⟨Nat.le_of_ble_eq_true rfl, Nat.le_of_ble_eq_true rfl⟩, rfl, rfl, Nat.zero_le _, Nat.zero_le _⟩ 0 0 7 rfl rfl rfl rfl hl.1 rfl (Nat.le_of_ble_eq_true rfl) [0, 1] [2] [wR cy (o 4) 3 rf] 3 (by decide +kernel) rfl rfl rfl dX8_boards_10 (fun z_4 _ H_ lo_ hw_ W_ => ?_)
    have hw_ : ((z_4 = 1 ∧ (0 ≤ i ∧ i < g 0)) ∨ (z_4 = 0 ∧ ¬ (0 ≤ i ∧ i < g 0))) := hw_
    have f10_v := hw_
    refine z_if_ne (tgt := 23) F_ (by omega) dX8_boards_13 (by decide) (fun c13 => ?_) (fun c13 => ?_)
    · refine lv_aload_n F_.1 F_.2.1 dX8_boards_23 rfl (lv_at hl 0 rfl) ?_
      refine z_get F_ K_ W_ 0 0 0 rfl rfl rfl (C := RX8) (T := TX8) (N := 19) rfl (by decide) hinX8 (List.mem_of_getElem? (i := 1) rfl) dX8_boards_24 ?_
      refine z_bipush F_ (by decide) dX8_boards_27 ?_
      refine lv_iload_n F_.1 F_.2.1 dX8_boards_29 rfl (lv_at hl 2 rfl) ?_
      refine z_iadd F_ dX8_boards_30 ?_
      refine z_iald F_ K_ W_ 1 0 rfl rfl (by omega) (by decide) dX8_boards_31 ?_
      have b_5 := bg (6 + i)
      refine z_if_eq (tgt := 40) F_ (by omega) dX8_boards_32 (by decide) (fun c32 => ?_) (fun c32 => ?_)
      · refine lv_aload_n F_.1 F_.2.1 dX8_boards_40 rfl (lv_at hl 0 rfl) ?_
        refine z_callVv F_ K_ W_ [] (c_X8_save l_ D cy o ab be bl ta tl tk vl g bg (by first | omega | assumption)) 0 rfl gX8_boards_X8_save rfl (by decide +kernel) ⟨⟨Nat.le_of_ble_eq_true rfl, Nat.le_of_ble_eq_true rfl⟩, rfl, rfl, Nat.zero_le _, Nat.zero_le _⟩ 0 0 7 rfl rfl rfl rfl hl.1 rfl (Nat.le_of_ble_eq_true rfl) [0, 1] [2] [wR cy (o 4) 3 rf] (fun (u_ : (Int → Int)) => [wO cy o ab be bl ta tl tk vl, wA cy (o 1) 192 u_, wR cy (o 4) 3 rf]) 3 (by decide +kernel) rfl rfl rfl (fun _ => rfl) (fun _ => rfl) (fun _ => rfl) dX8_boards_41 (fun u_ H_ lo_ hw_ W_ => ?_)
        obtain ⟨g2_7, rfl⟩ : ∃ x, x = u_ := ⟨_, rfl⟩
        have W_ : WD D A_ s_.heap ([wO cy o ab be bl ta tl tk vl, wA cy (o 1) 192 g2_7, wR cy (o 4) 3 rf]) H_ lo_ := W_
        have hw_ : (g2_7 = savG g) ∧ (∀ j : Int, 0 ≤ g2_7 j ∧ g2_7 j ≤ 99) := hw_
        obtain ⟨f41_v, f41_B_A_g⟩ := hw_
        have hs0 : g2_7 0 = g 0 := by rw [f41_v]; exact savG_0 hg5
        refine lv_aload_n F_.1 F_.2.1 dX8_boards_44 rfl (lv_at hl 0 rfl) ?_
        refine z_get F_ K_ W_ 0 0 0 rfl rfl rfl (C := RX8) (T := TX8) (N := 19) rfl (by decide) hinX8 (List.mem_of_getElem? (i := 1) rfl) dX8_boards_45 ?_
        refine z_bipush F_ (by decide) dX8_boards_48 ?_
        refine lv_iload_n F_.1 F_.2.1 dX8_boards_50 rfl (lv_at hl 2 rfl) ?_
        refine z_iadd F_ dX8_boards_51 ?_
        refine lv_iload_n F_.1 F_.2.1 dX8_boards_52 rfl (lv_at hl 1 rfl) ?_
        refine z_iconst F_ dX8_boards_53 ?_
        refine z_iadd F_ dX8_boards_54 ?_
        refine z_iast (sg' := [wO cy o ab be bl ta tl tk vl, wA cy (o 1) 192 (zu g2_7 (6 + i) (h + 1)), wR cy (o 4) 3 rf]) F_ K_ W_ 1 0 rfl rfl rfl (by omega) (by decide) dX8_boards_55 (fun H_ lo_ W_ => ?_)
        obtain ⟨g_8, eg_8⟩ : ∃ x_ : Int → Int, x_ = zu g2_7 (6 + i) (h + 1) := ⟨_, rfl⟩
        rw [← eg_8] at W_
        have bg_8 : ∀ j : Int, 0 ≤ g_8 j ∧ g_8 j ≤ 99 := by rw [eg_8]; exact zu_b f41_B_A_g (by omega)
        have hs1 : g_8 0 = g 0 := by rw [eg_8, zu_n _ _ (by omega)]; exact hs0
        refine lv_aload_n F_.1 F_.2.1 dX8_boards_56 rfl (lv_at hl 0 rfl) ?_
        refine z_get F_ K_ W_ 0 0 0 rfl rfl rfl (C := RX8) (T := TX8) (N := 19) rfl (by decide) hinX8 (List.mem_of_getElem? (i := 1) rfl) dX8_boards_57 ?_
        refine lv_iload_n F_.1 F_.2.1 dX8_boards_60 rfl (lv_at hl 1 rfl) ?_
        refine z_callSip F_ K_ W_ [.ref (o 1), .int (zi h)] (c_X8_aboard l_ D cy (o 1) 192 g_8 h bg_8 (by first | omega | assumption) (by first | omega | assumption) (by first | omega | assumption) (by first | omega | assumption)) 2 rfl gX8_boards_X8_aboard rfl (by decide +kernel) ⟨⟨Nat.le_of_ble_eq_true rfl, Nat.le_of_ble_eq_true rfl⟩, rfl, rfl, Nat.zero_le _, Nat.zero_le _⟩ hl.1 rfl (Nat.le_of_ble_eq_true rfl) [1] [0, 2] [wO cy o ab be bl ta tl tk vl, wR cy (o 4) 3 rf] 3 (by decide +kernel) rfl rfl rfl dX8_boards_61 (fun z_9 _ H_ lo_ hw_ W_ => ?_)
        have hw_ : (z_9 = cntG g_8 (h + 1)) := hw_
        have f61_v := hw_
        exact hret _ _ _ _ z_9 (g_8, rf) dX8_boards_64 ⟨(by exact Or.inr (Or.inr ⟨by omega, by omega, by assumption, by rw [eg_8, f41_v], rfl⟩)), bg_8⟩ W_
      · refine lv_aload_n F_.1 F_.2.1 dX8_boards_35 rfl (lv_at hl 0 rfl) ?_
        refine z_callVi F_ K_ W_ [] (c_X8_no l_ D cy o ab be bl ta tl tk vl rf) 0 rfl gX8_boards_X8_no rfl (by decide +kernel) ⟨⟨Nat.le_of_ble_eq_true rfl, Nat.le_of_ble_eq_true rfl⟩, rfl, rfl, Nat.zero_le _, Nat.zero_le _⟩ 0 0 7 rfl rfl rfl rfl hl.1 rfl (Nat.le_of_ble_eq_true rfl) [0, 2] [1] [wA cy (o 1) 192 g] (fun (u_ : (Int → Int)) => [wO cy o ab be bl ta tl tk vl, wA cy (o 1) 192 g, wR cy (o 4) 3 u_]) 3 (by decide +kernel) rfl rfl rfl (fun _ => rfl) (fun _ => rfl) (fun _ => rfl) dX8_boards_36 (fun z_10 u_ H_ lo_ hw_ W_ => ?_)
        obtain ⟨rf2_11, rfl⟩ : ∃ x, x = u_ := ⟨_, rfl⟩
        have W_ : WD D A_ s_.heap ([wO cy o ab be bl ta tl tk vl, wA cy (o 1) 192 g, wR cy (o 4) 3 rf2_11]) H_ lo_ := W_
        have hw_ : (z_10 = -3) ∧ (rf2_11 = rfZ rf 1) := hw_
        obtain ⟨f36_v, f36_r⟩ := hw_
        exact hret _ _ _ _ z_10 (g, rf2_11) dX8_boards_39 ⟨(by exact Or.inr (Or.inl ⟨by omega, by omega, by omega, rfl, by assumption⟩)), bg⟩ W_
    · refine lv_aload_n F_.1 F_.2.1 dX8_boards_16 rfl (lv_at hl 0 rfl) ?_
      refine z_bipush F_ (by decide) dX8_boards_17 ?_
      refine z_callVi F_ K_ W_ [.int (zi (-2))] (c_X8_bad l_ D cy o ab be bl ta tl tk vl rf (-2) (by first | omega | assumption)) 1 rfl gX8_boards_X8_bad rfl (by decide +kernel) ⟨⟨Nat.le_of_ble_eq_true rfl, Nat.le_of_ble_eq_true rfl⟩, rfl, rfl, Nat.zero_le _, Nat.zero_le _⟩ 0 0 7 rfl rfl rfl rfl hl.1 rfl (Nat.le_of_ble_eq_true rfl) [0, 2] [1] [wA cy (o 1) 192 g] (fun (u_ : (Int → Int)) => [wO cy o ab be bl ta tl tk vl, wA cy (o 1) 192 g, wR cy (o 4) 3 u_]) 3 (by decide +kernel) rfl rfl rfl (fun _ => rfl) (fun _ => rfl) (fun _ => rfl) dX8_boards_19 (fun z_12 u_ H_ lo_ hw_ W_ => ?_)
      obtain ⟨rf2_13, rfl⟩ : ∃ x, x = u_ := ⟨_, rfl⟩
      have W_ : WD D A_ s_.heap ([wO cy o ab be bl ta tl tk vl, wA cy (o 1) 192 g, wR cy (o 4) 3 rf2_13]) H_ lo_ := W_
      have hw_ : (z_12 = (-2)) ∧ (rf2_13 = rfZ rf 0) := hw_
      obtain ⟨f19_v, f19_r⟩ := hw_
      exact hret _ _ _ _ z_12 (g, rf2_13) dX8_boards_22 ⟨(by exact Or.inl ⟨by omega, by omega, rfl, by assumption⟩), bg⟩ W_
abbrev rX8_undo : Room := { frames := 2, cells := 0, slots := 0, locals := 43 }
set_option maxHeartbeats 1000000 in
set_option maxRecDepth 100000 in
theorem c_X8_undo (l_ : Launch) (D : va_G) (cy : Nat → ClassId) (o : Nat → Nat) (ab : Int) (be : Int) (bl : Int) (ta : Int) (tl : Int) (tk : Int) (vl : Int) (g : Int → Int) (rf : Int → Int) (bg : ∀ j : Int, 0 ≤ g j ∧ g j ≤ 99) (hg0 : 0 ≤ g 0 ∧ g 0 ≤ 8) (hg5 : 0 ≤ g 5 ∧ g 5 ≤ 8) : CTi l_ D cy yX8_undo wsX8_undo rX8_undo [.ref (o 0)] ([wO cy o ab be bl ta tl tk vl, wA cy (o 1) 192 g, wR cy (o 4) 3 rf]) (fun (z : Int) (u : (Int → Int) × (Int → Int)) => ((g 5 = 0 ∧ z = -3 ∧ u.1 = g ∧ u.2 = rfZ rf 1) ∨ (0 < g 5 ∧ z = cntG (undG g) 0 ∧ u.1 = undG g ∧ u.2 = rf)) ∧ (∀ j : Int, 0 ≤ u.1 j ∧ u.1 j ≤ 99)) (fun (u : (Int → Int) × (Int → Int)) => [wO cy o ab be bl ta tl tk vl, wA cy (o 1) 192 u.1, wR cy (o 4) 3 u.2]) := by
  refine CTi.of RX8 cX8_undo 2 rfl (by decide) rfl (fun z u hz => rfl) (Nat.le_of_ble_eq_true rfl) ?_
  intro p_ e_ s_ m_ ar_ be_ me_ c_ Q_ A_ ls_ F_ K_ W_ hl hret
  have hl : lv_has ls_ 2 [(0, .ref (o 0))] := hl
  obtain ⟨H_, hH_⟩ : ∃ x, x = s_.heap := ⟨_, rfl⟩
  obtain ⟨lo_, hlo_⟩ : ∃ x : List Loc, x = [] := ⟨_, rfl⟩
  have W_ : WD D A_ s_.heap ([wO cy o ab be bl ta tl tk vl, wA cy (o 1) 192 g, wR cy (o 4) 3 rf]) H_ lo_ := by rw [hH_, hlo_]; exact W_
  rw [← hlo_]
  suffices hg_ : W p_ l_ e_ rX8_undo s_ m_ ar_ be_ me_ c_ H_ lo_ 0 0 Q_ (F0 m_ 0 ls_ []) by rw [hH_] at hg_; exact hg_
  clear hH_ hlo_
  have hinX8 : ∀ w ∈ u_ws RX8 TX8 19, w ∈ wsX8_undo := fun w h => List.mem_cons_of_mem _ (List.mem_append_right _ h)
  refine lv_aload_n F_.1 F_.2.1 dX8_undo_0 rfl (lv_at hl 0 rfl) ?_
  refine z_get F_ K_ W_ 0 0 0 rfl rfl rfl (C := RX8) (T := TX8) (N := 19) rfl (by decide) hinX8 (List.mem_of_getElem? (i := 1) rfl) dX8_undo_1 ?_
  refine z_iconst F_ dX8_undo_4 ?_
  refine z_iald F_ K_ W_ 1 0 rfl rfl (by omega) (by decide) dX8_undo_5 ?_
  have b_1 := bg 5
  refine z_if_ne (tgt := 14) F_ (by omega) dX8_undo_6 (by decide) (fun c6 => ?_) (fun c6 => ?_)
  · refine lv_aload_n F_.1 F_.2.1 dX8_undo_14 rfl (lv_at hl 0 rfl) ?_
    refine z_get F_ K_ W_ 0 0 0 rfl rfl rfl (C := RX8) (T := TX8) (N := 19) rfl (by decide) hinX8 (List.mem_of_getElem? (i := 1) rfl) dX8_undo_15 ?_
    refine z_iconst F_ dX8_undo_18 ?_
    refine lv_dup2_11 F_.1 F_.2.1 dX8_undo_19 rfl rfl ?_
    refine z_iald F_ K_ W_ 1 0 rfl rfl (by omega) (by decide) dX8_undo_20 ?_
    refine z_iconst F_ dX8_undo_21 ?_
    refine z_isub F_ dX8_undo_22 ?_
    refine z_iast (sg' := [wO cy o ab be bl ta tl tk vl, wA cy (o 1) 192 (zu g 5 ((g 5) - 1)), wR cy (o 4) 3 rf]) F_ K_ W_ 1 0 rfl rfl rfl (by omega) (by decide) dX8_undo_23 (fun H_ lo_ W_ => ?_)
    obtain ⟨g_2, eg_2⟩ : ∃ x_ : Int → Int, x_ = zu g 5 ((g 5) - 1) := ⟨_, rfl⟩
    rw [← eg_2] at W_
    have bg_2 : ∀ j : Int, 0 ≤ g_2 j ∧ g_2 j ≤ 99 := by rw [eg_2]; exact zu_b bg (by omega)
    obtain ⟨y, hy⟩ : ∃ x_ : Int → Int, x_ = g_2 := ⟨_, rfl⟩
    have hy5 : y 5 = g 5 - 1 := by rw [hy, eg_2, zu_s]
    have hyg : y = zu g 5 (g 5 - 1) := by rw [hy, eg_2]
    refine z_iconst F_ dX8_undo_24 ?_
    refine lv_istore_n (lv' := [(1, .int (zi 0)), (0, .ref (o 0))]) F_.1 F_.2.1 dX8_undo_25 rfl hl (by decide) rfl (fun ls_ hl => ?_)
    have L26 : ∀ (n_ : Nat) (k : Int) (x : Int → Int) (bx : ∀ j : Int, 0 ≤ x j ∧ x j ≤ 99) (hk : 0 ≤ k ∧ k ≤ 11) (hx : x = bckG y k) (hm_ : (11 - k : Int) < (n_ : Int)) (ls_ : Array Slot) (H_ : Heap) (lo_ : List Loc), WD D A_ s_.heap ([wO cy o ab be bl ta tl tk vl, wA cy (o 1) 192 x, wR cy (o 4) 3 rf]) H_ lo_ → lv_has ls_ 2 [(1, .int (zi k)), (0, .ref (o 0))] → W p_ l_ e_ rX8_undo s_ m_ ar_ be_ me_ c_ H_ lo_ 0 0 Q_ (F0 m_ 26 ls_ []) := by
      intro n_
      induction n_ with
      | zero =>
        intro k x bx hk hx hm_ ls_ H_ lo_ _ _
        exact absurd hm_ (by omega)
      | succ n_ ih_ =>
        intro k x bx hk hx hm_ ls_ H_ lo_ W_ hl
        have ih26 := ih_
        refine lv_iload_n F_.1 F_.2.1 dX8_undo_26 rfl (lv_at hl 0 rfl) ?_
        refine z_bipush F_ (by decide) dX8_undo_27 ?_
        refine z_icmp_ge (tgt := 66) F_ (by omega) dX8_undo_29 (by decide) (fun c29 => ?_) (fun c29 => ?_)
        · have hu : x = undG g := by rw [hx, undG, show k = 11 by omega, hyg]
          have hu0 : x 0 = g 0 := by rw [hx]; simp only [bckG]; rw [if_neg (by omega), hyg, zu_n _ _ (by omega)]
          refine lv_aload_n F_.1 F_.2.1 dX8_undo_66 rfl (lv_at hl 1 rfl) ?_
          refine z_get F_ K_ W_ 0 0 0 rfl rfl rfl (C := RX8) (T := TX8) (N := 19) rfl (by decide) hinX8 (List.mem_of_getElem? (i := 1) rfl) dX8_undo_67 ?_
          refine z_callSip F_ K_ W_ [.ref (o 1)] (c_X8_ashore l_ D cy (o 1) 192 x bx (by first | omega | assumption) (by first | omega | assumption)) 1 rfl gX8_undo_X8_ashore rfl (by decide +kernel) ⟨⟨Nat.le_of_ble_eq_true rfl, Nat.le_of_ble_eq_true rfl⟩, rfl, rfl, Nat.zero_le _, Nat.zero_le _⟩ hl.1 rfl (Nat.le_of_ble_eq_true rfl) [1] [0, 2] [wO cy o ab be bl ta tl tk vl, wR cy (o 4) 3 rf] 3 (by decide +kernel) rfl rfl rfl dX8_undo_70 (fun z_3 _ H_ lo_ hw_ W_ => ?_)
          have hw_ : (z_3 = cntG x 0) := hw_
          have f70_v := hw_
          exact hret _ _ _ _ z_3 (x, rf) dX8_undo_73 ⟨(by exact Or.inr ⟨by omega, by rw [f70_v, hu], hu, rfl⟩), bx⟩ W_
        · refine lv_aload_n F_.1 F_.2.1 dX8_undo_32 rfl (lv_at hl 1 rfl) ?_
          refine z_get F_ K_ W_ 0 0 0 rfl rfl rfl (C := RX8) (T := TX8) (N := 19) rfl (by decide) hinX8 (List.mem_of_getElem? (i := 1) rfl) dX8_undo_33 ?_
          refine z_bipush F_ (by decide) dX8_undo_36 ?_
          refine lv_iload_n F_.1 F_.2.1 dX8_undo_38 rfl (lv_at hl 0 rfl) ?_
          refine z_iadd F_ dX8_undo_39 ?_
          refine lv_aload_n F_.1 F_.2.1 dX8_undo_40 rfl (lv_at hl 1 rfl) ?_
          refine z_get F_ K_ W_ 0 0 0 rfl rfl rfl (C := RX8) (T := TX8) (N := 19) rfl (by decide) hinX8 (List.mem_of_getElem? (i := 1) rfl) dX8_undo_41 ?_
          refine z_bipush F_ (by decide) dX8_undo_44 ?_
          refine z_bipush F_ (by decide) dX8_undo_46 ?_
          refine lv_aload_n F_.1 F_.2.1 dX8_undo_48 rfl (lv_at hl 1 rfl) ?_
          refine z_get F_ K_ W_ 0 0 0 rfl rfl rfl (C := RX8) (T := TX8) (N := 19) rfl (by decide) hinX8 (List.mem_of_getElem? (i := 1) rfl) dX8_undo_49 ?_
          refine z_iconst F_ dX8_undo_52 ?_
          refine z_iald F_ K_ W_ 1 0 rfl rfl (by omega) (by decide) dX8_undo_53 ?_
          have b_4 := bx 5
          have i_5 : x 5 = g 5 - 1 := by rw [hx]; simp only [bckG]; rw [if_neg (by omega)]; exact hy5
          rw [i_5]
          have b_6 := bx 5
          rw [i_5] at b_6
          refine z_imul F_ dX8_undo_54 ?_
          refine z_iadd F_ dX8_undo_55 ?_
          refine lv_iload_n F_.1 F_.2.1 dX8_undo_56 rfl (lv_at hl 0 rfl) ?_
          refine z_iadd F_ dX8_undo_57 ?_
          refine z_iald F_ K_ W_ 1 0 rfl rfl (by omega) (by decide) dX8_undo_58 ?_
          have b_7 := bx ((104 + (11 * (g 5 - 1))) + k)
          refine z_iast (sg' := [wO cy o ab be bl ta tl tk vl, wA cy (o 1) 192 (zu x (6 + k) (x ((104 + (11 * (g 5 - 1))) + k))), wR cy (o 4) 3 rf]) F_ K_ W_ 1 0 rfl rfl rfl (by omega) (by decide) dX8_undo_59 (fun H_ lo_ W_ => ?_)
          obtain ⟨g_8, eg_8⟩ : ∃ x_ : Int → Int, x_ = zu x (6 + k) (x ((104 + (11 * (g 5 - 1))) + k)) := ⟨_, rfl⟩
          rw [← eg_8] at W_
          have bg_8 : ∀ j : Int, 0 ≤ g_8 j ∧ g_8 j ≤ 99 := by rw [eg_8]; exact zu_b bx (by omega)
          refine z_iinc (lv' := [(1, .int (zi (k + 1))), (0, .ref (o 0))]) F_ dX8_undo_60 hl (k := 0) rfl (by decide) rfl (fun ls_ hl => ?_)
          refine z_goto (tgt := 26) F_ dX8_undo_63 (by decide) ?_
          exact ih26 (k + 1) g_8 bg_8 (by first | omega | assumption) (by rw [eg_8, hx]; funext j_; simp only [zu_at, bckG]; repeat (first | omega | rfl | split | (congr 1; omega))) (by omega) ls_ H_ lo_ W_ (lv_sub hl [0, 1] rfl)
    exact L26 ((11 - 0 : Int).toNat + 1) 0 g_2 bg_2 (by first | omega | assumption) (by rw [← hy]; funext j_; simp only [bckG]; rw [if_neg (by omega)]) (by have := Int.self_le_toNat (11 - 0 : Int); omega) ls_ H_ lo_ W_ (lv_sub hl [0, 1] rfl)
  · refine lv_aload_n F_.1 F_.2.1 dX8_undo_9 rfl (lv_at hl 0 rfl) ?_
    refine z_callVi F_ K_ W_ [] (c_X8_no l_ D cy o ab be bl ta tl tk vl rf) 0 rfl gX8_undo_X8_no rfl (by decide +kernel) ⟨⟨Nat.le_of_ble_eq_true rfl, Nat.le_of_ble_eq_true rfl⟩, rfl, rfl, Nat.zero_le _, Nat.zero_le _⟩ 0 0 7 rfl rfl rfl rfl hl.1 rfl (Nat.le_of_ble_eq_true rfl) [0, 2] [1] [wA cy (o 1) 192 g] (fun (u_ : (Int → Int)) => [wO cy o ab be bl ta tl tk vl, wA cy (o 1) 192 g, wR cy (o 4) 3 u_]) 3 (by decide +kernel) rfl rfl rfl (fun _ => rfl) (fun _ => rfl) (fun _ => rfl) dX8_undo_10 (fun z_9 u_ H_ lo_ hw_ W_ => ?_)
    obtain ⟨rf2_10, rfl⟩ : ∃ x, x = u_ := ⟨_, rfl⟩
    have W_ : WD D A_ s_.heap ([wO cy o ab be bl ta tl tk vl, wA cy (o 1) 192 g, wR cy (o 4) 3 rf2_10]) H_ lo_ := W_
    have hw_ : (z_9 = -3) ∧ (rf2_10 = rfZ rf 1) := hw_
    obtain ⟨f10_v, f10_r⟩ := hw_
    exact hret _ _ _ _ z_9 (g, rf2_10) dX8_undo_13 ⟨(by exact Or.inl ⟨by omega, by omega, rfl, by assumption⟩), bg⟩ W_
abbrev rX8_of : Room := { frames := 2, cells := 0, slots := 0, locals := 46 }
set_option maxHeartbeats 1000000 in
set_option maxRecDepth 100000 in
theorem c_X8_of (l_ : Launch) (D : va_G) (cy : Nat → ClassId) (o : Nat → Nat) (ab : Int) (be : Int) (bl : Int) (ta : Int) (tl : Int) (tk : Int) (vl : Int) (g : Int → Int) (rf : Int → Int) (i : Int) (w : Int) (bg : ∀ j : Int, 0 ≤ g j ∧ g j ≤ 99) (ri : -2147483648 ≤ i ∧ i < 2147483648) (rw : -2147483648 ≤ w ∧ w < 2147483648) (hg0 : 0 ≤ g 0 ∧ g 0 ≤ 8) (hp : ∀ k, 0 ≤ k → k < g 0 → g (6 + k) ≤ 3) : CTi l_ D cy yX8_of wsX8_of rX8_of [.ref (o 0), .int (zi i), .int (zi w)] ([wO cy o ab be bl ta tl tk vl, wA cy (o 1) 192 g, wR cy (o 4) 3 rf]) (fun (z : Int) (u : (Int → Int)) => ((((0 ≤ i ∧ i < g 0) ∧ 0 ≤ w ∧ w ≤ 3) ∧ z = (if w = 0 then g (20 + i) else if w = 1 then g (28 + i) else if w = 2 then g (6 + i) - 1 else if g (6 + i) = 0 then -1 else likedZ (g (20 + i)) (g (28 + i)) (g (14 + (g (6 + i) - 1)))) ∧ u = rf) ∨ (¬ ((0 ≤ i ∧ i < g 0) ∧ 0 ≤ w ∧ w ≤ 3) ∧ z = -2 ∧ u = rfZ rf 0))) (fun (u : (Int → Int)) => [wO cy o ab be bl ta tl tk vl, wA cy (o 1) 192 g, wR cy (o 4) 3 u]) := by
  refine CTi.of RX8 cX8_of 4 rfl (by decide) rfl (fun z u hz => rfl) (Nat.le_of_ble_eq_true rfl) ?_
  intro p_ e_ s_ m_ ar_ be_ me_ c_ Q_ A_ ls_ F_ K_ W_ hl hret
  have hl : lv_has ls_ 4 [(0, .ref (o 0)), (1, .int (zi i)), (2, .int (zi w))] := hl
  obtain ⟨H_, hH_⟩ : ∃ x, x = s_.heap := ⟨_, rfl⟩
  obtain ⟨lo_, hlo_⟩ : ∃ x : List Loc, x = [] := ⟨_, rfl⟩
  have W_ : WD D A_ s_.heap ([wO cy o ab be bl ta tl tk vl, wA cy (o 1) 192 g, wR cy (o 4) 3 rf]) H_ lo_ := by rw [hH_, hlo_]; exact W_
  rw [← hlo_]
  suffices hg_ : W p_ l_ e_ rX8_of s_ m_ ar_ be_ me_ c_ H_ lo_ 0 0 Q_ (F0 m_ 0 ls_ []) by rw [hH_] at hg_; exact hg_
  clear hH_ hlo_
  have hinX8 : ∀ w ∈ u_ws RX8 TX8 19, w ∈ wsX8_of := fun w h => List.mem_cons_of_mem _ (List.mem_append_right _ h)
  refine lv_aload_n F_.1 F_.2.1 dX8_of_0 rfl (lv_at hl 0 rfl) ?_
  refine lv_iload_n F_.1 F_.2.1 dX8_of_1 rfl (lv_at hl 1 rfl) ?_
  refine z_callVip F_ K_ W_ [.int (zi i)] (c_X8_isMan l_ D cy o ab be bl ta tl tk vl g i bg (by first | omega | assumption) (by first | omega | assumption)) 1 rfl gX8_of_X8_isMan rfl (by decide +kernel) ⟨⟨Nat.le_of_ble_eq_true rfl, Nat.le_of_ble_eq_true rfl⟩, rfl, rfl, Nat.zero_le _, Nat.zero_le _⟩ 0 0 7 rfl rfl rfl rfl hl.1 rfl (Nat.le_of_ble_eq_true rfl) [0, 1] [2] [wR cy (o 4) 3 rf] 3 (by decide +kernel) rfl rfl rfl dX8_of_2 (fun z_1 _ H_ lo_ hw_ W_ => ?_)
  have hw_ : ((z_1 = 1 ∧ (0 ≤ i ∧ i < g 0)) ∨ (z_1 = 0 ∧ ¬ (0 ≤ i ∧ i < g 0))) := hw_
  have f2_v := hw_
  refine z_if_eq (tgt := 20) F_ (by omega) dX8_of_5 (by decide) (fun c5 => ?_) (fun c5 => ?_)
  · refine lv_aload_n F_.1 F_.2.1 dX8_of_20 rfl (lv_at hl 0 rfl) ?_
    refine z_bipush F_ (by decide) dX8_of_21 ?_
    refine z_callVi F_ K_ W_ [.int (zi (-2))] (c_X8_bad l_ D cy o ab be bl ta tl tk vl rf (-2) (by first | omega | assumption)) 1 rfl gX8_of_X8_bad rfl (by decide +kernel) ⟨⟨Nat.le_of_ble_eq_true rfl, Nat.le_of_ble_eq_true rfl⟩, rfl, rfl, Nat.zero_le _, Nat.zero_le _⟩ 0 0 7 rfl rfl rfl rfl hl.1 rfl (Nat.le_of_ble_eq_true rfl) [0, 2] [1] [wA cy (o 1) 192 g] (fun (u_ : (Int → Int)) => [wO cy o ab be bl ta tl tk vl, wA cy (o 1) 192 g, wR cy (o 4) 3 u_]) 3 (by decide +kernel) rfl rfl rfl (fun _ => rfl) (fun _ => rfl) (fun _ => rfl) dX8_of_23 (fun z_2 u_ H_ lo_ hw_ W_ => ?_)
    obtain ⟨rf2_3, rfl⟩ : ∃ x, x = u_ := ⟨_, rfl⟩
    have W_ : WD D A_ s_.heap ([wO cy o ab be bl ta tl tk vl, wA cy (o 1) 192 g, wR cy (o 4) 3 rf2_3]) H_ lo_ := W_
    have hw_ : (z_2 = (-2)) ∧ (rf2_3 = rfZ rf 0) := hw_
    obtain ⟨f23_v, f23_r⟩ := hw_
    exact hret _ _ _ _ z_2 rf2_3 dX8_of_26 (by exact Or.inr ⟨by omega, by omega, by assumption⟩) W_
  · refine lv_iload_n F_.1 F_.2.1 dX8_of_8 rfl (lv_at hl 2 rfl) ?_
    refine z_i2l F_ (by omega) dX8_of_9 ?_
    refine z_lconst (z := 0) F_ rfl dX8_of_10 ?_
    refine z_ldc2 (z := 3) F_ (F_.2.2.2.2 _ (List.mem_of_getElem? (i := 1) rfl)) rfl dX8_of_11 ?_
    refine z_callSip F_ K_ W_ [.long (zl w), .long (zl 0), .long (zl 3)] (c_X8_in l_ D cy w 0 3 (by first | omega | assumption)) 3 rfl gX8_of_X8_in rfl (by decide +kernel) ⟨⟨Nat.le_of_ble_eq_true rfl, Nat.le_of_ble_eq_true rfl⟩, rfl, rfl, Nat.zero_le _, Nat.zero_le _⟩ hl.1 rfl (Nat.le_of_ble_eq_true rfl) ([] : List Nat) [0, 1, 2] [wO cy o ab be bl ta tl tk vl, wA cy (o 1) 192 g, wR cy (o 4) 3 rf] 3 (by decide +kernel) rfl rfl rfl dX8_of_14 (fun z_4 _ H_ lo_ hw_ W_ => ?_)
    have hw_ : ((z_4 = 1 ∧ (0 ≤ w ∧ w ≤ 3)) ∨ (z_4 = 0 ∧ ¬ (0 ≤ w ∧ w ≤ 3))) := hw_
    have f14_v := hw_
    refine z_if_ne (tgt := 27) F_ (by omega) dX8_of_17 (by decide) (fun c17 => ?_) (fun c17 => ?_)
    · have hpi := hp i (by omega) (by omega)
      refine lv_aload_n F_.1 F_.2.1 dX8_of_27 rfl (lv_at hl 0 rfl) ?_
      refine z_get F_ K_ W_ 0 0 0 rfl rfl rfl (C := RX8) (T := TX8) (N := 19) rfl (by decide) hinX8 (List.mem_of_getElem? (i := 2) rfl) dX8_of_28 ?_
      refine z_bipush F_ (by decide) dX8_of_31 ?_
      refine lv_iload_n F_.1 F_.2.1 dX8_of_33 rfl (lv_at hl 1 rfl) ?_
      refine z_iadd F_ dX8_of_34 ?_
      refine z_iald F_ K_ W_ 1 0 rfl rfl (by omega) (by decide) dX8_of_35 ?_
      have b_5 := bg (6 + i)
      refine z_iconst F_ dX8_of_36 ?_
      refine z_isub F_ dX8_of_37 ?_
      refine lv_istore_n (lv' := [(3, .int (zi ((g (6 + i)) - 1))), (0, .ref (o 0)), (1, .int (zi i)), (2, .int (zi w))]) F_.1 F_.2.1 dX8_of_38 rfl hl (by decide) rfl (fun ls_ hl => ?_)
      refine lv_iload_n F_.1 F_.2.1 dX8_of_39 rfl (lv_at hl 3 rfl) ?_
      rcases (show w = 0 ∨ w = 1 ∨ w = 2 ∨ (w < 0 ∨ 2 < w) by omega) with c40 | c40 | c40 | c40
      · refine z_tabIn (tgt := 68) F_ 0 c40 ⟨by omega, by decide, by decide⟩ dX8_of_40 rfl (by decide) ?_
        refine lv_aload_n F_.1 F_.2.1 dX8_of_68 rfl (lv_at hl 1 rfl) ?_
        refine z_get F_ K_ W_ 0 0 0 rfl rfl rfl (C := RX8) (T := TX8) (N := 19) rfl (by decide) hinX8 (List.mem_of_getElem? (i := 2) rfl) dX8_of_69 ?_
        refine z_bipush F_ (by decide) dX8_of_72 ?_
        refine lv_iload_n F_.1 F_.2.1 dX8_of_74 rfl (lv_at hl 2 rfl) ?_
        refine z_iadd F_ dX8_of_75 ?_
        refine z_iald F_ K_ W_ 1 0 rfl rfl (by omega) (by decide) dX8_of_76 ?_
        have b_6 := bg (20 + i)
        exact hret _ _ _ _ (g (20 + i)) rf dX8_of_77 (by exact Or.inl ⟨by omega, by rw [if_pos (by omega)], rfl⟩) W_
      · refine z_tabIn (tgt := 78) F_ 1 c40 ⟨by omega, by decide, by decide⟩ dX8_of_40 rfl (by decide) ?_
        refine lv_aload_n F_.1 F_.2.1 dX8_of_78 rfl (lv_at hl 1 rfl) ?_
        refine z_get F_ K_ W_ 0 0 0 rfl rfl rfl (C := RX8) (T := TX8) (N := 19) rfl (by decide) hinX8 (List.mem_of_getElem? (i := 2) rfl) dX8_of_79 ?_
        refine z_bipush F_ (by decide) dX8_of_82 ?_
        refine lv_iload_n F_.1 F_.2.1 dX8_of_84 rfl (lv_at hl 2 rfl) ?_
        refine z_iadd F_ dX8_of_85 ?_
        refine z_iald F_ K_ W_ 1 0 rfl rfl (by omega) (by decide) dX8_of_86 ?_
        have b_7 := bg (28 + i)
        exact hret _ _ _ _ (g (28 + i)) rf dX8_of_87 (by exact Or.inl ⟨by omega, by rw [if_neg (by omega), if_pos (by omega)], rfl⟩) W_
      · refine z_tabIn (tgt := 88) F_ 2 c40 ⟨by omega, by decide, by decide⟩ dX8_of_40 rfl (by decide) ?_
        refine lv_iload_n F_.1 F_.2.1 dX8_of_88 rfl (lv_at hl 0 rfl) ?_
        exact hret _ _ _ _ ((g (6 + i)) - 1) rf dX8_of_89 (by exact Or.inl ⟨by omega, by rw [if_neg (by omega), if_neg (by omega), if_pos (by omega)], rfl⟩) W_
      · refine z_tabOut (tgt := 90) F_ ⟨by omega, c40⟩ dX8_of_40 (by decide) ?_
        refine lv_iload_n F_.1 F_.2.1 dX8_of_90 rfl (lv_at hl 0 rfl) ?_
        refine z_iconst F_ dX8_of_91 ?_
        refine z_icmp_ne (tgt := 99) F_ (by omega) dX8_of_92 (by decide) (fun c92 => ?_) (fun c92 => ?_)
        · refine lv_aload_n F_.1 F_.2.1 dX8_of_99 rfl (lv_at hl 1 rfl) ?_
          refine z_get F_ K_ W_ 0 0 0 rfl rfl rfl (C := RX8) (T := TX8) (N := 19) rfl (by decide) hinX8 (List.mem_of_getElem? (i := 2) rfl) dX8_of_100 ?_
          refine lv_iload_n F_.1 F_.2.1 dX8_of_103 rfl (lv_at hl 2 rfl) ?_
          refine lv_iload_n F_.1 F_.2.1 dX8_of_104 rfl (lv_at hl 0 rfl) ?_
          refine z_callSip F_ K_ W_ [.ref (o 1), .int (zi i), .int (zi ((g (6 + i)) - 1))] (c_X8_likedOf l_ D cy (o 1) 192 g i ((g (6 + i)) - 1) bg (by first | omega | assumption) (by first | omega | assumption) (by first | omega | assumption) (by first | omega | assumption) (by first | omega | assumption)) 3 rfl gX8_of_X8_likedOf rfl (by decide +kernel) ⟨⟨Nat.le_of_ble_eq_true rfl, Nat.le_of_ble_eq_true rfl⟩, rfl, rfl, Nat.zero_le _, Nat.zero_le _⟩ hl.1 rfl (Nat.le_of_ble_eq_true rfl) [1] [0, 2] [wO cy o ab be bl ta tl tk vl, wR cy (o 4) 3 rf] 3 (by decide +kernel) rfl rfl rfl dX8_of_105 (fun z_8 _ H_ lo_ hw_ W_ => ?_)
          have hw_ : (z_8 = likedZ (g (20 + i)) (g (28 + i)) (g (14 + ((g (6 + i)) - 1)))) := hw_
          have f105_v := hw_
          
          exact hret _ _ _ _ z_8 rf dX8_of_108 (by exact Or.inl ⟨by omega, by rw [if_neg (by omega), if_neg (by omega), if_neg (by omega)]; first | rw [if_pos (by omega)] | (rw [if_neg (by omega)]; assumption), rfl⟩) W_
        · refine z_iconst F_ dX8_of_95 ?_
          refine z_goto (tgt := 108) F_ dX8_of_96 (by decide) ?_
          exact hret _ _ _ _ (-1) rf dX8_of_108 (by exact Or.inl ⟨by omega, by rw [if_neg (by omega), if_neg (by omega), if_neg (by omega)]; first | rw [if_pos (by omega)] | (rw [if_neg (by omega)]; assumption), rfl⟩) W_
    · refine lv_aload_n F_.1 F_.2.1 dX8_of_20 rfl (lv_at hl 0 rfl) ?_
      refine z_bipush F_ (by decide) dX8_of_21 ?_
      refine z_callVi F_ K_ W_ [.int (zi (-2))] (c_X8_bad l_ D cy o ab be bl ta tl tk vl rf (-2) (by first | omega | assumption)) 1 rfl gX8_of_X8_bad rfl (by decide +kernel) ⟨⟨Nat.le_of_ble_eq_true rfl, Nat.le_of_ble_eq_true rfl⟩, rfl, rfl, Nat.zero_le _, Nat.zero_le _⟩ 0 0 7 rfl rfl rfl rfl hl.1 rfl (Nat.le_of_ble_eq_true rfl) [0, 2] [1] [wA cy (o 1) 192 g] (fun (u_ : (Int → Int)) => [wO cy o ab be bl ta tl tk vl, wA cy (o 1) 192 g, wR cy (o 4) 3 u_]) 3 (by decide +kernel) rfl rfl rfl (fun _ => rfl) (fun _ => rfl) (fun _ => rfl) dX8_of_23 (fun z_9 u_ H_ lo_ hw_ W_ => ?_)
      obtain ⟨rf2_10, rfl⟩ : ∃ x, x = u_ := ⟨_, rfl⟩
      have W_ : WD D A_ s_.heap ([wO cy o ab be bl ta tl tk vl, wA cy (o 1) 192 g, wR cy (o 4) 3 rf2_10]) H_ lo_ := W_
      have hw_ : (z_9 = (-2)) ∧ (rf2_10 = rfZ rf 0) := hw_
      obtain ⟨f23_v, f23_r⟩ := hw_
      exact hret _ _ _ _ z_9 rf2_10 dX8_of_26 (by exact Or.inr ⟨by omega, by omega, by assumption⟩) W_
abbrev rX8_crewOf : Room := { frames := 1, cells := 0, slots := 0, locals := 20 }
set_option maxHeartbeats 1000000 in
set_option maxRecDepth 100000 in
theorem c_X8_crewOf (l_ : Launch) (D : va_G) (cy : Nat → ClassId) (o : Nat → Nat) (ab : Int) (be : Int) (bl : Int) (ta : Int) (tl : Int) (tk : Int) (vl : Int) (g : Int → Int) (h : Int) (bg : ∀ j : Int, 0 ≤ g j ∧ g j ≤ 99) (rh : -2147483648 ≤ h ∧ h < 2147483648) (hg0 : 0 ≤ g 0 ∧ g 0 ≤ 8) (hh : 0 ≤ h ∧ h ≤ 2) : CTi l_ D cy yX8_crewOf wsX8_crewOf rX8_crewOf [.ref (o 0), .int (zi h)] ([wO cy o ab be bl ta tl tk vl, wA cy (o 1) 192 g]) (fun (z : Int) (u : Unit) => (z = bitZ (shZ g 6) (h + 1) (g 0))) (fun (_ : Unit) => [wO cy o ab be bl ta tl tk vl, wA cy (o 1) 192 g]) := by
  refine CTi.of RX8 cX8_crewOf 4 rfl (by decide) rfl (fun z u hz => rfl) (Nat.le_of_ble_eq_true rfl) ?_
  intro p_ e_ s_ m_ ar_ be_ me_ c_ Q_ A_ ls_ F_ K_ W_ hl hret
  have hl : lv_has ls_ 4 [(0, .ref (o 0)), (1, .int (zi h))] := hl
  obtain ⟨H_, hH_⟩ : ∃ x, x = s_.heap := ⟨_, rfl⟩
  obtain ⟨lo_, hlo_⟩ : ∃ x : List Loc, x = [] := ⟨_, rfl⟩
  have W_ : WD D A_ s_.heap ([wO cy o ab be bl ta tl tk vl, wA cy (o 1) 192 g]) H_ lo_ := by rw [hH_, hlo_]; exact W_
  rw [← hlo_]
  suffices hg_ : W p_ l_ e_ rX8_crewOf s_ m_ ar_ be_ me_ c_ H_ lo_ 0 0 Q_ (F0 m_ 0 ls_ []) by rw [hH_] at hg_; exact hg_
  clear hH_ hlo_
  have hinX8 : ∀ w ∈ u_ws RX8 TX8 19, w ∈ wsX8_crewOf := fun w h => List.mem_cons_of_mem _ (List.mem_append_right _ h)
  refine z_iconst F_ dX8_crewOf_0 ?_
  refine lv_istore_n (lv' := [(2, .int (zi 0)), (0, .ref (o 0)), (1, .int (zi h))]) F_.1 F_.2.1 dX8_crewOf_1 rfl hl (by decide) rfl (fun ls_ hl => ?_)
  refine z_iconst F_ dX8_crewOf_2 ?_
  refine lv_istore_n (lv' := [(3, .int (zi 0)), (2, .int (zi 0)), (0, .ref (o 0)), (1, .int (zi h))]) F_.1 F_.2.1 dX8_crewOf_3 rfl hl (by decide) rfl (fun ls_ hl => ?_)
  have L4 : ∀ (n_ : Nat) (x : Int) (k : Int) (hk : 0 ≤ k ∧ k ≤ g 0) (hx : x = bitZ (shZ g 6) (h + 1) k) (hm_ : (g 0 - k : Int) < (n_ : Int)) (ls_ : Array Slot) (H_ : Heap) (lo_ : List Loc), WD D A_ s_.heap ([wO cy o ab be bl ta tl tk vl, wA cy (o 1) 192 g]) H_ lo_ → lv_has ls_ 4 [(3, .int (zi k)), (2, .int (zi x)), (0, .ref (o 0)), (1, .int (zi h))] → W p_ l_ e_ rX8_crewOf s_ m_ ar_ be_ me_ c_ H_ lo_ 0 0 Q_ (F0 m_ 4 ls_ []) := by
    intro n_
    induction n_ with
    | zero =>
      intro x k hk hx hm_ ls_ H_ lo_ _ _
      exact absurd hm_ (by omega)
    | succ n_ ih_ =>
      intro x k hk hx hm_ ls_ H_ lo_ W_ hl
      have ih4 := ih_
      refine lv_iload_n F_.1 F_.2.1 dX8_crewOf_4 rfl (lv_at hl 0 rfl) ?_
      refine lv_aload_n F_.1 F_.2.1 dX8_crewOf_5 rfl (lv_at hl 2 rfl) ?_
      refine z_callVip F_ K_ W_ [] (c_X8_many l_ D cy o ab be bl ta tl tk vl g bg) 0 rfl gX8_crewOf_X8_many rfl (by decide +kernel) ⟨⟨Nat.le_of_ble_eq_true rfl, Nat.le_of_ble_eq_true rfl⟩, rfl, rfl, Nat.zero_le _, Nat.zero_le _⟩ 0 0 7 rfl rfl rfl rfl hl.1 rfl (Nat.le_of_ble_eq_true rfl) [0, 1] ([] : List Nat) ([] : List va_W) 2 (by decide +kernel) rfl rfl rfl dX8_crewOf_6 (fun z_1 _ H_ lo_ hw_ W_ => ?_)
      have hw_ : (z_1 = g 0) := hw_
      have f6_v := hw_
      have f6_v := f6_v.symm
      subst f6_v
      refine z_icmp_ge (tgt := 43) F_ (by omega) dX8_crewOf_9 (by decide) (fun c9 => ?_) (fun c9 => ?_)
      · refine lv_iload_n F_.1 F_.2.1 dX8_crewOf_43 rfl (lv_at hl 1 rfl) ?_
        exact hret _ _ _ _ x () dX8_crewOf_44 (by rw [hx]; congr 1; omega) W_
      · have hzb := bitZ_b (shZ g 6) (h + 1) hk.1
        rw [← hx] at hzb
        have hp8 := zpw_le (show k ≤ 7 by omega)
        have hp7 : zpw 7 = 128 := rfl
        have hp1 := zpw_pos k
        refine lv_iload_n F_.1 F_.2.1 dX8_crewOf_12 rfl (lv_at hl 1 rfl) ?_
        refine lv_aload_n F_.1 F_.2.1 dX8_crewOf_13 rfl (lv_at hl 2 rfl) ?_
        refine z_get F_ K_ W_ 0 0 0 rfl rfl rfl (C := RX8) (T := TX8) (N := 19) rfl (by decide) hinX8 (List.mem_of_getElem? (i := 1) rfl) dX8_crewOf_14 ?_
        refine z_bipush F_ (by decide) dX8_crewOf_17 ?_
        refine lv_iload_n F_.1 F_.2.1 dX8_crewOf_19 rfl (lv_at hl 0 rfl) ?_
        refine z_iadd F_ dX8_crewOf_20 ?_
        refine z_iald F_ K_ W_ 1 0 rfl rfl (by omega) (by decide) dX8_crewOf_21 ?_
        have b_2 := bg (6 + k)
        refine lv_iload_n F_.1 F_.2.1 dX8_crewOf_22 rfl (lv_at hl 3 rfl) ?_
        refine z_iconst F_ dX8_crewOf_23 ?_
        refine z_iadd F_ dX8_crewOf_24 ?_
        refine z_icmp_ne (tgt := 34) F_ (by omega) dX8_crewOf_25 (by decide) (fun c25 => ?_) (fun c25 => ?_)
        · refine z_iconst F_ dX8_crewOf_34 ?_
          refine z_ior F_ (by omega) dX8_crewOf_35 ?_
          obtain ⟨w_3, ew_3, fw_3⟩ : ∃ y_ : Int, y_ = zor x 0 ∧ ((shZ g 6 k = h + 1 ∧ y_ = x + zpw k) ∨ (¬ shZ g 6 k = h + 1 ∧ y_ = x)) := ⟨_, rfl, by first | exact Or.inl ⟨c25, zor_pw hzb⟩ | exact Or.inr ⟨c25, zor_0 hzb.1⟩⟩
          rw [← ew_3]
          refine lv_istore_n (lv' := [(2, .int (zi w_3)), (3, .int (zi k)), (0, .ref (o 0)), (1, .int (zi h))]) F_.1 F_.2.1 dX8_crewOf_36 rfl hl (by decide) rfl (fun ls_ hl => ?_)
          refine z_iinc (lv' := [(3, .int (zi (k + 1))), (2, .int (zi w_3)), (0, .ref (o 0)), (1, .int (zi h))]) F_ dX8_crewOf_37 hl (k := 1) rfl (by decide) rfl (fun ls_ hl => ?_)
          refine z_goto (tgt := 4) F_ dX8_crewOf_40 (by decide) ?_
          exact ih4 w_3 (k + 1) (by first | omega | assumption) (by rw [bitZ_s _ _ hk.1, ← hx]; split <;> omega) (by omega) ls_ H_ lo_ W_ (lv_sub hl [0, 1, 2, 3] rfl)
        · refine z_iconst F_ dX8_crewOf_28 ?_
          refine lv_iload_n F_.1 F_.2.1 dX8_crewOf_29 rfl (lv_at hl 0 rfl) ?_
          refine z_ishl F_ (by rw [Int.one_mul]; omega) dX8_crewOf_30 ?_
          have i_4 : 1 * zpw k = zpw k := by exact Int.one_mul _
          rw [i_4]
          refine z_goto (tgt := 35) F_ dX8_crewOf_31 (by decide) ?_
          refine z_ior F_ (by omega) dX8_crewOf_35 ?_
          obtain ⟨w_5, ew_5, fw_5⟩ : ∃ y_ : Int, y_ = zor x (zpw k) ∧ ((shZ g 6 k = h + 1 ∧ y_ = x + zpw k) ∨ (¬ shZ g 6 k = h + 1 ∧ y_ = x)) := ⟨_, rfl, by first | exact Or.inl ⟨c25, zor_pw hzb⟩ | exact Or.inr ⟨c25, zor_0 hzb.1⟩⟩
          rw [← ew_5]
          refine lv_istore_n (lv' := [(2, .int (zi w_5)), (3, .int (zi k)), (0, .ref (o 0)), (1, .int (zi h))]) F_.1 F_.2.1 dX8_crewOf_36 rfl hl (by decide) rfl (fun ls_ hl => ?_)
          refine z_iinc (lv' := [(3, .int (zi (k + 1))), (2, .int (zi w_5)), (0, .ref (o 0)), (1, .int (zi h))]) F_ dX8_crewOf_37 hl (k := 1) rfl (by decide) rfl (fun ls_ hl => ?_)
          refine z_goto (tgt := 4) F_ dX8_crewOf_40 (by decide) ?_
          exact ih4 w_5 (k + 1) (by first | omega | assumption) (by rw [bitZ_s _ _ hk.1, ← hx]; split <;> omega) (by omega) ls_ H_ lo_ W_ (lv_sub hl [0, 1, 2, 3] rfl)
  exact L4 ((g 0 - 0 : Int).toNat + 1) 0 0 (by first | omega | assumption) (by rfl) (by have := Int.self_le_toNat (g 0 - 0 : Int); omega) ls_ H_ lo_ W_ (lv_sub hl [0, 1, 2, 3] rfl)
abbrev rX8_about : Room := { frames := 2, cells := 0, slots := 0, locals := 46 }
set_option maxHeartbeats 1000000 in
set_option maxRecDepth 100000 in
theorem c_X8_about (l_ : Launch) (D : va_G) (cy : Nat → ClassId) (o : Nat → Nat) (ab : Int) (be : Int) (bl : Int) (ta : Int) (tl : Int) (tk : Int) (vl : Int) (g : Int → Int) (rf : Int → Int) (h : Int) (w : Int) (bg : ∀ j : Int, 0 ≤ g j ∧ g j ≤ 99) (rh : -2147483648 ≤ h ∧ h < 2147483648) (rw : -2147483648 ≤ w ∧ w < 2147483648) (hg0 : 0 ≤ g 0 ∧ g 0 ≤ 8) (hg1 : 0 ≤ g 1 ∧ g 1 ≤ 3) : CTi l_ D cy yX8_about wsX8_about rX8_about [.ref (o 0), .int (zi h), .int (zi w)] ([wO cy o ab be bl ta tl tk vl, wA cy (o 1) 192 g, wR cy (o 4) 3 rf]) (fun (z : Int) (u : (Int → Int)) => ((((0 ≤ h ∧ h < g 1) ∧ 0 ≤ w ∧ w ≤ 3) ∧ z = (if w = 0 then g (17 + h) else if w = 1 then g (14 + h) else if w = 2 then bitZ (shZ g 6) (h + 1) (g 0) else sumG g (h + 1)) ∧ u = rf) ∨ (¬ ((0 ≤ h ∧ h < g 1) ∧ 0 ≤ w ∧ w ≤ 3) ∧ z = -2 ∧ u = rfZ rf 0))) (fun (u : (Int → Int)) => [wO cy o ab be bl ta tl tk vl, wA cy (o 1) 192 g, wR cy (o 4) 3 u]) := by
  refine CTi.of RX8 cX8_about 3 rfl (by decide) rfl (fun z u hz => rfl) (Nat.le_of_ble_eq_true rfl) ?_
  intro p_ e_ s_ m_ ar_ be_ me_ c_ Q_ A_ ls_ F_ K_ W_ hl hret
  have hl : lv_has ls_ 3 [(0, .ref (o 0)), (1, .int (zi h)), (2, .int (zi w))] := hl
  obtain ⟨H_, hH_⟩ : ∃ x, x = s_.heap := ⟨_, rfl⟩
  obtain ⟨lo_, hlo_⟩ : ∃ x : List Loc, x = [] := ⟨_, rfl⟩
  have W_ : WD D A_ s_.heap ([wO cy o ab be bl ta tl tk vl, wA cy (o 1) 192 g, wR cy (o 4) 3 rf]) H_ lo_ := by rw [hH_, hlo_]; exact W_
  rw [← hlo_]
  suffices hg_ : W p_ l_ e_ rX8_about s_ m_ ar_ be_ me_ c_ H_ lo_ 0 0 Q_ (F0 m_ 0 ls_ []) by rw [hH_] at hg_; exact hg_
  clear hH_ hlo_
  have hinX8 : ∀ w ∈ u_ws RX8 TX8 19, w ∈ wsX8_about := fun w h => List.mem_cons_of_mem _ (List.mem_append_right _ h)
  refine lv_aload_n F_.1 F_.2.1 dX8_about_0 rfl (lv_at hl 0 rfl) ?_
  refine lv_iload_n F_.1 F_.2.1 dX8_about_1 rfl (lv_at hl 1 rfl) ?_
  refine z_callVip F_ K_ W_ [.int (zi h)] (c_X8_isShip l_ D cy o ab be bl ta tl tk vl g h bg (by first | omega | assumption) (by first | omega | assumption)) 1 rfl gX8_about_X8_isShip rfl (by decide +kernel) ⟨⟨Nat.le_of_ble_eq_true rfl, Nat.le_of_ble_eq_true rfl⟩, rfl, rfl, Nat.zero_le _, Nat.zero_le _⟩ 0 0 7 rfl rfl rfl rfl hl.1 rfl (Nat.le_of_ble_eq_true rfl) [0, 1] [2] [wR cy (o 4) 3 rf] 3 (by decide +kernel) rfl rfl rfl dX8_about_2 (fun z_1 _ H_ lo_ hw_ W_ => ?_)
  have hw_ : ((z_1 = 1 ∧ (0 ≤ h ∧ h < g 1)) ∨ (z_1 = 0 ∧ ¬ (0 ≤ h ∧ h < g 1))) := hw_
  have f2_v := hw_
  refine z_if_eq (tgt := 20) F_ (by omega) dX8_about_5 (by decide) (fun c5 => ?_) (fun c5 => ?_)
  · refine lv_aload_n F_.1 F_.2.1 dX8_about_20 rfl (lv_at hl 0 rfl) ?_
    refine z_bipush F_ (by decide) dX8_about_21 ?_
    refine z_callVi F_ K_ W_ [.int (zi (-2))] (c_X8_bad l_ D cy o ab be bl ta tl tk vl rf (-2) (by first | omega | assumption)) 1 rfl gX8_about_X8_bad rfl (by decide +kernel) ⟨⟨Nat.le_of_ble_eq_true rfl, Nat.le_of_ble_eq_true rfl⟩, rfl, rfl, Nat.zero_le _, Nat.zero_le _⟩ 0 0 7 rfl rfl rfl rfl hl.1 rfl (Nat.le_of_ble_eq_true rfl) [0, 2] [1] [wA cy (o 1) 192 g] (fun (u_ : (Int → Int)) => [wO cy o ab be bl ta tl tk vl, wA cy (o 1) 192 g, wR cy (o 4) 3 u_]) 3 (by decide +kernel) rfl rfl rfl (fun _ => rfl) (fun _ => rfl) (fun _ => rfl) dX8_about_23 (fun z_2 u_ H_ lo_ hw_ W_ => ?_)
    obtain ⟨rf2_3, rfl⟩ : ∃ x, x = u_ := ⟨_, rfl⟩
    have W_ : WD D A_ s_.heap ([wO cy o ab be bl ta tl tk vl, wA cy (o 1) 192 g, wR cy (o 4) 3 rf2_3]) H_ lo_ := W_
    have hw_ : (z_2 = (-2)) ∧ (rf2_3 = rfZ rf 0) := hw_
    obtain ⟨f23_v, f23_r⟩ := hw_
    exact hret _ _ _ _ z_2 rf2_3 dX8_about_26 (by exact Or.inr ⟨by omega, by omega, by assumption⟩) W_
  · refine lv_iload_n F_.1 F_.2.1 dX8_about_8 rfl (lv_at hl 2 rfl) ?_
    refine z_i2l F_ (by omega) dX8_about_9 ?_
    refine z_lconst (z := 0) F_ rfl dX8_about_10 ?_
    refine z_ldc2 (z := 3) F_ (F_.2.2.2.2 _ (List.mem_of_getElem? (i := 1) rfl)) rfl dX8_about_11 ?_
    refine z_callSip F_ K_ W_ [.long (zl w), .long (zl 0), .long (zl 3)] (c_X8_in l_ D cy w 0 3 (by first | omega | assumption)) 3 rfl gX8_about_X8_in rfl (by decide +kernel) ⟨⟨Nat.le_of_ble_eq_true rfl, Nat.le_of_ble_eq_true rfl⟩, rfl, rfl, Nat.zero_le _, Nat.zero_le _⟩ hl.1 rfl (Nat.le_of_ble_eq_true rfl) ([] : List Nat) [0, 1, 2] [wO cy o ab be bl ta tl tk vl, wA cy (o 1) 192 g, wR cy (o 4) 3 rf] 3 (by decide +kernel) rfl rfl rfl dX8_about_14 (fun z_4 _ H_ lo_ hw_ W_ => ?_)
    have hw_ : ((z_4 = 1 ∧ (0 ≤ w ∧ w ≤ 3)) ∨ (z_4 = 0 ∧ ¬ (0 ≤ w ∧ w ≤ 3))) := hw_
    have f14_v := hw_
    refine z_if_ne (tgt := 27) F_ (by omega) dX8_about_17 (by decide) (fun c17 => ?_) (fun c17 => ?_)
    · refine lv_iload_n F_.1 F_.2.1 dX8_about_27 rfl (lv_at hl 2 rfl) ?_
      rcases (show w = 0 ∨ w = 1 ∨ w = 2 ∨ (w < 0 ∨ 2 < w) by omega) with c28 | c28 | c28 | c28
      · refine z_tabIn (tgt := 56) F_ 0 c28 ⟨by omega, by decide, by decide⟩ dX8_about_28 rfl (by decide) ?_
        refine lv_aload_n F_.1 F_.2.1 dX8_about_56 rfl (lv_at hl 0 rfl) ?_
        refine z_get F_ K_ W_ 0 0 0 rfl rfl rfl (C := RX8) (T := TX8) (N := 19) rfl (by decide) hinX8 (List.mem_of_getElem? (i := 2) rfl) dX8_about_57 ?_
        refine z_bipush F_ (by decide) dX8_about_60 ?_
        refine lv_iload_n F_.1 F_.2.1 dX8_about_62 rfl (lv_at hl 1 rfl) ?_
        refine z_iadd F_ dX8_about_63 ?_
        refine z_iald F_ K_ W_ 1 0 rfl rfl (by omega) (by decide) dX8_about_64 ?_
        have b_5 := bg (17 + h)
        exact hret _ _ _ _ (g (17 + h)) rf dX8_about_65 (by exact Or.inl ⟨by omega, by rw [if_pos (by omega)], rfl⟩) W_
      · refine z_tabIn (tgt := 66) F_ 1 c28 ⟨by omega, by decide, by decide⟩ dX8_about_28 rfl (by decide) ?_
        refine lv_aload_n F_.1 F_.2.1 dX8_about_66 rfl (lv_at hl 0 rfl) ?_
        refine z_get F_ K_ W_ 0 0 0 rfl rfl rfl (C := RX8) (T := TX8) (N := 19) rfl (by decide) hinX8 (List.mem_of_getElem? (i := 2) rfl) dX8_about_67 ?_
        refine z_bipush F_ (by decide) dX8_about_70 ?_
        refine lv_iload_n F_.1 F_.2.1 dX8_about_72 rfl (lv_at hl 1 rfl) ?_
        refine z_iadd F_ dX8_about_73 ?_
        refine z_iald F_ K_ W_ 1 0 rfl rfl (by omega) (by decide) dX8_about_74 ?_
        have b_6 := bg (14 + h)
        exact hret _ _ _ _ (g (14 + h)) rf dX8_about_75 (by exact Or.inl ⟨by omega, by rw [if_neg (by omega), if_pos (by omega)], rfl⟩) W_
      · refine z_tabIn (tgt := 76) F_ 2 c28 ⟨by omega, by decide, by decide⟩ dX8_about_28 rfl (by decide) ?_
        refine lv_aload_n F_.1 F_.2.1 dX8_about_76 rfl (lv_at hl 0 rfl) ?_
        refine lv_iload_n F_.1 F_.2.1 dX8_about_77 rfl (lv_at hl 1 rfl) ?_
        refine z_callVip F_ K_ W_ [.int (zi h)] (c_X8_crewOf l_ D cy o ab be bl ta tl tk vl g h bg (by first | omega | assumption) (by first | omega | assumption) (by first | omega | assumption)) 1 rfl gX8_about_X8_crewOf rfl (by decide +kernel) ⟨⟨Nat.le_of_ble_eq_true rfl, Nat.le_of_ble_eq_true rfl⟩, rfl, rfl, Nat.zero_le _, Nat.zero_le _⟩ 0 0 7 rfl rfl rfl rfl hl.1 rfl (Nat.le_of_ble_eq_true rfl) [0, 1] [2] [wR cy (o 4) 3 rf] 3 (by decide +kernel) rfl rfl rfl dX8_about_78 (fun z_7 _ H_ lo_ hw_ W_ => ?_)
        have hw_ : (z_7 = bitZ (shZ g 6) (h + 1) (g 0)) := hw_
        have f78_v := hw_
        exact hret _ _ _ _ z_7 rf dX8_about_81 (by exact Or.inl ⟨by omega, by rw [if_neg (by omega), if_neg (by omega), if_pos (by omega)]; assumption, rfl⟩) W_
      · refine z_tabOut (tgt := 82) F_ ⟨by omega, c28⟩ dX8_about_28 (by decide) ?_
        refine lv_aload_n F_.1 F_.2.1 dX8_about_82 rfl (lv_at hl 0 rfl) ?_
        refine z_get F_ K_ W_ 0 0 0 rfl rfl rfl (C := RX8) (T := TX8) (N := 19) rfl (by decide) hinX8 (List.mem_of_getElem? (i := 2) rfl) dX8_about_83 ?_
        refine lv_iload_n F_.1 F_.2.1 dX8_about_86 rfl (lv_at hl 1 rfl) ?_
        refine z_iconst F_ dX8_about_87 ?_
        refine z_iadd F_ dX8_about_88 ?_
        refine z_callSip F_ K_ W_ [.ref (o 1), .int (zi (h + 1))] (c_X8_skillsIn l_ D cy (o 1) 192 g (h + 1) bg (by first | omega | assumption) (by first | omega | assumption) (by first | omega | assumption)) 2 rfl gX8_about_X8_skillsIn rfl (by decide +kernel) ⟨⟨Nat.le_of_ble_eq_true rfl, Nat.le_of_ble_eq_true rfl⟩, rfl, rfl, Nat.zero_le _, Nat.zero_le _⟩ hl.1 rfl (Nat.le_of_ble_eq_true rfl) [1] [0, 2] [wO cy o ab be bl ta tl tk vl, wR cy (o 4) 3 rf] 3 (by decide +kernel) rfl rfl rfl dX8_about_89 (fun z_8 _ H_ lo_ hw_ W_ => ?_)
        have hw_ : (z_8 = sumG g (h + 1)) := hw_
        have f89_v := hw_
        exact hret _ _ _ _ z_8 rf dX8_about_92 (by exact Or.inl ⟨by omega, by rw [if_neg (by omega), if_neg (by omega), if_neg (by omega)]; assumption, rfl⟩) W_
    · refine lv_aload_n F_.1 F_.2.1 dX8_about_20 rfl (lv_at hl 0 rfl) ?_
      refine z_bipush F_ (by decide) dX8_about_21 ?_
      refine z_callVi F_ K_ W_ [.int (zi (-2))] (c_X8_bad l_ D cy o ab be bl ta tl tk vl rf (-2) (by first | omega | assumption)) 1 rfl gX8_about_X8_bad rfl (by decide +kernel) ⟨⟨Nat.le_of_ble_eq_true rfl, Nat.le_of_ble_eq_true rfl⟩, rfl, rfl, Nat.zero_le _, Nat.zero_le _⟩ 0 0 7 rfl rfl rfl rfl hl.1 rfl (Nat.le_of_ble_eq_true rfl) [0, 2] [1] [wA cy (o 1) 192 g] (fun (u_ : (Int → Int)) => [wO cy o ab be bl ta tl tk vl, wA cy (o 1) 192 g, wR cy (o 4) 3 u_]) 3 (by decide +kernel) rfl rfl rfl (fun _ => rfl) (fun _ => rfl) (fun _ => rfl) dX8_about_23 (fun z_9 u_ H_ lo_ hw_ W_ => ?_)
      obtain ⟨rf2_10, rfl⟩ : ∃ x, x = u_ := ⟨_, rfl⟩
      have W_ : WD D A_ s_.heap ([wO cy o ab be bl ta tl tk vl, wA cy (o 1) 192 g, wR cy (o 4) 3 rf2_10]) H_ lo_ := W_
      have hw_ : (z_9 = (-2)) ∧ (rf2_10 = rfZ rf 0) := hw_
      obtain ⟨f23_v, f23_r⟩ := hw_
      exact hret _ _ _ _ z_9 rf2_10 dX8_about_26 (by exact Or.inr ⟨by omega, by omega, by assumption⟩) W_
abbrev rX8_left : Room := { frames := 3, cells := 0, slots := 0, locals := 69 }
set_option maxHeartbeats 1000000 in
set_option maxRecDepth 100000 in
theorem c_X8_left (l_ : Launch) (D : va_G) (cy : Nat → ClassId) (o : Nat → Nat) (ab : Int) (be : Int) (bl : Int) (ta : Int) (tl : Int) (tk : Int) (vl : Int) (g : Int → Int) (rf : Int → Int) (h : Int) (bg : ∀ j : Int, 0 ≤ g j ∧ g j ≤ 99) (rh : -2147483648 ≤ h ∧ h < 2147483648) (hg0 : 0 ≤ g 0 ∧ g 0 ≤ 8) (hg1 : 0 ≤ g 1 ∧ g 1 ≤ 3) : CTi l_ D cy yX8_left wsX8_left rX8_left [.ref (o 0), .int (zi h)] ([wO cy o ab be bl ta tl tk vl, wA cy (o 1) 192 g, wR cy (o 4) 3 rf]) (fun (z : Int) (u : (Int → Int)) => ((((0 ≤ h ∧ h < g 1)) ∧ z = lstG g h ∧ u = rf) ∨ (¬ ((0 ≤ h ∧ h < g 1)) ∧ z = -2 ∧ u = rfZ rf 0))) (fun (u : (Int → Int)) => [wO cy o ab be bl ta tl tk vl, wA cy (o 1) 192 g, wR cy (o 4) 3 u]) := by
  refine CTi.of RX8 cX8_left 2 rfl (by decide) rfl (fun z u hz => rfl) (Nat.le_of_ble_eq_true rfl) ?_
  intro p_ e_ s_ m_ ar_ be_ me_ c_ Q_ A_ ls_ F_ K_ W_ hl hret
  have hl : lv_has ls_ 2 [(0, .ref (o 0)), (1, .int (zi h))] := hl
  obtain ⟨H_, hH_⟩ : ∃ x, x = s_.heap := ⟨_, rfl⟩
  obtain ⟨lo_, hlo_⟩ : ∃ x : List Loc, x = [] := ⟨_, rfl⟩
  have W_ : WD D A_ s_.heap ([wO cy o ab be bl ta tl tk vl, wA cy (o 1) 192 g, wR cy (o 4) 3 rf]) H_ lo_ := by rw [hH_, hlo_]; exact W_
  rw [← hlo_]
  suffices hg_ : W p_ l_ e_ rX8_left s_ m_ ar_ be_ me_ c_ H_ lo_ 0 0 Q_ (F0 m_ 0 ls_ []) by rw [hH_] at hg_; exact hg_
  clear hH_ hlo_
  have hinX8 : ∀ w ∈ u_ws RX8 TX8 19, w ∈ wsX8_left := fun w h => List.mem_cons_of_mem _ (List.mem_append_right _ h)
  refine lv_aload_n F_.1 F_.2.1 dX8_left_0 rfl (lv_at hl 0 rfl) ?_
  refine lv_iload_n F_.1 F_.2.1 dX8_left_1 rfl (lv_at hl 1 rfl) ?_
  refine z_callVip F_ K_ W_ [.int (zi h)] (c_X8_isShip l_ D cy o ab be bl ta tl tk vl g h bg (by first | omega | assumption) (by first | omega | assumption)) 1 rfl gX8_left_X8_isShip rfl (by decide +kernel) ⟨⟨Nat.le_of_ble_eq_true rfl, Nat.le_of_ble_eq_true rfl⟩, rfl, rfl, Nat.zero_le _, Nat.zero_le _⟩ 0 0 7 rfl rfl rfl rfl hl.1 rfl (Nat.le_of_ble_eq_true rfl) [0, 1] [2] [wR cy (o 4) 3 rf] 3 (by decide +kernel) rfl rfl rfl dX8_left_2 (fun z_1 _ H_ lo_ hw_ W_ => ?_)
  have hw_ : ((z_1 = 1 ∧ (0 ≤ h ∧ h < g 1)) ∨ (z_1 = 0 ∧ ¬ (0 ≤ h ∧ h < g 1))) := hw_
  have f2_v := hw_
  refine z_if_eq (tgt := 19) F_ (by omega) dX8_left_5 (by decide) (fun c5 => ?_) (fun c5 => ?_)
  · refine lv_aload_n F_.1 F_.2.1 dX8_left_19 rfl (lv_at hl 0 rfl) ?_
    refine z_bipush F_ (by decide) dX8_left_20 ?_
    refine z_callVi F_ K_ W_ [.int (zi (-2))] (c_X8_bad l_ D cy o ab be bl ta tl tk vl rf (-2) (by first | omega | assumption)) 1 rfl gX8_left_X8_bad rfl (by decide +kernel) ⟨⟨Nat.le_of_ble_eq_true rfl, Nat.le_of_ble_eq_true rfl⟩, rfl, rfl, Nat.zero_le _, Nat.zero_le _⟩ 0 0 7 rfl rfl rfl rfl hl.1 rfl (Nat.le_of_ble_eq_true rfl) [0, 2] [1] [wA cy (o 1) 192 g] (fun (u_ : (Int → Int)) => [wO cy o ab be bl ta tl tk vl, wA cy (o 1) 192 g, wR cy (o 4) 3 u_]) 3 (by decide +kernel) rfl rfl rfl (fun _ => rfl) (fun _ => rfl) (fun _ => rfl) dX8_left_22 (fun z_2 u_ H_ lo_ hw_ W_ => ?_)
    obtain ⟨rf2_3, rfl⟩ : ∃ x, x = u_ := ⟨_, rfl⟩
    have W_ : WD D A_ s_.heap ([wO cy o ab be bl ta tl tk vl, wA cy (o 1) 192 g, wR cy (o 4) 3 rf2_3]) H_ lo_ := W_
    have hw_ : (z_2 = (-2)) ∧ (rf2_3 = rfZ rf 0) := hw_
    obtain ⟨f22_v, f22_r⟩ := hw_
    exact hret _ _ _ _ z_2 rf2_3 dX8_left_25 (by first | exact Or.inl ⟨by omega, by assumption, rfl⟩ | exact Or.inr ⟨by omega, by omega, by assumption⟩) W_
  · refine lv_aload_n F_.1 F_.2.1 dX8_left_8 rfl (lv_at hl 0 rfl) ?_
    refine z_get F_ K_ W_ 0 0 0 rfl rfl rfl (C := RX8) (T := TX8) (N := 19) rfl (by decide) hinX8 (List.mem_of_getElem? (i := 1) rfl) dX8_left_9 ?_
    refine lv_iload_n F_.1 F_.2.1 dX8_left_12 rfl (lv_at hl 1 rfl) ?_
    refine z_callSip F_ K_ W_ [.ref (o 1), .int (zi h)] (c_X8_leastOf l_ D cy (o 1) 192 g h bg (by first | omega | assumption) (by first | omega | assumption) (by first | omega | assumption) (by first | omega | assumption)) 2 rfl gX8_left_X8_leastOf rfl (by decide +kernel) ⟨⟨Nat.le_of_ble_eq_true rfl, Nat.le_of_ble_eq_true rfl⟩, rfl, rfl, Nat.zero_le _, Nat.zero_le _⟩ hl.1 rfl (Nat.le_of_ble_eq_true rfl) [1] [0, 2] [wO cy o ab be bl ta tl tk vl, wR cy (o 4) 3 rf] 3 (by decide +kernel) rfl rfl rfl dX8_left_13 (fun z_4 _ H_ lo_ hw_ W_ => ?_)
    have hw_ : (z_4 = lstG g h) := hw_
    have f13_v := hw_
    refine z_goto (tgt := 25) F_ dX8_left_16 (by decide) ?_
    exact hret _ _ _ _ z_4 rf dX8_left_25 (by first | exact Or.inl ⟨by omega, by assumption, rfl⟩ | exact Or.inr ⟨by omega, by omega, by assumption⟩) W_
abbrev rX8_needs : Room := { frames := 2, cells := 0, slots := 0, locals := 46 }
set_option maxHeartbeats 1000000 in
set_option maxRecDepth 100000 in
theorem c_X8_needs (l_ : Launch) (D : va_G) (cy : Nat → ClassId) (o : Nat → Nat) (ab : Int) (be : Int) (bl : Int) (ta : Int) (tl : Int) (tk : Int) (vl : Int) (g : Int → Int) (rf : Int → Int) (h : Int) (d : Int) (bg : ∀ j : Int, 0 ≤ g j ∧ g j ≤ 99) (rh : -2147483648 ≤ h ∧ h < 2147483648) (rd : -2147483648 ≤ d ∧ d < 2147483648) (hg0 : 0 ≤ g 0 ∧ g 0 ≤ 8) (hg1 : 0 ≤ g 1 ∧ g 1 ≤ 3) : CTi l_ D cy yX8_needs wsX8_needs rX8_needs [.ref (o 0), .int (zi h), .int (zi d)] ([wO cy o ab be bl ta tl tk vl, wA cy (o 1) 192 g, wR cy (o 4) 3 rf]) (fun (z : Int) (u : (Int → Int)) => ((((0 ≤ h ∧ h < g 1) ∧ 1 ≤ d ∧ d ≤ 30) ∧ z = needZ (g (17 + h)) d (cntG g (h + 1)) ∧ u = rf) ∨ (¬ ((0 ≤ h ∧ h < g 1) ∧ 1 ≤ d ∧ d ≤ 30) ∧ z = -2 ∧ u = rfZ rf 0))) (fun (u : (Int → Int)) => [wO cy o ab be bl ta tl tk vl, wA cy (o 1) 192 g, wR cy (o 4) 3 u]) := by
  refine CTi.of RX8 cX8_needs 3 rfl (by decide) rfl (fun z u hz => rfl) (Nat.le_of_ble_eq_true rfl) ?_
  intro p_ e_ s_ m_ ar_ be_ me_ c_ Q_ A_ ls_ F_ K_ W_ hl hret
  have hl : lv_has ls_ 3 [(0, .ref (o 0)), (1, .int (zi h)), (2, .int (zi d))] := hl
  obtain ⟨H_, hH_⟩ : ∃ x, x = s_.heap := ⟨_, rfl⟩
  obtain ⟨lo_, hlo_⟩ : ∃ x : List Loc, x = [] := ⟨_, rfl⟩
  have W_ : WD D A_ s_.heap ([wO cy o ab be bl ta tl tk vl, wA cy (o 1) 192 g, wR cy (o 4) 3 rf]) H_ lo_ := by rw [hH_, hlo_]; exact W_
  rw [← hlo_]
  suffices hg_ : W p_ l_ e_ rX8_needs s_ m_ ar_ be_ me_ c_ H_ lo_ 0 0 Q_ (F0 m_ 0 ls_ []) by rw [hH_] at hg_; exact hg_
  clear hH_ hlo_
  have hinX8 : ∀ w ∈ u_ws RX8 TX8 19, w ∈ wsX8_needs := fun w h => List.mem_cons_of_mem _ (List.mem_append_right _ h)
  refine lv_aload_n F_.1 F_.2.1 dX8_needs_0 rfl (lv_at hl 0 rfl) ?_
  refine lv_iload_n F_.1 F_.2.1 dX8_needs_1 rfl (lv_at hl 1 rfl) ?_
  refine z_callVip F_ K_ W_ [.int (zi h)] (c_X8_isShip l_ D cy o ab be bl ta tl tk vl g h bg (by first | omega | assumption) (by first | omega | assumption)) 1 rfl gX8_needs_X8_isShip rfl (by decide +kernel) ⟨⟨Nat.le_of_ble_eq_true rfl, Nat.le_of_ble_eq_true rfl⟩, rfl, rfl, Nat.zero_le _, Nat.zero_le _⟩ 0 0 7 rfl rfl rfl rfl hl.1 rfl (Nat.le_of_ble_eq_true rfl) [0, 1] [2] [wR cy (o 4) 3 rf] 3 (by decide +kernel) rfl rfl rfl dX8_needs_2 (fun z_1 _ H_ lo_ hw_ W_ => ?_)
  have hw_ : ((z_1 = 1 ∧ (0 ≤ h ∧ h < g 1)) ∨ (z_1 = 0 ∧ ¬ (0 ≤ h ∧ h < g 1))) := hw_
  have f2_v := hw_
  refine z_if_eq (tgt := 39) F_ (by omega) dX8_needs_5 (by decide) (fun c5 => ?_) (fun c5 => ?_)
  · refine lv_aload_n F_.1 F_.2.1 dX8_needs_39 rfl (lv_at hl 0 rfl) ?_
    refine z_bipush F_ (by decide) dX8_needs_40 ?_
    refine z_callVi F_ K_ W_ [.int (zi (-2))] (c_X8_bad l_ D cy o ab be bl ta tl tk vl rf (-2) (by first | omega | assumption)) 1 rfl gX8_needs_X8_bad rfl (by decide +kernel) ⟨⟨Nat.le_of_ble_eq_true rfl, Nat.le_of_ble_eq_true rfl⟩, rfl, rfl, Nat.zero_le _, Nat.zero_le _⟩ 0 0 7 rfl rfl rfl rfl hl.1 rfl (Nat.le_of_ble_eq_true rfl) [0, 2] [1] [wA cy (o 1) 192 g] (fun (u_ : (Int → Int)) => [wO cy o ab be bl ta tl tk vl, wA cy (o 1) 192 g, wR cy (o 4) 3 u_]) 3 (by decide +kernel) rfl rfl rfl (fun _ => rfl) (fun _ => rfl) (fun _ => rfl) dX8_needs_42 (fun z_2 u_ H_ lo_ hw_ W_ => ?_)
    obtain ⟨rf2_3, rfl⟩ : ∃ x, x = u_ := ⟨_, rfl⟩
    have W_ : WD D A_ s_.heap ([wO cy o ab be bl ta tl tk vl, wA cy (o 1) 192 g, wR cy (o 4) 3 rf2_3]) H_ lo_ := W_
    have hw_ : (z_2 = (-2)) ∧ (rf2_3 = rfZ rf 0) := hw_
    obtain ⟨f42_v, f42_r⟩ := hw_
    exact hret _ _ _ _ z_2 rf2_3 dX8_needs_45 (by first | exact Or.inl ⟨by omega, by assumption, rfl⟩ | exact Or.inr ⟨by omega, by omega, by assumption⟩) W_
  · refine lv_iload_n F_.1 F_.2.1 dX8_needs_8 rfl (lv_at hl 2 rfl) ?_
    refine z_callSip F_ K_ W_ [.int (zi d)] (c_X8_isFar l_ D cy d (by first | omega | assumption)) 1 rfl gX8_needs_X8_isFar rfl (by decide +kernel) ⟨⟨Nat.le_of_ble_eq_true rfl, Nat.le_of_ble_eq_true rfl⟩, rfl, rfl, Nat.zero_le _, Nat.zero_le _⟩ hl.1 rfl (Nat.le_of_ble_eq_true rfl) ([] : List Nat) [0, 1, 2] [wO cy o ab be bl ta tl tk vl, wA cy (o 1) 192 g, wR cy (o 4) 3 rf] 3 (by decide +kernel) rfl rfl rfl dX8_needs_9 (fun z_4 _ H_ lo_ hw_ W_ => ?_)
    have hw_ : ((z_4 = 1 ∧ (1 ≤ d ∧ d ≤ 30)) ∨ (z_4 = 0 ∧ ¬ (1 ≤ d ∧ d ≤ 30))) := hw_
    have f9_v := hw_
    refine z_if_eq (tgt := 39) F_ (by omega) dX8_needs_12 (by decide) (fun c12 => ?_) (fun c12 => ?_)
    · refine lv_aload_n F_.1 F_.2.1 dX8_needs_39 rfl (lv_at hl 0 rfl) ?_
      refine z_bipush F_ (by decide) dX8_needs_40 ?_
      refine z_callVi F_ K_ W_ [.int (zi (-2))] (c_X8_bad l_ D cy o ab be bl ta tl tk vl rf (-2) (by first | omega | assumption)) 1 rfl gX8_needs_X8_bad rfl (by decide +kernel) ⟨⟨Nat.le_of_ble_eq_true rfl, Nat.le_of_ble_eq_true rfl⟩, rfl, rfl, Nat.zero_le _, Nat.zero_le _⟩ 0 0 7 rfl rfl rfl rfl hl.1 rfl (Nat.le_of_ble_eq_true rfl) [0, 2] [1] [wA cy (o 1) 192 g] (fun (u_ : (Int → Int)) => [wO cy o ab be bl ta tl tk vl, wA cy (o 1) 192 g, wR cy (o 4) 3 u_]) 3 (by decide +kernel) rfl rfl rfl (fun _ => rfl) (fun _ => rfl) (fun _ => rfl) dX8_needs_42 (fun z_5 u_ H_ lo_ hw_ W_ => ?_)
      obtain ⟨rf2_6, rfl⟩ : ∃ x, x = u_ := ⟨_, rfl⟩
      have W_ : WD D A_ s_.heap ([wO cy o ab be bl ta tl tk vl, wA cy (o 1) 192 g, wR cy (o 4) 3 rf2_6]) H_ lo_ := W_
      have hw_ : (z_5 = (-2)) ∧ (rf2_6 = rfZ rf 0) := hw_
      obtain ⟨f42_v, f42_r⟩ := hw_
      exact hret _ _ _ _ z_5 rf2_6 dX8_needs_45 (by first | exact Or.inl ⟨by omega, by assumption, rfl⟩ | exact Or.inr ⟨by omega, by omega, by assumption⟩) W_
    · refine lv_aload_n F_.1 F_.2.1 dX8_needs_15 rfl (lv_at hl 0 rfl) ?_
      refine z_get F_ K_ W_ 0 0 0 rfl rfl rfl (C := RX8) (T := TX8) (N := 19) rfl (by decide) hinX8 (List.mem_of_getElem? (i := 1) rfl) dX8_needs_16 ?_
      refine z_bipush F_ (by decide) dX8_needs_19 ?_
      refine lv_iload_n F_.1 F_.2.1 dX8_needs_21 rfl (lv_at hl 1 rfl) ?_
      refine z_iadd F_ dX8_needs_22 ?_
      refine z_iald F_ K_ W_ 1 0 rfl rfl (by omega) (by decide) dX8_needs_23 ?_
      have b_7 := bg (17 + h)
      refine lv_iload_n F_.1 F_.2.1 dX8_needs_24 rfl (lv_at hl 2 rfl) ?_
      refine lv_aload_n F_.1 F_.2.1 dX8_needs_25 rfl (lv_at hl 0 rfl) ?_
      refine z_get F_ K_ W_ 0 0 0 rfl rfl rfl (C := RX8) (T := TX8) (N := 19) rfl (by decide) hinX8 (List.mem_of_getElem? (i := 1) rfl) dX8_needs_26 ?_
      refine lv_iload_n F_.1 F_.2.1 dX8_needs_29 rfl (lv_at hl 1 rfl) ?_
      refine z_callSip F_ K_ W_ [.ref (o 1), .int (zi h)] (c_X8_aboard l_ D cy (o 1) 192 g h bg (by first | omega | assumption) (by first | omega | assumption) (by first | omega | assumption) (by first | omega | assumption)) 2 rfl gX8_needs_X8_aboard rfl (by decide +kernel) ⟨⟨Nat.le_of_ble_eq_true rfl, Nat.le_of_ble_eq_true rfl⟩, rfl, rfl, Nat.zero_le _, Nat.zero_le _⟩ hl.1 rfl (Nat.le_of_ble_eq_true rfl) [1] [0, 2] [wO cy o ab be bl ta tl tk vl, wR cy (o 4) 3 rf] 3 (by decide +kernel) rfl rfl rfl dX8_needs_30 (fun z_8 _ H_ lo_ hw_ W_ => ?_)
      have hw_ : (z_8 = cntG g (h + 1)) := hw_
      have f30_v := hw_
      have f30_v := f30_v.symm
      subst f30_v
      have hcb : 0 ≤ cntG g (h + 1) ∧ cntG g (h + 1) ≤ g 0 := cntZ_b (shZ g 6) (h + 1) (m := g 0) (by omega)
      refine z_callSip F_ K_ W_ [.int (zi (g (17 + h))), .int (zi d), .int (zi (cntG g (h + 1)))] (c_X8_needsAs l_ D cy (g (17 + h)) d (cntG g (h + 1)) (by first | omega | assumption) (by first | omega | assumption) (by first | omega | assumption) (by first | omega | assumption) (by first | omega | assumption)) 3 rfl gX8_needs_X8_needsAs rfl (by decide +kernel) ⟨⟨Nat.le_of_ble_eq_true rfl, Nat.le_of_ble_eq_true rfl⟩, rfl, rfl, Nat.zero_le _, Nat.zero_le _⟩ hl.1 rfl (Nat.le_of_ble_eq_true rfl) ([] : List Nat) [0, 1, 2] [wO cy o ab be bl ta tl tk vl, wA cy (o 1) 192 g, wR cy (o 4) 3 rf] 3 (by decide +kernel) rfl rfl rfl dX8_needs_33 (fun z_9 _ H_ lo_ hw_ W_ => ?_)
      have hw_ : (z_9 = needZ (g (17 + h)) d (cntG g (h + 1))) := hw_
      have f33_v := hw_
      refine z_goto (tgt := 45) F_ dX8_needs_36 (by decide) ?_
      exact hret _ _ _ _ z_9 rf dX8_needs_45 (by first | exact Or.inl ⟨by omega, by assumption, rfl⟩ | exact Or.inr ⟨by omega, by omega, by assumption⟩) W_
abbrev rX8_far : Room := { frames := 2, cells := 0, slots := 0, locals := 46 }
set_option maxHeartbeats 1000000 in
set_option maxRecDepth 100000 in
theorem c_X8_far (l_ : Launch) (D : va_G) (cy : Nat → ClassId) (o : Nat → Nat) (ab : Int) (be : Int) (bl : Int) (ta : Int) (tl : Int) (tk : Int) (vl : Int) (g : Int → Int) (rf : Int → Int) (h : Int) (bg : ∀ j : Int, 0 ≤ g j ∧ g j ≤ 99) (rh : -2147483648 ≤ h ∧ h < 2147483648) (hg0 : 0 ≤ g 0 ∧ g 0 ≤ 8) (hg1 : 0 ≤ g 1 ∧ g 1 ≤ 3) : CTi l_ D cy yX8_far wsX8_far rX8_far [.ref (o 0), .int (zi h)] ([wO cy o ab be bl ta tl tk vl, wA cy (o 1) 192 g, wR cy (o 4) 3 rf]) (fun (z : Int) (u : (Int → Int)) => (((0 ≤ h ∧ h < g 1) ∧ (0 ≤ z ∧ z ≤ 30 ∧ (z = 0 ∨ canG g h z) ∧ ∀ d, z < d → d ≤ 30 → ¬ canG g h d) ∧ u = rf) ∨ (¬ (0 ≤ h ∧ h < g 1) ∧ z = -2 ∧ u = rfZ rf 0))) (fun (u : (Int → Int)) => [wO cy o ab be bl ta tl tk vl, wA cy (o 1) 192 g, wR cy (o 4) 3 u]) := by
  refine CTi.of RX8 cX8_far 4 rfl (by decide) rfl (fun z u hz => rfl) (Nat.le_of_ble_eq_true rfl) ?_
  intro p_ e_ s_ m_ ar_ be_ me_ c_ Q_ A_ ls_ F_ K_ W_ hl hret
  have hl : lv_has ls_ 4 [(0, .ref (o 0)), (1, .int (zi h))] := hl
  obtain ⟨H_, hH_⟩ : ∃ x, x = s_.heap := ⟨_, rfl⟩
  obtain ⟨lo_, hlo_⟩ : ∃ x : List Loc, x = [] := ⟨_, rfl⟩
  have W_ : WD D A_ s_.heap ([wO cy o ab be bl ta tl tk vl, wA cy (o 1) 192 g, wR cy (o 4) 3 rf]) H_ lo_ := by rw [hH_, hlo_]; exact W_
  rw [← hlo_]
  suffices hg_ : W p_ l_ e_ rX8_far s_ m_ ar_ be_ me_ c_ H_ lo_ 0 0 Q_ (F0 m_ 0 ls_ []) by rw [hH_] at hg_; exact hg_
  clear hH_ hlo_
  have hinX8 : ∀ w ∈ u_ws RX8 TX8 19, w ∈ wsX8_far := fun w h => List.mem_cons_of_mem _ (List.mem_append_right _ h)
  refine lv_aload_n F_.1 F_.2.1 dX8_far_0 rfl (lv_at hl 0 rfl) ?_
  refine lv_iload_n F_.1 F_.2.1 dX8_far_1 rfl (lv_at hl 1 rfl) ?_
  refine z_callVip F_ K_ W_ [.int (zi h)] (c_X8_isShip l_ D cy o ab be bl ta tl tk vl g h bg (by first | omega | assumption) (by first | omega | assumption)) 1 rfl gX8_far_X8_isShip rfl (by decide +kernel) ⟨⟨Nat.le_of_ble_eq_true rfl, Nat.le_of_ble_eq_true rfl⟩, rfl, rfl, Nat.zero_le _, Nat.zero_le _⟩ 0 0 7 rfl rfl rfl rfl hl.1 rfl (Nat.le_of_ble_eq_true rfl) [0, 1] [2] [wR cy (o 4) 3 rf] 3 (by decide +kernel) rfl rfl rfl dX8_far_2 (fun z_1 _ H_ lo_ hw_ W_ => ?_)
  have hw_ : ((z_1 = 1 ∧ (0 ≤ h ∧ h < g 1)) ∨ (z_1 = 0 ∧ ¬ (0 ≤ h ∧ h < g 1))) := hw_
  have f2_v := hw_
  refine z_if_ne (tgt := 15) F_ (by omega) dX8_far_5 (by decide) (fun c5 => ?_) (fun c5 => ?_)
  · refine z_iconst F_ dX8_far_15 ?_
    refine lv_istore_n (lv' := [(2, .int (zi 0)), (0, .ref (o 0)), (1, .int (zi h))]) F_.1 F_.2.1 dX8_far_16 rfl hl (by decide) rfl (fun ls_ hl => ?_)
    refine z_iconst F_ dX8_far_17 ?_
    refine lv_istore_n (lv' := [(3, .int (zi 1)), (2, .int (zi 0)), (0, .ref (o 0)), (1, .int (zi h))]) F_.1 F_.2.1 dX8_far_18 rfl hl (by decide) rfl (fun ls_ hl => ?_)
    have L19 : ∀ (n_ : Nat) (x : Int) (k : Int) (hk : 1 ≤ k ∧ k ≤ 31) (hb : 0 ≤ x ∧ x < k) (hx : x = 0 ∨ canG g h x) (ha : ∀ d, x < d → d < k → ¬ canG g h d) (hm_ : (31 - k : Int) < (n_ : Int)) (ls_ : Array Slot) (H_ : Heap) (lo_ : List Loc), WD D A_ s_.heap ([wO cy o ab be bl ta tl tk vl, wA cy (o 1) 192 g, wR cy (o 4) 3 rf]) H_ lo_ → lv_has ls_ 4 [(3, .int (zi k)), (2, .int (zi x)), (0, .ref (o 0)), (1, .int (zi h))] → W p_ l_ e_ rX8_far s_ m_ ar_ be_ me_ c_ H_ lo_ 0 0 Q_ (F0 m_ 19 ls_ []) := by
      intro n_
      induction n_ with
      | zero =>
        intro x k hk hb hx ha hm_ ls_ H_ lo_ _ _
        exact absurd hm_ (by omega)
      | succ n_ ih_ =>
        intro x k hk hb hx ha hm_ ls_ H_ lo_ W_ hl
        have ih19 := ih_
        refine lv_iload_n F_.1 F_.2.1 dX8_far_19 rfl (lv_at hl 0 rfl) ?_
        refine z_bipush F_ (by decide) dX8_far_20 ?_
        refine z_icmp_gt (tgt := 49) F_ (by omega) dX8_far_22 (by decide) (fun c22 => ?_) (fun c22 => ?_)
        · refine lv_iload_n F_.1 F_.2.1 dX8_far_49 rfl (lv_at hl 1 rfl) ?_
          exact hret _ _ _ _ x rf dX8_far_50 (by exact Or.inl ⟨by omega, ⟨by omega, by omega, hx, fun d h1 h2 => ha d h1 (by omega)⟩, rfl⟩) W_
        · refine lv_aload_n F_.1 F_.2.1 dX8_far_25 rfl (lv_at hl 2 rfl) ?_
          refine z_get F_ K_ W_ 0 0 0 rfl rfl rfl (C := RX8) (T := TX8) (N := 19) rfl (by decide) hinX8 (List.mem_of_getElem? (i := 1) rfl) dX8_far_26 ?_
          refine lv_iload_n F_.1 F_.2.1 dX8_far_29 rfl (lv_at hl 3 rfl) ?_
          refine lv_iload_n F_.1 F_.2.1 dX8_far_30 rfl (lv_at hl 0 rfl) ?_
          refine z_callSip F_ K_ W_ [.ref (o 1), .int (zi h), .int (zi k)] (c_X8_canSail l_ D cy (o 1) 192 g h k bg (by first | omega | assumption) (by first | omega | assumption) (by first | omega | assumption) (by first | omega | assumption) (by first | omega | assumption) (by first | omega | assumption)) 3 rfl gX8_far_X8_canSail rfl (by decide +kernel) ⟨⟨Nat.le_of_ble_eq_true rfl, Nat.le_of_ble_eq_true rfl⟩, rfl, rfl, Nat.zero_le _, Nat.zero_le _⟩ hl.1 rfl (Nat.le_of_ble_eq_true rfl) [1] [0, 2] [wO cy o ab be bl ta tl tk vl, wR cy (o 4) 3 rf] 3 (by decide +kernel) rfl rfl rfl dX8_far_31 (fun z_2 _ H_ lo_ hw_ W_ => ?_)
          have hw_ : ((z_2 = 1 ∧ canG g h k) ∨ (z_2 = 0 ∧ ¬ canG g h k)) := hw_
          have f31_v := hw_
          refine z_if_eq (tgt := 41) F_ (by omega) dX8_far_34 (by decide) (fun c34 => ?_) (fun c34 => ?_)
          · refine lv_iload_n F_.1 F_.2.1 dX8_far_41 rfl (lv_at hl 1 rfl) ?_
            refine lv_istore_n (lv' := [(2, .int (zi x)), (3, .int (zi k)), (0, .ref (o 0)), (1, .int (zi h))]) F_.1 F_.2.1 dX8_far_42 rfl hl (by decide) rfl (fun ls_ hl => ?_)
            refine z_iinc (lv' := [(3, .int (zi (k + 1))), (2, .int (zi x)), (0, .ref (o 0)), (1, .int (zi h))]) F_ dX8_far_43 hl (k := 1) rfl (by decide) rfl (fun ls_ hl => ?_)
            refine z_goto (tgt := 19) F_ dX8_far_46 (by decide) ?_
            exact ih19 x (k + 1) (by first | omega | assumption) (by first | omega | assumption) (by first | assumption | exact Or.inr (f31_v.elim (fun q => q.2) (fun q => absurd q.1 (by omega)))) (by intro d h1 h2; first | omega | (rcases Int.lt_or_eq_of_le (show d ≤ k by omega) with q | q; exact ha d h1 q; rw [q]; exact f31_v.elim (fun q => absurd q.1 (by omega)) (fun q => q.2))) (by omega) ls_ H_ lo_ W_ (lv_sub hl [0, 1, 2, 3] rfl)
          · refine lv_iload_n F_.1 F_.2.1 dX8_far_37 rfl (lv_at hl 0 rfl) ?_
            refine z_goto (tgt := 42) F_ dX8_far_38 (by decide) ?_
            refine lv_istore_n (lv' := [(2, .int (zi k)), (3, .int (zi k)), (0, .ref (o 0)), (1, .int (zi h))]) F_.1 F_.2.1 dX8_far_42 rfl hl (by decide) rfl (fun ls_ hl => ?_)
            refine z_iinc (lv' := [(3, .int (zi (k + 1))), (2, .int (zi k)), (0, .ref (o 0)), (1, .int (zi h))]) F_ dX8_far_43 hl (k := 1) rfl (by decide) rfl (fun ls_ hl => ?_)
            refine z_goto (tgt := 19) F_ dX8_far_46 (by decide) ?_
            exact ih19 k (k + 1) (by first | omega | assumption) (by first | omega | assumption) (by first | assumption | exact Or.inr (f31_v.elim (fun q => q.2) (fun q => absurd q.1 (by omega)))) (by intro d h1 h2; first | omega | (rcases Int.lt_or_eq_of_le (show d ≤ k by omega) with q | q; exact ha d h1 q; rw [q]; exact f31_v.elim (fun q => absurd q.1 (by omega)) (fun q => q.2))) (by omega) ls_ H_ lo_ W_ (lv_sub hl [0, 1, 2, 3] rfl)
    exact L19 ((31 - 1 : Int).toNat + 1) 0 1 (by first | omega | assumption) (by first | omega | assumption) (by exact Or.inl rfl) (by intro d h1 h2; omega) (by have := Int.self_le_toNat (31 - 1 : Int); omega) ls_ H_ lo_ W_ (lv_sub hl [0, 1, 2, 3] rfl)
  · refine lv_aload_n F_.1 F_.2.1 dX8_far_8 rfl (lv_at hl 0 rfl) ?_
    refine z_bipush F_ (by decide) dX8_far_9 ?_
    refine z_callVi F_ K_ W_ [.int (zi (-2))] (c_X8_bad l_ D cy o ab be bl ta tl tk vl rf (-2) (by first | omega | assumption)) 1 rfl gX8_far_X8_bad rfl (by decide +kernel) ⟨⟨Nat.le_of_ble_eq_true rfl, Nat.le_of_ble_eq_true rfl⟩, rfl, rfl, Nat.zero_le _, Nat.zero_le _⟩ 0 0 7 rfl rfl rfl rfl hl.1 rfl (Nat.le_of_ble_eq_true rfl) [0, 2] [1] [wA cy (o 1) 192 g] (fun (u_ : (Int → Int)) => [wO cy o ab be bl ta tl tk vl, wA cy (o 1) 192 g, wR cy (o 4) 3 u_]) 3 (by decide +kernel) rfl rfl rfl (fun _ => rfl) (fun _ => rfl) (fun _ => rfl) dX8_far_11 (fun z_3 u_ H_ lo_ hw_ W_ => ?_)
    obtain ⟨rf2_4, rfl⟩ : ∃ x, x = u_ := ⟨_, rfl⟩
    have W_ : WD D A_ s_.heap ([wO cy o ab be bl ta tl tk vl, wA cy (o 1) 192 g, wR cy (o 4) 3 rf2_4]) H_ lo_ := W_
    have hw_ : (z_3 = (-2)) ∧ (rf2_4 = rfZ rf 0) := hw_
    obtain ⟨f11_v, f11_r⟩ := hw_
    exact hret _ _ _ _ z_3 rf2_4 dX8_far_14 (by exact Or.inr ⟨by omega, by omega, by assumption⟩) W_
abbrev rX8_layHand : Room := { frames := 0, cells := 0, slots := 0, locals := 0 }
set_option maxHeartbeats 1000000 in
set_option maxRecDepth 100000 in
theorem c_X8_layHand (l_ : Launch) (D : va_G) (cy : Nat → ClassId) (o : Nat → Nat) (ab : Int) (be : Int) (bl : Int) (ta : Int) (tl : Int) (tk : Int) (vl : Int) (g : Int → Int) (hd : Int → Int) (bg : ∀ j : Int, 0 ≤ g j ∧ g j ≤ 99) (bhd : ∀ j : Int, 0 ≤ hd j ∧ hd j ≤ 99) : CTv l_ D cy yX8_layHand wsX8_layHand rX8_layHand [.ref (o 0)] ([wO cy o ab be bl ta tl tk vl, wA cy (o 1) 192 g, wA cy (o 5) 36 hd]) (fun (u : Unit) => (∀ j : Int, 0 ≤ g j ∧ g j ≤ 99)) (fun (u : Unit) => [wO cy o ab be bl ta tl tk vl, wA cy (o 1) 192 g, wA cy (o 5) 36 g]) := by
  refine CTv.of RX8 cX8_layHand 2 rfl (by decide) rfl (Nat.le_of_ble_eq_true rfl) ?_
  intro p_ e_ s_ m_ ar_ be_ me_ c_ Q_ A_ ls_ F_ K_ W_ hl hret
  have hl : lv_has ls_ 2 [(0, .ref (o 0))] := hl
  obtain ⟨H_, hH_⟩ : ∃ x, x = s_.heap := ⟨_, rfl⟩
  obtain ⟨lo_, hlo_⟩ : ∃ x : List Loc, x = [] := ⟨_, rfl⟩
  have W_ : WD D A_ s_.heap ([wO cy o ab be bl ta tl tk vl, wA cy (o 1) 192 g, wA cy (o 5) 36 hd]) H_ lo_ := by rw [hH_, hlo_]; exact W_
  rw [← hlo_]
  suffices hg_ : W p_ l_ e_ rX8_layHand s_ m_ ar_ be_ me_ c_ H_ lo_ 0 0 Q_ (F0 m_ 0 ls_ []) by rw [hH_] at hg_; exact hg_
  clear hH_ hlo_
  have hinX8 : ∀ w ∈ u_ws RX8 TX8 19, w ∈ wsX8_layHand := fun w h => List.mem_cons_of_mem _ (List.mem_append_right _ h)
  refine z_iconst F_ dX8_layHand_0 ?_
  refine lv_istore_n (lv' := [(1, .int (zi 0)), (0, .ref (o 0))]) F_.1 F_.2.1 dX8_layHand_1 rfl hl (by decide) rfl (fun ls_ hl => ?_)
  have L2 : ∀ (n_ : Nat) (k : Int) (x : Int → Int) (bx : ∀ j : Int, 0 ≤ x j ∧ x j ≤ 99) (hk : 0 ≤ k ∧ k ≤ 36) (hx : x = cpG g hd k) (hm_ : (36 - k : Int) < (n_ : Int)) (ls_ : Array Slot) (H_ : Heap) (lo_ : List Loc), WD D A_ s_.heap ([wO cy o ab be bl ta tl tk vl, wA cy (o 1) 192 g, wA cy (o 5) 36 x]) H_ lo_ → lv_has ls_ 2 [(1, .int (zi k)), (0, .ref (o 0))] → W p_ l_ e_ rX8_layHand s_ m_ ar_ be_ me_ c_ H_ lo_ 0 0 Q_ (F0 m_ 2 ls_ []) := by
    intro n_
    induction n_ with
    | zero =>
      intro k x bx hk hx hm_ ls_ H_ lo_ _ _
      exact absurd hm_ (by omega)
    | succ n_ ih_ =>
      intro k x bx hk hx hm_ ls_ H_ lo_ W_ hl
      have ih2 := ih_
      refine lv_iload_n F_.1 F_.2.1 dX8_layHand_2 rfl (lv_at hl 0 rfl) ?_
      refine z_bipush F_ (by decide) dX8_layHand_3 ?_
      refine z_icmp_ge (tgt := 26) F_ (by omega) dX8_layHand_5 (by decide) (fun c5 => ?_) (fun c5 => ?_)
      · have W_ : WD D A_ s_.heap ([wO cy o ab be bl ta tl tk vl, wA cy (o 1) 192 g, wA cy (o 5) 36 g]) H_ lo_ := wd_cell W_ 2 0 rfl rfl rfl (by intro j_ h1_ h2_; rw [hx]; simp only [cpG]; rw [if_pos (by omega)])
        exact hret _ _ _ _ () dX8_layHand_26 bg W_
      · refine lv_aload_n F_.1 F_.2.1 dX8_layHand_8 rfl (lv_at hl 1 rfl) ?_
        refine z_get F_ K_ W_ 0 0 6 rfl rfl rfl (C := RX8) (T := TX8) (N := 19) rfl (by decide) hinX8 (List.mem_of_getElem? (i := 1) rfl) dX8_layHand_9 ?_
        refine lv_iload_n F_.1 F_.2.1 dX8_layHand_12 rfl (lv_at hl 0 rfl) ?_
        refine lv_aload_n F_.1 F_.2.1 dX8_layHand_13 rfl (lv_at hl 1 rfl) ?_
        refine z_get F_ K_ W_ 0 0 0 rfl rfl rfl (C := RX8) (T := TX8) (N := 19) rfl (by decide) hinX8 (List.mem_of_getElem? (i := 2) rfl) dX8_layHand_14 ?_
        refine lv_iload_n F_.1 F_.2.1 dX8_layHand_17 rfl (lv_at hl 0 rfl) ?_
        refine z_iald F_ K_ W_ 1 0 rfl rfl (by omega) (by decide) dX8_layHand_18 ?_
        have b_1 := bg k
        refine z_iast (sg' := [wO cy o ab be bl ta tl tk vl, wA cy (o 1) 192 g, wA cy (o 5) 36 (zu x k (g k))]) F_ K_ W_ 2 0 rfl rfl rfl (by omega) (by decide) dX8_layHand_19 (fun H_ lo_ W_ => ?_)
        obtain ⟨g_2, eg_2⟩ : ∃ x_ : Int → Int, x_ = zu x k (g k) := ⟨_, rfl⟩
        rw [← eg_2] at W_
        have bg_2 : ∀ j : Int, 0 ≤ g_2 j ∧ g_2 j ≤ 99 := by rw [eg_2]; exact zu_b bx (by omega)
        refine z_iinc (lv' := [(1, .int (zi (k + 1))), (0, .ref (o 0))]) F_ dX8_layHand_20 hl (k := 0) rfl (by decide) rfl (fun ls_ hl => ?_)
        refine z_goto (tgt := 2) F_ dX8_layHand_23 (by decide) ?_
        exact ih2 (k + 1) g_2 bg_2 (by first | omega | assumption) (by rw [eg_2, hx]; funext j_; simp only [zu_at, cpG]; repeat (first | omega | rfl | split | (congr 1; omega))) (by omega) ls_ H_ lo_ W_ (lv_sub hl [0, 1] rfl)
  exact L2 ((36 - 0 : Int).toNat + 1) 0 hd bhd (by first | omega | assumption) (by funext j_; simp only [zu_at, cpG]; repeat (first | omega | rfl | split | (congr 1; omega))) (by have := Int.self_le_toNat (36 - 0 : Int); omega) ls_ H_ lo_ W_ (lv_sub hl [0, 1] rfl)
