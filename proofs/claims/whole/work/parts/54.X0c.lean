abbrev rX0_sailing : Room := { frames := 0, cells := 0, slots := 0, locals := 0 }
set_option maxHeartbeats 1000000 in
set_option maxRecDepth 100000 in
theorem c_X0_sailing (l_ : Launch) (D : va_G) (cy : Nat → ClassId) (cr : Nat → Nat) (fo : Int) (wo : Int → Int) (be : Int → Int) (bwo : ∀ j : Int, (-70000) ≤ wo j ∧ wo j ≤ 70000) (bbe : ∀ j : Int, (-300000) ≤ be j ∧ be j ≤ 300000) (hfo : 0 ≤ fo ∧ fo ≤ 200000) : CTi l_ D cy yX0_sailing wsX0_sailing rX0_sailing [.ref (cr 0)] ([wC cy cr fo wo be]) (fun (z : Int) (u : Unit) => (z = (fo + 65536 - 1) / 65536)) (fun (_ : Unit) => [wC cy cr fo wo be]) := by
  refine CTi.of RX0 cX0_sailing 1 rfl (by decide) rfl (fun z u hz => rfl) (Nat.le_of_ble_eq_true rfl) ?_
  intro p_ e_ s_ m_ ar_ be_ me_ c_ Q_ A_ ls_ F_ K_ W_ hl hret
  have hl : lv_has ls_ 1 [(0, .ref (cr 0))] := hl
  obtain ⟨H_, hH_⟩ : ∃ x, x = s_.heap := ⟨_, rfl⟩
  obtain ⟨lo_, hlo_⟩ : ∃ x : List Loc, x = [] := ⟨_, rfl⟩
  have W_ : WD D A_ s_.heap ([wC cy cr fo wo be]) H_ lo_ := by rw [hH_, hlo_]; exact W_
  rw [← hlo_]
  suffices hg_ : W p_ l_ e_ rX0_sailing s_ m_ ar_ be_ me_ c_ H_ lo_ 0 0 Q_ (F0 m_ 0 ls_ []) by rw [hH_] at hg_; exact hg_
  clear hH_ hlo_
  have hinX0 : ∀ w ∈ u_ws RX0 TX0 3, w ∈ wsX0_sailing := fun w h => List.mem_cons_of_mem _ (List.mem_append_right _ h)
  refine lv_aload_n F_.1 F_.2.1 dX0_sailing_0 rfl (lv_at hl 0 rfl) ?_
  refine z_get F_ K_ W_ 0 0 2 rfl rfl rfl (C := RX0) (T := TX0) (N := 3) rfl (by decide) hinX0 (List.mem_of_getElem? (i := 1) rfl) dX0_sailing_1 ?_
  refine z_ldc (z := 65536) F_ (F_.2.2.2.2 _ (List.mem_of_getElem? (i := 2) rfl)) rfl dX0_sailing_4 ?_
  refine z_iadd F_ dX0_sailing_6 ?_
  refine z_iconst F_ dX0_sailing_7 ?_
  refine z_isub F_ dX0_sailing_8 ?_
  refine z_ldc (z := 65536) F_ (F_.2.2.2.2 _ (List.mem_of_getElem? (i := 2) rfl)) rfl dX0_sailing_9 ?_
  refine z_idiv F_ (by omega) dX0_sailing_11 ?_
  exact hret _ _ _ _ (((fo + 65536) - 1) / 65536) () dX0_sailing_12 (by first | omega | assumption) W_
abbrev rX0_placeOf : Room := { frames := 1, cells := 0, slots := 0, locals := 20 }
set_option maxHeartbeats 1000000 in
set_option maxRecDepth 100000 in
theorem c_X0_placeOf (l_ : Launch) (D : va_G) (cy : Nat → ClassId) (cr : Nat → Nat) (fo : Int) (wo : Int → Int) (be : Int → Int) (m : Int) (bwo : ∀ j : Int, (-70000) ≤ wo j ∧ wo j ≤ 70000) (bbe : ∀ j : Int, (-300000) ≤ be j ∧ be j ≤ 300000) (rm : -2147483648 ≤ m ∧ m < 2147483648) (hfo : 0 ≤ fo ∧ fo ≤ 200000) (hm : 0 ≤ m ∧ m < 8) : CTi l_ D cy yX0_placeOf wsX0_placeOf rX0_placeOf [.ref (cr 0), .int (zi m)] ([wC cy cr fo wo be]) (fun (z : Int) (u : Unit) => (z = ((((fo + 65536 - 1) / 65536) * 65536 - fo) / zpw (2 * (7 - m))) % 4 - 1)) (fun (_ : Unit) => [wC cy cr fo wo be]) := by
  refine CTi.of RX0 cX0_placeOf 3 rfl (by decide) rfl (fun z u hz => rfl) (Nat.le_of_ble_eq_true rfl) ?_
  intro p_ e_ s_ m_ ar_ be_ me_ c_ Q_ A_ ls_ F_ K_ W_ hl hret
  have hl : lv_has ls_ 3 [(0, .ref (cr 0)), (1, .int (zi m))] := hl
  obtain ⟨H_, hH_⟩ : ∃ x, x = s_.heap := ⟨_, rfl⟩
  obtain ⟨lo_, hlo_⟩ : ∃ x : List Loc, x = [] := ⟨_, rfl⟩
  have W_ : WD D A_ s_.heap ([wC cy cr fo wo be]) H_ lo_ := by rw [hH_, hlo_]; exact W_
  rw [← hlo_]
  suffices hg_ : W p_ l_ e_ rX0_placeOf s_ m_ ar_ be_ me_ c_ H_ lo_ 0 0 Q_ (F0 m_ 0 ls_ []) by rw [hH_] at hg_; exact hg_
  clear hH_ hlo_
  have hinX0 : ∀ w ∈ u_ws RX0 TX0 3, w ∈ wsX0_placeOf := fun w h => List.mem_cons_of_mem _ (List.mem_append_right _ h)
  refine lv_aload_n F_.1 F_.2.1 dX0_placeOf_0 rfl (lv_at hl 0 rfl) ?_
  refine z_callVip F_ K_ W_ [] (c_X0_sailing l_ D cy cr fo wo be bwo bbe (by first | omega | assumption)) 0 rfl gX0_placeOf_X0_sailing rfl (by decide +kernel) ⟨⟨Nat.le_of_ble_eq_true rfl, Nat.le_of_ble_eq_true rfl⟩, rfl, rfl, Nat.zero_le _, Nat.zero_le _⟩ 0 0 0 rfl rfl rfl rfl hl.1 rfl (Nat.le_of_ble_eq_true rfl) [0] ([] : List Nat) ([] : List va_W) 1 (by decide +kernel) rfl rfl rfl dX0_placeOf_1 (fun z_1 _ H_ lo_ hw_ W_ => ?_)
  replace hw_ : (z_1 = (fo + 65536 - 1) / 65536) := hw_
  have f1_v := hw_
  clear hw_
  have f1_v := f1_v.symm
  subst f1_v
  refine z_ldc (z := 65536) F_ (F_.2.2.2.2 _ (List.mem_of_getElem? (i := 1) rfl)) rfl dX0_placeOf_4 ?_
  refine z_imul F_ dX0_placeOf_6 ?_
  refine lv_aload_n F_.1 F_.2.1 dX0_placeOf_7 rfl (lv_at hl 0 rfl) ?_
  refine z_get F_ K_ W_ 0 0 2 rfl rfl rfl (C := RX0) (T := TX0) (N := 3) rfl (by decide) hinX0 (List.mem_of_getElem? (i := 2) rfl) dX0_placeOf_8 ?_
  refine z_isub F_ dX0_placeOf_11 ?_
  refine lv_istore_n (lv' := [(2, .int (zi ((((fo + 65536 - 1) / 65536) * 65536) - fo))), (0, .ref (cr 0)), (1, .int (zi m))]) F_.1 F_.2.1 dX0_placeOf_12 rfl hl (by decide) rfl (fun ls_ hl => ?_)
  refine lv_iload_n F_.1 F_.2.1 dX0_placeOf_13 rfl (lv_at hl 0 rfl) ?_
  refine z_iconst F_ dX0_placeOf_14 ?_
  refine z_bipush F_ (by decide) dX0_placeOf_15 ?_
  refine lv_iload_n F_.1 F_.2.1 dX0_placeOf_17 rfl (lv_at hl 2 rfl) ?_
  refine z_isub F_ dX0_placeOf_18 ?_
  refine z_imul F_ dX0_placeOf_19 ?_
  have hsh := zshr_b (2 * (7 - m)) (x := ((fo + 65536 - 1) / 65536) * 65536 - fo) (by omega)
  refine z_ishr F_ (by omega) dX0_placeOf_20 ?_
  refine z_iconst F_ dX0_placeOf_21 ?_
  refine z_iand F_ (by omega) dX0_placeOf_22 ?_
  obtain ⟨w_2, ew_2, fw_2⟩ : ∃ y_ : Int, y_ = zand (((((fo + 65536 - 1) / 65536) * 65536) - fo) / zpw (2 * (7 - m))) 3 ∧ (y_ = ((((fo + 65536 - 1) / 65536) * 65536 - fo) / zpw (2 * (7 - m))) % 4) := ⟨_, rfl, by exact zand_3 (Int.ediv_nonneg (by omega) (by have := zpw_pos (2 * (7 - m)); omega))⟩
  rw [← ew_2]
  refine z_iconst F_ dX0_placeOf_23 ?_
  refine z_isub F_ dX0_placeOf_24 ?_
  exact hret _ _ _ _ (w_2 - 1) () dX0_placeOf_25 (by omega) W_
