def qf (h : Nat) (u : Nat → Nat) : Nat → Nat := fun j => if j = 0 then h else u j
set_option maxHeartbeats 4000000 in
set_option maxRecDepth 100000 in
theorem c_X2_init (l_ : Launch) (D : va_G) (cy : Nat → ClassId) (h0 : Nat) (mx : Int) (N4 : Nat) (hmx : 0 ≤ mx ∧ mx ≤ 100) (hN4 : (4 * mx).toNat = N4) (hN5 : N4 ≤ 400) : CTn l_ D cy (fun _ => True) yX2_init wsX2_init { frames := 1, cells := 1, slots := N4, locals := 12 } [.ref h0, .int (zi mx)] [[(h0, .inr (2, [.int 0, .null, .int 0]))]] (fun (u : Nat) => [wF cy h0 u N4 mx 0 (fun _ => 0)]) 1 N4 := by
  refine CTn.of RX2 cX2_init 2 rfl rfl (by decide) rfl (Nat.le_of_ble_eq_true rfl) ?_
  intro p_ e_ s_ m_ ar_ be_ me_ c_ Q_ A_ ls_ F_ hnm_ K_ E_ W_ hl hret
  have hl : lv_has ls_ 2 [(0, .ref h0), (1, .int (zi mx))] := hl
  obtain ⟨H_, hH_⟩ : ∃ x, x = s_.heap := ⟨_, rfl⟩
  obtain ⟨lo_, hlo_⟩ : ∃ x : List Loc, x = [] := ⟨_, rfl⟩
  have W_ : WD D A_ s_.heap ([[(h0, .inr (2, [.int 0, .null, .int 0]))]]) H_ lo_ := by rw [hH_, hlo_]; exact W_
  rw [← hlo_]
  suffices hg_ : W p_ l_ e_ _ s_ m_ ar_ be_ me_ c_ H_ lo_ 0 0 Q_ (F0 m_ 0 ls_ []) by rw [hH_] at hg_; exact hg_
  clear hH_ hlo_
  have hinX2 : ∀ w ∈ u_ws RX2 TX2 3, w ∈ wsX2_init := fun w h => List.mem_cons_of_mem _ (List.mem_append_right _ h)
  refine lv_aload_n F_.1 F_.2.1 dX2_init_0 rfl (lv_at hl 0 rfl) ?_
  refine z_obj F_ (List.mem_of_getElem? (i := 1) rfl) (List.mem_of_getElem? (i := 2) rfl) (List.mem_of_getElem? (i := 3) rfl) hl.1 (Nat.le_of_ble_eq_true rfl) (Nat.le_of_ble_eq_true rfl) dX2_init_1 ?_
  refine lv_aload_n F_.1 F_.2.1 dX2_init_4 rfl (lv_at hl 0 rfl) ?_
  refine z_iconst F_ dX2_init_5 ?_
  refine z_put (sg' := [[(h0, .inr (2, [.int 0, .null, .int (zi 0)]))]]) F_ K_ W_ 0 0 2 rfl rfl rfl (C := RX2) (T := TX2) (N := 3) rfl ⟨Nat.le_of_ble_eq_true rfl, Nat.le_of_ble_eq_true rfl⟩ tyX2 tyX2_ok nmX2 rfl rfl rfl hinX2 (List.mem_of_getElem? (i := 4) rfl) dX2_init_6 (fun H_ lo_ W_ => ?_)
  refine lv_aload_n F_.1 F_.2.1 dX2_init_9 rfl (lv_at hl 0 rfl) ?_
  refine lv_iload_n F_.1 F_.2.1 dX2_init_10 rfl (lv_at hl 1 rfl) ?_
  refine z_putF (sg' := [[(h0, .inr (2, [.int (zi mx), .null, .int (zi 0)]))]]) F_ K_ W_ 0 0 0 rfl rfl rfl (C := RX2) (T := TX2) (N := 3) rfl ⟨Nat.le_of_ble_eq_true rfl, Nat.le_of_ble_eq_true rfl⟩ tyX2 tyX2_ok nmX2 rfl hnm_ rfl rfl rfl hinX2 (List.mem_of_getElem? (i := 5) rfl) dX2_init_11 (fun H_ lo_ W_ => ?_)
  refine lv_aload_n F_.1 F_.2.1 dX2_init_14 rfl (lv_at hl 0 rfl) ?_
  refine z_iconst F_ dX2_init_15 ?_
  refine lv_iload_n F_.1 F_.2.1 dX2_init_16 rfl (lv_at hl 1 rfl) ?_
  refine z_imul F_ dX2_init_17 ?_
  refine z_newg (N := N4) F_ K_ W_ .int rfl (List.mem_of_getElem? (i := 6) rfl) 0 rfl (fun _ h => h) rfl (by decide) (by omega) (by omega) ⟨Nat.le_of_ble_eq_true rfl, by rw [Nat.zero_add]; exact Nat.le_refl _⟩ dX2_init_18 (fun q_1 H_ W_ => ?_)
  have W_ : WD D A_ s_.heap ([[(h0, .inr (2, [.int (zi mx), .null, .int (zi 0)]))], [(q_1, .inl (cy 0, N4, .inl (zA (fun _ => 0))))]]) H_ lo_ := W_
  refine z_putF (sg' := [[(h0, .inr (2, [.int (zi mx), .ref q_1, .int (zi 0)]))], [(q_1, .inl (cy 0, N4, .inl (zA (fun _ => 0))))]]) F_ K_ W_ 0 0 1 rfl rfl rfl (C := RX2) (T := TX2) (N := 3) rfl ⟨Nat.le_of_ble_eq_true rfl, Nat.le_of_ble_eq_true rfl⟩ tyX2 tyX2_ok nmX2 rfl hnm_ rfl rfl rfl hinX2 (List.mem_of_getElem? (i := 7) rfl) dX2_init_20 (fun H_ lo_ W_ => ?_)
  refine W.widen (k := 1) (n := N4) (by omega) (by omega) ?_
  exact hret _ _ _ _ q_1 dX2_init_23 W_
set_option maxHeartbeats 4000000 in
set_option maxRecDepth 100000 in
theorem c_X4_init (l_ : Launch) (D : va_G) (cy : Nat → ClassId) (h0 : Nat)  : CTn l_ D cy (fun _ => True) yX4_init wsX4_init { frames := 2, cells := 13, slots := 142, locals := 33 } [.ref h0] [[(h0, .inr (4, [.int 0, .int 0, .null, .null, .null, .null, .null, .null, .null, .null, .null]))]] (fun (u : Nat → Nat) => [wI cy (qf h0 u) 0 0 (fun _ => 0) (fun _ => 0) (fun _ => 0) (fun _ => 0) (fun _ => 0), wF cy ((qf h0 u) 6) ((qf h0 u) 7) 20 5 0 (fun _ => 0), wF cy ((qf h0 u) 8) ((qf h0 u) 9) 24 6 0 (fun _ => 0), wF cy ((qf h0 u) 10) ((qf h0 u) 11) 24 6 0 (fun _ => 0), wF cy ((qf h0 u) 12) ((qf h0 u) 13) 32 8 0 (fun _ => 0)]) 13 142 := by
  refine CTn.of RX4 cX4_init 1 rfl rfl (by decide) rfl (Nat.le_of_ble_eq_true rfl) ?_
  intro p_ e_ s_ m_ ar_ be_ me_ c_ Q_ A_ ls_ F_ hnm_ K_ E_ W_ hl hret
  have hl : lv_has ls_ 1 [(0, .ref h0)] := hl
  obtain ⟨H_, hH_⟩ : ∃ x, x = s_.heap := ⟨_, rfl⟩
  obtain ⟨lo_, hlo_⟩ : ∃ x : List Loc, x = [] := ⟨_, rfl⟩
  have W_ : WD D A_ s_.heap ([[(h0, .inr (4, [.int 0, .int 0, .null, .null, .null, .null, .null, .null, .null, .null, .null]))]]) H_ lo_ := by rw [hH_, hlo_]; exact W_
  rw [← hlo_]
  suffices hg_ : W p_ l_ e_ _ s_ m_ ar_ be_ me_ c_ H_ lo_ 0 0 Q_ (F0 m_ 0 ls_ []) by rw [hH_] at hg_; exact hg_
  clear hH_ hlo_
  have hinX2 : ∀ w ∈ u_ws RX2 TX2 3, w ∈ wsX4_init := fun w h => List.mem_cons_of_mem _ (List.mem_append_right _ h)
  have hinX4 : ∀ w ∈ u_ws RX4 TX4 11, w ∈ wsX4_init := fun w h => List.mem_cons_of_mem _ (List.mem_append_left _ (List.mem_append_right _ h))
  refine lv_aload_n F_.1 F_.2.1 dX4_init_0 rfl (lv_at hl 0 rfl) ?_
  refine z_obj F_ (List.mem_of_getElem? (i := 1) rfl) (List.mem_of_getElem? (i := 2) rfl) (List.mem_of_getElem? (i := 3) rfl) hl.1 (Nat.le_of_ble_eq_true rfl) (Nat.le_of_ble_eq_true rfl) dX4_init_1 ?_
  refine lv_aload_n F_.1 F_.2.1 dX4_init_4 rfl (lv_at hl 0 rfl) ?_
  refine z_iconst F_ dX4_init_5 ?_
  refine z_put (sg' := [[(h0, .inr (4, [.int (zi 0), .int 0, .null, .null, .null, .null, .null, .null, .null, .null, .null]))]]) F_ K_ W_ 0 0 0 rfl rfl rfl (C := RX4) (T := TX4) (N := 11) rfl ⟨Nat.le_of_ble_eq_true rfl, Nat.le_of_ble_eq_true rfl⟩ tyX4 tyX4_ok nmX4 rfl rfl rfl hinX4 (List.mem_of_getElem? (i := 4) rfl) dX4_init_6 (fun H_ lo_ W_ => ?_)
  refine lv_aload_n F_.1 F_.2.1 dX4_init_9 rfl (lv_at hl 0 rfl) ?_
  refine z_iconst F_ dX4_init_10 ?_
  refine z_put (sg' := [[(h0, .inr (4, [.int (zi 0), .int (zi 0), .null, .null, .null, .null, .null, .null, .null, .null, .null]))]]) F_ K_ W_ 0 0 1 rfl rfl rfl (C := RX4) (T := TX4) (N := 11) rfl ⟨Nat.le_of_ble_eq_true rfl, Nat.le_of_ble_eq_true rfl⟩ tyX4 tyX4_ok nmX4 rfl rfl rfl hinX4 (List.mem_of_getElem? (i := 5) rfl) dX4_init_11 (fun H_ lo_ W_ => ?_)
  refine lv_aload_n F_.1 F_.2.1 dX4_init_14 rfl (lv_at hl 0 rfl) ?_
  refine z_iconst F_ dX4_init_15 ?_
  refine z_newg (N := 3) F_ K_ W_ .int rfl (List.mem_of_getElem? (i := 6) rfl) 0 rfl (fun _ h => h) rfl (by decide) (by omega) rfl ⟨Nat.le_of_ble_eq_true rfl, Nat.le_of_ble_eq_true rfl⟩ dX4_init_16 (fun q_1 H_ W_ => ?_)
  have W_ : WD D A_ s_.heap ([[(h0, .inr (4, [.int (zi 0), .int (zi 0), .null, .null, .null, .null, .null, .null, .null, .null, .null]))], [(q_1, .inl (cy 0, 3, .inl (zA (fun _ => 0))))]]) H_ lo_ := W_
  refine z_putF (sg' := [[(h0, .inr (4, [.int (zi 0), .int (zi 0), .ref q_1, .null, .null, .null, .null, .null, .null, .null, .null]))], [(q_1, .inl (cy 0, 3, .inl (zA (fun _ => 0))))]]) F_ K_ W_ 0 0 2 rfl rfl rfl (C := RX4) (T := TX4) (N := 11) rfl ⟨Nat.le_of_ble_eq_true rfl, Nat.le_of_ble_eq_true rfl⟩ tyX4 tyX4_ok nmX4 rfl hnm_ rfl rfl rfl hinX4 (List.mem_of_getElem? (i := 7) rfl) dX4_init_18 (fun H_ lo_ W_ => ?_)
  refine lv_aload_n F_.1 F_.2.1 dX4_init_21 rfl (lv_at hl 0 rfl) ?_
  refine z_iconst F_ dX4_init_22 ?_
  refine z_newg (N := 3) F_ K_ W_ .int rfl (List.mem_of_getElem? (i := 6) rfl) 0 rfl (fun _ h => h) rfl (by decide) (by omega) rfl ⟨Nat.le_of_ble_eq_true rfl, Nat.le_of_ble_eq_true rfl⟩ dX4_init_23 (fun q_2 H_ W_ => ?_)
  have W_ : WD D A_ s_.heap ([[(h0, .inr (4, [.int (zi 0), .int (zi 0), .ref q_1, .null, .null, .null, .null, .null, .null, .null, .null]))], [(q_1, .inl (cy 0, 3, .inl (zA (fun _ => 0))))], [(q_2, .inl (cy 0, 3, .inl (zA (fun _ => 0))))]]) H_ lo_ := W_
  refine z_putF (sg' := [[(h0, .inr (4, [.int (zi 0), .int (zi 0), .ref q_1, .ref q_2, .null, .null, .null, .null, .null, .null, .null]))], [(q_1, .inl (cy 0, 3, .inl (zA (fun _ => 0))))], [(q_2, .inl (cy 0, 3, .inl (zA (fun _ => 0))))]]) F_ K_ W_ 0 0 3 rfl rfl rfl (C := RX4) (T := TX4) (N := 11) rfl ⟨Nat.le_of_ble_eq_true rfl, Nat.le_of_ble_eq_true rfl⟩ tyX4 tyX4_ok nmX4 rfl hnm_ rfl rfl rfl hinX4 (List.mem_of_getElem? (i := 8) rfl) dX4_init_25 (fun H_ lo_ W_ => ?_)
  refine lv_aload_n F_.1 F_.2.1 dX4_init_28 rfl (lv_at hl 0 rfl) ?_
  refine z_bipush F_ (by decide) dX4_init_29 ?_
  refine z_newg (N := 8) F_ K_ W_ .int rfl (List.mem_of_getElem? (i := 6) rfl) 0 rfl (fun _ h => h) rfl (by decide) (by omega) rfl ⟨Nat.le_of_ble_eq_true rfl, Nat.le_of_ble_eq_true rfl⟩ dX4_init_31 (fun q_3 H_ W_ => ?_)
  have W_ : WD D A_ s_.heap ([[(h0, .inr (4, [.int (zi 0), .int (zi 0), .ref q_1, .ref q_2, .null, .null, .null, .null, .null, .null, .null]))], [(q_1, .inl (cy 0, 3, .inl (zA (fun _ => 0))))], [(q_2, .inl (cy 0, 3, .inl (zA (fun _ => 0))))], [(q_3, .inl (cy 0, 8, .inl (zA (fun _ => 0))))]]) H_ lo_ := W_
  refine z_putF (sg' := [[(h0, .inr (4, [.int (zi 0), .int (zi 0), .ref q_1, .ref q_2, .ref q_3, .null, .null, .null, .null, .null, .null]))], [(q_1, .inl (cy 0, 3, .inl (zA (fun _ => 0))))], [(q_2, .inl (cy 0, 3, .inl (zA (fun _ => 0))))], [(q_3, .inl (cy 0, 8, .inl (zA (fun _ => 0))))]]) F_ K_ W_ 0 0 4 rfl rfl rfl (C := RX4) (T := TX4) (N := 11) rfl ⟨Nat.le_of_ble_eq_true rfl, Nat.le_of_ble_eq_true rfl⟩ tyX4 tyX4_ok nmX4 rfl hnm_ rfl rfl rfl hinX4 (List.mem_of_getElem? (i := 9) rfl) dX4_init_33 (fun H_ lo_ W_ => ?_)
  refine lv_aload_n F_.1 F_.2.1 dX4_init_36 rfl (lv_at hl 0 rfl) ?_
  refine z_bipush F_ (by decide) dX4_init_37 ?_
  refine z_newg (N := 8) F_ K_ W_ .int rfl (List.mem_of_getElem? (i := 6) rfl) 0 rfl (fun _ h => h) rfl (by decide) (by omega) rfl ⟨Nat.le_of_ble_eq_true rfl, Nat.le_of_ble_eq_true rfl⟩ dX4_init_39 (fun q_4 H_ W_ => ?_)
  have W_ : WD D A_ s_.heap ([[(h0, .inr (4, [.int (zi 0), .int (zi 0), .ref q_1, .ref q_2, .ref q_3, .null, .null, .null, .null, .null, .null]))], [(q_1, .inl (cy 0, 3, .inl (zA (fun _ => 0))))], [(q_2, .inl (cy 0, 3, .inl (zA (fun _ => 0))))], [(q_3, .inl (cy 0, 8, .inl (zA (fun _ => 0))))], [(q_4, .inl (cy 0, 8, .inl (zA (fun _ => 0))))]]) H_ lo_ := W_
  refine z_putF (sg' := [[(h0, .inr (4, [.int (zi 0), .int (zi 0), .ref q_1, .ref q_2, .ref q_3, .ref q_4, .null, .null, .null, .null, .null]))], [(q_1, .inl (cy 0, 3, .inl (zA (fun _ => 0))))], [(q_2, .inl (cy 0, 3, .inl (zA (fun _ => 0))))], [(q_3, .inl (cy 0, 8, .inl (zA (fun _ => 0))))], [(q_4, .inl (cy 0, 8, .inl (zA (fun _ => 0))))]]) F_ K_ W_ 0 0 5 rfl rfl rfl (C := RX4) (T := TX4) (N := 11) rfl ⟨Nat.le_of_ble_eq_true rfl, Nat.le_of_ble_eq_true rfl⟩ tyX4 tyX4_ok nmX4 rfl hnm_ rfl rfl rfl hinX4 (List.mem_of_getElem? (i := 10) rfl) dX4_init_41 (fun H_ lo_ W_ => ?_)
  refine lv_aload_n F_.1 F_.2.1 dX4_init_44 rfl (lv_at hl 0 rfl) ?_
  refine z_bipush F_ (by decide) dX4_init_45 ?_
  refine z_newg (N := 8) F_ K_ W_ .int rfl (List.mem_of_getElem? (i := 6) rfl) 0 rfl (fun _ h => h) rfl (by decide) (by omega) rfl ⟨Nat.le_of_ble_eq_true rfl, Nat.le_of_ble_eq_true rfl⟩ dX4_init_47 (fun q_5 H_ W_ => ?_)
  have W_ : WD D A_ s_.heap ([[(h0, .inr (4, [.int (zi 0), .int (zi 0), .ref q_1, .ref q_2, .ref q_3, .ref q_4, .null, .null, .null, .null, .null]))], [(q_1, .inl (cy 0, 3, .inl (zA (fun _ => 0))))], [(q_2, .inl (cy 0, 3, .inl (zA (fun _ => 0))))], [(q_3, .inl (cy 0, 8, .inl (zA (fun _ => 0))))], [(q_4, .inl (cy 0, 8, .inl (zA (fun _ => 0))))], [(q_5, .inl (cy 0, 8, .inl (zA (fun _ => 0))))]]) H_ lo_ := W_
  refine z_putF (sg' := [[(h0, .inr (4, [.int (zi 0), .int (zi 0), .ref q_1, .ref q_2, .ref q_3, .ref q_4, .ref q_5, .null, .null, .null, .null]))], [(q_1, .inl (cy 0, 3, .inl (zA (fun _ => 0))))], [(q_2, .inl (cy 0, 3, .inl (zA (fun _ => 0))))], [(q_3, .inl (cy 0, 8, .inl (zA (fun _ => 0))))], [(q_4, .inl (cy 0, 8, .inl (zA (fun _ => 0))))], [(q_5, .inl (cy 0, 8, .inl (zA (fun _ => 0))))]]) F_ K_ W_ 0 0 6 rfl rfl rfl (C := RX4) (T := TX4) (N := 11) rfl ⟨Nat.le_of_ble_eq_true rfl, Nat.le_of_ble_eq_true rfl⟩ tyX4 tyX4_ok nmX4 rfl hnm_ rfl rfl rfl hinX4 (List.mem_of_getElem? (i := 11) rfl) dX4_init_49 (fun H_ lo_ W_ => ?_)
  refine lv_aload_n F_.1 F_.2.1 dX4_init_52 rfl (lv_at hl 0 rfl) ?_
  refine z_new (ci := 2) (fs := [.int 0, .null, .int 0]) (C := RX2) (T := TX2) (N := 3) F_ K_ W_ tyX2 tyX2_ok hinX2 (List.mem_of_getElem? (i := 12) rfl) (List.mem_of_getElem? (i := 13) rfl) (List.mem_of_getElem? (i := 14) rfl) rfl (fun j hj => by rcases (show j = 0 ∨ j = 1 ∨ j = 2 by omega) with rfl | rfl | rfl <;> rfl) ⟨Nat.le_of_ble_eq_true rfl, Nat.le_of_ble_eq_true rfl⟩ dX4_init_53 (fun q_6 H_ W_ => ?_)
  have W_ : WD D A_ s_.heap ([[(h0, .inr (4, [.int (zi 0), .int (zi 0), .ref q_1, .ref q_2, .ref q_3, .ref q_4, .ref q_5, .null, .null, .null, .null]))], [(q_1, .inl (cy 0, 3, .inl (zA (fun _ => 0))))], [(q_2, .inl (cy 0, 3, .inl (zA (fun _ => 0))))], [(q_3, .inl (cy 0, 8, .inl (zA (fun _ => 0))))], [(q_4, .inl (cy 0, 8, .inl (zA (fun _ => 0))))], [(q_5, .inl (cy 0, 8, .inl (zA (fun _ => 0))))], [(q_6, .inr (2, [.int 0, .null, .int 0]))]]) H_ lo_ := W_
  refine lv_dup F_.1 F_.2.1 dX4_init_56 rfl ?_
  refine z_iconst F_ dX4_init_57 ?_
  refine z_callIn (C := RX2) F_ K_ W_ [.int (zi 5)] (fun _ _ _ _ => trivial) (fun _ _ _ => trivial) trivial (c_X2_init l_ D cy q_6 5 20 (by omega) rfl (by omega)) 1 rfl gX4_init_X2_init rfl (List.mem_of_getElem? (i := 14) rfl) rfl (List.mem_of_getElem? (i := 19) rfl) (List.mem_of_getElem? (i := 20) rfl) rfl (by decide +kernel) ⟨⟨Nat.le_of_ble_eq_true rfl, Nat.le_of_ble_eq_true rfl⟩, rfl, rfl, Nat.le_of_ble_eq_true rfl, Nat.le_of_ble_eq_true rfl⟩ hl.1 rfl (Nat.le_of_ble_eq_true rfl) [6] [0, 1, 2, 3, 4, 5] [[(h0, .inr (4, [.int (zi 0), .int (zi 0), .ref q_1, .ref q_2, .ref q_3, .ref q_4, .ref q_5, .null, .null, .null, .null]))], [(q_1, .inl (cy 0, 3, .inl (zA (fun _ => 0))))], [(q_2, .inl (cy 0, 3, .inl (zA (fun _ => 0))))], [(q_3, .inl (cy 0, 8, .inl (zA (fun _ => 0))))], [(q_4, .inl (cy 0, 8, .inl (zA (fun _ => 0))))], [(q_5, .inl (cy 0, 8, .inl (zA (fun _ => 0))))]] (fun (u_7 : Nat) => [[(h0, .inr (4, [.int (zi 0), .int (zi 0), .ref q_1, .ref q_2, .ref q_3, .ref q_4, .ref q_5, .null, .null, .null, .null]))], [(q_1, .inl (cy 0, 3, .inl (zA (fun _ => 0))))], [(q_2, .inl (cy 0, 3, .inl (zA (fun _ => 0))))], [(q_3, .inl (cy 0, 8, .inl (zA (fun _ => 0))))], [(q_4, .inl (cy 0, 8, .inl (zA (fun _ => 0))))], [(q_5, .inl (cy 0, 8, .inl (zA (fun _ => 0))))], wF cy q_6 u_7 20 5 0 (fun _ => 0)]) (fun _ => 7) (fun _ => [6]) (fun _ => [0, 1, 2, 3, 4, 5]) 7 (by decide) rfl rfl rfl (fun _ => by decide) (fun _ => rfl) (fun _ => rfl) (fun _ => rfl) dX4_init_58 (fun u_7 H_ lo_ W_ => ?_)
  have W_ : WD D A_ s_.heap ([[(h0, .inr (4, [.int (zi 0), .int (zi 0), .ref q_1, .ref q_2, .ref q_3, .ref q_4, .ref q_5, .null, .null, .null, .null]))], [(q_1, .inl (cy 0, 3, .inl (zA (fun _ => 0))))], [(q_2, .inl (cy 0, 3, .inl (zA (fun _ => 0))))], [(q_3, .inl (cy 0, 8, .inl (zA (fun _ => 0))))], [(q_4, .inl (cy 0, 8, .inl (zA (fun _ => 0))))], [(q_5, .inl (cy 0, 8, .inl (zA (fun _ => 0))))], wF cy q_6 u_7 20 5 0 (fun _ => 0)]) H_ lo_ := W_
  refine z_putF (sg' := [[(h0, .inr (4, [.int (zi 0), .int (zi 0), .ref q_1, .ref q_2, .ref q_3, .ref q_4, .ref q_5, .ref q_6, .null, .null, .null]))], [(q_1, .inl (cy 0, 3, .inl (zA (fun _ => 0))))], [(q_2, .inl (cy 0, 3, .inl (zA (fun _ => 0))))], [(q_3, .inl (cy 0, 8, .inl (zA (fun _ => 0))))], [(q_4, .inl (cy 0, 8, .inl (zA (fun _ => 0))))], [(q_5, .inl (cy 0, 8, .inl (zA (fun _ => 0))))], wF cy q_6 u_7 20 5 0 (fun _ => 0)]) F_ K_ W_ 0 0 7 rfl rfl rfl (C := RX4) (T := TX4) (N := 11) rfl ⟨Nat.le_of_ble_eq_true rfl, Nat.le_of_ble_eq_true rfl⟩ tyX4 tyX4_ok nmX4 rfl hnm_ rfl rfl rfl hinX4 (List.mem_of_getElem? (i := 15) rfl) dX4_init_61 (fun H_ lo_ W_ => ?_)
  refine lv_aload_n F_.1 F_.2.1 dX4_init_64 rfl (lv_at hl 0 rfl) ?_
  refine z_new (ci := 2) (fs := [.int 0, .null, .int 0]) (C := RX2) (T := TX2) (N := 3) F_ K_ W_ tyX2 tyX2_ok hinX2 (List.mem_of_getElem? (i := 12) rfl) (List.mem_of_getElem? (i := 13) rfl) (List.mem_of_getElem? (i := 14) rfl) rfl (fun j hj => by rcases (show j = 0 ∨ j = 1 ∨ j = 2 by omega) with rfl | rfl | rfl <;> rfl) ⟨Nat.le_of_ble_eq_true rfl, Nat.le_of_ble_eq_true rfl⟩ dX4_init_65 (fun q_8 H_ W_ => ?_)
  have W_ : WD D A_ s_.heap ([[(h0, .inr (4, [.int (zi 0), .int (zi 0), .ref q_1, .ref q_2, .ref q_3, .ref q_4, .ref q_5, .ref q_6, .null, .null, .null]))], [(q_1, .inl (cy 0, 3, .inl (zA (fun _ => 0))))], [(q_2, .inl (cy 0, 3, .inl (zA (fun _ => 0))))], [(q_3, .inl (cy 0, 8, .inl (zA (fun _ => 0))))], [(q_4, .inl (cy 0, 8, .inl (zA (fun _ => 0))))], [(q_5, .inl (cy 0, 8, .inl (zA (fun _ => 0))))], wF cy q_6 u_7 20 5 0 (fun _ => 0), [(q_8, .inr (2, [.int 0, .null, .int 0]))]]) H_ lo_ := W_
  refine lv_dup F_.1 F_.2.1 dX4_init_68 rfl ?_
  refine z_bipush F_ (by decide) dX4_init_69 ?_
  refine z_callIn (C := RX2) F_ K_ W_ [.int (zi 6)] (fun _ _ _ _ => trivial) (fun _ _ _ => trivial) trivial (c_X2_init l_ D cy q_8 6 24 (by omega) rfl (by omega)) 1 rfl gX4_init_X2_init rfl (List.mem_of_getElem? (i := 14) rfl) rfl (List.mem_of_getElem? (i := 19) rfl) (List.mem_of_getElem? (i := 20) rfl) rfl (by decide +kernel) ⟨⟨Nat.le_of_ble_eq_true rfl, Nat.le_of_ble_eq_true rfl⟩, rfl, rfl, Nat.le_of_ble_eq_true rfl, Nat.le_of_ble_eq_true rfl⟩ hl.1 rfl (Nat.le_of_ble_eq_true rfl) [7] [0, 1, 2, 3, 4, 5, 6] [[(h0, .inr (4, [.int (zi 0), .int (zi 0), .ref q_1, .ref q_2, .ref q_3, .ref q_4, .ref q_5, .ref q_6, .null, .null, .null]))], [(q_1, .inl (cy 0, 3, .inl (zA (fun _ => 0))))], [(q_2, .inl (cy 0, 3, .inl (zA (fun _ => 0))))], [(q_3, .inl (cy 0, 8, .inl (zA (fun _ => 0))))], [(q_4, .inl (cy 0, 8, .inl (zA (fun _ => 0))))], [(q_5, .inl (cy 0, 8, .inl (zA (fun _ => 0))))], wF cy q_6 u_7 20 5 0 (fun _ => 0)] (fun (u_9 : Nat) => [[(h0, .inr (4, [.int (zi 0), .int (zi 0), .ref q_1, .ref q_2, .ref q_3, .ref q_4, .ref q_5, .ref q_6, .null, .null, .null]))], [(q_1, .inl (cy 0, 3, .inl (zA (fun _ => 0))))], [(q_2, .inl (cy 0, 3, .inl (zA (fun _ => 0))))], [(q_3, .inl (cy 0, 8, .inl (zA (fun _ => 0))))], [(q_4, .inl (cy 0, 8, .inl (zA (fun _ => 0))))], [(q_5, .inl (cy 0, 8, .inl (zA (fun _ => 0))))], wF cy q_6 u_7 20 5 0 (fun _ => 0), wF cy q_8 u_9 24 6 0 (fun _ => 0)]) (fun _ => 8) (fun _ => [7]) (fun _ => [0, 1, 2, 3, 4, 5, 6]) 8 (by decide) rfl rfl rfl (fun _ => by decide) (fun _ => rfl) (fun _ => rfl) (fun _ => rfl) dX4_init_71 (fun u_9 H_ lo_ W_ => ?_)
  have W_ : WD D A_ s_.heap ([[(h0, .inr (4, [.int (zi 0), .int (zi 0), .ref q_1, .ref q_2, .ref q_3, .ref q_4, .ref q_5, .ref q_6, .null, .null, .null]))], [(q_1, .inl (cy 0, 3, .inl (zA (fun _ => 0))))], [(q_2, .inl (cy 0, 3, .inl (zA (fun _ => 0))))], [(q_3, .inl (cy 0, 8, .inl (zA (fun _ => 0))))], [(q_4, .inl (cy 0, 8, .inl (zA (fun _ => 0))))], [(q_5, .inl (cy 0, 8, .inl (zA (fun _ => 0))))], wF cy q_6 u_7 20 5 0 (fun _ => 0), wF cy q_8 u_9 24 6 0 (fun _ => 0)]) H_ lo_ := W_
  refine z_putF (sg' := [[(h0, .inr (4, [.int (zi 0), .int (zi 0), .ref q_1, .ref q_2, .ref q_3, .ref q_4, .ref q_5, .ref q_6, .ref q_8, .null, .null]))], [(q_1, .inl (cy 0, 3, .inl (zA (fun _ => 0))))], [(q_2, .inl (cy 0, 3, .inl (zA (fun _ => 0))))], [(q_3, .inl (cy 0, 8, .inl (zA (fun _ => 0))))], [(q_4, .inl (cy 0, 8, .inl (zA (fun _ => 0))))], [(q_5, .inl (cy 0, 8, .inl (zA (fun _ => 0))))], wF cy q_6 u_7 20 5 0 (fun _ => 0), wF cy q_8 u_9 24 6 0 (fun _ => 0)]) F_ K_ W_ 0 0 8 rfl rfl rfl (C := RX4) (T := TX4) (N := 11) rfl ⟨Nat.le_of_ble_eq_true rfl, Nat.le_of_ble_eq_true rfl⟩ tyX4 tyX4_ok nmX4 rfl hnm_ rfl rfl rfl hinX4 (List.mem_of_getElem? (i := 16) rfl) dX4_init_74 (fun H_ lo_ W_ => ?_)
  refine lv_aload_n F_.1 F_.2.1 dX4_init_77 rfl (lv_at hl 0 rfl) ?_
  refine z_new (ci := 2) (fs := [.int 0, .null, .int 0]) (C := RX2) (T := TX2) (N := 3) F_ K_ W_ tyX2 tyX2_ok hinX2 (List.mem_of_getElem? (i := 12) rfl) (List.mem_of_getElem? (i := 13) rfl) (List.mem_of_getElem? (i := 14) rfl) rfl (fun j hj => by rcases (show j = 0 ∨ j = 1 ∨ j = 2 by omega) with rfl | rfl | rfl <;> rfl) ⟨Nat.le_of_ble_eq_true rfl, Nat.le_of_ble_eq_true rfl⟩ dX4_init_78 (fun q_10 H_ W_ => ?_)
  have W_ : WD D A_ s_.heap ([[(h0, .inr (4, [.int (zi 0), .int (zi 0), .ref q_1, .ref q_2, .ref q_3, .ref q_4, .ref q_5, .ref q_6, .ref q_8, .null, .null]))], [(q_1, .inl (cy 0, 3, .inl (zA (fun _ => 0))))], [(q_2, .inl (cy 0, 3, .inl (zA (fun _ => 0))))], [(q_3, .inl (cy 0, 8, .inl (zA (fun _ => 0))))], [(q_4, .inl (cy 0, 8, .inl (zA (fun _ => 0))))], [(q_5, .inl (cy 0, 8, .inl (zA (fun _ => 0))))], wF cy q_6 u_7 20 5 0 (fun _ => 0), wF cy q_8 u_9 24 6 0 (fun _ => 0), [(q_10, .inr (2, [.int 0, .null, .int 0]))]]) H_ lo_ := W_
  refine lv_dup F_.1 F_.2.1 dX4_init_81 rfl ?_
  refine z_bipush F_ (by decide) dX4_init_82 ?_
  refine z_callIn (C := RX2) F_ K_ W_ [.int (zi 6)] (fun _ _ _ _ => trivial) (fun _ _ _ => trivial) trivial (c_X2_init l_ D cy q_10 6 24 (by omega) rfl (by omega)) 1 rfl gX4_init_X2_init rfl (List.mem_of_getElem? (i := 14) rfl) rfl (List.mem_of_getElem? (i := 19) rfl) (List.mem_of_getElem? (i := 20) rfl) rfl (by decide +kernel) ⟨⟨Nat.le_of_ble_eq_true rfl, Nat.le_of_ble_eq_true rfl⟩, rfl, rfl, Nat.le_of_ble_eq_true rfl, Nat.le_of_ble_eq_true rfl⟩ hl.1 rfl (Nat.le_of_ble_eq_true rfl) [8] [0, 1, 2, 3, 4, 5, 6, 7] [[(h0, .inr (4, [.int (zi 0), .int (zi 0), .ref q_1, .ref q_2, .ref q_3, .ref q_4, .ref q_5, .ref q_6, .ref q_8, .null, .null]))], [(q_1, .inl (cy 0, 3, .inl (zA (fun _ => 0))))], [(q_2, .inl (cy 0, 3, .inl (zA (fun _ => 0))))], [(q_3, .inl (cy 0, 8, .inl (zA (fun _ => 0))))], [(q_4, .inl (cy 0, 8, .inl (zA (fun _ => 0))))], [(q_5, .inl (cy 0, 8, .inl (zA (fun _ => 0))))], wF cy q_6 u_7 20 5 0 (fun _ => 0), wF cy q_8 u_9 24 6 0 (fun _ => 0)] (fun (u_11 : Nat) => [[(h0, .inr (4, [.int (zi 0), .int (zi 0), .ref q_1, .ref q_2, .ref q_3, .ref q_4, .ref q_5, .ref q_6, .ref q_8, .null, .null]))], [(q_1, .inl (cy 0, 3, .inl (zA (fun _ => 0))))], [(q_2, .inl (cy 0, 3, .inl (zA (fun _ => 0))))], [(q_3, .inl (cy 0, 8, .inl (zA (fun _ => 0))))], [(q_4, .inl (cy 0, 8, .inl (zA (fun _ => 0))))], [(q_5, .inl (cy 0, 8, .inl (zA (fun _ => 0))))], wF cy q_6 u_7 20 5 0 (fun _ => 0), wF cy q_8 u_9 24 6 0 (fun _ => 0), wF cy q_10 u_11 24 6 0 (fun _ => 0)]) (fun _ => 9) (fun _ => [8]) (fun _ => [0, 1, 2, 3, 4, 5, 6, 7]) 9 (by decide) rfl rfl rfl (fun _ => by decide) (fun _ => rfl) (fun _ => rfl) (fun _ => rfl) dX4_init_84 (fun u_11 H_ lo_ W_ => ?_)
  have W_ : WD D A_ s_.heap ([[(h0, .inr (4, [.int (zi 0), .int (zi 0), .ref q_1, .ref q_2, .ref q_3, .ref q_4, .ref q_5, .ref q_6, .ref q_8, .null, .null]))], [(q_1, .inl (cy 0, 3, .inl (zA (fun _ => 0))))], [(q_2, .inl (cy 0, 3, .inl (zA (fun _ => 0))))], [(q_3, .inl (cy 0, 8, .inl (zA (fun _ => 0))))], [(q_4, .inl (cy 0, 8, .inl (zA (fun _ => 0))))], [(q_5, .inl (cy 0, 8, .inl (zA (fun _ => 0))))], wF cy q_6 u_7 20 5 0 (fun _ => 0), wF cy q_8 u_9 24 6 0 (fun _ => 0), wF cy q_10 u_11 24 6 0 (fun _ => 0)]) H_ lo_ := W_
  refine z_putF (sg' := [[(h0, .inr (4, [.int (zi 0), .int (zi 0), .ref q_1, .ref q_2, .ref q_3, .ref q_4, .ref q_5, .ref q_6, .ref q_8, .ref q_10, .null]))], [(q_1, .inl (cy 0, 3, .inl (zA (fun _ => 0))))], [(q_2, .inl (cy 0, 3, .inl (zA (fun _ => 0))))], [(q_3, .inl (cy 0, 8, .inl (zA (fun _ => 0))))], [(q_4, .inl (cy 0, 8, .inl (zA (fun _ => 0))))], [(q_5, .inl (cy 0, 8, .inl (zA (fun _ => 0))))], wF cy q_6 u_7 20 5 0 (fun _ => 0), wF cy q_8 u_9 24 6 0 (fun _ => 0), wF cy q_10 u_11 24 6 0 (fun _ => 0)]) F_ K_ W_ 0 0 9 rfl rfl rfl (C := RX4) (T := TX4) (N := 11) rfl ⟨Nat.le_of_ble_eq_true rfl, Nat.le_of_ble_eq_true rfl⟩ tyX4 tyX4_ok nmX4 rfl hnm_ rfl rfl rfl hinX4 (List.mem_of_getElem? (i := 17) rfl) dX4_init_87 (fun H_ lo_ W_ => ?_)
  refine lv_aload_n F_.1 F_.2.1 dX4_init_90 rfl (lv_at hl 0 rfl) ?_
  refine z_new (ci := 2) (fs := [.int 0, .null, .int 0]) (C := RX2) (T := TX2) (N := 3) F_ K_ W_ tyX2 tyX2_ok hinX2 (List.mem_of_getElem? (i := 12) rfl) (List.mem_of_getElem? (i := 13) rfl) (List.mem_of_getElem? (i := 14) rfl) rfl (fun j hj => by rcases (show j = 0 ∨ j = 1 ∨ j = 2 by omega) with rfl | rfl | rfl <;> rfl) ⟨Nat.le_of_ble_eq_true rfl, Nat.le_of_ble_eq_true rfl⟩ dX4_init_91 (fun q_12 H_ W_ => ?_)
  have W_ : WD D A_ s_.heap ([[(h0, .inr (4, [.int (zi 0), .int (zi 0), .ref q_1, .ref q_2, .ref q_3, .ref q_4, .ref q_5, .ref q_6, .ref q_8, .ref q_10, .null]))], [(q_1, .inl (cy 0, 3, .inl (zA (fun _ => 0))))], [(q_2, .inl (cy 0, 3, .inl (zA (fun _ => 0))))], [(q_3, .inl (cy 0, 8, .inl (zA (fun _ => 0))))], [(q_4, .inl (cy 0, 8, .inl (zA (fun _ => 0))))], [(q_5, .inl (cy 0, 8, .inl (zA (fun _ => 0))))], wF cy q_6 u_7 20 5 0 (fun _ => 0), wF cy q_8 u_9 24 6 0 (fun _ => 0), wF cy q_10 u_11 24 6 0 (fun _ => 0), [(q_12, .inr (2, [.int 0, .null, .int 0]))]]) H_ lo_ := W_
  refine lv_dup F_.1 F_.2.1 dX4_init_94 rfl ?_
  refine z_bipush F_ (by decide) dX4_init_95 ?_
  refine z_callIn (C := RX2) F_ K_ W_ [.int (zi 8)] (fun _ _ _ _ => trivial) (fun _ _ _ => trivial) trivial (c_X2_init l_ D cy q_12 8 32 (by omega) rfl (by omega)) 1 rfl gX4_init_X2_init rfl (List.mem_of_getElem? (i := 14) rfl) rfl (List.mem_of_getElem? (i := 19) rfl) (List.mem_of_getElem? (i := 20) rfl) rfl (by decide +kernel) ⟨⟨Nat.le_of_ble_eq_true rfl, Nat.le_of_ble_eq_true rfl⟩, rfl, rfl, Nat.le_of_ble_eq_true rfl, Nat.le_of_ble_eq_true rfl⟩ hl.1 rfl (Nat.le_of_ble_eq_true rfl) [9] [0, 1, 2, 3, 4, 5, 6, 7, 8] [[(h0, .inr (4, [.int (zi 0), .int (zi 0), .ref q_1, .ref q_2, .ref q_3, .ref q_4, .ref q_5, .ref q_6, .ref q_8, .ref q_10, .null]))], [(q_1, .inl (cy 0, 3, .inl (zA (fun _ => 0))))], [(q_2, .inl (cy 0, 3, .inl (zA (fun _ => 0))))], [(q_3, .inl (cy 0, 8, .inl (zA (fun _ => 0))))], [(q_4, .inl (cy 0, 8, .inl (zA (fun _ => 0))))], [(q_5, .inl (cy 0, 8, .inl (zA (fun _ => 0))))], wF cy q_6 u_7 20 5 0 (fun _ => 0), wF cy q_8 u_9 24 6 0 (fun _ => 0), wF cy q_10 u_11 24 6 0 (fun _ => 0)] (fun (u_13 : Nat) => [[(h0, .inr (4, [.int (zi 0), .int (zi 0), .ref q_1, .ref q_2, .ref q_3, .ref q_4, .ref q_5, .ref q_6, .ref q_8, .ref q_10, .null]))], [(q_1, .inl (cy 0, 3, .inl (zA (fun _ => 0))))], [(q_2, .inl (cy 0, 3, .inl (zA (fun _ => 0))))], [(q_3, .inl (cy 0, 8, .inl (zA (fun _ => 0))))], [(q_4, .inl (cy 0, 8, .inl (zA (fun _ => 0))))], [(q_5, .inl (cy 0, 8, .inl (zA (fun _ => 0))))], wF cy q_6 u_7 20 5 0 (fun _ => 0), wF cy q_8 u_9 24 6 0 (fun _ => 0), wF cy q_10 u_11 24 6 0 (fun _ => 0), wF cy q_12 u_13 32 8 0 (fun _ => 0)]) (fun _ => 10) (fun _ => [9]) (fun _ => [0, 1, 2, 3, 4, 5, 6, 7, 8]) 10 (by decide) rfl rfl rfl (fun _ => by decide) (fun _ => rfl) (fun _ => rfl) (fun _ => rfl) dX4_init_97 (fun u_13 H_ lo_ W_ => ?_)
  have W_ : WD D A_ s_.heap ([[(h0, .inr (4, [.int (zi 0), .int (zi 0), .ref q_1, .ref q_2, .ref q_3, .ref q_4, .ref q_5, .ref q_6, .ref q_8, .ref q_10, .null]))], [(q_1, .inl (cy 0, 3, .inl (zA (fun _ => 0))))], [(q_2, .inl (cy 0, 3, .inl (zA (fun _ => 0))))], [(q_3, .inl (cy 0, 8, .inl (zA (fun _ => 0))))], [(q_4, .inl (cy 0, 8, .inl (zA (fun _ => 0))))], [(q_5, .inl (cy 0, 8, .inl (zA (fun _ => 0))))], wF cy q_6 u_7 20 5 0 (fun _ => 0), wF cy q_8 u_9 24 6 0 (fun _ => 0), wF cy q_10 u_11 24 6 0 (fun _ => 0), wF cy q_12 u_13 32 8 0 (fun _ => 0)]) H_ lo_ := W_
  refine z_putF (sg' := [[(h0, .inr (4, [.int (zi 0), .int (zi 0), .ref q_1, .ref q_2, .ref q_3, .ref q_4, .ref q_5, .ref q_6, .ref q_8, .ref q_10, .ref q_12]))], [(q_1, .inl (cy 0, 3, .inl (zA (fun _ => 0))))], [(q_2, .inl (cy 0, 3, .inl (zA (fun _ => 0))))], [(q_3, .inl (cy 0, 8, .inl (zA (fun _ => 0))))], [(q_4, .inl (cy 0, 8, .inl (zA (fun _ => 0))))], [(q_5, .inl (cy 0, 8, .inl (zA (fun _ => 0))))], wF cy q_6 u_7 20 5 0 (fun _ => 0), wF cy q_8 u_9 24 6 0 (fun _ => 0), wF cy q_10 u_11 24 6 0 (fun _ => 0), wF cy q_12 u_13 32 8 0 (fun _ => 0)]) F_ K_ W_ 0 0 10 rfl rfl rfl (C := RX4) (T := TX4) (N := 11) rfl ⟨Nat.le_of_ble_eq_true rfl, Nat.le_of_ble_eq_true rfl⟩ tyX4 tyX4_ok nmX4 rfl hnm_ rfl rfl rfl hinX4 (List.mem_of_getElem? (i := 18) rfl) dX4_init_100 (fun H_ lo_ W_ => ?_)
  refine W.widen (k := 13) (n := 142) (by omega) (by omega) ?_
  exact hret _ _ _ _ (fun j => ([0, q_1, q_2, q_3, q_4, q_5, q_6, u_7, q_8, u_9, q_10, u_11, q_12, u_13] : List Nat).getD j 0) dX4_init_103 W_
set_option maxHeartbeats 4000000 in
set_option maxRecDepth 100000 in
theorem c_X6_init (l_ : Launch) (D : va_G) (cy : Nat → ClassId) (h0 : Nat)  : CTn l_ D cy (fun _ => True) yX6_init wsX6_init { frames := 1, cells := 1, slots := 150, locals := 12 } [.ref h0] [[(h0, .inr (5, [.null, .int 0, .int 0, .int 0, .int 0, .int 0]))]] (fun (u : Nat) => [wX cy (qf h0 (fun _ => u)) 0 0 0 0 0 (fun _ => 0)]) 1 150 := by
  refine CTn.of RX6 cX6_init 1 rfl rfl (by decide) rfl (Nat.le_of_ble_eq_true rfl) ?_
  intro p_ e_ s_ m_ ar_ be_ me_ c_ Q_ A_ ls_ F_ hnm_ K_ E_ W_ hl hret
  have hl : lv_has ls_ 1 [(0, .ref h0)] := hl
  obtain ⟨H_, hH_⟩ : ∃ x, x = s_.heap := ⟨_, rfl⟩
  obtain ⟨lo_, hlo_⟩ : ∃ x : List Loc, x = [] := ⟨_, rfl⟩
  have W_ : WD D A_ s_.heap ([[(h0, .inr (5, [.null, .int 0, .int 0, .int 0, .int 0, .int 0]))]]) H_ lo_ := by rw [hH_, hlo_]; exact W_
  rw [← hlo_]
  suffices hg_ : W p_ l_ e_ _ s_ m_ ar_ be_ me_ c_ H_ lo_ 0 0 Q_ (F0 m_ 0 ls_ []) by rw [hH_] at hg_; exact hg_
  clear hH_ hlo_
  have hinX6 : ∀ w ∈ u_ws RX6 TX6 6, w ∈ wsX6_init := fun w h => List.mem_cons_of_mem _ (List.mem_append_right _ h)
  refine lv_aload_n F_.1 F_.2.1 dX6_init_0 rfl (lv_at hl 0 rfl) ?_
  refine z_obj F_ (List.mem_of_getElem? (i := 1) rfl) (List.mem_of_getElem? (i := 2) rfl) (List.mem_of_getElem? (i := 3) rfl) hl.1 (Nat.le_of_ble_eq_true rfl) (Nat.le_of_ble_eq_true rfl) dX6_init_1 ?_
  refine lv_aload_n F_.1 F_.2.1 dX6_init_4 rfl (lv_at hl 0 rfl) ?_
  refine z_sipush F_ (by decide) dX6_init_5 ?_
  refine z_newg (N := 150) F_ K_ W_ .byte rfl (List.mem_of_getElem? (i := 4) rfl) 1 rfl (fun _ h => h) rfl (by decide) (by omega) rfl ⟨Nat.le_of_ble_eq_true rfl, Nat.le_of_ble_eq_true rfl⟩ dX6_init_8 (fun q_1 H_ W_ => ?_)
  have W_ : WD D A_ s_.heap ([[(h0, .inr (5, [.null, .int 0, .int 0, .int 0, .int 0, .int 0]))], [(q_1, .inl (cy 1, 150, .inl (zA (fun _ => 0))))]]) H_ lo_ := W_
  refine z_putF (sg' := [[(h0, .inr (5, [.ref q_1, .int 0, .int 0, .int 0, .int 0, .int 0]))], [(q_1, .inl (cy 1, 150, .inl (zA (fun _ => 0))))]]) F_ K_ W_ 0 0 0 rfl rfl rfl (C := RX6) (T := TX6) (N := 6) rfl ⟨Nat.le_of_ble_eq_true rfl, Nat.le_of_ble_eq_true rfl⟩ tyX6 tyX6_ok nmX6 rfl hnm_ rfl rfl rfl hinX6 (List.mem_of_getElem? (i := 5) rfl) dX6_init_10 (fun H_ lo_ W_ => ?_)
  refine lv_aload_n F_.1 F_.2.1 dX6_init_13 rfl (lv_at hl 0 rfl) ?_
  refine z_iconst F_ dX6_init_14 ?_
  refine z_put (sg' := [[(h0, .inr (5, [.ref q_1, .int (zi 0), .int 0, .int 0, .int 0, .int 0]))], [(q_1, .inl (cy 1, 150, .inl (zA (fun _ => 0))))]]) F_ K_ W_ 0 0 1 rfl rfl rfl (C := RX6) (T := TX6) (N := 6) rfl ⟨Nat.le_of_ble_eq_true rfl, Nat.le_of_ble_eq_true rfl⟩ tyX6 tyX6_ok nmX6 rfl rfl rfl hinX6 (List.mem_of_getElem? (i := 6) rfl) dX6_init_15 (fun H_ lo_ W_ => ?_)
  refine lv_aload_n F_.1 F_.2.1 dX6_init_18 rfl (lv_at hl 0 rfl) ?_
  refine z_iconst F_ dX6_init_19 ?_
  refine z_put (sg' := [[(h0, .inr (5, [.ref q_1, .int (zi 0), .int (zi 0), .int 0, .int 0, .int 0]))], [(q_1, .inl (cy 1, 150, .inl (zA (fun _ => 0))))]]) F_ K_ W_ 0 0 2 rfl rfl rfl (C := RX6) (T := TX6) (N := 6) rfl ⟨Nat.le_of_ble_eq_true rfl, Nat.le_of_ble_eq_true rfl⟩ tyX6 tyX6_ok nmX6 rfl rfl rfl hinX6 (List.mem_of_getElem? (i := 7) rfl) dX6_init_20 (fun H_ lo_ W_ => ?_)
  refine lv_aload_n F_.1 F_.2.1 dX6_init_23 rfl (lv_at hl 0 rfl) ?_
  refine z_iconst F_ dX6_init_24 ?_
  refine z_put (sg' := [[(h0, .inr (5, [.ref q_1, .int (zi 0), .int (zi 0), .int (zi 0), .int 0, .int 0]))], [(q_1, .inl (cy 1, 150, .inl (zA (fun _ => 0))))]]) F_ K_ W_ 0 0 3 rfl rfl rfl (C := RX6) (T := TX6) (N := 6) rfl ⟨Nat.le_of_ble_eq_true rfl, Nat.le_of_ble_eq_true rfl⟩ tyX6 tyX6_ok nmX6 rfl rfl rfl hinX6 (List.mem_of_getElem? (i := 8) rfl) dX6_init_25 (fun H_ lo_ W_ => ?_)
  refine lv_aload_n F_.1 F_.2.1 dX6_init_28 rfl (lv_at hl 0 rfl) ?_
  refine z_iconst F_ dX6_init_29 ?_
  refine z_put (sg' := [[(h0, .inr (5, [.ref q_1, .int (zi 0), .int (zi 0), .int (zi 0), .int (zi 0), .int 0]))], [(q_1, .inl (cy 1, 150, .inl (zA (fun _ => 0))))]]) F_ K_ W_ 0 0 4 rfl rfl rfl (C := RX6) (T := TX6) (N := 6) rfl ⟨Nat.le_of_ble_eq_true rfl, Nat.le_of_ble_eq_true rfl⟩ tyX6 tyX6_ok nmX6 rfl rfl rfl hinX6 (List.mem_of_getElem? (i := 9) rfl) dX6_init_30 (fun H_ lo_ W_ => ?_)
  refine lv_aload_n F_.1 F_.2.1 dX6_init_33 rfl (lv_at hl 0 rfl) ?_
  refine z_iconst F_ dX6_init_34 ?_
  refine z_put (sg' := [[(h0, .inr (5, [.ref q_1, .int (zi 0), .int (zi 0), .int (zi 0), .int (zi 0), .int (zi 0)]))], [(q_1, .inl (cy 1, 150, .inl (zA (fun _ => 0))))]]) F_ K_ W_ 0 0 5 rfl rfl rfl (C := RX6) (T := TX6) (N := 6) rfl ⟨Nat.le_of_ble_eq_true rfl, Nat.le_of_ble_eq_true rfl⟩ tyX6 tyX6_ok nmX6 rfl rfl rfl hinX6 (List.mem_of_getElem? (i := 10) rfl) dX6_init_35 (fun H_ lo_ W_ => ?_)
  refine W.widen (k := 1) (n := 150) (by omega) (by omega) ?_
  exact hret _ _ _ _ q_1 dX6_init_38 W_
set_option maxHeartbeats 4000000 in
set_option maxRecDepth 100000 in
theorem c_X1_init (l_ : Launch) (D : va_G) (cy : Nat → ClassId) (h0 : Nat)  : CTn l_ D cy (fun _ => True) yX1_init wsX1_init { frames := 1, cells := 2, slots := 30, locals := 12 } [.ref h0] [[(h0, .inr (1, [.null, .null]))]] (fun (u : Nat → Nat) => [wE cy (qf h0 u) (fun _ => 0) (fun _ => 0)]) 2 30 := by
  refine CTn.of RX1 cX1_init 1 rfl rfl (by decide) rfl (Nat.le_of_ble_eq_true rfl) ?_
  intro p_ e_ s_ m_ ar_ be_ me_ c_ Q_ A_ ls_ F_ hnm_ K_ E_ W_ hl hret
  have hl : lv_has ls_ 1 [(0, .ref h0)] := hl
  obtain ⟨H_, hH_⟩ : ∃ x, x = s_.heap := ⟨_, rfl⟩
  obtain ⟨lo_, hlo_⟩ : ∃ x : List Loc, x = [] := ⟨_, rfl⟩
  have W_ : WD D A_ s_.heap ([[(h0, .inr (1, [.null, .null]))]]) H_ lo_ := by rw [hH_, hlo_]; exact W_
  rw [← hlo_]
  suffices hg_ : W p_ l_ e_ _ s_ m_ ar_ be_ me_ c_ H_ lo_ 0 0 Q_ (F0 m_ 0 ls_ []) by rw [hH_] at hg_; exact hg_
  clear hH_ hlo_
  have hinX1 : ∀ w ∈ u_ws RX1 TX1 2, w ∈ wsX1_init := fun w h => List.mem_cons_of_mem _ (List.mem_append_right _ h)
  refine lv_aload_n F_.1 F_.2.1 dX1_init_0 rfl (lv_at hl 0 rfl) ?_
  refine z_obj F_ (List.mem_of_getElem? (i := 1) rfl) (List.mem_of_getElem? (i := 2) rfl) (List.mem_of_getElem? (i := 3) rfl) hl.1 (Nat.le_of_ble_eq_true rfl) (Nat.le_of_ble_eq_true rfl) dX1_init_1 ?_
  refine lv_aload_n F_.1 F_.2.1 dX1_init_4 rfl (lv_at hl 0 rfl) ?_
  refine z_bipush F_ (by decide) dX1_init_5 ?_
  refine z_newg (N := 27) F_ K_ W_ .int rfl (List.mem_of_getElem? (i := 4) rfl) 0 rfl (fun _ h => h) rfl (by decide) (by omega) rfl ⟨Nat.le_of_ble_eq_true rfl, Nat.le_of_ble_eq_true rfl⟩ dX1_init_7 (fun q_1 H_ W_ => ?_)
  have W_ : WD D A_ s_.heap ([[(h0, .inr (1, [.null, .null]))], [(q_1, .inl (cy 0, 27, .inl (zA (fun _ => 0))))]]) H_ lo_ := W_
  refine z_putF (sg' := [[(h0, .inr (1, [.ref q_1, .null]))], [(q_1, .inl (cy 0, 27, .inl (zA (fun _ => 0))))]]) F_ K_ W_ 0 0 0 rfl rfl rfl (C := RX1) (T := TX1) (N := 2) rfl ⟨Nat.le_of_ble_eq_true rfl, Nat.le_of_ble_eq_true rfl⟩ tyX1 tyX1_ok nmX1 rfl hnm_ rfl rfl rfl hinX1 (List.mem_of_getElem? (i := 5) rfl) dX1_init_9 (fun H_ lo_ W_ => ?_)
  refine lv_aload_n F_.1 F_.2.1 dX1_init_12 rfl (lv_at hl 0 rfl) ?_
  refine z_iconst F_ dX1_init_13 ?_
  refine z_newg (N := 3) F_ K_ W_ .int rfl (List.mem_of_getElem? (i := 4) rfl) 0 rfl (fun _ h => h) rfl (by decide) (by omega) rfl ⟨Nat.le_of_ble_eq_true rfl, Nat.le_of_ble_eq_true rfl⟩ dX1_init_14 (fun q_2 H_ W_ => ?_)
  have W_ : WD D A_ s_.heap ([[(h0, .inr (1, [.ref q_1, .null]))], [(q_1, .inl (cy 0, 27, .inl (zA (fun _ => 0))))], [(q_2, .inl (cy 0, 3, .inl (zA (fun _ => 0))))]]) H_ lo_ := W_
  refine z_putF (sg' := [[(h0, .inr (1, [.ref q_1, .ref q_2]))], [(q_1, .inl (cy 0, 27, .inl (zA (fun _ => 0))))], [(q_2, .inl (cy 0, 3, .inl (zA (fun _ => 0))))]]) F_ K_ W_ 0 0 1 rfl rfl rfl (C := RX1) (T := TX1) (N := 2) rfl ⟨Nat.le_of_ble_eq_true rfl, Nat.le_of_ble_eq_true rfl⟩ tyX1 tyX1_ok nmX1 rfl hnm_ rfl rfl rfl hinX1 (List.mem_of_getElem? (i := 6) rfl) dX1_init_16 (fun H_ lo_ W_ => ?_)
  refine W.widen (k := 2) (n := 30) (by omega) (by omega) ?_
  exact hret _ _ _ _ (fun j => ([0, q_1, q_2] : List Nat).getD j 0) dX1_init_19 W_
set_option maxHeartbeats 4000000 in
set_option maxRecDepth 100000 in
theorem c_X0_init (l_ : Launch) (D : va_G) (cy : Nat → ClassId) (h0 : Nat)  : CTn l_ D cy (fun _ => True) yX0_init wsX0_init { frames := 1, cells := 2, slots := 512, locals := 12 } [.ref h0] [[(h0, .inr (0, [.null, .null, .int 0]))]] (fun (u : Nat → Nat) => [wC cy (qf h0 u) 0 (fun _ => 0) (fun _ => 0)]) 2 512 := by
  refine CTn.of RX0 cX0_init 1 rfl rfl (by decide) rfl (Nat.le_of_ble_eq_true rfl) ?_
  intro p_ e_ s_ m_ ar_ be_ me_ c_ Q_ A_ ls_ F_ hnm_ K_ E_ W_ hl hret
  have hl : lv_has ls_ 1 [(0, .ref h0)] := hl
  obtain ⟨H_, hH_⟩ : ∃ x, x = s_.heap := ⟨_, rfl⟩
  obtain ⟨lo_, hlo_⟩ : ∃ x : List Loc, x = [] := ⟨_, rfl⟩
  have W_ : WD D A_ s_.heap ([[(h0, .inr (0, [.null, .null, .int 0]))]]) H_ lo_ := by rw [hH_, hlo_]; exact W_
  rw [← hlo_]
  suffices hg_ : W p_ l_ e_ _ s_ m_ ar_ be_ me_ c_ H_ lo_ 0 0 Q_ (F0 m_ 0 ls_ []) by rw [hH_] at hg_; exact hg_
  clear hH_ hlo_
  have hinX0 : ∀ w ∈ u_ws RX0 TX0 3, w ∈ wsX0_init := fun w h => List.mem_cons_of_mem _ (List.mem_append_right _ h)
  refine lv_aload_n F_.1 F_.2.1 dX0_init_0 rfl (lv_at hl 0 rfl) ?_
  refine z_obj F_ (List.mem_of_getElem? (i := 1) rfl) (List.mem_of_getElem? (i := 2) rfl) (List.mem_of_getElem? (i := 3) rfl) hl.1 (Nat.le_of_ble_eq_true rfl) (Nat.le_of_ble_eq_true rfl) dX0_init_1 ?_
  refine lv_aload_n F_.1 F_.2.1 dX0_init_4 rfl (lv_at hl 0 rfl) ?_
  refine z_sipush F_ (by decide) dX0_init_5 ?_
  refine z_newg (N := 256) F_ K_ W_ .int rfl (List.mem_of_getElem? (i := 4) rfl) 0 rfl (fun _ h => h) rfl (by decide) (by omega) rfl ⟨Nat.le_of_ble_eq_true rfl, Nat.le_of_ble_eq_true rfl⟩ dX0_init_8 (fun q_1 H_ W_ => ?_)
  have W_ : WD D A_ s_.heap ([[(h0, .inr (0, [.null, .null, .int 0]))], [(q_1, .inl (cy 0, 256, .inl (zA (fun _ => 0))))]]) H_ lo_ := W_
  refine z_putF (sg' := [[(h0, .inr (0, [.ref q_1, .null, .int 0]))], [(q_1, .inl (cy 0, 256, .inl (zA (fun _ => 0))))]]) F_ K_ W_ 0 0 0 rfl rfl rfl (C := RX0) (T := TX0) (N := 3) rfl ⟨Nat.le_of_ble_eq_true rfl, Nat.le_of_ble_eq_true rfl⟩ tyX0 tyX0_ok nmX0 rfl hnm_ rfl rfl rfl hinX0 (List.mem_of_getElem? (i := 5) rfl) dX0_init_10 (fun H_ lo_ W_ => ?_)
  refine lv_aload_n F_.1 F_.2.1 dX0_init_13 rfl (lv_at hl 0 rfl) ?_
  refine z_sipush F_ (by decide) dX0_init_14 ?_
  refine z_newg (N := 256) F_ K_ W_ .int rfl (List.mem_of_getElem? (i := 4) rfl) 0 rfl (fun _ h => h) rfl (by decide) (by omega) rfl ⟨Nat.le_of_ble_eq_true rfl, Nat.le_of_ble_eq_true rfl⟩ dX0_init_17 (fun q_2 H_ W_ => ?_)
  have W_ : WD D A_ s_.heap ([[(h0, .inr (0, [.ref q_1, .null, .int 0]))], [(q_1, .inl (cy 0, 256, .inl (zA (fun _ => 0))))], [(q_2, .inl (cy 0, 256, .inl (zA (fun _ => 0))))]]) H_ lo_ := W_
  refine z_putF (sg' := [[(h0, .inr (0, [.ref q_1, .ref q_2, .int 0]))], [(q_1, .inl (cy 0, 256, .inl (zA (fun _ => 0))))], [(q_2, .inl (cy 0, 256, .inl (zA (fun _ => 0))))]]) F_ K_ W_ 0 0 1 rfl rfl rfl (C := RX0) (T := TX0) (N := 3) rfl ⟨Nat.le_of_ble_eq_true rfl, Nat.le_of_ble_eq_true rfl⟩ tyX0 tyX0_ok nmX0 rfl hnm_ rfl rfl rfl hinX0 (List.mem_of_getElem? (i := 6) rfl) dX0_init_19 (fun H_ lo_ W_ => ?_)
  refine lv_aload_n F_.1 F_.2.1 dX0_init_22 rfl (lv_at hl 0 rfl) ?_
  refine z_iconst F_ dX0_init_23 ?_
  refine z_put (sg' := [[(h0, .inr (0, [.ref q_1, .ref q_2, .int (zi 0)]))], [(q_1, .inl (cy 0, 256, .inl (zA (fun _ => 0))))], [(q_2, .inl (cy 0, 256, .inl (zA (fun _ => 0))))]]) F_ K_ W_ 0 0 2 rfl rfl rfl (C := RX0) (T := TX0) (N := 3) rfl ⟨Nat.le_of_ble_eq_true rfl, Nat.le_of_ble_eq_true rfl⟩ tyX0 tyX0_ok nmX0 rfl rfl rfl hinX0 (List.mem_of_getElem? (i := 7) rfl) dX0_init_24 (fun H_ lo_ W_ => ?_)
  refine W.widen (k := 2) (n := 512) (by omega) (by omega) ?_
  exact hret _ _ _ _ (fun j => ([0, q_1, q_2] : List Nat).getD j 0) dX0_init_27 W_
set_option maxHeartbeats 4000000 in
set_option maxRecDepth 100000 in
theorem c_X3_init (l_ : Launch) (D : va_G) (cy : Nat → ClassId) (h0 : Nat)  : CTn l_ D cy (fun _ => True) yX3_init wsX3_init { frames := 1, cells := 1, slots := 6, locals := 12 } [.ref h0] [[(h0, .inr (3, [.null]))]] (fun (u : Nat) => [wQ cy h0 u (fun _ => 0)]) 1 6 := by
  refine CTn.of RX3 cX3_init 1 rfl rfl (by decide) rfl (Nat.le_of_ble_eq_true rfl) ?_
  intro p_ e_ s_ m_ ar_ be_ me_ c_ Q_ A_ ls_ F_ hnm_ K_ E_ W_ hl hret
  have hl : lv_has ls_ 1 [(0, .ref h0)] := hl
  obtain ⟨H_, hH_⟩ : ∃ x, x = s_.heap := ⟨_, rfl⟩
  obtain ⟨lo_, hlo_⟩ : ∃ x : List Loc, x = [] := ⟨_, rfl⟩
  have W_ : WD D A_ s_.heap ([[(h0, .inr (3, [.null]))]]) H_ lo_ := by rw [hH_, hlo_]; exact W_
  rw [← hlo_]
  suffices hg_ : W p_ l_ e_ _ s_ m_ ar_ be_ me_ c_ H_ lo_ 0 0 Q_ (F0 m_ 0 ls_ []) by rw [hH_] at hg_; exact hg_
  clear hH_ hlo_
  have hinX3 : ∀ w ∈ u_ws RX3 TX3 1, w ∈ wsX3_init := fun w h => List.mem_cons_of_mem _ (List.mem_append_right _ h)
  refine lv_aload_n F_.1 F_.2.1 dX3_init_0 rfl (lv_at hl 0 rfl) ?_
  refine z_obj F_ (List.mem_of_getElem? (i := 1) rfl) (List.mem_of_getElem? (i := 2) rfl) (List.mem_of_getElem? (i := 3) rfl) hl.1 (Nat.le_of_ble_eq_true rfl) (Nat.le_of_ble_eq_true rfl) dX3_init_1 ?_
  refine lv_aload_n F_.1 F_.2.1 dX3_init_4 rfl (lv_at hl 0 rfl) ?_
  refine z_bipush F_ (by decide) dX3_init_5 ?_
  refine z_newg (N := 6) F_ K_ W_ .int rfl (List.mem_of_getElem? (i := 4) rfl) 0 rfl (fun _ h => h) rfl (by decide) (by omega) rfl ⟨Nat.le_of_ble_eq_true rfl, Nat.le_of_ble_eq_true rfl⟩ dX3_init_7 (fun q_1 H_ W_ => ?_)
  have W_ : WD D A_ s_.heap ([[(h0, .inr (3, [.null]))], [(q_1, .inl (cy 0, 6, .inl (zA (fun _ => 0))))]]) H_ lo_ := W_
  refine z_putF (sg' := [[(h0, .inr (3, [.ref q_1]))], [(q_1, .inl (cy 0, 6, .inl (zA (fun _ => 0))))]]) F_ K_ W_ 0 0 0 rfl rfl rfl (C := RX3) (T := TX3) (N := 1) rfl ⟨Nat.le_of_ble_eq_true rfl, Nat.le_of_ble_eq_true rfl⟩ tyX3 tyX3_ok nmX3 rfl hnm_ rfl rfl rfl hinX3 (List.mem_of_getElem? (i := 5) rfl) dX3_init_9 (fun H_ lo_ W_ => ?_)
  refine W.widen (k := 1) (n := 6) (by omega) (by omega) ?_
  exact hret _ _ _ _ q_1 dX3_init_12 W_
