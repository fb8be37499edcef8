def yearSc (S M : Int) (sc mk ms mp : Int → Int) (h y : Int) : Int → Int := if h < S then (if 8 ≤ y then goSc sc h (lstI S M sc mk ms mp h) else sc) else sc
def yearMp (S M : Int) (sc mk ms mp : Int → Int) (h y : Int) : Int → Int := if h < S then (if 8 ≤ y then goMp mp (lstI S M sc mk ms mp h) else if y < M ∧ mp y = -1 then zu mp y h else mp) else mp

abbrev rX4_hasShip : Room := { frames := 0, cells := 0, slots := 0, locals := 0 }
set_option maxHeartbeats 1000000 in
set_option maxRecDepth 100000 in
theorem c_X4_hasShip (l_ : Launch) (D : va_G) (cy : Nat → ClassId) (q : Nat → Nat) (S : Int) (M : Int) (sk : Int → Int) (sc : Int → Int) (mk : Int → Int) (ms : Int → Int) (mp : Int → Int) (h : Int) (bS : 0 ≤ S ∧ S ≤ 3) (bM : 0 ≤ M ∧ M ≤ 8) (bsk : ∀ j : Int, 0 ≤ sk j ∧ sk j ≤ 5) (bsc : ∀ j : Int, 0 ≤ sc j ∧ sc j ≤ 99) (bmk : ∀ j : Int, 0 ≤ mk j ∧ mk j ≤ 5) (bms : ∀ j : Int, 0 ≤ ms j ∧ ms j ≤ 9) (bmp : ∀ j : Int, (-1) ≤ mp j ∧ mp j ≤ 2) (rh : -2147483648 ≤ h ∧ h < 2147483648) : CTi l_ D cy yX4_hasShip wsX4_hasShip rX4_hasShip [.ref (q 0), .int (zi h)] ([wI cy q S M sk sc mk ms mp]) (fun (z : Int) (u : Unit) => ((z = 1 ∧ (0 ≤ h ∧ h < S)) ∨ (z = 0 ∧ ¬ (0 ≤ h ∧ h < S)))) (fun (_ : Unit) => [wI cy q S M sk sc mk ms mp]) := by
  refine CTi.of RX4 cX4_hasShip 2 rfl (by decide) rfl (fun z u hz => z_bl hz) (Nat.le_of_ble_eq_true rfl) ?_
  intro p_ e_ s_ m_ ar_ be_ me_ c_ Q_ A_ ls_ F_ K_ W_ hl hret
  have hl : lv_has ls_ 2 [(0, .ref (q 0)), (1, .int (zi h))] := hl
  obtain ⟨H_, hH_⟩ : ∃ x, x = s_.heap := ⟨_, rfl⟩
  obtain ⟨lo_, hlo_⟩ : ∃ x : List Loc, x = [] := ⟨_, rfl⟩
  have W_ : WD D A_ s_.heap ([wI cy q S M sk sc mk ms mp]) H_ lo_ := by rw [hH_, hlo_]; exact W_
  rw [← hlo_]
  suffices hg_ : W p_ l_ e_ rX4_hasShip s_ m_ ar_ be_ me_ c_ H_ lo_ 0 0 Q_ (F0 m_ 0 ls_ []) by rw [hH_] at hg_; exact hg_
  clear hH_ hlo_
  have hinX4 : ∀ w ∈ u_ws RX4 TX4 11, w ∈ wsX4_hasShip := fun w h => List.mem_cons_of_mem _ (List.mem_append_right _ h)
  refine lv_iload_n F_.1 F_.2.1 dX4_hasShip_0 rfl (lv_at hl 1 rfl) ?_
  refine z_if_lt (tgt := 16) F_ (by omega) dX4_hasShip_1 (by decide) (fun c1 => ?_) (fun c1 => ?_)
  · refine z_iconst F_ dX4_hasShip_16 ?_
    exact hret _ _ _ _ 0 () dX4_hasShip_17 (by first | omega | assumption) W_
  · refine lv_iload_n F_.1 F_.2.1 dX4_hasShip_4 rfl (lv_at hl 1 rfl) ?_
    refine lv_aload_n F_.1 F_.2.1 dX4_hasShip_5 rfl (lv_at hl 0 rfl) ?_
    refine z_get F_ K_ W_ 0 0 0 rfl rfl rfl (C := RX4) (T := TX4) (N := 11) rfl (by decide) hinX4 (List.mem_of_getElem? (i := 1) rfl) dX4_hasShip_6 ?_
    refine z_icmp_ge (tgt := 16) F_ (by omega) dX4_hasShip_9 (by decide) (fun c9 => ?_) (fun c9 => ?_)
    · refine z_iconst F_ dX4_hasShip_16 ?_
      exact hret _ _ _ _ 0 () dX4_hasShip_17 (by first | omega | assumption) W_
    · refine z_iconst F_ dX4_hasShip_12 ?_
      refine z_goto (tgt := 17) F_ dX4_hasShip_13 (by decide) ?_
      exact hret _ _ _ _ 1 () dX4_hasShip_17 (by first | omega | assumption) W_
abbrev rX4_hasMan : Room := { frames := 0, cells := 0, slots := 0, locals := 0 }
set_option maxHeartbeats 1000000 in
set_option maxRecDepth 100000 in
theorem c_X4_hasMan (l_ : Launch) (D : va_G) (cy : Nat → ClassId) (q : Nat → Nat) (S : Int) (M : Int) (sk : Int → Int) (sc : Int → Int) (mk : Int → Int) (ms : Int → Int) (mp : Int → Int) (h : Int) (bS : 0 ≤ S ∧ S ≤ 3) (bM : 0 ≤ M ∧ M ≤ 8) (bsk : ∀ j : Int, 0 ≤ sk j ∧ sk j ≤ 5) (bsc : ∀ j : Int, 0 ≤ sc j ∧ sc j ≤ 99) (bmk : ∀ j : Int, 0 ≤ mk j ∧ mk j ≤ 5) (bms : ∀ j : Int, 0 ≤ ms j ∧ ms j ≤ 9) (bmp : ∀ j : Int, (-1) ≤ mp j ∧ mp j ≤ 2) (rh : -2147483648 ≤ h ∧ h < 2147483648) : CTi l_ D cy yX4_hasMan wsX4_hasMan rX4_hasMan [.ref (q 0), .int (zi h)] ([wI cy q S M sk sc mk ms mp]) (fun (z : Int) (u : Unit) => ((z = 1 ∧ (0 ≤ h ∧ h < M)) ∨ (z = 0 ∧ ¬ (0 ≤ h ∧ h < M)))) (fun (_ : Unit) => [wI cy q S M sk sc mk ms mp]) := by
  refine CTi.of RX4 cX4_hasMan 2 rfl (by decide) rfl (fun z u hz => z_bl hz) (Nat.le_of_ble_eq_true rfl) ?_
  intro p_ e_ s_ m_ ar_ be_ me_ c_ Q_ A_ ls_ F_ K_ W_ hl hret
  have hl : lv_has ls_ 2 [(0, .ref (q 0)), (1, .int (zi h))] := hl
  obtain ⟨H_, hH_⟩ : ∃ x, x = s_.heap := ⟨_, rfl⟩
  obtain ⟨lo_, hlo_⟩ : ∃ x : List Loc, x = [] := ⟨_, rfl⟩
  have W_ : WD D A_ s_.heap ([wI cy q S M sk sc mk ms mp]) H_ lo_ := by rw [hH_, hlo_]; exact W_
  rw [← hlo_]
  suffices hg_ : W p_ l_ e_ rX4_hasMan s_ m_ ar_ be_ me_ c_ H_ lo_ 0 0 Q_ (F0 m_ 0 ls_ []) by rw [hH_] at hg_; exact hg_
  clear hH_ hlo_
  have hinX4 : ∀ w ∈ u_ws RX4 TX4 11, w ∈ wsX4_hasMan := fun w h => List.mem_cons_of_mem _ (List.mem_append_right _ h)
  refine lv_iload_n F_.1 F_.2.1 dX4_hasMan_0 rfl (lv_at hl 1 rfl) ?_
  refine z_if_lt (tgt := 16) F_ (by omega) dX4_hasMan_1 (by decide) (fun c1 => ?_) (fun c1 => ?_)
  · refine z_iconst F_ dX4_hasMan_16 ?_
    exact hret _ _ _ _ 0 () dX4_hasMan_17 (by first | omega | assumption) W_
  · refine lv_iload_n F_.1 F_.2.1 dX4_hasMan_4 rfl (lv_at hl 1 rfl) ?_
    refine lv_aload_n F_.1 F_.2.1 dX4_hasMan_5 rfl (lv_at hl 0 rfl) ?_
    refine z_get F_ K_ W_ 0 0 1 rfl rfl rfl (C := RX4) (T := TX4) (N := 11) rfl (by decide) hinX4 (List.mem_of_getElem? (i := 1) rfl) dX4_hasMan_6 ?_
    refine z_icmp_ge (tgt := 16) F_ (by omega) dX4_hasMan_9 (by decide) (fun c9 => ?_) (fun c9 => ?_)
    · refine z_iconst F_ dX4_hasMan_16 ?_
      exact hret _ _ _ _ 0 () dX4_hasMan_17 (by first | omega | assumption) W_
    · refine z_iconst F_ dX4_hasMan_12 ?_
      refine z_goto (tgt := 17) F_ dX4_hasMan_13 (by decide) ?_
      exact hret _ _ _ _ 1 () dX4_hasMan_17 (by first | omega | assumption) W_
abbrev rX4_addShip : Room := { frames := 1, cells := 0, slots := 0, locals := 21 }
set_option maxHeartbeats 1000000 in
set_option maxRecDepth 100000 in
theorem c_X4_addShip (l_ : Launch) (D : va_G) (cy : Nat → ClassId) (q : Nat → Nat) (S : Int) (M : Int) (sk : Int → Int) (sc : Int → Int) (mk : Int → Int) (ms : Int → Int) (mp : Int → Int) (r4 : Int) (f4 : Int → Int) (kd : Int) (bS : 0 ≤ S ∧ S ≤ 3) (bM : 0 ≤ M ∧ M ≤ 8) (bsk : ∀ j : Int, 0 ≤ sk j ∧ sk j ≤ 5) (bsc : ∀ j : Int, 0 ≤ sc j ∧ sc j ≤ 99) (bmk : ∀ j : Int, 0 ≤ mk j ∧ mk j ≤ 5) (bms : ∀ j : Int, 0 ≤ ms j ∧ ms j ≤ 9) (bmp : ∀ j : Int, (-1) ≤ mp j ∧ mp j ≤ 2) (bf4 : ∀ j : Int, (-1) ≤ f4 j ∧ f4 j ≤ 99) (rkd : -2147483648 ≤ kd ∧ kd < 2147483648) (hS : S < 3) (hkd : 0 ≤ kd ∧ kd ≤ 5) : CTi l_ D cy yX4_addShip wsX4_addShip rX4_addShip [.ref (q 0), .int (zi kd)] ([wI cy q S M sk sc mk ms mp, wF cy (q 12) (q 13) 32 8 r4 f4]) (fun (z : Int) (u : (Int → Int) × (Int → Int)) => (z = S) ∧ (u.1 = zu sk S kd) ∧ (u.2 = zu sc S 0) ∧ (∀ j : Int, 0 ≤ u.1 j ∧ u.1 j ≤ 5) ∧ (∀ j : Int, 0 ≤ u.2 j ∧ u.2 j ≤ 99) ∧ (0 ≤ S + 1 ∧ S + 1 ≤ 3)) (fun (u : (Int → Int) × (Int → Int)) => [wI cy q (S + 1) M u.1 u.2 mk ms mp, wF cy (q 12) (q 13) 32 8 0 f4]) := by
  refine CTi.of RX4 cX4_addShip 2 rfl (by decide) rfl (fun z u hz => rfl) (Nat.le_of_ble_eq_true rfl) ?_
  intro p_ e_ s_ m_ ar_ be_ me_ c_ Q_ A_ ls_ F_ K_ W_ hl hret
  have hl : lv_has ls_ 2 [(0, .ref (q 0)), (1, .int (zi kd))] := hl
  obtain ⟨H_, hH_⟩ : ∃ x, x = s_.heap := ⟨_, rfl⟩
  obtain ⟨lo_, hlo_⟩ : ∃ x : List Loc, x = [] := ⟨_, rfl⟩
  have W_ : WD D A_ s_.heap ([wI cy q S M sk sc mk ms mp, wF cy (q 12) (q 13) 32 8 r4 f4]) H_ lo_ := by rw [hH_, hlo_]; exact W_
  rw [← hlo_]
  suffices hg_ : W p_ l_ e_ rX4_addShip s_ m_ ar_ be_ me_ c_ H_ lo_ 0 0 Q_ (F0 m_ 0 ls_ []) by rw [hH_] at hg_; exact hg_
  clear hH_ hlo_
  have hinX4 : ∀ w ∈ u_ws RX4 TX4 11, w ∈ wsX4_addShip := fun w h => List.mem_cons_of_mem _ (List.mem_append_left _ (List.mem_append_right _ h))
  refine lv_aload_n F_.1 F_.2.1 dX4_addShip_0 rfl (lv_at hl 0 rfl) ?_
  refine z_get F_ K_ W_ 0 0 0 rfl rfl rfl (C := RX4) (T := TX4) (N := 11) rfl (by decide) hinX4 (List.mem_of_getElem? (i := 1) rfl) dX4_addShip_1 ?_
  refine z_iconst F_ dX4_addShip_4 ?_
  refine z_icmp_lt (tgt := 10) F_ (by omega) dX4_addShip_5 (by decide) (fun c5 => ?_) (fun c5 => ?_)
  · refine lv_aload_n F_.1 F_.2.1 dX4_addShip_10 rfl (lv_at hl 0 rfl) ?_
    refine z_get F_ K_ W_ 0 0 2 rfl rfl rfl (C := RX4) (T := TX4) (N := 11) rfl (by decide) hinX4 (List.mem_of_getElem? (i := 2) rfl) dX4_addShip_11 ?_
    refine lv_aload_n F_.1 F_.2.1 dX4_addShip_14 rfl (lv_at hl 0 rfl) ?_
    refine z_get F_ K_ W_ 0 0 0 rfl rfl rfl (C := RX4) (T := TX4) (N := 11) rfl (by decide) hinX4 (List.mem_of_getElem? (i := 1) rfl) dX4_addShip_15 ?_
    refine lv_iload_n F_.1 F_.2.1 dX4_addShip_18 rfl (lv_at hl 1 rfl) ?_
    refine z_iast (sg' := [wI cy q S M (zu sk S kd) sc mk ms mp, wF cy (q 12) (q 13) 32 8 r4 f4]) F_ K_ W_ 0 1 rfl rfl rfl (by omega) (by decide) dX4_addShip_19 (fun H_ lo_ W_ => ?_)
    obtain ⟨sk_1, esk_1⟩ : ∃ x_ : Int → Int, x_ = zu sk S kd := ⟨_, rfl⟩
    rw [← esk_1] at W_
    have bsk_1 : ∀ j : Int, 0 ≤ sk_1 j ∧ sk_1 j ≤ 5 := by rw [esk_1]; exact zu_b bsk (by omega)
    refine lv_aload_n F_.1 F_.2.1 dX4_addShip_20 rfl (lv_at hl 0 rfl) ?_
    refine z_get F_ K_ W_ 0 0 3 rfl rfl rfl (C := RX4) (T := TX4) (N := 11) rfl (by decide) hinX4 (List.mem_of_getElem? (i := 3) rfl) dX4_addShip_21 ?_
    refine lv_aload_n F_.1 F_.2.1 dX4_addShip_24 rfl (lv_at hl 0 rfl) ?_
    refine z_get F_ K_ W_ 0 0 0 rfl rfl rfl (C := RX4) (T := TX4) (N := 11) rfl (by decide) hinX4 (List.mem_of_getElem? (i := 1) rfl) dX4_addShip_25 ?_
    refine z_iconst F_ dX4_addShip_28 ?_
    refine z_iast (sg' := [wI cy q S M sk_1 (zu sc S 0) mk ms mp, wF cy (q 12) (q 13) 32 8 r4 f4]) F_ K_ W_ 0 2 rfl rfl rfl (by omega) (by decide) dX4_addShip_29 (fun H_ lo_ W_ => ?_)
    obtain ⟨sc_2, esc_2⟩ : ∃ x_ : Int → Int, x_ = zu sc S 0 := ⟨_, rfl⟩
    rw [← esc_2] at W_
    have bsc_2 : ∀ j : Int, 0 ≤ sc_2 j ∧ sc_2 j ≤ 99 := by rw [esc_2]; exact zu_b bsc (by omega)
    refine lv_aload_n F_.1 F_.2.1 dX4_addShip_30 rfl (lv_at hl 0 rfl) ?_
    refine z_get F_ K_ W_ 0 0 10 rfl rfl rfl (C := RX4) (T := TX4) (N := 11) rfl (by decide) hinX4 (List.mem_of_getElem? (i := 4) rfl) dX4_addShip_31 ?_
    refine z_callVi F_ K_ W_ [] (c_X2_empty l_ D cy (q 12) (q 13) 32 8 r4 f4 bf4) 0 rfl gX4_addShip_X2_empty rfl (by decide +kernel) ⟨⟨Nat.le_of_ble_eq_true rfl, Nat.le_of_ble_eq_true rfl⟩, rfl, rfl, Nat.zero_le _, Nat.zero_le _⟩ 0 0 2 rfl rfl rfl rfl hl.1 rfl (Nat.le_of_ble_eq_true rfl) [1] [0] [wI cy q S M sk_1 sc_2 mk ms mp] (fun (u_ : Unit) => [wI cy q S M sk_1 sc_2 mk ms mp, wF cy (q 12) (q 13) 32 8 0 f4]) 2 (by decide +kernel) rfl rfl rfl (fun _ => rfl) (fun _ => rfl) (fun _ => rfl) dX4_addShip_34 (fun z_3 u_ H_ lo_ hw_ W_ => ?_)
    have W_ : WD D A_ s_.heap ([wI cy q S M sk_1 sc_2 mk ms mp, wF cy (q 12) (q 13) 32 8 0 f4]) H_ lo_ := W_
    have hw_ : (z_3 = r4) := hw_
    have f34_v := hw_
    refine lv_pop F_.1 F_.2.1 dX4_addShip_37 rfl ?_
    refine lv_aload_n F_.1 F_.2.1 dX4_addShip_38 rfl (lv_at hl 0 rfl) ?_
    refine lv_dup F_.1 F_.2.1 dX4_addShip_39 rfl ?_
    refine z_get F_ K_ W_ 0 0 0 rfl rfl rfl (C := RX4) (T := TX4) (N := 11) rfl (by decide) hinX4 (List.mem_of_getElem? (i := 1) rfl) dX4_addShip_40 ?_
    refine lv_dup_x1 F_.1 F_.2.1 dX4_addShip_43 rfl rfl ?_
    refine z_iconst F_ dX4_addShip_44 ?_
    refine z_iadd F_ dX4_addShip_45 ?_
    refine z_put (sg' := [wI cy q (S + 1) M sk_1 sc_2 mk ms mp, wF cy (q 12) (q 13) 32 8 0 f4]) F_ K_ W_ 0 0 0 rfl rfl rfl (C := RX4) (T := TX4) (N := 11) rfl ⟨Nat.le_of_ble_eq_true rfl, Nat.le_of_ble_eq_true rfl⟩ tyX4 tyX4_ok nmX4 rfl rfl rfl hinX4 (List.mem_of_getElem? (i := 1) rfl) dX4_addShip_46 (fun H_ lo_ W_ => ?_)
    exact hret _ _ _ _ S (sk_1, sc_2) dX4_addShip_49 ⟨(by first | omega | assumption), (by first | omega | assumption), (by first | omega | assumption), bsk_1, bsc_2, (by omega)⟩ W_
  · exact absurd c5 (by omega)
abbrev rX4_addMan : Room := { frames := 1, cells := 0, slots := 0, locals := 21 }
set_option maxHeartbeats 1000000 in
set_option maxRecDepth 100000 in
theorem c_X4_addMan (l_ : Launch) (D : va_G) (cy : Nat → ClassId) (q : Nat → Nat) (S : Int) (M : Int) (sk : Int → Int) (sc : Int → Int) (mk : Int → Int) (ms : Int → Int) (mp : Int → Int) (r4 : Int) (f4 : Int → Int) (kd : Int) (t : Int) (pl : Int) (bS : 0 ≤ S ∧ S ≤ 3) (bM : 0 ≤ M ∧ M ≤ 8) (bsk : ∀ j : Int, 0 ≤ sk j ∧ sk j ≤ 5) (bsc : ∀ j : Int, 0 ≤ sc j ∧ sc j ≤ 99) (bmk : ∀ j : Int, 0 ≤ mk j ∧ mk j ≤ 5) (bms : ∀ j : Int, 0 ≤ ms j ∧ ms j ≤ 9) (bmp : ∀ j : Int, (-1) ≤ mp j ∧ mp j ≤ 2) (bf4 : ∀ j : Int, (-1) ≤ f4 j ∧ f4 j ≤ 99) (rkd : -2147483648 ≤ kd ∧ kd < 2147483648) (rt : -2147483648 ≤ t ∧ t < 2147483648) (rpl : -2147483648 ≤ pl ∧ pl < 2147483648) (hM : M < 8) (hkd : 0 ≤ kd ∧ kd ≤ 5) (ht : 1 ≤ t ∧ t ≤ 9) (hp : -1 ≤ pl ∧ pl ≤ 2) : CTi l_ D cy yX4_addMan wsX4_addMan rX4_addMan [.ref (q 0), .int (zi kd), .int (zi t), .int (zi pl)] ([wI cy q S M sk sc mk ms mp, wF cy (q 12) (q 13) 32 8 r4 f4]) (fun (z : Int) (u : (Int → Int) × (Int → Int) × (Int → Int)) => (z = M) ∧ (u.1 = zu mk M kd) ∧ (u.2.1 = zu ms M t) ∧ (u.2.2 = zu mp M pl) ∧ (∀ j : Int, 0 ≤ u.1 j ∧ u.1 j ≤ 5) ∧ (∀ j : Int, 0 ≤ u.2.1 j ∧ u.2.1 j ≤ 9) ∧ (∀ j : Int, (-1) ≤ u.2.2 j ∧ u.2.2 j ≤ 2) ∧ (0 ≤ M + 1 ∧ M + 1 ≤ 8)) (fun (u : (Int → Int) × (Int → Int) × (Int → Int)) => [wI cy q S (M + 1) sk sc u.1 u.2.1 u.2.2, wF cy (q 12) (q 13) 32 8 0 f4]) := by
  refine CTi.of RX4 cX4_addMan 4 rfl (by decide) rfl (fun z u hz => rfl) (Nat.le_of_ble_eq_true rfl) ?_
  intro p_ e_ s_ m_ ar_ be_ me_ c_ Q_ A_ ls_ F_ K_ W_ hl hret
  have hl : lv_has ls_ 4 [(0, .ref (q 0)), (1, .int (zi kd)), (2, .int (zi t)), (3, .int (zi pl))] := hl
  obtain ⟨H_, hH_⟩ : ∃ x, x = s_.heap := ⟨_, rfl⟩
  obtain ⟨lo_, hlo_⟩ : ∃ x : List Loc, x = [] := ⟨_, rfl⟩
  have W_ : WD D A_ s_.heap ([wI cy q S M sk sc mk ms mp, wF cy (q 12) (q 13) 32 8 r4 f4]) H_ lo_ := by rw [hH_, hlo_]; exact W_
  rw [← hlo_]
  suffices hg_ : W p_ l_ e_ rX4_addMan s_ m_ ar_ be_ me_ c_ H_ lo_ 0 0 Q_ (F0 m_ 0 ls_ []) by rw [hH_] at hg_; exact hg_
  clear hH_ hlo_
  have hinX4 : ∀ w ∈ u_ws RX4 TX4 11, w ∈ wsX4_addMan := fun w h => List.mem_cons_of_mem _ (List.mem_append_left _ (List.mem_append_right _ h))
  refine lv_aload_n F_.1 F_.2.1 dX4_addMan_0 rfl (lv_at hl 0 rfl) ?_
  refine z_get F_ K_ W_ 0 0 1 rfl rfl rfl (C := RX4) (T := TX4) (N := 11) rfl (by decide) hinX4 (List.mem_of_getElem? (i := 1) rfl) dX4_addMan_1 ?_
  refine z_bipush F_ (by decide) dX4_addMan_4 ?_
  refine z_icmp_lt (tgt := 11) F_ (by omega) dX4_addMan_6 (by decide) (fun c6 => ?_) (fun c6 => ?_)
  · refine lv_aload_n F_.1 F_.2.1 dX4_addMan_11 rfl (lv_at hl 0 rfl) ?_
    refine z_get F_ K_ W_ 0 0 4 rfl rfl rfl (C := RX4) (T := TX4) (N := 11) rfl (by decide) hinX4 (List.mem_of_getElem? (i := 2) rfl) dX4_addMan_12 ?_
    refine lv_aload_n F_.1 F_.2.1 dX4_addMan_15 rfl (lv_at hl 0 rfl) ?_
    refine z_get F_ K_ W_ 0 0 1 rfl rfl rfl (C := RX4) (T := TX4) (N := 11) rfl (by decide) hinX4 (List.mem_of_getElem? (i := 1) rfl) dX4_addMan_16 ?_
    refine lv_iload_n F_.1 F_.2.1 dX4_addMan_19 rfl (lv_at hl 1 rfl) ?_
    refine z_iast (sg' := [wI cy q S M sk sc (zu mk M kd) ms mp, wF cy (q 12) (q 13) 32 8 r4 f4]) F_ K_ W_ 0 3 rfl rfl rfl (by omega) (by decide) dX4_addMan_20 (fun H_ lo_ W_ => ?_)
    obtain ⟨mk_1, emk_1⟩ : ∃ x_ : Int → Int, x_ = zu mk M kd := ⟨_, rfl⟩
    rw [← emk_1] at W_
    have bmk_1 : ∀ j : Int, 0 ≤ mk_1 j ∧ mk_1 j ≤ 5 := by rw [emk_1]; exact zu_b bmk (by omega)
    refine lv_aload_n F_.1 F_.2.1 dX4_addMan_21 rfl (lv_at hl 0 rfl) ?_
    refine z_get F_ K_ W_ 0 0 5 rfl rfl rfl (C := RX4) (T := TX4) (N := 11) rfl (by decide) hinX4 (List.mem_of_getElem? (i := 3) rfl) dX4_addMan_22 ?_
    refine lv_aload_n F_.1 F_.2.1 dX4_addMan_25 rfl (lv_at hl 0 rfl) ?_
    refine z_get F_ K_ W_ 0 0 1 rfl rfl rfl (C := RX4) (T := TX4) (N := 11) rfl (by decide) hinX4 (List.mem_of_getElem? (i := 1) rfl) dX4_addMan_26 ?_
    refine lv_iload_n F_.1 F_.2.1 dX4_addMan_29 rfl (lv_at hl 2 rfl) ?_
    refine z_iast (sg' := [wI cy q S M sk sc mk_1 (zu ms M t) mp, wF cy (q 12) (q 13) 32 8 r4 f4]) F_ K_ W_ 0 4 rfl rfl rfl (by omega) (by decide) dX4_addMan_30 (fun H_ lo_ W_ => ?_)
    obtain ⟨ms_2, ems_2⟩ : ∃ x_ : Int → Int, x_ = zu ms M t := ⟨_, rfl⟩
    rw [← ems_2] at W_
    have bms_2 : ∀ j : Int, 0 ≤ ms_2 j ∧ ms_2 j ≤ 9 := by rw [ems_2]; exact zu_b bms (by omega)
    refine lv_aload_n F_.1 F_.2.1 dX4_addMan_31 rfl (lv_at hl 0 rfl) ?_
    refine z_get F_ K_ W_ 0 0 6 rfl rfl rfl (C := RX4) (T := TX4) (N := 11) rfl (by decide) hinX4 (List.mem_of_getElem? (i := 4) rfl) dX4_addMan_32 ?_
    refine lv_aload_n F_.1 F_.2.1 dX4_addMan_35 rfl (lv_at hl 0 rfl) ?_
    refine z_get F_ K_ W_ 0 0 1 rfl rfl rfl (C := RX4) (T := TX4) (N := 11) rfl (by decide) hinX4 (List.mem_of_getElem? (i := 1) rfl) dX4_addMan_36 ?_
    refine lv_iload_n F_.1 F_.2.1 dX4_addMan_39 rfl (lv_at hl 3 rfl) ?_
    refine z_iast (sg' := [wI cy q S M sk sc mk_1 ms_2 (zu mp M pl), wF cy (q 12) (q 13) 32 8 r4 f4]) F_ K_ W_ 0 5 rfl rfl rfl (by omega) (by decide) dX4_addMan_40 (fun H_ lo_ W_ => ?_)
    obtain ⟨mp_3, emp_3⟩ : ∃ x_ : Int → Int, x_ = zu mp M pl := ⟨_, rfl⟩
    rw [← emp_3] at W_
    have bmp_3 : ∀ j : Int, (-1) ≤ mp_3 j ∧ mp_3 j ≤ 2 := by rw [emp_3]; exact zu_b bmp (by omega)
    refine lv_aload_n F_.1 F_.2.1 dX4_addMan_41 rfl (lv_at hl 0 rfl) ?_
    refine z_get F_ K_ W_ 0 0 10 rfl rfl rfl (C := RX4) (T := TX4) (N := 11) rfl (by decide) hinX4 (List.mem_of_getElem? (i := 5) rfl) dX4_addMan_42 ?_
    refine z_callVi F_ K_ W_ [] (c_X2_empty l_ D cy (q 12) (q 13) 32 8 r4 f4 bf4) 0 rfl gX4_addMan_X2_empty rfl (by decide +kernel) ⟨⟨Nat.le_of_ble_eq_true rfl, Nat.le_of_ble_eq_true rfl⟩, rfl, rfl, Nat.zero_le _, Nat.zero_le _⟩ 0 0 2 rfl rfl rfl rfl hl.1 rfl (Nat.le_of_ble_eq_true rfl) [1] [0] [wI cy q S M sk sc mk_1 ms_2 mp_3] (fun (u_ : Unit) => [wI cy q S M sk sc mk_1 ms_2 mp_3, wF cy (q 12) (q 13) 32 8 0 f4]) 2 (by decide +kernel) rfl rfl rfl (fun _ => rfl) (fun _ => rfl) (fun _ => rfl) dX4_addMan_45 (fun z_4 u_ H_ lo_ hw_ W_ => ?_)
    have W_ : WD D A_ s_.heap ([wI cy q S M sk sc mk_1 ms_2 mp_3, wF cy (q 12) (q 13) 32 8 0 f4]) H_ lo_ := W_
    have hw_ : (z_4 = r4) := hw_
    have f45_v := hw_
    refine lv_pop F_.1 F_.2.1 dX4_addMan_48 rfl ?_
    refine lv_aload_n F_.1 F_.2.1 dX4_addMan_49 rfl (lv_at hl 0 rfl) ?_
    refine lv_dup F_.1 F_.2.1 dX4_addMan_50 rfl ?_
    refine z_get F_ K_ W_ 0 0 1 rfl rfl rfl (C := RX4) (T := TX4) (N := 11) rfl (by decide) hinX4 (List.mem_of_getElem? (i := 1) rfl) dX4_addMan_51 ?_
    refine lv_dup_x1 F_.1 F_.2.1 dX4_addMan_54 rfl rfl ?_
    refine z_iconst F_ dX4_addMan_55 ?_
    refine z_iadd F_ dX4_addMan_56 ?_
    refine z_put (sg' := [wI cy q S (M + 1) sk sc mk_1 ms_2 mp_3, wF cy (q 12) (q 13) 32 8 0 f4]) F_ K_ W_ 0 0 1 rfl rfl rfl (C := RX4) (T := TX4) (N := 11) rfl ⟨Nat.le_of_ble_eq_true rfl, Nat.le_of_ble_eq_true rfl⟩ tyX4 tyX4_ok nmX4 rfl rfl rfl hinX4 (List.mem_of_getElem? (i := 1) rfl) dX4_addMan_57 (fun H_ lo_ W_ => ?_)
    exact hret _ _ _ _ M (mk_1, ms_2, mp_3) dX4_addMan_60 ⟨(by first | omega | assumption), (by first | omega | assumption), (by first | omega | assumption), (by first | omega | assumption), bmk_1, bms_2, bmp_3, (by omega)⟩ W_
  · exact absurd c6 (by omega)
abbrev rX4_bitsAt : Room := { frames := 0, cells := 0, slots := 0, locals := 0 }
set_option maxHeartbeats 1000000 in
set_option maxRecDepth 100000 in
theorem c_X4_bitsAt (l_ : Launch) (D : va_G) (cy : Nat → ClassId) (q : Nat → Nat) (S : Int) (M : Int) (sk : Int → Int) (sc : Int → Int) (mk : Int → Int) (ms : Int → Int) (mp : Int → Int) (v : Int) (bS : 0 ≤ S ∧ S ≤ 3) (bM : 0 ≤ M ∧ M ≤ 8) (bsk : ∀ j : Int, 0 ≤ sk j ∧ sk j ≤ 5) (bsc : ∀ j : Int, 0 ≤ sc j ∧ sc j ≤ 99) (bmk : ∀ j : Int, 0 ≤ mk j ∧ mk j ≤ 5) (bms : ∀ j : Int, 0 ≤ ms j ∧ ms j ≤ 9) (bmp : ∀ j : Int, (-1) ≤ mp j ∧ mp j ≤ 2) (rv : -2147483648 ≤ v ∧ v < 2147483648) : CTi l_ D cy yX4_bitsAt wsX4_bitsAt rX4_bitsAt [.ref (q 0), .int (zi v)] ([wI cy q S M sk sc mk ms mp]) (fun (z : Int) (u : Unit) => (z = bitZ mp v M)) (fun (_ : Unit) => [wI cy q S M sk sc mk ms mp]) := by
  refine CTi.of RX4 cX4_bitsAt 4 rfl (by decide) rfl (fun z u hz => rfl) (Nat.le_of_ble_eq_true rfl) ?_
  intro p_ e_ s_ m_ ar_ be_ me_ c_ Q_ A_ ls_ F_ K_ W_ hl hret
  have hl : lv_has ls_ 4 [(0, .ref (q 0)), (1, .int (zi v))] := hl
  obtain ⟨H_, hH_⟩ : ∃ x, x = s_.heap := ⟨_, rfl⟩
  obtain ⟨lo_, hlo_⟩ : ∃ x : List Loc, x = [] := ⟨_, rfl⟩
  have W_ : WD D A_ s_.heap ([wI cy q S M sk sc mk ms mp]) H_ lo_ := by rw [hH_, hlo_]; exact W_
  rw [← hlo_]
  suffices hg_ : W p_ l_ e_ rX4_bitsAt s_ m_ ar_ be_ me_ c_ H_ lo_ 0 0 Q_ (F0 m_ 0 ls_ []) by rw [hH_] at hg_; exact hg_
  clear hH_ hlo_
  have hinX4 : ∀ w ∈ u_ws RX4 TX4 11, w ∈ wsX4_bitsAt := fun w h => List.mem_cons_of_mem _ (List.mem_append_right _ h)
  refine z_iconst F_ dX4_bitsAt_0 ?_
  refine lv_istore_n (lv' := [(2, .int (zi 0)), (0, .ref (q 0)), (1, .int (zi v))]) F_.1 F_.2.1 dX4_bitsAt_1 rfl hl (by decide) rfl (fun ls_ hl => ?_)
  refine z_iconst F_ dX4_bitsAt_2 ?_
  refine lv_istore_n (lv' := [(3, .int (zi 0)), (2, .int (zi 0)), (0, .ref (q 0)), (1, .int (zi v))]) F_.1 F_.2.1 dX4_bitsAt_3 rfl hl (by decide) rfl (fun ls_ hl => ?_)
  have L4 : ∀ (n_ : Nat) (x : Int) (k : Int) (hk : 0 ≤ k ∧ k ≤ M) (hx : x = bitZ mp v k) (hm_ : (M - k : Int) < (n_ : Int)) (ls_ : Array Slot) (H_ : Heap) (lo_ : List Loc), WD D A_ s_.heap ([wI cy q S M sk sc mk ms mp]) H_ lo_ → lv_has ls_ 4 [(3, .int (zi k)), (2, .int (zi x)), (0, .ref (q 0)), (1, .int (zi v))] → W p_ l_ e_ rX4_bitsAt s_ m_ ar_ be_ me_ c_ H_ lo_ 0 0 Q_ (F0 m_ 4 ls_ []) := by
    intro n_
    induction n_ with
    | zero =>
      intro x k hk hx hm_ ls_ H_ lo_ _ _
      exact absurd hm_ (by omega)
    | succ n_ ih_ =>
      intro x k hk hx hm_ ls_ H_ lo_ W_ hl
      have ih4 := ih_
      refine lv_iload_n F_.1 F_.2.1 dX4_bitsAt_4 rfl (lv_at hl 0 rfl) ?_
      refine lv_aload_n F_.1 F_.2.1 dX4_bitsAt_5 rfl (lv_at hl 2 rfl) ?_
      refine z_get F_ K_ W_ 0 0 1 rfl rfl rfl (C := RX4) (T := TX4) (N := 11) rfl (by decide) hinX4 (List.mem_of_getElem? (i := 1) rfl) dX4_bitsAt_6 ?_
      refine z_icmp_ge (tgt := 34) F_ (by omega) dX4_bitsAt_9 (by decide) (fun c9 => ?_) (fun c9 => ?_)
      · refine lv_iload_n F_.1 F_.2.1 dX4_bitsAt_34 rfl (lv_at hl 1 rfl) ?_
        exact hret _ _ _ _ x () dX4_bitsAt_35 (by rw [hx]; congr 1; omega) W_
      · have hzb := bitZ_b mp v hk.1
        rw [← hx] at hzb
        have hp8 := zpw_le (show k ≤ 7 by omega)
        have hp7 : zpw 7 = 128 := rfl
        have hp1 := zpw_pos k
        refine lv_aload_n F_.1 F_.2.1 dX4_bitsAt_12 rfl (lv_at hl 2 rfl) ?_
        refine z_get F_ K_ W_ 0 0 6 rfl rfl rfl (C := RX4) (T := TX4) (N := 11) rfl (by decide) hinX4 (List.mem_of_getElem? (i := 2) rfl) dX4_bitsAt_13 ?_
        refine lv_iload_n F_.1 F_.2.1 dX4_bitsAt_16 rfl (lv_at hl 0 rfl) ?_
        refine z_iald F_ K_ W_ 0 5 rfl rfl (by omega) (by decide) dX4_bitsAt_17 ?_
        have b_1 := bmp k
        refine lv_iload_n F_.1 F_.2.1 dX4_bitsAt_18 rfl (lv_at hl 3 rfl) ?_
        refine z_icmp_ne (tgt := 28) F_ (by omega) dX4_bitsAt_19 (by decide) (fun c19 => ?_) (fun c19 => ?_)
        · refine z_iinc (lv' := [(3, .int (zi (k + 1))), (2, .int (zi x)), (0, .ref (q 0)), (1, .int (zi v))]) F_ dX4_bitsAt_28 hl (k := 0) rfl (by decide) rfl (fun ls_ hl => ?_)
          refine z_goto (tgt := 4) F_ dX4_bitsAt_31 (by decide) ?_
          exact ih4 x (k + 1) (by first | omega | assumption) (by rw [bitZ_s _ _ hk.1, hx]; first | rw [if_pos c19] | (rw [if_neg c19]; omega)) (by omega) ls_ H_ lo_ W_ (lv_sub hl [0, 1, 2, 3] rfl)
        · refine lv_iload_n F_.1 F_.2.1 dX4_bitsAt_22 rfl (lv_at hl 1 rfl) ?_
          refine z_iconst F_ dX4_bitsAt_23 ?_
          refine lv_iload_n F_.1 F_.2.1 dX4_bitsAt_24 rfl (lv_at hl 0 rfl) ?_
          refine z_ishl F_ (by rw [Int.one_mul]; omega) dX4_bitsAt_25 ?_
          have i_2 : 1 * zpw k = zpw k := by exact Int.one_mul _
          rw [i_2]
          refine z_ior F_ (by omega) dX4_bitsAt_26 ?_
          have i_3 : zor x (zpw k) = x + zpw k := by exact zor_pw hzb
          rw [i_3]
          refine lv_istore_n (lv' := [(2, .int (zi (x + zpw k))), (3, .int (zi k)), (0, .ref (q 0)), (1, .int (zi v))]) F_.1 F_.2.1 dX4_bitsAt_27 rfl hl (by decide) rfl (fun ls_ hl => ?_)
          refine z_iinc (lv' := [(3, .int (zi (k + 1))), (2, .int (zi (x + zpw k))), (0, .ref (q 0)), (1, .int (zi v))]) F_ dX4_bitsAt_28 hl (k := 1) rfl (by decide) rfl (fun ls_ hl => ?_)
          refine z_goto (tgt := 4) F_ dX4_bitsAt_31 (by decide) ?_
          exact ih4 (x + zpw k) (k + 1) (by first | omega | assumption) (by rw [bitZ_s _ _ hk.1, hx]; first | rw [if_pos c19] | (rw [if_neg c19]; omega)) (by omega) ls_ H_ lo_ W_ (lv_sub hl [0, 1, 2, 3] rfl)
  exact L4 ((M - 0 : Int).toNat + 1) 0 0 (by first | omega | assumption) (by rfl) (by have := Int.self_le_toNat (M - 0 : Int); omega) ls_ H_ lo_ W_ (lv_sub hl [0, 1, 2, 3] rfl)
abbrev rX4_menAt : Room := { frames := 1, cells := 0, slots := 0, locals := 23 }
set_option maxHeartbeats 1000000 in
set_option maxRecDepth 100000 in
theorem c_X4_menAt (l_ : Launch) (D : va_G) (cy : Nat → ClassId) (q : Nat → Nat) (S : Int) (M : Int) (sk : Int → Int) (sc : Int → Int) (mk : Int → Int) (ms : Int → Int) (mp : Int → Int) (v : Int) (bS : 0 ≤ S ∧ S ≤ 3) (bM : 0 ≤ M ∧ M ≤ 8) (bsk : ∀ j : Int, 0 ≤ sk j ∧ sk j ≤ 5) (bsc : ∀ j : Int, 0 ≤ sc j ∧ sc j ≤ 99) (bmk : ∀ j : Int, 0 ≤ mk j ∧ mk j ≤ 5) (bms : ∀ j : Int, 0 ≤ ms j ∧ ms j ≤ 9) (bmp : ∀ j : Int, (-1) ≤ mp j ∧ mp j ≤ 2) (rv : -2147483648 ≤ v ∧ v < 2147483648) : CTi l_ D cy yX4_menAt wsX4_menAt rX4_menAt [.ref (q 0), .int (zi v)] ([wI cy q S M sk sc mk ms mp]) (fun (z : Int) (u : Unit) => (z = cntZ mp v M)) (fun (_ : Unit) => [wI cy q S M sk sc mk ms mp]) := by
  refine CTi.of RX4 cX4_menAt 2 rfl (by decide) rfl (fun z u hz => rfl) (Nat.le_of_ble_eq_true rfl) ?_
  intro p_ e_ s_ m_ ar_ be_ me_ c_ Q_ A_ ls_ F_ K_ W_ hl hret
  have hl : lv_has ls_ 2 [(0, .ref (q 0)), (1, .int (zi v))] := hl
  obtain ⟨H_, hH_⟩ : ∃ x, x = s_.heap := ⟨_, rfl⟩
  obtain ⟨lo_, hlo_⟩ : ∃ x : List Loc, x = [] := ⟨_, rfl⟩
  have W_ : WD D A_ s_.heap ([wI cy q S M sk sc mk ms mp]) H_ lo_ := by rw [hH_, hlo_]; exact W_
  rw [← hlo_]
  suffices hg_ : W p_ l_ e_ rX4_menAt s_ m_ ar_ be_ me_ c_ H_ lo_ 0 0 Q_ (F0 m_ 0 ls_ []) by rw [hH_] at hg_; exact hg_
  clear hH_ hlo_
  refine lv_aload_n F_.1 F_.2.1 dX4_menAt_0 rfl (lv_at hl 0 rfl) ?_
  refine lv_iload_n F_.1 F_.2.1 dX4_menAt_1 rfl (lv_at hl 1 rfl) ?_
  refine z_callVip F_ K_ W_ [.int (zi v)] (c_X4_bitsAt l_ D cy q S M sk sc mk ms mp v (by omega) (by omega) bsk bsc bmk bms bmp (by first | omega | assumption)) 1 rfl gX4_menAt_X4_bitsAt rfl (by decide +kernel) ⟨⟨Nat.le_of_ble_eq_true rfl, Nat.le_of_ble_eq_true rfl⟩, rfl, rfl, Nat.zero_le _, Nat.zero_le _⟩ 0 0 4 rfl rfl rfl rfl hl.1 rfl (Nat.le_of_ble_eq_true rfl) [0] ([] : List Nat) ([] : List va_W) 1 (by decide +kernel) rfl rfl rfl dX4_menAt_2 (fun z_1 _ H_ lo_ hw_ W_ => ?_)
  have hw_ : (z_1 = bitZ mp v M) := hw_
  have f2_v := hw_
  have hzb := bitZ_b mp v (m := M) (by omega)
  rw [← f2_v] at hzb
  have hp8 := zpw_le (show M ≤ 8 by omega)
  have hp7 : zpw 8 = 256 := rfl
  refine z_callSip F_ K_ W_ [.int (zi z_1)] (c_J6_bitCount_0f7a4 l_ D cy z_1 (by first | omega | assumption)) 1 rfl gX4_menAt_J6_bitCount_0f7a4 rfl (by decide +kernel) ⟨⟨Nat.le_of_ble_eq_true rfl, Nat.le_of_ble_eq_true rfl⟩, rfl, rfl, Nat.zero_le _, Nat.zero_le _⟩ hl.1 rfl (Nat.le_of_ble_eq_true rfl) ([] : List Nat) [0] [wI cy q S M sk sc mk ms mp] 1 (by decide +kernel) rfl rfl rfl dX4_menAt_5 (fun z_2 _ H_ lo_ hw_ W_ => ?_)
  have hw_ : (z_2 = popZ z_1 10) := hw_
  have f5_v := hw_
  exact hret _ _ _ _ z_2 () dX4_menAt_8 (by rw [f5_v, f2_v]; exact popZ_bitZ mp v ⟨by omega, by omega⟩) W_
abbrev rX4_skillsAt : Room := { frames := 0, cells := 0, slots := 0, locals := 0 }
set_option maxHeartbeats 1000000 in
set_option maxRecDepth 100000 in
theorem c_X4_skillsAt (l_ : Launch) (D : va_G) (cy : Nat → ClassId) (q : Nat → Nat) (S : Int) (M : Int) (sk : Int → Int) (sc : Int → Int) (mk : Int → Int) (ms : Int → Int) (mp : Int → Int) (v : Int) (bS : 0 ≤ S ∧ S ≤ 3) (bM : 0 ≤ M ∧ M ≤ 8) (bsk : ∀ j : Int, 0 ≤ sk j ∧ sk j ≤ 5) (bsc : ∀ j : Int, 0 ≤ sc j ∧ sc j ≤ 99) (bmk : ∀ j : Int, 0 ≤ mk j ∧ mk j ≤ 5) (bms : ∀ j : Int, 0 ≤ ms j ∧ ms j ≤ 9) (bmp : ∀ j : Int, (-1) ≤ mp j ∧ mp j ≤ 2) (rv : -2147483648 ≤ v ∧ v < 2147483648) : CTi l_ D cy yX4_skillsAt wsX4_skillsAt rX4_skillsAt [.ref (q 0), .int (zi v)] ([wI cy q S M sk sc mk ms mp]) (fun (z : Int) (u : Unit) => (z = sumZ mp ms v M)) (fun (_ : Unit) => [wI cy q S M sk sc mk ms mp]) := by
  refine CTi.of RX4 cX4_skillsAt 4 rfl (by decide) rfl (fun z u hz => rfl) (Nat.le_of_ble_eq_true rfl) ?_
  intro p_ e_ s_ m_ ar_ be_ me_ c_ Q_ A_ ls_ F_ K_ W_ hl hret
  have hl : lv_has ls_ 4 [(0, .ref (q 0)), (1, .int (zi v))] := hl
  obtain ⟨H_, hH_⟩ : ∃ x, x = s_.heap := ⟨_, rfl⟩
  obtain ⟨lo_, hlo_⟩ : ∃ x : List Loc, x = [] := ⟨_, rfl⟩
  have W_ : WD D A_ s_.heap ([wI cy q S M sk sc mk ms mp]) H_ lo_ := by rw [hH_, hlo_]; exact W_
  rw [← hlo_]
  suffices hg_ : W p_ l_ e_ rX4_skillsAt s_ m_ ar_ be_ me_ c_ H_ lo_ 0 0 Q_ (F0 m_ 0 ls_ []) by rw [hH_] at hg_; exact hg_
  clear hH_ hlo_
  have hinX4 : ∀ w ∈ u_ws RX4 TX4 11, w ∈ wsX4_skillsAt := fun w h => List.mem_cons_of_mem _ (List.mem_append_right _ h)
  refine z_iconst F_ dX4_skillsAt_0 ?_
  refine lv_istore_n (lv' := [(2, .int (zi 0)), (0, .ref (q 0)), (1, .int (zi v))]) F_.1 F_.2.1 dX4_skillsAt_1 rfl hl (by decide) rfl (fun ls_ hl => ?_)
  refine z_iconst F_ dX4_skillsAt_2 ?_
  refine lv_istore_n (lv' := [(3, .int (zi 0)), (2, .int (zi 0)), (0, .ref (q 0)), (1, .int (zi v))]) F_.1 F_.2.1 dX4_skillsAt_3 rfl hl (by decide) rfl (fun ls_ hl => ?_)
  have L4 : ∀ (n_ : Nat) (x : Int) (k : Int) (hk : 0 ≤ k ∧ k ≤ M) (hx : x = sumZ mp ms v k) (hm_ : (M - k : Int) < (n_ : Int)) (ls_ : Array Slot) (H_ : Heap) (lo_ : List Loc), WD D A_ s_.heap ([wI cy q S M sk sc mk ms mp]) H_ lo_ → lv_has ls_ 4 [(3, .int (zi k)), (2, .int (zi x)), (0, .ref (q 0)), (1, .int (zi v))] → W p_ l_ e_ rX4_skillsAt s_ m_ ar_ be_ me_ c_ H_ lo_ 0 0 Q_ (F0 m_ 4 ls_ []) := by
    intro n_
    induction n_ with
    | zero =>
      intro x k hk hx hm_ ls_ H_ lo_ _ _
      exact absurd hm_ (by omega)
    | succ n_ ih_ =>
      intro x k hk hx hm_ ls_ H_ lo_ W_ hl
      have ih4 := ih_
      refine lv_iload_n F_.1 F_.2.1 dX4_skillsAt_4 rfl (lv_at hl 0 rfl) ?_
      refine lv_aload_n F_.1 F_.2.1 dX4_skillsAt_5 rfl (lv_at hl 2 rfl) ?_
      refine z_get F_ K_ W_ 0 0 1 rfl rfl rfl (C := RX4) (T := TX4) (N := 11) rfl (by decide) hinX4 (List.mem_of_getElem? (i := 1) rfl) dX4_skillsAt_6 ?_
      refine z_icmp_ge (tgt := 37) F_ (by omega) dX4_skillsAt_9 (by decide) (fun c9 => ?_) (fun c9 => ?_)
      · refine lv_iload_n F_.1 F_.2.1 dX4_skillsAt_37 rfl (lv_at hl 1 rfl) ?_
        exact hret _ _ _ _ x () dX4_skillsAt_38 (by rw [hx]; congr 1; omega) W_
      · refine lv_aload_n F_.1 F_.2.1 dX4_skillsAt_12 rfl (lv_at hl 2 rfl) ?_
        refine z_get F_ K_ W_ 0 0 6 rfl rfl rfl (C := RX4) (T := TX4) (N := 11) rfl (by decide) hinX4 (List.mem_of_getElem? (i := 2) rfl) dX4_skillsAt_13 ?_
        refine lv_iload_n F_.1 F_.2.1 dX4_skillsAt_16 rfl (lv_at hl 0 rfl) ?_
        refine z_iald F_ K_ W_ 0 5 rfl rfl (by omega) (by decide) dX4_skillsAt_17 ?_
        have b_1 := bmp k
        refine lv_iload_n F_.1 F_.2.1 dX4_skillsAt_18 rfl (lv_at hl 3 rfl) ?_
        refine z_icmp_ne (tgt := 31) F_ (by omega) dX4_skillsAt_19 (by decide) (fun c19 => ?_) (fun c19 => ?_)
        · refine z_iinc (lv' := [(3, .int (zi (k + 1))), (2, .int (zi x)), (0, .ref (q 0)), (1, .int (zi v))]) F_ dX4_skillsAt_31 hl (k := 0) rfl (by decide) rfl (fun ls_ hl => ?_)
          refine z_goto (tgt := 4) F_ dX4_skillsAt_34 (by decide) ?_
          exact ih4 x (k + 1) (by first | omega | assumption) (by rw [sumZ_s _ _ _ hk.1, hx]; first | rw [if_pos c19] | (rw [if_neg c19]; omega)) (by omega) ls_ H_ lo_ W_ (lv_sub hl [0, 1, 2, 3] rfl)
        · refine lv_iload_n F_.1 F_.2.1 dX4_skillsAt_22 rfl (lv_at hl 1 rfl) ?_
          refine lv_aload_n F_.1 F_.2.1 dX4_skillsAt_23 rfl (lv_at hl 2 rfl) ?_
          refine z_get F_ K_ W_ 0 0 5 rfl rfl rfl (C := RX4) (T := TX4) (N := 11) rfl (by decide) hinX4 (List.mem_of_getElem? (i := 3) rfl) dX4_skillsAt_24 ?_
          refine lv_iload_n F_.1 F_.2.1 dX4_skillsAt_27 rfl (lv_at hl 0 rfl) ?_
          refine z_iald F_ K_ W_ 0 4 rfl rfl (by omega) (by decide) dX4_skillsAt_28 ?_
          have b_2 := bms k
          refine z_iadd F_ dX4_skillsAt_29 ?_
          refine lv_istore_n (lv' := [(2, .int (zi (x + (ms k)))), (3, .int (zi k)), (0, .ref (q 0)), (1, .int (zi v))]) F_.1 F_.2.1 dX4_skillsAt_30 rfl hl (by decide) rfl (fun ls_ hl => ?_)
          refine z_iinc (lv' := [(3, .int (zi (k + 1))), (2, .int (zi (x + (ms k)))), (0, .ref (q 0)), (1, .int (zi v))]) F_ dX4_skillsAt_31 hl (k := 1) rfl (by decide) rfl (fun ls_ hl => ?_)
          refine z_goto (tgt := 4) F_ dX4_skillsAt_34 (by decide) ?_
          exact ih4 (x + (ms k)) (k + 1) (by first | omega | assumption) (by rw [sumZ_s _ _ _ hk.1, hx]; first | rw [if_pos c19] | (rw [if_neg c19]; omega)) (by omega) ls_ H_ lo_ W_ (lv_sub hl [0, 1, 2, 3] rfl)
  exact L4 ((M - 0 : Int).toNat + 1) 0 0 (by first | omega | assumption) (by rfl) (by have := Int.self_le_toNat (M - 0 : Int); omega) ls_ H_ lo_ W_ (lv_sub hl [0, 1, 2, 3] rfl)
abbrev rX4_allCalls : Room := { frames := 0, cells := 0, slots := 0, locals := 0 }
set_option maxHeartbeats 1000000 in
set_option maxRecDepth 100000 in
theorem c_X4_allCalls (l_ : Launch) (D : va_G) (cy : Nat → ClassId) (q : Nat → Nat) (S : Int) (M : Int) (sk : Int → Int) (sc : Int → Int) (mk : Int → Int) (ms : Int → Int) (mp : Int → Int) (bS : 0 ≤ S ∧ S ≤ 3) (bM : 0 ≤ M ∧ M ≤ 8) (bsk : ∀ j : Int, 0 ≤ sk j ∧ sk j ≤ 5) (bsc : ∀ j : Int, 0 ≤ sc j ∧ sc j ≤ 99) (bmk : ∀ j : Int, 0 ≤ mk j ∧ mk j ≤ 5) (bms : ∀ j : Int, 0 ≤ ms j ∧ ms j ≤ 9) (bmp : ∀ j : Int, (-1) ≤ mp j ∧ mp j ≤ 2) : CTi l_ D cy yX4_allCalls wsX4_allCalls rX4_allCalls [.ref (q 0)] ([wI cy q S M sk sc mk ms mp]) (fun (z : Int) (u : Unit) => (z = totZ sc S)) (fun (_ : Unit) => [wI cy q S M sk sc mk ms mp]) := by
  refine CTi.of RX4 cX4_allCalls 3 rfl (by decide) rfl (fun z u hz => rfl) (Nat.le_of_ble_eq_true rfl) ?_
  intro p_ e_ s_ m_ ar_ be_ me_ c_ Q_ A_ ls_ F_ K_ W_ hl hret
  have hl : lv_has ls_ 3 [(0, .ref (q 0))] := hl
  obtain ⟨H_, hH_⟩ : ∃ x, x = s_.heap := ⟨_, rfl⟩
  obtain ⟨lo_, hlo_⟩ : ∃ x : List Loc, x = [] := ⟨_, rfl⟩
  have W_ : WD D A_ s_.heap ([wI cy q S M sk sc mk ms mp]) H_ lo_ := by rw [hH_, hlo_]; exact W_
  rw [← hlo_]
  suffices hg_ : W p_ l_ e_ rX4_allCalls s_ m_ ar_ be_ me_ c_ H_ lo_ 0 0 Q_ (F0 m_ 0 ls_ []) by rw [hH_] at hg_; exact hg_
  clear hH_ hlo_
  have hinX4 : ∀ w ∈ u_ws RX4 TX4 11, w ∈ wsX4_allCalls := fun w h => List.mem_cons_of_mem _ (List.mem_append_right _ h)
  refine z_iconst F_ dX4_allCalls_0 ?_
  refine lv_istore_n (lv' := [(1, .int (zi 0)), (0, .ref (q 0))]) F_.1 F_.2.1 dX4_allCalls_1 rfl hl (by decide) rfl (fun ls_ hl => ?_)
  refine z_iconst F_ dX4_allCalls_2 ?_
  refine lv_istore_n (lv' := [(2, .int (zi 0)), (1, .int (zi 0)), (0, .ref (q 0))]) F_.1 F_.2.1 dX4_allCalls_3 rfl hl (by decide) rfl (fun ls_ hl => ?_)
  have L4 : ∀ (n_ : Nat) (x : Int) (k : Int) (hk : 0 ≤ k ∧ k ≤ S) (hx : x = totZ sc k) (hm_ : (S - k : Int) < (n_ : Int)) (ls_ : Array Slot) (H_ : Heap) (lo_ : List Loc), WD D A_ s_.heap ([wI cy q S M sk sc mk ms mp]) H_ lo_ → lv_has ls_ 3 [(2, .int (zi k)), (1, .int (zi x)), (0, .ref (q 0))] → W p_ l_ e_ rX4_allCalls s_ m_ ar_ be_ me_ c_ H_ lo_ 0 0 Q_ (F0 m_ 4 ls_ []) := by
    intro n_
    induction n_ with
    | zero =>
      intro x k hk hx hm_ ls_ H_ lo_ _ _
      exact absurd hm_ (by omega)
    | succ n_ ih_ =>
      intro x k hk hx hm_ ls_ H_ lo_ W_ hl
      have ih4 := ih_
      refine lv_iload_n F_.1 F_.2.1 dX4_allCalls_4 rfl (lv_at hl 0 rfl) ?_
      refine lv_aload_n F_.1 F_.2.1 dX4_allCalls_5 rfl (lv_at hl 2 rfl) ?_
      refine z_get F_ K_ W_ 0 0 0 rfl rfl rfl (C := RX4) (T := TX4) (N := 11) rfl (by decide) hinX4 (List.mem_of_getElem? (i := 1) rfl) dX4_allCalls_6 ?_
      refine z_icmp_ge (tgt := 27) F_ (by omega) dX4_allCalls_9 (by decide) (fun c9 => ?_) (fun c9 => ?_)
      · refine lv_iload_n F_.1 F_.2.1 dX4_allCalls_27 rfl (lv_at hl 1 rfl) ?_
        exact hret _ _ _ _ x () dX4_allCalls_28 (by rw [hx]; congr 1; omega) W_
      · refine lv_iload_n F_.1 F_.2.1 dX4_allCalls_12 rfl (lv_at hl 1 rfl) ?_
        refine lv_aload_n F_.1 F_.2.1 dX4_allCalls_13 rfl (lv_at hl 2 rfl) ?_
        refine z_get F_ K_ W_ 0 0 3 rfl rfl rfl (C := RX4) (T := TX4) (N := 11) rfl (by decide) hinX4 (List.mem_of_getElem? (i := 2) rfl) dX4_allCalls_14 ?_
        refine lv_iload_n F_.1 F_.2.1 dX4_allCalls_17 rfl (lv_at hl 0 rfl) ?_
        refine z_iald F_ K_ W_ 0 2 rfl rfl (by omega) (by decide) dX4_allCalls_18 ?_
        have b_1 := bsc k
        refine z_iadd F_ dX4_allCalls_19 ?_
        refine lv_istore_n (lv' := [(1, .int (zi (x + (sc k)))), (2, .int (zi k)), (0, .ref (q 0))]) F_.1 F_.2.1 dX4_allCalls_20 rfl hl (by decide) rfl (fun ls_ hl => ?_)
        refine z_iinc (lv' := [(2, .int (zi (k + 1))), (1, .int (zi (x + (sc k)))), (0, .ref (q 0))]) F_ dX4_allCalls_21 hl (k := 1) rfl (by decide) rfl (fun ls_ hl => ?_)
        refine z_goto (tgt := 4) F_ dX4_allCalls_24 (by decide) ?_
        exact ih4 (x + (sc k)) (k + 1) (by first | omega | assumption) (by rw [totZ_s _ hk.1, hx]) (by omega) ls_ H_ lo_ W_ (lv_sub hl [0, 1, 2] rfl)
  exact L4 ((S - 0 : Int).toNat + 1) 0 0 (by first | omega | assumption) (by rfl) (by have := Int.self_le_toNat (S - 0 : Int); omega) ls_ H_ lo_ W_ (lv_sub hl [0, 1, 2] rfl)
abbrev rX4_liking : Room := { frames := 1, cells := 0, slots := 0, locals := 25 }
set_option maxHeartbeats 1000000 in
set_option maxRecDepth 100000 in
theorem c_X4_liking (l_ : Launch) (D : va_G) (cy : Nat → ClassId) (q : Nat → Nat) (S : Int) (M : Int) (sk : Int → Int) (sc : Int → Int) (mk : Int → Int) (ms : Int → Int) (mp : Int → Int) (i : Int) (bS : 0 ≤ S ∧ S ≤ 3) (bM : 0 ≤ M ∧ M ≤ 8) (bsk : ∀ j : Int, 0 ≤ sk j ∧ sk j ≤ 5) (bsc : ∀ j : Int, 0 ≤ sc j ∧ sc j ≤ 99) (bmk : ∀ j : Int, 0 ≤ mk j ∧ mk j ≤ 5) (bms : ∀ j : Int, 0 ≤ ms j ∧ ms j ≤ 9) (bmp : ∀ j : Int, (-1) ≤ mp j ∧ mp j ≤ 2) (ri : -2147483648 ≤ i ∧ i < 2147483648) (hi : 0 ≤ i ∧ i < M) : CTi l_ D cy yX4_liking wsX4_liking rX4_liking [.ref (q 0), .int (zi i)] ([wI cy q S M sk sc mk ms mp]) (fun (z : Int) (u : Unit) => (z = if 0 ≤ mp i ∧ mp i < S then likedZ (mk i) (ms i) (sc (mp i)) else -1)) (fun (_ : Unit) => [wI cy q S M sk sc mk ms mp]) := by
  refine CTi.of RX4 cX4_liking 3 rfl (by decide) rfl (fun z u hz => rfl) (Nat.le_of_ble_eq_true rfl) ?_
  intro p_ e_ s_ m_ ar_ be_ me_ c_ Q_ A_ ls_ F_ K_ W_ hl hret
  have hl : lv_has ls_ 3 [(0, .ref (q 0)), (1, .int (zi i))] := hl
  obtain ⟨H_, hH_⟩ : ∃ x, x = s_.heap := ⟨_, rfl⟩
  obtain ⟨lo_, hlo_⟩ : ∃ x : List Loc, x = [] := ⟨_, rfl⟩
  have W_ : WD D A_ s_.heap ([wI cy q S M sk sc mk ms mp]) H_ lo_ := by rw [hH_, hlo_]; exact W_
  rw [← hlo_]
  suffices hg_ : W p_ l_ e_ rX4_liking s_ m_ ar_ be_ me_ c_ H_ lo_ 0 0 Q_ (F0 m_ 0 ls_ []) by rw [hH_] at hg_; exact hg_
  clear hH_ hlo_
  have hinX4 : ∀ w ∈ u_ws RX4 TX4 11, w ∈ wsX4_liking := fun w h => List.mem_cons_of_mem _ (List.mem_append_right _ h)
  refine lv_aload_n F_.1 F_.2.1 dX4_liking_0 rfl (lv_at hl 0 rfl) ?_
  refine z_get F_ K_ W_ 0 0 6 rfl rfl rfl (C := RX4) (T := TX4) (N := 11) rfl (by decide) hinX4 (List.mem_of_getElem? (i := 1) rfl) dX4_liking_1 ?_
  refine lv_iload_n F_.1 F_.2.1 dX4_liking_4 rfl (lv_at hl 1 rfl) ?_
  refine z_iald F_ K_ W_ 0 5 rfl rfl (by omega) (by decide) dX4_liking_5 ?_
  have b_1 := bmp i
  refine lv_istore_n (lv' := [(2, .int (zi (mp i))), (0, .ref (q 0)), (1, .int (zi i))]) F_.1 F_.2.1 dX4_liking_6 rfl hl (by decide) rfl (fun ls_ hl => ?_)
  refine lv_aload_n F_.1 F_.2.1 dX4_liking_7 rfl (lv_at hl 1 rfl) ?_
  refine lv_iload_n F_.1 F_.2.1 dX4_liking_8 rfl (lv_at hl 0 rfl) ?_
  refine z_callVip F_ K_ W_ [.int (zi (mp i))] (c_X4_hasShip l_ D cy q S M sk sc mk ms mp (mp i) (by omega) (by omega) bsk bsc bmk bms bmp (by first | omega | assumption)) 1 rfl gX4_liking_X4_hasShip rfl (by decide +kernel) ⟨⟨Nat.le_of_ble_eq_true rfl, Nat.le_of_ble_eq_true rfl⟩, rfl, rfl, Nat.zero_le _, Nat.zero_le _⟩ 0 0 4 rfl rfl rfl rfl hl.1 rfl (Nat.le_of_ble_eq_true rfl) [0] ([] : List Nat) ([] : List va_W) 1 (by decide +kernel) rfl rfl rfl dX4_liking_9 (fun z_2 _ H_ lo_ hw_ W_ => ?_)
  have hw_ : ((z_2 = 1 ∧ (0 ≤ (mp i) ∧ (mp i) < S)) ∨ (z_2 = 0 ∧ ¬ (0 ≤ (mp i) ∧ (mp i) < S))) := hw_
  have f9_v := hw_
  refine z_if_eq (tgt := 39) F_ (by omega) dX4_liking_12 (by decide) (fun c12 => ?_) (fun c12 => ?_)
  · refine z_iconst F_ dX4_liking_39 ?_
    exact hret _ _ _ _ (-1) () dX4_liking_40 (by first | (rw [if_pos (by omega)]; assumption) | (rw [if_neg (by omega)])) W_
  · refine lv_aload_n F_.1 F_.2.1 dX4_liking_15 rfl (lv_at hl 1 rfl) ?_
    refine z_get F_ K_ W_ 0 0 4 rfl rfl rfl (C := RX4) (T := TX4) (N := 11) rfl (by decide) hinX4 (List.mem_of_getElem? (i := 2) rfl) dX4_liking_16 ?_
    refine lv_iload_n F_.1 F_.2.1 dX4_liking_19 rfl (lv_at hl 2 rfl) ?_
    refine z_iald F_ K_ W_ 0 3 rfl rfl (by omega) (by decide) dX4_liking_20 ?_
    have b_3 := bmk i
    refine lv_aload_n F_.1 F_.2.1 dX4_liking_21 rfl (lv_at hl 1 rfl) ?_
    refine z_get F_ K_ W_ 0 0 5 rfl rfl rfl (C := RX4) (T := TX4) (N := 11) rfl (by decide) hinX4 (List.mem_of_getElem? (i := 3) rfl) dX4_liking_22 ?_
    refine lv_iload_n F_.1 F_.2.1 dX4_liking_25 rfl (lv_at hl 2 rfl) ?_
    refine z_iald F_ K_ W_ 0 4 rfl rfl (by omega) (by decide) dX4_liking_26 ?_
    have b_4 := bms i
    refine lv_aload_n F_.1 F_.2.1 dX4_liking_27 rfl (lv_at hl 1 rfl) ?_
    refine z_get F_ K_ W_ 0 0 3 rfl rfl rfl (C := RX4) (T := TX4) (N := 11) rfl (by decide) hinX4 (List.mem_of_getElem? (i := 4) rfl) dX4_liking_28 ?_
    refine lv_iload_n F_.1 F_.2.1 dX4_liking_31 rfl (lv_at hl 0 rfl) ?_
    refine z_iald F_ K_ W_ 0 2 rfl rfl (by omega) (by decide) dX4_liking_32 ?_
    have b_5 := bsc (mp i)
    refine z_callSip F_ K_ W_ [.int (zi (mk i)), .int (zi (ms i)), .int (zi (sc (mp i)))] (c_X5_liked l_ D cy (mk i) (ms i) (sc (mp i)) (by first | omega | assumption) (by first | omega | assumption) (by first | omega | assumption) (by first | omega | assumption) (by first | omega | assumption)) 3 rfl gX4_liking_X5_liked rfl (by decide +kernel) ⟨⟨Nat.le_of_ble_eq_true rfl, Nat.le_of_ble_eq_true rfl⟩, rfl, rfl, Nat.zero_le _, Nat.zero_le _⟩ hl.1 rfl (Nat.le_of_ble_eq_true rfl) ([] : List Nat) [0] [wI cy q S M sk sc mk ms mp] 1 (by decide +kernel) rfl rfl rfl dX4_liking_33 (fun z_6 _ H_ lo_ hw_ W_ => ?_)
    have hw_ : (z_6 = likedZ (mk i) (ms i) (sc (mp i))) := hw_
    have f33_v := hw_
    refine z_goto (tgt := 40) F_ dX4_liking_36 (by decide) ?_
    exact hret _ _ _ _ z_6 () dX4_liking_40 (by first | (rw [if_pos (by omega)]; assumption) | (rw [if_neg (by omega)])) W_
