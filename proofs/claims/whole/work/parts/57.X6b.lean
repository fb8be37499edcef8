theorem zi_i2b {v : Int} (h : 0 ≤ v ∧ v < 128) : (zi v).toInt8.toInt32 = zi v := by
  have key : ∀ j : Nat, j < 128 → (nI j).toInt8.toInt32 = nI j := by decide +kernel
  rw [zi_bv h.1]
  exact key _ (by omega)
theorem z_i2b {p : Program} {l : Launch} {e : Env} {R : Room} {s : State} {m : MethodId} {args : Array Value} {below : List Frame} {meth : Method} {c : Code} {H : Heap} {locs : List Loc} {cells slots : Nat} {Q : State → Prop} {cc : ByteArray} {pc : Nat} {ls : Array Slot} {rest : List Value} {nL : Nat} {Ts : List Cond} {own : String} (F : CallFix p m c cc nL s args Ts own) {x : Int} (h : 0 ≤ x ∧ x < 128) (hdg : decode cc pc = .ok (.i2b, 1)) (k : W p l e R s m args below meth c H locs cells slots Q (F0 m (pc + 1) ls (.int (zi x) :: rest))) : W p l e R s m args below meth c H locs cells slots Q (F0 m pc ls (.int (zi x) :: rest)) := lv_i2b F.1 F.2.1 hdg (zi_i2b h) k

abbrev rX6_append : Room := { frames := 0, cells := 0, slots := 0, locals := 0 }
set_option maxHeartbeats 1000000 in
set_option maxRecDepth 100000 in
theorem c_X6_append (l_ : Launch) (D : va_G) (cy : Nat → ClassId) (x : Nat → Nat) (ln : Int) (tok : Int) (st : Int) (en : Int) (va : Int) (xb : Int → Int) (c : Int) (bxb : ∀ j : Int, 0 ≤ xb j ∧ xb j ≤ 127) (rc : -2147483648 ≤ c ∧ c < 2147483648) (hln : 0 ≤ ln ∧ ln ≤ 150) (hc : 0 ≤ c ∧ c ≤ 127) : CTi l_ D cy yX6_append wsX6_append rX6_append [.ref (x 0), .int (zi c)] ([wX cy x ln tok st en va xb]) (fun (z : Int) (u : (Int) × (Int → Int)) => (z = u.1) ∧ ((ln < 150 ∧ u.1 = ln + 1 ∧ u.2 = zu xb ln c) ∨ (ln = 150 ∧ u.1 = ln ∧ u.2 = xb)) ∧ (∀ j : Int, 0 ≤ u.2 j ∧ u.2 j ≤ 127)) (fun (u : (Int) × (Int → Int)) => [wX cy x u.1 tok st en va u.2]) := by
  refine CTi.of RX6 cX6_append 2 rfl (by decide) rfl (fun z u hz => rfl) (Nat.le_of_ble_eq_true rfl) ?_
  intro p_ e_ s_ m_ ar_ be_ me_ c_ Q_ A_ ls_ F_ K_ W_ hl hret
  have hl : lv_has ls_ 2 [(0, .ref (x 0)), (1, .int (zi c))] := hl
  obtain ⟨H_, hH_⟩ : ∃ x, x = s_.heap := ⟨_, rfl⟩
  obtain ⟨lo_, hlo_⟩ : ∃ x : List Loc, x = [] := ⟨_, rfl⟩
  have W_ : WD D A_ s_.heap ([wX cy x ln tok st en va xb]) H_ lo_ := by rw [hH_, hlo_]; exact W_
  rw [← hlo_]
  suffices hg_ : W p_ l_ e_ rX6_append s_ m_ ar_ be_ me_ c_ H_ lo_ 0 0 Q_ (F0 m_ 0 ls_ []) by rw [hH_] at hg_; exact hg_
  clear hH_ hlo_
  have hinX6 : ∀ w ∈ u_ws RX6 TX6 6, w ∈ wsX6_append := fun w h => List.mem_cons_of_mem _ (List.mem_append_right _ h)
  refine lv_aload_n F_.1 F_.2.1 dX6_append_0 rfl (lv_at hl 0 rfl) ?_
  refine z_get F_ K_ W_ 0 0 1 rfl rfl rfl (C := RX6) (T := TX6) (N := 6) rfl (by decide) hinX6 (List.mem_of_getElem? (i := 1) rfl) dX6_append_1 ?_
  refine z_sipush F_ (by decide) dX6_append_4 ?_
  refine z_icmp_ge (tgt := 31) F_ (by omega) dX6_append_7 (by decide) (fun c7 => ?_) (fun c7 => ?_)
  · refine lv_aload_n F_.1 F_.2.1 dX6_append_31 rfl (lv_at hl 0 rfl) ?_
    refine z_get F_ K_ W_ 0 0 1 rfl rfl rfl (C := RX6) (T := TX6) (N := 6) rfl (by decide) hinX6 (List.mem_of_getElem? (i := 1) rfl) dX6_append_32 ?_
    exact hret _ _ _ _ ln (ln, xb) dX6_append_35 ⟨(by rfl), (by first | exact Or.inl ⟨by omega, rfl, by assumption⟩ | exact Or.inr ⟨by omega, rfl, rfl⟩), bxb⟩ W_
  · refine lv_aload_n F_.1 F_.2.1 dX6_append_10 rfl (lv_at hl 0 rfl) ?_
    refine z_get F_ K_ W_ 0 0 0 rfl rfl rfl (C := RX6) (T := TX6) (N := 6) rfl (by decide) hinX6 (List.mem_of_getElem? (i := 2) rfl) dX6_append_11 ?_
    refine lv_aload_n F_.1 F_.2.1 dX6_append_14 rfl (lv_at hl 0 rfl) ?_
    refine z_get F_ K_ W_ 0 0 1 rfl rfl rfl (C := RX6) (T := TX6) (N := 6) rfl (by decide) hinX6 (List.mem_of_getElem? (i := 1) rfl) dX6_append_15 ?_
    refine lv_iload_n F_.1 F_.2.1 dX6_append_18 rfl (lv_at hl 1 rfl) ?_
    refine z_i2b F_ (by omega) dX6_append_19 ?_
    refine z_bast (sg' := [wX cy x ln tok st en va (zu xb ln c)]) F_ K_ W_ 0 1 rfl rfl rfl (by omega) (by decide) (by omega) dX6_append_20 (fun H_ lo_ W_ => ?_)
    obtain ⟨xb_1, exb_1⟩ : ∃ x_ : Int → Int, x_ = zu xb ln c := ⟨_, rfl⟩
    rw [← exb_1] at W_
    have bxb_1 : ∀ j : Int, 0 ≤ xb_1 j ∧ xb_1 j ≤ 127 := by rw [exb_1]; exact zu_b bxb (by omega)
    refine lv_aload_n F_.1 F_.2.1 dX6_append_21 rfl (lv_at hl 0 rfl) ?_
    refine lv_dup F_.1 F_.2.1 dX6_append_22 rfl ?_
    refine z_get F_ K_ W_ 0 0 1 rfl rfl rfl (C := RX6) (T := TX6) (N := 6) rfl (by decide) hinX6 (List.mem_of_getElem? (i := 1) rfl) dX6_append_23 ?_
    refine z_iconst F_ dX6_append_26 ?_
    refine z_iadd F_ dX6_append_27 ?_
    refine z_put (sg' := [wX cy x (ln + 1) tok st en va xb_1]) F_ K_ W_ 0 0 1 rfl rfl rfl (C := RX6) (T := TX6) (N := 6) rfl ⟨Nat.le_of_ble_eq_true rfl, Nat.le_of_ble_eq_true rfl⟩ tyX6 tyX6_ok nmX6 rfl rfl rfl hinX6 (List.mem_of_getElem? (i := 1) rfl) dX6_append_28 (fun H_ lo_ W_ => ?_)
    refine lv_aload_n F_.1 F_.2.1 dX6_append_31 rfl (lv_at hl 0 rfl) ?_
    refine z_get F_ K_ W_ 0 0 1 rfl rfl rfl (C := RX6) (T := TX6) (N := 6) rfl (by decide) hinX6 (List.mem_of_getElem? (i := 1) rfl) dX6_append_32 ?_
    exact hret _ _ _ _ (ln + 1) (ln + 1, xb_1) dX6_append_35 ⟨(by rfl), (by first | exact Or.inl ⟨by omega, rfl, by assumption⟩ | exact Or.inr ⟨by omega, rfl, rfl⟩), bxb_1⟩ W_
abbrev rX6_nextNumber : Room := { frames := 3, cells := 0, slots := 0, locals := 63 }
set_option maxHeartbeats 1000000 in
set_option maxRecDepth 100000 in
theorem c_X6_nextNumber (l_ : Launch) (D : va_G) (cy : Nat → ClassId) (x : Nat → Nat) (ln : Int) (tok : Int) (st : Int) (en : Int) (va : Int) (xb : Int → Int) (lo : Int) (hi : Int) (bxb : ∀ j : Int, 0 ≤ xb j ∧ xb j ≤ 127) (rlo : -2147483648 ≤ lo ∧ lo < 2147483648) (rhi : -2147483648 ≤ hi ∧ hi < 2147483648) (hln : 0 ≤ ln ∧ ln ≤ 150) (hen : 0 ≤ en ∧ en ≤ ln) (hlh : -100 ≤ lo ∧ lo ≤ 100 ∧ -100 ≤ hi ∧ hi ≤ 100) : CTi l_ D cy yX6_nextNumber wsX6_nextNumber rX6_nextNumber [.ref (x 0), .int (zi lo), .int (zi hi)] ([wX cy x ln tok st en va xb]) (fun (z : Int) (u : (Int) × (Int) × (Int) × (Int)) => ((z = tV xb ln en ∧ nmP xb ln lo hi en ∧ 0 ≤ z ∧ z ≤ 99) ∨ (z = -1 ∧ ¬ nmP xb ln lo hi en)) ∧ (u.1 = tA xb ln en ∧ u.2.1 = tE xb ln en ∧ u.2.2.1 = tK xb ln en) ∧ (en ≤ u.1 ∧ u.1 ≤ u.2.1 ∧ u.2.1 ≤ ln ∧ 0 ≤ u.2.2.1 ∧ u.2.2.1 ≤ 5) ∧ (tK xb ln en = 2 → 0 ≤ tV xb ln en ∧ tV xb ln en ≤ 99)) (fun (u : (Int) × (Int) × (Int) × (Int)) => [wX cy x ln u.2.2.1 u.1 u.2.1 u.2.2.2 xb]) := by
  refine CTi.of RX6 cX6_nextNumber 3 rfl (by decide) rfl (fun z u hz => rfl) (Nat.le_of_ble_eq_true rfl) ?_
  intro p_ e_ s_ m_ ar_ be_ me_ c_ Q_ A_ ls_ F_ K_ W_ hl hret
  have hl : lv_has ls_ 3 [(0, .ref (x 0)), (1, .int (zi lo)), (2, .int (zi hi))] := hl
  obtain ⟨H_, hH_⟩ : ∃ x, x = s_.heap := ⟨_, rfl⟩
  obtain ⟨lo_, hlo_⟩ : ∃ x : List Loc, x = [] := ⟨_, rfl⟩
  have W_ : WD D A_ s_.heap ([wX cy x ln tok st en va xb]) H_ lo_ := by rw [hH_, hlo_]; exact W_
  rw [← hlo_]
  suffices hg_ : W p_ l_ e_ rX6_nextNumber s_ m_ ar_ be_ me_ c_ H_ lo_ 0 0 Q_ (F0 m_ 0 ls_ []) by rw [hH_] at hg_; exact hg_
  clear hH_ hlo_
  have hinX6 : ∀ w ∈ u_ws RX6 TX6 6, w ∈ wsX6_nextNumber := fun w h => List.mem_cons_of_mem _ (List.mem_append_right _ h)
  refine lv_aload_n F_.1 F_.2.1 dX6_nextNumber_0 rfl (lv_at hl 0 rfl) ?_
  refine z_callVv F_ K_ W_ [] (c_X6_nextToken l_ D cy x ln tok st en va xb bxb (by first | omega | assumption) (by first | omega | assumption)) 0 rfl gX6_nextNumber_X6_nextToken rfl (by decide +kernel) ⟨⟨Nat.le_of_ble_eq_true rfl, Nat.le_of_ble_eq_true rfl⟩, rfl, rfl, Nat.zero_le _, Nat.zero_le _⟩ 0 0 5 rfl rfl rfl rfl hl.1 rfl (Nat.le_of_ble_eq_true rfl) [0] ([] : List Nat) ([] : List va_W) (fun (u_ : (Int) × (Int) × (Int) × (Int)) => [wX cy x ln u_.2.2.1 u_.1 u_.2.1 u_.2.2.2 xb]) 1 (by decide +kernel) rfl rfl rfl (fun _ => rfl) (fun _ => rfl) (fun _ => rfl) dX6_nextNumber_1 (fun u_ H_ lo_ hw_ W_ => ?_)
  obtain ⟨st2_2, en2_3, tok2_4, va2_5⟩ := u_
  have W_ : WD D A_ s_.heap ([wX cy x ln tok2_4 st2_2 en2_3 va2_5 xb]) H_ lo_ := W_
  replace hw_ : (TokR xb ln en tok2_4 st2_2 en2_3 va2_5) ∧ ((tok2_4 = 2 → 0 ≤ va2_5 ∧ va2_5 ≤ 99) ∧ 0 ≤ tok2_4 ∧ tok2_4 ≤ 5 ∧ en ≤ st2_2 ∧ st2_2 ≤ en2_3 ∧ en2_3 ≤ ln) := hw_
  obtain ⟨f1_v, f1_b⟩ := hw_
  obtain ⟨tf1, tf2, tf3, tf4⟩ := tk_f f1_v
  have htv : tok2_4 = 2 → tV xb ln en = va2_5 ∧ 0 ≤ va2_5 ∧ va2_5 ≤ 99 := fun q => ⟨tf4 q, f1_b.1 q⟩
  have hbb := f1_b.2
  clear f1_b tf4
  refine lv_aload_n F_.1 F_.2.1 dX6_nextNumber_4 rfl (lv_at hl 0 rfl) ?_
  refine z_get F_ K_ W_ 0 0 2 rfl rfl rfl (C := RX6) (T := TX6) (N := 6) rfl (by decide) hinX6 (List.mem_of_getElem? (i := 1) rfl) dX6_nextNumber_5 ?_
  refine z_iconst F_ dX6_nextNumber_8 ?_
  refine z_icmp_ne (tgt := 35) F_ (by omega) dX6_nextNumber_9 (by decide) (fun c9 => ?_) (fun c9 => ?_)
  · refine z_iconst F_ dX6_nextNumber_35 ?_
    exact hret _ _ _ _ (-1) (st2_2, en2_3, tok2_4, va2_5) dX6_nextNumber_36 ⟨(by first | (have h2 := htv (by omega); exact Or.inl ⟨h2.1.symm, ⟨by omega, by omega, by omega⟩, h2.2⟩) | exact Or.inr ⟨rfl, fun q => by have h1 : tK xb ln en = 2 ∧ lo ≤ tV xb ln en ∧ tV xb ln en ≤ hi := q; have h2 := htv (by omega); omega⟩), (by exact ⟨tf2.symm, tf3.symm, tf1.symm⟩), (by exact ⟨hbb.2.2.1, hbb.2.2.2.1, hbb.2.2.2.2, hbb.1, hbb.2.1⟩), (by intro q; have h2 := htv (by omega); omega)⟩ W_
  · refine lv_aload_n F_.1 F_.2.1 dX6_nextNumber_12 rfl (lv_at hl 0 rfl) ?_
    have htv2 := htv (by assumption)
    refine z_get F_ K_ W_ 0 0 5 rfl rfl rfl (C := RX6) (T := TX6) (N := 6) rfl (by decide) hinX6 (List.mem_of_getElem? (i := 2) rfl) dX6_nextNumber_13 ?_
    refine lv_iload_n F_.1 F_.2.1 dX6_nextNumber_16 rfl (lv_at hl 1 rfl) ?_
    refine z_icmp_lt (tgt := 35) F_ (by omega) dX6_nextNumber_17 (by decide) (fun c17 => ?_) (fun c17 => ?_)
    · refine z_iconst F_ dX6_nextNumber_35 ?_
      exact hret _ _ _ _ (-1) (st2_2, en2_3, tok2_4, va2_5) dX6_nextNumber_36 ⟨(by first | (have h2 := htv (by omega); exact Or.inl ⟨h2.1.symm, ⟨by omega, by omega, by omega⟩, h2.2⟩) | exact Or.inr ⟨rfl, fun q => by have h1 : tK xb ln en = 2 ∧ lo ≤ tV xb ln en ∧ tV xb ln en ≤ hi := q; have h2 := htv (by omega); omega⟩), (by exact ⟨tf2.symm, tf3.symm, tf1.symm⟩), (by exact ⟨hbb.2.2.1, hbb.2.2.2.1, hbb.2.2.2.2, hbb.1, hbb.2.1⟩), (by intro q; have h2 := htv (by omega); omega)⟩ W_
    · refine lv_aload_n F_.1 F_.2.1 dX6_nextNumber_20 rfl (lv_at hl 0 rfl) ?_
      refine z_get F_ K_ W_ 0 0 5 rfl rfl rfl (C := RX6) (T := TX6) (N := 6) rfl (by decide) hinX6 (List.mem_of_getElem? (i := 2) rfl) dX6_nextNumber_21 ?_
      refine lv_iload_n F_.1 F_.2.1 dX6_nextNumber_24 rfl (lv_at hl 2 rfl) ?_
      refine z_icmp_gt (tgt := 35) F_ (by omega) dX6_nextNumber_25 (by decide) (fun c25 => ?_) (fun c25 => ?_)
      · refine z_iconst F_ dX6_nextNumber_35 ?_
        exact hret _ _ _ _ (-1) (st2_2, en2_3, tok2_4, va2_5) dX6_nextNumber_36 ⟨(by first | (have h2 := htv (by omega); exact Or.inl ⟨h2.1.symm, ⟨by omega, by omega, by omega⟩, h2.2⟩) | exact Or.inr ⟨rfl, fun q => by have h1 : tK xb ln en = 2 ∧ lo ≤ tV xb ln en ∧ tV xb ln en ≤ hi := q; have h2 := htv (by omega); omega⟩), (by exact ⟨tf2.symm, tf3.symm, tf1.symm⟩), (by exact ⟨hbb.2.2.1, hbb.2.2.2.1, hbb.2.2.2.2, hbb.1, hbb.2.1⟩), (by intro q; have h2 := htv (by omega); omega)⟩ W_
      · refine lv_aload_n F_.1 F_.2.1 dX6_nextNumber_28 rfl (lv_at hl 0 rfl) ?_
        refine z_get F_ K_ W_ 0 0 5 rfl rfl rfl (C := RX6) (T := TX6) (N := 6) rfl (by decide) hinX6 (List.mem_of_getElem? (i := 2) rfl) dX6_nextNumber_29 ?_
        refine z_goto (tgt := 36) F_ dX6_nextNumber_32 (by decide) ?_
        exact hret _ _ _ _ va2_5 (st2_2, en2_3, tok2_4, va2_5) dX6_nextNumber_36 ⟨(by first | (have h2 := htv (by omega); exact Or.inl ⟨h2.1.symm, ⟨by omega, by omega, by omega⟩, h2.2⟩) | exact Or.inr ⟨rfl, fun q => by have h1 : tK xb ln en = 2 ∧ lo ≤ tV xb ln en ∧ tV xb ln en ≤ hi := q; have h2 := htv (by omega); omega⟩), (by exact ⟨tf2.symm, tf3.symm, tf1.symm⟩), (by exact ⟨hbb.2.2.1, hbb.2.2.2.1, hbb.2.2.2.2, hbb.1, hbb.2.1⟩), (by intro q; have h2 := htv (by omega); omega)⟩ W_
