abbrev rX6_readBoard : Room := { frames := 4, cells := 0, slots := 0, locals := 85 }
set_option maxHeartbeats 1000000 in
set_option maxRecDepth 100000 in
theorem c_X6_readBoard (l_ : Launch) (D : va_G) (cy : Nat → ClassId) (x : Nat → Nat) (ln : Int) (tok : Int) (st : Int) (en : Int) (va : Int) (xb : Int → Int) (q : Nat → Nat) (S : Int) (M : Int) (sk : Int → Int) (sc : Int → Int) (mk : Int → Int) (ms : Int → Int) (mp : Int → Int) (s : Int) (g : Int → Int) (bxb : ∀ j : Int, 0 ≤ xb j ∧ xb j ≤ 127) (bS : 0 ≤ S ∧ S ≤ 3) (bM : 0 ≤ M ∧ M ≤ 8) (bsk : ∀ j : Int, 0 ≤ sk j ∧ sk j ≤ 5) (bsc : ∀ j : Int, 0 ≤ sc j ∧ sc j ≤ 99) (bmk : ∀ j : Int, 0 ≤ mk j ∧ mk j ≤ 5) (bms : ∀ j : Int, 0 ≤ ms j ∧ ms j ≤ 9) (bmp : ∀ j : Int, (-1) ≤ mp j ∧ mp j ≤ 2) (hln : 0 ≤ ln ∧ ln ≤ 150) (hen : 0 ≤ en ∧ en ≤ ln) (he : en = tE xb ln s ∧ st = tA xb ln s ∧ 0 ≤ st ∧ st ≤ en) (hrel : relI S M sk sc mk ms mp g) : CTi l_ D cy yX6_readBoard wsX6_readBoard rX6_readBoard [.ref (x 0), .ref (q 0)] ([wX cy x ln tok st en va xb, wI cy q S M sk sc mk ms mp]) (fun (z : Int) (u : (Int) × (Int) × (Int) × (Int) × (Int → Int)) => ((z = 1 ∧ (brdI xb ln s g).1 = 1 ∧ relI S M sk sc mk ms u.2.2.2.2 (brdI xb ln s g).2.2 ∧ u.2.1 = (brdI xb ln s g).2.1) ∨ (z = 0 ∧ (brdI xb ln s g).1 = 0 ∧ u.1 = (brdI xb ln s g).2.1)) ∧ (0 ≤ u.1 ∧ u.1 ≤ u.2.1 ∧ u.2.1 ≤ ln ∧ en ≤ u.2.1) ∧ (∀ j : Int, (-1) ≤ u.2.2.2.2 j ∧ u.2.2.2.2 j ≤ 2)) (fun (u : (Int) × (Int) × (Int) × (Int) × (Int → Int)) => [wX cy x ln u.2.2.1 u.1 u.2.1 u.2.2.2.1 xb, wI cy q S M sk sc mk ms u.2.2.2.2]) := by
  refine CTi.of RX6 cX6_readBoard 4 rfl (by decide) rfl (fun z u hz => z_bl4 hz) (Nat.le_of_ble_eq_true rfl) ?_
  intro p_ e_ s_ m_ ar_ be_ me_ c_ Q_ A_ ls_ F_ K_ W_ hl hret
  have hl : lv_has ls_ 4 [(0, .ref (x 0)), (1, .ref (q 0))] := hl
  obtain ⟨H_, hH_⟩ : ∃ x, x = s_.heap := ⟨_, rfl⟩
  obtain ⟨lo_, hlo_⟩ : ∃ x : List Loc, x = [] := ⟨_, rfl⟩
  have W_ : WD D A_ s_.heap ([wX cy x ln tok st en va xb, wI cy q S M sk sc mk ms mp]) H_ lo_ := by rw [hH_, hlo_]; exact W_
  rw [← hlo_]
  suffices hg_ : W p_ l_ e_ rX6_readBoard s_ m_ ar_ be_ me_ c_ H_ lo_ 0 0 Q_ (F0 m_ 0 ls_ []) by rw [hH_] at hg_; exact hg_
  clear hH_ hlo_
  have hinX4 : ∀ w ∈ u_ws RX4 TX4 11, w ∈ wsX6_readBoard := fun w h => List.mem_cons_of_mem _ (List.mem_append_left _ (List.mem_append_right _ h))
  have hr1 := hrel.1
  refine lv_aload_n F_.1 F_.2.1 dX6_readBoard_0 rfl (lv_at hl 0 rfl) ?_
  refine z_iconst F_ dX6_readBoard_1 ?_
  refine lv_aload_n F_.1 F_.2.1 dX6_readBoard_2 rfl (lv_at hl 1 rfl) ?_
  refine z_get F_ K_ W_ 1 0 0 rfl rfl rfl (C := RX4) (T := TX4) (N := 11) rfl (by decide) hinX4 (List.mem_of_getElem? (i := 1) rfl) dX6_readBoard_3 ?_
  refine z_iconst F_ dX6_readBoard_6 ?_
  refine z_isub F_ dX6_readBoard_7 ?_
  refine z_callVi F_ K_ W_ [.int (zi 0), .int (zi (S - 1))] (c_X6_nextNumber l_ D cy x ln tok st en va xb 0 (S - 1) bxb (by first | omega | assumption) (by first | omega | assumption) (by first | omega | assumption) (by first | omega | assumption) (by first | omega | assumption)) 2 rfl gX6_readBoard_X6_nextNumber rfl (by decide +kernel) ⟨⟨Nat.le_of_ble_eq_true rfl, Nat.le_of_ble_eq_true rfl⟩, rfl, rfl, Nat.zero_le _, Nat.zero_le _⟩ 0 0 5 rfl rfl rfl rfl hl.1 rfl (Nat.le_of_ble_eq_true rfl) [0] [1] [wI cy q S M sk sc mk ms mp] (fun (u_ : (Int) × (Int) × (Int) × (Int)) => [wX cy x ln u_.2.2.1 u_.1 u_.2.1 u_.2.2.2 xb, wI cy q S M sk sc mk ms mp]) 2 (by decide +kernel) rfl rfl rfl (fun _ => rfl) (fun _ => rfl) (fun _ => rfl) dX6_readBoard_8 (fun z_1 u_ H_ lo_ hw_ W_ => ?_)
  obtain ⟨st2_2, en2_3, tok2_4, va2_5⟩ := u_
  have W_ : WD D A_ s_.heap ([wX cy x ln tok2_4 st2_2 en2_3 va2_5 xb, wI cy q S M sk sc mk ms mp]) H_ lo_ := W_
  replace hw_ : ((z_1 = tV xb ln en ∧ nmP xb ln 0 (S - 1) en ∧ 0 ≤ z_1 ∧ z_1 ≤ 99) ∨ (z_1 = -1 ∧ ¬ nmP xb ln 0 (S - 1) en)) ∧ (st2_2 = tA xb ln en ∧ en2_3 = tE xb ln en ∧ tok2_4 = tK xb ln en) ∧ (en ≤ st2_2 ∧ st2_2 ≤ en2_3 ∧ en2_3 ≤ ln ∧ 0 ≤ tok2_4 ∧ tok2_4 ≤ 5) ∧ (tK xb ln en = 2 → 0 ≤ tV xb ln en ∧ tV xb ln en ≤ 99) := hw_
  obtain ⟨f8_v, f8_p, f8_b, f8_w⟩ := hw_
  refine lv_istore_n (lv' := [(2, .int (zi z_1)), (0, .ref (x 0)), (1, .ref (q 0))]) F_.1 F_.2.1 dX6_readBoard_11 rfl hl (by decide) rfl (fun ls_ hl => ?_)
  refine lv_aload_n F_.1 F_.2.1 dX6_readBoard_12 rfl (lv_at hl 2 rfl) ?_
  refine lv_iload_n F_.1 F_.2.1 dX6_readBoard_13 rfl (lv_at hl 0 rfl) ?_
  refine z_callVip F_ K_ W_ [.int (zi z_1)] (c_X4_hasShip l_ D cy q S M sk sc mk ms mp z_1 (by omega) (by omega) bsk bsc bmk bms bmp (by first | omega | assumption)) 1 rfl gX6_readBoard_X4_hasShip rfl (by decide +kernel) ⟨⟨Nat.le_of_ble_eq_true rfl, Nat.le_of_ble_eq_true rfl⟩, rfl, rfl, Nat.zero_le _, Nat.zero_le _⟩ 0 0 4 rfl rfl rfl rfl hl.1 rfl (Nat.le_of_ble_eq_true rfl) [1] [0] [wX cy x ln tok2_4 st2_2 en2_3 va2_5 xb] 2 (by decide +kernel) rfl rfl rfl dX6_readBoard_14 (fun z_6 _ H_ lo_ hw_ W_ => ?_)
  replace hw_ : ((z_6 = 1 ∧ (0 ≤ z_1 ∧ z_1 < S)) ∨ (z_6 = 0 ∧ ¬ (0 ≤ z_1 ∧ z_1 < S))) := hw_
  have f14_v := hw_
  clear hw_
  refine z_if_ne (tgt := 22) F_ (by omega) dX6_readBoard_17 (by decide) (fun c17 => ?_) (fun c17 => ?_)
  · have n1 := f8_v.resolve_right (fun q => by have := q.1; omega)
    refine lv_aload_n F_.1 F_.2.1 dX6_readBoard_22 rfl (lv_at hl 1 rfl) ?_
    refine z_iconst F_ dX6_readBoard_23 ?_
    refine lv_aload_n F_.1 F_.2.1 dX6_readBoard_24 rfl (lv_at hl 2 rfl) ?_
    refine z_get F_ K_ W_ 1 0 1 rfl rfl rfl (C := RX4) (T := TX4) (N := 11) rfl (by decide) hinX4 (List.mem_of_getElem? (i := 2) rfl) dX6_readBoard_25 ?_
    refine z_iconst F_ dX6_readBoard_28 ?_
    refine z_isub F_ dX6_readBoard_29 ?_
    refine z_callVi F_ K_ W_ [.int (zi 0), .int (zi (M - 1))] (c_X6_nextNumber l_ D cy x ln tok2_4 st2_2 en2_3 va2_5 xb 0 (M - 1) bxb (by first | omega | assumption) (by first | omega | assumption) (by first | omega | assumption) (by first | omega | assumption) (by first | omega | assumption)) 2 rfl gX6_readBoard_X6_nextNumber rfl (by decide +kernel) ⟨⟨Nat.le_of_ble_eq_true rfl, Nat.le_of_ble_eq_true rfl⟩, rfl, rfl, Nat.zero_le _, Nat.zero_le _⟩ 0 0 5 rfl rfl rfl rfl hl.1 rfl (Nat.le_of_ble_eq_true rfl) [0] [1] [wI cy q S M sk sc mk ms mp] (fun (u_ : (Int) × (Int) × (Int) × (Int)) => [wX cy x ln u_.2.2.1 u_.1 u_.2.1 u_.2.2.2 xb, wI cy q S M sk sc mk ms mp]) 2 (by decide +kernel) rfl rfl rfl (fun _ => rfl) (fun _ => rfl) (fun _ => rfl) dX6_readBoard_30 (fun z_7 u_ H_ lo_ hw_ W_ => ?_)
    obtain ⟨st2_8, en2_9, tok2_10, va2_11⟩ := u_
    have W_ : WD D A_ s_.heap ([wX cy x ln tok2_10 st2_8 en2_9 va2_11 xb, wI cy q S M sk sc mk ms mp]) H_ lo_ := W_
    replace hw_ : ((z_7 = tV xb ln en2_3 ∧ nmP xb ln 0 (M - 1) en2_3 ∧ 0 ≤ z_7 ∧ z_7 ≤ 99) ∨ (z_7 = -1 ∧ ¬ nmP xb ln 0 (M - 1) en2_3)) ∧ (st2_8 = tA xb ln en2_3 ∧ en2_9 = tE xb ln en2_3 ∧ tok2_10 = tK xb ln en2_3) ∧ (en2_3 ≤ st2_8 ∧ st2_8 ≤ en2_9 ∧ en2_9 ≤ ln ∧ 0 ≤ tok2_10 ∧ tok2_10 ≤ 5) ∧ (tK xb ln en2_3 = 2 → 0 ≤ tV xb ln en2_3 ∧ tV xb ln en2_3 ≤ 99) := hw_
    obtain ⟨f30_v, f30_p, f30_b, f30_w⟩ := hw_
    refine lv_istore_n (lv' := [(3, .int (zi z_7)), (2, .int (zi z_1)), (0, .ref (x 0)), (1, .ref (q 0))]) F_.1 F_.2.1 dX6_readBoard_33 rfl hl (by decide) rfl (fun ls_ hl => ?_)
    refine lv_aload_n F_.1 F_.2.1 dX6_readBoard_34 rfl (lv_at hl 3 rfl) ?_
    refine lv_iload_n F_.1 F_.2.1 dX6_readBoard_35 rfl (lv_at hl 0 rfl) ?_
    refine z_callVip F_ K_ W_ [.int (zi z_7)] (c_X4_hasMan l_ D cy q S M sk sc mk ms mp z_7 (by omega) (by omega) bsk bsc bmk bms bmp (by first | omega | assumption)) 1 rfl gX6_readBoard_X4_hasMan rfl (by decide +kernel) ⟨⟨Nat.le_of_ble_eq_true rfl, Nat.le_of_ble_eq_true rfl⟩, rfl, rfl, Nat.zero_le _, Nat.zero_le _⟩ 0 0 4 rfl rfl rfl rfl hl.1 rfl (Nat.le_of_ble_eq_true rfl) [1] [0] [wX cy x ln tok2_10 st2_8 en2_9 va2_11 xb] 2 (by decide +kernel) rfl rfl rfl dX6_readBoard_36 (fun z_12 _ H_ lo_ hw_ W_ => ?_)
    replace hw_ : ((z_12 = 1 ∧ (0 ≤ z_7 ∧ z_7 < M)) ∨ (z_12 = 0 ∧ ¬ (0 ≤ z_7 ∧ z_7 < M))) := hw_
    have f36_v := hw_
    clear hw_
    refine z_if_eq (tgt := 52) F_ (by omega) dX6_readBoard_39 (by decide) (fun c39 => ?_) (fun c39 => ?_)
    · refine z_iconst F_ dX6_readBoard_52 ?_
      exact hret _ _ _ _ 0 (st2_8, en2_9, tok2_10, va2_11, mp) dX6_readBoard_53 ⟨(by have hr := brdI_2 (yb := xb) (bl := ln) (s := s) (g := g) (by rw [← he.1, hr1.1]; exact n1.2.1) (fun q => by have h1 : tK xb ln (tE xb ln (tE xb ln s)) = 2 ∧ 0 ≤ tV xb ln (tE xb ln (tE xb ln s)) ∧ tV xb ln (tE xb ln (tE xb ln s)) ≤ g 0 - 1 := q.1; have h2 := q.2; rw [← he.1, ← f8_p.2.1] at h1 h2; rcases f30_v with w | w; (have hw := w.1; have hm := hrel.2.2.1 z_7 (by omega) (by omega); rw [← hw] at h2; omega); exact w.2 ⟨h1.1, h1.2.1, by omega⟩); exact Or.inr ⟨rfl, by rw [hr], by rw [hr, ← he.1, ← f8_p.2.1]; exact f30_p.1⟩), (by exact ⟨by have := f8_b; have := f30_b; omega, f30_b.2.1, f30_b.2.2.1, Int.le_trans (Int.le_trans f8_b.1 f8_b.2.1) (Int.le_trans f30_b.1 f30_b.2.1)⟩), bmp⟩ W_
    · refine lv_aload_n F_.1 F_.2.1 dX6_readBoard_42 rfl (lv_at hl 3 rfl) ?_
      refine z_get F_ K_ W_ 1 0 6 rfl rfl rfl (C := RX4) (T := TX4) (N := 11) rfl (by decide) hinX4 (List.mem_of_getElem? (i := 3) rfl) dX6_readBoard_43 ?_
      refine lv_iload_n F_.1 F_.2.1 dX6_readBoard_46 rfl (lv_at hl 0 rfl) ?_
      refine z_iald F_ K_ W_ 1 5 rfl rfl (by omega) (by decide) dX6_readBoard_47 ?_
      have b_13 := bmp z_7
      refine z_iconst F_ dX6_readBoard_48 ?_
      refine z_icmp_eq (tgt := 54) F_ (by omega) dX6_readBoard_49 (by decide) (fun c49 => ?_) (fun c49 => ?_)
      · refine lv_aload_n F_.1 F_.2.1 dX6_readBoard_54 rfl (lv_at hl 3 rfl) ?_
        refine lv_iload_n F_.1 F_.2.1 dX6_readBoard_55 rfl (lv_at hl 1 rfl) ?_
        refine lv_iload_n F_.1 F_.2.1 dX6_readBoard_56 rfl (lv_at hl 0 rfl) ?_
        refine z_callVv F_ K_ W_ [.int (zi z_1), .int (zi z_7)] (c_X4_takeAboard l_ D cy q S M sk sc mk ms mp z_1 z_7 (by omega) (by omega) bsk bsc bmk bms bmp (by first | omega | assumption) (by first | omega | assumption) (by first | omega | assumption) (by first | omega | assumption)) 2 rfl gX6_readBoard_X4_takeAboard rfl (by decide +kernel) ⟨⟨Nat.le_of_ble_eq_true rfl, Nat.le_of_ble_eq_true rfl⟩, rfl, rfl, Nat.zero_le _, Nat.zero_le _⟩ 0 0 4 rfl rfl rfl rfl hl.1 rfl (Nat.le_of_ble_eq_true rfl) [1] [0] [wX cy x ln tok2_10 st2_8 en2_9 va2_11 xb] (fun (u_ : (Int → Int)) => [wX cy x ln tok2_10 st2_8 en2_9 va2_11 xb, wI cy q S M sk sc mk ms u_]) 2 (by decide +kernel) rfl rfl rfl (fun _ => rfl) (fun _ => rfl) (fun _ => rfl) dX6_readBoard_57 (fun u_ H_ lo_ hw_ W_ => ?_)
        obtain ⟨mp2_15, rfl⟩ : ∃ x, x = u_ := ⟨_, rfl⟩
        have W_ : WD D A_ s_.heap ([wX cy x ln tok2_10 st2_8 en2_9 va2_11 xb, wI cy q S M sk sc mk ms mp2_15]) H_ lo_ := W_
        replace hw_ : (mp2_15 = zu mp z_7 z_1) ∧ (∀ j : Int, (-1) ≤ mp2_15 j ∧ mp2_15 j ≤ 2) := hw_
        obtain ⟨f57_p, f57_B_I_mp⟩ := hw_
        refine z_iconst F_ dX6_readBoard_60 ?_
        exact hret _ _ _ _ 1 (st2_8, en2_9, tok2_10, va2_11, mp2_15) dX6_readBoard_61 ⟨(by have n2 := f30_v.resolve_right (fun q => by have := q.1; omega); have hm := hrel.2.2.1 z_7 (by omega) (by omega); have hr := brdI_3 (yb := xb) (bl := ln) (s := s) (g := g) (by rw [← he.1, hr1.1]; exact n1.2.1) ⟨by rw [← he.1, ← f8_p.2.1, hr1.2.1]; exact n2.2.1, by rw [← he.1, ← f8_p.2.1, ← n2.1]; omega⟩; exact Or.inl ⟨rfl, by rw [hr], by rw [hr, ← he.1, ← f8_p.2.1, ← n2.1, ← n1.1, f57_p]; exact rel_brd hrel (by omega) (by omega), by rw [hr, ← he.1, ← f8_p.2.1]; exact f30_p.2.1⟩), (by exact ⟨by have := f8_b; have := f30_b; omega, f30_b.2.1, f30_b.2.2.1, Int.le_trans (Int.le_trans f8_b.1 f8_b.2.1) (Int.le_trans f30_b.1 f30_b.2.1)⟩), f57_B_I_mp⟩ W_
      · refine z_iconst F_ dX6_readBoard_52 ?_
        exact hret _ _ _ _ 0 (st2_8, en2_9, tok2_10, va2_11, mp) dX6_readBoard_53 ⟨(by have hr := brdI_2 (yb := xb) (bl := ln) (s := s) (g := g) (by rw [← he.1, hr1.1]; exact n1.2.1) (fun q => by have h1 : tK xb ln (tE xb ln (tE xb ln s)) = 2 ∧ 0 ≤ tV xb ln (tE xb ln (tE xb ln s)) ∧ tV xb ln (tE xb ln (tE xb ln s)) ≤ g 0 - 1 := q.1; have h2 := q.2; rw [← he.1, ← f8_p.2.1] at h1 h2; rcases f30_v with w | w; (have hw := w.1; have hm := hrel.2.2.1 z_7 (by omega) (by omega); rw [← hw] at h2; omega); exact w.2 ⟨h1.1, h1.2.1, by omega⟩); exact Or.inr ⟨rfl, by rw [hr], by rw [hr, ← he.1, ← f8_p.2.1]; exact f30_p.1⟩), (by exact ⟨by have := f8_b; have := f30_b; omega, f30_b.2.1, f30_b.2.2.1, Int.le_trans (Int.le_trans f8_b.1 f8_b.2.1) (Int.le_trans f30_b.1 f30_b.2.1)⟩), bmp⟩ W_
  · refine z_iconst F_ dX6_readBoard_20 ?_
    exact hret _ _ _ _ 0 (st2_2, en2_3, tok2_4, va2_5, mp) dX6_readBoard_21 ⟨(by have hr := brdI_1 (yb := xb) (bl := ln) (s := s) (g := g) (fun q => by have h1 : tK xb ln (tE xb ln s) = 2 ∧ 0 ≤ tV xb ln (tE xb ln s) ∧ tV xb ln (tE xb ln s) ≤ g 1 - 1 := q; rw [← he.1] at h1; rcases f8_v with w | w; (have hw := w.1; omega); exact w.2 ⟨h1.1, h1.2.1, by omega⟩); exact Or.inr ⟨rfl, by rw [hr], by rw [hr, ← he.1]; exact f8_p.1⟩), (by exact ⟨by have := f8_b; omega, f8_b.2.1, f8_b.2.2.1, Int.le_trans f8_b.1 f8_b.2.1⟩), bmp⟩ W_
