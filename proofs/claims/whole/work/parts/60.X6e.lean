abbrev rX6_readMan : Room := { frames := 4, cells := 0, slots := 0, locals := 85 }
set_option maxHeartbeats 1000000 in
set_option maxRecDepth 100000 in
theorem c_X6_readMan (l_ : Launch) (D : va_G) (cy : Nat → ClassId) (x : Nat → Nat) (ln : Int) (tok : Int) (st : Int) (en : Int) (va : Int) (xb : Int → Int) (q : Nat → Nat) (S : Int) (M : Int) (sk : Int → Int) (sc : Int → Int) (mk : Int → Int) (ms : Int → Int) (mp : Int → Int) (r4 : Int) (f4 : Int → Int) (s : Int) (g : Int → Int) (bxb : ∀ j : Int, 0 ≤ xb j ∧ xb j ≤ 127) (bS : 0 ≤ S ∧ S ≤ 3) (bM : 0 ≤ M ∧ M ≤ 8) (bsk : ∀ j : Int, 0 ≤ sk j ∧ sk j ≤ 5) (bsc : ∀ j : Int, 0 ≤ sc j ∧ sc j ≤ 99) (bmk : ∀ j : Int, 0 ≤ mk j ∧ mk j ≤ 5) (bms : ∀ j : Int, 0 ≤ ms j ∧ ms j ≤ 9) (bmp : ∀ j : Int, (-1) ≤ mp j ∧ mp j ≤ 2) (bf4 : ∀ j : Int, (-1) ≤ f4 j ∧ f4 j ≤ 99) (hln : 0 ≤ ln ∧ ln ≤ 150) (hen : 0 ≤ en ∧ en ≤ ln) (he : en = tE xb ln s ∧ st = tA xb ln s ∧ 0 ≤ st ∧ st ≤ en) (hrel : relI S M sk sc mk ms mp g) : CTi l_ D cy yX6_readMan wsX6_readMan rX6_readMan [.ref (x 0), .ref (q 0)] ([wX cy x ln tok st en va xb, wI cy q S M sk sc mk ms mp, wF cy (q 12) (q 13) 32 8 r4 f4]) (fun (z : Int) (u : (Int) × (Int) × (Int) × (Int) × (Int) × (Int → Int) × (Int → Int) × (Int → Int) × (Int)) => ((z = 1 ∧ (manI xb ln s g).1 = 1 ∧ relI S u.2.2.2.2.1 sk sc u.2.2.2.2.2.1 u.2.2.2.2.2.2.1 u.2.2.2.2.2.2.2.1 (manI xb ln s g).2.2 ∧ u.2.1 = (manI xb ln s g).2.1) ∨ (z = 0 ∧ (manI xb ln s g).1 = 0 ∧ u.1 = (manI xb ln s g).2.1)) ∧ (0 ≤ u.1 ∧ u.1 ≤ u.2.1 ∧ u.2.1 ≤ ln ∧ en ≤ u.2.1) ∧ (u.2.2.2.2.2.2.2.2 = r4 ∨ u.2.2.2.2.2.2.2.2 = 0) ∧ (0 ≤ u.2.2.2.2.1 ∧ u.2.2.2.2.1 ≤ 8) ∧ (∀ j : Int, 0 ≤ u.2.2.2.2.2.1 j ∧ u.2.2.2.2.2.1 j ≤ 5) ∧ (∀ j : Int, 0 ≤ u.2.2.2.2.2.2.1 j ∧ u.2.2.2.2.2.2.1 j ≤ 9) ∧ (∀ j : Int, (-1) ≤ u.2.2.2.2.2.2.2.1 j ∧ u.2.2.2.2.2.2.2.1 j ≤ 2)) (fun (u : (Int) × (Int) × (Int) × (Int) × (Int) × (Int → Int) × (Int → Int) × (Int → Int) × (Int)) => [wX cy x ln u.2.2.1 u.1 u.2.1 u.2.2.2.1 xb, wI cy q S u.2.2.2.2.1 sk sc u.2.2.2.2.2.1 u.2.2.2.2.2.2.1 u.2.2.2.2.2.2.2.1, wF cy (q 12) (q 13) 32 8 u.2.2.2.2.2.2.2.2 f4]) := by
  refine CTi.of RX6 cX6_readMan 5 rfl (by decide) rfl (fun z u hz => z_bl4 hz) (Nat.le_of_ble_eq_true rfl) ?_
  intro p_ e_ s_ m_ ar_ be_ me_ c_ Q_ A_ ls_ F_ K_ W_ hl hret
  have hl : lv_has ls_ 5 [(0, .ref (x 0)), (1, .ref (q 0))] := hl
  obtain ⟨H_, hH_⟩ : ∃ x, x = s_.heap := ⟨_, rfl⟩
  obtain ⟨lo_, hlo_⟩ : ∃ x : List Loc, x = [] := ⟨_, rfl⟩
  have W_ : WD D A_ s_.heap ([wX cy x ln tok st en va xb, wI cy q S M sk sc mk ms mp, wF cy (q 12) (q 13) 32 8 r4 f4]) H_ lo_ := by rw [hH_, hlo_]; exact W_
  rw [← hlo_]
  suffices hg_ : W p_ l_ e_ rX6_readMan s_ m_ ar_ be_ me_ c_ H_ lo_ 0 0 Q_ (F0 m_ 0 ls_ []) by rw [hH_] at hg_; exact hg_
  clear hH_ hlo_
  have hinX4 : ∀ w ∈ u_ws RX4 TX4 11, w ∈ wsX6_readMan := fun w h => List.mem_cons_of_mem _ (List.mem_append_left _ (List.mem_append_left _ (List.mem_append_right _ h)))
  have hr1 := hrel.1
  refine lv_aload_n F_.1 F_.2.1 dX6_readMan_0 rfl (lv_at hl 1 rfl) ?_
  refine z_get F_ K_ W_ 1 0 1 rfl rfl rfl (C := RX4) (T := TX4) (N := 11) rfl (by decide) hinX4 (List.mem_of_getElem? (i := 1) rfl) dX6_readMan_1 ?_
  refine z_bipush F_ (by decide) dX6_readMan_4 ?_
  refine z_icmp_lt (tgt := 11) F_ (by omega) dX6_readMan_6 (by decide) (fun c6 => ?_) (fun c6 => ?_)
  · refine lv_aload_n F_.1 F_.2.1 dX6_readMan_11 rfl (lv_at hl 0 rfl) ?_
    refine z_iconst F_ dX6_readMan_12 ?_
    refine z_iconst F_ dX6_readMan_13 ?_
    refine z_callVi F_ K_ W_ [.int (zi 0), .int (zi 5)] (c_X6_nextNumber l_ D cy x ln tok st en va xb 0 5 bxb (by first | omega | assumption) (by first | omega | assumption) (by first | omega | assumption) (by first | omega | assumption) (by first | omega | assumption)) 2 rfl gX6_readMan_X6_nextNumber rfl (by decide +kernel) ⟨⟨Nat.le_of_ble_eq_true rfl, Nat.le_of_ble_eq_true rfl⟩, rfl, rfl, Nat.zero_le _, Nat.zero_le _⟩ 0 0 5 rfl rfl rfl rfl hl.1 rfl (Nat.le_of_ble_eq_true rfl) [0] [1, 2] [wI cy q S M sk sc mk ms mp, wF cy (q 12) (q 13) 32 8 r4 f4] (fun (u_ : (Int) × (Int) × (Int) × (Int)) => [wX cy x ln u_.2.2.1 u_.1 u_.2.1 u_.2.2.2 xb, wI cy q S M sk sc mk ms mp, wF cy (q 12) (q 13) 32 8 r4 f4]) 3 (by decide +kernel) rfl rfl rfl (fun _ => rfl) (fun _ => rfl) (fun _ => rfl) dX6_readMan_14 (fun z_1 u_ H_ lo_ hw_ W_ => ?_)
    obtain ⟨st2_2, en2_3, tok2_4, va2_5⟩ := u_
    have W_ : WD D A_ s_.heap ([wX cy x ln tok2_4 st2_2 en2_3 va2_5 xb, wI cy q S M sk sc mk ms mp, wF cy (q 12) (q 13) 32 8 r4 f4]) H_ lo_ := W_
    replace hw_ : ((z_1 = tV xb ln en ∧ nmP xb ln 0 5 en ∧ 0 ≤ z_1 ∧ z_1 ≤ 99) ∨ (z_1 = -1 ∧ ¬ nmP xb ln 0 5 en)) ∧ (st2_2 = tA xb ln en ∧ en2_3 = tE xb ln en ∧ tok2_4 = tK xb ln en) ∧ (en ≤ st2_2 ∧ st2_2 ≤ en2_3 ∧ en2_3 ≤ ln ∧ 0 ≤ tok2_4 ∧ tok2_4 ≤ 5) ∧ (tK xb ln en = 2 → 0 ≤ tV xb ln en ∧ tV xb ln en ≤ 99) := hw_
    obtain ⟨f14_v, f14_p, f14_b, f14_w⟩ := hw_
    refine lv_istore_n (lv' := [(2, .int (zi z_1)), (0, .ref (x 0)), (1, .ref (q 0))]) F_.1 F_.2.1 dX6_readMan_17 rfl hl (by decide) rfl (fun ls_ hl => ?_)
    refine lv_iload_n F_.1 F_.2.1 dX6_readMan_18 rfl (lv_at hl 0 rfl) ?_
    refine z_iconst F_ dX6_readMan_19 ?_
    refine z_icmp_ne (tgt := 25) F_ (by omega) dX6_readMan_20 (by decide) (fun c20 => ?_) (fun c20 => ?_)
    · have n1 := f14_v.resolve_right (fun q => by have := q.1; omega)
      refine lv_aload_n F_.1 F_.2.1 dX6_readMan_25 rfl (lv_at hl 1 rfl) ?_
      refine z_iconst F_ dX6_readMan_26 ?_
      refine z_bipush F_ (by decide) dX6_readMan_27 ?_
      refine z_callVi F_ K_ W_ [.int (zi 1), .int (zi 9)] (c_X6_nextNumber l_ D cy x ln tok2_4 st2_2 en2_3 va2_5 xb 1 9 bxb (by first | omega | assumption) (by first | omega | assumption) (by first | omega | assumption) (by first | omega | assumption) (by first | omega | assumption)) 2 rfl gX6_readMan_X6_nextNumber rfl (by decide +kernel) ⟨⟨Nat.le_of_ble_eq_true rfl, Nat.le_of_ble_eq_true rfl⟩, rfl, rfl, Nat.zero_le _, Nat.zero_le _⟩ 0 0 5 rfl rfl rfl rfl hl.1 rfl (Nat.le_of_ble_eq_true rfl) [0] [1, 2] [wI cy q S M sk sc mk ms mp, wF cy (q 12) (q 13) 32 8 r4 f4] (fun (u_ : (Int) × (Int) × (Int) × (Int)) => [wX cy x ln u_.2.2.1 u_.1 u_.2.1 u_.2.2.2 xb, wI cy q S M sk sc mk ms mp, wF cy (q 12) (q 13) 32 8 r4 f4]) 3 (by decide +kernel) rfl rfl rfl (fun _ => rfl) (fun _ => rfl) (fun _ => rfl) dX6_readMan_29 (fun z_6 u_ H_ lo_ hw_ W_ => ?_)
      obtain ⟨st2_7, en2_8, tok2_9, va2_10⟩ := u_
      have W_ : WD D A_ s_.heap ([wX cy x ln tok2_9 st2_7 en2_8 va2_10 xb, wI cy q S M sk sc mk ms mp, wF cy (q 12) (q 13) 32 8 r4 f4]) H_ lo_ := W_
      replace hw_ : ((z_6 = tV xb ln en2_3 ∧ nmP xb ln 1 9 en2_3 ∧ 0 ≤ z_6 ∧ z_6 ≤ 99) ∨ (z_6 = -1 ∧ ¬ nmP xb ln 1 9 en2_3)) ∧ (st2_7 = tA xb ln en2_3 ∧ en2_8 = tE xb ln en2_3 ∧ tok2_9 = tK xb ln en2_3) ∧ (en2_3 ≤ st2_7 ∧ st2_7 ≤ en2_8 ∧ en2_8 ≤ ln ∧ 0 ≤ tok2_9 ∧ tok2_9 ≤ 5) ∧ (tK xb ln en2_3 = 2 → 0 ≤ tV xb ln en2_3 ∧ tV xb ln en2_3 ≤ 99) := hw_
      obtain ⟨f29_v, f29_p, f29_b, f29_w⟩ := hw_
      refine lv_istore_n (lv' := [(3, .int (zi z_6)), (2, .int (zi z_1)), (0, .ref (x 0)), (1, .ref (q 0))]) F_.1 F_.2.1 dX6_readMan_32 rfl hl (by decide) rfl (fun ls_ hl => ?_)
      refine lv_iload_n F_.1 F_.2.1 dX6_readMan_33 rfl (lv_at hl 0 rfl) ?_
      refine z_iconst F_ dX6_readMan_34 ?_
      refine z_icmp_ne (tgt := 40) F_ (by omega) dX6_readMan_35 (by decide) (fun c35 => ?_) (fun c35 => ?_)
      · have n2 := f29_v.resolve_right (fun q => by have := q.1; omega)
        refine lv_aload_n F_.1 F_.2.1 dX6_readMan_40 rfl (lv_at hl 2 rfl) ?_
        refine z_iconst F_ dX6_readMan_41 ?_
        refine z_bipush F_ (by decide) dX6_readMan_42 ?_
        refine z_callVi F_ K_ W_ [.int (zi 0), .int (zi 9)] (c_X6_nextNumber l_ D cy x ln tok2_9 st2_7 en2_8 va2_10 xb 0 9 bxb (by first | omega | assumption) (by first | omega | assumption) (by first | omega | assumption) (by first | omega | assumption) (by first | omega | assumption)) 2 rfl gX6_readMan_X6_nextNumber rfl (by decide +kernel) ⟨⟨Nat.le_of_ble_eq_true rfl, Nat.le_of_ble_eq_true rfl⟩, rfl, rfl, Nat.zero_le _, Nat.zero_le _⟩ 0 0 5 rfl rfl rfl rfl hl.1 rfl (Nat.le_of_ble_eq_true rfl) [0] [1, 2] [wI cy q S M sk sc mk ms mp, wF cy (q 12) (q 13) 32 8 r4 f4] (fun (u_ : (Int) × (Int) × (Int) × (Int)) => [wX cy x ln u_.2.2.1 u_.1 u_.2.1 u_.2.2.2 xb, wI cy q S M sk sc mk ms mp, wF cy (q 12) (q 13) 32 8 r4 f4]) 3 (by decide +kernel) rfl rfl rfl (fun _ => rfl) (fun _ => rfl) (fun _ => rfl) dX6_readMan_44 (fun z_11 u_ H_ lo_ hw_ W_ => ?_)
        obtain ⟨st2_12, en2_13, tok2_14, va2_15⟩ := u_
        have W_ : WD D A_ s_.heap ([wX cy x ln tok2_14 st2_12 en2_13 va2_15 xb, wI cy q S M sk sc mk ms mp, wF cy (q 12) (q 13) 32 8 r4 f4]) H_ lo_ := W_
        replace hw_ : ((z_11 = tV xb ln en2_8 ∧ nmP xb ln 0 9 en2_8 ∧ 0 ≤ z_11 ∧ z_11 ≤ 99) ∨ (z_11 = -1 ∧ ¬ nmP xb ln 0 9 en2_8)) ∧ (st2_12 = tA xb ln en2_8 ∧ en2_13 = tE xb ln en2_8 ∧ tok2_14 = tK xb ln en2_8) ∧ (en2_8 ≤ st2_12 ∧ st2_12 ≤ en2_13 ∧ en2_13 ≤ ln ∧ 0 ≤ tok2_14 ∧ tok2_14 ≤ 5) ∧ (tK xb ln en2_8 = 2 → 0 ≤ tV xb ln en2_8 ∧ tV xb ln en2_8 ≤ 99) := hw_
        obtain ⟨f44_v, f44_p, f44_b, f44_w⟩ := hw_
        refine lv_istore (lv' := [(4, .int (zi z_11)), (3, .int (zi z_6)), (2, .int (zi z_1)), (0, .ref (x 0)), (1, .ref (q 0))]) F_.1 F_.2.1 dX6_readMan_47 hl (by decide) rfl (fun ls_ hl => ?_)
        refine lv_iload F_.1 F_.2.1 dX6_readMan_49 (lv_at hl 0 rfl) ?_
        refine z_bipush F_ (by decide) dX6_readMan_51 ?_
        have J67 : ∀ (h67 : z_11 = 9 ∨ (0 ≤ z_11 ∧ z_11 < S)) (ls_ : Array Slot) (H_ : Heap) (lo_ : List Loc), WD D A_ s_.heap ([wX cy x ln tok2_14 st2_12 en2_13 va2_15 xb, wI cy q S M sk sc mk ms mp, wF cy (q 12) (q 13) 32 8 r4 f4]) H_ lo_ → lv_has ls_ 5 [(4, .int (zi z_11)), (3, .int (zi z_6)), (2, .int (zi z_1)), (0, .ref (x 0)), (1, .ref (q 0))] → W p_ l_ e_ rX6_readMan s_ m_ ar_ be_ me_ c_ H_ lo_ 0 0 Q_ (F0 m_ 67 ls_ []) := by
          intro h67 ls_ H_ lo_ W_ hl
          refine lv_aload_n F_.1 F_.2.1 dX6_readMan_67 rfl (lv_at hl 4 rfl) ?_
          refine lv_iload_n F_.1 F_.2.1 dX6_readMan_68 rfl (lv_at hl 2 rfl) ?_
          refine lv_iload_n F_.1 F_.2.1 dX6_readMan_69 rfl (lv_at hl 1 rfl) ?_
          refine lv_iload F_.1 F_.2.1 dX6_readMan_70 (lv_at hl 0 rfl) ?_
          refine z_bipush F_ (by decide) dX6_readMan_72 ?_
          have J83 : ∀ (k83_0 : Int) (g83 : ((¬ z_11 = 9) ∧ (k83_0 = z_11)) ∨ ((z_11 = 9) ∧ (k83_0 = (-1)))) (ls_ : Array Slot) (H_ : Heap) (lo_ : List Loc), WD D A_ s_.heap ([wX cy x ln tok2_14 st2_12 en2_13 va2_15 xb, wI cy q S M sk sc mk ms mp, wF cy (q 12) (q 13) 32 8 r4 f4]) H_ lo_ → lv_has ls_ 5 [(4, .int (zi z_11)), (3, .int (zi z_6)), (2, .int (zi z_1)), (0, .ref (x 0)), (1, .ref (q 0))] → W p_ l_ e_ rX6_readMan s_ m_ ar_ be_ me_ c_ H_ lo_ 0 0 Q_ (F0 m_ 83 ls_ [.int (zi k83_0), .int (zi z_6), .int (zi z_1), .ref (q 0)]) := by
            intro k83_0 g83 ls_ H_ lo_ W_ hl
            refine z_callVi F_ K_ W_ [.int (zi z_1), .int (zi z_6), .int (zi k83_0)] (c_X4_addMan l_ D cy q S M sk sc mk ms mp r4 f4 z_1 z_6 k83_0 (by omega) (by omega) bsk bsc bmk bms bmp bf4 (by first | omega | assumption) (by first | omega | assumption) (by first | omega | assumption) (by first | omega | assumption) (by first | omega | assumption) (by first | omega | assumption) (by first | omega | assumption)) 3 rfl gX6_readMan_X4_addMan rfl (by decide +kernel) ⟨⟨Nat.le_of_ble_eq_true rfl, Nat.le_of_ble_eq_true rfl⟩, rfl, rfl, Nat.zero_le _, Nat.zero_le _⟩ 0 0 4 rfl rfl rfl rfl hl.1 rfl (Nat.le_of_ble_eq_true rfl) [1, 2] [0] [wX cy x ln tok2_14 st2_12 en2_13 va2_15 xb] (fun (u_ : (Int → Int) × (Int → Int) × (Int → Int)) => [wX cy x ln tok2_14 st2_12 en2_13 va2_15 xb, wI cy q S (M + 1) sk sc u_.1 u_.2.1 u_.2.2, wF cy (q 12) (q 13) 32 8 0 f4]) 3 (by decide +kernel) rfl rfl rfl (fun _ => rfl) (fun _ => rfl) (fun _ => rfl) dX6_readMan_83 (fun z_16 u_ H_ lo_ hw_ W_ => ?_)
            obtain ⟨mk2_17, ms2_18, mp2_19⟩ := u_
            have W_ : WD D A_ s_.heap ([wX cy x ln tok2_14 st2_12 en2_13 va2_15 xb, wI cy q S (M + 1) sk sc mk2_17 ms2_18 mp2_19, wF cy (q 12) (q 13) 32 8 0 f4]) H_ lo_ := W_
            replace hw_ : (z_16 = M) ∧ (mk2_17 = zu mk M z_1) ∧ (ms2_18 = zu ms M z_6) ∧ (mp2_19 = zu mp M k83_0) ∧ (∀ j : Int, 0 ≤ mk2_17 j ∧ mk2_17 j ≤ 5) ∧ (∀ j : Int, 0 ≤ ms2_18 j ∧ ms2_18 j ≤ 9) ∧ (∀ j : Int, (-1) ≤ mp2_19 j ∧ mp2_19 j ≤ 2) ∧ (0 ≤ M + 1 ∧ M + 1 ≤ 8) := hw_
            obtain ⟨f83_v, f83_k, f83_s, f83_p, f83_B_I_mk, f83_B_I_ms, f83_B_I_mp, f83_B_I_M⟩ := hw_
            refine z_iconst F_ dX6_readMan_86 ?_
            refine z_icmp_eq (tgt := 94) F_ (by omega) dX6_readMan_87 (by decide) (fun c87 => ?_) (fun c87 => ?_)
            · refine z_iconst F_ dX6_readMan_94 ?_
              exact hret _ _ _ _ 0 (st2_12, en2_13, tok2_14, va2_15, M + 1, mk2_17, ms2_18, mp2_19, 0) dX6_readMan_95 ⟨(by first | exact absurd c87 (by omega) | skip; have n3 := f44_v.resolve_right (fun q => by have := q.1; omega); have hr := manI_4 (yb := xb) (bl := ln) (s := s) (g := g) (by omega) (by rw [← he.1]; exact n1.2.1) (by rw [← he.1, ← f14_p.2.1]; exact n2.2.1) ⟨by rw [← he.1, ← f14_p.2.1, ← f29_p.2.1]; exact n3.2.1.1, by rw [← he.1, ← f14_p.2.1, ← f29_p.2.1, ← n3.1]; omega⟩; exact Or.inl ⟨rfl, by rw [hr], by rw [hr, ← he.1, ← f14_p.2.1, ← f29_p.2.1, ← n3.1, ← n2.1, ← n1.1, f83_k, f83_s, f83_p]; have e_ := rel_lay hrel (by omega) z_1 z_6 (pl := k83_0 + 1) (by omega); rw [Int.add_sub_cancel] at e_; have e2_ : (if z_11 = 9 then 0 else z_11 + 1) = k83_0 + 1 := (by split <;> omega); rw [e2_]; exact e_, by rw [hr, ← he.1, ← f14_p.2.1, ← f29_p.2.1]; exact f44_p.2.1⟩), (by exact ⟨by have := f14_b; have := f29_b; have := f44_b; omega, f44_b.2.1, f44_b.2.2.1, Int.le_trans (Int.le_trans (Int.le_trans f14_b.1 f14_b.2.1) (Int.le_trans f29_b.1 f29_b.2.1)) (Int.le_trans f44_b.1 f44_b.2.1)⟩), (by first | exact Or.inl rfl | exact Or.inr rfl), (by omega), f83_B_I_mk, f83_B_I_ms, f83_B_I_mp⟩ W_
            · refine z_iconst F_ dX6_readMan_90 ?_
              refine z_goto (tgt := 95) F_ dX6_readMan_91 (by decide) ?_
              exact hret _ _ _ _ 1 (st2_12, en2_13, tok2_14, va2_15, M + 1, mk2_17, ms2_18, mp2_19, 0) dX6_readMan_95 ⟨(by first | exact absurd c87 (by omega) | skip; have n3 := f44_v.resolve_right (fun q => by have := q.1; omega); have hr := manI_4 (yb := xb) (bl := ln) (s := s) (g := g) (by omega) (by rw [← he.1]; exact n1.2.1) (by rw [← he.1, ← f14_p.2.1]; exact n2.2.1) ⟨by rw [← he.1, ← f14_p.2.1, ← f29_p.2.1]; exact n3.2.1.1, by rw [← he.1, ← f14_p.2.1, ← f29_p.2.1, ← n3.1]; omega⟩; exact Or.inl ⟨rfl, by rw [hr], by rw [hr, ← he.1, ← f14_p.2.1, ← f29_p.2.1, ← n3.1, ← n2.1, ← n1.1, f83_k, f83_s, f83_p]; have e_ := rel_lay hrel (by omega) z_1 z_6 (pl := k83_0 + 1) (by omega); rw [Int.add_sub_cancel] at e_; have e2_ : (if z_11 = 9 then 0 else z_11 + 1) = k83_0 + 1 := (by split <;> omega); rw [e2_]; exact e_, by rw [hr, ← he.1, ← f14_p.2.1, ← f29_p.2.1]; exact f44_p.2.1⟩), (by exact ⟨by have := f14_b; have := f29_b; have := f44_b; omega, f44_b.2.1, f44_b.2.2.1, Int.le_trans (Int.le_trans (Int.le_trans f14_b.1 f14_b.2.1) (Int.le_trans f29_b.1 f29_b.2.1)) (Int.le_trans f44_b.1 f44_b.2.1)⟩), (by first | exact Or.inl rfl | exact Or.inr rfl), (by omega), f83_B_I_mk, f83_B_I_ms, f83_B_I_mp⟩ W_
          refine z_icmp_ne (tgt := 81) F_ (by omega) dX6_readMan_74 (by decide) (fun c74 => ?_) (fun c74 => ?_)
          · refine lv_iload F_.1 F_.2.1 dX6_readMan_81 (lv_at hl 0 rfl) ?_
            exact J83 z_11 (by first | omega | grind) ls_ H_ lo_ W_ (lv_sub hl [0, 1, 2, 3, 4] rfl)
          · refine z_iconst F_ dX6_readMan_77 ?_
            refine z_goto (tgt := 83) F_ dX6_readMan_78 (by decide) ?_
            exact J83 (-1) (by first | omega | grind) ls_ H_ lo_ W_ (lv_sub hl [0, 1, 2, 3, 4] rfl)
        refine z_icmp_eq (tgt := 67) F_ (by omega) dX6_readMan_53 (by decide) (fun c53 => ?_) (fun c53 => ?_)
        · exact J67 (by first | omega | assumption) ls_ H_ lo_ W_ (lv_sub hl [0, 1, 2, 3, 4] rfl)
        · refine lv_aload_n F_.1 F_.2.1 dX6_readMan_56 rfl (lv_at hl 4 rfl) ?_
          refine lv_iload F_.1 F_.2.1 dX6_readMan_57 (lv_at hl 0 rfl) ?_
          refine z_callVip F_ K_ W_ [.int (zi z_11)] (c_X4_hasShip l_ D cy q S M sk sc mk ms mp z_11 (by omega) (by omega) bsk bsc bmk bms bmp (by first | omega | assumption)) 1 rfl gX6_readMan_X4_hasShip rfl (by decide +kernel) ⟨⟨Nat.le_of_ble_eq_true rfl, Nat.le_of_ble_eq_true rfl⟩, rfl, rfl, Nat.zero_le _, Nat.zero_le _⟩ 0 0 4 rfl rfl rfl rfl hl.1 rfl (Nat.le_of_ble_eq_true rfl) [1] [0, 2] [wX cy x ln tok2_14 st2_12 en2_13 va2_15 xb, wF cy (q 12) (q 13) 32 8 r4 f4] 3 (by decide +kernel) rfl rfl rfl dX6_readMan_59 (fun z_20 _ H_ lo_ hw_ W_ => ?_)
          replace hw_ : ((z_20 = 1 ∧ (0 ≤ z_11 ∧ z_11 < S)) ∨ (z_20 = 0 ∧ ¬ (0 ≤ z_11 ∧ z_11 < S))) := hw_
          have f59_v := hw_
          clear hw_
          refine z_if_ne (tgt := 67) F_ (by omega) dX6_readMan_62 (by decide) (fun c62 => ?_) (fun c62 => ?_)
          · exact J67 (by first | omega | assumption) ls_ H_ lo_ W_ (lv_sub hl [0, 1, 2, 3, 4] rfl)
          · refine z_iconst F_ dX6_readMan_65 ?_
            exact hret _ _ _ _ 0 (st2_12, en2_13, tok2_14, va2_15, M, mk, ms, mp, r4) dX6_readMan_66 ⟨(by have hr := manI_3 (yb := xb) (bl := ln) (s := s) (g := g) (by omega) (by rw [← he.1]; exact n1.2.1) (by rw [← he.1, ← f14_p.2.1]; exact n2.2.1) (fun q => by have h1 := q.1; have h2 := q.2; rw [← he.1, ← f14_p.2.1, ← f29_p.2.1] at h1 h2; have h3 := f44_w h1; rcases f44_v with w | w; (have hw := w.1; omega); exact w.2 ⟨h1, h3.1, by omega⟩); exact Or.inr ⟨rfl, by rw [hr], by rw [hr, ← he.1, ← f14_p.2.1, ← f29_p.2.1]; exact f44_p.1⟩), (by exact ⟨by have := f14_b; have := f29_b; have := f44_b; omega, f44_b.2.1, f44_b.2.2.1, Int.le_trans (Int.le_trans (Int.le_trans f14_b.1 f14_b.2.1) (Int.le_trans f29_b.1 f29_b.2.1)) (Int.le_trans f44_b.1 f44_b.2.1)⟩), (by first | exact Or.inl rfl | exact Or.inr rfl), (by omega), bmk, bms, bmp⟩ W_
      · refine z_iconst F_ dX6_readMan_38 ?_
        exact hret _ _ _ _ 0 (st2_7, en2_8, tok2_9, va2_10, M, mk, ms, mp, r4) dX6_readMan_39 ⟨(by have hn := f29_v.resolve_left (fun q => by have := q.2.2; omega); have hr := manI_2 (yb := xb) (bl := ln) (s := s) (g := g) (by omega) (by rw [← he.1]; exact n1.2.1) (by rw [← he.1, ← f14_p.2.1]; exact hn.2); exact Or.inr ⟨rfl, by rw [hr], by rw [hr, ← he.1, ← f14_p.2.1]; exact f29_p.1⟩), (by exact ⟨by have := f14_b; have := f29_b; omega, f29_b.2.1, f29_b.2.2.1, Int.le_trans (Int.le_trans f14_b.1 f14_b.2.1) (Int.le_trans f29_b.1 f29_b.2.1)⟩), (by first | exact Or.inl rfl | exact Or.inr rfl), (by omega), bmk, bms, bmp⟩ W_
    · refine z_iconst F_ dX6_readMan_23 ?_
      exact hret _ _ _ _ 0 (st2_2, en2_3, tok2_4, va2_5, M, mk, ms, mp, r4) dX6_readMan_24 ⟨(by have hn := f14_v.resolve_left (fun q => by have := q.2.2; omega); have hr := manI_1 (yb := xb) (bl := ln) (s := s) (g := g) (by omega) (by rw [← he.1]; exact hn.2); exact Or.inr ⟨rfl, by rw [hr], by rw [hr, ← he.1]; exact f14_p.1⟩), (by exact ⟨by have := f14_b; omega, f14_b.2.1, f14_b.2.2.1, Int.le_trans f14_b.1 f14_b.2.1⟩), (by first | exact Or.inl rfl | exact Or.inr rfl), (by omega), bmk, bms, bmp⟩ W_
  · refine z_iconst F_ dX6_readMan_9 ?_
    exact hret _ _ _ _ 0 (st, en, tok, va, M, mk, ms, mp, r4) dX6_readMan_10 ⟨(by exact Or.inr ⟨rfl, by rw [manI, if_pos (by omega)], by rw [manI, if_pos (by omega)]; exact he.2.1⟩), (by exact ⟨he.2.2.1, he.2.2.2, hen.2, Int.le_refl _⟩), (by first | exact Or.inl rfl | exact Or.inr rfl), (by omega), bmk, bms, bmp⟩ W_
