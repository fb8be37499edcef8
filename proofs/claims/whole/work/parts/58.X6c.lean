theorem rel_lb {S M : Int} {sk sc mk ms mp g : Int → Int} (r : relI S M sk sc mk ms mp g) {h : Int} : lstI S M sc mk ms mp h = -1 ∨ (0 ≤ lstI S M sc mk ms mp h ∧ lstI S M sc mk ms mp h < M) := by
  rcases lstI_b (S := S) sc mk ms mp h r.1.2.2.2.2.1 with q | q
  · exact Or.inl q
  · exact Or.inr ⟨q.1, q.2.1⟩
theorem lstZ_e {f g : Int → Int} {v m : Int} (hm : 0 ≤ m) (h : cntZ f v m = 0) : lstZ f g v m = -1 := by
  have key : ∀ i, 0 ≤ i → i ≤ m → (0 ≤ cntZ f v i ∧ (cntZ f v i = 0 → lstZ f g v i = -1)) := by
    refine fZ_rel (P := fun i x y => 0 ≤ x ∧ (x = 0 → y = -1)) ⟨by omega, fun _ => rfl⟩ (M := m) (fun i x y q1 q2 e => ?_)
    by_cases w : f i = v
    · rw [if_pos w]
      exact ⟨by omega, fun q => by omega⟩
    · rw [if_neg w, if_neg (fun q => w q.1)]
      exact ⟨by omega, fun q => e.2 (by omega)⟩
  exact (key m hm (Int.le_refl m)).2 h
theorem rel_lz {S M : Int} {sk sc mk ms mp g : Int → Int} (r : relI S M sk sc mk ms mp g) {h : Int} (hh : 0 ≤ h ∧ h < S) : lstI S M sc mk ms mp h = -1 ↔ cntG g (h + 1) = 0 := by
  rw [← rel_cnt r h, lstI, if_pos hh]
  have hM := r.1.2.2.2.2.1
  constructor
  · intro q
    have hb := cntZ_b mp h hM
    by_cases w : 0 < cntZ mp h M
    · exact absurd q (lstZ_ne hM w)
    · omega
  · exact lstZ_e hM

abbrev rX6_readShip : Room := { frames := 4, cells := 0, slots := 0, locals := 85 }
set_option maxHeartbeats 1000000 in
set_option maxRecDepth 100000 in
theorem c_X6_readShip (l_ : Launch) (D : va_G) (cy : Nat → ClassId) (x : Nat → Nat) (ln : Int) (tok : Int) (st : Int) (en : Int) (va : Int) (xb : Int → Int) (q : Nat → Nat) (S : Int) (M : Int) (sk : Int → Int) (sc : Int → Int) (mk : Int → Int) (ms : Int → Int) (mp : Int → Int) (r4 : Int) (f4 : Int → Int) (s : Int) (g : Int → Int) (bxb : ∀ j : Int, 0 ≤ xb j ∧ xb j ≤ 127) (bS : 0 ≤ S ∧ S ≤ 3) (bM : 0 ≤ M ∧ M ≤ 8) (bsk : ∀ j : Int, 0 ≤ sk j ∧ sk j ≤ 5) (bsc : ∀ j : Int, 0 ≤ sc j ∧ sc j ≤ 99) (bmk : ∀ j : Int, 0 ≤ mk j ∧ mk j ≤ 5) (bms : ∀ j : Int, 0 ≤ ms j ∧ ms j ≤ 9) (bmp : ∀ j : Int, (-1) ≤ mp j ∧ mp j ≤ 2) (bf4 : ∀ j : Int, (-1) ≤ f4 j ∧ f4 j ≤ 99) (hln : 0 ≤ ln ∧ ln ≤ 150) (hen : 0 ≤ en ∧ en ≤ ln) (he : en = tE xb ln s ∧ st = tA xb ln s ∧ 0 ≤ st ∧ st ≤ en) (hrel : relI S M sk sc mk ms mp g) : CTi l_ D cy yX6_readShip wsX6_readShip rX6_readShip [.ref (x 0), .ref (q 0)] ([wX cy x ln tok st en va xb, wI cy q S M sk sc mk ms mp, wF cy (q 12) (q 13) 32 8 r4 f4]) (fun (z : Int) (u : (Int) × (Int) × (Int) × (Int) × (Int) × (Int → Int) × (Int → Int) × (Int)) => ((z = 1 ∧ (shpI xb ln s g).1 = 1 ∧ relI u.2.2.2.2.1 M u.2.2.2.2.2.1 u.2.2.2.2.2.2.1 mk ms mp (shpI xb ln s g).2.2 ∧ u.2.1 = (shpI xb ln s g).2.1) ∨ (z = 0 ∧ (shpI xb ln s g).1 = 0 ∧ u.1 = (shpI xb ln s g).2.1)) ∧ (0 ≤ u.1 ∧ u.1 ≤ u.2.1 ∧ u.2.1 ≤ ln ∧ en ≤ u.2.1) ∧ (u.2.2.2.2.2.2.2 = r4 ∨ u.2.2.2.2.2.2.2 = 0) ∧ (0 ≤ u.2.2.2.2.1 ∧ u.2.2.2.2.1 ≤ 3) ∧ (∀ j : Int, 0 ≤ u.2.2.2.2.2.1 j ∧ u.2.2.2.2.2.1 j ≤ 5) ∧ (∀ j : Int, 0 ≤ u.2.2.2.2.2.2.1 j ∧ u.2.2.2.2.2.2.1 j ≤ 99)) (fun (u : (Int) × (Int) × (Int) × (Int) × (Int) × (Int → Int) × (Int → Int) × (Int)) => [wX cy x ln u.2.2.1 u.1 u.2.1 u.2.2.2.1 xb, wI cy q u.2.2.2.2.1 M u.2.2.2.2.2.1 u.2.2.2.2.2.2.1 mk ms mp, wF cy (q 12) (q 13) 32 8 u.2.2.2.2.2.2.2 f4]) := by
  refine CTi.of RX6 cX6_readShip 3 rfl (by decide) rfl (fun z u hz => z_bl4 hz) (Nat.le_of_ble_eq_true rfl) ?_
  intro p_ e_ s_ m_ ar_ be_ me_ c_ Q_ A_ ls_ F_ K_ W_ hl hret
  have hl : lv_has ls_ 3 [(0, .ref (x 0)), (1, .ref (q 0))] := hl
  obtain ⟨H_, hH_⟩ : ∃ x, x = s_.heap := ⟨_, rfl⟩
  obtain ⟨lo_, hlo_⟩ : ∃ x : List Loc, x = [] := ⟨_, rfl⟩
  have W_ : WD D A_ s_.heap ([wX cy x ln tok st en va xb, wI cy q S M sk sc mk ms mp, wF cy (q 12) (q 13) 32 8 r4 f4]) H_ lo_ := by rw [hH_, hlo_]; exact W_
  rw [← hlo_]
  suffices hg_ : W p_ l_ e_ rX6_readShip s_ m_ ar_ be_ me_ c_ H_ lo_ 0 0 Q_ (F0 m_ 0 ls_ []) by rw [hH_] at hg_; exact hg_
  clear hH_ hlo_
  have hinX4 : ∀ w ∈ u_ws RX4 TX4 11, w ∈ wsX6_readShip := fun w h => List.mem_cons_of_mem _ (List.mem_append_left _ (List.mem_append_left _ (List.mem_append_right _ h)))
  have hr1 := hrel.1
  refine lv_aload_n F_.1 F_.2.1 dX6_readShip_0 rfl (lv_at hl 1 rfl) ?_
  refine z_get F_ K_ W_ 1 0 0 rfl rfl rfl (C := RX4) (T := TX4) (N := 11) rfl (by decide) hinX4 (List.mem_of_getElem? (i := 1) rfl) dX6_readShip_1 ?_
  refine z_iconst F_ dX6_readShip_4 ?_
  refine z_icmp_lt (tgt := 10) F_ (by omega) dX6_readShip_5 (by decide) (fun c5 => ?_) (fun c5 => ?_)
  · refine lv_aload_n F_.1 F_.2.1 dX6_readShip_10 rfl (lv_at hl 0 rfl) ?_
    refine z_iconst F_ dX6_readShip_11 ?_
    refine z_iconst F_ dX6_readShip_12 ?_
    refine z_callVi F_ K_ W_ [.int (zi 0), .int (zi 5)] (c_X6_nextNumber l_ D cy x ln tok st en va xb 0 5 bxb (by first | omega | assumption) (by first | omega | assumption) (by first | omega | assumption) (by first | omega | assumption) (by first | omega | assumption)) 2 rfl gX6_readShip_X6_nextNumber rfl (by decide +kernel) ⟨⟨Nat.le_of_ble_eq_true rfl, Nat.le_of_ble_eq_true rfl⟩, rfl, rfl, Nat.zero_le _, Nat.zero_le _⟩ 0 0 5 rfl rfl rfl rfl hl.1 rfl (Nat.le_of_ble_eq_true rfl) [0] [1, 2] [wI cy q S M sk sc mk ms mp, wF cy (q 12) (q 13) 32 8 r4 f4] (fun (u_ : (Int) × (Int) × (Int) × (Int)) => [wX cy x ln u_.2.2.1 u_.1 u_.2.1 u_.2.2.2 xb, wI cy q S M sk sc mk ms mp, wF cy (q 12) (q 13) 32 8 r4 f4]) 3 (by decide +kernel) rfl rfl rfl (fun _ => rfl) (fun _ => rfl) (fun _ => rfl) dX6_readShip_13 (fun z_1 u_ H_ lo_ hw_ W_ => ?_)
    obtain ⟨st2_2, en2_3, tok2_4, va2_5⟩ := u_
    have W_ : WD D A_ s_.heap ([wX cy x ln tok2_4 st2_2 en2_3 va2_5 xb, wI cy q S M sk sc mk ms mp, wF cy (q 12) (q 13) 32 8 r4 f4]) H_ lo_ := W_
    replace hw_ : ((z_1 = tV xb ln en ∧ nmP xb ln 0 5 en ∧ 0 ≤ z_1 ∧ z_1 ≤ 99) ∨ (z_1 = -1 ∧ ¬ nmP xb ln 0 5 en)) ∧ (st2_2 = tA xb ln en ∧ en2_3 = tE xb ln en ∧ tok2_4 = tK xb ln en) ∧ (en ≤ st2_2 ∧ st2_2 ≤ en2_3 ∧ en2_3 ≤ ln ∧ 0 ≤ tok2_4 ∧ tok2_4 ≤ 5) ∧ (tK xb ln en = 2 → 0 ≤ tV xb ln en ∧ tV xb ln en ≤ 99) := hw_
    obtain ⟨f13_v, f13_p, f13_b, f13_w⟩ := hw_
    refine lv_istore_n (lv' := [(2, .int (zi z_1)), (0, .ref (x 0)), (1, .ref (q 0))]) F_.1 F_.2.1 dX6_readShip_16 rfl hl (by decide) rfl (fun ls_ hl => ?_)
    refine lv_iload_n F_.1 F_.2.1 dX6_readShip_17 rfl (lv_at hl 0 rfl) ?_
    refine z_iconst F_ dX6_readShip_18 ?_
    refine z_icmp_eq (tgt := 35) F_ (by omega) dX6_readShip_19 (by decide) (fun c19 => ?_) (fun c19 => ?_)
    · refine z_iconst F_ dX6_readShip_35 ?_
      exact hret _ _ _ _ 0 (st2_2, en2_3, tok2_4, va2_5, S, sk, sc, r4) dX6_readShip_36 ⟨(by first | (have hn := f13_v.resolve_right (fun q => by have := q.1; omega); have hr := shpI_1 (yb := xb) (bl := ln) (s := s) (g := g) (by omega) (by rw [← he.1]; exact hn.2.1); exact Or.inl ⟨rfl, by rw [hr], by rw [hr, ← he.1, ← hn.1, f24_k, f24_c]; exact rel_shp hrel (by omega) _, by rw [hr, ← he.1]; exact f13_p.2.1⟩) | (have hn := f13_v.resolve_left (fun q => by have := q.2.2; omega); have hr := shpI_0 (yb := xb) (bl := ln) (s := s) (g := g) (by omega) (by rw [← he.1]; exact hn.2); exact Or.inr ⟨rfl, by rw [hr], by rw [hr, ← he.1]; exact f13_p.1⟩)), (by exact ⟨by have := f13_b; omega, f13_b.2.1, f13_b.2.2.1, Int.le_trans f13_b.1 f13_b.2.1⟩), (by first | exact Or.inl rfl | exact Or.inr rfl), (by omega), bsk, bsc⟩ W_
    · refine lv_aload_n F_.1 F_.2.1 dX6_readShip_22 rfl (lv_at hl 2 rfl) ?_
      refine lv_iload_n F_.1 F_.2.1 dX6_readShip_23 rfl (lv_at hl 0 rfl) ?_
      refine z_callVi F_ K_ W_ [.int (zi z_1)] (c_X4_addShip l_ D cy q S M sk sc mk ms mp r4 f4 z_1 (by omega) (by omega) bsk bsc bmk bms bmp bf4 (by first | omega | assumption) (by first | omega | assumption) (by first | omega | assumption)) 1 rfl gX6_readShip_X4_addShip rfl (by decide +kernel) ⟨⟨Nat.le_of_ble_eq_true rfl, Nat.le_of_ble_eq_true rfl⟩, rfl, rfl, Nat.zero_le _, Nat.zero_le _⟩ 0 0 4 rfl rfl rfl rfl hl.1 rfl (Nat.le_of_ble_eq_true rfl) [1, 2] [0] [wX cy x ln tok2_4 st2_2 en2_3 va2_5 xb] (fun (u_ : (Int → Int) × (Int → Int)) => [wX cy x ln tok2_4 st2_2 en2_3 va2_5 xb, wI cy q (S + 1) M u_.1 u_.2 mk ms mp, wF cy (q 12) (q 13) 32 8 0 f4]) 3 (by decide +kernel) rfl rfl rfl (fun _ => rfl) (fun _ => rfl) (fun _ => rfl) dX6_readShip_24 (fun z_6 u_ H_ lo_ hw_ W_ => ?_)
      obtain ⟨sk2_7, sc2_8⟩ := u_
      have W_ : WD D A_ s_.heap ([wX cy x ln tok2_4 st2_2 en2_3 va2_5 xb, wI cy q (S + 1) M sk2_7 sc2_8 mk ms mp, wF cy (q 12) (q 13) 32 8 0 f4]) H_ lo_ := W_
      replace hw_ : (z_6 = S) ∧ (sk2_7 = zu sk S z_1) ∧ (sc2_8 = zu sc S 0) ∧ (∀ j : Int, 0 ≤ sk2_7 j ∧ sk2_7 j ≤ 5) ∧ (∀ j : Int, 0 ≤ sc2_8 j ∧ sc2_8 j ≤ 99) ∧ (0 ≤ S + 1 ∧ S + 1 ≤ 3) := hw_
      obtain ⟨f24_v, f24_k, f24_c, f24_B_I_sk, f24_B_I_sc, f24_B_I_S⟩ := hw_
      refine z_iconst F_ dX6_readShip_27 ?_
      refine z_icmp_eq (tgt := 35) F_ (by omega) dX6_readShip_28 (by decide) (fun c28 => ?_) (fun c28 => ?_)
      · refine z_iconst F_ dX6_readShip_35 ?_
        exact hret _ _ _ _ 0 (st2_2, en2_3, tok2_4, va2_5, S + 1, sk2_7, sc2_8, 0) dX6_readShip_36 ⟨(by first | (have hn := f13_v.resolve_right (fun q => by have := q.1; omega); have hr := shpI_1 (yb := xb) (bl := ln) (s := s) (g := g) (by omega) (by rw [← he.1]; exact hn.2.1); exact Or.inl ⟨rfl, by rw [hr], by rw [hr, ← he.1, ← hn.1, f24_k, f24_c]; exact rel_shp hrel (by omega) _, by rw [hr, ← he.1]; exact f13_p.2.1⟩) | (have hn := f13_v.resolve_left (fun q => by have := q.2.2; omega); have hr := shpI_0 (yb := xb) (bl := ln) (s := s) (g := g) (by omega) (by rw [← he.1]; exact hn.2); exact Or.inr ⟨rfl, by rw [hr], by rw [hr, ← he.1]; exact f13_p.1⟩)), (by exact ⟨by have := f13_b; omega, f13_b.2.1, f13_b.2.2.1, Int.le_trans f13_b.1 f13_b.2.1⟩), (by first | exact Or.inl rfl | exact Or.inr rfl), (by omega), f24_B_I_sk, f24_B_I_sc⟩ W_
      · refine z_iconst F_ dX6_readShip_31 ?_
        refine z_goto (tgt := 36) F_ dX6_readShip_32 (by decide) ?_
        exact hret _ _ _ _ 1 (st2_2, en2_3, tok2_4, va2_5, S + 1, sk2_7, sc2_8, 0) dX6_readShip_36 ⟨(by first | (have hn := f13_v.resolve_right (fun q => by have := q.1; omega); have hr := shpI_1 (yb := xb) (bl := ln) (s := s) (g := g) (by omega) (by rw [← he.1]; exact hn.2.1); exact Or.inl ⟨rfl, by rw [hr], by rw [hr, ← he.1, ← hn.1, f24_k, f24_c]; exact rel_shp hrel (by omega) _, by rw [hr, ← he.1]; exact f13_p.2.1⟩) | (have hn := f13_v.resolve_left (fun q => by have := q.2.2; omega); have hr := shpI_0 (yb := xb) (bl := ln) (s := s) (g := g) (by omega) (by rw [← he.1]; exact hn.2); exact Or.inr ⟨rfl, by rw [hr], by rw [hr, ← he.1]; exact f13_p.1⟩)), (by exact ⟨by have := f13_b; omega, f13_b.2.1, f13_b.2.2.1, Int.le_trans f13_b.1 f13_b.2.1⟩), (by first | exact Or.inl rfl | exact Or.inr rfl), (by omega), f24_B_I_sk, f24_B_I_sc⟩ W_
  · refine z_iconst F_ dX6_readShip_8 ?_
    exact hret _ _ _ _ 0 (st, en, tok, va, S, sk, sc, r4) dX6_readShip_9 ⟨(by exact Or.inr ⟨rfl, by rw [shpI, if_pos (by omega)], by rw [shpI, if_pos (by omega)]; exact he.2.1⟩), (by exact ⟨he.2.2.1, he.2.2.2, hen.2, Int.le_refl _⟩), (by first | exact Or.inl rfl | exact Or.inr rfl), (by omega), bsk, bsc⟩ W_
abbrev rX6_readCall : Room := { frames := 4, cells := 0, slots := 0, locals := 85 }
set_option maxHeartbeats 1000000 in
set_option maxRecDepth 100000 in
theorem c_X6_readCall (l_ : Launch) (D : va_G) (cy : Nat → ClassId) (x : Nat → Nat) (ln : Int) (tok : Int) (st : Int) (en : Int) (va : Int) (xb : Int → Int) (q : Nat → Nat) (S : Int) (M : Int) (sk : Int → Int) (sc : Int → Int) (mk : Int → Int) (ms : Int → Int) (mp : Int → Int) (s : Int) (g : Int → Int) (bxb : ∀ j : Int, 0 ≤ xb j ∧ xb j ≤ 127) (bS : 0 ≤ S ∧ S ≤ 3) (bM : 0 ≤ M ∧ M ≤ 8) (bsk : ∀ j : Int, 0 ≤ sk j ∧ sk j ≤ 5) (bsc : ∀ j : Int, 0 ≤ sc j ∧ sc j ≤ 99) (bmk : ∀ j : Int, 0 ≤ mk j ∧ mk j ≤ 5) (bms : ∀ j : Int, 0 ≤ ms j ∧ ms j ≤ 9) (bmp : ∀ j : Int, (-1) ≤ mp j ∧ mp j ≤ 2) (hln : 0 ≤ ln ∧ ln ≤ 150) (hen : 0 ≤ en ∧ en ≤ ln) (he : en = tE xb ln s ∧ st = tA xb ln s ∧ 0 ≤ st ∧ st ≤ en) (hrel : relI S M sk sc mk ms mp g) : CTi l_ D cy yX6_readCall wsX6_readCall rX6_readCall [.ref (x 0), .ref (q 0)] ([wX cy x ln tok st en va xb, wI cy q S M sk sc mk ms mp]) (fun (z : Int) (u : (Int) × (Int) × (Int) × (Int) × (Int → Int) × (Int → Int)) => ((z = 1 ∧ (calI xb ln s g).1 = 1 ∧ relI S M sk u.2.2.2.2.1 mk ms u.2.2.2.2.2 (calI xb ln s g).2.2 ∧ u.2.1 = (calI xb ln s g).2.1) ∨ (z = 0 ∧ (calI xb ln s g).1 = 0 ∧ u.1 = (calI xb ln s g).2.1)) ∧ (0 ≤ u.1 ∧ u.1 ≤ u.2.1 ∧ u.2.1 ≤ ln ∧ en ≤ u.2.1) ∧ (∀ j : Int, 0 ≤ u.2.2.2.2.1 j ∧ u.2.2.2.2.1 j ≤ 99) ∧ (∀ j : Int, (-1) ≤ u.2.2.2.2.2 j ∧ u.2.2.2.2.2 j ≤ 2)) (fun (u : (Int) × (Int) × (Int) × (Int) × (Int → Int) × (Int → Int)) => [wX cy x ln u.2.2.1 u.1 u.2.1 u.2.2.2.1 xb, wI cy q S M sk u.2.2.2.2.1 mk ms u.2.2.2.2.2]) := by
  refine CTi.of RX6 cX6_readCall 3 rfl (by decide) rfl (fun z u hz => z_bl4 hz) (Nat.le_of_ble_eq_true rfl) ?_
  intro p_ e_ s_ m_ ar_ be_ me_ c_ Q_ A_ ls_ F_ K_ W_ hl hret
  have hl : lv_has ls_ 3 [(0, .ref (x 0)), (1, .ref (q 0))] := hl
  obtain ⟨H_, hH_⟩ : ∃ x, x = s_.heap := ⟨_, rfl⟩
  obtain ⟨lo_, hlo_⟩ : ∃ x : List Loc, x = [] := ⟨_, rfl⟩
  have W_ : WD D A_ s_.heap ([wX cy x ln tok st en va xb, wI cy q S M sk sc mk ms mp]) H_ lo_ := by rw [hH_, hlo_]; exact W_
  rw [← hlo_]
  suffices hg_ : W p_ l_ e_ rX6_readCall s_ m_ ar_ be_ me_ c_ H_ lo_ 0 0 Q_ (F0 m_ 0 ls_ []) by rw [hH_] at hg_; exact hg_
  clear hH_ hlo_
  have hinX4 : ∀ w ∈ u_ws RX4 TX4 11, w ∈ wsX6_readCall := fun w h => List.mem_cons_of_mem _ (List.mem_append_left _ (List.mem_append_right _ h))
  have hr1 := hrel.1
  refine lv_aload_n F_.1 F_.2.1 dX6_readCall_0 rfl (lv_at hl 0 rfl) ?_
  refine z_iconst F_ dX6_readCall_1 ?_
  refine lv_aload_n F_.1 F_.2.1 dX6_readCall_2 rfl (lv_at hl 1 rfl) ?_
  refine z_get F_ K_ W_ 1 0 0 rfl rfl rfl (C := RX4) (T := TX4) (N := 11) rfl (by decide) hinX4 (List.mem_of_getElem? (i := 1) rfl) dX6_readCall_3 ?_
  refine z_iconst F_ dX6_readCall_6 ?_
  refine z_isub F_ dX6_readCall_7 ?_
  refine z_callVi F_ K_ W_ [.int (zi 0), .int (zi (S - 1))] (c_X6_nextNumber l_ D cy x ln tok st en va xb 0 (S - 1) bxb (by first | omega | assumption) (by first | omega | assumption) (by first | omega | assumption) (by first | omega | assumption) (by first | omega | assumption)) 2 rfl gX6_readCall_X6_nextNumber rfl (by decide +kernel) ⟨⟨Nat.le_of_ble_eq_true rfl, Nat.le_of_ble_eq_true rfl⟩, rfl, rfl, Nat.zero_le _, Nat.zero_le _⟩ 0 0 5 rfl rfl rfl rfl hl.1 rfl (Nat.le_of_ble_eq_true rfl) [0] [1] [wI cy q S M sk sc mk ms mp] (fun (u_ : (Int) × (Int) × (Int) × (Int)) => [wX cy x ln u_.2.2.1 u_.1 u_.2.1 u_.2.2.2 xb, wI cy q S M sk sc mk ms mp]) 2 (by decide +kernel) rfl rfl rfl (fun _ => rfl) (fun _ => rfl) (fun _ => rfl) dX6_readCall_8 (fun z_1 u_ H_ lo_ hw_ W_ => ?_)
  obtain ⟨st2_2, en2_3, tok2_4, va2_5⟩ := u_
  have W_ : WD D A_ s_.heap ([wX cy x ln tok2_4 st2_2 en2_3 va2_5 xb, wI cy q S M sk sc mk ms mp]) H_ lo_ := W_
  replace hw_ : ((z_1 = tV xb ln en ∧ nmP xb ln 0 (S - 1) en ∧ 0 ≤ z_1 ∧ z_1 ≤ 99) ∨ (z_1 = -1 ∧ ¬ nmP xb ln 0 (S - 1) en)) ∧ (st2_2 = tA xb ln en ∧ en2_3 = tE xb ln en ∧ tok2_4 = tK xb ln en) ∧ (en ≤ st2_2 ∧ st2_2 ≤ en2_3 ∧ en2_3 ≤ ln ∧ 0 ≤ tok2_4 ∧ tok2_4 ≤ 5) ∧ (tK xb ln en = 2 → 0 ≤ tV xb ln en ∧ tV xb ln en ≤ 99) := hw_
  obtain ⟨f8_v, f8_p, f8_b, f8_w⟩ := hw_
  refine lv_istore_n (lv' := [(2, .int (zi z_1)), (0, .ref (x 0)), (1, .ref (q 0))]) F_.1 F_.2.1 dX6_readCall_11 rfl hl (by decide) rfl (fun ls_ hl => ?_)
  refine lv_aload_n F_.1 F_.2.1 dX6_readCall_12 rfl (lv_at hl 2 rfl) ?_
  refine lv_iload_n F_.1 F_.2.1 dX6_readCall_13 rfl (lv_at hl 0 rfl) ?_
  refine z_callVip F_ K_ W_ [.int (zi z_1)] (c_X4_hasShip l_ D cy q S M sk sc mk ms mp z_1 (by omega) (by omega) bsk bsc bmk bms bmp (by first | omega | assumption)) 1 rfl gX6_readCall_X4_hasShip rfl (by decide +kernel) ⟨⟨Nat.le_of_ble_eq_true rfl, Nat.le_of_ble_eq_true rfl⟩, rfl, rfl, Nat.zero_le _, Nat.zero_le _⟩ 0 0 4 rfl rfl rfl rfl hl.1 rfl (Nat.le_of_ble_eq_true rfl) [1] [0] [wX cy x ln tok2_4 st2_2 en2_3 va2_5 xb] 2 (by decide +kernel) rfl rfl rfl dX6_readCall_14 (fun z_6 _ H_ lo_ hw_ W_ => ?_)
  replace hw_ : ((z_6 = 1 ∧ (0 ≤ z_1 ∧ z_1 < S)) ∨ (z_6 = 0 ∧ ¬ (0 ≤ z_1 ∧ z_1 < S))) := hw_
  have f14_v := hw_
  clear hw_
  refine z_if_eq (tgt := 33) F_ (by omega) dX6_readCall_17 (by decide) (fun c17 => ?_) (fun c17 => ?_)
  · refine z_iconst F_ dX6_readCall_33 ?_
    exact hret _ _ _ _ 0 (st2_2, en2_3, tok2_4, va2_5, sc, mp) dX6_readCall_34 ⟨(by first | (have hn := f8_v.resolve_right (fun q => by have := q.1; omega); have hl := rel_lst hrel (h := z_1) (by omega); have hr := calI_1 (yb := xb) (bl := ln) (s := s) (g := g) ⟨by rw [← he.1, hr1.1]; exact hn.2.1, by rw [← he.1, ← hn.1]; intro q; have := (hcz (by omega)).mpr q; omega⟩; exact Or.inl ⟨rfl, by rw [hr], by rw [hr, ← he.1, ← hn.1, f22_p, f22_c, f22_v, hl]; exact rel_go hrel (by omega) (by rw [← hl]; exact rel_lb hrel), by rw [hr, ← he.1]; exact f8_p.2.1⟩) | (have hr := calI_0 (yb := xb) (bl := ln) (s := s) (g := g) (fun q => by have h1 : tK xb ln (tE xb ln s) = 2 ∧ 0 ≤ tV xb ln (tE xb ln s) ∧ tV xb ln (tE xb ln s) ≤ g 1 - 1 := q.1; have h2 := q.2; rw [← he.1] at h1 h2; rcases f8_v with w | w; (have hw := w.1; first | omega | (rw [← hw] at h2; exact h2 ((hcz (by omega)).mp (by omega)))); exact w.2 ⟨h1.1, h1.2.1, by omega⟩); exact Or.inr ⟨rfl, by rw [hr], by rw [hr, ← he.1]; exact f8_p.1⟩)), (by exact ⟨by have := f8_b; omega, f8_b.2.1, f8_b.2.2.1, Int.le_trans f8_b.1 f8_b.2.1⟩), bsc, bmp⟩ W_
  · refine lv_aload_n F_.1 F_.2.1 dX6_readCall_20 rfl (lv_at hl 2 rfl) ?_
    refine lv_iload_n F_.1 F_.2.1 dX6_readCall_21 rfl (lv_at hl 0 rfl) ?_
    refine z_callVi F_ K_ W_ [.int (zi z_1)] (c_X4_leaveOne l_ D cy q S M sk sc mk ms mp z_1 (by omega) (by omega) bsk bsc bmk bms bmp (by first | omega | assumption)) 1 rfl gX6_readCall_X4_leaveOne rfl (by decide +kernel) ⟨⟨Nat.le_of_ble_eq_true rfl, Nat.le_of_ble_eq_true rfl⟩, rfl, rfl, Nat.zero_le _, Nat.zero_le _⟩ 0 0 4 rfl rfl rfl rfl hl.1 rfl (Nat.le_of_ble_eq_true rfl) [1] [0] [wX cy x ln tok2_4 st2_2 en2_3 va2_5 xb] (fun (u_ : (Int → Int) × (Int → Int)) => [wX cy x ln tok2_4 st2_2 en2_3 va2_5 xb, wI cy q S M sk u_.1 mk ms u_.2]) 2 (by decide +kernel) rfl rfl rfl (fun _ => rfl) (fun _ => rfl) (fun _ => rfl) dX6_readCall_22 (fun z_7 u_ H_ lo_ hw_ W_ => ?_)
    obtain ⟨sc2_8, mp2_9⟩ := u_
    have W_ : WD D A_ s_.heap ([wX cy x ln tok2_4 st2_2 en2_3 va2_5 xb, wI cy q S M sk sc2_8 mk ms mp2_9]) H_ lo_ := W_
    replace hw_ : (z_7 = lstI S M sc mk ms mp z_1) ∧ (mp2_9 = goMp mp z_7) ∧ (sc2_8 = goSc sc z_1 z_7) ∧ (∀ j : Int, 0 ≤ sc2_8 j ∧ sc2_8 j ≤ 99) ∧ (∀ j : Int, (-1) ≤ mp2_9 j ∧ mp2_9 j ≤ 2) := hw_
    obtain ⟨f22_v, f22_p, f22_c, f22_B_I_sc, f22_B_I_mp⟩ := hw_
    have hcz := rel_lz hrel (h := z_1)
    have hlb := rel_lb hrel (h := z_1)
    rw [← f22_v] at hlb
    refine z_iconst F_ dX6_readCall_25 ?_
    refine z_icmp_eq (tgt := 33) F_ (by omega) dX6_readCall_26 (by decide) (fun c26 => ?_) (fun c26 => ?_)
    · refine z_iconst F_ dX6_readCall_33 ?_
      exact hret _ _ _ _ 0 (st2_2, en2_3, tok2_4, va2_5, sc2_8, mp2_9) dX6_readCall_34 ⟨(by first | (have hn := f8_v.resolve_right (fun q => by have := q.1; omega); have hl := rel_lst hrel (h := z_1) (by omega); have hr := calI_1 (yb := xb) (bl := ln) (s := s) (g := g) ⟨by rw [← he.1, hr1.1]; exact hn.2.1, by rw [← he.1, ← hn.1]; intro q; have := (hcz (by omega)).mpr q; omega⟩; exact Or.inl ⟨rfl, by rw [hr], by rw [hr, ← he.1, ← hn.1, f22_p, f22_c, f22_v, hl]; exact rel_go hrel (by omega) (by rw [← hl]; exact rel_lb hrel), by rw [hr, ← he.1]; exact f8_p.2.1⟩) | (have hr := calI_0 (yb := xb) (bl := ln) (s := s) (g := g) (fun q => by have h1 : tK xb ln (tE xb ln s) = 2 ∧ 0 ≤ tV xb ln (tE xb ln s) ∧ tV xb ln (tE xb ln s) ≤ g 1 - 1 := q.1; have h2 := q.2; rw [← he.1] at h1 h2; rcases f8_v with w | w; (have hw := w.1; first | omega | (rw [← hw] at h2; exact h2 ((hcz (by omega)).mp (by omega)))); exact w.2 ⟨h1.1, h1.2.1, by omega⟩); exact Or.inr ⟨rfl, by rw [hr], by rw [hr, ← he.1]; exact f8_p.1⟩)), (by exact ⟨by have := f8_b; omega, f8_b.2.1, f8_b.2.2.1, Int.le_trans f8_b.1 f8_b.2.1⟩), f22_B_I_sc, f22_B_I_mp⟩ W_
    · refine z_iconst F_ dX6_readCall_29 ?_
      refine z_goto (tgt := 34) F_ dX6_readCall_30 (by decide) ?_
      exact hret _ _ _ _ 1 (st2_2, en2_3, tok2_4, va2_5, sc2_8, mp2_9) dX6_readCall_34 ⟨(by first | (have hn := f8_v.resolve_right (fun q => by have := q.1; omega); have hl := rel_lst hrel (h := z_1) (by omega); have hr := calI_1 (yb := xb) (bl := ln) (s := s) (g := g) ⟨by rw [← he.1, hr1.1]; exact hn.2.1, by rw [← he.1, ← hn.1]; intro q; have := (hcz (by omega)).mpr q; omega⟩; exact Or.inl ⟨rfl, by rw [hr], by rw [hr, ← he.1, ← hn.1, f22_p, f22_c, f22_v, hl]; exact rel_go hrel (by omega) (by rw [← hl]; exact rel_lb hrel), by rw [hr, ← he.1]; exact f8_p.2.1⟩) | (have hr := calI_0 (yb := xb) (bl := ln) (s := s) (g := g) (fun q => by have h1 : tK xb ln (tE xb ln s) = 2 ∧ 0 ≤ tV xb ln (tE xb ln s) ∧ tV xb ln (tE xb ln s) ≤ g 1 - 1 := q.1; have h2 := q.2; rw [← he.1] at h1 h2; rcases f8_v with w | w; (have hw := w.1; first | omega | (rw [← hw] at h2; exact h2 ((hcz (by omega)).mp (by omega)))); exact w.2 ⟨h1.1, h1.2.1, by omega⟩); exact Or.inr ⟨rfl, by rw [hr], by rw [hr, ← he.1]; exact f8_p.1⟩)), (by exact ⟨by have := f8_b; omega, f8_b.2.1, f8_b.2.2.1, Int.le_trans f8_b.1 f8_b.2.1⟩), f22_B_I_sc, f22_B_I_mp⟩ W_
