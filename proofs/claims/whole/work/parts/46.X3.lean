/-! the cells of an Inquiry -/
abbrev wQ (cy : Nat → ClassId) (t0 t1 : Nat) (te : Int → Int) : va_W := [(t0, .inr (3, [.ref t1])), (t1, .inl (cy 0, 6, .inl (zA te)))]

abbrev rX3_fitsSights : Room := { frames := 1, cells := 0, slots := 0, locals := 25 }
set_option maxHeartbeats 1000000 in
set_option maxRecDepth 100000 in
theorem c_X3_fitsSights (l_ : Launch) (D : va_G) (cy : Nat → ClassId) (t0 : Nat) (t1 : Nat) (te : Int → Int) (q : Nat → Nat) (S : Int) (M : Int) (sk : Int → Int) (sc : Int → Int) (mk : Int → Int) (ms : Int → Int) (mp : Int → Int) (r1 : Int) (f1 : Int → Int) (i : Int) (t : Int) (bte : ∀ j : Int, 0 ≤ te j ∧ te j ≤ 300) (bS : 0 ≤ S ∧ S ≤ 3) (bM : 0 ≤ M ∧ M ≤ 8) (bsk : ∀ j : Int, 0 ≤ sk j ∧ sk j ≤ 5) (bsc : ∀ j : Int, 0 ≤ sc j ∧ sc j ≤ 99) (bmk : ∀ j : Int, 0 ≤ mk j ∧ mk j ≤ 5) (bms : ∀ j : Int, 0 ≤ ms j ∧ ms j ≤ 9) (bmp : ∀ j : Int, (-1) ≤ mp j ∧ mp j ≤ 2) (bf1 : ∀ j : Int, (-1) ≤ f1 j ∧ f1 j ≤ 99) (ri : -2147483648 ≤ i ∧ i < 2147483648) (rt : -2147483648 ≤ t ∧ t < 2147483648) (hr : 0 ≤ r1 ∧ r1 ≤ 5) (hi : 0 ≤ i ∧ i < M) (ht : 1 ≤ t ∧ t ≤ 9) (hrow : ∀ k, 0 ≤ k → k < r1 → 0 ≤ f1 (4 * k + 1)) : CTi l_ D cy yX3_fitsSights wsX3_fitsSights rX3_fitsSights [.ref t0, .ref (q 0), .int (zi i), .int (zi t)] ([wQ cy t0 t1 te, wI cy q S M sk sc mk ms mp, wF cy (q 6) (q 7) 20 5 r1 f1]) (fun (z : Int) (u : Unit) => ((z = 1 ∧ okZ f1 (mk i) i t r1 = 1) ∨ (z = 0 ∧ okZ f1 (mk i) i t r1 = 0))) (fun (_ : Unit) => [wQ cy t0 t1 te, wI cy q S M sk sc mk ms mp, wF cy (q 6) (q 7) 20 5 r1 f1]) := by
  refine CTi.of RX3 cX3_fitsSights 7 rfl (by decide) rfl (fun z u hz => z_bl hz) (Nat.le_of_ble_eq_true rfl) ?_
  intro p_ e_ s_ m_ ar_ be_ me_ c_ Q_ A_ ls_ F_ K_ W_ hl hret
  have hl : lv_has ls_ 7 [(0, .ref t0), (1, .ref (q 0)), (2, .int (zi i)), (3, .int (zi t))] := hl
  obtain ⟨H_, hH_⟩ : ∃ x, x = s_.heap := ⟨_, rfl⟩
  obtain ⟨lo_, hlo_⟩ : ∃ x : List Loc, x = [] := ⟨_, rfl⟩
  have W_ : WD D A_ s_.heap ([wQ cy t0 t1 te, wI cy q S M sk sc mk ms mp, wF cy (q 6) (q 7) 20 5 r1 f1]) H_ lo_ := by rw [hH_, hlo_]; exact W_
  rw [← hlo_]
  suffices hg_ : W p_ l_ e_ rX3_fitsSights s_ m_ ar_ be_ me_ c_ H_ lo_ 0 0 Q_ (F0 m_ 0 ls_ []) by rw [hH_] at hg_; exact hg_
  clear hH_ hlo_
  have hinX4 : ∀ w ∈ u_ws RX4 TX4 11, w ∈ wsX3_fitsSights := fun w h => List.mem_cons_of_mem _ (List.mem_append_left _ (List.mem_append_right _ h))
  refine lv_aload_n F_.1 F_.2.1 dX3_fitsSights_0 rfl (lv_at hl 1 rfl) ?_
  refine z_get F_ K_ W_ 1 0 7 rfl rfl rfl (C := RX4) (T := TX4) (N := 11) rfl (by decide) hinX4 (List.mem_of_getElem? (i := 1) rfl) dX3_fitsSights_1 ?_
  refine lv_astore (lv' := [(4, .ref (q 6)), (0, .ref t0), (1, .ref (q 0)), (2, .int (zi i)), (3, .int (zi t))]) F_.1 F_.2.1 dX3_fitsSights_4 hl (by decide) rfl (fun ls_ hl => ?_)
  refine z_iconst F_ dX3_fitsSights_6 ?_
  refine lv_istore (lv' := [(5, .int (zi 0)), (4, .ref (q 6)), (0, .ref t0), (1, .ref (q 0)), (2, .int (zi i)), (3, .int (zi t))]) F_.1 F_.2.1 dX3_fitsSights_7 hl (by decide) rfl (fun ls_ hl => ?_)
  have L9 : ∀ (n_ : Nat) (k : Int) (hk : 0 ≤ k ∧ k ≤ r1) (hx : okZ f1 (mk i) i t k = 1) (hm_ : (r1 - k : Int) < (n_ : Int)) (ls_ : Array Slot) (H_ : Heap) (lo_ : List Loc), WD D A_ s_.heap ([wQ cy t0 t1 te, wI cy q S M sk sc mk ms mp, wF cy (q 6) (q 7) 20 5 r1 f1]) H_ lo_ → lv_has ls_ 7 [(5, .int (zi k)), (4, .ref (q 6)), (0, .ref t0), (1, .ref (q 0)), (2, .int (zi i)), (3, .int (zi t))] → W p_ l_ e_ rX3_fitsSights s_ m_ ar_ be_ me_ c_ H_ lo_ 0 0 Q_ (F0 m_ 9 ls_ []) := by
    intro n_
    induction n_ with
    | zero =>
      intro k hk hx hm_ ls_ H_ lo_ _ _
      exact absurd hm_ (by omega)
    | succ n_ ih_ =>
      intro k hk hx hm_ ls_ H_ lo_ W_ hl
      have ih9 := ih_
      refine lv_iload F_.1 F_.2.1 dX3_fitsSights_9 (lv_at hl 0 rfl) ?_
      refine lv_aload F_.1 F_.2.1 dX3_fitsSights_11 (lv_at hl 1 rfl) ?_
      refine z_callVip F_ K_ W_ [] (c_X2_size l_ D cy (q 6) (q 7) 20 5 r1 f1 bf1) 0 rfl gX3_fitsSights_X2_size rfl (by decide +kernel) ⟨⟨Nat.le_of_ble_eq_true rfl, Nat.le_of_ble_eq_true rfl⟩, rfl, rfl, Nat.zero_le _, Nat.zero_le _⟩ 0 0 2 rfl rfl rfl rfl hl.1 rfl (Nat.le_of_ble_eq_true rfl) [2] [0, 1] [wQ cy t0 t1 te, wI cy q S M sk sc mk ms mp] 3 (by decide +kernel) rfl rfl rfl dX3_fitsSights_13 (fun z_1 _ H_ lo_ hw_ W_ => ?_)
      replace hw_ : (z_1 = r1) := hw_
      have f13_v := hw_
      clear hw_
      have f13_v := f13_v.symm
      subst f13_v
      
      refine z_icmp_ge (tgt := 97) F_ (by omega) dX3_fitsSights_16 (by decide) (fun c16 => ?_) (fun c16 => ?_)
      · refine z_iconst F_ dX3_fitsSights_97 ?_
        exact hret _ _ _ _ 1 () dX3_fitsSights_98 (by exact Or.inl ⟨rfl, by rw [show r1 = k by omega]; exact hx⟩) W_
      · refine lv_aload F_.1 F_.2.1 dX3_fitsSights_19 (lv_at hl 1 rfl) ?_
        refine lv_iload F_.1 F_.2.1 dX3_fitsSights_21 (lv_at hl 0 rfl) ?_
        refine z_iconst F_ dX3_fitsSights_23 ?_
        refine z_callVip F_ K_ W_ [.int (zi k), .int (zi 0)] (c_X2_cell l_ D cy (q 6) (q 7) 20 5 r1 f1 k 0 bf1 (by first | omega | assumption) (by first | omega | assumption) (by first | omega | assumption) (by first | omega | assumption) (by first | omega | assumption) (by first | omega | assumption)) 2 rfl gX3_fitsSights_X2_cell rfl (by decide +kernel) ⟨⟨Nat.le_of_ble_eq_true rfl, Nat.le_of_ble_eq_true rfl⟩, rfl, rfl, Nat.zero_le _, Nat.zero_le _⟩ 0 0 2 rfl rfl rfl rfl hl.1 rfl (Nat.le_of_ble_eq_true rfl) [2] [0, 1] [wQ cy t0 t1 te, wI cy q S M sk sc mk ms mp] 3 (by decide +kernel) rfl rfl rfl dX3_fitsSights_24 (fun z_2 _ H_ lo_ hw_ W_ => ?_)
        replace hw_ : (z_2 = f1 (4 * k + 0)) := hw_
        have f24_v := hw_
        clear hw_
        have f24_v := f24_v.symm
        subst f24_v
        have hrk := hrow k (by omega) (by omega)
        have b24 := bf1 (4 * k + 0)
        have e24 : f1 (4 * k + 0) = f1 (4 * k) := by rw [Int.add_zero]
        rw [e24]
        refine lv_iload_n F_.1 F_.2.1 dX3_fitsSights_27 rfl (lv_at hl 4 rfl) ?_
        refine z_icmp_ne (tgt := 91) F_ (by omega) dX3_fitsSights_28 (by decide) (fun c28 => ?_) (fun c28 => ?_)
        · refine z_iinc (lv' := [(5, .int (zi (k + 1))), (4, .ref (q 6)), (0, .ref t0), (1, .ref (q 0)), (2, .int (zi i)), (3, .int (zi t))]) F_ dX3_fitsSights_91 hl (k := 0) rfl (by decide) rfl (fun ls_ hl => ?_)
          refine z_goto (tgt := 9) F_ dX3_fitsSights_94 (by decide) ?_
          exact ih9 (k + 1) (by first | omega | assumption) (by rw [okZ_s _ _ _ _ hk.1, hx]; first | rw [if_pos (fun q => by first | omega | exact absurd q c28)]) (by omega) ls_ H_ lo_ W_ (lv_sub hl [0, 1, 2, 3, 4, 5] rfl)
        · refine lv_aload_n F_.1 F_.2.1 dX3_fitsSights_31 rfl (lv_at hl 3 rfl) ?_
          refine z_get F_ K_ W_ 1 0 4 rfl rfl rfl (C := RX4) (T := TX4) (N := 11) rfl (by decide) hinX4 (List.mem_of_getElem? (i := 2) rfl) dX3_fitsSights_32 ?_
          refine lv_iload_n F_.1 F_.2.1 dX3_fitsSights_35 rfl (lv_at hl 4 rfl) ?_
          refine z_iald F_ K_ W_ 1 3 rfl rfl (by omega) (by decide) dX3_fitsSights_36 ?_
          have b_3 := bmk i
          refine lv_iload_n F_.1 F_.2.1 dX3_fitsSights_37 rfl (lv_at hl 5 rfl) ?_
          refine lv_aload F_.1 F_.2.1 dX3_fitsSights_38 (lv_at hl 1 rfl) ?_
          refine lv_iload F_.1 F_.2.1 dX3_fitsSights_40 (lv_at hl 0 rfl) ?_
          refine z_iconst F_ dX3_fitsSights_42 ?_
          refine z_callVip F_ K_ W_ [.int (zi k), .int (zi 1)] (c_X2_cell l_ D cy (q 6) (q 7) 20 5 r1 f1 k 1 bf1 (by first | omega | assumption) (by first | omega | assumption) (by first | omega | assumption) (by first | omega | assumption) (by first | omega | assumption) (by first | omega | assumption)) 2 rfl gX3_fitsSights_X2_cell rfl (by decide +kernel) ⟨⟨Nat.le_of_ble_eq_true rfl, Nat.le_of_ble_eq_true rfl⟩, rfl, rfl, Nat.zero_le _, Nat.zero_le _⟩ 0 0 2 rfl rfl rfl rfl hl.1 rfl (Nat.le_of_ble_eq_true rfl) [2] [0, 1] [wQ cy t0 t1 te, wI cy q S M sk sc mk ms mp] 3 (by decide +kernel) rfl rfl rfl dX3_fitsSights_43 (fun z_4 _ H_ lo_ hw_ W_ => ?_)
          replace hw_ : (z_4 = f1 (4 * k + 1)) := hw_
          have f43_v := hw_
          clear hw_
          have f43_v := f43_v.symm
          subst f43_v
          have b43 := bf1 (4 * k + 1)
          refine z_callSip F_ K_ W_ [.int (zi (mk i)), .int (zi t), .int (zi (f1 (4 * k + 1)))] (c_X5_liked l_ D cy (mk i) t (f1 (4 * k + 1)) (by first | omega | assumption) (by first | omega | assumption) (by first | omega | assumption) (by first | omega | assumption) (by first | omega | assumption)) 3 rfl gX3_fitsSights_X5_liked rfl (by decide +kernel) ⟨⟨Nat.le_of_ble_eq_true rfl, Nat.le_of_ble_eq_true rfl⟩, rfl, rfl, Nat.zero_le _, Nat.zero_le _⟩ hl.1 rfl (Nat.le_of_ble_eq_true rfl) ([] : List Nat) [0, 1, 2] [wQ cy t0 t1 te, wI cy q S M sk sc mk ms mp, wF cy (q 6) (q 7) 20 5 r1 f1] 3 (by decide +kernel) rfl rfl rfl dX3_fitsSights_46 (fun z_5 _ H_ lo_ hw_ W_ => ?_)
          replace hw_ : (z_5 = likedZ (mk i) t (f1 (4 * k + 1))) := hw_
          have f46_v := hw_
          clear hw_
          have f46_v := f46_v.symm
          subst f46_v
          have b46 := likedZ_b (mk i) (s := t) (c := f1 (4 * k + 1)) (by omega) (by omega)
          refine lv_aload F_.1 F_.2.1 dX3_fitsSights_49 (lv_at hl 1 rfl) ?_
          refine lv_iload F_.1 F_.2.1 dX3_fitsSights_51 (lv_at hl 0 rfl) ?_
          refine z_iconst F_ dX3_fitsSights_53 ?_
          refine z_callVip F_ K_ W_ [.int (zi k), .int (zi 2)] (c_X2_cell l_ D cy (q 6) (q 7) 20 5 r1 f1 k 2 bf1 (by first | omega | assumption) (by first | omega | assumption) (by first | omega | assumption) (by first | omega | assumption) (by first | omega | assumption) (by first | omega | assumption)) 2 rfl gX3_fitsSights_X2_cell rfl (by decide +kernel) ⟨⟨Nat.le_of_ble_eq_true rfl, Nat.le_of_ble_eq_true rfl⟩, rfl, rfl, Nat.zero_le _, Nat.zero_le _⟩ 0 0 2 rfl rfl rfl rfl hl.1 rfl (Nat.le_of_ble_eq_true rfl) [2] [0, 1] [wQ cy t0 t1 te, wI cy q S M sk sc mk ms mp] 3 (by decide +kernel) rfl rfl rfl dX3_fitsSights_54 (fun z_6 _ H_ lo_ hw_ W_ => ?_)
          replace hw_ : (z_6 = f1 (4 * k + 2)) := hw_
          have f54_v := hw_
          clear hw_
          have f54_v := f54_v.symm
          subst f54_v
          have b54 := bf1 (4 * k + 2)
          have J65 : ∀ (k65_0 : Int) (g65 : ((f1 (4 * k + 2) < likedZ (mk i) t (f1 (4 * k + 1))) ∧ (k65_0 = 0)) ∨ ((likedZ (mk i) t (f1 (4 * k + 1)) ≤ f1 (4 * k + 2)) ∧ (k65_0 = 1))) (ls_ : Array Slot) (H_ : Heap) (lo_ : List Loc), WD D A_ s_.heap ([wQ cy t0 t1 te, wI cy q S M sk sc mk ms mp, wF cy (q 6) (q 7) 20 5 r1 f1]) H_ lo_ → lv_has ls_ 7 [(5, .int (zi k)), (4, .ref (q 6)), (0, .ref t0), (1, .ref (q 0)), (2, .int (zi i)), (3, .int (zi t))] → W p_ l_ e_ rX3_fitsSights s_ m_ ar_ be_ me_ c_ H_ lo_ 0 0 Q_ (F0 m_ 65 ls_ [.int (zi k65_0)]) := by
            intro k65_0 g65 ls_ H_ lo_ W_ hl
            refine lv_istore (lv' := [(6, .int (zi k65_0)), (5, .int (zi k)), (4, .ref (q 6)), (0, .ref t0), (1, .ref (q 0)), (2, .int (zi i)), (3, .int (zi t))]) F_.1 F_.2.1 dX3_fitsSights_65 hl (by decide) rfl (fun ls_ hl => ?_)
            refine lv_iload F_.1 F_.2.1 dX3_fitsSights_67 (lv_at hl 0 rfl) ?_
            refine lv_aload F_.1 F_.2.1 dX3_fitsSights_69 (lv_at hl 2 rfl) ?_
            refine lv_iload F_.1 F_.2.1 dX3_fitsSights_71 (lv_at hl 1 rfl) ?_
            refine z_iconst F_ dX3_fitsSights_73 ?_
            refine z_callVip F_ K_ W_ [.int (zi k), .int (zi 3)] (c_X2_cell l_ D cy (q 6) (q 7) 20 5 r1 f1 k 3 bf1 (by first | omega | assumption) (by first | omega | assumption) (by first | omega | assumption) (by first | omega | assumption) (by first | omega | assumption) (by first | omega | assumption)) 2 rfl gX3_fitsSights_X2_cell rfl (by decide +kernel) ⟨⟨Nat.le_of_ble_eq_true rfl, Nat.le_of_ble_eq_true rfl⟩, rfl, rfl, Nat.zero_le _, Nat.zero_le _⟩ 0 0 2 rfl rfl rfl rfl hl.1 rfl (Nat.le_of_ble_eq_true rfl) [2] [0, 1] [wQ cy t0 t1 te, wI cy q S M sk sc mk ms mp] 3 (by decide +kernel) rfl rfl rfl dX3_fitsSights_74 (fun z_7 _ H_ lo_ hw_ W_ => ?_)
            replace hw_ : (z_7 = f1 (4 * k + 3)) := hw_
            have f74_v := hw_
            clear hw_
            have f74_v := f74_v.symm
            subst f74_v
            have b74 := bf1 (4 * k + 3)
            refine z_iconst F_ dX3_fitsSights_77 ?_
            refine z_icmp_ne (tgt := 85) F_ (by omega) dX3_fitsSights_78 (by decide) (fun c78 => ?_) (fun c78 => ?_)
            · refine z_iconst F_ dX3_fitsSights_85 ?_
              refine z_icmp_eq (tgt := 91) F_ (by omega) dX3_fitsSights_86 (by decide) (fun c86 => ?_) (fun c86 => ?_)
              · refine z_iinc (lv' := [(5, .int (zi (k + 1))), (6, .int (zi k65_0)), (4, .ref (q 6)), (0, .ref t0), (1, .ref (q 0)), (2, .int (zi i)), (3, .int (zi t))]) F_ dX3_fitsSights_91 hl (k := 1) rfl (by decide) rfl (fun ls_ hl => ?_)
                refine z_goto (tgt := 9) F_ dX3_fitsSights_94 (by decide) ?_
                exact ih9 (k + 1) (by first | omega | assumption) (by rw [okZ_s _ _ _ _ hk.1, hx]; first | rw [if_pos (fun q => by first | omega | exact absurd q c28)]) (by omega) ls_ H_ lo_ W_ (lv_sub hl [0, 2, 3, 4, 5, 6] rfl)
              · refine z_iconst F_ dX3_fitsSights_89 ?_
                exact hret _ _ _ _ 0 () dX3_fitsSights_90 (by exact Or.inr ⟨rfl, okZ_stay (m := k + 1) (by omega) (by rw [okZ_s _ _ _ _ hk.1, if_neg (fun q => by have := q c28; omega)]) (by omega)⟩) W_
            · refine z_iconst F_ dX3_fitsSights_81 ?_
              refine z_goto (tgt := 86) F_ dX3_fitsSights_82 (by decide) ?_
              refine z_icmp_eq (tgt := 91) F_ (by omega) dX3_fitsSights_86 (by decide) (fun c86 => ?_) (fun c86 => ?_)
              · refine z_iinc (lv' := [(5, .int (zi (k + 1))), (6, .int (zi k65_0)), (4, .ref (q 6)), (0, .ref t0), (1, .ref (q 0)), (2, .int (zi i)), (3, .int (zi t))]) F_ dX3_fitsSights_91 hl (k := 1) rfl (by decide) rfl (fun ls_ hl => ?_)
                refine z_goto (tgt := 9) F_ dX3_fitsSights_94 (by decide) ?_
                exact ih9 (k + 1) (by first | omega | assumption) (by rw [okZ_s _ _ _ _ hk.1, hx]; first | rw [if_pos (fun q => by first | omega | exact absurd q c28)]) (by omega) ls_ H_ lo_ W_ (lv_sub hl [0, 2, 3, 4, 5, 6] rfl)
              · refine z_iconst F_ dX3_fitsSights_89 ?_
                exact hret _ _ _ _ 0 () dX3_fitsSights_90 (by exact Or.inr ⟨rfl, okZ_stay (m := k + 1) (by omega) (by rw [okZ_s _ _ _ _ hk.1, if_neg (fun q => by have := q c28; omega)]) (by omega)⟩) W_
          refine z_icmp_gt (tgt := 64) F_ (by omega) dX3_fitsSights_57 (by decide) (fun c57 => ?_) (fun c57 => ?_)
          · refine z_iconst F_ dX3_fitsSights_64 ?_
            exact J65 0 (by first | omega | grind) ls_ H_ lo_ W_ (lv_sub hl [0, 1, 2, 3, 4, 5] rfl)
          · refine z_iconst F_ dX3_fitsSights_60 ?_
            refine z_goto (tgt := 65) F_ dX3_fitsSights_61 (by decide) ?_
            exact J65 1 (by first | omega | grind) ls_ H_ lo_ W_ (lv_sub hl [0, 1, 2, 3, 4, 5] rfl)
  exact L9 ((r1 - 0 : Int).toNat + 1) 0 (by first | omega | assumption) (by rfl) (by have := Int.self_le_toNat (r1 - 0 : Int); omega) ls_ H_ lo_ W_ (lv_sub hl [0, 1, 2, 3, 4, 5] rfl)
abbrev rX3_skillsOf : Room := { frames := 2, cells := 0, slots := 0, locals := 51 }
set_option maxHeartbeats 1000000 in
set_option maxRecDepth 100000 in
theorem c_X3_skillsOf (l_ : Launch) (D : va_G) (cy : Nat → ClassId) (t0 : Nat) (t1 : Nat) (te : Int → Int) (q : Nat → Nat) (S : Int) (M : Int) (sk : Int → Int) (sc : Int → Int) (mk : Int → Int) (ms : Int → Int) (mp : Int → Int) (r1 : Int) (f1 : Int → Int) (i : Int) (bte : ∀ j : Int, 0 ≤ te j ∧ te j ≤ 300) (bS : 0 ≤ S ∧ S ≤ 3) (bM : 0 ≤ M ∧ M ≤ 8) (bsk : ∀ j : Int, 0 ≤ sk j ∧ sk j ≤ 5) (bsc : ∀ j : Int, 0 ≤ sc j ∧ sc j ≤ 99) (bmk : ∀ j : Int, 0 ≤ mk j ∧ mk j ≤ 5) (bms : ∀ j : Int, 0 ≤ ms j ∧ ms j ≤ 9) (bmp : ∀ j : Int, (-1) ≤ mp j ∧ mp j ≤ 2) (bf1 : ∀ j : Int, (-1) ≤ f1 j ∧ f1 j ≤ 99) (ri : -2147483648 ≤ i ∧ i < 2147483648) (hr : 0 ≤ r1 ∧ r1 ≤ 5) (hi : 0 ≤ i ∧ i < M) (hrow : ∀ k, 0 ≤ k → k < r1 → 0 ≤ f1 (4 * k + 1)) : CTi l_ D cy yX3_skillsOf wsX3_skillsOf rX3_skillsOf [.ref t0, .ref (q 0), .int (zi i)] ([wQ cy t0 t1 te, wI cy q S M sk sc mk ms mp, wF cy (q 6) (q 7) 20 5 r1 f1]) (fun (z : Int) (u : Unit) => (z = bitZ (okS f1 (mk i) i r1) 1 10)) (fun (_ : Unit) => [wQ cy t0 t1 te, wI cy q S M sk sc mk ms mp, wF cy (q 6) (q 7) 20 5 r1 f1]) := by
  refine CTi.of RX3 cX3_skillsOf 5 rfl (by decide) rfl (fun z u hz => rfl) (Nat.le_of_ble_eq_true rfl) ?_
  intro p_ e_ s_ m_ ar_ be_ me_ c_ Q_ A_ ls_ F_ K_ W_ hl hret
  have hl : lv_has ls_ 5 [(0, .ref t0), (1, .ref (q 0)), (2, .int (zi i))] := hl
  obtain ⟨H_, hH_⟩ : ∃ x, x = s_.heap := ⟨_, rfl⟩
  obtain ⟨lo_, hlo_⟩ : ∃ x : List Loc, x = [] := ⟨_, rfl⟩
  have W_ : WD D A_ s_.heap ([wQ cy t0 t1 te, wI cy q S M sk sc mk ms mp, wF cy (q 6) (q 7) 20 5 r1 f1]) H_ lo_ := by rw [hH_, hlo_]; exact W_
  rw [← hlo_]
  suffices hg_ : W p_ l_ e_ rX3_skillsOf s_ m_ ar_ be_ me_ c_ H_ lo_ 0 0 Q_ (F0 m_ 0 ls_ []) by rw [hH_] at hg_; exact hg_
  clear hH_ hlo_
  refine z_iconst F_ dX3_skillsOf_0 ?_
  refine lv_istore_n (lv' := [(3, .int (zi 0)), (0, .ref t0), (1, .ref (q 0)), (2, .int (zi i))]) F_.1 F_.2.1 dX3_skillsOf_1 rfl hl (by decide) rfl (fun ls_ hl => ?_)
  refine z_iconst F_ dX3_skillsOf_2 ?_
  refine lv_istore (lv' := [(4, .int (zi 1)), (3, .int (zi 0)), (0, .ref t0), (1, .ref (q 0)), (2, .int (zi i))]) F_.1 F_.2.1 dX3_skillsOf_3 hl (by decide) rfl (fun ls_ hl => ?_)
  have L5 : ∀ (n_ : Nat) (x : Int) (t : Int) (ht : 1 ≤ t ∧ t ≤ 10) (hx : x = bitZ (okS f1 (mk i) i r1) 1 t) (hm_ : (10 - t : Int) < (n_ : Int)) (ls_ : Array Slot) (H_ : Heap) (lo_ : List Loc), WD D A_ s_.heap ([wQ cy t0 t1 te, wI cy q S M sk sc mk ms mp, wF cy (q 6) (q 7) 20 5 r1 f1]) H_ lo_ → lv_has ls_ 5 [(4, .int (zi t)), (3, .int (zi x)), (0, .ref t0), (1, .ref (q 0)), (2, .int (zi i))] → W p_ l_ e_ rX3_skillsOf s_ m_ ar_ be_ me_ c_ H_ lo_ 0 0 Q_ (F0 m_ 5 ls_ []) := by
    intro n_
    induction n_ with
    | zero =>
      intro x t ht hx hm_ ls_ H_ lo_ _ _
      exact absurd hm_ (by omega)
    | succ n_ ih_ =>
      intro x t ht hx hm_ ls_ H_ lo_ W_ hl
      have ih5 := ih_
      refine lv_iload F_.1 F_.2.1 dX3_skillsOf_5 (lv_at hl 0 rfl) ?_
      refine z_bipush F_ (by decide) dX3_skillsOf_7 ?_
      refine z_icmp_gt (tgt := 36) F_ (by omega) dX3_skillsOf_9 (by decide) (fun c9 => ?_) (fun c9 => ?_)
      · refine lv_iload_n F_.1 F_.2.1 dX3_skillsOf_36 rfl (lv_at hl 1 rfl) ?_
        exact hret _ _ _ _ x () dX3_skillsOf_37 (by rw [hx]; congr 1; omega) W_
      · have hzb := bitZ_b (okS f1 (mk i) i r1) 1 (m := t) (by omega)
        rw [← hx] at hzb
        have hp8 := zpw_le (show t ≤ 9 by omega)
        have hp7 : zpw 9 = 512 := rfl
        have hp1 := zpw_pos t
        refine lv_aload_n F_.1 F_.2.1 dX3_skillsOf_12 rfl (lv_at hl 2 rfl) ?_
        refine lv_aload_n F_.1 F_.2.1 dX3_skillsOf_13 rfl (lv_at hl 3 rfl) ?_
        refine lv_iload_n F_.1 F_.2.1 dX3_skillsOf_14 rfl (lv_at hl 4 rfl) ?_
        refine lv_iload F_.1 F_.2.1 dX3_skillsOf_15 (lv_at hl 0 rfl) ?_
        refine z_callVip F_ K_ W_ [.ref (q 0), .int (zi i), .int (zi t)] (c_X3_fitsSights l_ D cy t0 t1 te q S M sk sc mk ms mp r1 f1 i t bte (by omega) (by omega) bsk bsc bmk bms bmp bf1 (by first | omega | assumption) (by first | omega | assumption) (by first | omega | assumption) (by first | omega | assumption) (by first | omega | assumption) (by first | omega | assumption)) 3 rfl gX3_skillsOf_X3_fitsSights rfl (by decide +kernel) ⟨⟨Nat.le_of_ble_eq_true rfl, Nat.le_of_ble_eq_true rfl⟩, rfl, rfl, Nat.zero_le _, Nat.zero_le _⟩ 0 0 3 rfl rfl rfl rfl hl.1 rfl (Nat.le_of_ble_eq_true rfl) [0, 1, 2] ([] : List Nat) ([] : List va_W) 3 (by decide +kernel) rfl rfl rfl dX3_skillsOf_17 (fun z_1 _ H_ lo_ hw_ W_ => ?_)
        replace hw_ : ((z_1 = 1 ∧ okZ f1 (mk i) i t r1 = 1) ∨ (z_1 = 0 ∧ okZ f1 (mk i) i t r1 = 0)) := hw_
        have f17_v := hw_
        clear hw_
        refine z_if_eq (tgt := 30) F_ (by omega) dX3_skillsOf_20 (by decide) (fun c20 => ?_) (fun c20 => ?_)
        · refine z_iinc (lv' := [(4, .int (zi (t + 1))), (3, .int (zi x)), (0, .ref t0), (1, .ref (q 0)), (2, .int (zi i))]) F_ dX3_skillsOf_30 hl (k := 0) rfl (by decide) rfl (fun ls_ hl => ?_)
          refine z_goto (tgt := 5) F_ dX3_skillsOf_33 (by decide) ?_
          exact ih5 x (t + 1) (by first | omega | assumption) (by rw [bitZ_s _ _ (by omega), okS_p _ _ _ _ ht.1, ← hx]; split <;> omega) (by omega) ls_ H_ lo_ W_ (lv_sub hl [0, 1, 2, 3, 4] rfl)
        · refine lv_iload_n F_.1 F_.2.1 dX3_skillsOf_23 rfl (lv_at hl 1 rfl) ?_
          refine z_iconst F_ dX3_skillsOf_24 ?_
          refine lv_iload F_.1 F_.2.1 dX3_skillsOf_25 (lv_at hl 0 rfl) ?_
          refine z_ishl F_ (by rw [Int.one_mul]; omega) dX3_skillsOf_27 ?_
          have i_2 : 1 * zpw t = zpw t := by exact Int.one_mul _
          rw [i_2]
          refine z_ior F_ (by omega) dX3_skillsOf_28 ?_
          have i_3 : zor x (zpw t) = x + zpw t := by exact zor_pw hzb
          rw [i_3]
          refine lv_istore_n (lv' := [(3, .int (zi (x + zpw t))), (4, .int (zi t)), (0, .ref t0), (1, .ref (q 0)), (2, .int (zi i))]) F_.1 F_.2.1 dX3_skillsOf_29 rfl hl (by decide) rfl (fun ls_ hl => ?_)
          refine z_iinc (lv' := [(4, .int (zi (t + 1))), (3, .int (zi (x + zpw t))), (0, .ref t0), (1, .ref (q 0)), (2, .int (zi i))]) F_ dX3_skillsOf_30 hl (k := 1) rfl (by decide) rfl (fun ls_ hl => ?_)
          refine z_goto (tgt := 5) F_ dX3_skillsOf_33 (by decide) ?_
          exact ih5 (x + zpw t) (t + 1) (by first | omega | assumption) (by rw [bitZ_s _ _ (by omega), okS_p _ _ _ _ ht.1, ← hx]; split <;> omega) (by omega) ls_ H_ lo_ W_ (lv_sub hl [0, 1, 2, 3, 4] rfl)
  exact L5 ((10 - 1 : Int).toNat + 1) 0 1 (by first | omega | assumption) (by rw [bitZ_1 (okS_0 _ _ _ _)]) (by have := Int.self_le_toNat (10 - 1 : Int); omega) ls_ H_ lo_ W_ (lv_sub hl [0, 1, 2, 3, 4] rfl)
abbrev rX3_leavingAt : Room := { frames := 1, cells := 0, slots := 0, locals := 25 }
set_option maxHeartbeats 1000000 in
set_option maxRecDepth 100000 in
theorem c_X3_leavingAt (l_ : Launch) (D : va_G) (cy : Nat → ClassId) (ok : Int → Int) (kd : Int) (x : Int) (c : Int) (l : Int) (rkd : -2147483648 ≤ kd ∧ kd < 2147483648) (rx : -2147483648 ≤ x ∧ x < 2147483648) (rc : -2147483648 ≤ c ∧ c < 2147483648) (rl : -2147483648 ≤ l ∧ l < 2147483648) (hx : x = bitZ ok 1 10) (ho : ok 0 = 0) (hc : 0 ≤ c ∧ c ≤ 5) : CTi l_ D cy yX3_leavingAt wsX3_leavingAt rX3_leavingAt [.int (zi kd), .int (zi x), .int (zi c), .int (zi l)] (([] : List va_W)) (fun (z : Int) (u : Unit) => (z = lvZ ok kd c l 10)) (fun (_ : Unit) => ([] : List va_W)) := by
  refine CTi.of RX3 cX3_leavingAt 6 rfl (by decide) rfl (fun z u hz => rfl) (Nat.le_of_ble_eq_true rfl) ?_
  intro p_ e_ s_ m_ ar_ be_ me_ c_ Q_ A_ ls_ F_ K_ W_ hl hret
  have hl : lv_has ls_ 6 [(0, .int (zi kd)), (1, .int (zi x)), (2, .int (zi c)), (3, .int (zi l))] := hl
  obtain ⟨H_, hH_⟩ : ∃ x, x = s_.heap := ⟨_, rfl⟩
  obtain ⟨lo_, hlo_⟩ : ∃ x : List Loc, x = [] := ⟨_, rfl⟩
  have W_ : WD D A_ s_.heap (([] : List va_W)) H_ lo_ := by rw [hH_, hlo_]; exact W_
  rw [← hlo_]
  suffices hg_ : W p_ l_ e_ rX3_leavingAt s_ m_ ar_ be_ me_ c_ H_ lo_ 0 0 Q_ (F0 m_ 0 ls_ []) by rw [hH_] at hg_; exact hg_
  clear hH_ hlo_
  refine z_iconst F_ dX3_leavingAt_0 ?_
  refine lv_istore (lv' := [(4, .int (zi 0)), (0, .int (zi kd)), (1, .int (zi x)), (2, .int (zi c)), (3, .int (zi l))]) F_.1 F_.2.1 dX3_leavingAt_1 hl (by decide) rfl (fun ls_ hl => ?_)
  refine z_iconst F_ dX3_leavingAt_3 ?_
  refine lv_istore (lv' := [(5, .int (zi 1)), (4, .int (zi 0)), (0, .int (zi kd)), (1, .int (zi x)), (2, .int (zi c)), (3, .int (zi l))]) F_.1 F_.2.1 dX3_leavingAt_4 hl (by decide) rfl (fun ls_ hl => ?_)
  have L6 : ∀ (n_ : Nat) (n : Int) (t : Int) (ht : 1 ≤ t ∧ t ≤ 10) (hn : n = lvZ ok kd c l t) (hnb : 0 ≤ n ∧ n ≤ t) (hm_ : (10 - t : Int) < (n_ : Int)) (ls_ : Array Slot) (H_ : Heap) (lo_ : List Loc), WD D A_ s_.heap (([] : List va_W)) H_ lo_ → lv_has ls_ 6 [(5, .int (zi t)), (4, .int (zi n)), (0, .int (zi kd)), (1, .int (zi x)), (2, .int (zi c)), (3, .int (zi l))] → W p_ l_ e_ rX3_leavingAt s_ m_ ar_ be_ me_ c_ H_ lo_ 0 0 Q_ (F0 m_ 6 ls_ []) := by
    intro n_
    induction n_ with
    | zero =>
      intro n t ht hn hnb hm_ ls_ H_ lo_ _ _
      exact absurd hm_ (by omega)
    | succ n_ ih_ =>
      intro n t ht hn hnb hm_ ls_ H_ lo_ W_ hl
      have ih6 := ih_
      refine lv_iload F_.1 F_.2.1 dX3_leavingAt_6 (lv_at hl 0 rfl) ?_
      refine z_bipush F_ (by decide) dX3_leavingAt_8 ?_
      refine z_icmp_gt (tgt := 43) F_ (by omega) dX3_leavingAt_10 (by decide) (fun c10 => ?_) (fun c10 => ?_)
      · refine lv_iload F_.1 F_.2.1 dX3_leavingAt_43 (lv_at hl 1 rfl) ?_
        exact hret _ _ _ _ n () dX3_leavingAt_45 (by rw [hn]; congr 1; omega) W_
      · have hzb0 := bitZ_b ok 1 (m := 10) (by omega)
        rw [← hx] at hzb0
        have hp10 : zpw 10 = 1024 := rfl
        have hzt : zbt x t = 1 ↔ ok t = 1 := by rw [hx, zbt_bitZ ok 1 (by omega) (by omega)]; split <;> omega
        refine lv_iload_n F_.1 F_.2.1 dX3_leavingAt_13 rfl (lv_at hl 3 rfl) ?_
        refine lv_iload F_.1 F_.2.1 dX3_leavingAt_14 (lv_at hl 0 rfl) ?_
        refine z_ishr F_ (by omega) dX3_leavingAt_16 ?_
        refine z_iconst F_ dX3_leavingAt_17 ?_
        have hsh := zshr_b t (x := x) (by omega)
        refine z_iand F_ (by omega) dX3_leavingAt_18 ?_
        have i_1 : zand (x / zpw t) 1 = zbt x t := by exact zand_1 hsh.1
        rw [i_1]
        refine z_iconst F_ dX3_leavingAt_19 ?_
        have hzb := zbt_b x t
        refine z_icmp_ne (tgt := 37) F_ (by omega) dX3_leavingAt_20 (by decide) (fun c20 => ?_) (fun c20 => ?_)
        · refine z_iinc (lv' := [(5, .int (zi (t + 1))), (4, .int (zi n)), (0, .int (zi kd)), (1, .int (zi x)), (2, .int (zi c)), (3, .int (zi l))]) F_ dX3_leavingAt_37 hl (k := 0) rfl (by decide) rfl (fun ls_ hl => ?_)
          refine z_goto (tgt := 6) F_ dX3_leavingAt_40 (by decide) ?_
          exact ih6 n (t + 1) (by first | omega | assumption) (by rw [lvZ_s _ _ _ _ (by omega), ← hn]; first | (rw [if_neg (fun q => by have := hzt.mpr q.1; omega)]; done) | (rw [if_neg (fun q => by have := q.2; omega)]; done) | (rw [if_pos ⟨hzt.mp (by omega), by omega⟩]; done)) (by first | omega | assumption) (by omega) ls_ H_ lo_ W_ (lv_sub hl [0, 1, 2, 3, 4, 5] rfl)
        · refine lv_iload_n F_.1 F_.2.1 dX3_leavingAt_23 rfl (lv_at hl 2 rfl) ?_
          refine lv_iload F_.1 F_.2.1 dX3_leavingAt_24 (lv_at hl 0 rfl) ?_
          refine lv_iload_n F_.1 F_.2.1 dX3_leavingAt_26 rfl (lv_at hl 4 rfl) ?_
          refine z_callSip F_ K_ W_ [.int (zi kd), .int (zi t), .int (zi c)] (c_X5_liked l_ D cy kd t c (by first | omega | assumption) (by first | omega | assumption) (by first | omega | assumption) (by first | omega | assumption) (by first | omega | assumption)) 3 rfl gX3_leavingAt_X5_liked rfl (by decide +kernel) ⟨⟨Nat.le_of_ble_eq_true rfl, Nat.le_of_ble_eq_true rfl⟩, rfl, rfl, Nat.zero_le _, Nat.zero_le _⟩ hl.1 rfl (Nat.le_of_ble_eq_true rfl) ([] : List Nat) ([] : List Nat) ([] : List va_W) 0 (by decide +kernel) rfl rfl rfl dX3_leavingAt_27 (fun z_2 _ H_ lo_ hw_ W_ => ?_)
          replace hw_ : (z_2 = likedZ kd t c) := hw_
          have f27_v := hw_
          clear hw_
          have f27_v := f27_v.symm
          subst f27_v
          have h27 := likedZ_b kd (s := t) (c := c) (by omega) (by omega)
          refine lv_iload_n F_.1 F_.2.1 dX3_leavingAt_30 rfl (lv_at hl 5 rfl) ?_
          refine z_icmp_gt (tgt := 37) F_ (by omega) dX3_leavingAt_31 (by decide) (fun c31 => ?_) (fun c31 => ?_)
          · refine z_iinc (lv' := [(5, .int (zi (t + 1))), (4, .int (zi n)), (0, .int (zi kd)), (1, .int (zi x)), (2, .int (zi c)), (3, .int (zi l))]) F_ dX3_leavingAt_37 hl (k := 0) rfl (by decide) rfl (fun ls_ hl => ?_)
            refine z_goto (tgt := 6) F_ dX3_leavingAt_40 (by decide) ?_
            exact ih6 n (t + 1) (by first | omega | assumption) (by rw [lvZ_s _ _ _ _ (by omega), ← hn]; first | (rw [if_neg (fun q => by have := hzt.mpr q.1; omega)]; done) | (rw [if_neg (fun q => by have := q.2; omega)]; done) | (rw [if_pos ⟨hzt.mp (by omega), by omega⟩]; done)) (by first | omega | assumption) (by omega) ls_ H_ lo_ W_ (lv_sub hl [0, 1, 2, 3, 4, 5] rfl)
          · refine z_iinc (lv' := [(4, .int (zi (n + 1))), (5, .int (zi t)), (0, .int (zi kd)), (1, .int (zi x)), (2, .int (zi c)), (3, .int (zi l))]) F_ dX3_leavingAt_34 hl (k := 1) rfl (by decide) rfl (fun ls_ hl => ?_)
            refine z_iinc (lv' := [(5, .int (zi (t + 1))), (4, .int (zi (n + 1))), (0, .int (zi kd)), (1, .int (zi x)), (2, .int (zi c)), (3, .int (zi l))]) F_ dX3_leavingAt_37 hl (k := 1) rfl (by decide) rfl (fun ls_ hl => ?_)
            refine z_goto (tgt := 6) F_ dX3_leavingAt_40 (by decide) ?_
            exact ih6 (n + 1) (t + 1) (by first | omega | assumption) (by rw [lvZ_s _ _ _ _ (by omega), ← hn]; first | (rw [if_neg (fun q => by have := hzt.mpr q.1; omega)]; done) | (rw [if_neg (fun q => by have := q.2; omega)]; done) | (rw [if_pos ⟨hzt.mp (by omega), by omega⟩]; done)) (by first | omega | assumption) (by omega) ls_ H_ lo_ W_ (lv_sub hl [0, 1, 2, 3, 4, 5] rfl)
  exact L6 ((10 - 1 : Int).toNat + 1) 0 1 (by first | omega | assumption) (by rw [lvZ_1 _ _ _ ho]) (by first | omega | assumption) (by have := Int.self_le_toNat (10 - 1 : Int); omega) ls_ H_ lo_ W_ (lv_sub hl [0, 1, 2, 3, 4, 5] rfl)
abbrev rX3_bestSight : Room := { frames := 2, cells := 0, slots := 0, locals := 50 }
set_option maxHeartbeats 1000000 in
set_option maxRecDepth 100000 in
theorem c_X3_bestSight (l_ : Launch) (D : va_G) (cy : Nat → ClassId) (t0 : Nat) (t1 : Nat) (te : Int → Int) (ok : Int → Int) (kd : Int) (x : Int) (bte : ∀ j : Int, 0 ≤ te j ∧ te j ≤ 300) (rkd : -2147483648 ≤ kd ∧ kd < 2147483648) (rx : -2147483648 ≤ x ∧ x < 2147483648) (hx : x = bitZ ok 1 10) (ho : ok 0 = 0) : CTi l_ D cy yX3_bestSight wsX3_bestSight rX3_bestSight [.ref t0, .int (zi kd), .int (zi x)] ([wQ cy t0 t1 te]) (fun (z : Int) (u : Unit) => (z = if x = 0 then -1 else (bstZ (tellK ok kd) tellE 10 (186)).1)) (fun (_ : Unit) => [wQ cy t0 t1 te]) := by
  refine CTi.of RX3 cX3_bestSight 9 rfl (by decide) rfl (fun z u hz => rfl) (Nat.le_of_ble_eq_true rfl) ?_
  intro p_ e_ s_ m_ ar_ be_ me_ c_ Q_ A_ ls_ F_ K_ W_ hl hret
  have hl : lv_has ls_ 9 [(0, .ref t0), (1, .int (zi kd)), (2, .int (zi x))] := hl
  obtain ⟨H_, hH_⟩ : ∃ x, x = s_.heap := ⟨_, rfl⟩
  obtain ⟨lo_, hlo_⟩ : ∃ x : List Loc, x = [] := ⟨_, rfl⟩
  have W_ : WD D A_ s_.heap ([wQ cy t0 t1 te]) H_ lo_ := by rw [hH_, hlo_]; exact W_
  rw [← hlo_]
  suffices hg_ : W p_ l_ e_ rX3_bestSight s_ m_ ar_ be_ me_ c_ H_ lo_ 0 0 Q_ (F0 m_ 0 ls_ []) by rw [hH_] at hg_; exact hg_
  clear hH_ hlo_
  refine z_iconst F_ dX3_bestSight_0 ?_
  refine lv_istore_n (lv' := [(3, .int (zi (-1))), (0, .ref t0), (1, .int (zi kd)), (2, .int (zi x))]) F_.1 F_.2.1 dX3_bestSight_1 rfl hl (by decide) rfl (fun ls_ hl => ?_)
  refine z_bipush F_ (by decide) dX3_bestSight_2 ?_
  refine lv_istore (lv' := [(4, .int (zi 10)), (3, .int (zi (-1))), (0, .ref t0), (1, .int (zi kd)), (2, .int (zi x))]) F_.1 F_.2.1 dX3_bestSight_4 hl (by decide) rfl (fun ls_ hl => ?_)
  refine z_iconst F_ dX3_bestSight_6 ?_
  refine lv_istore (lv' := [(5, .int (zi 0)), (4, .int (zi 10)), (3, .int (zi (-1))), (0, .ref t0), (1, .int (zi kd)), (2, .int (zi x))]) F_.1 F_.2.1 dX3_bestSight_7 hl (by decide) rfl (fun ls_ hl => ?_)
  have L9 : ∀ (n_ : Nat) (b : Int) (y : Int) (u : Int) (hu : 0 ≤ u ∧ u ≤ 6) (hb : b = (bstZ (tellK ok kd) tellE 10 (31 * u)).1) (hy : y = (bstZ (tellK ok kd) tellE 10 (31 * u)).2) (hbb : -1 ≤ b ∧ b ≤ 600 ∧ 0 < y ∧ y ≤ 10) (hu0 : u = 0 ∨ ¬ x = 0) (hm_ : (6 - u : Int) < (n_ : Int)) (ls_ : Array Slot) (H_ : Heap) (lo_ : List Loc), WD D A_ s_.heap ([wQ cy t0 t1 te]) H_ lo_ → lv_has ls_ 9 [(5, .int (zi u)), (4, .int (zi y)), (3, .int (zi b)), (0, .ref t0), (1, .int (zi kd)), (2, .int (zi x))] → W p_ l_ e_ rX3_bestSight s_ m_ ar_ be_ me_ c_ H_ lo_ 0 0 Q_ (F0 m_ 9 ls_ []) := by
    intro n_
    induction n_ with
    | zero =>
      intro b y u hu hb hy hbb hu0 hm_ ls_ H_ lo_ _ _
      exact absurd hm_ (by omega)
    | succ n_ ih_ =>
      intro b y u hu hb hy hbb hu0 hm_ ls_ H_ lo_ W_ hl
      have ih9 := ih_
      have hzb0 := bitZ_b ok 1 (m := 10) (by omega)
      rw [← hx] at hzb0
      have hp10 : zpw 10 = 1024 := rfl
      refine lv_iload_n F_.1 F_.2.1 dX3_bestSight_9 rfl (lv_at hl 5 rfl) ?_
      refine z_if_eq (tgt := 86) F_ (by omega) dX3_bestSight_10 (by decide) (fun c10 => ?_) (fun c10 => ?_)
      · refine lv_iload_n F_.1 F_.2.1 dX3_bestSight_86 rfl (lv_at hl 2 rfl) ?_
        exact hret _ _ _ _ b () dX3_bestSight_87 (by first | (rw [if_pos (by omega), hb, show u = 0 by omega]; rfl) | (rw [if_neg (by omega), hb]; congr 2; omega)) W_
      · refine lv_iload F_.1 F_.2.1 dX3_bestSight_13 (lv_at hl 0 rfl) ?_
        refine z_iconst F_ dX3_bestSight_15 ?_
        refine z_icmp_gt (tgt := 86) F_ (by omega) dX3_bestSight_16 (by decide) (fun c16 => ?_) (fun c16 => ?_)
        · refine lv_iload_n F_.1 F_.2.1 dX3_bestSight_86 rfl (lv_at hl 2 rfl) ?_
          exact hret _ _ _ _ b () dX3_bestSight_87 (by first | (rw [if_pos (by omega), hb, show u = 0 by omega]; rfl) | (rw [if_neg (by omega), hb]; congr 2; omega)) W_
        · refine z_iconst F_ dX3_bestSight_19 ?_
          refine lv_istore (lv' := [(6, .int (zi 0)), (5, .int (zi u)), (4, .int (zi y)), (3, .int (zi b)), (0, .ref t0), (1, .int (zi kd)), (2, .int (zi x))]) F_.1 F_.2.1 dX3_bestSight_20 hl (by decide) rfl (fun ls_ hl => ?_)
          have L22 : ∀ (n_ : Nat) (b2 : Int) (y2 : Int) (v : Int) (hv : 0 ≤ v ∧ v ≤ 31) (hb2 : b2 = (bstZ (tellK ok kd) tellE 10 (31 * u + v)).1) (hy2 : y2 = (bstZ (tellK ok kd) tellE 10 (31 * u + v)).2) (hbb2 : -1 ≤ b2 ∧ b2 ≤ 600 ∧ 0 < y2 ∧ y2 ≤ 10) (hm_ : (31 - v : Int) < (n_ : Int)) (ls_ : Array Slot) (H_ : Heap) (lo_ : List Loc), WD D A_ s_.heap ([wQ cy t0 t1 te]) H_ lo_ → lv_has ls_ 9 [(6, .int (zi v)), (5, .int (zi u)), (4, .int (zi y2)), (3, .int (zi b2)), (0, .ref t0), (1, .int (zi kd)), (2, .int (zi x))] → W p_ l_ e_ rX3_bestSight s_ m_ ar_ be_ me_ c_ H_ lo_ 0 0 Q_ (F0 m_ 22 ls_ []) := by
            intro n_
            induction n_ with
            | zero =>
              intro b2 y2 v hv hb2 hy2 hbb2 hm_ ls_ H_ lo_ _ _
              exact absurd hm_ (by omega)
            | succ n_ ih_ =>
              intro b2 y2 v hv hb2 hy2 hbb2 hm_ ls_ H_ lo_ W_ hl
              have ih22 := ih_
              refine lv_iload F_.1 F_.2.1 dX3_bestSight_22 (lv_at hl 0 rfl) ?_
              refine z_bipush F_ (by decide) dX3_bestSight_24 ?_
              refine z_icmp_gt (tgt := 80) F_ (by omega) dX3_bestSight_26 (by decide) (fun c26 => ?_) (fun c26 => ?_)
              · refine z_iinc (lv' := [(5, .int (zi (u + 1))), (6, .int (zi v)), (4, .int (zi y2)), (3, .int (zi b2)), (0, .ref t0), (1, .int (zi kd)), (2, .int (zi x))]) F_ dX3_bestSight_80 hl (k := 1) rfl (by decide) rfl (fun ls_ hl => ?_)
                refine z_goto (tgt := 9) F_ dX3_bestSight_83 (by decide) ?_
                exact ih9 b2 y2 (u + 1) (by first | omega | assumption) (by rw [show 31 * (u + 1) = 31 * u + v by omega]; exact hb2) (by rw [show 31 * (u + 1) = 31 * u + v by omega]; exact hy2) (by first | omega | assumption) (by first | omega | assumption) (by omega) ls_ H_ lo_ W_ (lv_sub hl [0, 2, 3, 4, 5, 6] rfl)
              · refine lv_iload_n F_.1 F_.2.1 dX3_bestSight_29 rfl (lv_at hl 5 rfl) ?_
                refine lv_iload_n F_.1 F_.2.1 dX3_bestSight_30 rfl (lv_at hl 6 rfl) ?_
                refine lv_iload F_.1 F_.2.1 dX3_bestSight_31 (lv_at hl 1 rfl) ?_
                refine lv_iload F_.1 F_.2.1 dX3_bestSight_33 (lv_at hl 0 rfl) ?_
                have hlv := lvZ_b ok kd u v (m := 10) (by omega)
                have hnt := ntZ_b ok kd u v (m := 10) (by omega)
                have hln := lvnt ok kd u v (m := 10) (by omega)
                have hpc : popZ x 10 = cntZ ok 1 10 := by rw [hx]; exact popZ_bitZ ok 1 ⟨by omega, by omega⟩
                have hc0 := bitZ_pos (f := ok) (v := 1) (m := 10) (by omega)
                rw [← hx] at hc0
                have hcb := cntZ_b ok 1 (m := 10) (by omega)
                refine z_callSip F_ K_ W_ [.int (zi kd), .int (zi x), .int (zi u), .int (zi v)] (c_X3_leavingAt l_ D cy ok kd x u v (by first | omega | assumption) (by first | omega | assumption) (by first | omega | assumption) (by first | omega | assumption) (by first | omega | assumption) (by first | omega | assumption) (by first | omega | assumption)) 4 rfl gX3_bestSight_X3_leavingAt rfl (by decide +kernel) ⟨⟨Nat.le_of_ble_eq_true rfl, Nat.le_of_ble_eq_true rfl⟩, rfl, rfl, Nat.zero_le _, Nat.zero_le _⟩ hl.1 rfl (Nat.le_of_ble_eq_true rfl) ([] : List Nat) [0] [wQ cy t0 t1 te] 1 (by decide +kernel) rfl rfl rfl dX3_bestSight_35 (fun z_1 _ H_ lo_ hw_ W_ => ?_)
                replace hw_ : (z_1 = lvZ ok kd u v 10) := hw_
                have f35_v := hw_
                clear hw_
                have f35_v := f35_v.symm
                subst f35_v
                refine lv_istore (lv' := [(7, .int (zi (lvZ ok kd u v 10))), (6, .int (zi v)), (5, .int (zi u)), (4, .int (zi y2)), (3, .int (zi b2)), (0, .ref t0), (1, .int (zi kd)), (2, .int (zi x))]) F_.1 F_.2.1 dX3_bestSight_38 hl (by decide) rfl (fun ls_ hl => ?_)
                refine lv_iload F_.1 F_.2.1 dX3_bestSight_40 (lv_at hl 0 rfl) ?_
                refine lv_iload_n F_.1 F_.2.1 dX3_bestSight_42 rfl (lv_at hl 7 rfl) ?_
                refine z_callSip F_ K_ W_ [.int (zi x)] (c_J6_bitCount_0f7a4 l_ D cy x (by first | omega | assumption)) 1 rfl gX3_bestSight_J6_bitCount_0f7a4 rfl (by decide +kernel) ⟨⟨Nat.le_of_ble_eq_true rfl, Nat.le_of_ble_eq_true rfl⟩, rfl, rfl, Nat.zero_le _, Nat.zero_le _⟩ hl.1 rfl (Nat.le_of_ble_eq_true rfl) ([] : List Nat) [0] [wQ cy t0 t1 te] 1 (by decide +kernel) rfl rfl rfl dX3_bestSight_43 (fun z_2 _ H_ lo_ hw_ W_ => ?_)
                replace hw_ : (z_2 = popZ x 10) := hw_
                have f43_v := hw_
                clear hw_
                have f43_v := f43_v.symm
                subst f43_v
                rw [hpc]
                refine lv_iload F_.1 F_.2.1 dX3_bestSight_46 (lv_at hl 0 rfl) ?_
                refine z_isub F_ dX3_bestSight_48 ?_
                refine z_max F_ (by omega) hl.1 (F_.2.2.2.2 _ (List.mem_of_getElem? (i := 1) rfl)) (F_.2.2.2.2 _ (List.mem_of_getElem? (i := 2) rfl)) (F_.2.2.2.2 _ (List.mem_of_getElem? (i := 3) rfl)) (F_.2.2.2.2 _ (List.mem_of_getElem? (i := 4) rfl)) (Nat.le_of_ble_eq_true rfl) (Nat.le_of_ble_eq_true rfl) (Nat.zero_le _) (Nat.zero_le _) dX3_bestSight_49 ?_
                refine lv_istore (lv' := [(8, .int (zi (max (lvZ ok kd u v 10) ((cntZ ok 1 10) - (lvZ ok kd u v 10))))), (7, .int (zi (lvZ ok kd u v 10))), (6, .int (zi v)), (5, .int (zi u)), (4, .int (zi y2)), (3, .int (zi b2)), (0, .ref t0), (1, .int (zi kd)), (2, .int (zi x))]) F_.1 F_.2.1 dX3_bestSight_52 hl (by decide) rfl (fun ls_ hl => ?_)
                refine lv_iload F_.1 F_.2.1 dX3_bestSight_54 (lv_at hl 0 rfl) ?_
                refine lv_iload F_.1 F_.2.1 dX3_bestSight_56 (lv_at hl 4 rfl) ?_
                refine z_icmp_ge (tgt := 74) F_ (by omega) dX3_bestSight_58 (by decide) (fun c58 => ?_) (fun c58 => ?_)
                · refine z_iinc (lv' := [(6, .int (zi (v + 1))), (8, .int (zi (max (lvZ ok kd u v 10) ((cntZ ok 1 10) - (lvZ ok kd u v 10))))), (7, .int (zi (lvZ ok kd u v 10))), (5, .int (zi u)), (4, .int (zi y2)), (3, .int (zi b2)), (0, .ref t0), (1, .int (zi kd)), (2, .int (zi x))]) F_ dX3_bestSight_74 hl (k := 2) rfl (by decide) rfl (fun ls_ hl => ?_)
                  refine z_goto (tgt := 22) F_ dX3_bestSight_77 (by decide) ?_
                  exact ih22 b2 y2 (v + 1) (by first | omega | assumption) (by rw [show 31 * u + (v + 1) = (31 * u + v) + 1 by omega, bstZ_s _ _ _ (by omega), tellK_at _ _ (by omega) (by omega), ← hy2]; have hE := tellE_at (c := u) (l := v) (by omega) (by omega); split <;> omega) (by rw [show 31 * u + (v + 1) = (31 * u + v) + 1 by omega, bstZ_s _ _ _ (by omega), tellK_at _ _ (by omega) (by omega), ← hy2]; split <;> omega) (by first | omega | assumption) (by omega) ls_ H_ lo_ W_ (lv_sub hl [0, 3, 4, 5, 6, 7, 8] rfl)
                · refine lv_iload F_.1 F_.2.1 dX3_bestSight_61 (lv_at hl 0 rfl) ?_
                  refine lv_istore (lv' := [(4, .int (zi (max (lvZ ok kd u v 10) ((cntZ ok 1 10) - (lvZ ok kd u v 10))))), (8, .int (zi (max (lvZ ok kd u v 10) ((cntZ ok 1 10) - (lvZ ok kd u v 10))))), (7, .int (zi (lvZ ok kd u v 10))), (6, .int (zi v)), (5, .int (zi u)), (3, .int (zi b2)), (0, .ref t0), (1, .int (zi kd)), (2, .int (zi x))]) F_.1 F_.2.1 dX3_bestSight_63 hl (by decide) rfl (fun ls_ hl => ?_)
                  refine z_bipush F_ (by decide) dX3_bestSight_65 ?_
                  refine lv_iload F_.1 F_.2.1 dX3_bestSight_67 (lv_at hl 4 rfl) ?_
                  refine z_imul F_ dX3_bestSight_69 ?_
                  refine lv_iload F_.1 F_.2.1 dX3_bestSight_70 (lv_at hl 3 rfl) ?_
                  refine z_iadd F_ dX3_bestSight_72 ?_
                  refine lv_istore_n (lv' := [(3, .int (zi ((100 * u) + v))), (4, .int (zi (max (lvZ ok kd u v 10) ((cntZ ok 1 10) - (lvZ ok kd u v 10))))), (8, .int (zi (max (lvZ ok kd u v 10) ((cntZ ok 1 10) - (lvZ ok kd u v 10))))), (7, .int (zi (lvZ ok kd u v 10))), (6, .int (zi v)), (5, .int (zi u)), (0, .ref t0), (1, .int (zi kd)), (2, .int (zi x))]) F_.1 F_.2.1 dX3_bestSight_73 rfl hl (by decide) rfl (fun ls_ hl => ?_)
                  refine z_iinc (lv' := [(6, .int (zi (v + 1))), (3, .int (zi ((100 * u) + v))), (4, .int (zi (max (lvZ ok kd u v 10) ((cntZ ok 1 10) - (lvZ ok kd u v 10))))), (8, .int (zi (max (lvZ ok kd u v 10) ((cntZ ok 1 10) - (lvZ ok kd u v 10))))), (7, .int (zi (lvZ ok kd u v 10))), (5, .int (zi u)), (0, .ref t0), (1, .int (zi kd)), (2, .int (zi x))]) F_ dX3_bestSight_74 hl (k := 4) rfl (by decide) rfl (fun ls_ hl => ?_)
                  refine z_goto (tgt := 22) F_ dX3_bestSight_77 (by decide) ?_
                  exact ih22 ((100 * u) + v) (max (lvZ ok kd u v 10) ((cntZ ok 1 10) - (lvZ ok kd u v 10))) (v + 1) (by first | omega | assumption) (by rw [show 31 * u + (v + 1) = (31 * u + v) + 1 by omega, bstZ_s _ _ _ (by omega), tellK_at _ _ (by omega) (by omega), ← hy2]; have hE := tellE_at (c := u) (l := v) (by omega) (by omega); split <;> omega) (by rw [show 31 * u + (v + 1) = (31 * u + v) + 1 by omega, bstZ_s _ _ _ (by omega), tellK_at _ _ (by omega) (by omega), ← hy2]; split <;> omega) (by first | omega | assumption) (by omega) ls_ H_ lo_ W_ (lv_sub hl [0, 5, 2, 1, 6, 7, 8] rfl)
          exact L22 ((31 - 0 : Int).toNat + 1) b y 0 (by first | omega | assumption) (by rw [Int.add_zero]; exact hb) (by rw [Int.add_zero]; exact hy) (by first | omega | assumption) (by have := Int.self_le_toNat (31 - 0 : Int); omega) ls_ H_ lo_ W_ (lv_sub hl [0, 1, 2, 3, 4, 5, 6] rfl)
  exact L9 ((6 - 0 : Int).toNat + 1) (-1) 10 0 (by first | omega | assumption) (by rfl) (by rfl) (by first | omega | assumption) (by first | omega | assumption) (by have := Int.self_le_toNat (6 - 0 : Int); omega) ls_ H_ lo_ W_ (lv_sub hl [0, 1, 2, 3, 4, 5] rfl)
abbrev rX3_fitsNotes : Room := { frames := 1, cells := 0, slots := 0, locals := 25 }
set_option maxHeartbeats 1000000 in
set_option maxRecDepth 100000 in
theorem c_X3_fitsNotes (l_ : Launch) (D : va_G) (cy : Nat → ClassId) (a : Nat) (b : Nat) (n4 : Nat) (mx : Int) (r : Int) (f : Int → Int) (i : Int) (kd : Int) (bf : ∀ j : Int, (-1) ≤ f j ∧ f j ≤ 99) (ri : -2147483648 ≤ i ∧ i < 2147483648) (rkd : -2147483648 ≤ kd ∧ kd < 2147483648) (h4 : (n4 : Int) = 4 * mx ∧ mx ≤ 8) (hr : 0 ≤ r ∧ r ≤ mx) (hrow : ∀ k, 0 ≤ k → k < r → 1 ≤ f (4 * k + 1) ∧ f (4 * k + 1) ≤ 30 ∧ 0 ≤ f (4 * k + 2) ∧ f (4 * k + 2) ≤ 8) : CTi l_ D cy yX3_fitsNotes wsX3_fitsNotes rX3_fitsNotes [.ref a, .int (zi i), .int (zi kd)] ([wF cy a b n4 mx r f]) (fun (z : Int) (u : Unit) => ((z = 1 ∧ fitZ f (needZ kd) i r = 1) ∨ (z = 0 ∧ fitZ f (needZ kd) i r = 0))) (fun (_ : Unit) => [wF cy a b n4 mx r f]) := by
  refine CTi.of RX3 cX3_fitsNotes 4 rfl (by decide) rfl (fun z u hz => z_bl hz) (Nat.le_of_ble_eq_true rfl) ?_
  intro p_ e_ s_ m_ ar_ be_ me_ c_ Q_ A_ ls_ F_ K_ W_ hl hret
  have hl : lv_has ls_ 4 [(0, .ref a), (1, .int (zi i)), (2, .int (zi kd))] := hl
  obtain ⟨H_, hH_⟩ : ∃ x, x = s_.heap := ⟨_, rfl⟩
  obtain ⟨lo_, hlo_⟩ : ∃ x : List Loc, x = [] := ⟨_, rfl⟩
  have W_ : WD D A_ s_.heap ([wF cy a b n4 mx r f]) H_ lo_ := by rw [hH_, hlo_]; exact W_
  rw [← hlo_]
  suffices hg_ : W p_ l_ e_ rX3_fitsNotes s_ m_ ar_ be_ me_ c_ H_ lo_ 0 0 Q_ (F0 m_ 0 ls_ []) by rw [hH_] at hg_; exact hg_
  clear hH_ hlo_
  refine z_iconst F_ dX3_fitsNotes_0 ?_
  refine lv_istore_n (lv' := [(3, .int (zi 0)), (0, .ref a), (1, .int (zi i)), (2, .int (zi kd))]) F_.1 F_.2.1 dX3_fitsNotes_1 rfl hl (by decide) rfl (fun ls_ hl => ?_)
  have L2 : ∀ (n_ : Nat) (k : Int) (hk : 0 ≤ k ∧ k ≤ r) (hx : fitZ f (needZ kd) i k = 1) (hm_ : (r - k : Int) < (n_ : Int)) (ls_ : Array Slot) (H_ : Heap) (lo_ : List Loc), WD D A_ s_.heap ([wF cy a b n4 mx r f]) H_ lo_ → lv_has ls_ 4 [(3, .int (zi k)), (0, .ref a), (1, .int (zi i)), (2, .int (zi kd))] → W p_ l_ e_ rX3_fitsNotes s_ m_ ar_ be_ me_ c_ H_ lo_ 0 0 Q_ (F0 m_ 2 ls_ []) := by
    intro n_
    induction n_ with
    | zero =>
      intro k hk hx hm_ ls_ H_ lo_ _ _
      exact absurd hm_ (by omega)
    | succ n_ ih_ =>
      intro k hk hx hm_ ls_ H_ lo_ W_ hl
      have ih2 := ih_
      refine lv_iload_n F_.1 F_.2.1 dX3_fitsNotes_2 rfl (lv_at hl 0 rfl) ?_
      refine lv_aload_n F_.1 F_.2.1 dX3_fitsNotes_3 rfl (lv_at hl 1 rfl) ?_
      refine z_callVip F_ K_ W_ [] (c_X2_size l_ D cy a b n4 mx r f bf) 0 rfl gX3_fitsNotes_X2_size rfl (by decide +kernel) ⟨⟨Nat.le_of_ble_eq_true rfl, Nat.le_of_ble_eq_true rfl⟩, rfl, rfl, Nat.zero_le _, Nat.zero_le _⟩ 0 0 2 rfl rfl rfl rfl hl.1 rfl (Nat.le_of_ble_eq_true rfl) [0] ([] : List Nat) ([] : List va_W) 1 (by decide +kernel) rfl rfl rfl dX3_fitsNotes_4 (fun z_1 _ H_ lo_ hw_ W_ => ?_)
      replace hw_ : (z_1 = r) := hw_
      have f4_v := hw_
      clear hw_
      have f4_v := f4_v.symm
      subst f4_v
      refine z_icmp_ge (tgt := 53) F_ (by omega) dX3_fitsNotes_7 (by decide) (fun c7 => ?_) (fun c7 => ?_)
      · refine z_iconst F_ dX3_fitsNotes_53 ?_
        exact hret _ _ _ _ 1 () dX3_fitsNotes_54 (by exact Or.inl ⟨rfl, by rw [show r = k by omega]; exact hx⟩) W_
      · refine lv_aload_n F_.1 F_.2.1 dX3_fitsNotes_10 rfl (lv_at hl 1 rfl) ?_
        refine lv_iload_n F_.1 F_.2.1 dX3_fitsNotes_11 rfl (lv_at hl 0 rfl) ?_
        refine z_iconst F_ dX3_fitsNotes_12 ?_
        refine z_callVip F_ K_ W_ [.int (zi k), .int (zi 0)] (c_X2_cell l_ D cy a b n4 mx r f k 0 bf (by first | omega | assumption) (by first | omega | assumption) (by first | omega | assumption) (by first | omega | assumption) (by first | omega | assumption) (by first | omega | assumption)) 2 rfl gX3_fitsNotes_X2_cell rfl (by decide +kernel) ⟨⟨Nat.le_of_ble_eq_true rfl, Nat.le_of_ble_eq_true rfl⟩, rfl, rfl, Nat.zero_le _, Nat.zero_le _⟩ 0 0 2 rfl rfl rfl rfl hl.1 rfl (Nat.le_of_ble_eq_true rfl) [0] ([] : List Nat) ([] : List va_W) 1 (by decide +kernel) rfl rfl rfl dX3_fitsNotes_13 (fun z_2 _ H_ lo_ hw_ W_ => ?_)
        replace hw_ : (z_2 = f (4 * k + 0)) := hw_
        have f13_v := hw_
        clear hw_
        have f13_v := f13_v.symm
        subst f13_v
        have hrk := hrow k (by omega) (by omega)
        have b13 := bf (4 * k + 0)
        have e13 : f (4 * k + 0) = f (4 * k) := by rw [Int.add_zero]
        rw [e13]
        refine lv_iload_n F_.1 F_.2.1 dX3_fitsNotes_16 rfl (lv_at hl 2 rfl) ?_
        refine z_icmp_ne (tgt := 47) F_ (by omega) dX3_fitsNotes_17 (by decide) (fun c17 => ?_) (fun c17 => ?_)
        · refine z_iinc (lv' := [(3, .int (zi (k + 1))), (0, .ref a), (1, .int (zi i)), (2, .int (zi kd))]) F_ dX3_fitsNotes_47 hl (k := 0) rfl (by decide) rfl (fun ls_ hl => ?_)
          refine z_goto (tgt := 2) F_ dX3_fitsNotes_50 (by decide) ?_
          exact ih2 (k + 1) (by first | omega | assumption) (by rw [fitZ_s _ _ _ hk.1, hx]; first | rw [if_pos (fun q => by first | omega | exact absurd q c17)]) (by omega) ls_ H_ lo_ W_ (lv_sub hl [0, 1, 2, 3] rfl)
        · refine lv_iload_n F_.1 F_.2.1 dX3_fitsNotes_20 rfl (lv_at hl 3 rfl) ?_
          refine lv_aload_n F_.1 F_.2.1 dX3_fitsNotes_21 rfl (lv_at hl 1 rfl) ?_
          refine lv_iload_n F_.1 F_.2.1 dX3_fitsNotes_22 rfl (lv_at hl 0 rfl) ?_
          refine z_iconst F_ dX3_fitsNotes_23 ?_
          refine z_callVip F_ K_ W_ [.int (zi k), .int (zi 1)] (c_X2_cell l_ D cy a b n4 mx r f k 1 bf (by first | omega | assumption) (by first | omega | assumption) (by first | omega | assumption) (by first | omega | assumption) (by first | omega | assumption) (by first | omega | assumption)) 2 rfl gX3_fitsNotes_X2_cell rfl (by decide +kernel) ⟨⟨Nat.le_of_ble_eq_true rfl, Nat.le_of_ble_eq_true rfl⟩, rfl, rfl, Nat.zero_le _, Nat.zero_le _⟩ 0 0 2 rfl rfl rfl rfl hl.1 rfl (Nat.le_of_ble_eq_true rfl) [0] ([] : List Nat) ([] : List va_W) 1 (by decide +kernel) rfl rfl rfl dX3_fitsNotes_24 (fun z_3 _ H_ lo_ hw_ W_ => ?_)
          replace hw_ : (z_3 = f (4 * k + 1)) := hw_
          have f24_v := hw_
          clear hw_
          have f24_v := f24_v.symm
          subst f24_v
          have b24 := bf (4 * k + 1)
          refine lv_aload_n F_.1 F_.2.1 dX3_fitsNotes_27 rfl (lv_at hl 1 rfl) ?_
          refine lv_iload_n F_.1 F_.2.1 dX3_fitsNotes_28 rfl (lv_at hl 0 rfl) ?_
          refine z_iconst F_ dX3_fitsNotes_29 ?_
          refine z_callVip F_ K_ W_ [.int (zi k), .int (zi 2)] (c_X2_cell l_ D cy a b n4 mx r f k 2 bf (by first | omega | assumption) (by first | omega | assumption) (by first | omega | assumption) (by first | omega | assumption) (by first | omega | assumption) (by first | omega | assumption)) 2 rfl gX3_fitsNotes_X2_cell rfl (by decide +kernel) ⟨⟨Nat.le_of_ble_eq_true rfl, Nat.le_of_ble_eq_true rfl⟩, rfl, rfl, Nat.zero_le _, Nat.zero_le _⟩ 0 0 2 rfl rfl rfl rfl hl.1 rfl (Nat.le_of_ble_eq_true rfl) [0] ([] : List Nat) ([] : List va_W) 1 (by decide +kernel) rfl rfl rfl dX3_fitsNotes_30 (fun z_4 _ H_ lo_ hw_ W_ => ?_)
          replace hw_ : (z_4 = f (4 * k + 2)) := hw_
          have f30_v := hw_
          clear hw_
          have f30_v := f30_v.symm
          subst f30_v
          have b30 := bf (4 * k + 2)
          refine z_callSip F_ K_ W_ [.int (zi kd), .int (zi (f (4 * k + 1))), .int (zi (f (4 * k + 2)))] (c_X5_need l_ D cy kd (f (4 * k + 1)) (f (4 * k + 2)) (by first | omega | assumption) (by first | omega | assumption) (by first | omega | assumption) (by first | omega | assumption) (by first | omega | assumption)) 3 rfl gX3_fitsNotes_X5_need rfl (by decide +kernel) ⟨⟨Nat.le_of_ble_eq_true rfl, Nat.le_of_ble_eq_true rfl⟩, rfl, rfl, Nat.zero_le _, Nat.zero_le _⟩ hl.1 rfl (Nat.le_of_ble_eq_true rfl) ([] : List Nat) [0] [wF cy a b n4 mx r f] 1 (by decide +kernel) rfl rfl rfl dX3_fitsNotes_33 (fun z_5 _ H_ lo_ hw_ W_ => ?_)
          replace hw_ : (z_5 = needZ kd (f (4 * k + 1)) (f (4 * k + 2))) := hw_
          have f33_v := hw_
          clear hw_
          have f33_v := f33_v.symm
          subst f33_v
          have b33 := needZ_b kd (d := f (4 * k + 1)) (n := f (4 * k + 2)) (by omega) (by omega)
          refine lv_aload_n F_.1 F_.2.1 dX3_fitsNotes_36 rfl (lv_at hl 1 rfl) ?_
          refine lv_iload_n F_.1 F_.2.1 dX3_fitsNotes_37 rfl (lv_at hl 0 rfl) ?_
          refine z_iconst F_ dX3_fitsNotes_38 ?_
          refine z_callVip F_ K_ W_ [.int (zi k), .int (zi 3)] (c_X2_cell l_ D cy a b n4 mx r f k 3 bf (by first | omega | assumption) (by first | omega | assumption) (by first | omega | assumption) (by first | omega | assumption) (by first | omega | assumption) (by first | omega | assumption)) 2 rfl gX3_fitsNotes_X2_cell rfl (by decide +kernel) ⟨⟨Nat.le_of_ble_eq_true rfl, Nat.le_of_ble_eq_true rfl⟩, rfl, rfl, Nat.zero_le _, Nat.zero_le _⟩ 0 0 2 rfl rfl rfl rfl hl.1 rfl (Nat.le_of_ble_eq_true rfl) [0] ([] : List Nat) ([] : List va_W) 1 (by decide +kernel) rfl rfl rfl dX3_fitsNotes_39 (fun z_6 _ H_ lo_ hw_ W_ => ?_)
          replace hw_ : (z_6 = f (4 * k + 3)) := hw_
          have f39_v := hw_
          clear hw_
          have f39_v := f39_v.symm
          subst f39_v
          have b39 := bf (4 * k + 3)
          refine z_icmp_eq (tgt := 47) F_ (by omega) dX3_fitsNotes_42 (by decide) (fun c42 => ?_) (fun c42 => ?_)
          · refine z_iinc (lv' := [(3, .int (zi (k + 1))), (0, .ref a), (1, .int (zi i)), (2, .int (zi kd))]) F_ dX3_fitsNotes_47 hl (k := 0) rfl (by decide) rfl (fun ls_ hl => ?_)
            refine z_goto (tgt := 2) F_ dX3_fitsNotes_50 (by decide) ?_
            exact ih2 (k + 1) (by first | omega | assumption) (by rw [fitZ_s _ _ _ hk.1, hx]; first | rw [if_pos (fun q => by first | omega | exact absurd q c17)]) (by omega) ls_ H_ lo_ W_ (lv_sub hl [0, 1, 2, 3] rfl)
          · refine z_iconst F_ dX3_fitsNotes_45 ?_
            exact hret _ _ _ _ 0 () dX3_fitsNotes_46 (by exact Or.inr ⟨rfl, fitZ_stay (m := k + 1) (by omega) (by rw [fitZ_s _ _ _ hk.1, if_neg (fun q => by have := q c17; omega)]) (by omega)⟩) W_
  exact L2 ((r - 0 : Int).toNat + 1) 0 (by first | omega | assumption) (by rfl) (by have := Int.self_le_toNat (r - 0 : Int); omega) ls_ H_ lo_ W_ (lv_sub hl [0, 1, 2, 3] rfl)
abbrev rX3_fitsMarks : Room := { frames := 1, cells := 0, slots := 0, locals := 25 }
set_option maxHeartbeats 1000000 in
set_option maxRecDepth 100000 in
theorem c_X3_fitsMarks (l_ : Launch) (D : va_G) (cy : Nat → ClassId) (a : Nat) (b : Nat) (n4 : Nat) (mx : Int) (r : Int) (f : Int → Int) (i : Int) (kd : Int) (bf : ∀ j : Int, (-1) ≤ f j ∧ f j ≤ 99) (ri : -2147483648 ≤ i ∧ i < 2147483648) (rkd : -2147483648 ≤ kd ∧ kd < 2147483648) (h4 : (n4 : Int) = 4 * mx ∧ mx ≤ 8) (hr : 0 ≤ r ∧ r ≤ mx) (hrow : ∀ k, 0 ≤ k → k < r → 0 ≤ f (4 * k + 1) ∧ f (4 * k + 1) ≤ 9 ∧ 0 ≤ f (4 * k + 2)) : CTi l_ D cy yX3_fitsMarks wsX3_fitsMarks rX3_fitsMarks [.ref a, .int (zi i), .int (zi kd)] ([wF cy a b n4 mx r f]) (fun (z : Int) (u : Unit) => ((z = 1 ∧ fitZ f (likedZ kd) i r = 1) ∨ (z = 0 ∧ fitZ f (likedZ kd) i r = 0))) (fun (_ : Unit) => [wF cy a b n4 mx r f]) := by
  refine CTi.of RX3 cX3_fitsMarks 4 rfl (by decide) rfl (fun z u hz => z_bl hz) (Nat.le_of_ble_eq_true rfl) ?_
  intro p_ e_ s_ m_ ar_ be_ me_ c_ Q_ A_ ls_ F_ K_ W_ hl hret
  have hl : lv_has ls_ 4 [(0, .ref a), (1, .int (zi i)), (2, .int (zi kd))] := hl
  obtain ⟨H_, hH_⟩ : ∃ x, x = s_.heap := ⟨_, rfl⟩
  obtain ⟨lo_, hlo_⟩ : ∃ x : List Loc, x = [] := ⟨_, rfl⟩
  have W_ : WD D A_ s_.heap ([wF cy a b n4 mx r f]) H_ lo_ := by rw [hH_, hlo_]; exact W_
  rw [← hlo_]
  suffices hg_ : W p_ l_ e_ rX3_fitsMarks s_ m_ ar_ be_ me_ c_ H_ lo_ 0 0 Q_ (F0 m_ 0 ls_ []) by rw [hH_] at hg_; exact hg_
  clear hH_ hlo_
  refine z_iconst F_ dX3_fitsMarks_0 ?_
  refine lv_istore_n (lv' := [(3, .int (zi 0)), (0, .ref a), (1, .int (zi i)), (2, .int (zi kd))]) F_.1 F_.2.1 dX3_fitsMarks_1 rfl hl (by decide) rfl (fun ls_ hl => ?_)
  have L2 : ∀ (n_ : Nat) (k : Int) (hk : 0 ≤ k ∧ k ≤ r) (hx : fitZ f (likedZ kd) i k = 1) (hm_ : (r - k : Int) < (n_ : Int)) (ls_ : Array Slot) (H_ : Heap) (lo_ : List Loc), WD D A_ s_.heap ([wF cy a b n4 mx r f]) H_ lo_ → lv_has ls_ 4 [(3, .int (zi k)), (0, .ref a), (1, .int (zi i)), (2, .int (zi kd))] → W p_ l_ e_ rX3_fitsMarks s_ m_ ar_ be_ me_ c_ H_ lo_ 0 0 Q_ (F0 m_ 2 ls_ []) := by
    intro n_
    induction n_ with
    | zero =>
      intro k hk hx hm_ ls_ H_ lo_ _ _
      exact absurd hm_ (by omega)
    | succ n_ ih_ =>
      intro k hk hx hm_ ls_ H_ lo_ W_ hl
      have ih2 := ih_
      refine lv_iload_n F_.1 F_.2.1 dX3_fitsMarks_2 rfl (lv_at hl 0 rfl) ?_
      refine lv_aload_n F_.1 F_.2.1 dX3_fitsMarks_3 rfl (lv_at hl 1 rfl) ?_
      refine z_callVip F_ K_ W_ [] (c_X2_size l_ D cy a b n4 mx r f bf) 0 rfl gX3_fitsMarks_X2_size rfl (by decide +kernel) ⟨⟨Nat.le_of_ble_eq_true rfl, Nat.le_of_ble_eq_true rfl⟩, rfl, rfl, Nat.zero_le _, Nat.zero_le _⟩ 0 0 2 rfl rfl rfl rfl hl.1 rfl (Nat.le_of_ble_eq_true rfl) [0] ([] : List Nat) ([] : List va_W) 1 (by decide +kernel) rfl rfl rfl dX3_fitsMarks_4 (fun z_1 _ H_ lo_ hw_ W_ => ?_)
      replace hw_ : (z_1 = r) := hw_
      have f4_v := hw_
      clear hw_
      have f4_v := f4_v.symm
      subst f4_v
      refine z_icmp_ge (tgt := 53) F_ (by omega) dX3_fitsMarks_7 (by decide) (fun c7 => ?_) (fun c7 => ?_)
      · refine z_iconst F_ dX3_fitsMarks_53 ?_
        exact hret _ _ _ _ 1 () dX3_fitsMarks_54 (by exact Or.inl ⟨rfl, by rw [show r = k by omega]; exact hx⟩) W_
      · refine lv_aload_n F_.1 F_.2.1 dX3_fitsMarks_10 rfl (lv_at hl 1 rfl) ?_
        refine lv_iload_n F_.1 F_.2.1 dX3_fitsMarks_11 rfl (lv_at hl 0 rfl) ?_
        refine z_iconst F_ dX3_fitsMarks_12 ?_
        refine z_callVip F_ K_ W_ [.int (zi k), .int (zi 0)] (c_X2_cell l_ D cy a b n4 mx r f k 0 bf (by first | omega | assumption) (by first | omega | assumption) (by first | omega | assumption) (by first | omega | assumption) (by first | omega | assumption) (by first | omega | assumption)) 2 rfl gX3_fitsMarks_X2_cell rfl (by decide +kernel) ⟨⟨Nat.le_of_ble_eq_true rfl, Nat.le_of_ble_eq_true rfl⟩, rfl, rfl, Nat.zero_le _, Nat.zero_le _⟩ 0 0 2 rfl rfl rfl rfl hl.1 rfl (Nat.le_of_ble_eq_true rfl) [0] ([] : List Nat) ([] : List va_W) 1 (by decide +kernel) rfl rfl rfl dX3_fitsMarks_13 (fun z_2 _ H_ lo_ hw_ W_ => ?_)
        replace hw_ : (z_2 = f (4 * k + 0)) := hw_
        have f13_v := hw_
        clear hw_
        have f13_v := f13_v.symm
        subst f13_v
        have hrk := hrow k (by omega) (by omega)
        have b13 := bf (4 * k + 0)
        have e13 : f (4 * k + 0) = f (4 * k) := by rw [Int.add_zero]
        rw [e13]
        refine lv_iload_n F_.1 F_.2.1 dX3_fitsMarks_16 rfl (lv_at hl 2 rfl) ?_
        refine z_icmp_ne (tgt := 47) F_ (by omega) dX3_fitsMarks_17 (by decide) (fun c17 => ?_) (fun c17 => ?_)
        · refine z_iinc (lv' := [(3, .int (zi (k + 1))), (0, .ref a), (1, .int (zi i)), (2, .int (zi kd))]) F_ dX3_fitsMarks_47 hl (k := 0) rfl (by decide) rfl (fun ls_ hl => ?_)
          refine z_goto (tgt := 2) F_ dX3_fitsMarks_50 (by decide) ?_
          exact ih2 (k + 1) (by first | omega | assumption) (by rw [fitZ_s _ _ _ hk.1, hx]; first | rw [if_pos (fun q => by first | omega | exact absurd q c17)]) (by omega) ls_ H_ lo_ W_ (lv_sub hl [0, 1, 2, 3] rfl)
        · refine lv_iload_n F_.1 F_.2.1 dX3_fitsMarks_20 rfl (lv_at hl 3 rfl) ?_
          refine lv_aload_n F_.1 F_.2.1 dX3_fitsMarks_21 rfl (lv_at hl 1 rfl) ?_
          refine lv_iload_n F_.1 F_.2.1 dX3_fitsMarks_22 rfl (lv_at hl 0 rfl) ?_
          refine z_iconst F_ dX3_fitsMarks_23 ?_
          refine z_callVip F_ K_ W_ [.int (zi k), .int (zi 1)] (c_X2_cell l_ D cy a b n4 mx r f k 1 bf (by first | omega | assumption) (by first | omega | assumption) (by first | omega | assumption) (by first | omega | assumption) (by first | omega | assumption) (by first | omega | assumption)) 2 rfl gX3_fitsMarks_X2_cell rfl (by decide +kernel) ⟨⟨Nat.le_of_ble_eq_true rfl, Nat.le_of_ble_eq_true rfl⟩, rfl, rfl, Nat.zero_le _, Nat.zero_le _⟩ 0 0 2 rfl rfl rfl rfl hl.1 rfl (Nat.le_of_ble_eq_true rfl) [0] ([] : List Nat) ([] : List va_W) 1 (by decide +kernel) rfl rfl rfl dX3_fitsMarks_24 (fun z_3 _ H_ lo_ hw_ W_ => ?_)
          replace hw_ : (z_3 = f (4 * k + 1)) := hw_
          have f24_v := hw_
          clear hw_
          have f24_v := f24_v.symm
          subst f24_v
          have b24 := bf (4 * k + 1)
          refine lv_aload_n F_.1 F_.2.1 dX3_fitsMarks_27 rfl (lv_at hl 1 rfl) ?_
          refine lv_iload_n F_.1 F_.2.1 dX3_fitsMarks_28 rfl (lv_at hl 0 rfl) ?_
          refine z_iconst F_ dX3_fitsMarks_29 ?_
          refine z_callVip F_ K_ W_ [.int (zi k), .int (zi 2)] (c_X2_cell l_ D cy a b n4 mx r f k 2 bf (by first | omega | assumption) (by first | omega | assumption) (by first | omega | assumption) (by first | omega | assumption) (by first | omega | assumption) (by first | omega | assumption)) 2 rfl gX3_fitsMarks_X2_cell rfl (by decide +kernel) ⟨⟨Nat.le_of_ble_eq_true rfl, Nat.le_of_ble_eq_true rfl⟩, rfl, rfl, Nat.zero_le _, Nat.zero_le _⟩ 0 0 2 rfl rfl rfl rfl hl.1 rfl (Nat.le_of_ble_eq_true rfl) [0] ([] : List Nat) ([] : List va_W) 1 (by decide +kernel) rfl rfl rfl dX3_fitsMarks_30 (fun z_4 _ H_ lo_ hw_ W_ => ?_)
          replace hw_ : (z_4 = f (4 * k + 2)) := hw_
          have f30_v := hw_
          clear hw_
          have f30_v := f30_v.symm
          subst f30_v
          have b30 := bf (4 * k + 2)
          refine z_callSip F_ K_ W_ [.int (zi kd), .int (zi (f (4 * k + 1))), .int (zi (f (4 * k + 2)))] (c_X5_liked l_ D cy kd (f (4 * k + 1)) (f (4 * k + 2)) (by first | omega | assumption) (by first | omega | assumption) (by first | omega | assumption) (by first | omega | assumption) (by first | omega | assumption)) 3 rfl gX3_fitsMarks_X5_liked rfl (by decide +kernel) ⟨⟨Nat.le_of_ble_eq_true rfl, Nat.le_of_ble_eq_true rfl⟩, rfl, rfl, Nat.zero_le _, Nat.zero_le _⟩ hl.1 rfl (Nat.le_of_ble_eq_true rfl) ([] : List Nat) [0] [wF cy a b n4 mx r f] 1 (by decide +kernel) rfl rfl rfl dX3_fitsMarks_33 (fun z_5 _ H_ lo_ hw_ W_ => ?_)
          replace hw_ : (z_5 = likedZ kd (f (4 * k + 1)) (f (4 * k + 2))) := hw_
          have f33_v := hw_
          clear hw_
          have f33_v := f33_v.symm
          subst f33_v
          have b33 := likedZ_b kd (s := f (4 * k + 1)) (c := f (4 * k + 2)) (by omega) (by omega)
          refine lv_aload_n F_.1 F_.2.1 dX3_fitsMarks_36 rfl (lv_at hl 1 rfl) ?_
          refine lv_iload_n F_.1 F_.2.1 dX3_fitsMarks_37 rfl (lv_at hl 0 rfl) ?_
          refine z_iconst F_ dX3_fitsMarks_38 ?_
          refine z_callVip F_ K_ W_ [.int (zi k), .int (zi 3)] (c_X2_cell l_ D cy a b n4 mx r f k 3 bf (by first | omega | assumption) (by first | omega | assumption) (by first | omega | assumption) (by first | omega | assumption) (by first | omega | assumption) (by first | omega | assumption)) 2 rfl gX3_fitsMarks_X2_cell rfl (by decide +kernel) ⟨⟨Nat.le_of_ble_eq_true rfl, Nat.le_of_ble_eq_true rfl⟩, rfl, rfl, Nat.zero_le _, Nat.zero_le _⟩ 0 0 2 rfl rfl rfl rfl hl.1 rfl (Nat.le_of_ble_eq_true rfl) [0] ([] : List Nat) ([] : List va_W) 1 (by decide +kernel) rfl rfl rfl dX3_fitsMarks_39 (fun z_6 _ H_ lo_ hw_ W_ => ?_)
          replace hw_ : (z_6 = f (4 * k + 3)) := hw_
          have f39_v := hw_
          clear hw_
          have f39_v := f39_v.symm
          subst f39_v
          have b39 := bf (4 * k + 3)
          refine z_icmp_eq (tgt := 47) F_ (by omega) dX3_fitsMarks_42 (by decide) (fun c42 => ?_) (fun c42 => ?_)
          · refine z_iinc (lv' := [(3, .int (zi (k + 1))), (0, .ref a), (1, .int (zi i)), (2, .int (zi kd))]) F_ dX3_fitsMarks_47 hl (k := 0) rfl (by decide) rfl (fun ls_ hl => ?_)
            refine z_goto (tgt := 2) F_ dX3_fitsMarks_50 (by decide) ?_
            exact ih2 (k + 1) (by first | omega | assumption) (by rw [fitZ_s _ _ _ hk.1, hx]; first | rw [if_pos (fun q => by first | omega | exact absurd q c17)]) (by omega) ls_ H_ lo_ W_ (lv_sub hl [0, 1, 2, 3] rfl)
          · refine z_iconst F_ dX3_fitsMarks_45 ?_
            exact hret _ _ _ _ 0 () dX3_fitsMarks_46 (by exact Or.inr ⟨rfl, fitZ_stay (m := k + 1) (by omega) (by rw [fitZ_s _ _ _ hk.1, if_neg (fun q => by have := q c17; omega)]) (by omega)⟩) W_
  exact L2 ((r - 0 : Int).toNat + 1) 0 (by first | omega | assumption) (by rfl) (by have := Int.self_le_toNat (r - 0 : Int); omega) ls_ H_ lo_ W_ (lv_sub hl [0, 1, 2, 3] rfl)
abbrev rX3_shipKindsOf : Room := { frames := 2, cells := 0, slots := 0, locals := 48 }
set_option maxHeartbeats 1000000 in
set_option maxRecDepth 100000 in
theorem c_X3_shipKindsOf (l_ : Launch) (D : va_G) (cy : Nat → ClassId) (t0 : Nat) (t1 : Nat) (te : Int → Int) (q : Nat → Nat) (S : Int) (M : Int) (sk : Int → Int) (sc : Int → Int) (mk : Int → Int) (ms : Int → Int) (mp : Int → Int) (r2 : Int) (f2 : Int → Int) (i : Int) (bte : ∀ j : Int, 0 ≤ te j ∧ te j ≤ 300) (bS : 0 ≤ S ∧ S ≤ 3) (bM : 0 ≤ M ∧ M ≤ 8) (bsk : ∀ j : Int, 0 ≤ sk j ∧ sk j ≤ 5) (bsc : ∀ j : Int, 0 ≤ sc j ∧ sc j ≤ 99) (bmk : ∀ j : Int, 0 ≤ mk j ∧ mk j ≤ 5) (bms : ∀ j : Int, 0 ≤ ms j ∧ ms j ≤ 9) (bmp : ∀ j : Int, (-1) ≤ mp j ∧ mp j ≤ 2) (bf2 : ∀ j : Int, (-1) ≤ f2 j ∧ f2 j ≤ 99) (ri : -2147483648 ≤ i ∧ i < 2147483648) (hr : 0 ≤ r2 ∧ r2 ≤ 6) (hrow : ∀ k, 0 ≤ k → k < r2 → 1 ≤ f2 (4 * k + 1) ∧ f2 (4 * k + 1) ≤ 30 ∧ 0 ≤ f2 (4 * k + 2) ∧ f2 (4 * k + 2) ≤ 8) : CTi l_ D cy yX3_shipKindsOf wsX3_shipKindsOf rX3_shipKindsOf [.ref t0, .ref (q 0), .int (zi i)] ([wQ cy t0 t1 te, wI cy q S M sk sc mk ms mp, wF cy (q 8) (q 9) 24 6 r2 f2]) (fun (z : Int) (u : Unit) => (z = kbZ f2 1 i r2 6)) (fun (_ : Unit) => [wQ cy t0 t1 te, wI cy q S M sk sc mk ms mp, wF cy (q 8) (q 9) 24 6 r2 f2]) := by
  refine CTi.of RX3 cX3_shipKindsOf 5 rfl (by decide) rfl (fun z u hz => rfl) (Nat.le_of_ble_eq_true rfl) ?_
  intro p_ e_ s_ m_ ar_ be_ me_ c_ Q_ A_ ls_ F_ K_ W_ hl hret
  have hl : lv_has ls_ 5 [(0, .ref t0), (1, .ref (q 0)), (2, .int (zi i))] := hl
  obtain ⟨H_, hH_⟩ : ∃ x, x = s_.heap := ⟨_, rfl⟩
  obtain ⟨lo_, hlo_⟩ : ∃ x : List Loc, x = [] := ⟨_, rfl⟩
  have W_ : WD D A_ s_.heap ([wQ cy t0 t1 te, wI cy q S M sk sc mk ms mp, wF cy (q 8) (q 9) 24 6 r2 f2]) H_ lo_ := by rw [hH_, hlo_]; exact W_
  rw [← hlo_]
  suffices hg_ : W p_ l_ e_ rX3_shipKindsOf s_ m_ ar_ be_ me_ c_ H_ lo_ 0 0 Q_ (F0 m_ 0 ls_ []) by rw [hH_] at hg_; exact hg_
  clear hH_ hlo_
  have hinX4 : ∀ w ∈ u_ws RX4 TX4 11, w ∈ wsX3_shipKindsOf := fun w h => List.mem_cons_of_mem _ (List.mem_append_left _ (List.mem_append_right _ h))
  refine z_iconst F_ dX3_shipKindsOf_0 ?_
  refine lv_istore_n (lv' := [(3, .int (zi 0)), (0, .ref t0), (1, .ref (q 0)), (2, .int (zi i))]) F_.1 F_.2.1 dX3_shipKindsOf_1 rfl hl (by decide) rfl (fun ls_ hl => ?_)
  refine z_iconst F_ dX3_shipKindsOf_2 ?_
  refine lv_istore (lv' := [(4, .int (zi 0)), (3, .int (zi 0)), (0, .ref t0), (1, .ref (q 0)), (2, .int (zi i))]) F_.1 F_.2.1 dX3_shipKindsOf_3 hl (by decide) rfl (fun ls_ hl => ?_)
  have L5 : ∀ (n_ : Nat) (x : Int) (kd : Int) (hk : 0 ≤ kd ∧ kd ≤ 6) (hx : x = kbZ f2 1 i r2 kd) (hm_ : (6 - kd : Int) < (n_ : Int)) (ls_ : Array Slot) (H_ : Heap) (lo_ : List Loc), WD D A_ s_.heap ([wQ cy t0 t1 te, wI cy q S M sk sc mk ms mp, wF cy (q 8) (q 9) 24 6 r2 f2]) H_ lo_ → lv_has ls_ 5 [(4, .int (zi kd)), (3, .int (zi x)), (0, .ref t0), (1, .ref (q 0)), (2, .int (zi i))] → W p_ l_ e_ rX3_shipKindsOf s_ m_ ar_ be_ me_ c_ H_ lo_ 0 0 Q_ (F0 m_ 5 ls_ []) := by
    intro n_
    induction n_ with
    | zero =>
      intro x kd hk hx hm_ ls_ H_ lo_ _ _
      exact absurd hm_ (by omega)
    | succ n_ ih_ =>
      intro x kd hk hx hm_ ls_ H_ lo_ W_ hl
      have ih5 := ih_
      refine lv_iload F_.1 F_.2.1 dX3_shipKindsOf_5 (lv_at hl 0 rfl) ?_
      refine z_bipush F_ (by decide) dX3_shipKindsOf_7 ?_
      refine z_icmp_ge (tgt := 38) F_ (by omega) dX3_shipKindsOf_9 (by decide) (fun c9 => ?_) (fun c9 => ?_)
      · refine lv_iload_n F_.1 F_.2.1 dX3_shipKindsOf_38 rfl (lv_at hl 1 rfl) ?_
        exact hret _ _ _ _ x () dX3_shipKindsOf_39 (by rw [hx]; congr 1; omega) W_
      · have hzb := kbZ_b f2 1 i r2 hk.1
        rw [← hx] at hzb
        have hp8 := zpw_le (show kd ≤ 5 by omega)
        have hp7 : zpw 5 = 32 := rfl
        have hp1 := zpw_pos kd
        refine lv_aload_n F_.1 F_.2.1 dX3_shipKindsOf_12 rfl (lv_at hl 3 rfl) ?_
        refine z_get F_ K_ W_ 1 0 8 rfl rfl rfl (C := RX4) (T := TX4) (N := 11) rfl (by decide) hinX4 (List.mem_of_getElem? (i := 1) rfl) dX3_shipKindsOf_13 ?_
        refine lv_iload_n F_.1 F_.2.1 dX3_shipKindsOf_16 rfl (lv_at hl 4 rfl) ?_
        refine lv_iload F_.1 F_.2.1 dX3_shipKindsOf_17 (lv_at hl 0 rfl) ?_
        refine z_callSip F_ K_ W_ [.ref (q 8), .int (zi i), .int (zi kd)] (c_X3_fitsNotes l_ D cy (q 8) (q 9) 24 6 r2 f2 i kd bf2 (by first | omega | assumption) (by first | omega | assumption) (by first | omega | assumption) (by first | omega | assumption) (by exact hrow)) 3 rfl gX3_shipKindsOf_X3_fitsNotes rfl (by decide +kernel) ⟨⟨Nat.le_of_ble_eq_true rfl, Nat.le_of_ble_eq_true rfl⟩, rfl, rfl, Nat.zero_le _, Nat.zero_le _⟩ hl.1 rfl (Nat.le_of_ble_eq_true rfl) [2] [0, 1] [wQ cy t0 t1 te, wI cy q S M sk sc mk ms mp] 3 (by decide +kernel) rfl rfl rfl dX3_shipKindsOf_19 (fun z_1 _ H_ lo_ hw_ W_ => ?_)
        replace hw_ : ((z_1 = 1 ∧ fitZ f2 (needZ kd) i r2 = 1) ∨ (z_1 = 0 ∧ fitZ f2 (needZ kd) i r2 = 0)) := hw_
        have f19_v := hw_
        clear hw_
        refine z_if_eq (tgt := 32) F_ (by omega) dX3_shipKindsOf_22 (by decide) (fun c22 => ?_) (fun c22 => ?_)
        · refine z_iinc (lv' := [(4, .int (zi (kd + 1))), (3, .int (zi x)), (0, .ref t0), (1, .ref (q 0)), (2, .int (zi i))]) F_ dX3_shipKindsOf_32 hl (k := 0) rfl (by decide) rfl (fun ls_ hl => ?_)
          refine z_goto (tgt := 5) F_ dX3_shipKindsOf_35 (by decide) ?_
          exact ih5 x (kd + 1) (by first | omega | assumption) (by rw [kbZ_s _ _ _ _ hk.1, ← hx, show vlZ 1 kd = needZ kd from rfl]; split <;> omega) (by omega) ls_ H_ lo_ W_ (lv_sub hl [0, 1, 2, 3, 4] rfl)
        · refine lv_iload_n F_.1 F_.2.1 dX3_shipKindsOf_25 rfl (lv_at hl 1 rfl) ?_
          refine z_iconst F_ dX3_shipKindsOf_26 ?_
          refine lv_iload F_.1 F_.2.1 dX3_shipKindsOf_27 (lv_at hl 0 rfl) ?_
          refine z_ishl F_ (by rw [Int.one_mul]; omega) dX3_shipKindsOf_29 ?_
          have i_2 : 1 * zpw kd = zpw kd := by exact Int.one_mul _
          rw [i_2]
          refine z_ior F_ (by omega) dX3_shipKindsOf_30 ?_
          have i_3 : zor x (zpw kd) = x + zpw kd := by exact zor_pw hzb
          rw [i_3]
          refine lv_istore_n (lv' := [(3, .int (zi (x + zpw kd))), (4, .int (zi kd)), (0, .ref t0), (1, .ref (q 0)), (2, .int (zi i))]) F_.1 F_.2.1 dX3_shipKindsOf_31 rfl hl (by decide) rfl (fun ls_ hl => ?_)
          refine z_iinc (lv' := [(4, .int (zi (kd + 1))), (3, .int (zi (x + zpw kd))), (0, .ref t0), (1, .ref (q 0)), (2, .int (zi i))]) F_ dX3_shipKindsOf_32 hl (k := 1) rfl (by decide) rfl (fun ls_ hl => ?_)
          refine z_goto (tgt := 5) F_ dX3_shipKindsOf_35 (by decide) ?_
          exact ih5 (x + zpw kd) (kd + 1) (by first | omega | assumption) (by rw [kbZ_s _ _ _ _ hk.1, ← hx, show vlZ 1 kd = needZ kd from rfl]; split <;> omega) (by omega) ls_ H_ lo_ W_ (lv_sub hl [0, 1, 2, 3, 4] rfl)
  exact L5 ((6 - 0 : Int).toNat + 1) 0 0 (by first | omega | assumption) (by rfl) (by have := Int.self_le_toNat (6 - 0 : Int); omega) ls_ H_ lo_ W_ (lv_sub hl [0, 1, 2, 3, 4] rfl)
abbrev rX3_manKindsOf : Room := { frames := 2, cells := 0, slots := 0, locals := 48 }
set_option maxHeartbeats 1000000 in
set_option maxRecDepth 100000 in
theorem c_X3_manKindsOf (l_ : Launch) (D : va_G) (cy : Nat → ClassId) (t0 : Nat) (t1 : Nat) (te : Int → Int) (q : Nat → Nat) (S : Int) (M : Int) (sk : Int → Int) (sc : Int → Int) (mk : Int → Int) (ms : Int → Int) (mp : Int → Int) (r3 : Int) (f3 : Int → Int) (i : Int) (bte : ∀ j : Int, 0 ≤ te j ∧ te j ≤ 300) (bS : 0 ≤ S ∧ S ≤ 3) (bM : 0 ≤ M ∧ M ≤ 8) (bsk : ∀ j : Int, 0 ≤ sk j ∧ sk j ≤ 5) (bsc : ∀ j : Int, 0 ≤ sc j ∧ sc j ≤ 99) (bmk : ∀ j : Int, 0 ≤ mk j ∧ mk j ≤ 5) (bms : ∀ j : Int, 0 ≤ ms j ∧ ms j ≤ 9) (bmp : ∀ j : Int, (-1) ≤ mp j ∧ mp j ≤ 2) (bf3 : ∀ j : Int, (-1) ≤ f3 j ∧ f3 j ≤ 99) (ri : -2147483648 ≤ i ∧ i < 2147483648) (hr : 0 ≤ r3 ∧ r3 ≤ 6) (hrow : ∀ k, 0 ≤ k → k < r3 → 0 ≤ f3 (4 * k + 1) ∧ f3 (4 * k + 1) ≤ 9 ∧ 0 ≤ f3 (4 * k + 2)) : CTi l_ D cy yX3_manKindsOf wsX3_manKindsOf rX3_manKindsOf [.ref t0, .ref (q 0), .int (zi i)] ([wQ cy t0 t1 te, wI cy q S M sk sc mk ms mp, wF cy (q 10) (q 11) 24 6 r3 f3]) (fun (z : Int) (u : Unit) => (z = kbZ f3 0 i r3 6)) (fun (_ : Unit) => [wQ cy t0 t1 te, wI cy q S M sk sc mk ms mp, wF cy (q 10) (q 11) 24 6 r3 f3]) := by
  refine CTi.of RX3 cX3_manKindsOf 5 rfl (by decide) rfl (fun z u hz => rfl) (Nat.le_of_ble_eq_true rfl) ?_
  intro p_ e_ s_ m_ ar_ be_ me_ c_ Q_ A_ ls_ F_ K_ W_ hl hret
  have hl : lv_has ls_ 5 [(0, .ref t0), (1, .ref (q 0)), (2, .int (zi i))] := hl
  obtain ⟨H_, hH_⟩ : ∃ x, x = s_.heap := ⟨_, rfl⟩
  obtain ⟨lo_, hlo_⟩ : ∃ x : List Loc, x = [] := ⟨_, rfl⟩
  have W_ : WD D A_ s_.heap ([wQ cy t0 t1 te, wI cy q S M sk sc mk ms mp, wF cy (q 10) (q 11) 24 6 r3 f3]) H_ lo_ := by rw [hH_, hlo_]; exact W_
  rw [← hlo_]
  suffices hg_ : W p_ l_ e_ rX3_manKindsOf s_ m_ ar_ be_ me_ c_ H_ lo_ 0 0 Q_ (F0 m_ 0 ls_ []) by rw [hH_] at hg_; exact hg_
  clear hH_ hlo_
  have hinX4 : ∀ w ∈ u_ws RX4 TX4 11, w ∈ wsX3_manKindsOf := fun w h => List.mem_cons_of_mem _ (List.mem_append_left _ (List.mem_append_right _ h))
  refine z_iconst F_ dX3_manKindsOf_0 ?_
  refine lv_istore_n (lv' := [(3, .int (zi 0)), (0, .ref t0), (1, .ref (q 0)), (2, .int (zi i))]) F_.1 F_.2.1 dX3_manKindsOf_1 rfl hl (by decide) rfl (fun ls_ hl => ?_)
  refine z_iconst F_ dX3_manKindsOf_2 ?_
  refine lv_istore (lv' := [(4, .int (zi 0)), (3, .int (zi 0)), (0, .ref t0), (1, .ref (q 0)), (2, .int (zi i))]) F_.1 F_.2.1 dX3_manKindsOf_3 hl (by decide) rfl (fun ls_ hl => ?_)
  have L5 : ∀ (n_ : Nat) (x : Int) (kd : Int) (hk : 0 ≤ kd ∧ kd ≤ 6) (hx : x = kbZ f3 0 i r3 kd) (hm_ : (6 - kd : Int) < (n_ : Int)) (ls_ : Array Slot) (H_ : Heap) (lo_ : List Loc), WD D A_ s_.heap ([wQ cy t0 t1 te, wI cy q S M sk sc mk ms mp, wF cy (q 10) (q 11) 24 6 r3 f3]) H_ lo_ → lv_has ls_ 5 [(4, .int (zi kd)), (3, .int (zi x)), (0, .ref t0), (1, .ref (q 0)), (2, .int (zi i))] → W p_ l_ e_ rX3_manKindsOf s_ m_ ar_ be_ me_ c_ H_ lo_ 0 0 Q_ (F0 m_ 5 ls_ []) := by
    intro n_
    induction n_ with
    | zero =>
      intro x kd hk hx hm_ ls_ H_ lo_ _ _
      exact absurd hm_ (by omega)
    | succ n_ ih_ =>
      intro x kd hk hx hm_ ls_ H_ lo_ W_ hl
      have ih5 := ih_
      refine lv_iload F_.1 F_.2.1 dX3_manKindsOf_5 (lv_at hl 0 rfl) ?_
      refine z_bipush F_ (by decide) dX3_manKindsOf_7 ?_
      refine z_icmp_ge (tgt := 38) F_ (by omega) dX3_manKindsOf_9 (by decide) (fun c9 => ?_) (fun c9 => ?_)
      · refine lv_iload_n F_.1 F_.2.1 dX3_manKindsOf_38 rfl (lv_at hl 1 rfl) ?_
        exact hret _ _ _ _ x () dX3_manKindsOf_39 (by rw [hx]; congr 1; omega) W_
      · have hzb := kbZ_b f3 0 i r3 hk.1
        rw [← hx] at hzb
        have hp8 := zpw_le (show kd ≤ 5 by omega)
        have hp7 : zpw 5 = 32 := rfl
        have hp1 := zpw_pos kd
        refine lv_aload_n F_.1 F_.2.1 dX3_manKindsOf_12 rfl (lv_at hl 3 rfl) ?_
        refine z_get F_ K_ W_ 1 0 9 rfl rfl rfl (C := RX4) (T := TX4) (N := 11) rfl (by decide) hinX4 (List.mem_of_getElem? (i := 1) rfl) dX3_manKindsOf_13 ?_
        refine lv_iload_n F_.1 F_.2.1 dX3_manKindsOf_16 rfl (lv_at hl 4 rfl) ?_
        refine lv_iload F_.1 F_.2.1 dX3_manKindsOf_17 (lv_at hl 0 rfl) ?_
        refine z_callSip F_ K_ W_ [.ref (q 10), .int (zi i), .int (zi kd)] (c_X3_fitsMarks l_ D cy (q 10) (q 11) 24 6 r3 f3 i kd bf3 (by first | omega | assumption) (by first | omega | assumption) (by first | omega | assumption) (by first | omega | assumption) (by exact hrow)) 3 rfl gX3_manKindsOf_X3_fitsMarks rfl (by decide +kernel) ⟨⟨Nat.le_of_ble_eq_true rfl, Nat.le_of_ble_eq_true rfl⟩, rfl, rfl, Nat.zero_le _, Nat.zero_le _⟩ hl.1 rfl (Nat.le_of_ble_eq_true rfl) [2] [0, 1] [wQ cy t0 t1 te, wI cy q S M sk sc mk ms mp] 3 (by decide +kernel) rfl rfl rfl dX3_manKindsOf_19 (fun z_1 _ H_ lo_ hw_ W_ => ?_)
        replace hw_ : ((z_1 = 1 ∧ fitZ f3 (likedZ kd) i r3 = 1) ∨ (z_1 = 0 ∧ fitZ f3 (likedZ kd) i r3 = 0)) := hw_
        have f19_v := hw_
        clear hw_
        refine z_if_eq (tgt := 32) F_ (by omega) dX3_manKindsOf_22 (by decide) (fun c22 => ?_) (fun c22 => ?_)
        · refine z_iinc (lv' := [(4, .int (zi (kd + 1))), (3, .int (zi x)), (0, .ref t0), (1, .ref (q 0)), (2, .int (zi i))]) F_ dX3_manKindsOf_32 hl (k := 0) rfl (by decide) rfl (fun ls_ hl => ?_)
          refine z_goto (tgt := 5) F_ dX3_manKindsOf_35 (by decide) ?_
          exact ih5 x (kd + 1) (by first | omega | assumption) (by rw [kbZ_s _ _ _ _ hk.1, ← hx, show vlZ 0 kd = likedZ kd from rfl]; split <;> omega) (by omega) ls_ H_ lo_ W_ (lv_sub hl [0, 1, 2, 3, 4] rfl)
        · refine lv_iload_n F_.1 F_.2.1 dX3_manKindsOf_25 rfl (lv_at hl 1 rfl) ?_
          refine z_iconst F_ dX3_manKindsOf_26 ?_
          refine lv_iload F_.1 F_.2.1 dX3_manKindsOf_27 (lv_at hl 0 rfl) ?_
          refine z_ishl F_ (by rw [Int.one_mul]; omega) dX3_manKindsOf_29 ?_
          have i_2 : 1 * zpw kd = zpw kd := by exact Int.one_mul _
          rw [i_2]
          refine z_ior F_ (by omega) dX3_manKindsOf_30 ?_
          have i_3 : zor x (zpw kd) = x + zpw kd := by exact zor_pw hzb
          rw [i_3]
          refine lv_istore_n (lv' := [(3, .int (zi (x + zpw kd))), (4, .int (zi kd)), (0, .ref t0), (1, .ref (q 0)), (2, .int (zi i))]) F_.1 F_.2.1 dX3_manKindsOf_31 rfl hl (by decide) rfl (fun ls_ hl => ?_)
          refine z_iinc (lv' := [(4, .int (zi (kd + 1))), (3, .int (zi (x + zpw kd))), (0, .ref t0), (1, .ref (q 0)), (2, .int (zi i))]) F_ dX3_manKindsOf_32 hl (k := 1) rfl (by decide) rfl (fun ls_ hl => ?_)
          refine z_goto (tgt := 5) F_ dX3_manKindsOf_35 (by decide) ?_
          exact ih5 (x + zpw kd) (kd + 1) (by first | omega | assumption) (by rw [kbZ_s _ _ _ _ hk.1, ← hx, show vlZ 0 kd = likedZ kd from rfl]; split <;> omega) (by omega) ls_ H_ lo_ W_ (lv_sub hl [0, 1, 2, 3, 4] rfl)
  exact L5 ((6 - 0 : Int).toNat + 1) 0 0 (by first | omega | assumption) (by rfl) (by have := Int.self_le_toNat (6 - 0 : Int); omega) ls_ H_ lo_ W_ (lv_sub hl [0, 1, 2, 3, 4] rfl)
abbrev rX3_mostAlike : Room := { frames := 1, cells := 0, slots := 0, locals := 13 }
set_option maxHeartbeats 1000000 in
set_option maxRecDepth 100000 in
theorem c_X3_mostAlike (l_ : Launch) (D : va_G) (cy : Nat → ClassId) (t0 : Nat) (t1 : Nat) (te : Int → Int) (x : Int) (bte : ∀ j : Int, 0 ≤ te j ∧ te j ≤ 300) (rx : -2147483648 ≤ x ∧ x < 2147483648) (hx : 0 ≤ x ∧ x < 64) : CTi l_ D cy yX3_mostAlike wsX3_mostAlike rX3_mostAlike [.ref t0, .int (zi x)] ([wQ cy t0 t1 te]) (fun (z : Int) (u : Unit) => (z = topZ te x 6)) (fun (_ : Unit) => [wQ cy t0 t1 te]) := by
  refine CTi.of RX3 cX3_mostAlike 6 rfl (by decide) rfl (fun z u hz => rfl) (Nat.le_of_ble_eq_true rfl) ?_
  intro p_ e_ s_ m_ ar_ be_ me_ c_ Q_ A_ ls_ F_ K_ W_ hl hret
  have hl : lv_has ls_ 6 [(0, .ref t0), (1, .int (zi x))] := hl
  obtain ⟨H_, hH_⟩ : ∃ x, x = s_.heap := ⟨_, rfl⟩
  obtain ⟨lo_, hlo_⟩ : ∃ x : List Loc, x = [] := ⟨_, rfl⟩
  have W_ : WD D A_ s_.heap ([wQ cy t0 t1 te]) H_ lo_ := by rw [hH_, hlo_]; exact W_
  rw [← hlo_]
  suffices hg_ : W p_ l_ e_ rX3_mostAlike s_ m_ ar_ be_ me_ c_ H_ lo_ 0 0 Q_ (F0 m_ 0 ls_ []) by rw [hH_] at hg_; exact hg_
  clear hH_ hlo_
  have hinX3 : ∀ w ∈ u_ws RX3 TX3 1, w ∈ wsX3_mostAlike := fun w h => List.mem_cons_of_mem _ (List.mem_append_right _ h)
  refine z_iconst F_ dX3_mostAlike_0 ?_
  refine lv_istore_n (lv' := [(2, .int (zi 0)), (0, .ref t0), (1, .int (zi x))]) F_.1 F_.2.1 dX3_mostAlike_1 rfl hl (by decide) rfl (fun ls_ hl => ?_)
  refine z_iconst F_ dX3_mostAlike_2 ?_
  refine lv_istore_n (lv' := [(3, .int (zi 0)), (2, .int (zi 0)), (0, .ref t0), (1, .int (zi x))]) F_.1 F_.2.1 dX3_mostAlike_3 rfl hl (by decide) rfl (fun ls_ hl => ?_)
  have L4 : ∀ (n_ : Nat) (y : Int) (a : Int) (ha : 0 ≤ a ∧ a ≤ 6) (hy : y = topZ te x a) (hyb : 0 ≤ y ∧ y ≤ 6) (hm_ : (6 - a : Int) < (n_ : Int)) (ls_ : Array Slot) (H_ : Heap) (lo_ : List Loc), WD D A_ s_.heap ([wQ cy t0 t1 te]) H_ lo_ → lv_has ls_ 6 [(3, .int (zi a)), (2, .int (zi y)), (0, .ref t0), (1, .int (zi x))] → W p_ l_ e_ rX3_mostAlike s_ m_ ar_ be_ me_ c_ H_ lo_ 0 0 Q_ (F0 m_ 4 ls_ []) := by
    intro n_
    induction n_ with
    | zero =>
      intro y a ha hy hyb hm_ ls_ H_ lo_ _ _
      exact absurd hm_ (by omega)
    | succ n_ ih_ =>
      intro y a ha hy hyb hm_ ls_ H_ lo_ W_ hl
      have ih4 := ih_
      refine lv_iload_n F_.1 F_.2.1 dX3_mostAlike_4 rfl (lv_at hl 0 rfl) ?_
      refine z_bipush F_ (by decide) dX3_mostAlike_5 ?_
      refine z_icmp_ge (tgt := 75) F_ (by omega) dX3_mostAlike_7 (by decide) (fun c7 => ?_) (fun c7 => ?_)
      · refine lv_iload_n F_.1 F_.2.1 dX3_mostAlike_75 rfl (lv_at hl 1 rfl) ?_
        exact hret _ _ _ _ y () dX3_mostAlike_76 (by rw [hy]; congr 1; omega) W_
      · refine z_iconst F_ dX3_mostAlike_10 ?_
        refine lv_istore (lv' := [(4, .int (zi 0)), (3, .int (zi a)), (2, .int (zi y)), (0, .ref t0), (1, .int (zi x))]) F_.1 F_.2.1 dX3_mostAlike_11 hl (by decide) rfl (fun ls_ hl => ?_)
        refine z_iconst F_ dX3_mostAlike_13 ?_
        refine lv_istore (lv' := [(5, .int (zi 0)), (4, .int (zi 0)), (3, .int (zi a)), (2, .int (zi y)), (0, .ref t0), (1, .int (zi x))]) F_.1 F_.2.1 dX3_mostAlike_14 hl (by decide) rfl (fun ls_ hl => ?_)
        have L16 : ∀ (n_ : Nat) (v : Int) (b : Int) (hb : 0 ≤ b ∧ b ≤ 6) (hvq : (zbt x a = 1 ∧ v = likeZ te x a b) ∨ (¬ zbt x a = 1 ∧ v = 0)) (hvb : 0 ≤ v ∧ v ≤ b) (hm_ : (6 - b : Int) < (n_ : Int)) (ls_ : Array Slot) (H_ : Heap) (lo_ : List Loc), WD D A_ s_.heap ([wQ cy t0 t1 te]) H_ lo_ → lv_has ls_ 6 [(5, .int (zi b)), (4, .int (zi v)), (3, .int (zi a)), (2, .int (zi y)), (0, .ref t0), (1, .int (zi x))] → W p_ l_ e_ rX3_mostAlike s_ m_ ar_ be_ me_ c_ H_ lo_ 0 0 Q_ (F0 m_ 16 ls_ []) := by
          intro n_
          induction n_ with
          | zero =>
            intro v b hb hvq hvb hm_ ls_ H_ lo_ _ _
            exact absurd hm_ (by omega)
          | succ n_ ih_ =>
            intro v b hb hvq hvb hm_ ls_ H_ lo_ W_ hl
            have ih16 := ih_
            refine lv_iload F_.1 F_.2.1 dX3_mostAlike_16 (lv_at hl 0 rfl) ?_
            refine z_bipush F_ (by decide) dX3_mostAlike_18 ?_
            refine z_icmp_ge (tgt := 62) F_ (by omega) dX3_mostAlike_20 (by decide) (fun c20 => ?_) (fun c20 => ?_)
            · refine lv_iload_n F_.1 F_.2.1 dX3_mostAlike_62 rfl (lv_at hl 3 rfl) ?_
              refine lv_iload F_.1 F_.2.1 dX3_mostAlike_63 (lv_at hl 1 rfl) ?_
              refine z_max F_ (by omega) hl.1 (F_.2.2.2.2 _ (List.mem_of_getElem? (i := 2) rfl)) (F_.2.2.2.2 _ (List.mem_of_getElem? (i := 3) rfl)) (F_.2.2.2.2 _ (List.mem_of_getElem? (i := 4) rfl)) (F_.2.2.2.2 _ (List.mem_of_getElem? (i := 5) rfl)) (Nat.le_of_ble_eq_true rfl) (Nat.le_of_ble_eq_true rfl) (Nat.zero_le _) (Nat.zero_le _) dX3_mostAlike_65 ?_
              refine lv_istore_n (lv' := [(2, .int (zi (max y v))), (5, .int (zi b)), (4, .int (zi v)), (3, .int (zi a)), (0, .ref t0), (1, .int (zi x))]) F_.1 F_.2.1 dX3_mostAlike_68 rfl hl (by decide) rfl (fun ls_ hl => ?_)
              refine z_iinc (lv' := [(3, .int (zi (a + 1))), (2, .int (zi (max y v))), (5, .int (zi b)), (4, .int (zi v)), (0, .ref t0), (1, .int (zi x))]) F_ dX3_mostAlike_69 hl (k := 3) rfl (by decide) rfl (fun ls_ hl => ?_)
              refine z_goto (tgt := 4) F_ dX3_mostAlike_72 (by decide) ?_
              exact ih4 (max y v) (a + 1) (by first | omega | assumption) (by rw [topZ_s _ _ ha.1, ← hy]; rcases hvq with q | q; (rw [if_pos q.1, q.2, show (6 : Int) = b by omega]); (rw [if_neg q.1, q.2])) (by first | omega | assumption) (by omega) ls_ H_ lo_ W_ (lv_sub hl [0, 1, 4, 5] rfl)
            · have hs1 := zshr_b a hx.1
              have hs2 := zshr_b b hx.1
              refine lv_iload_n F_.1 F_.2.1 dX3_mostAlike_23 rfl (lv_at hl 5 rfl) ?_
              refine lv_iload_n F_.1 F_.2.1 dX3_mostAlike_24 rfl (lv_at hl 2 rfl) ?_
              refine z_ishr F_ (by omega) dX3_mostAlike_25 ?_
              refine lv_iload_n F_.1 F_.2.1 dX3_mostAlike_26 rfl (lv_at hl 5 rfl) ?_
              refine lv_iload F_.1 F_.2.1 dX3_mostAlike_27 (lv_at hl 0 rfl) ?_
              refine z_ishr F_ (by omega) dX3_mostAlike_29 ?_
              refine z_iand F_ (by omega) dX3_mostAlike_30 ?_
              refine z_iconst F_ dX3_mostAlike_31 ?_
              have hzd := zand_b (y := x / zpw b) hs1.1
              refine z_iand F_ (by omega) dX3_mostAlike_32 ?_
              obtain ⟨w_2, ew_2, fw_2⟩ : ∃ y_ : Int, y_ = zand (zand (x / zpw a) (x / zpw b)) 1 ∧ ((y_ = 1 ∧ zbt x a = 1 ∧ zbt x b = 1) ∨ (y_ = 0 ∧ ¬ (zbt x a = 1 ∧ zbt x b = 1))) := ⟨_, rfl, by exact zand_odd hs1.1 hs2.1⟩
              rw [← ew_2]
              refine z_iconst F_ dX3_mostAlike_33 ?_
              refine z_icmp_ne (tgt := 56) F_ (by omega) dX3_mostAlike_34 (by decide) (fun c34 => ?_) (fun c34 => ?_)
              · refine z_iinc (lv' := [(5, .int (zi (b + 1))), (4, .int (zi v)), (3, .int (zi a)), (2, .int (zi y)), (0, .ref t0), (1, .int (zi x))]) F_ dX3_mostAlike_56 hl (k := 0) rfl (by decide) rfl (fun ls_ hl => ?_)
                refine z_goto (tgt := 16) F_ dX3_mostAlike_59 (by decide) ?_
                exact ih16 v (b + 1) (by first | omega | assumption) (by rcases hvq with q | q; (refine Or.inl ⟨q.1, ?_⟩; rw [likeZ_s _ _ _ hb.1, ← q.2]; split <;> omega); (exact Or.inr ⟨q.1, by omega⟩)) (by first | omega | assumption) (by omega) ls_ H_ lo_ W_ (lv_sub hl [0, 1, 2, 3, 4, 5] rfl)
              · refine lv_aload_n F_.1 F_.2.1 dX3_mostAlike_37 rfl (lv_at hl 4 rfl) ?_
                refine z_get F_ K_ W_ 0 0 0 rfl rfl rfl (C := RX3) (T := TX3) (N := 1) rfl (by decide) hinX3 (List.mem_of_getElem? (i := 1) rfl) dX3_mostAlike_38 ?_
                refine lv_iload_n F_.1 F_.2.1 dX3_mostAlike_41 rfl (lv_at hl 2 rfl) ?_
                refine z_iald F_ K_ W_ 0 1 rfl rfl (by omega) (by decide) dX3_mostAlike_42 ?_
                have b_3 := bte a
                refine lv_aload_n F_.1 F_.2.1 dX3_mostAlike_43 rfl (lv_at hl 4 rfl) ?_
                refine z_get F_ K_ W_ 0 0 0 rfl rfl rfl (C := RX3) (T := TX3) (N := 1) rfl (by decide) hinX3 (List.mem_of_getElem? (i := 1) rfl) dX3_mostAlike_44 ?_
                refine lv_iload F_.1 F_.2.1 dX3_mostAlike_47 (lv_at hl 0 rfl) ?_
                refine z_iald F_ K_ W_ 0 1 rfl rfl (by omega) (by decide) dX3_mostAlike_49 ?_
                have b_4 := bte b
                refine z_icmp_ne (tgt := 56) F_ (by omega) dX3_mostAlike_50 (by decide) (fun c50 => ?_) (fun c50 => ?_)
                · refine z_iinc (lv' := [(5, .int (zi (b + 1))), (4, .int (zi v)), (3, .int (zi a)), (2, .int (zi y)), (0, .ref t0), (1, .int (zi x))]) F_ dX3_mostAlike_56 hl (k := 0) rfl (by decide) rfl (fun ls_ hl => ?_)
                  refine z_goto (tgt := 16) F_ dX3_mostAlike_59 (by decide) ?_
                  exact ih16 v (b + 1) (by first | omega | assumption) (by rcases hvq with q | q; (refine Or.inl ⟨q.1, ?_⟩; rw [likeZ_s _ _ _ hb.1, ← q.2]; split <;> omega); (exact Or.inr ⟨q.1, by omega⟩)) (by first | omega | assumption) (by omega) ls_ H_ lo_ W_ (lv_sub hl [0, 1, 2, 3, 4, 5] rfl)
                · refine z_iinc (lv' := [(4, .int (zi (v + 1))), (5, .int (zi b)), (3, .int (zi a)), (2, .int (zi y)), (0, .ref t0), (1, .int (zi x))]) F_ dX3_mostAlike_53 hl (k := 1) rfl (by decide) rfl (fun ls_ hl => ?_)
                  refine z_iinc (lv' := [(5, .int (zi (b + 1))), (4, .int (zi (v + 1))), (3, .int (zi a)), (2, .int (zi y)), (0, .ref t0), (1, .int (zi x))]) F_ dX3_mostAlike_56 hl (k := 1) rfl (by decide) rfl (fun ls_ hl => ?_)
                  refine z_goto (tgt := 16) F_ dX3_mostAlike_59 (by decide) ?_
                  exact ih16 (v + 1) (b + 1) (by first | omega | assumption) (by rcases hvq with q | q; (refine Or.inl ⟨q.1, ?_⟩; rw [likeZ_s _ _ _ hb.1, ← q.2]; split <;> omega); (exact Or.inr ⟨q.1, by omega⟩)) (by first | omega | assumption) (by omega) ls_ H_ lo_ W_ (lv_sub hl [0, 1, 2, 3, 4, 5] rfl)
        exact L16 ((6 - 0 : Int).toNat + 1) 0 0 (by first | omega | assumption) (by (rcases zbt_b x a with q | q); exact Or.inr ⟨by omega, rfl⟩; exact Or.inl ⟨q, rfl⟩) (by first | omega | assumption) (by have := Int.self_le_toNat (6 - 0 : Int); omega) ls_ H_ lo_ W_ (lv_sub hl [0, 1, 2, 3, 4, 5] rfl)
  exact L4 ((6 - 0 : Int).toNat + 1) 0 0 (by first | omega | assumption) (by rfl) (by first | omega | assumption) (by have := Int.self_le_toNat (6 - 0 : Int); omega) ls_ H_ lo_ W_ (lv_sub hl [0, 1, 2, 3] rfl)
abbrev rX3_bestNote : Room := { frames := 2, cells := 0, slots := 0, locals := 38 }
set_option maxHeartbeats 1000000 in
set_option maxRecDepth 100000 in
theorem c_X3_bestNote (l_ : Launch) (D : va_G) (cy : Nat → ClassId) (t0 : Nat) (t1 : Nat) (te : Int → Int) (x : Int) (bte : ∀ j : Int, 0 ≤ te j ∧ te j ≤ 300) (rx : -2147483648 ≤ x ∧ x < 2147483648) (hx : 0 ≤ x ∧ x < 64) : CTi l_ D cy yX3_bestNote wsX3_bestNote rX3_bestNote [.ref t0, .int (zi x)] ([wQ cy t0 t1 te]) (fun (z : Int) (u : (Int → Int)) => (z = if x = 0 then -1 else (bstY (lookK x) lookE 7 (270)).1) ∧ (∀ j : Int, 0 ≤ u j ∧ u j ≤ 300)) (fun (u : (Int → Int)) => [wQ cy t0 t1 u]) := by
  refine CTi.of RX3 cX3_bestNote 7 rfl (by decide) rfl (fun z u hz => rfl) (Nat.le_of_ble_eq_true rfl) ?_
  intro p_ e_ s_ m_ ar_ be_ me_ c_ Q_ A_ ls_ F_ K_ W_ hl hret
  have hl : lv_has ls_ 7 [(0, .ref t0), (1, .int (zi x))] := hl
  obtain ⟨H_, hH_⟩ : ∃ x, x = s_.heap := ⟨_, rfl⟩
  obtain ⟨lo_, hlo_⟩ : ∃ x : List Loc, x = [] := ⟨_, rfl⟩
  have W_ : WD D A_ s_.heap ([wQ cy t0 t1 te]) H_ lo_ := by rw [hH_, hlo_]; exact W_
  rw [← hlo_]
  suffices hg_ : W p_ l_ e_ rX3_bestNote s_ m_ ar_ be_ me_ c_ H_ lo_ 0 0 Q_ (F0 m_ 0 ls_ []) by rw [hH_] at hg_; exact hg_
  clear hH_ hlo_
  have hinX3 : ∀ w ∈ u_ws RX3 TX3 1, w ∈ wsX3_bestNote := fun w h => List.mem_cons_of_mem _ (List.mem_append_right _ h)
  refine z_iconst F_ dX3_bestNote_0 ?_
  refine lv_istore_n (lv' := [(2, .int (zi (-1))), (0, .ref t0), (1, .int (zi x))]) F_.1 F_.2.1 dX3_bestNote_1 rfl hl (by decide) rfl (fun ls_ hl => ?_)
  refine z_bipush F_ (by decide) dX3_bestNote_2 ?_
  refine lv_istore_n (lv' := [(3, .int (zi 7)), (2, .int (zi (-1))), (0, .ref t0), (1, .int (zi x))]) F_.1 F_.2.1 dX3_bestNote_4 rfl hl (by decide) rfl (fun ls_ hl => ?_)
  refine z_iconst F_ dX3_bestNote_5 ?_
  refine lv_istore (lv' := [(4, .int (zi 1)), (3, .int (zi 7)), (2, .int (zi (-1))), (0, .ref t0), (1, .int (zi x))]) F_.1 F_.2.1 dX3_bestNote_6 hl (by decide) rfl (fun ls_ hl => ?_)
  have L8 : ∀ (n_ : Nat) (y : Int) (v : Int) (d : Int) (ta1 : Int → Int) (bta1 : ∀ j : Int, 0 ≤ ta1 j ∧ ta1 j ≤ 300) (hd : 1 ≤ d ∧ d ≤ 31) (hy : y = (bstY (lookK x) lookE 7 (9 * (d - 1))).1) (hv : v = (bstY (lookK x) lookE 7 (9 * (d - 1))).2) (hb : -1 ≤ y ∧ y ≤ 400 ∧ 0 ≤ v ∧ v ≤ 7) (hd0 : d = 1 ∨ ¬ x = 0) (hm_ : (31 - d : Int) < (n_ : Int)) (ls_ : Array Slot) (H_ : Heap) (lo_ : List Loc), WD D A_ s_.heap ([wQ cy t0 t1 ta1]) H_ lo_ → lv_has ls_ 7 [(4, .int (zi d)), (3, .int (zi v)), (2, .int (zi y)), (0, .ref t0), (1, .int (zi x))] → W p_ l_ e_ rX3_bestNote s_ m_ ar_ be_ me_ c_ H_ lo_ 0 0 Q_ (F0 m_ 8 ls_ []) := by
    intro n_
    induction n_ with
    | zero =>
      intro y v d ta1 bta1 hd hy hv hb hd0 hm_ ls_ H_ lo_ _ _
      exact absurd hm_ (by omega)
    | succ n_ ih_ =>
      intro y v d ta1 bta1 hd hy hv hb hd0 hm_ ls_ H_ lo_ W_ hl
      have ih8 := ih_
      refine lv_iload_n F_.1 F_.2.1 dX3_bestNote_8 rfl (lv_at hl 4 rfl) ?_
      refine z_if_eq (tgt := 98) F_ (by omega) dX3_bestNote_9 (by decide) (fun c9 => ?_) (fun c9 => ?_)
      · refine lv_iload_n F_.1 F_.2.1 dX3_bestNote_98 rfl (lv_at hl 2 rfl) ?_
        exact hret _ _ _ _ y ta1 dX3_bestNote_99 ⟨(by first | (rw [if_neg (by omega), hy, show 9 * (d - 1) = 270 by omega]; done) | (rw [if_pos (by omega), hy, show 9 * (d - 1) = 0 by omega]; rfl)), bta1⟩ W_
      · refine lv_iload F_.1 F_.2.1 dX3_bestNote_12 (lv_at hl 0 rfl) ?_
        refine z_bipush F_ (by decide) dX3_bestNote_14 ?_
        refine z_icmp_gt (tgt := 98) F_ (by omega) dX3_bestNote_16 (by decide) (fun c16 => ?_) (fun c16 => ?_)
        · refine lv_iload_n F_.1 F_.2.1 dX3_bestNote_98 rfl (lv_at hl 2 rfl) ?_
          exact hret _ _ _ _ y ta1 dX3_bestNote_99 ⟨(by first | (rw [if_neg (by omega), hy, show 9 * (d - 1) = 270 by omega]; done) | (rw [if_pos (by omega), hy, show 9 * (d - 1) = 0 by omega]; rfl)), bta1⟩ W_
        · refine z_iconst F_ dX3_bestNote_19 ?_
          refine lv_istore (lv' := [(5, .int (zi 0)), (4, .int (zi d)), (3, .int (zi v)), (2, .int (zi y)), (0, .ref t0), (1, .int (zi x))]) F_.1 F_.2.1 dX3_bestNote_20 hl (by decide) rfl (fun ls_ hl => ?_)
          have L22 : ∀ (n_ : Nat) (y2 : Int) (v2 : Int) (k : Int) (ta2 : Int → Int) (bta2 : ∀ j : Int, 0 ≤ ta2 j ∧ ta2 j ≤ 300) (hk : 0 ≤ k ∧ k ≤ 9) (hy2 : y2 = (bstY (lookK x) lookE 7 (9 * (d - 1) + k)).1) (hv2 : v2 = (bstY (lookK x) lookE 7 (9 * (d - 1) + k)).2) (hb2 : -1 ≤ y2 ∧ y2 ≤ 400 ∧ 0 ≤ v2 ∧ v2 ≤ 7) (hm_ : (9 - k : Int) < (n_ : Int)) (ls_ : Array Slot) (H_ : Heap) (lo_ : List Loc), WD D A_ s_.heap ([wQ cy t0 t1 ta2]) H_ lo_ → lv_has ls_ 7 [(5, .int (zi k)), (4, .int (zi d)), (3, .int (zi v2)), (2, .int (zi y2)), (0, .ref t0), (1, .int (zi x))] → W p_ l_ e_ rX3_bestNote s_ m_ ar_ be_ me_ c_ H_ lo_ 0 0 Q_ (F0 m_ 22 ls_ []) := by
            intro n_
            induction n_ with
            | zero =>
              intro y2 v2 k ta2 bta2 hk hy2 hv2 hb2 hm_ ls_ H_ lo_ _ _
              exact absurd hm_ (by omega)
            | succ n_ ih_ =>
              intro y2 v2 k ta2 bta2 hk hy2 hv2 hb2 hm_ ls_ H_ lo_ W_ hl
              have ih22 := ih_
              refine lv_iload F_.1 F_.2.1 dX3_bestNote_22 (lv_at hl 0 rfl) ?_
              refine z_bipush F_ (by decide) dX3_bestNote_24 ?_
              refine z_icmp_gt (tgt := 92) F_ (by omega) dX3_bestNote_26 (by decide) (fun c26 => ?_) (fun c26 => ?_)
              · refine z_iinc (lv' := [(4, .int (zi (d + 1))), (5, .int (zi k)), (3, .int (zi v2)), (2, .int (zi y2)), (0, .ref t0), (1, .int (zi x))]) F_ dX3_bestNote_92 hl (k := 1) rfl (by decide) rfl (fun ls_ hl => ?_)
                refine z_goto (tgt := 8) F_ dX3_bestNote_95 (by decide) ?_
                exact ih8 y2 v2 (d + 1) ta2 bta2 (by first | omega | assumption) (by rw [show 9 * (d + 1 - 1) = 9 * (d - 1) + k by omega]; exact hy2) (by rw [show 9 * (d + 1 - 1) = 9 * (d - 1) + k by omega]; exact hv2) (by first | omega | assumption) (by first | omega | assumption) (by omega) ls_ H_ lo_ W_ (lv_sub hl [0, 2, 3, 4, 5] rfl)
              · refine z_iconst F_ dX3_bestNote_29 ?_
                refine lv_istore (lv' := [(6, .int (zi 0)), (5, .int (zi k)), (4, .int (zi d)), (3, .int (zi v2)), (2, .int (zi y2)), (0, .ref t0), (1, .int (zi x))]) F_.1 F_.2.1 dX3_bestNote_30 hl (by decide) rfl (fun ls_ hl => ?_)
                have L32 : ∀ (n_ : Nat) (kd : Int) (t3 : Int → Int) (bt3 : ∀ j : Int, 0 ≤ t3 j ∧ t3 j ≤ 300) (hkd : 0 ≤ kd ∧ kd ≤ 6) (ht : ∀ j, 0 ≤ j → j < kd → t3 j = needZ j d k) (hm_ : (6 - kd : Int) < (n_ : Int)) (ls_ : Array Slot) (H_ : Heap) (lo_ : List Loc), WD D A_ s_.heap ([wQ cy t0 t1 t3]) H_ lo_ → lv_has ls_ 7 [(6, .int (zi kd)), (5, .int (zi k)), (4, .int (zi d)), (3, .int (zi v2)), (2, .int (zi y2)), (0, .ref t0), (1, .int (zi x))] → W p_ l_ e_ rX3_bestNote s_ m_ ar_ be_ me_ c_ H_ lo_ 0 0 Q_ (F0 m_ 32 ls_ []) := by
                  intro n_
                  induction n_ with
                  | zero =>
                    intro kd t3 bt3 hkd ht hm_ ls_ H_ lo_ _ _
                    exact absurd hm_ (by omega)
                  | succ n_ ih_ =>
                    intro kd t3 bt3 hkd ht hm_ ls_ H_ lo_ W_ hl
                    have ih32 := ih_
                    refine lv_iload F_.1 F_.2.1 dX3_bestNote_32 (lv_at hl 0 rfl) ?_
                    refine z_bipush F_ (by decide) dX3_bestNote_34 ?_
                    refine z_icmp_ge (tgt := 61) F_ (by omega) dX3_bestNote_36 (by decide) (fun c36 => ?_) (fun c36 => ?_)
                    · refine lv_aload_n F_.1 F_.2.1 dX3_bestNote_61 rfl (lv_at hl 5 rfl) ?_
                      refine lv_iload_n F_.1 F_.2.1 dX3_bestNote_62 rfl (lv_at hl 6 rfl) ?_
                      refine z_callVip F_ K_ W_ [.int (zi x)] (c_X3_mostAlike l_ D cy t0 t1 t3 x bt3 (by first | omega | assumption) (by first | omega | assumption)) 1 rfl gX3_bestNote_X3_mostAlike rfl (by decide +kernel) ⟨⟨Nat.le_of_ble_eq_true rfl, Nat.le_of_ble_eq_true rfl⟩, rfl, rfl, Nat.zero_le _, Nat.zero_le _⟩ 0 0 3 rfl rfl rfl rfl hl.1 rfl (Nat.le_of_ble_eq_true rfl) [0] ([] : List Nat) ([] : List va_W) 1 (by decide +kernel) rfl rfl rfl dX3_bestNote_63 (fun z_1 _ H_ lo_ hw_ W_ => ?_)
                      replace hw_ : (z_1 = topZ t3 x 6) := hw_
                      have f63_v := hw_
                      clear hw_
                      have htop : z_1 = topZ (fun j => needZ j d k) x 6 := by rw [f63_v]; exact topZ_ext _ (fun j h1 h2 => ht j h1 (by omega))
                      have htb := topZ_b (fun j => needZ j d k) x (m := 6) (by omega)
                      rw [← htop] at htb
                      refine lv_istore (lv' := [(6, .int (zi z_1)), (5, .int (zi k)), (4, .int (zi d)), (3, .int (zi v2)), (2, .int (zi y2)), (0, .ref t0), (1, .int (zi x))]) F_.1 F_.2.1 dX3_bestNote_66 hl (by decide) rfl (fun ls_ hl => ?_)
                      refine lv_iload F_.1 F_.2.1 dX3_bestNote_68 (lv_at hl 0 rfl) ?_
                      refine lv_iload_n F_.1 F_.2.1 dX3_bestNote_70 rfl (lv_at hl 3 rfl) ?_
                      refine z_icmp_ge (tgt := 86) F_ (by omega) dX3_bestNote_71 (by decide) (fun c71 => ?_) (fun c71 => ?_)
                      · refine z_iinc (lv' := [(5, .int (zi (k + 1))), (6, .int (zi z_1)), (4, .int (zi d)), (3, .int (zi v2)), (2, .int (zi y2)), (0, .ref t0), (1, .int (zi x))]) F_ dX3_bestNote_86 hl (k := 1) rfl (by decide) rfl (fun ls_ hl => ?_)
                        refine z_goto (tgt := 22) F_ dX3_bestNote_89 (by decide) ?_
                        exact ih22 y2 v2 (k + 1) t3 bt3 (by first | omega | assumption) (by rw [show 9 * (d - 1) + (k + 1) = (9 * (d - 1) + k) + 1 by omega, bstY_s _ _ _ (by omega), lookK_at _ (by omega), ← hv2, ← htop]; have hE := lookE_at (d := d) (n := k) (by omega); split <;> omega) (by rw [show 9 * (d - 1) + (k + 1) = (9 * (d - 1) + k) + 1 by omega, bstY_s _ _ _ (by omega), lookK_at _ (by omega), ← hv2, ← htop]; split <;> omega) (by first | omega | assumption) (by omega) ls_ H_ lo_ W_ (lv_sub hl [0, 2, 3, 4, 5, 6] rfl)
                      · refine lv_iload F_.1 F_.2.1 dX3_bestNote_74 (lv_at hl 0 rfl) ?_
                        refine lv_istore_n (lv' := [(3, .int (zi z_1)), (6, .int (zi z_1)), (5, .int (zi k)), (4, .int (zi d)), (2, .int (zi y2)), (0, .ref t0), (1, .int (zi x))]) F_.1 F_.2.1 dX3_bestNote_76 rfl hl (by decide) rfl (fun ls_ hl => ?_)
                        refine z_bipush F_ (by decide) dX3_bestNote_77 ?_
                        refine lv_iload F_.1 F_.2.1 dX3_bestNote_79 (lv_at hl 3 rfl) ?_
                        refine z_imul F_ dX3_bestNote_81 ?_
                        refine lv_iload F_.1 F_.2.1 dX3_bestNote_82 (lv_at hl 2 rfl) ?_
                        refine z_iadd F_ dX3_bestNote_84 ?_
                        refine lv_istore_n (lv' := [(2, .int (zi ((10 * d) + k))), (3, .int (zi z_1)), (6, .int (zi z_1)), (5, .int (zi k)), (4, .int (zi d)), (0, .ref t0), (1, .int (zi x))]) F_.1 F_.2.1 dX3_bestNote_85 rfl hl (by decide) rfl (fun ls_ hl => ?_)
                        refine z_iinc (lv' := [(5, .int (zi (k + 1))), (2, .int (zi ((10 * d) + k))), (3, .int (zi z_1)), (6, .int (zi z_1)), (4, .int (zi d)), (0, .ref t0), (1, .int (zi x))]) F_ dX3_bestNote_86 hl (k := 3) rfl (by decide) rfl (fun ls_ hl => ?_)
                        refine z_goto (tgt := 22) F_ dX3_bestNote_89 (by decide) ?_
                        exact ih22 ((10 * d) + k) z_1 (k + 1) t3 bt3 (by first | omega | assumption) (by rw [show 9 * (d - 1) + (k + 1) = (9 * (d - 1) + k) + 1 by omega, bstY_s _ _ _ (by omega), lookK_at _ (by omega), ← hv2, ← htop]; have hE := lookE_at (d := d) (n := k) (by omega); split <;> omega) (by rw [show 9 * (d - 1) + (k + 1) = (9 * (d - 1) + k) + 1 by omega, bstY_s _ _ _ (by omega), lookK_at _ (by omega), ← hv2, ← htop]; split <;> omega) (by first | omega | assumption) (by omega) ls_ H_ lo_ W_ (lv_sub hl [0, 4, 2, 1, 5, 6] rfl)
                    · refine lv_aload_n F_.1 F_.2.1 dX3_bestNote_39 rfl (lv_at hl 5 rfl) ?_
                      refine z_get F_ K_ W_ 0 0 0 rfl rfl rfl (C := RX3) (T := TX3) (N := 1) rfl (by decide) hinX3 (List.mem_of_getElem? (i := 1) rfl) dX3_bestNote_40 ?_
                      refine lv_iload F_.1 F_.2.1 dX3_bestNote_43 (lv_at hl 0 rfl) ?_
                      refine lv_iload F_.1 F_.2.1 dX3_bestNote_45 (lv_at hl 0 rfl) ?_
                      refine lv_iload F_.1 F_.2.1 dX3_bestNote_47 (lv_at hl 2 rfl) ?_
                      refine lv_iload F_.1 F_.2.1 dX3_bestNote_49 (lv_at hl 1 rfl) ?_
                      refine z_callSip F_ K_ W_ [.int (zi kd), .int (zi d), .int (zi k)] (c_X5_need l_ D cy kd d k (by first | omega | assumption) (by first | omega | assumption) (by first | omega | assumption) (by first | omega | assumption) (by first | omega | assumption)) 3 rfl gX3_bestNote_X5_need rfl (by decide +kernel) ⟨⟨Nat.le_of_ble_eq_true rfl, Nat.le_of_ble_eq_true rfl⟩, rfl, rfl, Nat.zero_le _, Nat.zero_le _⟩ hl.1 rfl (Nat.le_of_ble_eq_true rfl) ([] : List Nat) [0] [wQ cy t0 t1 t3] 1 (by decide +kernel) rfl rfl rfl dX3_bestNote_51 (fun z_2 _ H_ lo_ hw_ W_ => ?_)
                      replace hw_ : (z_2 = needZ kd d k) := hw_
                      have f51_v := hw_
                      clear hw_
                      have hb51 := needZ_b kd (d := d) (n := k) (by omega) (by omega)
                      rw [← f51_v] at hb51
                      refine z_iast (sg' := [wQ cy t0 t1 (zu t3 kd z_2)]) F_ K_ W_ 0 1 rfl rfl rfl (by omega) (by decide) dX3_bestNote_54 (fun H_ lo_ W_ => ?_)
                      obtain ⟨te_3, ete_3⟩ : ∃ x_ : Int → Int, x_ = zu t3 kd z_2 := ⟨_, rfl⟩
                      rw [← ete_3] at W_
                      have bte_3 : ∀ j : Int, 0 ≤ te_3 j ∧ te_3 j ≤ 300 := by rw [ete_3]; exact zu_b bt3 (by omega)
                      refine z_iinc (lv' := [(6, .int (zi (kd + 1))), (5, .int (zi k)), (4, .int (zi d)), (3, .int (zi v2)), (2, .int (zi y2)), (0, .ref t0), (1, .int (zi x))]) F_ dX3_bestNote_55 hl (k := 0) rfl (by decide) rfl (fun ls_ hl => ?_)
                      refine z_goto (tgt := 32) F_ dX3_bestNote_58 (by decide) ?_
                      exact ih32 (kd + 1) te_3 bte_3 (by first | omega | assumption) (by intro j h1 h2; rw [ete_3, zu_at]; split; (rename_i q; rw [q]; assumption); exact ht j h1 (by omega)) (by omega) ls_ H_ lo_ W_ (lv_sub hl [0, 1, 2, 3, 4, 5, 6] rfl)
                exact L32 ((6 - 0 : Int).toNat + 1) 0 ta2 bta2 (by first | omega | assumption) (by intro j h1 h2; omega) (by have := Int.self_le_toNat (6 - 0 : Int); omega) ls_ H_ lo_ W_ (lv_sub hl [0, 1, 2, 3, 4, 5, 6] rfl)
          exact L22 ((9 - 0 : Int).toNat + 1) y v 0 ta1 bta1 (by first | omega | assumption) (by rw [Int.add_zero]; exact hy) (by rw [Int.add_zero]; exact hv) (by first | omega | assumption) (by have := Int.self_le_toNat (9 - 0 : Int); omega) ls_ H_ lo_ W_ (lv_sub hl [0, 1, 2, 3, 4, 5] rfl)
  exact L8 ((31 - 1 : Int).toNat + 1) (-1) 7 1 te bte (by first | omega | assumption) (by rfl) (by rfl) (by first | omega | assumption) (by first | omega | assumption) (by have := Int.self_le_toNat (31 - 1 : Int); omega) ls_ H_ lo_ W_ (lv_sub hl [0, 1, 2, 3, 4] rfl)
abbrev rX3_bestMark : Room := { frames := 2, cells := 0, slots := 0, locals := 38 }
set_option maxHeartbeats 1000000 in
set_option maxRecDepth 100000 in
theorem c_X3_bestMark (l_ : Launch) (D : va_G) (cy : Nat → ClassId) (t0 : Nat) (t1 : Nat) (te : Int → Int) (t : Int) (x : Int) (bte : ∀ j : Int, 0 ≤ te j ∧ te j ≤ 300) (rt : -2147483648 ≤ t ∧ t < 2147483648) (rx : -2147483648 ≤ x ∧ x < 2147483648) (hx : 0 ≤ x ∧ x < 64) (ht0 : 0 ≤ t ∧ t ≤ 9) : CTi l_ D cy yX3_bestMark wsX3_bestMark rX3_bestMark [.ref t0, .int (zi t), .int (zi x)] ([wQ cy t0 t1 te]) (fun (z : Int) (u : (Int → Int)) => (z = if x = 0 then -1 else (bstY (askK t x) (fun j => j) 7 (10)).1) ∧ (∀ j : Int, 0 ≤ u j ∧ u j ≤ 300)) (fun (u : (Int → Int)) => [wQ cy t0 t1 u]) := by
  refine CTi.of RX3 cX3_bestMark 7 rfl (by decide) rfl (fun z u hz => rfl) (Nat.le_of_ble_eq_true rfl) ?_
  intro p_ e_ s_ m_ ar_ be_ me_ c_ Q_ A_ ls_ F_ K_ W_ hl hret
  have hl : lv_has ls_ 7 [(0, .ref t0), (1, .int (zi t)), (2, .int (zi x))] := hl
  obtain ⟨H_, hH_⟩ : ∃ x, x = s_.heap := ⟨_, rfl⟩
  obtain ⟨lo_, hlo_⟩ : ∃ x : List Loc, x = [] := ⟨_, rfl⟩
  have W_ : WD D A_ s_.heap ([wQ cy t0 t1 te]) H_ lo_ := by rw [hH_, hlo_]; exact W_
  rw [← hlo_]
  suffices hg_ : W p_ l_ e_ rX3_bestMark s_ m_ ar_ be_ me_ c_ H_ lo_ 0 0 Q_ (F0 m_ 0 ls_ []) by rw [hH_] at hg_; exact hg_
  clear hH_ hlo_
  have hinX3 : ∀ w ∈ u_ws RX3 TX3 1, w ∈ wsX3_bestMark := fun w h => List.mem_cons_of_mem _ (List.mem_append_right _ h)
  refine z_iconst F_ dX3_bestMark_0 ?_
  refine lv_istore_n (lv' := [(3, .int (zi (-1))), (0, .ref t0), (1, .int (zi t)), (2, .int (zi x))]) F_.1 F_.2.1 dX3_bestMark_1 rfl hl (by decide) rfl (fun ls_ hl => ?_)
  refine z_bipush F_ (by decide) dX3_bestMark_2 ?_
  refine lv_istore (lv' := [(4, .int (zi 7)), (3, .int (zi (-1))), (0, .ref t0), (1, .int (zi t)), (2, .int (zi x))]) F_.1 F_.2.1 dX3_bestMark_4 hl (by decide) rfl (fun ls_ hl => ?_)
  refine z_iconst F_ dX3_bestMark_6 ?_
  refine lv_istore (lv' := [(5, .int (zi 0)), (4, .int (zi 7)), (3, .int (zi (-1))), (0, .ref t0), (1, .int (zi t)), (2, .int (zi x))]) F_.1 F_.2.1 dX3_bestMark_7 hl (by decide) rfl (fun ls_ hl => ?_)
  have L9 : ∀ (n_ : Nat) (y : Int) (v : Int) (d : Int) (ta1 : Int → Int) (bta1 : ∀ j : Int, 0 ≤ ta1 j ∧ ta1 j ≤ 300) (hd : 0 ≤ d ∧ d ≤ 10) (hy : y = (bstY (askK t x) (fun j => j) 7 (d)).1) (hv : v = (bstY (askK t x) (fun j => j) 7 (d)).2) (hb : -1 ≤ y ∧ y ≤ 400 ∧ 0 ≤ v ∧ v ≤ 7) (hd0 : d = 0 ∨ ¬ x = 0) (hm_ : (10 - d : Int) < (n_ : Int)) (ls_ : Array Slot) (H_ : Heap) (lo_ : List Loc), WD D A_ s_.heap ([wQ cy t0 t1 ta1]) H_ lo_ → lv_has ls_ 7 [(5, .int (zi d)), (4, .int (zi v)), (3, .int (zi y)), (0, .ref t0), (1, .int (zi t)), (2, .int (zi x))] → W p_ l_ e_ rX3_bestMark s_ m_ ar_ be_ me_ c_ H_ lo_ 0 0 Q_ (F0 m_ 9 ls_ []) := by
    intro n_
    induction n_ with
    | zero =>
      intro y v d ta1 bta1 hd hy hv hb hd0 hm_ ls_ H_ lo_ _ _
      exact absurd hm_ (by omega)
    | succ n_ ih_ =>
      intro y v d ta1 bta1 hd hy hv hb hd0 hm_ ls_ H_ lo_ W_ hl
      have ih9 := ih_
      refine lv_iload_n F_.1 F_.2.1 dX3_bestMark_9 rfl (lv_at hl 5 rfl) ?_
      refine z_if_eq (tgt := 78) F_ (by omega) dX3_bestMark_10 (by decide) (fun c10 => ?_) (fun c10 => ?_)
      · refine lv_iload_n F_.1 F_.2.1 dX3_bestMark_78 rfl (lv_at hl 2 rfl) ?_
        exact hret _ _ _ _ y ta1 dX3_bestMark_79 ⟨(by first | (rw [if_neg (by omega), hy, show d = 10 by omega]; done) | (rw [if_pos (by omega), hy, show d = 0 by omega]; rfl)), bta1⟩ W_
      · refine lv_iload F_.1 F_.2.1 dX3_bestMark_13 (lv_at hl 0 rfl) ?_
        refine z_bipush F_ (by decide) dX3_bestMark_15 ?_
        refine z_icmp_gt (tgt := 78) F_ (by omega) dX3_bestMark_17 (by decide) (fun c17 => ?_) (fun c17 => ?_)
        · refine lv_iload_n F_.1 F_.2.1 dX3_bestMark_78 rfl (lv_at hl 2 rfl) ?_
          exact hret _ _ _ _ y ta1 dX3_bestMark_79 ⟨(by first | (rw [if_neg (by omega), hy, show d = 10 by omega]; done) | (rw [if_pos (by omega), hy, show d = 0 by omega]; rfl)), bta1⟩ W_
        · refine z_iconst F_ dX3_bestMark_20 ?_
          refine lv_istore (lv' := [(6, .int (zi 0)), (5, .int (zi d)), (4, .int (zi v)), (3, .int (zi y)), (0, .ref t0), (1, .int (zi t)), (2, .int (zi x))]) F_.1 F_.2.1 dX3_bestMark_21 hl (by decide) rfl (fun ls_ hl => ?_)
          have L23 : ∀ (n_ : Nat) (kd : Int) (t3 : Int → Int) (bt3 : ∀ j : Int, 0 ≤ t3 j ∧ t3 j ≤ 300) (hkd : 0 ≤ kd ∧ kd ≤ 6) (ht : ∀ j, 0 ≤ j → j < kd → t3 j = likedZ j t d) (hm_ : (6 - kd : Int) < (n_ : Int)) (ls_ : Array Slot) (H_ : Heap) (lo_ : List Loc), WD D A_ s_.heap ([wQ cy t0 t1 t3]) H_ lo_ → lv_has ls_ 7 [(6, .int (zi kd)), (5, .int (zi d)), (4, .int (zi v)), (3, .int (zi y)), (0, .ref t0), (1, .int (zi t)), (2, .int (zi x))] → W p_ l_ e_ rX3_bestMark s_ m_ ar_ be_ me_ c_ H_ lo_ 0 0 Q_ (F0 m_ 23 ls_ []) := by
            intro n_
            induction n_ with
            | zero =>
              intro kd t3 bt3 hkd ht hm_ ls_ H_ lo_ _ _
              exact absurd hm_ (by omega)
            | succ n_ ih_ =>
              intro kd t3 bt3 hkd ht hm_ ls_ H_ lo_ W_ hl
              have ih23 := ih_
              refine lv_iload F_.1 F_.2.1 dX3_bestMark_23 (lv_at hl 0 rfl) ?_
              refine z_bipush F_ (by decide) dX3_bestMark_25 ?_
              refine z_icmp_ge (tgt := 51) F_ (by omega) dX3_bestMark_27 (by decide) (fun c27 => ?_) (fun c27 => ?_)
              · refine lv_aload_n F_.1 F_.2.1 dX3_bestMark_51 rfl (lv_at hl 4 rfl) ?_
                refine lv_iload_n F_.1 F_.2.1 dX3_bestMark_52 rfl (lv_at hl 6 rfl) ?_
                refine z_callVip F_ K_ W_ [.int (zi x)] (c_X3_mostAlike l_ D cy t0 t1 t3 x bt3 (by first | omega | assumption) (by first | omega | assumption)) 1 rfl gX3_bestMark_X3_mostAlike rfl (by decide +kernel) ⟨⟨Nat.le_of_ble_eq_true rfl, Nat.le_of_ble_eq_true rfl⟩, rfl, rfl, Nat.zero_le _, Nat.zero_le _⟩ 0 0 3 rfl rfl rfl rfl hl.1 rfl (Nat.le_of_ble_eq_true rfl) [0] ([] : List Nat) ([] : List va_W) 1 (by decide +kernel) rfl rfl rfl dX3_bestMark_53 (fun z_1 _ H_ lo_ hw_ W_ => ?_)
                replace hw_ : (z_1 = topZ t3 x 6) := hw_
                have f53_v := hw_
                clear hw_
                have htop : z_1 = topZ (fun j => likedZ j t d) x 6 := by rw [f53_v]; exact topZ_ext _ (fun j h1 h2 => ht j h1 (by omega))
                have htb := topZ_b (fun j => likedZ j t d) x (m := 6) (by omega)
                rw [← htop] at htb
                refine lv_istore (lv' := [(6, .int (zi z_1)), (5, .int (zi d)), (4, .int (zi v)), (3, .int (zi y)), (0, .ref t0), (1, .int (zi t)), (2, .int (zi x))]) F_.1 F_.2.1 dX3_bestMark_56 hl (by decide) rfl (fun ls_ hl => ?_)
                refine lv_iload F_.1 F_.2.1 dX3_bestMark_58 (lv_at hl 0 rfl) ?_
                refine lv_iload F_.1 F_.2.1 dX3_bestMark_60 (lv_at hl 2 rfl) ?_
                refine z_icmp_ge (tgt := 72) F_ (by omega) dX3_bestMark_62 (by decide) (fun c62 => ?_) (fun c62 => ?_)
                · refine z_iinc (lv' := [(5, .int (zi (d + 1))), (6, .int (zi z_1)), (4, .int (zi v)), (3, .int (zi y)), (0, .ref t0), (1, .int (zi t)), (2, .int (zi x))]) F_ dX3_bestMark_72 hl (k := 1) rfl (by decide) rfl (fun ls_ hl => ?_)
                  refine z_goto (tgt := 9) F_ dX3_bestMark_75 (by decide) ?_
                  exact ih9 y v (d + 1) t3 bt3 (by first | omega | assumption) (by rw [bstY_s _ _ _ (by omega), askK, ← hv, ← htop]; split <;> omega) (by rw [bstY_s _ _ _ (by omega), askK, ← hv, ← htop]; split <;> omega) (by first | omega | assumption) (by first | omega | assumption) (by omega) ls_ H_ lo_ W_ (lv_sub hl [0, 2, 3, 4, 5, 6] rfl)
                · refine lv_iload F_.1 F_.2.1 dX3_bestMark_65 (lv_at hl 0 rfl) ?_
                  refine lv_istore (lv' := [(4, .int (zi z_1)), (6, .int (zi z_1)), (5, .int (zi d)), (3, .int (zi y)), (0, .ref t0), (1, .int (zi t)), (2, .int (zi x))]) F_.1 F_.2.1 dX3_bestMark_67 hl (by decide) rfl (fun ls_ hl => ?_)
                  refine lv_iload F_.1 F_.2.1 dX3_bestMark_69 (lv_at hl 2 rfl) ?_
                  refine lv_istore_n (lv' := [(3, .int (zi d)), (4, .int (zi z_1)), (6, .int (zi z_1)), (5, .int (zi d)), (0, .ref t0), (1, .int (zi t)), (2, .int (zi x))]) F_.1 F_.2.1 dX3_bestMark_71 rfl hl (by decide) rfl (fun ls_ hl => ?_)
                  refine z_iinc (lv' := [(5, .int (zi (d + 1))), (3, .int (zi d)), (4, .int (zi z_1)), (6, .int (zi z_1)), (0, .ref t0), (1, .int (zi t)), (2, .int (zi x))]) F_ dX3_bestMark_72 hl (k := 3) rfl (by decide) rfl (fun ls_ hl => ?_)
                  refine z_goto (tgt := 9) F_ dX3_bestMark_75 (by decide) ?_
                  exact ih9 d z_1 (d + 1) t3 bt3 (by first | omega | assumption) (by rw [bstY_s _ _ _ (by omega), askK, ← hv, ← htop]; split <;> omega) (by rw [bstY_s _ _ _ (by omega), askK, ← hv, ← htop]; split <;> omega) (by first | omega | assumption) (by first | omega | assumption) (by omega) ls_ H_ lo_ W_ (lv_sub hl [0, 2, 1, 4, 5, 6] rfl)
              · refine lv_aload_n F_.1 F_.2.1 dX3_bestMark_30 rfl (lv_at hl 4 rfl) ?_
                refine z_get F_ K_ W_ 0 0 0 rfl rfl rfl (C := RX3) (T := TX3) (N := 1) rfl (by decide) hinX3 (List.mem_of_getElem? (i := 1) rfl) dX3_bestMark_31 ?_
                refine lv_iload F_.1 F_.2.1 dX3_bestMark_34 (lv_at hl 0 rfl) ?_
                refine lv_iload F_.1 F_.2.1 dX3_bestMark_36 (lv_at hl 0 rfl) ?_
                refine lv_iload_n F_.1 F_.2.1 dX3_bestMark_38 rfl (lv_at hl 5 rfl) ?_
                refine lv_iload F_.1 F_.2.1 dX3_bestMark_39 (lv_at hl 1 rfl) ?_
                refine z_callSip F_ K_ W_ [.int (zi kd), .int (zi t), .int (zi d)] (c_X5_liked l_ D cy kd t d (by first | omega | assumption) (by first | omega | assumption) (by first | omega | assumption) (by first | omega | assumption) (by first | omega | assumption)) 3 rfl gX3_bestMark_X5_liked rfl (by decide +kernel) ⟨⟨Nat.le_of_ble_eq_true rfl, Nat.le_of_ble_eq_true rfl⟩, rfl, rfl, Nat.zero_le _, Nat.zero_le _⟩ hl.1 rfl (Nat.le_of_ble_eq_true rfl) ([] : List Nat) [0] [wQ cy t0 t1 t3] 1 (by decide +kernel) rfl rfl rfl dX3_bestMark_41 (fun z_2 _ H_ lo_ hw_ W_ => ?_)
                replace hw_ : (z_2 = likedZ kd t d) := hw_
                have f41_v := hw_
                clear hw_
                have hb41 := likedZ_b kd (s := t) (c := d) (by omega) (by omega)
                rw [← f41_v] at hb41
                refine z_iast (sg' := [wQ cy t0 t1 (zu t3 kd z_2)]) F_ K_ W_ 0 1 rfl rfl rfl (by omega) (by decide) dX3_bestMark_44 (fun H_ lo_ W_ => ?_)
                obtain ⟨te_3, ete_3⟩ : ∃ x_ : Int → Int, x_ = zu t3 kd z_2 := ⟨_, rfl⟩
                rw [← ete_3] at W_
                have bte_3 : ∀ j : Int, 0 ≤ te_3 j ∧ te_3 j ≤ 300 := by rw [ete_3]; exact zu_b bt3 (by omega)
                refine z_iinc (lv' := [(6, .int (zi (kd + 1))), (5, .int (zi d)), (4, .int (zi v)), (3, .int (zi y)), (0, .ref t0), (1, .int (zi t)), (2, .int (zi x))]) F_ dX3_bestMark_45 hl (k := 0) rfl (by decide) rfl (fun ls_ hl => ?_)
                refine z_goto (tgt := 23) F_ dX3_bestMark_48 (by decide) ?_
                exact ih23 (kd + 1) te_3 bte_3 (by first | omega | assumption) (by intro j h1 h2; rw [ete_3, zu_at]; split; (rename_i q; rw [q]; assumption); exact ht j h1 (by omega)) (by omega) ls_ H_ lo_ W_ (lv_sub hl [0, 1, 2, 3, 4, 5, 6] rfl)
          exact L23 ((6 - 0 : Int).toNat + 1) 0 ta1 bta1 (by first | omega | assumption) (by intro j h1 h2; omega) (by have := Int.self_le_toNat (6 - 0 : Int); omega) ls_ H_ lo_ W_ (lv_sub hl [0, 1, 2, 3, 4, 5, 6] rfl)
  exact L9 ((10 - 0 : Int).toNat + 1) (-1) 7 0 te bte (by first | omega | assumption) (by rfl) (by rfl) (by first | omega | assumption) (by first | omega | assumption) (by have := Int.self_le_toNat (10 - 0 : Int); omega) ls_ H_ lo_ W_ (lv_sub hl [0, 1, 2, 3, 4, 5] rfl)
