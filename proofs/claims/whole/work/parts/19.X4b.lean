abbrev rX4_leastLiked : Room := { frames := 1, cells := 0, slots := 0, locals := 25 }
set_option maxHeartbeats 1000000 in
set_option maxRecDepth 100000 in
theorem c_X4_leastLiked (l_ : Launch) (D : va_G) (cy : Nat → ClassId) (q : Nat → Nat) (S : Int) (M : Int) (sk : Int → Int) (sc : Int → Int) (mk : Int → Int) (ms : Int → Int) (mp : Int → Int) (h : Int) (bS : 0 ≤ S ∧ S ≤ 3) (bM : 0 ≤ M ∧ M ≤ 8) (bsk : ∀ j : Int, 0 ≤ sk j ∧ sk j ≤ 5) (bsc : ∀ j : Int, 0 ≤ sc j ∧ sc j ≤ 99) (bmk : ∀ j : Int, 0 ≤ mk j ∧ mk j ≤ 5) (bms : ∀ j : Int, 0 ≤ ms j ∧ ms j ≤ 9) (bmp : ∀ j : Int, (-1) ≤ mp j ∧ mp j ≤ 2) (rh : -2147483648 ≤ h ∧ h < 2147483648) : CTi l_ D cy yX4_leastLiked wsX4_leastLiked rX4_leastLiked [.ref (q 0), .int (zi h)] ([wI cy q S M sk sc mk ms mp]) (fun (z : Int) (u : Unit) => (z = lstI S M sc mk ms mp h)) (fun (_ : Unit) => [wI cy q S M sk sc mk ms mp]) := by
  refine CTi.of RX4 cX4_leastLiked 6 rfl (by decide) rfl (fun z u hz => rfl) (Nat.le_of_ble_eq_true rfl) ?_
  intro p_ e_ s_ m_ ar_ be_ me_ c_ Q_ A_ ls_ F_ K_ W_ hl hret
  have hl : lv_has ls_ 6 [(0, .ref (q 0)), (1, .int (zi h))] := hl
  obtain ⟨H_, hH_⟩ : ∃ x, x = s_.heap := ⟨_, rfl⟩
  obtain ⟨lo_, hlo_⟩ : ∃ x : List Loc, x = [] := ⟨_, rfl⟩
  have W_ : WD D A_ s_.heap ([wI cy q S M sk sc mk ms mp]) H_ lo_ := by rw [hH_, hlo_]; exact W_
  rw [← hlo_]
  suffices hg_ : W p_ l_ e_ rX4_leastLiked s_ m_ ar_ be_ me_ c_ H_ lo_ 0 0 Q_ (F0 m_ 0 ls_ []) by rw [hH_] at hg_; exact hg_
  clear hH_ hlo_
  have hinX4 : ∀ w ∈ u_ws RX4 TX4 11, w ∈ wsX4_leastLiked := fun w h => List.mem_cons_of_mem _ (List.mem_append_right _ h)
  refine lv_aload_n F_.1 F_.2.1 dX4_leastLiked_0 rfl (lv_at hl 0 rfl) ?_
  refine lv_iload_n F_.1 F_.2.1 dX4_leastLiked_1 rfl (lv_at hl 1 rfl) ?_
  refine z_callVip F_ K_ W_ [.int (zi h)] (c_X4_hasShip l_ D cy q S M sk sc mk ms mp h (by omega) (by omega) bsk bsc bmk bms bmp (by first | omega | assumption)) 1 rfl gX4_leastLiked_X4_hasShip rfl (by decide +kernel) ⟨⟨Nat.le_of_ble_eq_true rfl, Nat.le_of_ble_eq_true rfl⟩, rfl, rfl, Nat.zero_le _, Nat.zero_le _⟩ 0 0 4 rfl rfl rfl rfl hl.1 rfl (Nat.le_of_ble_eq_true rfl) [0] ([] : List Nat) ([] : List va_W) 1 (by decide +kernel) rfl rfl rfl dX4_leastLiked_2 (fun z_1 _ H_ lo_ hw_ W_ => ?_)
  have hw_ : ((z_1 = 1 ∧ (0 ≤ h ∧ h < S)) ∨ (z_1 = 0 ∧ ¬ (0 ≤ h ∧ h < S))) := hw_
  have f2_v := hw_
  refine z_if_ne (tgt := 10) F_ (by omega) dX4_leastLiked_5 (by decide) (fun c5 => ?_) (fun c5 => ?_)
  · refine z_iconst F_ dX4_leastLiked_10 ?_
    refine lv_istore_n (lv' := [(2, .int (zi (-1))), (0, .ref (q 0)), (1, .int (zi h))]) F_.1 F_.2.1 dX4_leastLiked_11 rfl hl (by decide) rfl (fun ls_ hl => ?_)
    refine z_iconst F_ dX4_leastLiked_12 ?_
    refine lv_istore_n (lv' := [(3, .int (zi 0)), (2, .int (zi (-1))), (0, .ref (q 0)), (1, .int (zi h))]) F_.1 F_.2.1 dX4_leastLiked_13 rfl hl (by decide) rfl (fun ls_ hl => ?_)
    refine z_iconst F_ dX4_leastLiked_14 ?_
    refine lv_istore (lv' := [(4, .int (zi 0)), (3, .int (zi 0)), (2, .int (zi (-1))), (0, .ref (q 0)), (1, .int (zi h))]) F_.1 F_.2.1 dX4_leastLiked_15 hl (by decide) rfl (fun ls_ hl => ?_)
    have L17 : ∀ (n_ : Nat) (x : Int) (y : Int) (k : Int) (hk : 0 ≤ k ∧ k ≤ M) (hx : x = lstZ mp (lkZ mk ms (sc h)) h k) (hy : (x = -1 ∧ y = 0) ∨ (¬ x = -1 ∧ y = lkZ mk ms (sc h) x ∧ 0 ≤ y ∧ y ≤ 28)) (hm_ : (M - k : Int) < (n_ : Int)) (ls_ : Array Slot) (H_ : Heap) (lo_ : List Loc), WD D A_ s_.heap ([wI cy q S M sk sc mk ms mp]) H_ lo_ → lv_has ls_ 6 [(4, .int (zi k)), (3, .int (zi y)), (2, .int (zi x)), (0, .ref (q 0)), (1, .int (zi h))] → W p_ l_ e_ rX4_leastLiked s_ m_ ar_ be_ me_ c_ H_ lo_ 0 0 Q_ (F0 m_ 17 ls_ []) := by
      intro n_
      induction n_ with
      | zero =>
        intro x y k hk hx hy hm_ ls_ H_ lo_ _ _
        exact absurd hm_ (by omega)
      | succ n_ ih_ =>
        intro x y k hk hx hy hm_ ls_ H_ lo_ W_ hl
        have ih17 := ih_
        refine lv_iload F_.1 F_.2.1 dX4_leastLiked_17 (lv_at hl 0 rfl) ?_
        refine lv_aload_n F_.1 F_.2.1 dX4_leastLiked_19 rfl (lv_at hl 3 rfl) ?_
        refine z_get F_ K_ W_ 0 0 1 rfl rfl rfl (C := RX4) (T := TX4) (N := 11) rfl (by decide) hinX4 (List.mem_of_getElem? (i := 1) rfl) dX4_leastLiked_20 ?_
        refine z_icmp_ge (tgt := 85) F_ (by omega) dX4_leastLiked_23 (by decide) (fun c23 => ?_) (fun c23 => ?_)
        · refine lv_iload_n F_.1 F_.2.1 dX4_leastLiked_85 rfl (lv_at hl 2 rfl) ?_
          exact hret _ _ _ _ x () dX4_leastLiked_86 (by rw [hx, lstI, if_pos (by omega)]; congr 1; omega) W_
        · have hlb := lstZ_b mp (lkZ mk ms (sc h)) h hk.1
          rw [← hx] at hlb
          refine lv_aload_n F_.1 F_.2.1 dX4_leastLiked_26 rfl (lv_at hl 3 rfl) ?_
          refine z_get F_ K_ W_ 0 0 6 rfl rfl rfl (C := RX4) (T := TX4) (N := 11) rfl (by decide) hinX4 (List.mem_of_getElem? (i := 2) rfl) dX4_leastLiked_27 ?_
          refine lv_iload F_.1 F_.2.1 dX4_leastLiked_30 (lv_at hl 0 rfl) ?_
          refine z_iald F_ K_ W_ 0 5 rfl rfl (by omega) (by decide) dX4_leastLiked_32 ?_
          have b_2 := bmp k
          refine lv_iload_n F_.1 F_.2.1 dX4_leastLiked_33 rfl (lv_at hl 4 rfl) ?_
          refine z_icmp_ne (tgt := 79) F_ (by omega) dX4_leastLiked_34 (by decide) (fun c34 => ?_) (fun c34 => ?_)
          · refine z_iinc (lv' := [(4, .int (zi (k + 1))), (3, .int (zi y)), (2, .int (zi x)), (0, .ref (q 0)), (1, .int (zi h))]) F_ dX4_leastLiked_79 hl (k := 0) rfl (by decide) rfl (fun ls_ hl => ?_)
            refine z_goto (tgt := 17) F_ dX4_leastLiked_82 (by decide) ?_
            exact ih17 x y (k + 1) (by first | omega | assumption) (by rw [lstZ_s _ _ _ hk.1, ← hx]; first | (rw [if_neg (fun q => c34 q.1)]; done) | (rw [if_pos ⟨c34, Or.inl c64⟩]; done) | (have q1 : y = lkZ mk ms (sc h) x := (hy.elim (fun w => absurd w.1 c64) (fun w => w.2.1)); have q2 : lkZ mk ms (sc h) k = z_6 := f57_v.symm; rw [q2, ← q1]; first | (rw [if_pos ⟨c34, Or.inr c70⟩]; done) | (rw [if_neg (fun q => q.2.elim (fun w => c64 w) (fun w => absurd w (by omega)))]; done))) (by first | assumption | exact Or.inr ⟨by omega, f57_v, by omega, by omega⟩) (by omega) ls_ H_ lo_ W_ (lv_sub hl [0, 1, 2, 3, 4] rfl)
          · refine lv_aload_n F_.1 F_.2.1 dX4_leastLiked_37 rfl (lv_at hl 3 rfl) ?_
            refine z_get F_ K_ W_ 0 0 4 rfl rfl rfl (C := RX4) (T := TX4) (N := 11) rfl (by decide) hinX4 (List.mem_of_getElem? (i := 3) rfl) dX4_leastLiked_38 ?_
            refine lv_iload F_.1 F_.2.1 dX4_leastLiked_41 (lv_at hl 0 rfl) ?_
            refine z_iald F_ K_ W_ 0 3 rfl rfl (by omega) (by decide) dX4_leastLiked_43 ?_
            have b_3 := bmk k
            refine lv_aload_n F_.1 F_.2.1 dX4_leastLiked_44 rfl (lv_at hl 3 rfl) ?_
            refine z_get F_ K_ W_ 0 0 5 rfl rfl rfl (C := RX4) (T := TX4) (N := 11) rfl (by decide) hinX4 (List.mem_of_getElem? (i := 4) rfl) dX4_leastLiked_45 ?_
            refine lv_iload F_.1 F_.2.1 dX4_leastLiked_48 (lv_at hl 0 rfl) ?_
            refine z_iald F_ K_ W_ 0 4 rfl rfl (by omega) (by decide) dX4_leastLiked_50 ?_
            have b_4 := bms k
            refine lv_aload_n F_.1 F_.2.1 dX4_leastLiked_51 rfl (lv_at hl 3 rfl) ?_
            refine z_get F_ K_ W_ 0 0 3 rfl rfl rfl (C := RX4) (T := TX4) (N := 11) rfl (by decide) hinX4 (List.mem_of_getElem? (i := 5) rfl) dX4_leastLiked_52 ?_
            refine lv_iload_n F_.1 F_.2.1 dX4_leastLiked_55 rfl (lv_at hl 4 rfl) ?_
            refine z_iald F_ K_ W_ 0 2 rfl rfl (by omega) (by decide) dX4_leastLiked_56 ?_
            have b_5 := bsc h
            refine z_callSip F_ K_ W_ [.int (zi (mk k)), .int (zi (ms k)), .int (zi (sc h))] (c_X5_liked l_ D cy (mk k) (ms k) (sc h) (by first | omega | assumption) (by first | omega | assumption) (by first | omega | assumption) (by first | omega | assumption) (by first | omega | assumption)) 3 rfl gX4_leastLiked_X5_liked rfl (by decide +kernel) ⟨⟨Nat.le_of_ble_eq_true rfl, Nat.le_of_ble_eq_true rfl⟩, rfl, rfl, Nat.zero_le _, Nat.zero_le _⟩ hl.1 rfl (Nat.le_of_ble_eq_true rfl) ([] : List Nat) [0] [wI cy q S M sk sc mk ms mp] 1 (by decide +kernel) rfl rfl rfl dX4_leastLiked_57 (fun z_6 _ H_ lo_ hw_ W_ => ?_)
            have hw_ : (z_6 = likedZ (mk k) (ms k) (sc h)) := hw_
            have f57_v := hw_
            have hb57 := likedZ_b (mk k) (bms k) (bsc h)
            rw [← f57_v] at hb57
            refine lv_istore (lv' := [(5, .int (zi z_6)), (4, .int (zi k)), (3, .int (zi y)), (2, .int (zi x)), (0, .ref (q 0)), (1, .int (zi h))]) F_.1 F_.2.1 dX4_leastLiked_60 hl (by decide) rfl (fun ls_ hl => ?_)
            refine lv_iload_n F_.1 F_.2.1 dX4_leastLiked_62 rfl (lv_at hl 3 rfl) ?_
            refine z_iconst F_ dX4_leastLiked_63 ?_
            refine z_icmp_eq (tgt := 73) F_ (by omega) dX4_leastLiked_64 (by decide) (fun c64 => ?_) (fun c64 => ?_)
            · refine lv_iload F_.1 F_.2.1 dX4_leastLiked_73 (lv_at hl 1 rfl) ?_
              refine lv_istore_n (lv' := [(2, .int (zi k)), (5, .int (zi z_6)), (4, .int (zi k)), (3, .int (zi y)), (0, .ref (q 0)), (1, .int (zi h))]) F_.1 F_.2.1 dX4_leastLiked_75 rfl hl (by decide) rfl (fun ls_ hl => ?_)
              refine lv_iload F_.1 F_.2.1 dX4_leastLiked_76 (lv_at hl 1 rfl) ?_
              refine lv_istore_n (lv' := [(3, .int (zi z_6)), (2, .int (zi k)), (5, .int (zi z_6)), (4, .int (zi k)), (0, .ref (q 0)), (1, .int (zi h))]) F_.1 F_.2.1 dX4_leastLiked_78 rfl hl (by decide) rfl (fun ls_ hl => ?_)
              refine z_iinc (lv' := [(4, .int (zi (k + 1))), (3, .int (zi z_6)), (2, .int (zi k)), (5, .int (zi z_6)), (0, .ref (q 0)), (1, .int (zi h))]) F_ dX4_leastLiked_79 hl (k := 3) rfl (by decide) rfl (fun ls_ hl => ?_)
              refine z_goto (tgt := 17) F_ dX4_leastLiked_82 (by decide) ?_
              exact ih17 k z_6 (k + 1) (by first | omega | assumption) (by rw [lstZ_s _ _ _ hk.1, ← hx]; first | (rw [if_neg (fun q => c34 q.1)]; done) | (rw [if_pos ⟨c34, Or.inl c64⟩]; done) | (have q1 : y = lkZ mk ms (sc h) x := (hy.elim (fun w => absurd w.1 c64) (fun w => w.2.1)); have q2 : lkZ mk ms (sc h) k = z_6 := f57_v.symm; rw [q2, ← q1]; first | (rw [if_pos ⟨c34, Or.inr c70⟩]; done) | (rw [if_neg (fun q => q.2.elim (fun w => c64 w) (fun w => absurd w (by omega)))]; done))) (by first | assumption | exact Or.inr ⟨by omega, f57_v, by omega, by omega⟩) (by omega) ls_ H_ lo_ W_ (lv_sub hl [0, 1, 2, 4, 5] rfl)
            · refine lv_iload F_.1 F_.2.1 dX4_leastLiked_67 (lv_at hl 0 rfl) ?_
              refine lv_iload_n F_.1 F_.2.1 dX4_leastLiked_69 rfl (lv_at hl 2 rfl) ?_
              refine z_icmp_ge (tgt := 79) F_ (by omega) dX4_leastLiked_70 (by decide) (fun c70 => ?_) (fun c70 => ?_)
              · refine z_iinc (lv' := [(4, .int (zi (k + 1))), (5, .int (zi z_6)), (3, .int (zi y)), (2, .int (zi x)), (0, .ref (q 0)), (1, .int (zi h))]) F_ dX4_leastLiked_79 hl (k := 1) rfl (by decide) rfl (fun ls_ hl => ?_)
                refine z_goto (tgt := 17) F_ dX4_leastLiked_82 (by decide) ?_
                exact ih17 x y (k + 1) (by first | omega | assumption) (by rw [lstZ_s _ _ _ hk.1, ← hx]; first | (rw [if_neg (fun q => c34 q.1)]; done) | (rw [if_pos ⟨c34, Or.inl c64⟩]; done) | (have q1 : y = lkZ mk ms (sc h) x := (hy.elim (fun w => absurd w.1 c64) (fun w => w.2.1)); have q2 : lkZ mk ms (sc h) k = z_6 := f57_v.symm; rw [q2, ← q1]; first | (rw [if_pos ⟨c34, Or.inr c70⟩]; done) | (rw [if_neg (fun q => q.2.elim (fun w => c64 w) (fun w => absurd w (by omega)))]; done))) (by first | assumption | exact Or.inr ⟨by omega, f57_v, by omega, by omega⟩) (by omega) ls_ H_ lo_ W_ (lv_sub hl [0, 2, 3, 4, 5] rfl)
              · refine lv_iload F_.1 F_.2.1 dX4_leastLiked_73 (lv_at hl 1 rfl) ?_
                refine lv_istore_n (lv' := [(2, .int (zi k)), (5, .int (zi z_6)), (4, .int (zi k)), (3, .int (zi y)), (0, .ref (q 0)), (1, .int (zi h))]) F_.1 F_.2.1 dX4_leastLiked_75 rfl hl (by decide) rfl (fun ls_ hl => ?_)
                refine lv_iload F_.1 F_.2.1 dX4_leastLiked_76 (lv_at hl 1 rfl) ?_
                refine lv_istore_n (lv' := [(3, .int (zi z_6)), (2, .int (zi k)), (5, .int (zi z_6)), (4, .int (zi k)), (0, .ref (q 0)), (1, .int (zi h))]) F_.1 F_.2.1 dX4_leastLiked_78 rfl hl (by decide) rfl (fun ls_ hl => ?_)
                refine z_iinc (lv' := [(4, .int (zi (k + 1))), (3, .int (zi z_6)), (2, .int (zi k)), (5, .int (zi z_6)), (0, .ref (q 0)), (1, .int (zi h))]) F_ dX4_leastLiked_79 hl (k := 3) rfl (by decide) rfl (fun ls_ hl => ?_)
                refine z_goto (tgt := 17) F_ dX4_leastLiked_82 (by decide) ?_
                exact ih17 k z_6 (k + 1) (by first | omega | assumption) (by rw [lstZ_s _ _ _ hk.1, ← hx]; first | (rw [if_neg (fun q => c34 q.1)]; done) | (rw [if_pos ⟨c34, Or.inl c64⟩]; done) | (have q1 : y = lkZ mk ms (sc h) x := (hy.elim (fun w => absurd w.1 c64) (fun w => w.2.1)); have q2 : lkZ mk ms (sc h) k = z_6 := f57_v.symm; rw [q2, ← q1]; first | (rw [if_pos ⟨c34, Or.inr c70⟩]; done) | (rw [if_neg (fun q => q.2.elim (fun w => c64 w) (fun w => absurd w (by omega)))]; done))) (by first | assumption | exact Or.inr ⟨by omega, f57_v, by omega, by omega⟩) (by omega) ls_ H_ lo_ W_ (lv_sub hl [0, 1, 2, 4, 5] rfl)
    exact L17 ((M - 0 : Int).toNat + 1) (-1) 0 0 (by first | omega | assumption) (by rfl) (by omega) (by have := Int.self_le_toNat (M - 0 : Int); omega) ls_ H_ lo_ W_ (lv_sub hl [0, 1, 2, 3, 4] rfl)
  · refine z_iconst F_ dX4_leastLiked_8 ?_
    exact hret _ _ _ _ (-1) () dX4_leastLiked_9 (by rw [lstI, if_neg (by omega)]) W_
abbrev rX4_canSail : Room := { frames := 2, cells := 0, slots := 0, locals := 44 }
set_option maxHeartbeats 1000000 in
set_option maxRecDepth 100000 in
theorem c_X4_canSail (l_ : Launch) (D : va_G) (cy : Nat → ClassId) (q : Nat → Nat) (S : Int) (M : Int) (sk : Int → Int) (sc : Int → Int) (mk : Int → Int) (ms : Int → Int) (mp : Int → Int) (h : Int) (d : Int) (bS : 0 ≤ S ∧ S ≤ 3) (bM : 0 ≤ M ∧ M ≤ 8) (bsk : ∀ j : Int, 0 ≤ sk j ∧ sk j ≤ 5) (bsc : ∀ j : Int, 0 ≤ sc j ∧ sc j ≤ 99) (bmk : ∀ j : Int, 0 ≤ mk j ∧ mk j ≤ 5) (bms : ∀ j : Int, 0 ≤ ms j ∧ ms j ≤ 9) (bmp : ∀ j : Int, (-1) ≤ mp j ∧ mp j ≤ 2) (rh : -2147483648 ≤ h ∧ h < 2147483648) (rd : -2147483648 ≤ d ∧ d < 2147483648) (hd : 1 ≤ d ∧ d ≤ 30) : CTi l_ D cy yX4_canSail wsX4_canSail rX4_canSail [.ref (q 0), .int (zi h), .int (zi d)] ([wI cy q S M sk sc mk ms mp]) (fun (z : Int) (u : Unit) => ((z = 1 ∧ ((0 ≤ h ∧ h < S) ∧ 0 < cntZ mp h M ∧ needZ (sk h) d (cntZ mp h M) ≤ sumZ mp ms h M)) ∨ (z = 0 ∧ ¬ ((0 ≤ h ∧ h < S) ∧ 0 < cntZ mp h M ∧ needZ (sk h) d (cntZ mp h M) ≤ sumZ mp ms h M)))) (fun (_ : Unit) => [wI cy q S M sk sc mk ms mp]) := by
  refine CTi.of RX4 cX4_canSail 4 rfl (by decide) rfl (fun z u hz => z_bl hz) (Nat.le_of_ble_eq_true rfl) ?_
  intro p_ e_ s_ m_ ar_ be_ me_ c_ Q_ A_ ls_ F_ K_ W_ hl hret
  have hl : lv_has ls_ 4 [(0, .ref (q 0)), (1, .int (zi h)), (2, .int (zi d))] := hl
  obtain ⟨H_, hH_⟩ : ∃ x, x = s_.heap := ⟨_, rfl⟩
  obtain ⟨lo_, hlo_⟩ : ∃ x : List Loc, x = [] := ⟨_, rfl⟩
  have W_ : WD D A_ s_.heap ([wI cy q S M sk sc mk ms mp]) H_ lo_ := by rw [hH_, hlo_]; exact W_
  rw [← hlo_]
  suffices hg_ : W p_ l_ e_ rX4_canSail s_ m_ ar_ be_ me_ c_ H_ lo_ 0 0 Q_ (F0 m_ 0 ls_ []) by rw [hH_] at hg_; exact hg_
  clear hH_ hlo_
  have hinX4 : ∀ w ∈ u_ws RX4 TX4 11, w ∈ wsX4_canSail := fun w h => List.mem_cons_of_mem _ (List.mem_append_right _ h)
  refine lv_aload_n F_.1 F_.2.1 dX4_canSail_0 rfl (lv_at hl 0 rfl) ?_
  refine lv_iload_n F_.1 F_.2.1 dX4_canSail_1 rfl (lv_at hl 1 rfl) ?_
  refine z_callVip F_ K_ W_ [.int (zi h)] (c_X4_menAt l_ D cy q S M sk sc mk ms mp h (by omega) (by omega) bsk bsc bmk bms bmp (by first | omega | assumption)) 1 rfl gX4_canSail_X4_menAt rfl (by decide +kernel) ⟨⟨Nat.le_of_ble_eq_true rfl, Nat.le_of_ble_eq_true rfl⟩, rfl, rfl, Nat.zero_le _, Nat.zero_le _⟩ 0 0 4 rfl rfl rfl rfl hl.1 rfl (Nat.le_of_ble_eq_true rfl) [0] ([] : List Nat) ([] : List va_W) 1 (by decide +kernel) rfl rfl rfl dX4_canSail_2 (fun z_1 _ H_ lo_ hw_ W_ => ?_)
  have hw_ : (z_1 = cntZ mp h M) := hw_
  have f2_v := hw_
  have hcb := cntZ_b mp h (m := M) (by omega)
  refine lv_istore_n (lv' := [(3, .int (zi z_1)), (0, .ref (q 0)), (1, .int (zi h)), (2, .int (zi d))]) F_.1 F_.2.1 dX4_canSail_5 rfl hl (by decide) rfl (fun ls_ hl => ?_)
  refine lv_aload_n F_.1 F_.2.1 dX4_canSail_6 rfl (lv_at hl 1 rfl) ?_
  refine lv_iload_n F_.1 F_.2.1 dX4_canSail_7 rfl (lv_at hl 2 rfl) ?_
  refine z_callVip F_ K_ W_ [.int (zi h)] (c_X4_hasShip l_ D cy q S M sk sc mk ms mp h (by omega) (by omega) bsk bsc bmk bms bmp (by first | omega | assumption)) 1 rfl gX4_canSail_X4_hasShip rfl (by decide +kernel) ⟨⟨Nat.le_of_ble_eq_true rfl, Nat.le_of_ble_eq_true rfl⟩, rfl, rfl, Nat.zero_le _, Nat.zero_le _⟩ 0 0 4 rfl rfl rfl rfl hl.1 rfl (Nat.le_of_ble_eq_true rfl) [0] ([] : List Nat) ([] : List va_W) 1 (by decide +kernel) rfl rfl rfl dX4_canSail_8 (fun z_2 _ H_ lo_ hw_ W_ => ?_)
  have hw_ : ((z_2 = 1 ∧ (0 ≤ h ∧ h < S)) ∨ (z_2 = 0 ∧ ¬ (0 ≤ h ∧ h < S))) := hw_
  have f8_v := hw_
  refine z_if_eq (tgt := 41) F_ (by omega) dX4_canSail_11 (by decide) (fun c11 => ?_) (fun c11 => ?_)
  · refine z_iconst F_ dX4_canSail_41 ?_
    exact hret _ _ _ _ 0 () dX4_canSail_42 (by rw [f2_v] at *; omega) W_
  · refine lv_iload_n F_.1 F_.2.1 dX4_canSail_14 rfl (lv_at hl 0 rfl) ?_
    refine z_if_le (tgt := 41) F_ (by omega) dX4_canSail_15 (by decide) (fun c15 => ?_) (fun c15 => ?_)
    · refine z_iconst F_ dX4_canSail_41 ?_
      exact hret _ _ _ _ 0 () dX4_canSail_42 (by rw [f2_v] at *; omega) W_
    · refine lv_aload_n F_.1 F_.2.1 dX4_canSail_18 rfl (lv_at hl 1 rfl) ?_
      refine lv_iload_n F_.1 F_.2.1 dX4_canSail_19 rfl (lv_at hl 2 rfl) ?_
      refine z_callVip F_ K_ W_ [.int (zi h)] (c_X4_skillsAt l_ D cy q S M sk sc mk ms mp h (by omega) (by omega) bsk bsc bmk bms bmp (by first | omega | assumption)) 1 rfl gX4_canSail_X4_skillsAt rfl (by decide +kernel) ⟨⟨Nat.le_of_ble_eq_true rfl, Nat.le_of_ble_eq_true rfl⟩, rfl, rfl, Nat.zero_le _, Nat.zero_le _⟩ 0 0 4 rfl rfl rfl rfl hl.1 rfl (Nat.le_of_ble_eq_true rfl) [0] ([] : List Nat) ([] : List va_W) 1 (by decide +kernel) rfl rfl rfl dX4_canSail_20 (fun z_3 _ H_ lo_ hw_ W_ => ?_)
      have hw_ : (z_3 = sumZ mp ms h M) := hw_
      have f20_v := hw_
      have hsb := sumZ_b mp ms h (m := M) (by omega) (b := 9) (fun j => bms j)
      refine lv_aload_n F_.1 F_.2.1 dX4_canSail_23 rfl (lv_at hl 1 rfl) ?_
      refine z_get F_ K_ W_ 0 0 2 rfl rfl rfl (C := RX4) (T := TX4) (N := 11) rfl (by decide) hinX4 (List.mem_of_getElem? (i := 1) rfl) dX4_canSail_24 ?_
      refine lv_iload_n F_.1 F_.2.1 dX4_canSail_27 rfl (lv_at hl 2 rfl) ?_
      refine z_iald F_ K_ W_ 0 1 rfl rfl (by omega) (by decide) dX4_canSail_28 ?_
      have b_4 := bsk h
      refine lv_iload_n F_.1 F_.2.1 dX4_canSail_29 rfl (lv_at hl 3 rfl) ?_
      refine lv_iload_n F_.1 F_.2.1 dX4_canSail_30 rfl (lv_at hl 0 rfl) ?_
      refine z_callSip F_ K_ W_ [.int (zi (sk h)), .int (zi d), .int (zi z_1)] (c_X5_need l_ D cy (sk h) d z_1 (by first | omega | assumption) (by first | omega | assumption) (by first | omega | assumption) (by first | omega | assumption) (by first | omega | assumption)) 3 rfl gX4_canSail_X5_need rfl (by decide +kernel) ⟨⟨Nat.le_of_ble_eq_true rfl, Nat.le_of_ble_eq_true rfl⟩, rfl, rfl, Nat.zero_le _, Nat.zero_le _⟩ hl.1 rfl (Nat.le_of_ble_eq_true rfl) ([] : List Nat) [0] [wI cy q S M sk sc mk ms mp] 1 (by decide +kernel) rfl rfl rfl dX4_canSail_31 (fun z_5 _ H_ lo_ hw_ W_ => ?_)
      have hw_ : (z_5 = needZ (sk h) d z_1) := hw_
      have f31_v := hw_
      have hnb := needZ_b (sk h) hd (n := cntZ mp h M) (by omega)
      rw [f2_v] at f31_v
      refine z_icmp_lt (tgt := 41) F_ (by omega) dX4_canSail_34 (by decide) (fun c34 => ?_) (fun c34 => ?_)
      · refine z_iconst F_ dX4_canSail_41 ?_
        exact hret _ _ _ _ 0 () dX4_canSail_42 (by rw [f2_v] at *; omega) W_
      · refine z_iconst F_ dX4_canSail_37 ?_
        refine z_goto (tgt := 42) F_ dX4_canSail_38 (by decide) ?_
        exact hret _ _ _ _ 1 () dX4_canSail_42 (by rw [f2_v] at *; omega) W_
abbrev rX4_leaveOne : Room := { frames := 2, cells := 0, slots := 0, locals := 50 }
set_option maxHeartbeats 1000000 in
set_option maxRecDepth 100000 in
theorem c_X4_leaveOne (l_ : Launch) (D : va_G) (cy : Nat → ClassId) (q : Nat → Nat) (S : Int) (M : Int) (sk : Int → Int) (sc : Int → Int) (mk : Int → Int) (ms : Int → Int) (mp : Int → Int) (h : Int) (bS : 0 ≤ S ∧ S ≤ 3) (bM : 0 ≤ M ∧ M ≤ 8) (bsk : ∀ j : Int, 0 ≤ sk j ∧ sk j ≤ 5) (bsc : ∀ j : Int, 0 ≤ sc j ∧ sc j ≤ 99) (bmk : ∀ j : Int, 0 ≤ mk j ∧ mk j ≤ 5) (bms : ∀ j : Int, 0 ≤ ms j ∧ ms j ≤ 9) (bmp : ∀ j : Int, (-1) ≤ mp j ∧ mp j ≤ 2) (rh : -2147483648 ≤ h ∧ h < 2147483648) : CTi l_ D cy yX4_leaveOne wsX4_leaveOne rX4_leaveOne [.ref (q 0), .int (zi h)] ([wI cy q S M sk sc mk ms mp]) (fun (z : Int) (u : (Int → Int) × (Int → Int)) => (z = lstI S M sc mk ms mp h) ∧ (u.2 = goMp mp z) ∧ (u.1 = goSc sc h z) ∧ (∀ j : Int, 0 ≤ u.1 j ∧ u.1 j ≤ 99) ∧ (∀ j : Int, (-1) ≤ u.2 j ∧ u.2 j ≤ 2)) (fun (u : (Int → Int) × (Int → Int)) => [wI cy q S M sk u.1 mk ms u.2]) := by
  refine CTi.of RX4 cX4_leaveOne 3 rfl (by decide) rfl (fun z u hz => rfl) (Nat.le_of_ble_eq_true rfl) ?_
  intro p_ e_ s_ m_ ar_ be_ me_ c_ Q_ A_ ls_ F_ K_ W_ hl hret
  have hl : lv_has ls_ 3 [(0, .ref (q 0)), (1, .int (zi h))] := hl
  obtain ⟨H_, hH_⟩ : ∃ x, x = s_.heap := ⟨_, rfl⟩
  obtain ⟨lo_, hlo_⟩ : ∃ x : List Loc, x = [] := ⟨_, rfl⟩
  have W_ : WD D A_ s_.heap ([wI cy q S M sk sc mk ms mp]) H_ lo_ := by rw [hH_, hlo_]; exact W_
  rw [← hlo_]
  suffices hg_ : W p_ l_ e_ rX4_leaveOne s_ m_ ar_ be_ me_ c_ H_ lo_ 0 0 Q_ (F0 m_ 0 ls_ []) by rw [hH_] at hg_; exact hg_
  clear hH_ hlo_
  have hinX4 : ∀ w ∈ u_ws RX4 TX4 11, w ∈ wsX4_leaveOne := fun w h => List.mem_cons_of_mem _ (List.mem_append_right _ h)
  refine lv_aload_n F_.1 F_.2.1 dX4_leaveOne_0 rfl (lv_at hl 0 rfl) ?_
  refine lv_iload_n F_.1 F_.2.1 dX4_leaveOne_1 rfl (lv_at hl 1 rfl) ?_
  refine z_callVip F_ K_ W_ [.int (zi h)] (c_X4_leastLiked l_ D cy q S M sk sc mk ms mp h (by omega) (by omega) bsk bsc bmk bms bmp (by first | omega | assumption)) 1 rfl gX4_leaveOne_X4_leastLiked rfl (by decide +kernel) ⟨⟨Nat.le_of_ble_eq_true rfl, Nat.le_of_ble_eq_true rfl⟩, rfl, rfl, Nat.zero_le _, Nat.zero_le _⟩ 0 0 4 rfl rfl rfl rfl hl.1 rfl (Nat.le_of_ble_eq_true rfl) [0] ([] : List Nat) ([] : List va_W) 1 (by decide +kernel) rfl rfl rfl dX4_leaveOne_2 (fun z_1 _ H_ lo_ hw_ W_ => ?_)
  have hw_ : (z_1 = lstI S M sc mk ms mp h) := hw_
  have f2_v := hw_
  have hlb : z_1 = -1 ∨ (0 ≤ z_1 ∧ z_1 < M ∧ 0 ≤ h ∧ h < S) := by
    rw [f2_v, lstI]
    split
    · rcases lstZ_b mp (lkZ mk ms (sc h)) h (m := M) (by omega) with q | q
      · exact Or.inl q
      · exact Or.inr ⟨q.1, q.2.1, by omega, by omega⟩
    · exact Or.inl rfl
  refine lv_istore_n (lv' := [(2, .int (zi z_1)), (0, .ref (q 0)), (1, .int (zi h))]) F_.1 F_.2.1 dX4_leaveOne_5 rfl hl (by decide) rfl (fun ls_ hl => ?_)
  refine lv_iload_n F_.1 F_.2.1 dX4_leaveOne_6 rfl (lv_at hl 0 rfl) ?_
  refine z_iconst F_ dX4_leaveOne_7 ?_
  refine z_icmp_eq (tgt := 37) F_ (by omega) dX4_leaveOne_8 (by decide) (fun c8 => ?_) (fun c8 => ?_)
  · refine lv_iload_n F_.1 F_.2.1 dX4_leaveOne_37 rfl (lv_at hl 0 rfl) ?_
    exact hret _ _ _ _ z_1 (sc, mp) dX4_leaveOne_38 ⟨(by first | omega | assumption), (by simp only [goMp]; first | rw [if_pos c8] | (rw [if_neg c8]; assumption)), (by simp only [goSc]; first | rw [if_pos c8] | (rw [if_neg c8]; assumption)), bsc, bmp⟩ W_
  · refine lv_aload_n F_.1 F_.2.1 dX4_leaveOne_11 rfl (lv_at hl 1 rfl) ?_
    refine z_get F_ K_ W_ 0 0 6 rfl rfl rfl (C := RX4) (T := TX4) (N := 11) rfl (by decide) hinX4 (List.mem_of_getElem? (i := 1) rfl) dX4_leaveOne_12 ?_
    refine lv_iload_n F_.1 F_.2.1 dX4_leaveOne_15 rfl (lv_at hl 0 rfl) ?_
    refine z_iconst F_ dX4_leaveOne_16 ?_
    refine z_iast (sg' := [wI cy q S M sk sc mk ms (zu mp z_1 (-1))]) F_ K_ W_ 0 5 rfl rfl rfl (by omega) (by decide) dX4_leaveOne_17 (fun H_ lo_ W_ => ?_)
    obtain ⟨mp_2, emp_2⟩ : ∃ x_ : Int → Int, x_ = zu mp z_1 (-1) := ⟨_, rfl⟩
    rw [← emp_2] at W_
    have bmp_2 : ∀ j : Int, (-1) ≤ mp_2 j ∧ mp_2 j ≤ 2 := by rw [emp_2]; exact zu_b bmp (by omega)
    refine lv_aload_n F_.1 F_.2.1 dX4_leaveOne_18 rfl (lv_at hl 1 rfl) ?_
    refine z_get F_ K_ W_ 0 0 3 rfl rfl rfl (C := RX4) (T := TX4) (N := 11) rfl (by decide) hinX4 (List.mem_of_getElem? (i := 2) rfl) dX4_leaveOne_19 ?_
    refine lv_iload_n F_.1 F_.2.1 dX4_leaveOne_22 rfl (lv_at hl 2 rfl) ?_
    refine z_bipush F_ (by decide) dX4_leaveOne_23 ?_
    refine lv_aload_n F_.1 F_.2.1 dX4_leaveOne_25 rfl (lv_at hl 1 rfl) ?_
    refine z_get F_ K_ W_ 0 0 3 rfl rfl rfl (C := RX4) (T := TX4) (N := 11) rfl (by decide) hinX4 (List.mem_of_getElem? (i := 2) rfl) dX4_leaveOne_26 ?_
    refine lv_iload_n F_.1 F_.2.1 dX4_leaveOne_29 rfl (lv_at hl 2 rfl) ?_
    refine z_iald F_ K_ W_ 0 2 rfl rfl (by omega) (by decide) dX4_leaveOne_30 ?_
    have b_3 := bsc h
    refine z_iconst F_ dX4_leaveOne_31 ?_
    refine z_iadd F_ dX4_leaveOne_32 ?_
    refine z_min F_ (by omega) hl.1 (F_.2.2.2.2 _ (List.mem_of_getElem? (i := 3) rfl)) (F_.2.2.2.2 _ (List.mem_of_getElem? (i := 4) rfl)) (F_.2.2.2.2 _ (List.mem_of_getElem? (i := 5) rfl)) (F_.2.2.2.2 _ (List.mem_of_getElem? (i := 6) rfl)) (Nat.le_of_ble_eq_true rfl) (Nat.le_of_ble_eq_true rfl) (Nat.zero_le _) (Nat.zero_le _) dX4_leaveOne_33 ?_
    refine z_iast (sg' := [wI cy q S M sk (zu sc h (min 99 ((sc h) + 1))) mk ms mp_2]) F_ K_ W_ 0 2 rfl rfl rfl (by omega) (by decide) dX4_leaveOne_36 (fun H_ lo_ W_ => ?_)
    obtain ⟨sc_5, esc_5⟩ : ∃ x_ : Int → Int, x_ = zu sc h (min 99 ((sc h) + 1)) := ⟨_, rfl⟩
    rw [← esc_5] at W_
    have bsc_5 : ∀ j : Int, 0 ≤ sc_5 j ∧ sc_5 j ≤ 99 := by rw [esc_5]; exact zu_b bsc (by omega)
    refine lv_iload_n F_.1 F_.2.1 dX4_leaveOne_37 rfl (lv_at hl 0 rfl) ?_
    exact hret _ _ _ _ z_1 (sc_5, mp_2) dX4_leaveOne_38 ⟨(by first | omega | assumption), (by simp only [goMp]; first | rw [if_pos c8] | (rw [if_neg c8]; assumption)), (by simp only [goSc]; first | rw [if_pos c8] | (rw [if_neg c8]; assumption)), bsc_5, bmp_2⟩ W_
abbrev rX4_takeAboard : Room := { frames := 0, cells := 0, slots := 0, locals := 0 }
set_option maxHeartbeats 1000000 in
set_option maxRecDepth 100000 in
theorem c_X4_takeAboard (l_ : Launch) (D : va_G) (cy : Nat → ClassId) (q : Nat → Nat) (S : Int) (M : Int) (sk : Int → Int) (sc : Int → Int) (mk : Int → Int) (ms : Int → Int) (mp : Int → Int) (h : Int) (i : Int) (bS : 0 ≤ S ∧ S ≤ 3) (bM : 0 ≤ M ∧ M ≤ 8) (bsk : ∀ j : Int, 0 ≤ sk j ∧ sk j ≤ 5) (bsc : ∀ j : Int, 0 ≤ sc j ∧ sc j ≤ 99) (bmk : ∀ j : Int, 0 ≤ mk j ∧ mk j ≤ 5) (bms : ∀ j : Int, 0 ≤ ms j ∧ ms j ≤ 9) (bmp : ∀ j : Int, (-1) ≤ mp j ∧ mp j ≤ 2) (rh : -2147483648 ≤ h ∧ h < 2147483648) (ri : -2147483648 ≤ i ∧ i < 2147483648) (hh : 0 ≤ h ∧ h ≤ 2) (hi : 0 ≤ i ∧ i < 8) : CTv l_ D cy yX4_takeAboard wsX4_takeAboard rX4_takeAboard [.ref (q 0), .int (zi h), .int (zi i)] ([wI cy q S M sk sc mk ms mp]) (fun (u : (Int → Int)) => (u = zu mp i h) ∧ (∀ j : Int, (-1) ≤ u j ∧ u j ≤ 2)) (fun (u : (Int → Int)) => [wI cy q S M sk sc mk ms u]) := by
  refine CTv.of RX4 cX4_takeAboard 3 rfl (by decide) rfl (Nat.le_of_ble_eq_true rfl) ?_
  intro p_ e_ s_ m_ ar_ be_ me_ c_ Q_ A_ ls_ F_ K_ W_ hl hret
  have hl : lv_has ls_ 3 [(0, .ref (q 0)), (1, .int (zi h)), (2, .int (zi i))] := hl
  obtain ⟨H_, hH_⟩ : ∃ x, x = s_.heap := ⟨_, rfl⟩
  obtain ⟨lo_, hlo_⟩ : ∃ x : List Loc, x = [] := ⟨_, rfl⟩
  have W_ : WD D A_ s_.heap ([wI cy q S M sk sc mk ms mp]) H_ lo_ := by rw [hH_, hlo_]; exact W_
  rw [← hlo_]
  suffices hg_ : W p_ l_ e_ rX4_takeAboard s_ m_ ar_ be_ me_ c_ H_ lo_ 0 0 Q_ (F0 m_ 0 ls_ []) by rw [hH_] at hg_; exact hg_
  clear hH_ hlo_
  have hinX4 : ∀ w ∈ u_ws RX4 TX4 11, w ∈ wsX4_takeAboard := fun w h => List.mem_cons_of_mem _ (List.mem_append_right _ h)
  refine lv_aload_n F_.1 F_.2.1 dX4_takeAboard_0 rfl (lv_at hl 0 rfl) ?_
  refine z_get F_ K_ W_ 0 0 6 rfl rfl rfl (C := RX4) (T := TX4) (N := 11) rfl (by decide) hinX4 (List.mem_of_getElem? (i := 1) rfl) dX4_takeAboard_1 ?_
  refine lv_iload_n F_.1 F_.2.1 dX4_takeAboard_4 rfl (lv_at hl 2 rfl) ?_
  refine lv_iload_n F_.1 F_.2.1 dX4_takeAboard_5 rfl (lv_at hl 1 rfl) ?_
  refine z_iast (sg' := [wI cy q S M sk sc mk ms (zu mp i h)]) F_ K_ W_ 0 5 rfl rfl rfl (by omega) (by decide) dX4_takeAboard_6 (fun H_ lo_ W_ => ?_)
  obtain ⟨mp_1, emp_1⟩ : ∃ x_ : Int → Int, x_ = zu mp i h := ⟨_, rfl⟩
  rw [← emp_1] at W_
  have bmp_1 : ∀ j : Int, (-1) ≤ mp_1 j ∧ mp_1 j ≤ 2 := by rw [emp_1]; exact zu_b bmp (by omega)
  exact hret _ _ _ _ mp_1 dX4_takeAboard_7 ⟨(by first | omega | assumption), bmp_1⟩ W_
abbrev rX4_remember : Room := { frames := 2, cells := 0, slots := 0, locals := 45 }
set_option maxHeartbeats 1000000 in
set_option maxRecDepth 100000 in
theorem c_X4_remember (l_ : Launch) (D : va_G) (cy : Nat → ClassId) (q : Nat → Nat) (S : Int) (M : Int) (sk : Int → Int) (sc : Int → Int) (mk : Int → Int) (ms : Int → Int) (mp : Int → Int) (r4 : Int) (f4 : Int → Int) (h : Int) (i : Int) (bS : 0 ≤ S ∧ S ≤ 3) (bM : 0 ≤ M ∧ M ≤ 8) (bsk : ∀ j : Int, 0 ≤ sk j ∧ sk j ≤ 5) (bsc : ∀ j : Int, 0 ≤ sc j ∧ sc j ≤ 99) (bmk : ∀ j : Int, 0 ≤ mk j ∧ mk j ≤ 5) (bms : ∀ j : Int, 0 ≤ ms j ∧ ms j ≤ 9) (bmp : ∀ j : Int, (-1) ≤ mp j ∧ mp j ≤ 2) (bf4 : ∀ j : Int, (-1) ≤ f4 j ∧ f4 j ≤ 99) (rh : -2147483648 ≤ h ∧ h < 2147483648) (ri : -2147483648 ≤ i ∧ i < 2147483648) (hh : 0 ≤ h ∧ h < S) (hi : 0 ≤ i ∧ i < M) (hr : 0 ≤ r4 ∧ r4 ≤ 8) : CTv l_ D cy yX4_remember wsX4_remember rX4_remember [.ref (q 0), .int (zi h), .int (zi i)] ([wI cy q S M sk sc mk ms mp, wF cy (q 12) (q 13) 32 8 r4 f4]) (fun (u : (Int → Int) × (Int)) => (u.1 = pushZ f4 r4 h (sc h) i (mp i)) ∧ (u.2 = min 8 (r4 + 1)) ∧ (∀ j : Int, (-1) ≤ u.1 j ∧ u.1 j ≤ 99)) (fun (u : (Int → Int) × (Int)) => [wI cy q S M sk sc mk ms mp, wF cy (q 12) (q 13) 32 8 u.2 u.1]) := by
  refine CTv.of RX4 cX4_remember 3 rfl (by decide) rfl (Nat.le_of_ble_eq_true rfl) ?_
  intro p_ e_ s_ m_ ar_ be_ me_ c_ Q_ A_ ls_ F_ K_ W_ hl hret
  have hl : lv_has ls_ 3 [(0, .ref (q 0)), (1, .int (zi h)), (2, .int (zi i))] := hl
  obtain ⟨H_, hH_⟩ : ∃ x, x = s_.heap := ⟨_, rfl⟩
  obtain ⟨lo_, hlo_⟩ : ∃ x : List Loc, x = [] := ⟨_, rfl⟩
  have W_ : WD D A_ s_.heap ([wI cy q S M sk sc mk ms mp, wF cy (q 12) (q 13) 32 8 r4 f4]) H_ lo_ := by rw [hH_, hlo_]; exact W_
  rw [← hlo_]
  suffices hg_ : W p_ l_ e_ rX4_remember s_ m_ ar_ be_ me_ c_ H_ lo_ 0 0 Q_ (F0 m_ 0 ls_ []) by rw [hH_] at hg_; exact hg_
  clear hH_ hlo_
  have hinX4 : ∀ w ∈ u_ws RX4 TX4 11, w ∈ wsX4_remember := fun w h => List.mem_cons_of_mem _ (List.mem_append_left _ (List.mem_append_right _ h))
  refine lv_aload_n F_.1 F_.2.1 dX4_remember_0 rfl (lv_at hl 0 rfl) ?_
  refine z_get F_ K_ W_ 0 0 10 rfl rfl rfl (C := RX4) (T := TX4) (N := 11) rfl (by decide) hinX4 (List.mem_of_getElem? (i := 1) rfl) dX4_remember_1 ?_
  refine z_callVip F_ K_ W_ [] (c_X2_isFull l_ D cy (q 12) (q 13) 32 8 r4 f4 bf4 (by first | omega | assumption) (by first | omega | assumption)) 0 rfl gX4_remember_X2_isFull rfl (by decide +kernel) ⟨⟨Nat.le_of_ble_eq_true rfl, Nat.le_of_ble_eq_true rfl⟩, rfl, rfl, Nat.zero_le _, Nat.zero_le _⟩ 0 0 2 rfl rfl rfl rfl hl.1 rfl (Nat.le_of_ble_eq_true rfl) [1] [0] [wI cy q S M sk sc mk ms mp] 2 (by decide +kernel) rfl rfl rfl dX4_remember_4 (fun z_1 _ H_ lo_ hw_ W_ => ?_)
  have hw_ : ((z_1 = 1 ∧ 8 ≤ r4) ∨ (z_1 = 0 ∧ r4 < 8)) := hw_
  have f4_v := hw_
  have J17 : ∀ (r5 : Int) (f5 : Int → Int) (bf5 : ∀ j : Int, (-1) ≤ f5 j ∧ f5 j ≤ 99) (hf5 : (r4 < 8 ∧ r5 = r4 ∧ f5 = f4) ∨ (r4 = 8 ∧ r5 = 7 ∧ f5 = zcp f4 f4 4 0 28)) (ls_ : Array Slot) (H_ : Heap) (lo_ : List Loc), WD D A_ s_.heap ([wI cy q S M sk sc mk ms mp, wF cy (q 12) (q 13) 32 8 r5 f5]) H_ lo_ → lv_has ls_ 3 [(0, .ref (q 0)), (1, .int (zi h)), (2, .int (zi i))] → W p_ l_ e_ rX4_remember s_ m_ ar_ be_ me_ c_ H_ lo_ 0 0 Q_ (F0 m_ 17 ls_ []) := by
    intro r5 f5 bf5 hf5 ls_ H_ lo_ W_ hl
    refine lv_aload_n F_.1 F_.2.1 dX4_remember_17 rfl (lv_at hl 0 rfl) ?_
    refine z_get F_ K_ W_ 0 0 10 rfl rfl rfl (C := RX4) (T := TX4) (N := 11) rfl (by decide) hinX4 (List.mem_of_getElem? (i := 1) rfl) dX4_remember_18 ?_
    refine lv_iload_n F_.1 F_.2.1 dX4_remember_21 rfl (lv_at hl 1 rfl) ?_
    refine lv_aload_n F_.1 F_.2.1 dX4_remember_22 rfl (lv_at hl 0 rfl) ?_
    refine z_get F_ K_ W_ 0 0 3 rfl rfl rfl (C := RX4) (T := TX4) (N := 11) rfl (by decide) hinX4 (List.mem_of_getElem? (i := 2) rfl) dX4_remember_23 ?_
    refine lv_iload_n F_.1 F_.2.1 dX4_remember_26 rfl (lv_at hl 1 rfl) ?_
    refine z_iald F_ K_ W_ 0 2 rfl rfl (by omega) (by decide) dX4_remember_27 ?_
    have b_2 := bsc h
    refine lv_iload_n F_.1 F_.2.1 dX4_remember_28 rfl (lv_at hl 2 rfl) ?_
    refine lv_aload_n F_.1 F_.2.1 dX4_remember_29 rfl (lv_at hl 0 rfl) ?_
    refine z_get F_ K_ W_ 0 0 6 rfl rfl rfl (C := RX4) (T := TX4) (N := 11) rfl (by decide) hinX4 (List.mem_of_getElem? (i := 3) rfl) dX4_remember_30 ?_
    refine lv_iload_n F_.1 F_.2.1 dX4_remember_33 rfl (lv_at hl 2 rfl) ?_
    refine z_iald F_ K_ W_ 0 5 rfl rfl (by omega) (by decide) dX4_remember_34 ?_
    have b_3 := bmp i
    refine z_callVv F_ K_ W_ [.int (zi h), .int (zi (sc h)), .int (zi i), .int (zi (mp i))] (c_X2_append l_ D cy (q 12) (q 13) 32 8 r5 f5 h (sc h) i (mp i) bf5 (by first | omega | assumption) (by first | omega | assumption) (by first | omega | assumption) (by first | omega | assumption) (by first | omega | assumption) (by first | omega | assumption) (by first | omega | assumption)) 4 rfl gX4_remember_X2_append rfl (by decide +kernel) ⟨⟨Nat.le_of_ble_eq_true rfl, Nat.le_of_ble_eq_true rfl⟩, rfl, rfl, Nat.zero_le _, Nat.zero_le _⟩ 0 0 2 rfl rfl rfl rfl hl.1 rfl (Nat.le_of_ble_eq_true rfl) [1] [0] [wI cy q S M sk sc mk ms mp] (fun (u_ : (Int → Int)) => [wI cy q S M sk sc mk ms mp, wF cy (q 12) (q 13) 32 8 (r5 + 1) u_]) 2 (by decide +kernel) rfl rfl rfl (fun _ => rfl) (fun _ => rfl) (fun _ => rfl) dX4_remember_35 (fun u_ H_ lo_ hw_ W_ => ?_)
    obtain ⟨g_5, rfl⟩ : ∃ x, x = u_ := ⟨_, rfl⟩
    have W_ : WD D A_ s_.heap ([wI cy q S M sk sc mk ms mp, wF cy (q 12) (q 13) 32 8 (r5 + 1) g_5]) H_ lo_ := W_
    have hw_ : (g_5 = putZ f5 (4 * r5) h (sc h) i (mp i)) ∧ (∀ j : Int, (-1) ≤ g_5 j ∧ g_5 j ≤ 99) := hw_
    obtain ⟨f35_v, f35_B_F_f⟩ := hw_
    exact hret _ _ _ _ (g_5, r5 + 1) dX4_remember_38 ⟨(by rw [f35_v, pushZ]; rcases hf5 with q | q; (rw [if_neg (by omega), q.2.1, q.2.2]); (rw [if_pos (by omega), q.2.1, q.2.2]; rfl)), (by omega), f35_B_F_f⟩ W_
  refine z_if_eq (tgt := 17) F_ (by omega) dX4_remember_7 (by decide) (fun c7 => ?_) (fun c7 => ?_)
  · exact J17 r4 f4 bf4 (by first | exact Or.inl ⟨by omega, rfl, rfl⟩ | exact Or.inr ⟨by omega, by omega, by rw [f14_v]; congr 1; omega⟩) ls_ H_ lo_ W_ (lv_sub hl [0, 1, 2] rfl)
  · refine lv_aload_n F_.1 F_.2.1 dX4_remember_10 rfl (lv_at hl 0 rfl) ?_
    refine z_get F_ K_ W_ 0 0 10 rfl rfl rfl (C := RX4) (T := TX4) (N := 11) rfl (by decide) hinX4 (List.mem_of_getElem? (i := 1) rfl) dX4_remember_11 ?_
    refine z_callVv F_ K_ W_ [] (c_X2_dropFirst l_ D cy (q 12) (q 13) 32 8 r4 f4 bf4 (by first | omega | assumption) (by first | omega | assumption)) 0 rfl gX4_remember_X2_dropFirst rfl (by decide +kernel) ⟨⟨Nat.le_of_ble_eq_true rfl, Nat.le_of_ble_eq_true rfl⟩, rfl, rfl, Nat.zero_le _, Nat.zero_le _⟩ 0 0 2 rfl rfl rfl rfl hl.1 rfl (Nat.le_of_ble_eq_true rfl) [1] [0] [wI cy q S M sk sc mk ms mp] (fun (u_ : (Int → Int)) => [wI cy q S M sk sc mk ms mp, wF cy (q 12) (q 13) 32 8 (r4 - 1) u_]) 2 (by decide +kernel) rfl rfl rfl (fun _ => rfl) (fun _ => rfl) (fun _ => rfl) dX4_remember_14 (fun u_ H_ lo_ hw_ W_ => ?_)
    obtain ⟨g_7, rfl⟩ : ∃ x, x = u_ := ⟨_, rfl⟩
    have W_ : WD D A_ s_.heap ([wI cy q S M sk sc mk ms mp, wF cy (q 12) (q 13) 32 8 (r4 - 1) g_7]) H_ lo_ := W_
    have hw_ : (g_7 = zcp f4 f4 4 0 (4 * (r4 - 1))) ∧ (∀ j : Int, (-1) ≤ g_7 j ∧ g_7 j ≤ 99) := hw_
    obtain ⟨f14_v, f14_B_F_f⟩ := hw_
    exact J17 (r4 - 1) g_7 f14_B_F_f (by first | exact Or.inl ⟨by omega, rfl, rfl⟩ | exact Or.inr ⟨by omega, by omega, by rw [f14_v]; congr 1; omega⟩) ls_ H_ lo_ W_ (lv_sub hl [0, 1, 2] rfl)
abbrev rX4_takeBack : Room := { frames := 1, cells := 0, slots := 0, locals := 22 }
set_option maxHeartbeats 1000000 in
set_option maxRecDepth 100000 in
theorem c_X4_takeBack (l_ : Launch) (D : va_G) (cy : Nat → ClassId) (q : Nat → Nat) (S : Int) (M : Int) (sk : Int → Int) (sc : Int → Int) (mk : Int → Int) (ms : Int → Int) (mp : Int → Int) (r4 : Int) (f4 : Int → Int) (bS : 0 ≤ S ∧ S ≤ 3) (bM : 0 ≤ M ∧ M ≤ 8) (bsk : ∀ j : Int, 0 ≤ sk j ∧ sk j ≤ 5) (bsc : ∀ j : Int, 0 ≤ sc j ∧ sc j ≤ 99) (bmk : ∀ j : Int, 0 ≤ mk j ∧ mk j ≤ 5) (bms : ∀ j : Int, 0 ≤ ms j ∧ ms j ≤ 9) (bmp : ∀ j : Int, (-1) ≤ mp j ∧ mp j ≤ 2) (bf4 : ∀ j : Int, (-1) ≤ f4 j ∧ f4 j ≤ 99) (hr : 0 < r4 ∧ r4 ≤ 8) (hh : 0 ≤ f4 (4 * (r4 - 1) + 0) ∧ f4 (4 * (r4 - 1) + 0) < S) (hi : 0 ≤ f4 (4 * (r4 - 1) + 2) ∧ f4 (4 * (r4 - 1) + 2) < M) (hc : 0 ≤ f4 (4 * (r4 - 1) + 1)) (hp : f4 (4 * (r4 - 1) + 3) ≤ 2) : CTv l_ D cy yX4_takeBack wsX4_takeBack rX4_takeBack [.ref (q 0)] ([wI cy q S M sk sc mk ms mp, wF cy (q 12) (q 13) 32 8 r4 f4]) (fun (u : (Int → Int) × (Int → Int)) => (u.1 = zu sc (f4 (4 * (r4 - 1) + 0)) (f4 (4 * (r4 - 1) + 1))) ∧ (u.2 = zu mp (f4 (4 * (r4 - 1) + 2)) (f4 (4 * (r4 - 1) + 3))) ∧ (∀ j : Int, 0 ≤ u.1 j ∧ u.1 j ≤ 99) ∧ (∀ j : Int, (-1) ≤ u.2 j ∧ u.2 j ≤ 2)) (fun (u : (Int → Int) × (Int → Int)) => [wI cy q S M sk u.1 mk ms u.2, wF cy (q 12) (q 13) 32 8 (r4 - 1) f4]) := by
  refine CTv.of RX4 cX4_takeBack 4 rfl (by decide) rfl (Nat.le_of_ble_eq_true rfl) ?_
  intro p_ e_ s_ m_ ar_ be_ me_ c_ Q_ A_ ls_ F_ K_ W_ hl hret
  have hl : lv_has ls_ 4 [(0, .ref (q 0))] := hl
  obtain ⟨H_, hH_⟩ : ∃ x, x = s_.heap := ⟨_, rfl⟩
  obtain ⟨lo_, hlo_⟩ : ∃ x : List Loc, x = [] := ⟨_, rfl⟩
  have W_ : WD D A_ s_.heap ([wI cy q S M sk sc mk ms mp, wF cy (q 12) (q 13) 32 8 r4 f4]) H_ lo_ := by rw [hH_, hlo_]; exact W_
  rw [← hlo_]
  suffices hg_ : W p_ l_ e_ rX4_takeBack s_ m_ ar_ be_ me_ c_ H_ lo_ 0 0 Q_ (F0 m_ 0 ls_ []) by rw [hH_] at hg_; exact hg_
  clear hH_ hlo_
  have hinX4 : ∀ w ∈ u_ws RX4 TX4 11, w ∈ wsX4_takeBack := fun w h => List.mem_cons_of_mem _ (List.mem_append_left _ (List.mem_append_right _ h))
  refine lv_aload_n F_.1 F_.2.1 dX4_takeBack_0 rfl (lv_at hl 0 rfl) ?_
  refine z_get F_ K_ W_ 0 0 10 rfl rfl rfl (C := RX4) (T := TX4) (N := 11) rfl (by decide) hinX4 (List.mem_of_getElem? (i := 1) rfl) dX4_takeBack_1 ?_
  refine z_callVip F_ K_ W_ [] (c_X2_size l_ D cy (q 12) (q 13) 32 8 r4 f4 bf4) 0 rfl gX4_takeBack_X2_size rfl (by decide +kernel) ⟨⟨Nat.le_of_ble_eq_true rfl, Nat.le_of_ble_eq_true rfl⟩, rfl, rfl, Nat.zero_le _, Nat.zero_le _⟩ 0 0 2 rfl rfl rfl rfl hl.1 rfl (Nat.le_of_ble_eq_true rfl) [1] [0] [wI cy q S M sk sc mk ms mp] 2 (by decide +kernel) rfl rfl rfl dX4_takeBack_4 (fun z_1 _ H_ lo_ hw_ W_ => ?_)
  have hw_ : (z_1 = r4) := hw_
  have f4_v := hw_
  have f4_v := f4_v.symm
  subst f4_v
  refine z_iconst F_ dX4_takeBack_7 ?_
  refine z_isub F_ dX4_takeBack_8 ?_
  refine lv_istore_n (lv' := [(1, .int (zi (r4 - 1))), (0, .ref (q 0))]) F_.1 F_.2.1 dX4_takeBack_9 rfl hl (by decide) rfl (fun ls_ hl => ?_)
  refine lv_aload_n F_.1 F_.2.1 dX4_takeBack_10 rfl (lv_at hl 1 rfl) ?_
  refine z_get F_ K_ W_ 0 0 10 rfl rfl rfl (C := RX4) (T := TX4) (N := 11) rfl (by decide) hinX4 (List.mem_of_getElem? (i := 1) rfl) dX4_takeBack_11 ?_
  refine lv_iload_n F_.1 F_.2.1 dX4_takeBack_14 rfl (lv_at hl 0 rfl) ?_
  refine z_iconst F_ dX4_takeBack_15 ?_
  refine z_callVip F_ K_ W_ [.int (zi (r4 - 1)), .int (zi 0)] (c_X2_cell l_ D cy (q 12) (q 13) 32 8 r4 f4 (r4 - 1) 0 bf4 (by first | omega | assumption) (by first | omega | assumption) (by first | omega | assumption) (by first | omega | assumption) (by first | omega | assumption) (by first | omega | assumption)) 2 rfl gX4_takeBack_X2_cell rfl (by decide +kernel) ⟨⟨Nat.le_of_ble_eq_true rfl, Nat.le_of_ble_eq_true rfl⟩, rfl, rfl, Nat.zero_le _, Nat.zero_le _⟩ 0 0 2 rfl rfl rfl rfl hl.1 rfl (Nat.le_of_ble_eq_true rfl) [1] [0] [wI cy q S M sk sc mk ms mp] 2 (by decide +kernel) rfl rfl rfl dX4_takeBack_16 (fun z_2 _ H_ lo_ hw_ W_ => ?_)
  have hw_ : (z_2 = f4 (4 * (r4 - 1) + 0)) := hw_
  have f16_v := hw_
  have f16_v := f16_v.symm
  subst f16_v
  refine lv_istore_n (lv' := [(2, .int (zi (f4 (4 * (r4 - 1) + 0)))), (1, .int (zi (r4 - 1))), (0, .ref (q 0))]) F_.1 F_.2.1 dX4_takeBack_19 rfl hl (by decide) rfl (fun ls_ hl => ?_)
  refine lv_aload_n F_.1 F_.2.1 dX4_takeBack_20 rfl (lv_at hl 2 rfl) ?_
  refine z_get F_ K_ W_ 0 0 10 rfl rfl rfl (C := RX4) (T := TX4) (N := 11) rfl (by decide) hinX4 (List.mem_of_getElem? (i := 1) rfl) dX4_takeBack_21 ?_
  refine lv_iload_n F_.1 F_.2.1 dX4_takeBack_24 rfl (lv_at hl 1 rfl) ?_
  refine z_iconst F_ dX4_takeBack_25 ?_
  refine z_callVip F_ K_ W_ [.int (zi (r4 - 1)), .int (zi 2)] (c_X2_cell l_ D cy (q 12) (q 13) 32 8 r4 f4 (r4 - 1) 2 bf4 (by first | omega | assumption) (by first | omega | assumption) (by first | omega | assumption) (by first | omega | assumption) (by first | omega | assumption) (by first | omega | assumption)) 2 rfl gX4_takeBack_X2_cell rfl (by decide +kernel) ⟨⟨Nat.le_of_ble_eq_true rfl, Nat.le_of_ble_eq_true rfl⟩, rfl, rfl, Nat.zero_le _, Nat.zero_le _⟩ 0 0 2 rfl rfl rfl rfl hl.1 rfl (Nat.le_of_ble_eq_true rfl) [1] [0] [wI cy q S M sk sc mk ms mp] 2 (by decide +kernel) rfl rfl rfl dX4_takeBack_26 (fun z_3 _ H_ lo_ hw_ W_ => ?_)
  have hw_ : (z_3 = f4 (4 * (r4 - 1) + 2)) := hw_
  have f26_v := hw_
  have f26_v := f26_v.symm
  subst f26_v
  refine lv_istore_n (lv' := [(3, .int (zi (f4 (4 * (r4 - 1) + 2)))), (2, .int (zi (f4 (4 * (r4 - 1) + 0)))), (1, .int (zi (r4 - 1))), (0, .ref (q 0))]) F_.1 F_.2.1 dX4_takeBack_29 rfl hl (by decide) rfl (fun ls_ hl => ?_)
  refine lv_aload_n F_.1 F_.2.1 dX4_takeBack_30 rfl (lv_at hl 3 rfl) ?_
  refine lv_iload_n F_.1 F_.2.1 dX4_takeBack_31 rfl (lv_at hl 1 rfl) ?_
  refine z_callVip F_ K_ W_ [.int (zi (f4 (4 * (r4 - 1) + 0)))] (c_X4_hasShip l_ D cy q S M sk sc mk ms mp (f4 (4 * (r4 - 1) + 0)) (by omega) (by omega) bsk bsc bmk bms bmp (by first | omega | assumption)) 1 rfl gX4_takeBack_X4_hasShip rfl (by decide +kernel) ⟨⟨Nat.le_of_ble_eq_true rfl, Nat.le_of_ble_eq_true rfl⟩, rfl, rfl, Nat.zero_le _, Nat.zero_le _⟩ 0 0 4 rfl rfl rfl rfl hl.1 rfl (Nat.le_of_ble_eq_true rfl) [0] [1] [wF cy (q 12) (q 13) 32 8 r4 f4] 2 (by decide +kernel) rfl rfl rfl dX4_takeBack_32 (fun z_4 _ H_ lo_ hw_ W_ => ?_)
  have hw_ : ((z_4 = 1 ∧ (0 ≤ (f4 (4 * (r4 - 1) + 0)) ∧ (f4 (4 * (r4 - 1) + 0)) < S)) ∨ (z_4 = 0 ∧ ¬ (0 ≤ (f4 (4 * (r4 - 1) + 0)) ∧ (f4 (4 * (r4 - 1) + 0)) < S))) := hw_
  have f32_v := hw_
  refine z_if_eq (tgt := 76) F_ (by omega) dX4_takeBack_35 (by decide) (fun c35 => ?_) (fun c35 => ?_)
  · refine lv_aload_n F_.1 F_.2.1 dX4_takeBack_76 rfl (lv_at hl 3 rfl) ?_
    refine z_get F_ K_ W_ 0 0 10 rfl rfl rfl (C := RX4) (T := TX4) (N := 11) rfl (by decide) hinX4 (List.mem_of_getElem? (i := 1) rfl) dX4_takeBack_77 ?_
    refine z_callVv F_ K_ W_ [] (c_X2_dropLast l_ D cy (q 12) (q 13) 32 8 r4 f4 bf4 (by first | omega | assumption) (by first | omega | assumption)) 0 rfl gX4_takeBack_X2_dropLast rfl (by decide +kernel) ⟨⟨Nat.le_of_ble_eq_true rfl, Nat.le_of_ble_eq_true rfl⟩, rfl, rfl, Nat.zero_le _, Nat.zero_le _⟩ 0 0 2 rfl rfl rfl rfl hl.1 rfl (Nat.le_of_ble_eq_true rfl) [1] [0] [wI cy q S M sk sc mk ms mp] (fun (u_ : Unit) => [wI cy q S M sk sc mk ms mp, wF cy (q 12) (q 13) 32 8 (r4 - 1) f4]) 2 (by decide +kernel) rfl rfl rfl (fun _ => rfl) (fun _ => rfl) (fun _ => rfl) dX4_takeBack_80 (fun u_ H_ lo_ hw_ W_ => ?_)
    have W_ : WD D A_ s_.heap ([wI cy q S M sk sc mk ms mp, wF cy (q 12) (q 13) 32 8 (r4 - 1) f4]) H_ lo_ := W_
    exact hret _ _ _ _ (sc, mp) dX4_takeBack_83 ⟨(by first | omega | assumption), (by first | omega | assumption), bsc, bmp⟩ W_
  · refine lv_aload_n F_.1 F_.2.1 dX4_takeBack_38 rfl (lv_at hl 3 rfl) ?_
    refine lv_iload_n F_.1 F_.2.1 dX4_takeBack_39 rfl (lv_at hl 0 rfl) ?_
    refine z_callVip F_ K_ W_ [.int (zi (f4 (4 * (r4 - 1) + 2)))] (c_X4_hasMan l_ D cy q S M sk sc mk ms mp (f4 (4 * (r4 - 1) + 2)) (by omega) (by omega) bsk bsc bmk bms bmp (by first | omega | assumption)) 1 rfl gX4_takeBack_X4_hasMan rfl (by decide +kernel) ⟨⟨Nat.le_of_ble_eq_true rfl, Nat.le_of_ble_eq_true rfl⟩, rfl, rfl, Nat.zero_le _, Nat.zero_le _⟩ 0 0 4 rfl rfl rfl rfl hl.1 rfl (Nat.le_of_ble_eq_true rfl) [0] [1] [wF cy (q 12) (q 13) 32 8 r4 f4] 2 (by decide +kernel) rfl rfl rfl dX4_takeBack_40 (fun z_6 _ H_ lo_ hw_ W_ => ?_)
    have hw_ : ((z_6 = 1 ∧ (0 ≤ (f4 (4 * (r4 - 1) + 2)) ∧ (f4 (4 * (r4 - 1) + 2)) < M)) ∨ (z_6 = 0 ∧ ¬ (0 ≤ (f4 (4 * (r4 - 1) + 2)) ∧ (f4 (4 * (r4 - 1) + 2)) < M))) := hw_
    have f40_v := hw_
    refine z_if_eq (tgt := 76) F_ (by omega) dX4_takeBack_43 (by decide) (fun c43 => ?_) (fun c43 => ?_)
    · refine lv_aload_n F_.1 F_.2.1 dX4_takeBack_76 rfl (lv_at hl 3 rfl) ?_
      refine z_get F_ K_ W_ 0 0 10 rfl rfl rfl (C := RX4) (T := TX4) (N := 11) rfl (by decide) hinX4 (List.mem_of_getElem? (i := 1) rfl) dX4_takeBack_77 ?_
      refine z_callVv F_ K_ W_ [] (c_X2_dropLast l_ D cy (q 12) (q 13) 32 8 r4 f4 bf4 (by first | omega | assumption) (by first | omega | assumption)) 0 rfl gX4_takeBack_X2_dropLast rfl (by decide +kernel) ⟨⟨Nat.le_of_ble_eq_true rfl, Nat.le_of_ble_eq_true rfl⟩, rfl, rfl, Nat.zero_le _, Nat.zero_le _⟩ 0 0 2 rfl rfl rfl rfl hl.1 rfl (Nat.le_of_ble_eq_true rfl) [1] [0] [wI cy q S M sk sc mk ms mp] (fun (u_ : Unit) => [wI cy q S M sk sc mk ms mp, wF cy (q 12) (q 13) 32 8 (r4 - 1) f4]) 2 (by decide +kernel) rfl rfl rfl (fun _ => rfl) (fun _ => rfl) (fun _ => rfl) dX4_takeBack_80 (fun u_ H_ lo_ hw_ W_ => ?_)
      have W_ : WD D A_ s_.heap ([wI cy q S M sk sc mk ms mp, wF cy (q 12) (q 13) 32 8 (r4 - 1) f4]) H_ lo_ := W_
      exact hret _ _ _ _ (sc, mp) dX4_takeBack_83 ⟨(by first | omega | assumption), (by first | omega | assumption), bsc, bmp⟩ W_
    · refine lv_aload_n F_.1 F_.2.1 dX4_takeBack_46 rfl (lv_at hl 3 rfl) ?_
      refine z_get F_ K_ W_ 0 0 3 rfl rfl rfl (C := RX4) (T := TX4) (N := 11) rfl (by decide) hinX4 (List.mem_of_getElem? (i := 2) rfl) dX4_takeBack_47 ?_
      refine lv_iload_n F_.1 F_.2.1 dX4_takeBack_50 rfl (lv_at hl 1 rfl) ?_
      refine lv_aload_n F_.1 F_.2.1 dX4_takeBack_51 rfl (lv_at hl 3 rfl) ?_
      refine z_get F_ K_ W_ 0 0 10 rfl rfl rfl (C := RX4) (T := TX4) (N := 11) rfl (by decide) hinX4 (List.mem_of_getElem? (i := 1) rfl) dX4_takeBack_52 ?_
      refine lv_iload_n F_.1 F_.2.1 dX4_takeBack_55 rfl (lv_at hl 2 rfl) ?_
      refine z_iconst F_ dX4_takeBack_56 ?_
      refine z_callVip F_ K_ W_ [.int (zi (r4 - 1)), .int (zi 1)] (c_X2_cell l_ D cy (q 12) (q 13) 32 8 r4 f4 (r4 - 1) 1 bf4 (by first | omega | assumption) (by first | omega | assumption) (by first | omega | assumption) (by first | omega | assumption) (by first | omega | assumption) (by first | omega | assumption)) 2 rfl gX4_takeBack_X2_cell rfl (by decide +kernel) ⟨⟨Nat.le_of_ble_eq_true rfl, Nat.le_of_ble_eq_true rfl⟩, rfl, rfl, Nat.zero_le _, Nat.zero_le _⟩ 0 0 2 rfl rfl rfl rfl hl.1 rfl (Nat.le_of_ble_eq_true rfl) [1] [0] [wI cy q S M sk sc mk ms mp] 2 (by decide +kernel) rfl rfl rfl dX4_takeBack_57 (fun z_8 _ H_ lo_ hw_ W_ => ?_)
      have hw_ : (z_8 = f4 (4 * (r4 - 1) + 1)) := hw_
      have f57_v := hw_
      have f57_v := f57_v.symm
      subst f57_v
      have b57 := bf4 (4 * (r4 - 1) + 1)
      refine z_iast (sg' := [wI cy q S M sk (zu sc (f4 (4 * (r4 - 1) + 0)) (f4 (4 * (r4 - 1) + 1))) mk ms mp, wF cy (q 12) (q 13) 32 8 r4 f4]) F_ K_ W_ 0 2 rfl rfl rfl (by omega) (by decide) dX4_takeBack_60 (fun H_ lo_ W_ => ?_)
      obtain ⟨sc_9, esc_9⟩ : ∃ x_ : Int → Int, x_ = zu sc (f4 (4 * (r4 - 1) + 0)) (f4 (4 * (r4 - 1) + 1)) := ⟨_, rfl⟩
      rw [← esc_9] at W_
      have bsc_9 : ∀ j : Int, 0 ≤ sc_9 j ∧ sc_9 j ≤ 99 := by rw [esc_9]; exact zu_b bsc (by omega)
      refine lv_aload_n F_.1 F_.2.1 dX4_takeBack_61 rfl (lv_at hl 3 rfl) ?_
      refine z_get F_ K_ W_ 0 0 6 rfl rfl rfl (C := RX4) (T := TX4) (N := 11) rfl (by decide) hinX4 (List.mem_of_getElem? (i := 3) rfl) dX4_takeBack_62 ?_
      refine lv_iload_n F_.1 F_.2.1 dX4_takeBack_65 rfl (lv_at hl 0 rfl) ?_
      refine lv_aload_n F_.1 F_.2.1 dX4_takeBack_66 rfl (lv_at hl 3 rfl) ?_
      refine z_get F_ K_ W_ 0 0 10 rfl rfl rfl (C := RX4) (T := TX4) (N := 11) rfl (by decide) hinX4 (List.mem_of_getElem? (i := 1) rfl) dX4_takeBack_67 ?_
      refine lv_iload_n F_.1 F_.2.1 dX4_takeBack_70 rfl (lv_at hl 2 rfl) ?_
      refine z_iconst F_ dX4_takeBack_71 ?_
      refine z_callVip F_ K_ W_ [.int (zi (r4 - 1)), .int (zi 3)] (c_X2_cell l_ D cy (q 12) (q 13) 32 8 r4 f4 (r4 - 1) 3 bf4 (by first | omega | assumption) (by first | omega | assumption) (by first | omega | assumption) (by first | omega | assumption) (by first | omega | assumption) (by first | omega | assumption)) 2 rfl gX4_takeBack_X2_cell rfl (by decide +kernel) ⟨⟨Nat.le_of_ble_eq_true rfl, Nat.le_of_ble_eq_true rfl⟩, rfl, rfl, Nat.zero_le _, Nat.zero_le _⟩ 0 0 2 rfl rfl rfl rfl hl.1 rfl (Nat.le_of_ble_eq_true rfl) [1] [0] [wI cy q S M sk sc_9 mk ms mp] 2 (by decide +kernel) rfl rfl rfl dX4_takeBack_72 (fun z_10 _ H_ lo_ hw_ W_ => ?_)
      have hw_ : (z_10 = f4 (4 * (r4 - 1) + 3)) := hw_
      have f72_v := hw_
      have f72_v := f72_v.symm
      subst f72_v
      have b72 := bf4 (4 * (r4 - 1) + 3)
      refine z_iast (sg' := [wI cy q S M sk sc_9 mk ms (zu mp (f4 (4 * (r4 - 1) + 2)) (f4 (4 * (r4 - 1) + 3))), wF cy (q 12) (q 13) 32 8 r4 f4]) F_ K_ W_ 0 5 rfl rfl rfl (by omega) (by decide) dX4_takeBack_75 (fun H_ lo_ W_ => ?_)
      obtain ⟨mp_11, emp_11⟩ : ∃ x_ : Int → Int, x_ = zu mp (f4 (4 * (r4 - 1) + 2)) (f4 (4 * (r4 - 1) + 3)) := ⟨_, rfl⟩
      rw [← emp_11] at W_
      have bmp_11 : ∀ j : Int, (-1) ≤ mp_11 j ∧ mp_11 j ≤ 2 := by rw [emp_11]; exact zu_b bmp (by omega)
      refine lv_aload_n F_.1 F_.2.1 dX4_takeBack_76 rfl (lv_at hl 3 rfl) ?_
      refine z_get F_ K_ W_ 0 0 10 rfl rfl rfl (C := RX4) (T := TX4) (N := 11) rfl (by decide) hinX4 (List.mem_of_getElem? (i := 1) rfl) dX4_takeBack_77 ?_
      refine z_callVv F_ K_ W_ [] (c_X2_dropLast l_ D cy (q 12) (q 13) 32 8 r4 f4 bf4 (by first | omega | assumption) (by first | omega | assumption)) 0 rfl gX4_takeBack_X2_dropLast rfl (by decide +kernel) ⟨⟨Nat.le_of_ble_eq_true rfl, Nat.le_of_ble_eq_true rfl⟩, rfl, rfl, Nat.zero_le _, Nat.zero_le _⟩ 0 0 2 rfl rfl rfl rfl hl.1 rfl (Nat.le_of_ble_eq_true rfl) [1] [0] [wI cy q S M sk sc_9 mk ms mp_11] (fun (u_ : Unit) => [wI cy q S M sk sc_9 mk ms mp_11, wF cy (q 12) (q 13) 32 8 (r4 - 1) f4]) 2 (by decide +kernel) rfl rfl rfl (fun _ => rfl) (fun _ => rfl) (fun _ => rfl) dX4_takeBack_80 (fun u_ H_ lo_ hw_ W_ => ?_)
      have W_ : WD D A_ s_.heap ([wI cy q S M sk sc_9 mk ms mp_11, wF cy (q 12) (q 13) 32 8 (r4 - 1) f4]) H_ lo_ := W_
      exact hret _ _ _ _ (sc_9, mp_11) dX4_takeBack_83 ⟨(by first | omega | assumption), (by first | omega | assumption), bsc_9, bmp_11⟩ W_
abbrev rX4_passYears : Room := { frames := 3, cells := 0, slots := 0, locals := 72 }
set_option maxHeartbeats 1000000 in
set_option maxRecDepth 100000 in
theorem c_X4_passYears (l_ : Launch) (D : va_G) (cy : Nat → ClassId) (q : Nat → Nat) (S : Int) (M : Int) (sk : Int → Int) (sc : Int → Int) (mk : Int → Int) (ms : Int → Int) (mp : Int → Int) (h : Int) (y : Int) (bS : 0 ≤ S ∧ S ≤ 3) (bM : 0 ≤ M ∧ M ≤ 8) (bsk : ∀ j : Int, 0 ≤ sk j ∧ sk j ≤ 5) (bsc : ∀ j : Int, 0 ≤ sc j ∧ sc j ≤ 99) (bmk : ∀ j : Int, 0 ≤ mk j ∧ mk j ≤ 5) (bms : ∀ j : Int, 0 ≤ ms j ∧ ms j ≤ 9) (bmp : ∀ j : Int, (-1) ≤ mp j ∧ mp j ≤ 2) (rh : -2147483648 ≤ h ∧ h < 2147483648) (ry : -2147483648 ≤ y ∧ y < 2147483648) (hh : 0 ≤ h ∧ h ≤ 2) (hy : 0 ≤ y ∧ y ≤ 15) : CTv l_ D cy yX4_passYears wsX4_passYears rX4_passYears [.ref (q 0), .int (zi h), .int (zi y)] ([wI cy q S M sk sc mk ms mp]) (fun (u : (Int → Int) × (Int → Int)) => (u.1 = yearSc S M sc mk ms mp h y) ∧ (u.2 = yearMp S M sc mk ms mp h y) ∧ (∀ j : Int, 0 ≤ u.1 j ∧ u.1 j ≤ 99) ∧ (∀ j : Int, (-1) ≤ u.2 j ∧ u.2 j ≤ 2)) (fun (u : (Int → Int) × (Int → Int)) => [wI cy q S M sk u.1 mk ms u.2]) := by
  refine CTv.of RX4 cX4_passYears 3 rfl (by decide) rfl (Nat.le_of_ble_eq_true rfl) ?_
  intro p_ e_ s_ m_ ar_ be_ me_ c_ Q_ A_ ls_ F_ K_ W_ hl hret
  have hl : lv_has ls_ 3 [(0, .ref (q 0)), (1, .int (zi h)), (2, .int (zi y))] := hl
  obtain ⟨H_, hH_⟩ : ∃ x, x = s_.heap := ⟨_, rfl⟩
  obtain ⟨lo_, hlo_⟩ : ∃ x : List Loc, x = [] := ⟨_, rfl⟩
  have W_ : WD D A_ s_.heap ([wI cy q S M sk sc mk ms mp]) H_ lo_ := by rw [hH_, hlo_]; exact W_
  rw [← hlo_]
  suffices hg_ : W p_ l_ e_ rX4_passYears s_ m_ ar_ be_ me_ c_ H_ lo_ 0 0 Q_ (F0 m_ 0 ls_ []) by rw [hH_] at hg_; exact hg_
  clear hH_ hlo_
  have hinX4 : ∀ w ∈ u_ws RX4 TX4 11, w ∈ wsX4_passYears := fun w h => List.mem_cons_of_mem _ (List.mem_append_right _ h)
  refine lv_aload_n F_.1 F_.2.1 dX4_passYears_0 rfl (lv_at hl 0 rfl) ?_
  refine lv_iload_n F_.1 F_.2.1 dX4_passYears_1 rfl (lv_at hl 1 rfl) ?_
  refine z_callVip F_ K_ W_ [.int (zi h)] (c_X4_hasShip l_ D cy q S M sk sc mk ms mp h (by omega) (by omega) bsk bsc bmk bms bmp (by first | omega | assumption)) 1 rfl gX4_passYears_X4_hasShip rfl (by decide +kernel) ⟨⟨Nat.le_of_ble_eq_true rfl, Nat.le_of_ble_eq_true rfl⟩, rfl, rfl, Nat.zero_le _, Nat.zero_le _⟩ 0 0 4 rfl rfl rfl rfl hl.1 rfl (Nat.le_of_ble_eq_true rfl) [0] ([] : List Nat) ([] : List va_W) 1 (by decide +kernel) rfl rfl rfl dX4_passYears_2 (fun z_1 _ H_ lo_ hw_ W_ => ?_)
  have hw_ : ((z_1 = 1 ∧ (0 ≤ h ∧ h < S)) ∨ (z_1 = 0 ∧ ¬ (0 ≤ h ∧ h < S))) := hw_
  have f2_v := hw_
  refine z_if_ne (tgt := 9) F_ (by omega) dX4_passYears_5 (by decide) (fun c5 => ?_) (fun c5 => ?_)
  · refine lv_iload_n F_.1 F_.2.1 dX4_passYears_9 rfl (lv_at hl 2 rfl) ?_
    refine z_bipush F_ (by decide) dX4_passYears_10 ?_
    refine z_icmp_lt (tgt := 24) F_ (by omega) dX4_passYears_12 (by decide) (fun c12 => ?_) (fun c12 => ?_)
    · refine lv_aload_n F_.1 F_.2.1 dX4_passYears_24 rfl (lv_at hl 0 rfl) ?_
      refine lv_iload_n F_.1 F_.2.1 dX4_passYears_25 rfl (lv_at hl 2 rfl) ?_
      refine z_callVip F_ K_ W_ [.int (zi y)] (c_X4_hasMan l_ D cy q S M sk sc mk ms mp y (by omega) (by omega) bsk bsc bmk bms bmp (by first | omega | assumption)) 1 rfl gX4_passYears_X4_hasMan rfl (by decide +kernel) ⟨⟨Nat.le_of_ble_eq_true rfl, Nat.le_of_ble_eq_true rfl⟩, rfl, rfl, Nat.zero_le _, Nat.zero_le _⟩ 0 0 4 rfl rfl rfl rfl hl.1 rfl (Nat.le_of_ble_eq_true rfl) [0] ([] : List Nat) ([] : List va_W) 1 (by decide +kernel) rfl rfl rfl dX4_passYears_26 (fun z_2 _ H_ lo_ hw_ W_ => ?_)
      have hw_ : ((z_2 = 1 ∧ (0 ≤ y ∧ y < M)) ∨ (z_2 = 0 ∧ ¬ (0 ≤ y ∧ y < M))) := hw_
      have f26_v := hw_
      refine z_if_eq (tgt := 48) F_ (by omega) dX4_passYears_29 (by decide) (fun c29 => ?_) (fun c29 => ?_)
      · exact hret _ _ _ _ (sc, mp) dX4_passYears_48 ⟨(by unfold yearSc; first | (rw [if_neg (by omega)]) | (rw [if_pos (by omega), if_pos (by omega), f17_c, f17_v]) | (rw [if_pos (by omega), if_neg (by omega)])), (by unfold yearMp; first | (rw [if_neg (by omega)]) | (rw [if_pos (by omega), if_pos (by omega), f17_p, f17_v]) | (rw [if_pos (by omega), if_neg (by omega), if_pos (by omega)]; assumption) | (rw [if_pos (by omega), if_neg (by omega), if_neg (by omega)])), bsc, bmp⟩ W_
      · refine lv_aload_n F_.1 F_.2.1 dX4_passYears_32 rfl (lv_at hl 0 rfl) ?_
        refine z_get F_ K_ W_ 0 0 6 rfl rfl rfl (C := RX4) (T := TX4) (N := 11) rfl (by decide) hinX4 (List.mem_of_getElem? (i := 1) rfl) dX4_passYears_33 ?_
        refine lv_iload_n F_.1 F_.2.1 dX4_passYears_36 rfl (lv_at hl 2 rfl) ?_
        refine z_iald F_ K_ W_ 0 5 rfl rfl (by omega) (by decide) dX4_passYears_37 ?_
        have b_3 := bmp y
        refine z_iconst F_ dX4_passYears_38 ?_
        refine z_icmp_ne (tgt := 48) F_ (by omega) dX4_passYears_39 (by decide) (fun c39 => ?_) (fun c39 => ?_)
        · exact hret _ _ _ _ (sc, mp) dX4_passYears_48 ⟨(by unfold yearSc; first | (rw [if_neg (by omega)]) | (rw [if_pos (by omega), if_pos (by omega), f17_c, f17_v]) | (rw [if_pos (by omega), if_neg (by omega)])), (by unfold yearMp; first | (rw [if_neg (by omega)]) | (rw [if_pos (by omega), if_pos (by omega), f17_p, f17_v]) | (rw [if_pos (by omega), if_neg (by omega), if_pos (by omega)]; assumption) | (rw [if_pos (by omega), if_neg (by omega), if_neg (by omega)])), bsc, bmp⟩ W_
        · refine lv_aload_n F_.1 F_.2.1 dX4_passYears_42 rfl (lv_at hl 0 rfl) ?_
          refine lv_iload_n F_.1 F_.2.1 dX4_passYears_43 rfl (lv_at hl 1 rfl) ?_
          refine lv_iload_n F_.1 F_.2.1 dX4_passYears_44 rfl (lv_at hl 2 rfl) ?_
          refine z_callVv F_ K_ W_ [.int (zi h), .int (zi y)] (c_X4_takeAboard l_ D cy q S M sk sc mk ms mp h y (by omega) (by omega) bsk bsc bmk bms bmp (by first | omega | assumption) (by first | omega | assumption) (by first | omega | assumption) (by first | omega | assumption)) 2 rfl gX4_passYears_X4_takeAboard rfl (by decide +kernel) ⟨⟨Nat.le_of_ble_eq_true rfl, Nat.le_of_ble_eq_true rfl⟩, rfl, rfl, Nat.zero_le _, Nat.zero_le _⟩ 0 0 4 rfl rfl rfl rfl hl.1 rfl (Nat.le_of_ble_eq_true rfl) [0] ([] : List Nat) ([] : List va_W) (fun (u_ : (Int → Int)) => [wI cy q S M sk sc mk ms u_]) 1 (by decide +kernel) rfl rfl rfl (fun _ => rfl) (fun _ => rfl) (fun _ => rfl) dX4_passYears_45 (fun u_ H_ lo_ hw_ W_ => ?_)
          obtain ⟨mp2_5, rfl⟩ : ∃ x, x = u_ := ⟨_, rfl⟩
          have W_ : WD D A_ s_.heap ([wI cy q S M sk sc mk ms mp2_5]) H_ lo_ := W_
          have hw_ : (mp2_5 = zu mp y h) ∧ (∀ j : Int, (-1) ≤ mp2_5 j ∧ mp2_5 j ≤ 2) := hw_
          obtain ⟨f45_p, f45_B_I_mp⟩ := hw_
          exact hret _ _ _ _ (sc, mp2_5) dX4_passYears_48 ⟨(by unfold yearSc; first | (rw [if_neg (by omega)]) | (rw [if_pos (by omega), if_pos (by omega), f17_c, f17_v]) | (rw [if_pos (by omega), if_neg (by omega)])), (by unfold yearMp; first | (rw [if_neg (by omega)]) | (rw [if_pos (by omega), if_pos (by omega), f17_p, f17_v]) | (rw [if_pos (by omega), if_neg (by omega), if_pos (by omega)]; assumption) | (rw [if_pos (by omega), if_neg (by omega), if_neg (by omega)])), bsc, f45_B_I_mp⟩ W_
    · refine lv_aload_n F_.1 F_.2.1 dX4_passYears_15 rfl (lv_at hl 0 rfl) ?_
      refine lv_iload_n F_.1 F_.2.1 dX4_passYears_16 rfl (lv_at hl 1 rfl) ?_
      refine z_callVi F_ K_ W_ [.int (zi h)] (c_X4_leaveOne l_ D cy q S M sk sc mk ms mp h (by omega) (by omega) bsk bsc bmk bms bmp (by first | omega | assumption)) 1 rfl gX4_passYears_X4_leaveOne rfl (by decide +kernel) ⟨⟨Nat.le_of_ble_eq_true rfl, Nat.le_of_ble_eq_true rfl⟩, rfl, rfl, Nat.zero_le _, Nat.zero_le _⟩ 0 0 4 rfl rfl rfl rfl hl.1 rfl (Nat.le_of_ble_eq_true rfl) [0] ([] : List Nat) ([] : List va_W) (fun (u_ : (Int → Int) × (Int → Int)) => [wI cy q S M sk u_.1 mk ms u_.2]) 1 (by decide +kernel) rfl rfl rfl (fun _ => rfl) (fun _ => rfl) (fun _ => rfl) dX4_passYears_17 (fun z_6 u_ H_ lo_ hw_ W_ => ?_)
      obtain ⟨sc2_7, mp2_8⟩ := u_
      have W_ : WD D A_ s_.heap ([wI cy q S M sk sc2_7 mk ms mp2_8]) H_ lo_ := W_
      have hw_ : (z_6 = lstI S M sc mk ms mp h) ∧ (mp2_8 = goMp mp z_6) ∧ (sc2_7 = goSc sc h z_6) ∧ (∀ j : Int, 0 ≤ sc2_7 j ∧ sc2_7 j ≤ 99) ∧ (∀ j : Int, (-1) ≤ mp2_8 j ∧ mp2_8 j ≤ 2) := hw_
      obtain ⟨f17_v, f17_p, f17_c, f17_B_I_sc, f17_B_I_mp⟩ := hw_
      refine lv_pop F_.1 F_.2.1 dX4_passYears_20 rfl ?_
      refine z_goto (tgt := 48) F_ dX4_passYears_21 (by decide) ?_
      exact hret _ _ _ _ (sc2_7, mp2_8) dX4_passYears_48 ⟨(by unfold yearSc; first | (rw [if_neg (by omega)]) | (rw [if_pos (by omega), if_pos (by omega), f17_c, f17_v]) | (rw [if_pos (by omega), if_neg (by omega)])), (by unfold yearMp; first | (rw [if_neg (by omega)]) | (rw [if_pos (by omega), if_pos (by omega), f17_p, f17_v]) | (rw [if_pos (by omega), if_neg (by omega), if_pos (by omega)]; assumption) | (rw [if_pos (by omega), if_neg (by omega), if_neg (by omega)])), f17_B_I_sc, f17_B_I_mp⟩ W_
  · exact hret _ _ _ _ (sc, mp) dX4_passYears_8 ⟨(by unfold yearSc; first | (rw [if_neg (by omega)]) | (rw [if_pos (by omega), if_pos (by omega), f17_c, f17_v]) | (rw [if_pos (by omega), if_neg (by omega)])), (by unfold yearMp; first | (rw [if_neg (by omega)]) | (rw [if_pos (by omega), if_pos (by omega), f17_p, f17_v]) | (rw [if_pos (by omega), if_neg (by omega), if_pos (by omega)]; assumption) | (rw [if_pos (by omega), if_neg (by omega), if_neg (by omega)])), bsc, bmp⟩ W_
