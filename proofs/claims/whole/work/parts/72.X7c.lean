def cenI (S M : Int) (sc mk ms mp : Int → Int) (seed n : Int) : Int × (Int → Int) × (Int → Int) := fZ (fun _ s => (lcgZ s.1, yearSc S M s.2.1 mk ms s.2.2 (lcgZ s.1 / 65536 % 3) (lcgZ s.1 / 1048576 % 16), yearMp S M s.2.1 mk ms s.2.2 (lcgZ s.1 / 65536 % 3) (lcgZ s.1 / 1048576 % 16))) (seed, sc, mp) n
theorem cenI_s (S M : Int) (sc mk ms mp : Int → Int) (seed : Int) {n : Int} (h : 0 ≤ n) : cenI S M sc mk ms mp seed (n + 1) = (lcgZ (cenI S M sc mk ms mp seed n).1, yearSc S M (cenI S M sc mk ms mp seed n).2.1 mk ms (cenI S M sc mk ms mp seed n).2.2 (lcgZ (cenI S M sc mk ms mp seed n).1 / 65536 % 3) (lcgZ (cenI S M sc mk ms mp seed n).1 / 1048576 % 16), yearMp S M (cenI S M sc mk ms mp seed n).2.1 mk ms (cenI S M sc mk ms mp seed n).2.2 (lcgZ (cenI S M sc mk ms mp seed n).1 / 65536 % 3) (lcgZ (cenI S M sc mk ms mp seed n).1 / 1048576 % 16)) := fZ_s _ _ h

abbrev rX7_gainByCalling : Room := { frames := 3, cells := 0, slots := 0, locals := 67 }
set_option maxHeartbeats 1000000 in
set_option maxRecDepth 100000 in
theorem c_X7_gainByCalling (l_ : Launch) (D : va_G) (cy : Nat → ClassId) (b : Nat → Nat) (q : Nat → Nat) (p : Nat → Nat) (x : Nat → Nat) (e : Nat → Nat) (cr : Nat → Nat) (t0 : Nat) (ab : Int) (be : Int) (rb : Int) (rn : Int) (ru : Int) (S : Int) (M : Int) (sk : Int → Int) (sc : Int → Int) (mk : Int → Int) (ms : Int → Int) (mp : Int → Int) (SJ : Int) (MJ : Int) (skJ : Int → Int) (scJ : Int → Int) (mkJ : Int → Int) (msJ : Int → Int) (mpJ : Int → Int) (h : Int) (d : Int) (bS : 0 ≤ S ∧ S ≤ 3) (bM : 0 ≤ M ∧ M ≤ 8) (bsk : ∀ j : Int, 0 ≤ sk j ∧ sk j ≤ 5) (bsc : ∀ j : Int, 0 ≤ sc j ∧ sc j ≤ 99) (bmk : ∀ j : Int, 0 ≤ mk j ∧ mk j ≤ 5) (bms : ∀ j : Int, 0 ≤ ms j ∧ ms j ≤ 9) (bmp : ∀ j : Int, (-1) ≤ mp j ∧ mp j ≤ 2) (bSJ : 0 ≤ SJ ∧ SJ ≤ 3) (bMJ : 0 ≤ MJ ∧ MJ ≤ 8) (bskJ : ∀ j : Int, 0 ≤ skJ j ∧ skJ j ≤ 5) (bscJ : ∀ j : Int, 0 ≤ scJ j ∧ scJ j ≤ 99) (bmkJ : ∀ j : Int, 0 ≤ mkJ j ∧ mkJ j ≤ 5) (bmsJ : ∀ j : Int, 0 ≤ msJ j ∧ msJ j ≤ 9) (bmpJ : ∀ j : Int, (-1) ≤ mpJ j ∧ mpJ j ≤ 2) (rh : -2147483648 ≤ h ∧ h < 2147483648) (rd : -2147483648 ≤ d ∧ d < 2147483648) (hd : 1 ≤ d ∧ d ≤ 30) : CTi l_ D cy yX7_gainByCalling wsX7_gainByCalling rX7_gainByCalling [.ref (b 0), .int (zi h), .int (zi d)] ([wV cy b q p x e cr t0 ab be rb rn ru, wI cy q S M sk sc mk ms mp, wI cy p SJ MJ skJ scJ mkJ msJ mpJ]) (fun (z : Int) (u : Unit) => (z = gnI (cnI SJ MJ skJ msJ mpJ h d) (cnI S M sk ms mp h d))) (fun (_ : Unit) => [wV cy b q p x e cr t0 ab be rb rn ru, wI cy q S M sk sc mk ms mp, wI cy p SJ MJ skJ scJ mkJ msJ mpJ]) := by
  refine CTi.of RX7 cX7_gainByCalling 5 rfl (by decide) rfl (fun z u hz => rfl) (Nat.le_of_ble_eq_true rfl) ?_
  intro p_ e_ s_ m_ ar_ be_ me_ c_ Q_ A_ ls_ F_ K_ W_ hl hret
  have hl : lv_has ls_ 5 [(0, .ref (b 0)), (1, .int (zi h)), (2, .int (zi d))] := hl
  obtain ⟨H_, hH_⟩ : ∃ x, x = s_.heap := ⟨_, rfl⟩
  obtain ⟨lo_, hlo_⟩ : ∃ x : List Loc, x = [] := ⟨_, rfl⟩
  have W_ : WD D A_ s_.heap ([wV cy b q p x e cr t0 ab be rb rn ru, wI cy q S M sk sc mk ms mp, wI cy p SJ MJ skJ scJ mkJ msJ mpJ]) H_ lo_ := by rw [hH_, hlo_]; exact W_
  rw [← hlo_]
  suffices hg_ : W p_ l_ e_ rX7_gainByCalling s_ m_ ar_ be_ me_ c_ H_ lo_ 0 0 Q_ (F0 m_ 0 ls_ []) by rw [hH_] at hg_; exact hg_
  clear hH_ hlo_
  have hinX7 : ∀ w ∈ u_ws RX7 TX7 13, w ∈ wsX7_gainByCalling := fun w h => List.mem_cons_of_mem _ (List.mem_append_left _ (List.mem_append_right _ h))
  refine lv_aload_n F_.1 F_.2.1 dX7_gainByCalling_0 rfl (lv_at hl 0 rfl) ?_
  refine z_get F_ K_ W_ 0 0 1 rfl rfl rfl (C := RX7) (T := TX7) (N := 13) rfl (by decide) hinX7 (List.mem_of_getElem? (i := 1) rfl) dX7_gainByCalling_1 ?_
  refine lv_iload_n F_.1 F_.2.1 dX7_gainByCalling_4 rfl (lv_at hl 1 rfl) ?_
  refine lv_iload_n F_.1 F_.2.1 dX7_gainByCalling_5 rfl (lv_at hl 2 rfl) ?_
  refine z_callVip F_ K_ W_ [.int (zi h), .int (zi d)] (c_X4_canSail l_ D cy p SJ MJ skJ scJ mkJ msJ mpJ h d (by omega) (by omega) bskJ bscJ bmkJ bmsJ bmpJ (by first | omega | assumption) (by first | omega | assumption) (by first | omega | assumption)) 2 rfl gX7_gainByCalling_X4_canSail rfl (by decide +kernel) ⟨⟨Nat.le_of_ble_eq_true rfl, Nat.le_of_ble_eq_true rfl⟩, rfl, rfl, Nat.zero_le _, Nat.zero_le _⟩ 0 0 4 rfl rfl rfl rfl hl.1 rfl (Nat.le_of_ble_eq_true rfl) [2] [0, 1] [wV cy b q p x e cr t0 ab be rb rn ru, wI cy q S M sk sc mk ms mp] 3 (by decide +kernel) rfl rfl rfl dX7_gainByCalling_6 (fun z_1 _ H_ lo_ hw_ W_ => ?_)
  replace hw_ : ((z_1 = 1 ∧ ((0 ≤ h ∧ h < SJ) ∧ 0 < cntZ mpJ h MJ ∧ needZ (skJ h) d (cntZ mpJ h MJ) ≤ sumZ mpJ msJ h MJ)) ∨ (z_1 = 0 ∧ ¬ ((0 ≤ h ∧ h < SJ) ∧ 0 < cntZ mpJ h MJ ∧ needZ (skJ h) d (cntZ mpJ h MJ) ≤ sumZ mpJ msJ h MJ))) := hw_
  have f6_v := hw_
  clear hw_
  have hw1 := isP_if (P := canI SJ MJ skJ msJ mpJ h d) f6_v Iff.rfl
  clear f6_v
  have J19 : ∀ (k19_0 : Int) (g19 : ((z_1 = 0) ∧ (k19_0 = (-4))) ∨ ((¬ z_1 = 0) ∧ (k19_0 = 6))) (ls_ : Array Slot) (H_ : Heap) (lo_ : List Loc), WD D A_ s_.heap ([wV cy b q p x e cr t0 ab be rb rn ru, wI cy q S M sk sc mk ms mp, wI cy p SJ MJ skJ scJ mkJ msJ mpJ]) H_ lo_ → lv_has ls_ 5 [(0, .ref (b 0)), (1, .int (zi h)), (2, .int (zi d))] → W p_ l_ e_ rX7_gainByCalling s_ m_ ar_ be_ me_ c_ H_ lo_ 0 0 Q_ (F0 m_ 19 ls_ [.int (zi k19_0)]) := by
    intro k19_0 g19 ls_ H_ lo_ W_ hl
    refine lv_istore_n (lv' := [(3, .int (zi k19_0)), (0, .ref (b 0)), (1, .int (zi h)), (2, .int (zi d))]) F_.1 F_.2.1 dX7_gainByCalling_19 rfl hl (by decide) rfl (fun ls_ hl => ?_)
    refine lv_aload_n F_.1 F_.2.1 dX7_gainByCalling_20 rfl (lv_at hl 1 rfl) ?_
    refine z_get F_ K_ W_ 0 0 0 rfl rfl rfl (C := RX7) (T := TX7) (N := 13) rfl (by decide) hinX7 (List.mem_of_getElem? (i := 2) rfl) dX7_gainByCalling_21 ?_
    refine lv_iload_n F_.1 F_.2.1 dX7_gainByCalling_24 rfl (lv_at hl 2 rfl) ?_
    refine lv_iload_n F_.1 F_.2.1 dX7_gainByCalling_25 rfl (lv_at hl 3 rfl) ?_
    refine z_callVip F_ K_ W_ [.int (zi h), .int (zi d)] (c_X4_canSail l_ D cy q S M sk sc mk ms mp h d (by omega) (by omega) bsk bsc bmk bms bmp (by first | omega | assumption) (by first | omega | assumption) (by first | omega | assumption)) 2 rfl gX7_gainByCalling_X4_canSail rfl (by decide +kernel) ⟨⟨Nat.le_of_ble_eq_true rfl, Nat.le_of_ble_eq_true rfl⟩, rfl, rfl, Nat.zero_le _, Nat.zero_le _⟩ 0 0 4 rfl rfl rfl rfl hl.1 rfl (Nat.le_of_ble_eq_true rfl) [1] [0, 2] [wV cy b q p x e cr t0 ab be rb rn ru, wI cy p SJ MJ skJ scJ mkJ msJ mpJ] 3 (by decide +kernel) rfl rfl rfl dX7_gainByCalling_26 (fun z_2 _ H_ lo_ hw_ W_ => ?_)
    replace hw_ : ((z_2 = 1 ∧ ((0 ≤ h ∧ h < S) ∧ 0 < cntZ mp h M ∧ needZ (sk h) d (cntZ mp h M) ≤ sumZ mp ms h M)) ∨ (z_2 = 0 ∧ ¬ ((0 ≤ h ∧ h < S) ∧ 0 < cntZ mp h M ∧ needZ (sk h) d (cntZ mp h M) ≤ sumZ mp ms h M))) := hw_
    have f26_v := hw_
    clear hw_
    have hw2 := isP_if (P := canI S M sk ms mp h d) f26_v Iff.rfl
    clear f26_v
    refine z_if_eq (tgt := 36) F_ (by omega) dX7_gainByCalling_29 (by decide) (fun c29 => ?_) (fun c29 => ?_)
    · refine z_bipush F_ (by decide) dX7_gainByCalling_36 ?_
      refine lv_istore (lv' := [(4, .int (zi (-2))), (3, .int (zi k19_0)), (0, .ref (b 0)), (1, .int (zi h)), (2, .int (zi d))]) F_.1 F_.2.1 dX7_gainByCalling_38 hl (by decide) rfl (fun ls_ hl => ?_)
      refine lv_iload_n F_.1 F_.2.1 dX7_gainByCalling_40 rfl (lv_at hl 1 rfl) ?_
      refine lv_iload F_.1 F_.2.1 dX7_gainByCalling_41 (lv_at hl 0 rfl) ?_
      refine z_isub F_ dX7_gainByCalling_43 ?_
      exact hret _ _ _ _ (k19_0 - (-2)) () dX7_gainByCalling_44 (by unfold gnI cnI; rcases g19 with q1_ | q1_ <;> (first | rw [if_pos (hw1.1 q1_.1)] | rw [if_neg (hw1.2.1 q1_.1)]) <;> (first | rw [if_pos (hw2.1 (by omega))] | rw [if_neg (hw2.2.1 (by omega))]) <;> omega) W_
    · refine z_iconst F_ dX7_gainByCalling_32 ?_
      refine z_goto (tgt := 38) F_ dX7_gainByCalling_33 (by decide) ?_
      refine lv_istore (lv' := [(4, .int (zi 2)), (3, .int (zi k19_0)), (0, .ref (b 0)), (1, .int (zi h)), (2, .int (zi d))]) F_.1 F_.2.1 dX7_gainByCalling_38 hl (by decide) rfl (fun ls_ hl => ?_)
      refine lv_iload_n F_.1 F_.2.1 dX7_gainByCalling_40 rfl (lv_at hl 1 rfl) ?_
      refine lv_iload F_.1 F_.2.1 dX7_gainByCalling_41 (lv_at hl 0 rfl) ?_
      refine z_isub F_ dX7_gainByCalling_43 ?_
      exact hret _ _ _ _ (k19_0 - 2) () dX7_gainByCalling_44 (by unfold gnI cnI; rcases g19 with q1_ | q1_ <;> (first | rw [if_pos (hw1.1 q1_.1)] | rw [if_neg (hw1.2.1 q1_.1)]) <;> (first | rw [if_pos (hw2.1 (by omega))] | rw [if_neg (hw2.2.1 (by omega))]) <;> omega) W_
  refine z_if_eq (tgt := 17) F_ (by omega) dX7_gainByCalling_9 (by decide) (fun c9 => ?_) (fun c9 => ?_)
  · refine z_bipush F_ (by decide) dX7_gainByCalling_17 ?_
    exact J19 (-4) (by first | omega | grind) ls_ H_ lo_ W_ (lv_sub hl [0, 1, 2] rfl)
  · refine z_bipush F_ (by decide) dX7_gainByCalling_12 ?_
    refine z_goto (tgt := 19) F_ dX7_gainByCalling_14 (by decide) ?_
    exact J19 6 (by first | omega | grind) ls_ H_ lo_ W_ (lv_sub hl [0, 1, 2] rfl)
abbrev rX7_water : Room := { frames := 4, cells := 0, slots := 0, locals := 91 }
set_option maxHeartbeats 1000000 in
set_option maxRecDepth 100000 in
theorem c_X7_water (l_ : Launch) (D : va_G) (cy : Nat → ClassId) (b : Nat → Nat) (q : Nat → Nat) (p : Nat → Nat) (x : Nat → Nat) (e : Nat → Nat) (cr : Nat → Nat) (t0 : Nat) (ab : Int) (be : Int) (rb : Int) (rn : Int) (ru : Int) (S : Int) (M : Int) (sk : Int → Int) (sc : Int → Int) (mk : Int → Int) (ms : Int → Int) (mp : Int → Int) (SJ : Int) (MJ : Int) (skJ : Int → Int) (scJ : Int → Int) (mkJ : Int → Int) (msJ : Int → Int) (mpJ : Int → Int) (a : Int) (c : Int) (d : Int) (bS : 0 ≤ S ∧ S ≤ 3) (bM : 0 ≤ M ∧ M ≤ 8) (bsk : ∀ j : Int, 0 ≤ sk j ∧ sk j ≤ 5) (bsc : ∀ j : Int, 0 ≤ sc j ∧ sc j ≤ 99) (bmk : ∀ j : Int, 0 ≤ mk j ∧ mk j ≤ 5) (bms : ∀ j : Int, 0 ≤ ms j ∧ ms j ≤ 9) (bmp : ∀ j : Int, (-1) ≤ mp j ∧ mp j ≤ 2) (bSJ : 0 ≤ SJ ∧ SJ ≤ 3) (bMJ : 0 ≤ MJ ∧ MJ ≤ 8) (bskJ : ∀ j : Int, 0 ≤ skJ j ∧ skJ j ≤ 5) (bscJ : ∀ j : Int, 0 ≤ scJ j ∧ scJ j ≤ 99) (bmkJ : ∀ j : Int, 0 ≤ mkJ j ∧ mkJ j ≤ 5) (bmsJ : ∀ j : Int, 0 ≤ msJ j ∧ msJ j ≤ 9) (bmpJ : ∀ j : Int, (-1) ≤ mpJ j ∧ mpJ j ≤ 2) (ra : -2147483648 ≤ a ∧ a < 2147483648) (rc : -2147483648 ≤ c ∧ c < 2147483648) (rd : -2147483648 ≤ d ∧ d < 2147483648) : CTi l_ D cy yX7_water wsX7_water rX7_water [.ref (b 0), .int (zi a), .int (zi c), .int (zi d)] ([wV cy b q p x e cr t0 ab be rb rn ru, wI cy q S M sk sc mk ms mp, wI cy p SJ MJ skJ scJ mkJ msJ mpJ]) (fun (z : Int) (u : (Int) × (Int) × (Int) × (Int) × (Int) × (Int → Int) × (Int → Int) × (Int → Int) × (Int → Int) × (Int → Int)) => ((((0 ≤ a ∧ a < S) ∧ (0 ≤ c ∧ c < S) ∧ ¬ a = c ∧ (1 ≤ d ∧ d ≤ 30)) ∧ z = watI (gnI (cnI S M sk ms (goMp (goMp mp (lstI S M sc mk ms mp a)) (lstI S M (goSc sc a (lstI S M sc mk ms mp a)) mk ms (goMp mp (lstI S M sc mk ms mp a)) c)) a d) (cnI S M sk ms mp a d)) (gnI (cnI S M sk ms (goMp (goMp mp (lstI S M sc mk ms mp a)) (lstI S M (goSc sc a (lstI S M sc mk ms mp a)) mk ms (goMp mp (lstI S M sc mk ms mp a)) c)) c d) (cnI S M sk ms mp c d)) ∧ u.1 = rb ∧ u.2.1 = rn ∧ u.2.2.1 = ru) ∨ (¬ ((0 ≤ a ∧ a < S) ∧ (0 ≤ c ∧ c < S) ∧ ¬ a = c ∧ (1 ≤ d ∧ d ≤ 30)) ∧ z = -2 ∧ u.1 = rb + 1 ∧ u.2.1 = rn ∧ u.2.2.1 = ru)) ∧ (0 ≤ u.2.2.2.1 ∧ u.2.2.2.1 ≤ 3) ∧ (0 ≤ u.2.2.2.2.1 ∧ u.2.2.2.2.1 ≤ 8) ∧ (∀ j : Int, 0 ≤ u.2.2.2.2.2.1 j ∧ u.2.2.2.2.2.1 j ≤ 5) ∧ (∀ j : Int, 0 ≤ u.2.2.2.2.2.2.1 j ∧ u.2.2.2.2.2.2.1 j ≤ 99) ∧ (∀ j : Int, 0 ≤ u.2.2.2.2.2.2.2.1 j ∧ u.2.2.2.2.2.2.2.1 j ≤ 5) ∧ (∀ j : Int, 0 ≤ u.2.2.2.2.2.2.2.2.1 j ∧ u.2.2.2.2.2.2.2.2.1 j ≤ 9) ∧ (∀ j : Int, (-1) ≤ u.2.2.2.2.2.2.2.2.2 j ∧ u.2.2.2.2.2.2.2.2.2 j ≤ 2)) (fun (u : (Int) × (Int) × (Int) × (Int) × (Int) × (Int → Int) × (Int → Int) × (Int → Int) × (Int → Int) × (Int → Int)) => [wV cy b q p x e cr t0 ab be u.1 u.2.1 u.2.2.1, wI cy q S M sk sc mk ms mp, wI cy p u.2.2.2.1 u.2.2.2.2.1 u.2.2.2.2.2.1 u.2.2.2.2.2.2.1 u.2.2.2.2.2.2.2.1 u.2.2.2.2.2.2.2.2.1 u.2.2.2.2.2.2.2.2.2]) := by
  refine CTi.of RX7 cX7_water 7 rfl (by decide) rfl (fun z u hz => rfl) (Nat.le_of_ble_eq_true rfl) ?_
  intro p_ e_ s_ m_ ar_ be_ me_ c_ Q_ A_ ls_ F_ K_ W_ hl hret
  have hl : lv_has ls_ 7 [(0, .ref (b 0)), (1, .int (zi a)), (2, .int (zi c)), (3, .int (zi d))] := hl
  obtain ⟨H_, hH_⟩ : ∃ x, x = s_.heap := ⟨_, rfl⟩
  obtain ⟨lo_, hlo_⟩ : ∃ x : List Loc, x = [] := ⟨_, rfl⟩
  have W_ : WD D A_ s_.heap ([wV cy b q p x e cr t0 ab be rb rn ru, wI cy q S M sk sc mk ms mp, wI cy p SJ MJ skJ scJ mkJ msJ mpJ]) H_ lo_ := by rw [hH_, hlo_]; exact W_
  rw [← hlo_]
  suffices hg_ : W p_ l_ e_ rX7_water s_ m_ ar_ be_ me_ c_ H_ lo_ 0 0 Q_ (F0 m_ 0 ls_ []) by rw [hH_] at hg_; exact hg_
  clear hH_ hlo_
  have hinX7 : ∀ w ∈ u_ws RX7 TX7 13, w ∈ wsX7_water := fun w h => List.mem_cons_of_mem _ (List.mem_append_left _ (List.mem_append_right _ h))
  refine lv_aload_n F_.1 F_.2.1 dX7_water_0 rfl (lv_at hl 0 rfl) ?_
  refine z_get F_ K_ W_ 0 0 0 rfl rfl rfl (C := RX7) (T := TX7) (N := 13) rfl (by decide) hinX7 (List.mem_of_getElem? (i := 1) rfl) dX7_water_1 ?_
  refine lv_iload_n F_.1 F_.2.1 dX7_water_4 rfl (lv_at hl 1 rfl) ?_
  refine z_callVip F_ K_ W_ [.int (zi a)] (c_X4_hasShip l_ D cy q S M sk sc mk ms mp a (by omega) (by omega) bsk bsc bmk bms bmp (by first | omega | assumption)) 1 rfl gX7_water_X4_hasShip rfl (by decide +kernel) ⟨⟨Nat.le_of_ble_eq_true rfl, Nat.le_of_ble_eq_true rfl⟩, rfl, rfl, Nat.zero_le _, Nat.zero_le _⟩ 0 0 4 rfl rfl rfl rfl hl.1 rfl (Nat.le_of_ble_eq_true rfl) [1] [0, 2] [wV cy b q p x e cr t0 ab be rb rn ru, wI cy p SJ MJ skJ scJ mkJ msJ mpJ] 3 (by decide +kernel) rfl rfl rfl dX7_water_5 (fun z_1 _ H_ lo_ hw_ W_ => ?_)
  replace hw_ : ((z_1 = 1 ∧ (0 ≤ a ∧ a < S)) ∨ (z_1 = 0 ∧ ¬ (0 ≤ a ∧ a < S))) := hw_
  have f5_v := hw_
  clear hw_
  refine z_if_eq (tgt := 34) F_ (by omega) dX7_water_8 (by decide) (fun c8 => ?_) (fun c8 => ?_)
  · refine lv_aload_n F_.1 F_.2.1 dX7_water_34 rfl (lv_at hl 0 rfl) ?_
    refine z_bipush F_ (by decide) dX7_water_35 ?_
    refine z_callVi F_ K_ W_ [.int (zi (-2))] (c_X7_refuse l_ D cy b q p x e cr t0 ab be rb rn ru (-2) (by first | omega | assumption)) 1 rfl gX7_water_X7_refuse rfl (by decide +kernel) ⟨⟨Nat.le_of_ble_eq_true rfl, Nat.le_of_ble_eq_true rfl⟩, rfl, rfl, Nat.zero_le _, Nat.zero_le _⟩ 0 0 6 rfl rfl rfl rfl hl.1 rfl (Nat.le_of_ble_eq_true rfl) [0] [1, 2] [wI cy q S M sk sc mk ms mp, wI cy p SJ MJ skJ scJ mkJ msJ mpJ] (fun (u_ : (Int) × (Int) × (Int)) => [wV cy b q p x e cr t0 ab be u_.1 u_.2.1 u_.2.2, wI cy q S M sk sc mk ms mp, wI cy p SJ MJ skJ scJ mkJ msJ mpJ]) 3 (by decide +kernel) rfl rfl rfl (fun _ => rfl) (fun _ => rfl) (fun _ => rfl) dX7_water_37 (fun z_2 u_ H_ lo_ hw_ W_ => ?_)
    obtain ⟨rb2_3, rn2_4, ru2_5⟩ := u_
    have W_ : WD D A_ s_.heap ([wV cy b q p x e cr t0 ab be rb2_3 rn2_4 ru2_5, wI cy q S M sk sc mk ms mp, wI cy p SJ MJ skJ scJ mkJ msJ mpJ]) H_ lo_ := W_
    replace hw_ : (z_2 = (-2)) ∧ (((-2) = -2 ∧ rb2_3 = rb + 1 ∧ rn2_4 = rn ∧ ru2_5 = ru) ∨ ((-2) = -3 ∧ rb2_3 = rb ∧ rn2_4 = rn + 1 ∧ ru2_5 = ru) ∨ (¬ (-2) = -2 ∧ ¬ (-2) = -3 ∧ rb2_3 = rb ∧ rn2_4 = rn ∧ ru2_5 = ru + 1)) := hw_
    obtain ⟨f37_v, f37_k⟩ := hw_
    exact hret _ _ _ _ z_2 (rb2_3, rn2_4, ru2_5, SJ, MJ, skJ, scJ, mkJ, msJ, mpJ) dX7_water_40 ⟨(by (try dsimp only) <;> (refine Or.inr (⟨?_, ?_, ?_, ?_, ?_⟩) <;> (first | omega | rfl | assumption))), (by (try dsimp only) <;> (omega)), (by (try dsimp only) <;> (omega)), bskJ, bscJ, bmkJ, bmsJ, bmpJ⟩ W_
  · refine lv_aload_n F_.1 F_.2.1 dX7_water_11 rfl (lv_at hl 0 rfl) ?_
    refine z_get F_ K_ W_ 0 0 0 rfl rfl rfl (C := RX7) (T := TX7) (N := 13) rfl (by decide) hinX7 (List.mem_of_getElem? (i := 1) rfl) dX7_water_12 ?_
    refine lv_iload_n F_.1 F_.2.1 dX7_water_15 rfl (lv_at hl 2 rfl) ?_
    refine z_callVip F_ K_ W_ [.int (zi c)] (c_X4_hasShip l_ D cy q S M sk sc mk ms mp c (by omega) (by omega) bsk bsc bmk bms bmp (by first | omega | assumption)) 1 rfl gX7_water_X4_hasShip rfl (by decide +kernel) ⟨⟨Nat.le_of_ble_eq_true rfl, Nat.le_of_ble_eq_true rfl⟩, rfl, rfl, Nat.zero_le _, Nat.zero_le _⟩ 0 0 4 rfl rfl rfl rfl hl.1 rfl (Nat.le_of_ble_eq_true rfl) [1] [0, 2] [wV cy b q p x e cr t0 ab be rb rn ru, wI cy p SJ MJ skJ scJ mkJ msJ mpJ] 3 (by decide +kernel) rfl rfl rfl dX7_water_16 (fun z_6 _ H_ lo_ hw_ W_ => ?_)
    replace hw_ : ((z_6 = 1 ∧ (0 ≤ c ∧ c < S)) ∨ (z_6 = 0 ∧ ¬ (0 ≤ c ∧ c < S))) := hw_
    have f16_v := hw_
    clear hw_
    refine z_if_eq (tgt := 34) F_ (by omega) dX7_water_19 (by decide) (fun c19 => ?_) (fun c19 => ?_)
    · refine lv_aload_n F_.1 F_.2.1 dX7_water_34 rfl (lv_at hl 0 rfl) ?_
      refine z_bipush F_ (by decide) dX7_water_35 ?_
      refine z_callVi F_ K_ W_ [.int (zi (-2))] (c_X7_refuse l_ D cy b q p x e cr t0 ab be rb rn ru (-2) (by first | omega | assumption)) 1 rfl gX7_water_X7_refuse rfl (by decide +kernel) ⟨⟨Nat.le_of_ble_eq_true rfl, Nat.le_of_ble_eq_true rfl⟩, rfl, rfl, Nat.zero_le _, Nat.zero_le _⟩ 0 0 6 rfl rfl rfl rfl hl.1 rfl (Nat.le_of_ble_eq_true rfl) [0] [1, 2] [wI cy q S M sk sc mk ms mp, wI cy p SJ MJ skJ scJ mkJ msJ mpJ] (fun (u_ : (Int) × (Int) × (Int)) => [wV cy b q p x e cr t0 ab be u_.1 u_.2.1 u_.2.2, wI cy q S M sk sc mk ms mp, wI cy p SJ MJ skJ scJ mkJ msJ mpJ]) 3 (by decide +kernel) rfl rfl rfl (fun _ => rfl) (fun _ => rfl) (fun _ => rfl) dX7_water_37 (fun z_7 u_ H_ lo_ hw_ W_ => ?_)
      obtain ⟨rb2_8, rn2_9, ru2_10⟩ := u_
      have W_ : WD D A_ s_.heap ([wV cy b q p x e cr t0 ab be rb2_8 rn2_9 ru2_10, wI cy q S M sk sc mk ms mp, wI cy p SJ MJ skJ scJ mkJ msJ mpJ]) H_ lo_ := W_
      replace hw_ : (z_7 = (-2)) ∧ (((-2) = -2 ∧ rb2_8 = rb + 1 ∧ rn2_9 = rn ∧ ru2_10 = ru) ∨ ((-2) = -3 ∧ rb2_8 = rb ∧ rn2_9 = rn + 1 ∧ ru2_10 = ru) ∨ (¬ (-2) = -2 ∧ ¬ (-2) = -3 ∧ rb2_8 = rb ∧ rn2_9 = rn ∧ ru2_10 = ru + 1)) := hw_
      obtain ⟨f37_v, f37_k⟩ := hw_
      exact hret _ _ _ _ z_7 (rb2_8, rn2_9, ru2_10, SJ, MJ, skJ, scJ, mkJ, msJ, mpJ) dX7_water_40 ⟨(by (try dsimp only) <;> (refine Or.inr (⟨?_, ?_, ?_, ?_, ?_⟩) <;> (first | omega | rfl | assumption))), (by (try dsimp only) <;> (omega)), (by (try dsimp only) <;> (omega)), bskJ, bscJ, bmkJ, bmsJ, bmpJ⟩ W_
    · refine lv_iload_n F_.1 F_.2.1 dX7_water_22 rfl (lv_at hl 1 rfl) ?_
      refine lv_iload_n F_.1 F_.2.1 dX7_water_23 rfl (lv_at hl 2 rfl) ?_
      refine z_icmp_eq (tgt := 34) F_ (by omega) dX7_water_24 (by decide) (fun c24 => ?_) (fun c24 => ?_)
      · refine lv_aload_n F_.1 F_.2.1 dX7_water_34 rfl (lv_at hl 0 rfl) ?_
        refine z_bipush F_ (by decide) dX7_water_35 ?_
        refine z_callVi F_ K_ W_ [.int (zi (-2))] (c_X7_refuse l_ D cy b q p x e cr t0 ab be rb rn ru (-2) (by first | omega | assumption)) 1 rfl gX7_water_X7_refuse rfl (by decide +kernel) ⟨⟨Nat.le_of_ble_eq_true rfl, Nat.le_of_ble_eq_true rfl⟩, rfl, rfl, Nat.zero_le _, Nat.zero_le _⟩ 0 0 6 rfl rfl rfl rfl hl.1 rfl (Nat.le_of_ble_eq_true rfl) [0] [1, 2] [wI cy q S M sk sc mk ms mp, wI cy p SJ MJ skJ scJ mkJ msJ mpJ] (fun (u_ : (Int) × (Int) × (Int)) => [wV cy b q p x e cr t0 ab be u_.1 u_.2.1 u_.2.2, wI cy q S M sk sc mk ms mp, wI cy p SJ MJ skJ scJ mkJ msJ mpJ]) 3 (by decide +kernel) rfl rfl rfl (fun _ => rfl) (fun _ => rfl) (fun _ => rfl) dX7_water_37 (fun z_11 u_ H_ lo_ hw_ W_ => ?_)
        obtain ⟨rb2_12, rn2_13, ru2_14⟩ := u_
        have W_ : WD D A_ s_.heap ([wV cy b q p x e cr t0 ab be rb2_12 rn2_13 ru2_14, wI cy q S M sk sc mk ms mp, wI cy p SJ MJ skJ scJ mkJ msJ mpJ]) H_ lo_ := W_
        replace hw_ : (z_11 = (-2)) ∧ (((-2) = -2 ∧ rb2_12 = rb + 1 ∧ rn2_13 = rn ∧ ru2_14 = ru) ∨ ((-2) = -3 ∧ rb2_12 = rb ∧ rn2_13 = rn + 1 ∧ ru2_14 = ru) ∨ (¬ (-2) = -2 ∧ ¬ (-2) = -3 ∧ rb2_12 = rb ∧ rn2_13 = rn ∧ ru2_14 = ru + 1)) := hw_
        obtain ⟨f37_v, f37_k⟩ := hw_
        exact hret _ _ _ _ z_11 (rb2_12, rn2_13, ru2_14, SJ, MJ, skJ, scJ, mkJ, msJ, mpJ) dX7_water_40 ⟨(by (try dsimp only) <;> (refine Or.inr (⟨?_, ?_, ?_, ?_, ?_⟩) <;> (first | omega | rfl | assumption))), (by (try dsimp only) <;> (omega)), (by (try dsimp only) <;> (omega)), bskJ, bscJ, bmkJ, bmsJ, bmpJ⟩ W_
      · refine lv_iload_n F_.1 F_.2.1 dX7_water_27 rfl (lv_at hl 3 rfl) ?_
        refine z_callSip F_ K_ W_ [.int (zi d)] (c_X7_isDistance l_ D cy d (by first | omega | assumption)) 1 rfl gX7_water_X7_isDistance rfl (by decide +kernel) ⟨⟨Nat.le_of_ble_eq_true rfl, Nat.le_of_ble_eq_true rfl⟩, rfl, rfl, Nat.zero_le _, Nat.zero_le _⟩ hl.1 rfl (Nat.le_of_ble_eq_true rfl) ([] : List Nat) [0, 1, 2] [wV cy b q p x e cr t0 ab be rb rn ru, wI cy q S M sk sc mk ms mp, wI cy p SJ MJ skJ scJ mkJ msJ mpJ] 3 (by decide +kernel) rfl rfl rfl dX7_water_28 (fun z_15 _ H_ lo_ hw_ W_ => ?_)
        replace hw_ : ((z_15 = 1 ∧ (1 ≤ d ∧ d ≤ 30)) ∨ (z_15 = 0 ∧ ¬ (1 ≤ d ∧ d ≤ 30))) := hw_
        have f28_v := hw_
        clear hw_
        refine z_if_ne (tgt := 41) F_ (by omega) dX7_water_31 (by decide) (fun c31 => ?_) (fun c31 => ?_)
        · refine lv_aload_n F_.1 F_.2.1 dX7_water_41 rfl (lv_at hl 0 rfl) ?_
          refine z_get F_ K_ W_ 0 0 1 rfl rfl rfl (C := RX7) (T := TX7) (N := 13) rfl (by decide) hinX7 (List.mem_of_getElem? (i := 2) rfl) dX7_water_42 ?_
          refine lv_aload_n F_.1 F_.2.1 dX7_water_45 rfl (lv_at hl 0 rfl) ?_
          refine z_get F_ K_ W_ 0 0 0 rfl rfl rfl (C := RX7) (T := TX7) (N := 13) rfl (by decide) hinX7 (List.mem_of_getElem? (i := 1) rfl) dX7_water_46 ?_
          refine z_callVv F_ K_ W_ [.ref (q 0)] (c_X4_takePlaces l_ D cy p SJ MJ skJ scJ mkJ msJ mpJ q S M sk sc mk ms mp (by omega) (by omega) bskJ bscJ bmkJ bmsJ bmpJ (by omega) (by omega) bsk bsc bmk bms bmp) 1 rfl gX7_water_X4_takePlaces rfl (by decide +kernel) ⟨⟨Nat.le_of_ble_eq_true rfl, Nat.le_of_ble_eq_true rfl⟩, rfl, rfl, Nat.zero_le _, Nat.zero_le _⟩ 0 0 4 rfl rfl rfl rfl hl.1 rfl (Nat.le_of_ble_eq_true rfl) [2, 1] [0] [wV cy b q p x e cr t0 ab be rb rn ru] (fun (u_ : (Int → Int) × (Int → Int) × (Int → Int) × (Int → Int) × (Int → Int)) => [wV cy b q p x e cr t0 ab be rb rn ru, wI cy q S M sk sc mk ms mp, wI cy p S M u_.1 u_.2.1 u_.2.2.1 u_.2.2.2.1 u_.2.2.2.2]) 3 (by decide +kernel) rfl rfl rfl (fun _ => rfl) (fun _ => rfl) (fun _ => rfl) dX7_water_49 (fun u_ H_ lo_ hw_ W_ => ?_)
          obtain ⟨nk_17, nc_18, n1_19, n2_20, n3_21⟩ := u_
          have W_ : WD D A_ s_.heap ([wV cy b q p x e cr t0 ab be rb rn ru, wI cy q S M sk sc mk ms mp, wI cy p S M nk_17 nc_18 n1_19 n2_20 n3_21]) H_ lo_ := W_
          replace hw_ : (nk_17 = zcp sk skJ 0 0 3) ∧ (nc_18 = zcp sc scJ 0 0 3) ∧ (n1_19 = zcp mk mkJ 0 0 8) ∧ (n2_20 = zcp ms msJ 0 0 8) ∧ (n3_21 = zcp mp mpJ 0 0 8) ∧ (0 ≤ S ∧ S ≤ 3) ∧ (0 ≤ M ∧ M ≤ 8) ∧ (∀ j : Int, 0 ≤ nk_17 j ∧ nk_17 j ≤ 5) ∧ (∀ j : Int, 0 ≤ nc_18 j ∧ nc_18 j ≤ 99) ∧ (∀ j : Int, 0 ≤ n1_19 j ∧ n1_19 j ≤ 5) ∧ (∀ j : Int, 0 ≤ n2_20 j ∧ n2_20 j ≤ 9) ∧ (∀ j : Int, (-1) ≤ n3_21 j ∧ n3_21 j ≤ 2) := hw_
          obtain ⟨f49_k, f49_c, f49_a1, f49_a2, f49_a3, f49_B_I_S, f49_B_I_M, f49_B_I_sk, f49_B_I_sc, f49_B_I_mk, f49_B_I_ms, f49_B_I_mp⟩ := hw_
          have W_ : WD D A_ s_.heap ([wV cy b q p x e cr t0 ab be rb rn ru, wI cy q S M sk sc mk ms mp, wI cy p S M sk nc_18 n1_19 n2_20 n3_21]) H_ lo_ := wd_cell W_ 2 1 rfl rfl rfl (by intro k_ h1_ h2_; rw [f49_k, zcp_in _ _ (by omega)]; congr 1; omega)
          have W_ : WD D A_ s_.heap ([wV cy b q p x e cr t0 ab be rb rn ru, wI cy q S M sk sc mk ms mp, wI cy p S M sk sc n1_19 n2_20 n3_21]) H_ lo_ := wd_cell W_ 2 2 rfl rfl rfl (by intro k_ h1_ h2_; rw [f49_c, zcp_in _ _ (by omega)]; congr 1; omega)
          have W_ : WD D A_ s_.heap ([wV cy b q p x e cr t0 ab be rb rn ru, wI cy q S M sk sc mk ms mp, wI cy p S M sk sc mk n2_20 n3_21]) H_ lo_ := wd_cell W_ 2 3 rfl rfl rfl (by intro k_ h1_ h2_; rw [f49_a1, zcp_in _ _ (by omega)]; congr 1; omega)
          have W_ : WD D A_ s_.heap ([wV cy b q p x e cr t0 ab be rb rn ru, wI cy q S M sk sc mk ms mp, wI cy p S M sk sc mk ms n3_21]) H_ lo_ := wd_cell W_ 2 4 rfl rfl rfl (by intro k_ h1_ h2_; rw [f49_a2, zcp_in _ _ (by omega)]; congr 1; omega)
          have W_ : WD D A_ s_.heap ([wV cy b q p x e cr t0 ab be rb rn ru, wI cy q S M sk sc mk ms mp, wI cy p S M sk sc mk ms mp]) H_ lo_ := wd_cell W_ 2 5 rfl rfl rfl (by intro k_ h1_ h2_; rw [f49_a3, zcp_in _ _ (by omega)]; congr 1; omega)
          refine lv_aload_n F_.1 F_.2.1 dX7_water_52 rfl (lv_at hl 0 rfl) ?_
          refine z_get F_ K_ W_ 0 0 1 rfl rfl rfl (C := RX7) (T := TX7) (N := 13) rfl (by decide) hinX7 (List.mem_of_getElem? (i := 2) rfl) dX7_water_53 ?_
          refine lv_iload_n F_.1 F_.2.1 dX7_water_56 rfl (lv_at hl 1 rfl) ?_
          refine z_callVi F_ K_ W_ [.int (zi a)] (c_X4_leaveOne l_ D cy p S M sk sc mk ms mp a (by omega) (by omega) bsk bsc bmk bms bmp (by first | omega | assumption)) 1 rfl gX7_water_X4_leaveOne rfl (by decide +kernel) ⟨⟨Nat.le_of_ble_eq_true rfl, Nat.le_of_ble_eq_true rfl⟩, rfl, rfl, Nat.zero_le _, Nat.zero_le _⟩ 0 0 4 rfl rfl rfl rfl hl.1 rfl (Nat.le_of_ble_eq_true rfl) [2] [0, 1] [wV cy b q p x e cr t0 ab be rb rn ru, wI cy q S M sk sc mk ms mp] (fun (u_ : (Int → Int) × (Int → Int)) => [wV cy b q p x e cr t0 ab be rb rn ru, wI cy q S M sk sc mk ms mp, wI cy p S M sk u_.1 mk ms u_.2]) 3 (by decide +kernel) rfl rfl rfl (fun _ => rfl) (fun _ => rfl) (fun _ => rfl) dX7_water_57 (fun z_22 u_ H_ lo_ hw_ W_ => ?_)
          obtain ⟨sc2_23, mp2_24⟩ := u_
          have W_ : WD D A_ s_.heap ([wV cy b q p x e cr t0 ab be rb rn ru, wI cy q S M sk sc mk ms mp, wI cy p S M sk sc2_23 mk ms mp2_24]) H_ lo_ := W_
          replace hw_ : (z_22 = lstI S M sc mk ms mp a) ∧ (mp2_24 = goMp mp z_22) ∧ (sc2_23 = goSc sc a z_22) ∧ (∀ j : Int, 0 ≤ sc2_23 j ∧ sc2_23 j ≤ 99) ∧ (∀ j : Int, (-1) ≤ mp2_24 j ∧ mp2_24 j ≤ 2) := hw_
          obtain ⟨f57_v, f57_p, f57_c, f57_B_I_sc, f57_B_I_mp⟩ := hw_
          have el57 := f57_v
          refine lv_pop F_.1 F_.2.1 dX7_water_60 rfl ?_
          refine lv_aload_n F_.1 F_.2.1 dX7_water_61 rfl (lv_at hl 0 rfl) ?_
          refine z_get F_ K_ W_ 0 0 1 rfl rfl rfl (C := RX7) (T := TX7) (N := 13) rfl (by decide) hinX7 (List.mem_of_getElem? (i := 2) rfl) dX7_water_62 ?_
          refine lv_iload_n F_.1 F_.2.1 dX7_water_65 rfl (lv_at hl 2 rfl) ?_
          refine z_callVi F_ K_ W_ [.int (zi c)] (c_X4_leaveOne l_ D cy p S M sk sc2_23 mk ms mp2_24 c (by omega) (by omega) bsk f57_B_I_sc bmk bms f57_B_I_mp (by first | omega | assumption)) 1 rfl gX7_water_X4_leaveOne rfl (by decide +kernel) ⟨⟨Nat.le_of_ble_eq_true rfl, Nat.le_of_ble_eq_true rfl⟩, rfl, rfl, Nat.zero_le _, Nat.zero_le _⟩ 0 0 4 rfl rfl rfl rfl hl.1 rfl (Nat.le_of_ble_eq_true rfl) [2] [0, 1] [wV cy b q p x e cr t0 ab be rb rn ru, wI cy q S M sk sc mk ms mp] (fun (u_ : (Int → Int) × (Int → Int)) => [wV cy b q p x e cr t0 ab be rb rn ru, wI cy q S M sk sc mk ms mp, wI cy p S M sk u_.1 mk ms u_.2]) 3 (by decide +kernel) rfl rfl rfl (fun _ => rfl) (fun _ => rfl) (fun _ => rfl) dX7_water_66 (fun z_25 u_ H_ lo_ hw_ W_ => ?_)
          obtain ⟨sc2_26, mp2_27⟩ := u_
          have W_ : WD D A_ s_.heap ([wV cy b q p x e cr t0 ab be rb rn ru, wI cy q S M sk sc mk ms mp, wI cy p S M sk sc2_26 mk ms mp2_27]) H_ lo_ := W_
          replace hw_ : (z_25 = lstI S M sc2_23 mk ms mp2_24 c) ∧ (mp2_27 = goMp mp2_24 z_25) ∧ (sc2_26 = goSc sc2_23 c z_25) ∧ (∀ j : Int, 0 ≤ sc2_26 j ∧ sc2_26 j ≤ 99) ∧ (∀ j : Int, (-1) ≤ mp2_27 j ∧ mp2_27 j ≤ 2) := hw_
          obtain ⟨f66_v, f66_p, f66_c, f66_B_I_sc, f66_B_I_mp⟩ := hw_
          rw [f57_v] at f57_p f57_c
          rw [f57_c, f57_p] at f66_v
          rw [f66_v, f57_p] at f66_p
          refine lv_pop F_.1 F_.2.1 dX7_water_69 rfl ?_
          refine lv_aload_n F_.1 F_.2.1 dX7_water_70 rfl (lv_at hl 0 rfl) ?_
          refine lv_iload_n F_.1 F_.2.1 dX7_water_71 rfl (lv_at hl 1 rfl) ?_
          refine lv_iload_n F_.1 F_.2.1 dX7_water_72 rfl (lv_at hl 3 rfl) ?_
          refine z_callVip F_ K_ W_ [.int (zi a), .int (zi d)] (c_X7_gainByCalling l_ D cy b q p x e cr t0 ab be rb rn ru S M sk sc mk ms mp S M sk sc2_26 mk ms mp2_27 a d (by omega) (by omega) bsk bsc bmk bms bmp (by omega) (by omega) bsk f66_B_I_sc bmk bms f66_B_I_mp (by first | omega | assumption) (by first | omega | assumption) (by first | omega | assumption)) 2 rfl gX7_water_X7_gainByCalling rfl (by decide +kernel) ⟨⟨Nat.le_of_ble_eq_true rfl, Nat.le_of_ble_eq_true rfl⟩, rfl, rfl, Nat.zero_le _, Nat.zero_le _⟩ 0 0 6 rfl rfl rfl rfl hl.1 rfl (Nat.le_of_ble_eq_true rfl) [0, 1, 2] ([] : List Nat) ([] : List va_W) 3 (by decide +kernel) rfl rfl rfl dX7_water_73 (fun z_28 _ H_ lo_ hw_ W_ => ?_)
          replace hw_ : (z_28 = gnI (cnI S M sk ms mp2_27 a d) (cnI S M sk ms mp a d)) := hw_
          have f73_v := hw_
          clear hw_
          have hgb73 : z_28 = 8 ∨ z_28 = 4 ∨ z_28 = -2 ∨ z_28 = -6 := by rw [f73_v]; unfold gnI; split <;> split <;> omega
          have f73x := f73_v
          rw [f66_p] at f73x
          clear f73_v
          refine lv_istore (lv' := [(4, .int (zi z_28)), (0, .ref (b 0)), (1, .int (zi a)), (2, .int (zi c)), (3, .int (zi d))]) F_.1 F_.2.1 dX7_water_76 hl (by decide) rfl (fun ls_ hl => ?_)
          refine lv_aload_n F_.1 F_.2.1 dX7_water_78 rfl (lv_at hl 1 rfl) ?_
          refine lv_iload_n F_.1 F_.2.1 dX7_water_79 rfl (lv_at hl 3 rfl) ?_
          refine lv_iload_n F_.1 F_.2.1 dX7_water_80 rfl (lv_at hl 4 rfl) ?_
          refine z_callVip F_ K_ W_ [.int (zi c), .int (zi d)] (c_X7_gainByCalling l_ D cy b q p x e cr t0 ab be rb rn ru S M sk sc mk ms mp S M sk sc2_26 mk ms mp2_27 c d (by omega) (by omega) bsk bsc bmk bms bmp (by omega) (by omega) bsk f66_B_I_sc bmk bms f66_B_I_mp (by first | omega | assumption) (by first | omega | assumption) (by first | omega | assumption)) 2 rfl gX7_water_X7_gainByCalling rfl (by decide +kernel) ⟨⟨Nat.le_of_ble_eq_true rfl, Nat.le_of_ble_eq_true rfl⟩, rfl, rfl, Nat.zero_le _, Nat.zero_le _⟩ 0 0 6 rfl rfl rfl rfl hl.1 rfl (Nat.le_of_ble_eq_true rfl) [0, 1, 2] ([] : List Nat) ([] : List va_W) 3 (by decide +kernel) rfl rfl rfl dX7_water_81 (fun z_29 _ H_ lo_ hw_ W_ => ?_)
          replace hw_ : (z_29 = gnI (cnI S M sk ms mp2_27 c d) (cnI S M sk ms mp c d)) := hw_
          have f81_v := hw_
          clear hw_
          have hgb81 : z_29 = 8 ∨ z_29 = 4 ∨ z_29 = -2 ∨ z_29 = -6 := by rw [f81_v]; unfold gnI; split <;> split <;> omega
          have f81x := f81_v
          rw [f66_p] at f81x
          clear f81_v
          refine lv_istore (lv' := [(5, .int (zi z_29)), (4, .int (zi z_28)), (0, .ref (b 0)), (1, .int (zi a)), (2, .int (zi c)), (3, .int (zi d))]) F_.1 F_.2.1 dX7_water_84 hl (by decide) rfl (fun ls_ hl => ?_)
          refine z_iconst F_ dX7_water_86 ?_
          refine lv_istore (lv' := [(6, .int (zi 0)), (5, .int (zi z_29)), (4, .int (zi z_28)), (0, .ref (b 0)), (1, .int (zi a)), (2, .int (zi c)), (3, .int (zi d))]) F_.1 F_.2.1 dX7_water_87 hl (by decide) rfl (fun ls_ hl => ?_)
          refine lv_iload F_.1 F_.2.1 dX7_water_89 (lv_at hl 2 rfl) ?_
          have J105 : ∀ (v1 : Int) (hv1 : v1 = (if z_28 ≤ 0 ∧ z_29 ≤ 0 then 1 else 0)) (bv1 : 0 ≤ v1 ∧ v1 < 2) (ls_ : Array Slot) (H_ : Heap) (lo_ : List Loc), WD D A_ s_.heap ([wV cy b q p x e cr t0 ab be rb rn ru, wI cy q S M sk sc mk ms mp, wI cy p S M sk sc2_26 mk ms mp2_27]) H_ lo_ → lv_has ls_ 7 [(6, .int (zi v1)), (5, .int (zi z_29)), (4, .int (zi z_28)), (0, .ref (b 0)), (1, .int (zi a)), (2, .int (zi c)), (3, .int (zi d))] → W p_ l_ e_ rX7_water s_ m_ ar_ be_ me_ c_ H_ lo_ 0 0 Q_ (F0 m_ 105 ls_ []) := by
            intro v1 hv1 bv1 ls_ H_ lo_ W_ hl
            refine lv_iload F_.1 F_.2.1 dX7_water_105 (lv_at hl 2 rfl) ?_
            have J122 : ∀ (v2 : Int) (hv2 : v2 = (if z_28 ≤ 0 ∧ z_29 ≤ 0 then 1 else 0) + (if 0 ≤ z_28 ∧ z_29 ≤ 3 then 2 else 0)) (bv2 : 0 ≤ v2 ∧ v2 < 4) (ls_ : Array Slot) (H_ : Heap) (lo_ : List Loc), WD D A_ s_.heap ([wV cy b q p x e cr t0 ab be rb rn ru, wI cy q S M sk sc mk ms mp, wI cy p S M sk sc2_26 mk ms mp2_27]) H_ lo_ → lv_has ls_ 7 [(6, .int (zi v2)), (5, .int (zi z_29)), (4, .int (zi z_28)), (0, .ref (b 0)), (1, .int (zi a)), (2, .int (zi c)), (3, .int (zi d))] → W p_ l_ e_ rX7_water s_ m_ ar_ be_ me_ c_ H_ lo_ 0 0 Q_ (F0 m_ 122 ls_ []) := by
              intro v2 hv2 bv2 ls_ H_ lo_ W_ hl
              refine lv_iload F_.1 F_.2.1 dX7_water_122 (lv_at hl 1 rfl) ?_
              have J139 : ∀ (v3 : Int) (hv3 : v3 = (if z_28 ≤ 0 ∧ z_29 ≤ 0 then 1 else 0) + (if 0 ≤ z_28 ∧ z_29 ≤ 3 then 2 else 0) + (if 0 ≤ z_29 ∧ z_28 ≤ 3 then 4 else 0)) (bv3 : 0 ≤ v3 ∧ v3 < 8) (ls_ : Array Slot) (H_ : Heap) (lo_ : List Loc), WD D A_ s_.heap ([wV cy b q p x e cr t0 ab be rb rn ru, wI cy q S M sk sc mk ms mp, wI cy p S M sk sc2_26 mk ms mp2_27]) H_ lo_ → lv_has ls_ 7 [(6, .int (zi v3)), (5, .int (zi z_29)), (4, .int (zi z_28)), (0, .ref (b 0)), (1, .int (zi a)), (2, .int (zi c)), (3, .int (zi d))] → W p_ l_ e_ rX7_water s_ m_ ar_ be_ me_ c_ H_ lo_ 0 0 Q_ (F0 m_ 139 ls_ []) := by
                intro v3 hv3 bv3 ls_ H_ lo_ W_ hl
                refine lv_iload F_.1 F_.2.1 dX7_water_139 (lv_at hl 2 rfl) ?_
                refine z_iconst F_ dX7_water_141 ?_
                refine z_icmp_lt (tgt := 158) F_ (by omega) dX7_water_142 (by decide) (fun c142 => ?_) (fun c142 => ?_)
                · refine lv_iload F_.1 F_.2.1 dX7_water_158 (lv_at hl 0 rfl) ?_
                  exact hret _ _ _ _ v3 (rb, rn, ru, S, M, sk, sc2_26, mk, ms, mp2_27) dX7_water_160 ⟨(by (try dsimp only) <;> (exact Or.inl ⟨by omega, by rw [← f73x, ← f81x]; unfold watI; first | rw [if_neg (show ¬ (3 ≤ z_28 ∧ 3 ≤ z_29) by omega), hv3, Int.add_zero] | rw [if_pos (show 3 ≤ z_28 ∧ 3 ≤ z_29 by omega), hv3], rfl, rfl, rfl⟩)), (by (try dsimp only) <;> (omega)), (by (try dsimp only) <;> (omega)), bsk, f66_B_I_sc, bmk, bms, f66_B_I_mp⟩ W_
                · refine lv_iload F_.1 F_.2.1 dX7_water_145 (lv_at hl 1 rfl) ?_
                  refine z_iconst F_ dX7_water_147 ?_
                  refine z_icmp_lt (tgt := 158) F_ (by omega) dX7_water_148 (by decide) (fun c148 => ?_) (fun c148 => ?_)
                  · refine lv_iload F_.1 F_.2.1 dX7_water_158 (lv_at hl 0 rfl) ?_
                    exact hret _ _ _ _ v3 (rb, rn, ru, S, M, sk, sc2_26, mk, ms, mp2_27) dX7_water_160 ⟨(by (try dsimp only) <;> (exact Or.inl ⟨by omega, by rw [← f73x, ← f81x]; unfold watI; first | rw [if_neg (show ¬ (3 ≤ z_28 ∧ 3 ≤ z_29) by omega), hv3, Int.add_zero] | rw [if_pos (show 3 ≤ z_28 ∧ 3 ≤ z_29 by omega), hv3], rfl, rfl, rfl⟩)), (by (try dsimp only) <;> (omega)), (by (try dsimp only) <;> (omega)), bsk, f66_B_I_sc, bmk, bms, f66_B_I_mp⟩ W_
                  · refine lv_iload F_.1 F_.2.1 dX7_water_151 (lv_at hl 0 rfl) ?_
                    refine z_bipush F_ (by decide) dX7_water_153 ?_
                    refine z_ior F_ (by omega) dX7_water_155 ?_
                    have i_30 : zor v3 8 = v3 + 8 := by exact zor_k (by omega)
                    rw [i_30]
                    refine lv_istore (lv' := [(6, .int (zi (v3 + 8))), (5, .int (zi z_29)), (4, .int (zi z_28)), (0, .ref (b 0)), (1, .int (zi a)), (2, .int (zi c)), (3, .int (zi d))]) F_.1 F_.2.1 dX7_water_156 hl (by decide) rfl (fun ls_ hl => ?_)
                    refine lv_iload F_.1 F_.2.1 dX7_water_158 (lv_at hl 0 rfl) ?_
                    exact hret _ _ _ _ (v3 + 8) (rb, rn, ru, S, M, sk, sc2_26, mk, ms, mp2_27) dX7_water_160 ⟨(by (try dsimp only) <;> (exact Or.inl ⟨by omega, by rw [← f73x, ← f81x]; unfold watI; first | rw [if_neg (show ¬ (3 ≤ z_28 ∧ 3 ≤ z_29) by omega), hv3, Int.add_zero] | rw [if_pos (show 3 ≤ z_28 ∧ 3 ≤ z_29 by omega), hv3], rfl, rfl, rfl⟩)), (by (try dsimp only) <;> (omega)), (by (try dsimp only) <;> (omega)), bsk, f66_B_I_sc, bmk, bms, f66_B_I_mp⟩ W_
              refine z_if_lt (tgt := 139) F_ (by omega) dX7_water_124 (by decide) (fun c124 => ?_) (fun c124 => ?_)
              · exact J139 v2 (by (repeat (first | rw [if_pos (by omega)] | rw [if_neg (by omega)])) <;> omega) (by omega) ls_ H_ lo_ W_ (lv_sub hl [0, 1, 2, 3, 4, 5, 6] rfl)
              · refine lv_iload F_.1 F_.2.1 dX7_water_127 (lv_at hl 2 rfl) ?_
                refine z_iconst F_ dX7_water_129 ?_
                refine z_icmp_gt (tgt := 139) F_ (by omega) dX7_water_130 (by decide) (fun c130 => ?_) (fun c130 => ?_)
                · exact J139 v2 (by (repeat (first | rw [if_pos (by omega)] | rw [if_neg (by omega)])) <;> omega) (by omega) ls_ H_ lo_ W_ (lv_sub hl [0, 1, 2, 3, 4, 5, 6] rfl)
                · refine lv_iload F_.1 F_.2.1 dX7_water_133 (lv_at hl 0 rfl) ?_
                  refine z_iconst F_ dX7_water_135 ?_
                  refine z_ior F_ (by omega) dX7_water_136 ?_
                  have i_31 : zor v2 4 = v2 + 4 := by exact zor_k (by omega)
                  rw [i_31]
                  refine lv_istore (lv' := [(6, .int (zi (v2 + 4))), (5, .int (zi z_29)), (4, .int (zi z_28)), (0, .ref (b 0)), (1, .int (zi a)), (2, .int (zi c)), (3, .int (zi d))]) F_.1 F_.2.1 dX7_water_137 hl (by decide) rfl (fun ls_ hl => ?_)
                  exact J139 (v2 + 4) (by (repeat (first | rw [if_pos (by omega)] | rw [if_neg (by omega)])) <;> omega) (by omega) ls_ H_ lo_ W_ (lv_sub hl [0, 1, 2, 3, 4, 5, 6] rfl)
            refine z_if_lt (tgt := 122) F_ (by omega) dX7_water_107 (by decide) (fun c107 => ?_) (fun c107 => ?_)
            · exact J122 v1 (by (repeat (first | rw [if_pos (by omega)] | rw [if_neg (by omega)])) <;> omega) (by omega) ls_ H_ lo_ W_ (lv_sub hl [0, 1, 2, 3, 4, 5, 6] rfl)
            · refine lv_iload F_.1 F_.2.1 dX7_water_110 (lv_at hl 1 rfl) ?_
              refine z_iconst F_ dX7_water_112 ?_
              refine z_icmp_gt (tgt := 122) F_ (by omega) dX7_water_113 (by decide) (fun c113 => ?_) (fun c113 => ?_)
              · exact J122 v1 (by (repeat (first | rw [if_pos (by omega)] | rw [if_neg (by omega)])) <;> omega) (by omega) ls_ H_ lo_ W_ (lv_sub hl [0, 1, 2, 3, 4, 5, 6] rfl)
              · refine lv_iload F_.1 F_.2.1 dX7_water_116 (lv_at hl 0 rfl) ?_
                refine z_iconst F_ dX7_water_118 ?_
                refine z_ior F_ (by omega) dX7_water_119 ?_
                have i_32 : zor v1 2 = v1 + 2 := by exact zor_k (by omega)
                rw [i_32]
                refine lv_istore (lv' := [(6, .int (zi (v1 + 2))), (5, .int (zi z_29)), (4, .int (zi z_28)), (0, .ref (b 0)), (1, .int (zi a)), (2, .int (zi c)), (3, .int (zi d))]) F_.1 F_.2.1 dX7_water_120 hl (by decide) rfl (fun ls_ hl => ?_)
                exact J122 (v1 + 2) (by (repeat (first | rw [if_pos (by omega)] | rw [if_neg (by omega)])) <;> omega) (by omega) ls_ H_ lo_ W_ (lv_sub hl [0, 1, 2, 3, 4, 5, 6] rfl)
          refine z_if_gt (tgt := 105) F_ (by omega) dX7_water_91 (by decide) (fun c91 => ?_) (fun c91 => ?_)
          · exact J105 0 (by (repeat (first | rw [if_pos (by omega)] | rw [if_neg (by omega)])) <;> omega) (by omega) ls_ H_ lo_ W_ (lv_sub hl [0, 1, 2, 3, 4, 5, 6] rfl)
          · refine lv_iload F_.1 F_.2.1 dX7_water_94 (lv_at hl 1 rfl) ?_
            refine z_if_gt (tgt := 105) F_ (by omega) dX7_water_96 (by decide) (fun c96 => ?_) (fun c96 => ?_)
            · exact J105 0 (by (repeat (first | rw [if_pos (by omega)] | rw [if_neg (by omega)])) <;> omega) (by omega) ls_ H_ lo_ W_ (lv_sub hl [0, 1, 2, 3, 4, 5, 6] rfl)
            · refine lv_iload F_.1 F_.2.1 dX7_water_99 (lv_at hl 0 rfl) ?_
              refine z_iconst F_ dX7_water_101 ?_
              refine z_ior F_ (by omega) dX7_water_102 ?_
              have i_33 : zor 0 1 = 0 + 1 := by exact zor_k (by omega)
              rw [i_33]
              refine lv_istore (lv' := [(6, .int (zi (0 + 1))), (5, .int (zi z_29)), (4, .int (zi z_28)), (0, .ref (b 0)), (1, .int (zi a)), (2, .int (zi c)), (3, .int (zi d))]) F_.1 F_.2.1 dX7_water_103 hl (by decide) rfl (fun ls_ hl => ?_)
              exact J105 (0 + 1) (by (repeat (first | rw [if_pos (by omega)] | rw [if_neg (by omega)])) <;> omega) (by omega) ls_ H_ lo_ W_ (lv_sub hl [0, 1, 2, 3, 4, 5, 6] rfl)
        · refine lv_aload_n F_.1 F_.2.1 dX7_water_34 rfl (lv_at hl 0 rfl) ?_
          refine z_bipush F_ (by decide) dX7_water_35 ?_
          refine z_callVi F_ K_ W_ [.int (zi (-2))] (c_X7_refuse l_ D cy b q p x e cr t0 ab be rb rn ru (-2) (by first | omega | assumption)) 1 rfl gX7_water_X7_refuse rfl (by decide +kernel) ⟨⟨Nat.le_of_ble_eq_true rfl, Nat.le_of_ble_eq_true rfl⟩, rfl, rfl, Nat.zero_le _, Nat.zero_le _⟩ 0 0 6 rfl rfl rfl rfl hl.1 rfl (Nat.le_of_ble_eq_true rfl) [0] [1, 2] [wI cy q S M sk sc mk ms mp, wI cy p SJ MJ skJ scJ mkJ msJ mpJ] (fun (u_ : (Int) × (Int) × (Int)) => [wV cy b q p x e cr t0 ab be u_.1 u_.2.1 u_.2.2, wI cy q S M sk sc mk ms mp, wI cy p SJ MJ skJ scJ mkJ msJ mpJ]) 3 (by decide +kernel) rfl rfl rfl (fun _ => rfl) (fun _ => rfl) (fun _ => rfl) dX7_water_37 (fun z_34 u_ H_ lo_ hw_ W_ => ?_)
          obtain ⟨rb2_35, rn2_36, ru2_37⟩ := u_
          have W_ : WD D A_ s_.heap ([wV cy b q p x e cr t0 ab be rb2_35 rn2_36 ru2_37, wI cy q S M sk sc mk ms mp, wI cy p SJ MJ skJ scJ mkJ msJ mpJ]) H_ lo_ := W_
          replace hw_ : (z_34 = (-2)) ∧ (((-2) = -2 ∧ rb2_35 = rb + 1 ∧ rn2_36 = rn ∧ ru2_37 = ru) ∨ ((-2) = -3 ∧ rb2_35 = rb ∧ rn2_36 = rn + 1 ∧ ru2_37 = ru) ∨ (¬ (-2) = -2 ∧ ¬ (-2) = -3 ∧ rb2_35 = rb ∧ rn2_36 = rn ∧ ru2_37 = ru + 1)) := hw_
          obtain ⟨f37_v, f37_k⟩ := hw_
          exact hret _ _ _ _ z_34 (rb2_35, rn2_36, ru2_37, SJ, MJ, skJ, scJ, mkJ, msJ, mpJ) dX7_water_40 ⟨(by (try dsimp only) <;> (refine Or.inr (⟨?_, ?_, ?_, ?_, ?_⟩) <;> (first | omega | rfl | assumption))), (by (try dsimp only) <;> (omega)), (by (try dsimp only) <;> (omega)), bskJ, bscJ, bmkJ, bmsJ, bmpJ⟩ W_
abbrev rX7_keepFraction : Room := { frames := 1, cells := 0, slots := 0, locals := 13 }
set_option maxHeartbeats 1000000 in
set_option maxRecDepth 100000 in
theorem c_X7_keepFraction (l_ : Launch) (D : va_G) (cy : Nat → ClassId) (b : Nat → Nat) (q : Nat → Nat) (p : Nat → Nat) (x : Nat → Nat) (e : Nat → Nat) (cr : Nat → Nat) (t0 : Nat) (ab : Int) (be : Int) (rb : Int) (rn : Int) (ru : Int) (ov : Int) (un : Int) (rov : -2147483648 ≤ ov ∧ ov < 2147483648) (run : -2147483648 ≤ un ∧ un < 2147483648) (ho : 0 ≤ ov ∧ ov ≤ 8) (hu : 1 ≤ un ∧ un ≤ 8) : CTv l_ D cy yX7_keepFraction wsX7_keepFraction rX7_keepFraction [.ref (b 0), .int (zi ov), .int (zi un)] ([wV cy b q p x e cr t0 ab be rb rn ru]) (fun (u : (Int) × (Int)) => (u.1 = ov / gcdZ ov un) ∧ (u.2 = un / gcdZ ov un)) (fun (u : (Int) × (Int)) => [wV cy b q p x e cr t0 u.1 u.2 rb rn ru]) := by
  refine CTv.of RX7 cX7_keepFraction 4 rfl (by decide) rfl (Nat.le_of_ble_eq_true rfl) ?_
  intro p_ e_ s_ m_ ar_ be_ me_ c_ Q_ A_ ls_ F_ K_ W_ hl hret
  have hl : lv_has ls_ 4 [(0, .ref (b 0)), (1, .int (zi ov)), (2, .int (zi un))] := hl
  obtain ⟨H_, hH_⟩ : ∃ x, x = s_.heap := ⟨_, rfl⟩
  obtain ⟨lo_, hlo_⟩ : ∃ x : List Loc, x = [] := ⟨_, rfl⟩
  have W_ : WD D A_ s_.heap ([wV cy b q p x e cr t0 ab be rb rn ru]) H_ lo_ := by rw [hH_, hlo_]; exact W_
  rw [← hlo_]
  suffices hg_ : W p_ l_ e_ rX7_keepFraction s_ m_ ar_ be_ me_ c_ H_ lo_ 0 0 Q_ (F0 m_ 0 ls_ []) by rw [hH_] at hg_; exact hg_
  clear hH_ hlo_
  have hinX7 : ∀ w ∈ u_ws RX7 TX7 13, w ∈ wsX7_keepFraction := fun w h => List.mem_cons_of_mem _ (List.mem_append_right _ h)
  refine lv_iload_n F_.1 F_.2.1 dX7_keepFraction_0 rfl (lv_at hl 2 rfl) ?_
  refine z_iconst F_ dX7_keepFraction_1 ?_
  refine z_max F_ (by omega) hl.1 (F_.2.2.2.2 _ (List.mem_of_getElem? (i := 1) rfl)) (F_.2.2.2.2 _ (List.mem_of_getElem? (i := 2) rfl)) (F_.2.2.2.2 _ (List.mem_of_getElem? (i := 3) rfl)) (F_.2.2.2.2 _ (List.mem_of_getElem? (i := 4) rfl)) (Nat.le_of_ble_eq_true rfl) (Nat.le_of_ble_eq_true rfl) (Nat.zero_le _) (Nat.zero_le _) dX7_keepFraction_2 ?_
  have i_2 : max un 1 = un := by omega
  rw [i_2]
  refine lv_istore_n (lv' := [(3, .int (zi un)), (0, .ref (b 0)), (1, .int (zi ov)), (2, .int (zi un))]) F_.1 F_.2.1 dX7_keepFraction_5 rfl hl (by decide) rfl (fun ls_ hl => ?_)
  have L6 : ∀ (n_ : Nat) (d : Int) (hd : 1 ≤ d ∧ d ≤ un) (hn : ∀ v, d < v → v ≤ un → ¬ (ov % v = 0 ∧ un % v = 0)) (hm_ : (d : Int) < (n_ : Int)) (ls_ : Array Slot) (H_ : Heap) (lo_ : List Loc), WD D A_ s_.heap ([wV cy b q p x e cr t0 ab be rb rn ru]) H_ lo_ → lv_has ls_ 4 [(3, .int (zi d)), (0, .ref (b 0)), (1, .int (zi ov)), (2, .int (zi un))] → W p_ l_ e_ rX7_keepFraction s_ m_ ar_ be_ me_ c_ H_ lo_ 0 0 Q_ (F0 m_ 6 ls_ []) := by
    intro n_
    induction n_ with
    | zero =>
      intro d hd hn hm_ ls_ H_ lo_ _ _
      exact absurd hm_ (by omega)
    | succ n_ ih_ =>
      intro d hd hn hm_ ls_ H_ lo_ W_ hl
      have ih6 := ih_
      refine lv_iload_n F_.1 F_.2.1 dX7_keepFraction_6 rfl (lv_at hl 0 rfl) ?_
      refine z_iconst F_ dX7_keepFraction_7 ?_
      have J29 : ∀ (hg : gcdZ ov un = d) (ls_ : Array Slot) (H_ : Heap) (lo_ : List Loc), WD D A_ s_.heap ([wV cy b q p x e cr t0 ab be rb rn ru]) H_ lo_ → lv_has ls_ 4 [(3, .int (zi d)), (0, .ref (b 0)), (1, .int (zi ov)), (2, .int (zi un))] → W p_ l_ e_ rX7_keepFraction s_ m_ ar_ be_ me_ c_ H_ lo_ 0 0 Q_ (F0 m_ 29 ls_ []) := by
        intro hg ls_ H_ lo_ W_ hl
        refine lv_aload_n F_.1 F_.2.1 dX7_keepFraction_29 rfl (lv_at hl 1 rfl) ?_
        refine lv_iload_n F_.1 F_.2.1 dX7_keepFraction_30 rfl (lv_at hl 2 rfl) ?_
        refine lv_iload_n F_.1 F_.2.1 dX7_keepFraction_31 rfl (lv_at hl 0 rfl) ?_
        refine z_idiv F_ (by omega) dX7_keepFraction_32 ?_
        refine z_put (sg' := [wV cy b q p x e cr t0 (ov / d) be rb rn ru]) F_ K_ W_ 0 0 8 rfl rfl rfl (C := RX7) (T := TX7) (N := 13) rfl ⟨Nat.le_of_ble_eq_true rfl, Nat.le_of_ble_eq_true rfl⟩ tyX7 tyX7_ok nmX7 rfl rfl rfl hinX7 (List.mem_of_getElem? (i := 5) rfl) dX7_keepFraction_33 (fun H_ lo_ W_ => ?_)
        refine lv_aload_n F_.1 F_.2.1 dX7_keepFraction_36 rfl (lv_at hl 1 rfl) ?_
        refine lv_iload_n F_.1 F_.2.1 dX7_keepFraction_37 rfl (lv_at hl 3 rfl) ?_
        refine lv_iload_n F_.1 F_.2.1 dX7_keepFraction_38 rfl (lv_at hl 0 rfl) ?_
        refine z_idiv F_ (by omega) dX7_keepFraction_39 ?_
        refine z_put (sg' := [wV cy b q p x e cr t0 (ov / d) (un / d) rb rn ru]) F_ K_ W_ 0 0 9 rfl rfl rfl (C := RX7) (T := TX7) (N := 13) rfl ⟨Nat.le_of_ble_eq_true rfl, Nat.le_of_ble_eq_true rfl⟩ tyX7 tyX7_ok nmX7 rfl rfl rfl hinX7 (List.mem_of_getElem? (i := 6) rfl) dX7_keepFraction_40 (fun H_ lo_ W_ => ?_)
        exact hret _ _ _ _ (ov / d, un / d) dX7_keepFraction_43 ⟨(by (try dsimp only) <;> (rw [hg])), (by (try dsimp only) <;> (rw [hg]))⟩ W_
      refine z_icmp_le (tgt := 29) F_ (by omega) dX7_keepFraction_8 (by decide) (fun c8 => ?_) (fun c8 => ?_)
      · exact J29 (by first | exact gcd_d ho hu hd (Or.inl (by omega)) hn | exact gcd_d ho hu hd (Or.inr ⟨by omega, by omega⟩) hn) ls_ H_ lo_ W_ (lv_sub hl [0, 1, 2, 3] rfl)
      · refine lv_iload_n F_.1 F_.2.1 dX7_keepFraction_11 rfl (lv_at hl 2 rfl) ?_
        refine lv_iload_n F_.1 F_.2.1 dX7_keepFraction_12 rfl (lv_at hl 0 rfl) ?_
        have hmo := Int.emod_nonneg ov (show d ≠ 0 by omega)
        have hmo2 := Int.emod_lt_of_pos ov (show 0 < d by omega)
        refine z_irem F_ (by omega) dX7_keepFraction_13 ?_
        refine z_if_ne (tgt := 23) F_ (by omega) dX7_keepFraction_14 (by decide) (fun c14 => ?_) (fun c14 => ?_)
        · refine z_iinc (lv' := [(3, .int (zi (d + (-1)))), (0, .ref (b 0)), (1, .int (zi ov)), (2, .int (zi un))]) F_ dX7_keepFraction_23 hl (k := 0) rfl (by decide) rfl (fun ls_ hl => ?_)
          refine z_goto (tgt := 6) F_ dX7_keepFraction_26 (by decide) ?_
          exact ih6 (d + (-1)) (by first | omega | assumption) (by intro v h1 h2; rcases Int.lt_or_eq_of_le (show d ≤ v by omega) with q | q; exact hn v q h2; (rw [← q]; intro w; omega)) (by omega) ls_ H_ lo_ W_ (lv_sub hl [0, 1, 2, 3] rfl)
        · refine lv_iload_n F_.1 F_.2.1 dX7_keepFraction_17 rfl (lv_at hl 3 rfl) ?_
          refine lv_iload_n F_.1 F_.2.1 dX7_keepFraction_18 rfl (lv_at hl 0 rfl) ?_
          have hmu := Int.emod_nonneg un (show d ≠ 0 by omega)
          have hmu2 := Int.emod_lt_of_pos un (show 0 < d by omega)
          refine z_irem F_ (by omega) dX7_keepFraction_19 ?_
          refine z_if_eq (tgt := 29) F_ (by omega) dX7_keepFraction_20 (by decide) (fun c20 => ?_) (fun c20 => ?_)
          · exact J29 (by first | exact gcd_d ho hu hd (Or.inl (by omega)) hn | exact gcd_d ho hu hd (Or.inr ⟨by omega, by omega⟩) hn) ls_ H_ lo_ W_ (lv_sub hl [0, 1, 2, 3] rfl)
          · refine z_iinc (lv' := [(3, .int (zi (d + (-1)))), (0, .ref (b 0)), (1, .int (zi ov)), (2, .int (zi un))]) F_ dX7_keepFraction_23 hl (k := 0) rfl (by decide) rfl (fun ls_ hl => ?_)
            refine z_goto (tgt := 6) F_ dX7_keepFraction_26 (by decide) ?_
            exact ih6 (d + (-1)) (by first | omega | assumption) (by intro v h1 h2; rcases Int.lt_or_eq_of_le (show d ≤ v by omega) with q | q; exact hn v q h2; (rw [← q]; intro w; omega)) (by omega) ls_ H_ lo_ W_ (lv_sub hl [0, 1, 2, 3] rfl)
  exact L6 ((un : Int).toNat + 1) un (by first | omega | assumption) (by intro v h1 h2; omega) (by have := Int.self_le_toNat (un : Int); omega) ls_ H_ lo_ W_ (lv_sub hl [0, 1, 2, 3] rfl)
abbrev rX7_lots : Room := { frames := 2, cells := 0, slots := 0, locals := 44 }
set_option maxHeartbeats 1000000 in
set_option maxRecDepth 100000 in
theorem c_X7_lots (l_ : Launch) (D : va_G) (cy : Nat → ClassId) (b : Nat → Nat) (q : Nat → Nat) (p : Nat → Nat) (x : Nat → Nat) (e : Nat → Nat) (cr : Nat → Nat) (t0 : Nat) (ab : Int) (be : Int) (rb : Int) (rn : Int) (ru : Int) (S : Int) (M : Int) (sk : Int → Int) (sc : Int → Int) (mk : Int → Int) (ms : Int → Int) (mp : Int → Int) (i : Int) (nn : Int) (bS : 0 ≤ S ∧ S ≤ 3) (bM : 0 ≤ M ∧ M ≤ 8) (bsk : ∀ j : Int, 0 ≤ sk j ∧ sk j ≤ 5) (bsc : ∀ j : Int, 0 ≤ sc j ∧ sc j ≤ 99) (bmk : ∀ j : Int, 0 ≤ mk j ∧ mk j ≤ 5) (bms : ∀ j : Int, 0 ≤ ms j ∧ ms j ≤ 9) (bmp : ∀ j : Int, (-1) ≤ mp j ∧ mp j ≤ 2) (ri : -2147483648 ≤ i ∧ i < 2147483648) (rnn : -2147483648 ≤ nn ∧ nn < 2147483648) : CTi l_ D cy yX7_lots wsX7_lots rX7_lots [.ref (b 0), .int (zi i), .int (zi nn)] ([wV cy b q p x e cr t0 ab be rb rn ru, wI cy q S M sk sc mk ms mp]) (fun (z : Int) (u : (Int) × (Int) × (Int) × (Int) × (Int)) => ((¬ ((0 ≤ i ∧ i < M) ∧ (0 ≤ nn ∧ nn ≤ 8)) ∧ z = -2 ∧ u.1 = rb + 1 ∧ u.2.1 = rn ∧ u.2.2.1 = ru ∧ u.2.2.2.1 = ab ∧ u.2.2.2.2 = be) ∨ (((0 ≤ i ∧ i < M) ∧ (0 ≤ nn ∧ nn ≤ 8)) ∧ mp i = -1 ∧ z = -3 ∧ u.1 = rb ∧ u.2.1 = rn + 1 ∧ u.2.2.1 = ru ∧ u.2.2.2.1 = ab ∧ u.2.2.2.2 = be) ∨ (((0 ≤ i ∧ i < M) ∧ (0 ≤ nn ∧ nn ≤ 8)) ∧ ¬ mp i = -1 ∧ z = 1 ∧ u.1 = rb ∧ u.2.1 = rn ∧ u.2.2.1 = ru ∧ u.2.2.2.1 = min nn (cntZ mp (mp i) M) / gcdZ (min nn (cntZ mp (mp i) M)) (cntZ mp (mp i) M) ∧ u.2.2.2.2 = (cntZ mp (mp i) M) / gcdZ (min nn (cntZ mp (mp i) M)) (cntZ mp (mp i) M)))) (fun (u : (Int) × (Int) × (Int) × (Int) × (Int)) => [wV cy b q p x e cr t0 u.2.2.2.1 u.2.2.2.2 u.1 u.2.1 u.2.2.1, wI cy q S M sk sc mk ms mp]) := by
  refine CTi.of RX7 cX7_lots 5 rfl (by decide) rfl (fun z u hz => rfl) (Nat.le_of_ble_eq_true rfl) ?_
  intro p_ e_ s_ m_ ar_ be_ me_ c_ Q_ A_ ls_ F_ K_ W_ hl hret
  have hl : lv_has ls_ 5 [(0, .ref (b 0)), (1, .int (zi i)), (2, .int (zi nn))] := hl
  obtain ⟨H_, hH_⟩ : ∃ x, x = s_.heap := ⟨_, rfl⟩
  obtain ⟨lo_, hlo_⟩ : ∃ x : List Loc, x = [] := ⟨_, rfl⟩
  have W_ : WD D A_ s_.heap ([wV cy b q p x e cr t0 ab be rb rn ru, wI cy q S M sk sc mk ms mp]) H_ lo_ := by rw [hH_, hlo_]; exact W_
  rw [← hlo_]
  suffices hg_ : W p_ l_ e_ rX7_lots s_ m_ ar_ be_ me_ c_ H_ lo_ 0 0 Q_ (F0 m_ 0 ls_ []) by rw [hH_] at hg_; exact hg_
  clear hH_ hlo_
  have hinX4 : ∀ w ∈ u_ws RX4 TX4 11, w ∈ wsX7_lots := fun w h => List.mem_cons_of_mem _ (List.mem_append_right _ h)
  have hinX7 : ∀ w ∈ u_ws RX7 TX7 13, w ∈ wsX7_lots := fun w h => List.mem_cons_of_mem _ (List.mem_append_left _ (List.mem_append_right _ h))
  refine lv_aload_n F_.1 F_.2.1 dX7_lots_0 rfl (lv_at hl 0 rfl) ?_
  refine z_get F_ K_ W_ 0 0 0 rfl rfl rfl (C := RX7) (T := TX7) (N := 13) rfl (by decide) hinX7 (List.mem_of_getElem? (i := 1) rfl) dX7_lots_1 ?_
  refine lv_iload_n F_.1 F_.2.1 dX7_lots_4 rfl (lv_at hl 1 rfl) ?_
  refine z_callVip F_ K_ W_ [.int (zi i)] (c_X4_hasMan l_ D cy q S M sk sc mk ms mp i (by omega) (by omega) bsk bsc bmk bms bmp (by first | omega | assumption)) 1 rfl gX7_lots_X4_hasMan rfl (by decide +kernel) ⟨⟨Nat.le_of_ble_eq_true rfl, Nat.le_of_ble_eq_true rfl⟩, rfl, rfl, Nat.zero_le _, Nat.zero_le _⟩ 0 0 4 rfl rfl rfl rfl hl.1 rfl (Nat.le_of_ble_eq_true rfl) [1] [0] [wV cy b q p x e cr t0 ab be rb rn ru] 2 (by decide +kernel) rfl rfl rfl dX7_lots_5 (fun z_1 _ H_ lo_ hw_ W_ => ?_)
  replace hw_ : ((z_1 = 1 ∧ (0 ≤ i ∧ i < M)) ∨ (z_1 = 0 ∧ ¬ (0 ≤ i ∧ i < M))) := hw_
  have f5_v := hw_
  clear hw_
  refine z_if_eq (tgt := 21) F_ (by omega) dX7_lots_8 (by decide) (fun c8 => ?_) (fun c8 => ?_)
  · refine lv_aload_n F_.1 F_.2.1 dX7_lots_21 rfl (lv_at hl 0 rfl) ?_
    refine z_bipush F_ (by decide) dX7_lots_22 ?_
    refine z_callVi F_ K_ W_ [.int (zi (-2))] (c_X7_refuse l_ D cy b q p x e cr t0 ab be rb rn ru (-2) (by first | omega | assumption)) 1 rfl gX7_lots_X7_refuse rfl (by decide +kernel) ⟨⟨Nat.le_of_ble_eq_true rfl, Nat.le_of_ble_eq_true rfl⟩, rfl, rfl, Nat.zero_le _, Nat.zero_le _⟩ 0 0 6 rfl rfl rfl rfl hl.1 rfl (Nat.le_of_ble_eq_true rfl) [0] [1] [wI cy q S M sk sc mk ms mp] (fun (u_ : (Int) × (Int) × (Int)) => [wV cy b q p x e cr t0 ab be u_.1 u_.2.1 u_.2.2, wI cy q S M sk sc mk ms mp]) 2 (by decide +kernel) rfl rfl rfl (fun _ => rfl) (fun _ => rfl) (fun _ => rfl) dX7_lots_24 (fun z_2 u_ H_ lo_ hw_ W_ => ?_)
    obtain ⟨rb2_3, rn2_4, ru2_5⟩ := u_
    have W_ : WD D A_ s_.heap ([wV cy b q p x e cr t0 ab be rb2_3 rn2_4 ru2_5, wI cy q S M sk sc mk ms mp]) H_ lo_ := W_
    replace hw_ : (z_2 = (-2)) ∧ (((-2) = -2 ∧ rb2_3 = rb + 1 ∧ rn2_4 = rn ∧ ru2_5 = ru) ∨ ((-2) = -3 ∧ rb2_3 = rb ∧ rn2_4 = rn + 1 ∧ ru2_5 = ru) ∨ (¬ (-2) = -2 ∧ ¬ (-2) = -3 ∧ rb2_3 = rb ∧ rn2_4 = rn ∧ ru2_5 = ru + 1)) := hw_
    obtain ⟨f24_v, f24_k⟩ := hw_
    exact hret _ _ _ _ z_2 (rb2_3, rn2_4, ru2_5, ab, be) dX7_lots_27 (by (try dsimp only) <;> (first | (refine Or.inl (⟨?_, ?_, ?_, ?_, ?_, ?_, ?_⟩) <;> (first | omega | rfl | assumption)) | (refine Or.inr (Or.inl (⟨?_, ?_, ?_, ?_, ?_, ?_, ?_, ?_⟩)) <;> (first | omega | rfl | assumption)) | (refine Or.inr (Or.inr (⟨?_, ?_, ?_, ?_, ?_, ?_, ?_, ?_⟩)) <;> (first | omega | rfl | assumption)))) W_
  · refine lv_iload_n F_.1 F_.2.1 dX7_lots_11 rfl (lv_at hl 2 rfl) ?_
    refine z_iconst F_ dX7_lots_12 ?_
    refine z_bipush F_ (by decide) dX7_lots_13 ?_
    refine z_callSip F_ K_ W_ [.int (zi nn), .int (zi 0), .int (zi 8)] (c_X7_within l_ D cy nn 0 8 (by first | omega | assumption) (by first | omega | assumption) (by first | omega | assumption)) 3 rfl gX7_lots_X7_within rfl (by decide +kernel) ⟨⟨Nat.le_of_ble_eq_true rfl, Nat.le_of_ble_eq_true rfl⟩, rfl, rfl, Nat.zero_le _, Nat.zero_le _⟩ hl.1 rfl (Nat.le_of_ble_eq_true rfl) ([] : List Nat) [0, 1] [wV cy b q p x e cr t0 ab be rb rn ru, wI cy q S M sk sc mk ms mp] 2 (by decide +kernel) rfl rfl rfl dX7_lots_15 (fun z_6 _ H_ lo_ hw_ W_ => ?_)
    replace hw_ : ((z_6 = 1 ∧ (0 ≤ nn ∧ nn ≤ 8)) ∨ (z_6 = 0 ∧ ¬ (0 ≤ nn ∧ nn ≤ 8))) := hw_
    have f15_v := hw_
    clear hw_
    refine z_if_ne (tgt := 28) F_ (by omega) dX7_lots_18 (by decide) (fun c18 => ?_) (fun c18 => ?_)
    · refine lv_aload_n F_.1 F_.2.1 dX7_lots_28 rfl (lv_at hl 0 rfl) ?_
      refine z_get F_ K_ W_ 0 0 0 rfl rfl rfl (C := RX7) (T := TX7) (N := 13) rfl (by decide) hinX7 (List.mem_of_getElem? (i := 1) rfl) dX7_lots_29 ?_
      refine z_get F_ K_ W_ 1 0 6 rfl rfl rfl (C := RX4) (T := TX4) (N := 11) rfl (by decide) hinX4 (List.mem_of_getElem? (i := 2) rfl) dX7_lots_32 ?_
      refine lv_iload_n F_.1 F_.2.1 dX7_lots_35 rfl (lv_at hl 1 rfl) ?_
      refine z_iald F_ K_ W_ 1 5 rfl rfl (by omega) (by decide) dX7_lots_36 ?_
      have b_7 := bmp i
      refine lv_istore_n (lv' := [(3, .int (zi (mp i))), (0, .ref (b 0)), (1, .int (zi i)), (2, .int (zi nn))]) F_.1 F_.2.1 dX7_lots_37 rfl hl (by decide) rfl (fun ls_ hl => ?_)
      refine lv_iload_n F_.1 F_.2.1 dX7_lots_38 rfl (lv_at hl 0 rfl) ?_
      refine z_iconst F_ dX7_lots_39 ?_
      refine z_icmp_ne (tgt := 50) F_ (by omega) dX7_lots_40 (by decide) (fun c40 => ?_) (fun c40 => ?_)
      · refine lv_aload_n F_.1 F_.2.1 dX7_lots_50 rfl (lv_at hl 1 rfl) ?_
        refine z_get F_ K_ W_ 0 0 0 rfl rfl rfl (C := RX7) (T := TX7) (N := 13) rfl (by decide) hinX7 (List.mem_of_getElem? (i := 1) rfl) dX7_lots_51 ?_
        refine lv_iload_n F_.1 F_.2.1 dX7_lots_54 rfl (lv_at hl 0 rfl) ?_
        refine z_callVip F_ K_ W_ [.int (zi (mp i))] (c_X4_menAt l_ D cy q S M sk sc mk ms mp (mp i) (by omega) (by omega) bsk bsc bmk bms bmp (by first | omega | assumption)) 1 rfl gX7_lots_X4_menAt rfl (by decide +kernel) ⟨⟨Nat.le_of_ble_eq_true rfl, Nat.le_of_ble_eq_true rfl⟩, rfl, rfl, Nat.zero_le _, Nat.zero_le _⟩ 0 0 4 rfl rfl rfl rfl hl.1 rfl (Nat.le_of_ble_eq_true rfl) [1] [0] [wV cy b q p x e cr t0 ab be rb rn ru] 2 (by decide +kernel) rfl rfl rfl dX7_lots_55 (fun z_8 _ H_ lo_ hw_ W_ => ?_)
        replace hw_ : (z_8 = cntZ mp (mp i) M) := hw_
        have f55_v := hw_
        clear hw_
        have f55_v := f55_v.symm
        subst f55_v
        have hcb := cntZ_b mp (mp i) (m := M) (by omega)
        have hcp := cntZ_pos (f := mp) (v := mp i) (z := i) (m := M) (by omega) (by omega) rfl
        refine lv_istore (lv' := [(4, .int (zi (cntZ mp (mp i) M))), (3, .int (zi (mp i))), (0, .ref (b 0)), (1, .int (zi i)), (2, .int (zi nn))]) F_.1 F_.2.1 dX7_lots_58 hl (by decide) rfl (fun ls_ hl => ?_)
        refine lv_aload_n F_.1 F_.2.1 dX7_lots_60 rfl (lv_at hl 2 rfl) ?_
        refine lv_iload_n F_.1 F_.2.1 dX7_lots_61 rfl (lv_at hl 4 rfl) ?_
        refine lv_iload F_.1 F_.2.1 dX7_lots_62 (lv_at hl 0 rfl) ?_
        refine z_min F_ (by omega) hl.1 (F_.2.2.2.2 _ (List.mem_of_getElem? (i := 3) rfl)) (F_.2.2.2.2 _ (List.mem_of_getElem? (i := 4) rfl)) (F_.2.2.2.2 _ (List.mem_of_getElem? (i := 5) rfl)) (F_.2.2.2.2 _ (List.mem_of_getElem? (i := 6) rfl)) (Nat.le_of_ble_eq_true rfl) (Nat.le_of_ble_eq_true rfl) (Nat.zero_le _) (Nat.zero_le _) dX7_lots_64 ?_
        refine lv_iload F_.1 F_.2.1 dX7_lots_67 (lv_at hl 0 rfl) ?_
        refine z_callVv F_ K_ W_ [.int (zi (min nn (cntZ mp (mp i) M))), .int (zi (cntZ mp (mp i) M))] (c_X7_keepFraction l_ D cy b q p x e cr t0 ab be rb rn ru (min nn (cntZ mp (mp i) M)) (cntZ mp (mp i) M) (by first | omega | assumption) (by first | omega | assumption) (by first | omega | assumption) (by first | omega | assumption)) 2 rfl gX7_lots_X7_keepFraction rfl (by decide +kernel) ⟨⟨Nat.le_of_ble_eq_true rfl, Nat.le_of_ble_eq_true rfl⟩, rfl, rfl, Nat.zero_le _, Nat.zero_le _⟩ 0 0 6 rfl rfl rfl rfl hl.1 rfl (Nat.le_of_ble_eq_true rfl) [0] [1] [wI cy q S M sk sc mk ms mp] (fun (u_ : (Int) × (Int)) => [wV cy b q p x e cr t0 u_.1 u_.2 rb rn ru, wI cy q S M sk sc mk ms mp]) 2 (by decide +kernel) rfl rfl rfl (fun _ => rfl) (fun _ => rfl) (fun _ => rfl) dX7_lots_69 (fun u_ H_ lo_ hw_ W_ => ?_)
        obtain ⟨ab2_11, be2_12⟩ := u_
        have W_ : WD D A_ s_.heap ([wV cy b q p x e cr t0 ab2_11 be2_12 rb rn ru, wI cy q S M sk sc mk ms mp]) H_ lo_ := W_
        replace hw_ : (ab2_11 = (min nn (cntZ mp (mp i) M)) / gcdZ (min nn (cntZ mp (mp i) M)) (cntZ mp (mp i) M)) ∧ (be2_12 = (cntZ mp (mp i) M) / gcdZ (min nn (cntZ mp (mp i) M)) (cntZ mp (mp i) M)) := hw_
        obtain ⟨f69_a, f69_b⟩ := hw_
        refine z_iconst F_ dX7_lots_72 ?_
        exact hret _ _ _ _ 1 (rb, rn, ru, ab2_11, be2_12) dX7_lots_73 (by (try dsimp only) <;> (first | (refine Or.inl (⟨?_, ?_, ?_, ?_, ?_, ?_, ?_⟩) <;> (first | omega | rfl | assumption)) | (refine Or.inr (Or.inl (⟨?_, ?_, ?_, ?_, ?_, ?_, ?_, ?_⟩)) <;> (first | omega | rfl | assumption)) | (refine Or.inr (Or.inr (⟨?_, ?_, ?_, ?_, ?_, ?_, ?_, ?_⟩)) <;> (first | omega | rfl | assumption)))) W_
      · refine lv_aload_n F_.1 F_.2.1 dX7_lots_43 rfl (lv_at hl 1 rfl) ?_
        refine z_bipush F_ (by decide) dX7_lots_44 ?_
        refine z_callVi F_ K_ W_ [.int (zi (-3))] (c_X7_refuse l_ D cy b q p x e cr t0 ab be rb rn ru (-3) (by first | omega | assumption)) 1 rfl gX7_lots_X7_refuse rfl (by decide +kernel) ⟨⟨Nat.le_of_ble_eq_true rfl, Nat.le_of_ble_eq_true rfl⟩, rfl, rfl, Nat.zero_le _, Nat.zero_le _⟩ 0 0 6 rfl rfl rfl rfl hl.1 rfl (Nat.le_of_ble_eq_true rfl) [0] [1] [wI cy q S M sk sc mk ms mp] (fun (u_ : (Int) × (Int) × (Int)) => [wV cy b q p x e cr t0 ab be u_.1 u_.2.1 u_.2.2, wI cy q S M sk sc mk ms mp]) 2 (by decide +kernel) rfl rfl rfl (fun _ => rfl) (fun _ => rfl) (fun _ => rfl) dX7_lots_46 (fun z_13 u_ H_ lo_ hw_ W_ => ?_)
        obtain ⟨rb2_14, rn2_15, ru2_16⟩ := u_
        have W_ : WD D A_ s_.heap ([wV cy b q p x e cr t0 ab be rb2_14 rn2_15 ru2_16, wI cy q S M sk sc mk ms mp]) H_ lo_ := W_
        replace hw_ : (z_13 = (-3)) ∧ (((-3) = -2 ∧ rb2_14 = rb + 1 ∧ rn2_15 = rn ∧ ru2_16 = ru) ∨ ((-3) = -3 ∧ rb2_14 = rb ∧ rn2_15 = rn + 1 ∧ ru2_16 = ru) ∨ (¬ (-3) = -2 ∧ ¬ (-3) = -3 ∧ rb2_14 = rb ∧ rn2_15 = rn ∧ ru2_16 = ru + 1)) := hw_
        obtain ⟨f46_v, f46_k⟩ := hw_
        exact hret _ _ _ _ z_13 (rb2_14, rn2_15, ru2_16, ab, be) dX7_lots_49 (by (try dsimp only) <;> (first | (refine Or.inl (⟨?_, ?_, ?_, ?_, ?_, ?_, ?_⟩) <;> (first | omega | rfl | assumption)) | (refine Or.inr (Or.inl (⟨?_, ?_, ?_, ?_, ?_, ?_, ?_, ?_⟩)) <;> (first | omega | rfl | assumption)) | (refine Or.inr (Or.inr (⟨?_, ?_, ?_, ?_, ?_, ?_, ?_, ?_⟩)) <;> (first | omega | rfl | assumption)))) W_
    · refine lv_aload_n F_.1 F_.2.1 dX7_lots_21 rfl (lv_at hl 0 rfl) ?_
      refine z_bipush F_ (by decide) dX7_lots_22 ?_
      refine z_callVi F_ K_ W_ [.int (zi (-2))] (c_X7_refuse l_ D cy b q p x e cr t0 ab be rb rn ru (-2) (by first | omega | assumption)) 1 rfl gX7_lots_X7_refuse rfl (by decide +kernel) ⟨⟨Nat.le_of_ble_eq_true rfl, Nat.le_of_ble_eq_true rfl⟩, rfl, rfl, Nat.zero_le _, Nat.zero_le _⟩ 0 0 6 rfl rfl rfl rfl hl.1 rfl (Nat.le_of_ble_eq_true rfl) [0] [1] [wI cy q S M sk sc mk ms mp] (fun (u_ : (Int) × (Int) × (Int)) => [wV cy b q p x e cr t0 ab be u_.1 u_.2.1 u_.2.2, wI cy q S M sk sc mk ms mp]) 2 (by decide +kernel) rfl rfl rfl (fun _ => rfl) (fun _ => rfl) (fun _ => rfl) dX7_lots_24 (fun z_17 u_ H_ lo_ hw_ W_ => ?_)
      obtain ⟨rb2_18, rn2_19, ru2_20⟩ := u_
      have W_ : WD D A_ s_.heap ([wV cy b q p x e cr t0 ab be rb2_18 rn2_19 ru2_20, wI cy q S M sk sc mk ms mp]) H_ lo_ := W_
      replace hw_ : (z_17 = (-2)) ∧ (((-2) = -2 ∧ rb2_18 = rb + 1 ∧ rn2_19 = rn ∧ ru2_20 = ru) ∨ ((-2) = -3 ∧ rb2_18 = rb ∧ rn2_19 = rn + 1 ∧ ru2_20 = ru) ∨ (¬ (-2) = -2 ∧ ¬ (-2) = -3 ∧ rb2_18 = rb ∧ rn2_19 = rn ∧ ru2_20 = ru + 1)) := hw_
      obtain ⟨f24_v, f24_k⟩ := hw_
      exact hret _ _ _ _ z_17 (rb2_18, rn2_19, ru2_20, ab, be) dX7_lots_27 (by (try dsimp only) <;> (first | (refine Or.inl (⟨?_, ?_, ?_, ?_, ?_, ?_, ?_⟩) <;> (first | omega | rfl | assumption)) | (refine Or.inr (Or.inl (⟨?_, ?_, ?_, ?_, ?_, ?_, ?_, ?_⟩)) <;> (first | omega | rfl | assumption)) | (refine Or.inr (Or.inr (⟨?_, ?_, ?_, ?_, ?_, ?_, ?_, ?_⟩)) <;> (first | omega | rfl | assumption)))) W_
abbrev rX7_centuries : Room := { frames := 4, cells := 0, slots := 0, locals := 94 }
set_option maxHeartbeats 1000000 in
set_option maxRecDepth 100000 in
theorem c_X7_centuries (l_ : Launch) (D : va_G) (cy : Nat → ClassId) (b : Nat → Nat) (q : Nat → Nat) (p : Nat → Nat) (x : Nat → Nat) (e : Nat → Nat) (cr : Nat → Nat) (t0 : Nat) (ab : Int) (be : Int) (rb : Int) (rn : Int) (ru : Int) (S : Int) (M : Int) (sk : Int → Int) (sc : Int → Int) (mk : Int → Int) (ms : Int → Int) (mp : Int → Int) (SJ : Int) (MJ : Int) (skJ : Int → Int) (scJ : Int → Int) (mkJ : Int → Int) (msJ : Int → Int) (mpJ : Int → Int) (sd : Int) (nn : Int) (bS : 0 ≤ S ∧ S ≤ 3) (bM : 0 ≤ M ∧ M ≤ 8) (bsk : ∀ j : Int, 0 ≤ sk j ∧ sk j ≤ 5) (bsc : ∀ j : Int, 0 ≤ sc j ∧ sc j ≤ 99) (bmk : ∀ j : Int, 0 ≤ mk j ∧ mk j ≤ 5) (bms : ∀ j : Int, 0 ≤ ms j ∧ ms j ≤ 9) (bmp : ∀ j : Int, (-1) ≤ mp j ∧ mp j ≤ 2) (bSJ : 0 ≤ SJ ∧ SJ ≤ 3) (bMJ : 0 ≤ MJ ∧ MJ ≤ 8) (bskJ : ∀ j : Int, 0 ≤ skJ j ∧ skJ j ≤ 5) (bscJ : ∀ j : Int, 0 ≤ scJ j ∧ scJ j ≤ 99) (bmkJ : ∀ j : Int, 0 ≤ mkJ j ∧ mkJ j ≤ 5) (bmsJ : ∀ j : Int, 0 ≤ msJ j ∧ msJ j ≤ 9) (bmpJ : ∀ j : Int, (-1) ≤ mpJ j ∧ mpJ j ≤ 2) (rsd : -2147483648 ≤ sd ∧ sd < 2147483648) (rnn : -2147483648 ≤ nn ∧ nn < 2147483648) : CTi l_ D cy yX7_centuries wsX7_centuries rX7_centuries [.ref (b 0), .int (zi sd), .int (zi nn)] ([wV cy b q p x e cr t0 ab be rb rn ru, wI cy q S M sk sc mk ms mp, wI cy p SJ MJ skJ scJ mkJ msJ mpJ]) (fun (z : Int) (u : (Int) × (Int) × (Int) × (Int) × (Int) × (Int → Int) × (Int → Int) × (Int → Int) × (Int → Int) × (Int → Int)) => ((((0 ≤ sd ∧ sd ≤ 999999) ∧ (0 ≤ nn ∧ nn ≤ 60)) ∧ z = sumZ (cenI S M sc mk ms mp sd nn).2.2 ms (-1) M ∧ u.1 = rb ∧ u.2.1 = rn ∧ u.2.2.1 = ru) ∨ (¬ ((0 ≤ sd ∧ sd ≤ 999999) ∧ (0 ≤ nn ∧ nn ≤ 60)) ∧ z = -2 ∧ u.1 = rb + 1 ∧ u.2.1 = rn ∧ u.2.2.1 = ru)) ∧ (0 ≤ u.2.2.2.1 ∧ u.2.2.2.1 ≤ 3) ∧ (0 ≤ u.2.2.2.2.1 ∧ u.2.2.2.2.1 ≤ 8) ∧ (∀ j : Int, 0 ≤ u.2.2.2.2.2.1 j ∧ u.2.2.2.2.2.1 j ≤ 5) ∧ (∀ j : Int, 0 ≤ u.2.2.2.2.2.2.1 j ∧ u.2.2.2.2.2.2.1 j ≤ 99) ∧ (∀ j : Int, 0 ≤ u.2.2.2.2.2.2.2.1 j ∧ u.2.2.2.2.2.2.2.1 j ≤ 5) ∧ (∀ j : Int, 0 ≤ u.2.2.2.2.2.2.2.2.1 j ∧ u.2.2.2.2.2.2.2.2.1 j ≤ 9) ∧ (∀ j : Int, (-1) ≤ u.2.2.2.2.2.2.2.2.2 j ∧ u.2.2.2.2.2.2.2.2.2 j ≤ 2)) (fun (u : (Int) × (Int) × (Int) × (Int) × (Int) × (Int → Int) × (Int → Int) × (Int → Int) × (Int → Int) × (Int → Int)) => [wV cy b q p x e cr t0 ab be u.1 u.2.1 u.2.2.1, wI cy q S M sk sc mk ms mp, wI cy p u.2.2.2.1 u.2.2.2.2.1 u.2.2.2.2.2.1 u.2.2.2.2.2.2.1 u.2.2.2.2.2.2.2.1 u.2.2.2.2.2.2.2.2.1 u.2.2.2.2.2.2.2.2.2]) := by
  refine CTi.of RX7 cX7_centuries 6 rfl (by decide) rfl (fun z u hz => rfl) (Nat.le_of_ble_eq_true rfl) ?_
  intro p_ e_ s_ m_ ar_ be_ me_ c_ Q_ A_ ls_ F_ K_ W_ hl hret
  have hl : lv_has ls_ 6 [(0, .ref (b 0)), (1, .int (zi sd)), (2, .int (zi nn))] := hl
  obtain ⟨H_, hH_⟩ : ∃ x, x = s_.heap := ⟨_, rfl⟩
  obtain ⟨lo_, hlo_⟩ : ∃ x : List Loc, x = [] := ⟨_, rfl⟩
  have W_ : WD D A_ s_.heap ([wV cy b q p x e cr t0 ab be rb rn ru, wI cy q S M sk sc mk ms mp, wI cy p SJ MJ skJ scJ mkJ msJ mpJ]) H_ lo_ := by rw [hH_, hlo_]; exact W_
  rw [← hlo_]
  suffices hg_ : W p_ l_ e_ rX7_centuries s_ m_ ar_ be_ me_ c_ H_ lo_ 0 0 Q_ (F0 m_ 0 ls_ []) by rw [hH_] at hg_; exact hg_
  clear hH_ hlo_
  have hinX7 : ∀ w ∈ u_ws RX7 TX7 13, w ∈ wsX7_centuries := fun w h => List.mem_cons_of_mem _ (List.mem_append_left _ (List.mem_append_right _ h))
  refine lv_iload_n F_.1 F_.2.1 dX7_centuries_0 rfl (lv_at hl 1 rfl) ?_
  refine z_iconst F_ dX7_centuries_1 ?_
  refine z_ldcw (z := 999999) F_ (F_.2.2.2.2 _ (List.mem_of_getElem? (i := 1) rfl)) rfl dX7_centuries_2 ?_
  refine z_callSip F_ K_ W_ [.int (zi sd), .int (zi 0), .int (zi 999999)] (c_X7_within l_ D cy sd 0 999999 (by first | omega | assumption) (by first | omega | assumption) (by first | omega | assumption)) 3 rfl gX7_centuries_X7_within rfl (by decide +kernel) ⟨⟨Nat.le_of_ble_eq_true rfl, Nat.le_of_ble_eq_true rfl⟩, rfl, rfl, Nat.zero_le _, Nat.zero_le _⟩ hl.1 rfl (Nat.le_of_ble_eq_true rfl) ([] : List Nat) [0, 1, 2] [wV cy b q p x e cr t0 ab be rb rn ru, wI cy q S M sk sc mk ms mp, wI cy p SJ MJ skJ scJ mkJ msJ mpJ] 3 (by decide +kernel) rfl rfl rfl dX7_centuries_5 (fun z_1 _ H_ lo_ hw_ W_ => ?_)
  replace hw_ : ((z_1 = 1 ∧ (0 ≤ sd ∧ sd ≤ 999999)) ∨ (z_1 = 0 ∧ ¬ (0 ≤ sd ∧ sd ≤ 999999))) := hw_
  have f5_v := hw_
  clear hw_
  refine z_if_eq (tgt := 21) F_ (by omega) dX7_centuries_8 (by decide) (fun c8 => ?_) (fun c8 => ?_)
  · refine lv_aload_n F_.1 F_.2.1 dX7_centuries_21 rfl (lv_at hl 0 rfl) ?_
    refine z_bipush F_ (by decide) dX7_centuries_22 ?_
    refine z_callVi F_ K_ W_ [.int (zi (-2))] (c_X7_refuse l_ D cy b q p x e cr t0 ab be rb rn ru (-2) (by first | omega | assumption)) 1 rfl gX7_centuries_X7_refuse rfl (by decide +kernel) ⟨⟨Nat.le_of_ble_eq_true rfl, Nat.le_of_ble_eq_true rfl⟩, rfl, rfl, Nat.zero_le _, Nat.zero_le _⟩ 0 0 6 rfl rfl rfl rfl hl.1 rfl (Nat.le_of_ble_eq_true rfl) [0] [1, 2] [wI cy q S M sk sc mk ms mp, wI cy p SJ MJ skJ scJ mkJ msJ mpJ] (fun (u_ : (Int) × (Int) × (Int)) => [wV cy b q p x e cr t0 ab be u_.1 u_.2.1 u_.2.2, wI cy q S M sk sc mk ms mp, wI cy p SJ MJ skJ scJ mkJ msJ mpJ]) 3 (by decide +kernel) rfl rfl rfl (fun _ => rfl) (fun _ => rfl) (fun _ => rfl) dX7_centuries_24 (fun z_2 u_ H_ lo_ hw_ W_ => ?_)
    obtain ⟨rb2_3, rn2_4, ru2_5⟩ := u_
    have W_ : WD D A_ s_.heap ([wV cy b q p x e cr t0 ab be rb2_3 rn2_4 ru2_5, wI cy q S M sk sc mk ms mp, wI cy p SJ MJ skJ scJ mkJ msJ mpJ]) H_ lo_ := W_
    replace hw_ : (z_2 = (-2)) ∧ (((-2) = -2 ∧ rb2_3 = rb + 1 ∧ rn2_4 = rn ∧ ru2_5 = ru) ∨ ((-2) = -3 ∧ rb2_3 = rb ∧ rn2_4 = rn + 1 ∧ ru2_5 = ru) ∨ (¬ (-2) = -2 ∧ ¬ (-2) = -3 ∧ rb2_3 = rb ∧ rn2_4 = rn ∧ ru2_5 = ru + 1)) := hw_
    obtain ⟨f24_v, f24_k⟩ := hw_
    exact hret _ _ _ _ z_2 (rb2_3, rn2_4, ru2_5, SJ, MJ, skJ, scJ, mkJ, msJ, mpJ) dX7_centuries_27 ⟨(by (try dsimp only) <;> (refine Or.inr (⟨?_, ?_, ?_, ?_, ?_⟩) <;> (first | omega | rfl | assumption))), (by (try dsimp only) <;> (omega)), (by (try dsimp only) <;> (omega)), bskJ, bscJ, bmkJ, bmsJ, bmpJ⟩ W_
  · refine lv_iload_n F_.1 F_.2.1 dX7_centuries_11 rfl (lv_at hl 2 rfl) ?_
    refine z_iconst F_ dX7_centuries_12 ?_
    refine z_bipush F_ (by decide) dX7_centuries_13 ?_
    refine z_callSip F_ K_ W_ [.int (zi nn), .int (zi 0), .int (zi 60)] (c_X7_within l_ D cy nn 0 60 (by first | omega | assumption) (by first | omega | assumption) (by first | omega | assumption)) 3 rfl gX7_centuries_X7_within rfl (by decide +kernel) ⟨⟨Nat.le_of_ble_eq_true rfl, Nat.le_of_ble_eq_true rfl⟩, rfl, rfl, Nat.zero_le _, Nat.zero_le _⟩ hl.1 rfl (Nat.le_of_ble_eq_true rfl) ([] : List Nat) [0, 1, 2] [wV cy b q p x e cr t0 ab be rb rn ru, wI cy q S M sk sc mk ms mp, wI cy p SJ MJ skJ scJ mkJ msJ mpJ] 3 (by decide +kernel) rfl rfl rfl dX7_centuries_15 (fun z_6 _ H_ lo_ hw_ W_ => ?_)
    replace hw_ : ((z_6 = 1 ∧ (0 ≤ nn ∧ nn ≤ 60)) ∨ (z_6 = 0 ∧ ¬ (0 ≤ nn ∧ nn ≤ 60))) := hw_
    have f15_v := hw_
    clear hw_
    refine z_if_ne (tgt := 28) F_ (by omega) dX7_centuries_18 (by decide) (fun c18 => ?_) (fun c18 => ?_)
    · refine lv_aload_n F_.1 F_.2.1 dX7_centuries_28 rfl (lv_at hl 0 rfl) ?_
      refine z_get F_ K_ W_ 0 0 1 rfl rfl rfl (C := RX7) (T := TX7) (N := 13) rfl (by decide) hinX7 (List.mem_of_getElem? (i := 2) rfl) dX7_centuries_29 ?_
      refine lv_aload_n F_.1 F_.2.1 dX7_centuries_32 rfl (lv_at hl 0 rfl) ?_
      refine z_get F_ K_ W_ 0 0 0 rfl rfl rfl (C := RX7) (T := TX7) (N := 13) rfl (by decide) hinX7 (List.mem_of_getElem? (i := 3) rfl) dX7_centuries_33 ?_
      refine z_callVv F_ K_ W_ [.ref (q 0)] (c_X4_takePlaces l_ D cy p SJ MJ skJ scJ mkJ msJ mpJ q S M sk sc mk ms mp (by omega) (by omega) bskJ bscJ bmkJ bmsJ bmpJ (by omega) (by omega) bsk bsc bmk bms bmp) 1 rfl gX7_centuries_X4_takePlaces rfl (by decide +kernel) ⟨⟨Nat.le_of_ble_eq_true rfl, Nat.le_of_ble_eq_true rfl⟩, rfl, rfl, Nat.zero_le _, Nat.zero_le _⟩ 0 0 4 rfl rfl rfl rfl hl.1 rfl (Nat.le_of_ble_eq_true rfl) [2, 1] [0] [wV cy b q p x e cr t0 ab be rb rn ru] (fun (u_ : (Int → Int) × (Int → Int) × (Int → Int) × (Int → Int) × (Int → Int)) => [wV cy b q p x e cr t0 ab be rb rn ru, wI cy q S M sk sc mk ms mp, wI cy p S M u_.1 u_.2.1 u_.2.2.1 u_.2.2.2.1 u_.2.2.2.2]) 3 (by decide +kernel) rfl rfl rfl (fun _ => rfl) (fun _ => rfl) (fun _ => rfl) dX7_centuries_36 (fun u_ H_ lo_ hw_ W_ => ?_)
      obtain ⟨nk_8, nc_9, n1_10, n2_11, n3_12⟩ := u_
      have W_ : WD D A_ s_.heap ([wV cy b q p x e cr t0 ab be rb rn ru, wI cy q S M sk sc mk ms mp, wI cy p S M nk_8 nc_9 n1_10 n2_11 n3_12]) H_ lo_ := W_
      replace hw_ : (nk_8 = zcp sk skJ 0 0 3) ∧ (nc_9 = zcp sc scJ 0 0 3) ∧ (n1_10 = zcp mk mkJ 0 0 8) ∧ (n2_11 = zcp ms msJ 0 0 8) ∧ (n3_12 = zcp mp mpJ 0 0 8) ∧ (0 ≤ S ∧ S ≤ 3) ∧ (0 ≤ M ∧ M ≤ 8) ∧ (∀ j : Int, 0 ≤ nk_8 j ∧ nk_8 j ≤ 5) ∧ (∀ j : Int, 0 ≤ nc_9 j ∧ nc_9 j ≤ 99) ∧ (∀ j : Int, 0 ≤ n1_10 j ∧ n1_10 j ≤ 5) ∧ (∀ j : Int, 0 ≤ n2_11 j ∧ n2_11 j ≤ 9) ∧ (∀ j : Int, (-1) ≤ n3_12 j ∧ n3_12 j ≤ 2) := hw_
      obtain ⟨f36_k, f36_c, f36_a1, f36_a2, f36_a3, f36_B_I_S, f36_B_I_M, f36_B_I_sk, f36_B_I_sc, f36_B_I_mk, f36_B_I_ms, f36_B_I_mp⟩ := hw_
      have W_ : WD D A_ s_.heap ([wV cy b q p x e cr t0 ab be rb rn ru, wI cy q S M sk sc mk ms mp, wI cy p S M sk nc_9 n1_10 n2_11 n3_12]) H_ lo_ := wd_cell W_ 2 1 rfl rfl rfl (by intro k_ h1_ h2_; rw [f36_k, zcp_in _ _ (by omega)]; congr 1; omega)
      have W_ : WD D A_ s_.heap ([wV cy b q p x e cr t0 ab be rb rn ru, wI cy q S M sk sc mk ms mp, wI cy p S M sk sc n1_10 n2_11 n3_12]) H_ lo_ := wd_cell W_ 2 2 rfl rfl rfl (by intro k_ h1_ h2_; rw [f36_c, zcp_in _ _ (by omega)]; congr 1; omega)
      have W_ : WD D A_ s_.heap ([wV cy b q p x e cr t0 ab be rb rn ru, wI cy q S M sk sc mk ms mp, wI cy p S M sk sc mk n2_11 n3_12]) H_ lo_ := wd_cell W_ 2 3 rfl rfl rfl (by intro k_ h1_ h2_; rw [f36_a1, zcp_in _ _ (by omega)]; congr 1; omega)
      have W_ : WD D A_ s_.heap ([wV cy b q p x e cr t0 ab be rb rn ru, wI cy q S M sk sc mk ms mp, wI cy p S M sk sc mk ms n3_12]) H_ lo_ := wd_cell W_ 2 4 rfl rfl rfl (by intro k_ h1_ h2_; rw [f36_a2, zcp_in _ _ (by omega)]; congr 1; omega)
      have W_ : WD D A_ s_.heap ([wV cy b q p x e cr t0 ab be rb rn ru, wI cy q S M sk sc mk ms mp, wI cy p S M sk sc mk ms mp]) H_ lo_ := wd_cell W_ 2 5 rfl rfl rfl (by intro k_ h1_ h2_; rw [f36_a3, zcp_in _ _ (by omega)]; congr 1; omega)
      refine lv_iload_n F_.1 F_.2.1 dX7_centuries_39 rfl (lv_at hl 1 rfl) ?_
      refine z_i2l F_ (by omega) dX7_centuries_40 ?_
      refine lv_lstore_n (lv' := [(3, .long (zl sd)), (0, .ref (b 0)), (1, .int (zi sd)), (2, .int (zi nn))]) F_.1 F_.2.1 dX7_centuries_41 rfl hl (by decide) rfl (fun ls_ hl => ?_)
      refine z_iconst F_ dX7_centuries_42 ?_
      refine lv_istore (lv' := [(5, .int (zi 0)), (3, .long (zl sd)), (0, .ref (b 0)), (1, .int (zi sd)), (2, .int (zi nn))]) F_.1 F_.2.1 dX7_centuries_43 hl (by decide) rfl (fun ls_ hl => ?_)
      have L45 : ∀ (n_ : Nat) (X_ : Int) (k : Int) (c : Int → Int) (pp : Int → Int) (bc : ∀ j : Int, 0 ≤ c j ∧ c j ≤ 99) (bpp : ∀ j : Int, (-1) ≤ pp j ∧ pp j ≤ 2) (hk : 0 ≤ k ∧ k ≤ nn) (hX : X_ = (cenI S M sc mk ms mp sd k).1) (hc : c = (cenI S M sc mk ms mp sd k).2.1) (hp : pp = (cenI S M sc mk ms mp sd k).2.2) (hXb : 0 ≤ X_ ∧ X_ < 2147483648) (hm_ : (nn - k : Int) < (n_ : Int)) (ls_ : Array Slot) (H_ : Heap) (lo_ : List Loc), WD D A_ s_.heap ([wV cy b q p x e cr t0 ab be rb rn ru, wI cy q S M sk sc mk ms mp, wI cy p S M sk c mk ms pp]) H_ lo_ → lv_has ls_ 6 [(5, .int (zi k)), (3, .long (zl X_)), (0, .ref (b 0)), (1, .int (zi sd)), (2, .int (zi nn))] → W p_ l_ e_ rX7_centuries s_ m_ ar_ be_ me_ c_ H_ lo_ 0 0 Q_ (F0 m_ 45 ls_ []) := by
        intro n_
        induction n_ with
        | zero =>
          intro X_ k c pp bc bpp hk hX hc hp hXb hm_ ls_ H_ lo_ _ _
          exact absurd hm_ (by omega)
        | succ n_ ih_ =>
          intro X_ k c pp bc bpp hk hX hc hp hXb hm_ ls_ H_ lo_ W_ hl
          have ih45 := ih_
          refine lv_iload F_.1 F_.2.1 dX7_centuries_45 (lv_at hl 0 rfl) ?_
          refine lv_iload_n F_.1 F_.2.1 dX7_centuries_47 rfl (lv_at hl 4 rfl) ?_
          refine z_icmp_ge (tgt := 98) F_ (by omega) dX7_centuries_48 (by decide) (fun c48 => ?_) (fun c48 => ?_)
          · refine lv_aload_n F_.1 F_.2.1 dX7_centuries_98 rfl (lv_at hl 2 rfl) ?_
            refine z_get F_ K_ W_ 0 0 1 rfl rfl rfl (C := RX7) (T := TX7) (N := 13) rfl (by decide) hinX7 (List.mem_of_getElem? (i := 2) rfl) dX7_centuries_99 ?_
            refine z_iconst F_ dX7_centuries_102 ?_
            refine z_callVip F_ K_ W_ [.int (zi (-1))] (c_X4_skillsAt l_ D cy p S M sk c mk ms pp (-1) (by omega) (by omega) bsk bc bmk bms bpp (by first | omega | assumption)) 1 rfl gX7_centuries_X4_skillsAt rfl (by decide +kernel) ⟨⟨Nat.le_of_ble_eq_true rfl, Nat.le_of_ble_eq_true rfl⟩, rfl, rfl, Nat.zero_le _, Nat.zero_le _⟩ 0 0 4 rfl rfl rfl rfl hl.1 rfl (Nat.le_of_ble_eq_true rfl) [2] [0, 1] [wV cy b q p x e cr t0 ab be rb rn ru, wI cy q S M sk sc mk ms mp] 3 (by decide +kernel) rfl rfl rfl dX7_centuries_103 (fun z_13 _ H_ lo_ hw_ W_ => ?_)
            replace hw_ : (z_13 = sumZ pp ms (-1) M) := hw_
            have f103_v := hw_
            clear hw_
            exact hret _ _ _ _ z_13 (rb, rn, ru, S, M, sk, c, mk, ms, pp) dX7_centuries_106 ⟨(by (try dsimp only) <;> (exact Or.inl ⟨by omega, by rw [f103_v, hp, show k = nn by omega], rfl, rfl, rfl⟩)), (by (try dsimp only) <;> (omega)), (by (try dsimp only) <;> (omega)), bsk, bc, bmk, bms, bpp⟩ W_
          · refine lv_lload_n F_.1 F_.2.1 dX7_centuries_51 rfl (lv_at hl 1 rfl) ?_
            refine z_ldc2 (z := 1103515245) F_ (F_.2.2.2.2 _ (List.mem_of_getElem? (i := 4) rfl)) rfl dX7_centuries_52 ?_
            refine z_lmul F_ dX7_centuries_55 ?_
            refine z_ldc2 (z := 12345) F_ (F_.2.2.2.2 _ (List.mem_of_getElem? (i := 5) rfl)) rfl dX7_centuries_56 ?_
            refine z_ladd F_ dX7_centuries_59 ?_
            refine z_ldc2 (z := 2147483648) F_ (F_.2.2.2.2 _ (List.mem_of_getElem? (i := 6) rfl)) rfl dX7_centuries_60 ?_
            refine z_lrem F_ (by omega) dX7_centuries_63 ?_
            refine lv_lstore_n (lv' := [(3, .long (zl (((X_ * 1103515245) + 12345) % 2147483648))), (5, .int (zi k)), (0, .ref (b 0)), (1, .int (zi sd)), (2, .int (zi nn))]) F_.1 F_.2.1 dX7_centuries_64 rfl hl (by decide) rfl (fun ls_ hl => ?_)
            refine lv_aload_n F_.1 F_.2.1 dX7_centuries_65 rfl (lv_at hl 2 rfl) ?_
            refine z_get F_ K_ W_ 0 0 1 rfl rfl rfl (C := RX7) (T := TX7) (N := 13) rfl (by decide) hinX7 (List.mem_of_getElem? (i := 2) rfl) dX7_centuries_66 ?_
            refine lv_lload_n F_.1 F_.2.1 dX7_centuries_69 rfl (lv_at hl 0 rfl) ?_
            refine z_ldc2 (z := 65536) F_ (F_.2.2.2.2 _ (List.mem_of_getElem? (i := 7) rfl)) rfl dX7_centuries_70 ?_
            refine z_ldiv F_ (by omega) dX7_centuries_73 ?_
            refine z_ldc2 (z := 3) F_ (F_.2.2.2.2 _ (List.mem_of_getElem? (i := 8) rfl)) rfl dX7_centuries_74 ?_
            refine z_lrem F_ (by omega) dX7_centuries_77 ?_
            refine z_l2i F_ (by omega) dX7_centuries_78 ?_
            refine lv_lload_n F_.1 F_.2.1 dX7_centuries_79 rfl (lv_at hl 0 rfl) ?_
            refine z_ldc2 (z := 1048576) F_ (F_.2.2.2.2 _ (List.mem_of_getElem? (i := 9) rfl)) rfl dX7_centuries_80 ?_
            refine z_ldiv F_ (by omega) dX7_centuries_83 ?_
            refine z_ldc2 (z := 16) F_ (F_.2.2.2.2 _ (List.mem_of_getElem? (i := 10) rfl)) rfl dX7_centuries_84 ?_
            refine z_lrem F_ (by omega) dX7_centuries_87 ?_
            refine z_l2i F_ (by omega) dX7_centuries_88 ?_
            refine z_callVv F_ K_ W_ [.int (zi (((((X_ * 1103515245) + 12345) % 2147483648) / 65536) % 3)), .int (zi (((((X_ * 1103515245) + 12345) % 2147483648) / 1048576) % 16))] (c_X4_passYears l_ D cy p S M sk c mk ms pp (((((X_ * 1103515245) + 12345) % 2147483648) / 65536) % 3) (((((X_ * 1103515245) + 12345) % 2147483648) / 1048576) % 16) (by omega) (by omega) bsk bc bmk bms bpp (by first | omega | assumption) (by first | omega | assumption) (by first | omega | assumption) (by first | omega | assumption)) 2 rfl gX7_centuries_X4_passYears rfl (by decide +kernel) ⟨⟨Nat.le_of_ble_eq_true rfl, Nat.le_of_ble_eq_true rfl⟩, rfl, rfl, Nat.zero_le _, Nat.zero_le _⟩ 0 0 4 rfl rfl rfl rfl hl.1 rfl (Nat.le_of_ble_eq_true rfl) [2] [0, 1] [wV cy b q p x e cr t0 ab be rb rn ru, wI cy q S M sk sc mk ms mp] (fun (u_ : (Int → Int) × (Int → Int)) => [wV cy b q p x e cr t0 ab be rb rn ru, wI cy q S M sk sc mk ms mp, wI cy p S M sk u_.1 mk ms u_.2]) 3 (by decide +kernel) rfl rfl rfl (fun _ => rfl) (fun _ => rfl) (fun _ => rfl) dX7_centuries_89 (fun u_ H_ lo_ hw_ W_ => ?_)
            obtain ⟨sc2_15, mp2_16⟩ := u_
            have W_ : WD D A_ s_.heap ([wV cy b q p x e cr t0 ab be rb rn ru, wI cy q S M sk sc mk ms mp, wI cy p S M sk sc2_15 mk ms mp2_16]) H_ lo_ := W_
            replace hw_ : (sc2_15 = yearSc S M c mk ms pp (((((X_ * 1103515245) + 12345) % 2147483648) / 65536) % 3) (((((X_ * 1103515245) + 12345) % 2147483648) / 1048576) % 16)) ∧ (mp2_16 = yearMp S M c mk ms pp (((((X_ * 1103515245) + 12345) % 2147483648) / 65536) % 3) (((((X_ * 1103515245) + 12345) % 2147483648) / 1048576) % 16)) ∧ (∀ j : Int, 0 ≤ sc2_15 j ∧ sc2_15 j ≤ 99) ∧ (∀ j : Int, (-1) ≤ mp2_16 j ∧ mp2_16 j ≤ 2) := hw_
            obtain ⟨f89_c, f89_p, f89_B_I_sc, f89_B_I_mp⟩ := hw_
            refine z_iinc (lv' := [(5, .int (zi (k + 1))), (3, .long (zl (((X_ * 1103515245) + 12345) % 2147483648))), (0, .ref (b 0)), (1, .int (zi sd)), (2, .int (zi nn))]) F_ dX7_centuries_92 hl (k := 1) rfl (by decide) rfl (fun ls_ hl => ?_)
            refine z_goto (tgt := 45) F_ dX7_centuries_95 (by decide) ?_
            exact ih45 (((X_ * 1103515245) + 12345) % 2147483648) (k + 1) sc2_15 mp2_16 f89_B_I_sc f89_B_I_mp (by first | omega | assumption) (by rw [cenI_s _ _ _ _ _ _ _ hk.1, ← hX]; rfl) (by rw [cenI_s _ _ _ _ _ _ _ hk.1, ← hX, ← hc, ← hp]; exact f89_c) (by rw [cenI_s _ _ _ _ _ _ _ hk.1, ← hX, ← hc, ← hp]; exact f89_p) (by first | omega | assumption) (by omega) ls_ H_ lo_ W_ (lv_sub hl [0, 1, 2, 3, 4] rfl)
      exact L45 ((nn - 0 : Int).toNat + 1) sd 0 sc mp bsc bmp (by first | omega | assumption) (by rfl) (by rfl) (by rfl) (by first | omega | assumption) (by have := Int.self_le_toNat (nn - 0 : Int); omega) ls_ H_ lo_ W_ (lv_sub hl [0, 1, 2, 3, 4] rfl)
    · refine lv_aload_n F_.1 F_.2.1 dX7_centuries_21 rfl (lv_at hl 0 rfl) ?_
      refine z_bipush F_ (by decide) dX7_centuries_22 ?_
      refine z_callVi F_ K_ W_ [.int (zi (-2))] (c_X7_refuse l_ D cy b q p x e cr t0 ab be rb rn ru (-2) (by first | omega | assumption)) 1 rfl gX7_centuries_X7_refuse rfl (by decide +kernel) ⟨⟨Nat.le_of_ble_eq_true rfl, Nat.le_of_ble_eq_true rfl⟩, rfl, rfl, Nat.zero_le _, Nat.zero_le _⟩ 0 0 6 rfl rfl rfl rfl hl.1 rfl (Nat.le_of_ble_eq_true rfl) [0] [1, 2] [wI cy q S M sk sc mk ms mp, wI cy p SJ MJ skJ scJ mkJ msJ mpJ] (fun (u_ : (Int) × (Int) × (Int)) => [wV cy b q p x e cr t0 ab be u_.1 u_.2.1 u_.2.2, wI cy q S M sk sc mk ms mp, wI cy p SJ MJ skJ scJ mkJ msJ mpJ]) 3 (by decide +kernel) rfl rfl rfl (fun _ => rfl) (fun _ => rfl) (fun _ => rfl) dX7_centuries_24 (fun z_17 u_ H_ lo_ hw_ W_ => ?_)
      obtain ⟨rb2_18, rn2_19, ru2_20⟩ := u_
      have W_ : WD D A_ s_.heap ([wV cy b q p x e cr t0 ab be rb2_18 rn2_19 ru2_20, wI cy q S M sk sc mk ms mp, wI cy p SJ MJ skJ scJ mkJ msJ mpJ]) H_ lo_ := W_
      replace hw_ : (z_17 = (-2)) ∧ (((-2) = -2 ∧ rb2_18 = rb + 1 ∧ rn2_19 = rn ∧ ru2_20 = ru) ∨ ((-2) = -3 ∧ rb2_18 = rb ∧ rn2_19 = rn + 1 ∧ ru2_20 = ru) ∨ (¬ (-2) = -2 ∧ ¬ (-2) = -3 ∧ rb2_18 = rb ∧ rn2_19 = rn ∧ ru2_20 = ru + 1)) := hw_
      obtain ⟨f24_v, f24_k⟩ := hw_
      exact hret _ _ _ _ z_17 (rb2_18, rn2_19, ru2_20, SJ, MJ, skJ, scJ, mkJ, msJ, mpJ) dX7_centuries_27 ⟨(by (try dsimp only) <;> (refine Or.inr (⟨?_, ?_, ?_, ?_, ?_⟩) <;> (first | omega | rfl | assumption))), (by (try dsimp only) <;> (omega)), (by (try dsimp only) <;> (omega)), bskJ, bscJ, bmkJ, bmsJ, bmpJ⟩ W_
abbrev rX7_part : Room := { frames := 1, cells := 0, slots := 0, locals := 21 }
set_option maxHeartbeats 1000000 in
set_option maxRecDepth 100000 in
theorem c_X7_part (l_ : Launch) (D : va_G) (cy : Nat → ClassId) (b : Nat → Nat) (q : Nat → Nat) (p : Nat → Nat) (x : Nat → Nat) (e : Nat → Nat) (cr : Nat → Nat) (t0 : Nat) (ab : Int) (be : Int) (rb : Int) (rn : Int) (ru : Int) (w : Int) (rw : -2147483648 ≤ w ∧ w < 2147483648) (hab : (0 ≤ ab ∧ ab ≤ 8) ∧ (1 ≤ be ∧ be ≤ 8)) : CTl l_ D cy yX7_part wsX7_part rX7_part [.ref (b 0), .int (zi w)] ([wV cy b q p x e cr t0 ab be rb rn ru]) (fun (z : Int) (u : (Int) × (Int) × (Int)) => ((w = 0 ∧ z = ab ∧ u.1 = rb ∧ u.2.1 = rn ∧ u.2.2 = ru) ∨ (w = 1 ∧ z = be ∧ u.1 = rb ∧ u.2.1 = rn ∧ u.2.2 = ru) ∨ (¬ (w = 0 ∨ w = 1) ∧ z = -2 ∧ u.1 = rb + 1 ∧ u.2.1 = rn ∧ u.2.2 = ru))) (fun (u : (Int) × (Int) × (Int)) => [wV cy b q p x e cr t0 ab be u.1 u.2.1 u.2.2]) := by
  refine CTl.of RX7 cX7_part 2 rfl (by decide) rfl (Nat.le_of_ble_eq_true rfl) ?_
  intro p_ e_ s_ m_ ar_ be_ me_ c_ Q_ A_ ls_ F_ K_ W_ hl hret
  have hl : lv_has ls_ 2 [(0, .ref (b 0)), (1, .int (zi w))] := hl
  obtain ⟨H_, hH_⟩ : ∃ x, x = s_.heap := ⟨_, rfl⟩
  obtain ⟨lo_, hlo_⟩ : ∃ x : List Loc, x = [] := ⟨_, rfl⟩
  have W_ : WD D A_ s_.heap ([wV cy b q p x e cr t0 ab be rb rn ru]) H_ lo_ := by rw [hH_, hlo_]; exact W_
  rw [← hlo_]
  suffices hg_ : W p_ l_ e_ rX7_part s_ m_ ar_ be_ me_ c_ H_ lo_ 0 0 Q_ (F0 m_ 0 ls_ []) by rw [hH_] at hg_; exact hg_
  clear hH_ hlo_
  have hinX7 : ∀ w ∈ u_ws RX7 TX7 13, w ∈ wsX7_part := fun w h => List.mem_cons_of_mem _ (List.mem_append_right _ h)
  refine lv_iload_n F_.1 F_.2.1 dX7_part_0 rfl (lv_at hl 1 rfl) ?_
  rcases (show w = 0 ∨ w = 1 ∨ (¬ w = 0 ∧ ¬ w = 1) by omega) with c1 | c1 | c1
  · refine lv_lookup (off := 27) (tgt := 28) F_.1 F_.2.1 dX7_part_1 (by decide) (by rw [zi_toInt (by omega)]; rw [c1]; rfl) (by decide) ?_
    refine lv_aload_n F_.1 F_.2.1 dX7_part_28 rfl (lv_at hl 0 rfl) ?_
    refine z_get F_ K_ W_ 0 0 8 rfl rfl rfl (C := RX7) (T := TX7) (N := 13) rfl (by decide) hinX7 (List.mem_of_getElem? (i := 1) rfl) dX7_part_29 ?_
    refine z_i2l F_ (by omega) dX7_part_32 ?_
    exact hret _ _ _ _ ab (rb, rn, ru) dX7_part_33 (by (try dsimp only) <;> (first | (refine Or.inl (⟨?_, ?_, ?_, ?_, ?_⟩) <;> (first | omega | rfl | assumption)) | (refine Or.inr (Or.inl (⟨?_, ?_, ?_, ?_, ?_⟩)) <;> (first | omega | rfl | assumption)) | (refine Or.inr (Or.inr (⟨?_, ?_, ?_, ?_, ?_⟩)) <;> (first | omega | rfl | assumption)))) W_
  · refine lv_lookup (off := 33) (tgt := 34) F_.1 F_.2.1 dX7_part_1 (by decide) (by rw [zi_toInt (by omega)]; rw [c1]; rfl) (by decide) ?_
    refine lv_aload_n F_.1 F_.2.1 dX7_part_34 rfl (lv_at hl 0 rfl) ?_
    refine z_get F_ K_ W_ 0 0 9 rfl rfl rfl (C := RX7) (T := TX7) (N := 13) rfl (by decide) hinX7 (List.mem_of_getElem? (i := 2) rfl) dX7_part_35 ?_
    refine z_i2l F_ (by omega) dX7_part_38 ?_
    exact hret _ _ _ _ be (rb, rn, ru) dX7_part_39 (by (try dsimp only) <;> (first | (refine Or.inl (⟨?_, ?_, ?_, ?_, ?_⟩) <;> (first | omega | rfl | assumption)) | (refine Or.inr (Or.inl (⟨?_, ?_, ?_, ?_, ?_⟩)) <;> (first | omega | rfl | assumption)) | (refine Or.inr (Or.inr (⟨?_, ?_, ?_, ?_, ?_⟩)) <;> (first | omega | rfl | assumption)))) W_
  · refine lv_lookup (off := 39) (tgt := 40) F_.1 F_.2.1 dX7_part_1 (by decide) (by rw [zi_toInt (by omega)]; exact lk2_out (by omega) (by omega)) (by decide) ?_
    refine lv_aload_n F_.1 F_.2.1 dX7_part_40 rfl (lv_at hl 0 rfl) ?_
    refine z_bipush F_ (by decide) dX7_part_41 ?_
    refine z_callVi F_ K_ W_ [.int (zi (-2))] (c_X7_refuse l_ D cy b q p x e cr t0 ab be rb rn ru (-2) (by first | omega | assumption)) 1 rfl gX7_part_X7_refuse rfl (by decide +kernel) ⟨⟨Nat.le_of_ble_eq_true rfl, Nat.le_of_ble_eq_true rfl⟩, rfl, rfl, Nat.zero_le _, Nat.zero_le _⟩ 0 0 6 rfl rfl rfl rfl hl.1 rfl (Nat.le_of_ble_eq_true rfl) [0] ([] : List Nat) ([] : List va_W) (fun (u_ : (Int) × (Int) × (Int)) => [wV cy b q p x e cr t0 ab be u_.1 u_.2.1 u_.2.2]) 1 (by decide +kernel) rfl rfl rfl (fun _ => rfl) (fun _ => rfl) (fun _ => rfl) dX7_part_43 (fun z_1 u_ H_ lo_ hw_ W_ => ?_)
    obtain ⟨rb2_2, rn2_3, ru2_4⟩ := u_
    have W_ : WD D A_ s_.heap ([wV cy b q p x e cr t0 ab be rb2_2 rn2_3 ru2_4]) H_ lo_ := W_
    replace hw_ : (z_1 = (-2)) ∧ (((-2) = -2 ∧ rb2_2 = rb + 1 ∧ rn2_3 = rn ∧ ru2_4 = ru) ∨ ((-2) = -3 ∧ rb2_2 = rb ∧ rn2_3 = rn + 1 ∧ ru2_4 = ru) ∨ (¬ (-2) = -2 ∧ ¬ (-2) = -3 ∧ rb2_2 = rb ∧ rn2_3 = rn ∧ ru2_4 = ru + 1)) := hw_
    obtain ⟨f43_v, f43_k⟩ := hw_
    refine z_i2l F_ (by omega) dX7_part_46 ?_
    exact hret _ _ _ _ z_1 (rb2_2, rn2_3, ru2_4) dX7_part_47 (by (try dsimp only) <;> (first | (refine Or.inl (⟨?_, ?_, ?_, ?_, ?_⟩) <;> (first | omega | rfl | assumption)) | (refine Or.inr (Or.inl (⟨?_, ?_, ?_, ?_, ?_⟩)) <;> (first | omega | rfl | assumption)) | (refine Or.inr (Or.inr (⟨?_, ?_, ?_, ?_, ?_⟩)) <;> (first | omega | rfl | assumption)))) W_
abbrev rX7_status : Room := { frames := 1, cells := 0, slots := 0, locals := 21 }
set_option maxHeartbeats 1000000 in
set_option maxRecDepth 100000 in
theorem c_X7_status (l_ : Launch) (D : va_G) (cy : Nat → ClassId) (b : Nat → Nat) (q : Nat → Nat) (p : Nat → Nat) (x : Nat → Nat) (e : Nat → Nat) (cr : Nat → Nat) (t0 : Nat) (ab : Int) (be : Int) (rb : Int) (rn : Int) (ru : Int) (w : Int) (rw : -2147483648 ≤ w ∧ w < 2147483648) : CTi l_ D cy yX7_status wsX7_status rX7_status [.ref (b 0), .int (zi w)] ([wV cy b q p x e cr t0 ab be rb rn ru]) (fun (z : Int) (u : (Int) × (Int) × (Int)) => ((w = 0 ∧ z = rb ∧ u.1 = rb ∧ u.2.1 = rn ∧ u.2.2 = ru) ∨ (w = 1 ∧ z = rn ∧ u.1 = rb ∧ u.2.1 = rn ∧ u.2.2 = ru) ∨ (w = 2 ∧ z = ru ∧ u.1 = rb ∧ u.2.1 = rn ∧ u.2.2 = ru) ∨ (¬ (0 ≤ w ∧ w ≤ 2) ∧ z = -1 ∧ u.1 = rb + 1 ∧ u.2.1 = rn ∧ u.2.2 = ru))) (fun (u : (Int) × (Int) × (Int)) => [wV cy b q p x e cr t0 ab be u.1 u.2.1 u.2.2]) := by
  refine CTi.of RX7 cX7_status 2 rfl (by decide) rfl (fun z u hz => rfl) (Nat.le_of_ble_eq_true rfl) ?_
  intro p_ e_ s_ m_ ar_ be_ me_ c_ Q_ A_ ls_ F_ K_ W_ hl hret
  have hl : lv_has ls_ 2 [(0, .ref (b 0)), (1, .int (zi w))] := hl
  obtain ⟨H_, hH_⟩ : ∃ x, x = s_.heap := ⟨_, rfl⟩
  obtain ⟨lo_, hlo_⟩ : ∃ x : List Loc, x = [] := ⟨_, rfl⟩
  have W_ : WD D A_ s_.heap ([wV cy b q p x e cr t0 ab be rb rn ru]) H_ lo_ := by rw [hH_, hlo_]; exact W_
  rw [← hlo_]
  suffices hg_ : W p_ l_ e_ rX7_status s_ m_ ar_ be_ me_ c_ H_ lo_ 0 0 Q_ (F0 m_ 0 ls_ []) by rw [hH_] at hg_; exact hg_
  clear hH_ hlo_
  have hinX7 : ∀ w ∈ u_ws RX7 TX7 13, w ∈ wsX7_status := fun w h => List.mem_cons_of_mem _ (List.mem_append_right _ h)
  refine lv_iload_n F_.1 F_.2.1 dX7_status_0 rfl (lv_at hl 1 rfl) ?_
  rcases (show w = 0 ∨ w = 1 ∨ w = 2 ∨ (w < 0 ∨ 2 < w) by omega) with c1 | c1 | c1 | c1
  · refine z_tabIn (tgt := 28) F_ 0 c1 ⟨by omega, by decide, by decide⟩ dX7_status_1 rfl (by decide) ?_
    refine lv_aload_n F_.1 F_.2.1 dX7_status_28 rfl (lv_at hl 0 rfl) ?_
    refine z_get F_ K_ W_ 0 0 10 rfl rfl rfl (C := RX7) (T := TX7) (N := 13) rfl (by decide) hinX7 (List.mem_of_getElem? (i := 1) rfl) dX7_status_29 ?_
    exact hret _ _ _ _ rb (rb, rn, ru) dX7_status_32 (by (try dsimp only) <;> (first | (refine Or.inl (⟨?_, ?_, ?_, ?_, ?_⟩) <;> (first | omega | rfl | assumption)) | (refine Or.inr (Or.inl (⟨?_, ?_, ?_, ?_, ?_⟩)) <;> (first | omega | rfl | assumption)) | (refine Or.inr (Or.inr (Or.inl (⟨?_, ?_, ?_, ?_, ?_⟩))) <;> (first | omega | rfl | assumption)) | (refine Or.inr (Or.inr (Or.inr (⟨?_, ?_, ?_, ?_, ?_⟩))) <;> (first | omega | rfl | assumption)))) W_
  · refine z_tabIn (tgt := 33) F_ 1 c1 ⟨by omega, by decide, by decide⟩ dX7_status_1 rfl (by decide) ?_
    refine lv_aload_n F_.1 F_.2.1 dX7_status_33 rfl (lv_at hl 0 rfl) ?_
    refine z_get F_ K_ W_ 0 0 11 rfl rfl rfl (C := RX7) (T := TX7) (N := 13) rfl (by decide) hinX7 (List.mem_of_getElem? (i := 2) rfl) dX7_status_34 ?_
    exact hret _ _ _ _ rn (rb, rn, ru) dX7_status_37 (by (try dsimp only) <;> (first | (refine Or.inl (⟨?_, ?_, ?_, ?_, ?_⟩) <;> (first | omega | rfl | assumption)) | (refine Or.inr (Or.inl (⟨?_, ?_, ?_, ?_, ?_⟩)) <;> (first | omega | rfl | assumption)) | (refine Or.inr (Or.inr (Or.inl (⟨?_, ?_, ?_, ?_, ?_⟩))) <;> (first | omega | rfl | assumption)) | (refine Or.inr (Or.inr (Or.inr (⟨?_, ?_, ?_, ?_, ?_⟩))) <;> (first | omega | rfl | assumption)))) W_
  · refine z_tabIn (tgt := 38) F_ 2 c1 ⟨by omega, by decide, by decide⟩ dX7_status_1 rfl (by decide) ?_
    refine lv_aload_n F_.1 F_.2.1 dX7_status_38 rfl (lv_at hl 0 rfl) ?_
    refine z_get F_ K_ W_ 0 0 12 rfl rfl rfl (C := RX7) (T := TX7) (N := 13) rfl (by decide) hinX7 (List.mem_of_getElem? (i := 3) rfl) dX7_status_39 ?_
    exact hret _ _ _ _ ru (rb, rn, ru) dX7_status_42 (by (try dsimp only) <;> (first | (refine Or.inl (⟨?_, ?_, ?_, ?_, ?_⟩) <;> (first | omega | rfl | assumption)) | (refine Or.inr (Or.inl (⟨?_, ?_, ?_, ?_, ?_⟩)) <;> (first | omega | rfl | assumption)) | (refine Or.inr (Or.inr (Or.inl (⟨?_, ?_, ?_, ?_, ?_⟩))) <;> (first | omega | rfl | assumption)) | (refine Or.inr (Or.inr (Or.inr (⟨?_, ?_, ?_, ?_, ?_⟩))) <;> (first | omega | rfl | assumption)))) W_
  · refine z_tabOut (tgt := 43) F_ ⟨by omega, c1⟩ dX7_status_1 (by decide) ?_
    refine lv_aload_n F_.1 F_.2.1 dX7_status_43 rfl (lv_at hl 0 rfl) ?_
    refine z_bipush F_ (by decide) dX7_status_44 ?_
    refine z_callVi F_ K_ W_ [.int (zi (-2))] (c_X7_refuse l_ D cy b q p x e cr t0 ab be rb rn ru (-2) (by first | omega | assumption)) 1 rfl gX7_status_X7_refuse rfl (by decide +kernel) ⟨⟨Nat.le_of_ble_eq_true rfl, Nat.le_of_ble_eq_true rfl⟩, rfl, rfl, Nat.zero_le _, Nat.zero_le _⟩ 0 0 6 rfl rfl rfl rfl hl.1 rfl (Nat.le_of_ble_eq_true rfl) [0] ([] : List Nat) ([] : List va_W) (fun (u_ : (Int) × (Int) × (Int)) => [wV cy b q p x e cr t0 ab be u_.1 u_.2.1 u_.2.2]) 1 (by decide +kernel) rfl rfl rfl (fun _ => rfl) (fun _ => rfl) (fun _ => rfl) dX7_status_46 (fun z_1 u_ H_ lo_ hw_ W_ => ?_)
    obtain ⟨rb2_2, rn2_3, ru2_4⟩ := u_
    have W_ : WD D A_ s_.heap ([wV cy b q p x e cr t0 ab be rb2_2 rn2_3 ru2_4]) H_ lo_ := W_
    replace hw_ : (z_1 = (-2)) ∧ (((-2) = -2 ∧ rb2_2 = rb + 1 ∧ rn2_3 = rn ∧ ru2_4 = ru) ∨ ((-2) = -3 ∧ rb2_2 = rb ∧ rn2_3 = rn + 1 ∧ ru2_4 = ru) ∨ (¬ (-2) = -2 ∧ ¬ (-2) = -3 ∧ rb2_2 = rb ∧ rn2_3 = rn ∧ ru2_4 = ru + 1)) := hw_
    obtain ⟨f46_v, f46_k⟩ := hw_
    refine lv_pop F_.1 F_.2.1 dX7_status_49 rfl ?_
    refine z_iconst F_ dX7_status_50 ?_
    exact hret _ _ _ _ (-1) (rb2_2, rn2_3, ru2_4) dX7_status_51 (by (try dsimp only) <;> (first | (refine Or.inl (⟨?_, ?_, ?_, ?_, ?_⟩) <;> (first | omega | rfl | assumption)) | (refine Or.inr (Or.inl (⟨?_, ?_, ?_, ?_, ?_⟩)) <;> (first | omega | rfl | assumption)) | (refine Or.inr (Or.inr (Or.inl (⟨?_, ?_, ?_, ?_, ?_⟩))) <;> (first | omega | rfl | assumption)) | (refine Or.inr (Or.inr (Or.inr (⟨?_, ?_, ?_, ?_, ?_⟩))) <;> (first | omega | rfl | assumption)))) W_
abbrev rX7_howMany : Room := { frames := 2, cells := 0, slots := 0, locals := 44 }
set_option maxHeartbeats 1000000 in
set_option maxRecDepth 100000 in
theorem c_X7_howMany (l_ : Launch) (D : va_G) (cy : Nat → ClassId) (b : Nat → Nat) (q : Nat → Nat) (p : Nat → Nat) (x : Nat → Nat) (e : Nat → Nat) (cr : Nat → Nat) (t0 : Nat) (ab : Int) (be : Int) (rb : Int) (rn : Int) (ru : Int) (S : Int) (M : Int) (sk : Int → Int) (sc : Int → Int) (mk : Int → Int) (ms : Int → Int) (mp : Int → Int) (r1 : Int) (f1 : Int → Int) (r2 : Int) (f2 : Int → Int) (r3 : Int) (f3 : Int → Int) (r4 : Int) (f4 : Int → Int) (ln : Int) (tok : Int) (st : Int) (en : Int) (va : Int) (xb : Int → Int) (w : Int) (bS : 0 ≤ S ∧ S ≤ 3) (bM : 0 ≤ M ∧ M ≤ 8) (bsk : ∀ j : Int, 0 ≤ sk j ∧ sk j ≤ 5) (bsc : ∀ j : Int, 0 ≤ sc j ∧ sc j ≤ 99) (bmk : ∀ j : Int, 0 ≤ mk j ∧ mk j ≤ 5) (bms : ∀ j : Int, 0 ≤ ms j ∧ ms j ≤ 9) (bmp : ∀ j : Int, (-1) ≤ mp j ∧ mp j ≤ 2) (bf1 : ∀ j : Int, (-1) ≤ f1 j ∧ f1 j ≤ 99) (bf2 : ∀ j : Int, (-1) ≤ f2 j ∧ f2 j ≤ 99) (bf3 : ∀ j : Int, (-1) ≤ f3 j ∧ f3 j ≤ 99) (bf4 : ∀ j : Int, (-1) ≤ f4 j ∧ f4 j ≤ 99) (bxb : ∀ j : Int, 0 ≤ xb j ∧ xb j ≤ 127) (rw : -2147483648 ≤ w ∧ w < 2147483648) (hrs : 0 ≤ r1 ∧ r1 ≤ 5 ∧ 0 ≤ r2 ∧ r2 ≤ 6 ∧ 0 ≤ r3 ∧ r3 ≤ 6 ∧ 0 ≤ r4 ∧ r4 ≤ 8) (hln : 0 ≤ ln ∧ ln ≤ 150) (hw : 0 ≤ w ∧ w ≤ 9) : CTi l_ D cy yX7_howMany wsX7_howMany rX7_howMany [.ref (b 0), .int (zi w)] ([wV cy b q p x e cr t0 ab be rb rn ru, wI cy q S M sk sc mk ms mp, wF cy (q 6) (q 7) 20 5 r1 f1, wF cy (q 8) (q 9) 24 6 r2 f2, wF cy (q 10) (q 11) 24 6 r3 f3, wF cy (q 12) (q 13) 32 8 r4 f4, wX cy x ln tok st en va xb]) (fun (z : Int) (u : Unit) => (z = ctI S M sc ms mp r1 r2 r3 r4 ln w)) (fun (_ : Unit) => [wV cy b q p x e cr t0 ab be rb rn ru, wI cy q S M sk sc mk ms mp, wF cy (q 6) (q 7) 20 5 r1 f1, wF cy (q 8) (q 9) 24 6 r2 f2, wF cy (q 10) (q 11) 24 6 r3 f3, wF cy (q 12) (q 13) 32 8 r4 f4, wX cy x ln tok st en va xb]) := by
  refine CTi.of RX7 cX7_howMany 2 rfl (by decide) rfl (fun z u hz => rfl) (Nat.le_of_ble_eq_true rfl) ?_
  intro p_ e_ s_ m_ ar_ be_ me_ c_ Q_ A_ ls_ F_ K_ W_ hl hret
  have hl : lv_has ls_ 2 [(0, .ref (b 0)), (1, .int (zi w))] := hl
  obtain ⟨H_, hH_⟩ : ∃ x, x = s_.heap := ⟨_, rfl⟩
  obtain ⟨lo_, hlo_⟩ : ∃ x : List Loc, x = [] := ⟨_, rfl⟩
  have W_ : WD D A_ s_.heap ([wV cy b q p x e cr t0 ab be rb rn ru, wI cy q S M sk sc mk ms mp, wF cy (q 6) (q 7) 20 5 r1 f1, wF cy (q 8) (q 9) 24 6 r2 f2, wF cy (q 10) (q 11) 24 6 r3 f3, wF cy (q 12) (q 13) 32 8 r4 f4, wX cy x ln tok st en va xb]) H_ lo_ := by rw [hH_, hlo_]; exact W_
  rw [← hlo_]
  suffices hg_ : W p_ l_ e_ rX7_howMany s_ m_ ar_ be_ me_ c_ H_ lo_ 0 0 Q_ (F0 m_ 0 ls_ []) by rw [hH_] at hg_; exact hg_
  clear hH_ hlo_
  have hinX4 : ∀ w ∈ u_ws RX4 TX4 11, w ∈ wsX7_howMany := fun w h => List.mem_cons_of_mem _ (List.mem_append_left _ (List.mem_append_left _ (List.mem_append_right _ h)))
  have hinX7 : ∀ w ∈ u_ws RX7 TX7 13, w ∈ wsX7_howMany := fun w h => List.mem_cons_of_mem _ (List.mem_append_left _ (List.mem_append_left _ (List.mem_append_left _ (List.mem_append_right _ h))))
  refine lv_iload_n F_.1 F_.2.1 dX7_howMany_0 rfl (lv_at hl 1 rfl) ?_
  rcases (show w = 0 ∨ w = 1 ∨ w = 2 ∨ w = 3 ∨ w = 4 ∨ w = 5 ∨ w = 6 ∨ w = 7 ∨ w = 8 ∨ (w < 0 ∨ 8 < w) by omega) with c1 | c1 | c1 | c1 | c1 | c1 | c1 | c1 | c1 | c1
  · refine z_tabIn (tgt := 52) F_ 0 c1 ⟨by omega, by decide, by decide⟩ dX7_howMany_1 rfl (by decide) ?_
    refine lv_aload_n F_.1 F_.2.1 dX7_howMany_52 rfl (lv_at hl 0 rfl) ?_
    refine z_get F_ K_ W_ 0 0 0 rfl rfl rfl (C := RX7) (T := TX7) (N := 13) rfl (by decide) hinX7 (List.mem_of_getElem? (i := 1) rfl) dX7_howMany_53 ?_
    refine z_get F_ K_ W_ 1 0 1 rfl rfl rfl (C := RX4) (T := TX4) (N := 11) rfl (by decide) hinX4 (List.mem_of_getElem? (i := 2) rfl) dX7_howMany_56 ?_
    exact hret _ _ _ _ M () dX7_howMany_59 (by unfold ctI; rw [if_pos (by omega)]; first | done | assumption) W_
  · refine z_tabIn (tgt := 60) F_ 1 c1 ⟨by omega, by decide, by decide⟩ dX7_howMany_1 rfl (by decide) ?_
    refine lv_aload_n F_.1 F_.2.1 dX7_howMany_60 rfl (lv_at hl 0 rfl) ?_
    refine z_get F_ K_ W_ 0 0 0 rfl rfl rfl (C := RX7) (T := TX7) (N := 13) rfl (by decide) hinX7 (List.mem_of_getElem? (i := 1) rfl) dX7_howMany_61 ?_
    refine z_get F_ K_ W_ 1 0 0 rfl rfl rfl (C := RX4) (T := TX4) (N := 11) rfl (by decide) hinX4 (List.mem_of_getElem? (i := 3) rfl) dX7_howMany_64 ?_
    exact hret _ _ _ _ S () dX7_howMany_67 (by unfold ctI; rw [if_neg (by omega)]; rw [if_pos (by omega)]; first | done | assumption) W_
  · refine z_tabIn (tgt := 68) F_ 2 c1 ⟨by omega, by decide, by decide⟩ dX7_howMany_1 rfl (by decide) ?_
    refine lv_aload_n F_.1 F_.2.1 dX7_howMany_68 rfl (lv_at hl 0 rfl) ?_
    refine z_get F_ K_ W_ 0 0 0 rfl rfl rfl (C := RX7) (T := TX7) (N := 13) rfl (by decide) hinX7 (List.mem_of_getElem? (i := 1) rfl) dX7_howMany_69 ?_
    refine z_iconst F_ dX7_howMany_72 ?_
    refine z_callVip F_ K_ W_ [.int (zi (-1))] (c_X4_menAt l_ D cy q S M sk sc mk ms mp (-1) (by omega) (by omega) bsk bsc bmk bms bmp (by first | omega | assumption)) 1 rfl gX7_howMany_X4_menAt rfl (by decide +kernel) ⟨⟨Nat.le_of_ble_eq_true rfl, Nat.le_of_ble_eq_true rfl⟩, rfl, rfl, Nat.zero_le _, Nat.zero_le _⟩ 0 0 4 rfl rfl rfl rfl hl.1 rfl (Nat.le_of_ble_eq_true rfl) [1] [0, 2, 3, 4, 5, 6] [wV cy b q p x e cr t0 ab be rb rn ru, wF cy (q 6) (q 7) 20 5 r1 f1, wF cy (q 8) (q 9) 24 6 r2 f2, wF cy (q 10) (q 11) 24 6 r3 f3, wF cy (q 12) (q 13) 32 8 r4 f4, wX cy x ln tok st en va xb] 7 (by decide +kernel) rfl rfl rfl dX7_howMany_73 (fun z_1 _ H_ lo_ hw_ W_ => ?_)
    replace hw_ : (z_1 = cntZ mp (-1) M) := hw_
    have f73_v := hw_
    clear hw_
    exact hret _ _ _ _ z_1 () dX7_howMany_76 (by unfold ctI; rw [if_neg (by omega)]; rw [if_neg (by omega)]; rw [if_pos (by omega)]; first | done | assumption) W_
  · refine z_tabIn (tgt := 77) F_ 3 c1 ⟨by omega, by decide, by decide⟩ dX7_howMany_1 rfl (by decide) ?_
    refine lv_aload_n F_.1 F_.2.1 dX7_howMany_77 rfl (lv_at hl 0 rfl) ?_
    refine z_get F_ K_ W_ 0 0 0 rfl rfl rfl (C := RX7) (T := TX7) (N := 13) rfl (by decide) hinX7 (List.mem_of_getElem? (i := 1) rfl) dX7_howMany_78 ?_
    refine z_iconst F_ dX7_howMany_81 ?_
    refine z_callVip F_ K_ W_ [.int (zi (-1))] (c_X4_skillsAt l_ D cy q S M sk sc mk ms mp (-1) (by omega) (by omega) bsk bsc bmk bms bmp (by first | omega | assumption)) 1 rfl gX7_howMany_X4_skillsAt rfl (by decide +kernel) ⟨⟨Nat.le_of_ble_eq_true rfl, Nat.le_of_ble_eq_true rfl⟩, rfl, rfl, Nat.zero_le _, Nat.zero_le _⟩ 0 0 4 rfl rfl rfl rfl hl.1 rfl (Nat.le_of_ble_eq_true rfl) [1] [0, 2, 3, 4, 5, 6] [wV cy b q p x e cr t0 ab be rb rn ru, wF cy (q 6) (q 7) 20 5 r1 f1, wF cy (q 8) (q 9) 24 6 r2 f2, wF cy (q 10) (q 11) 24 6 r3 f3, wF cy (q 12) (q 13) 32 8 r4 f4, wX cy x ln tok st en va xb] 7 (by decide +kernel) rfl rfl rfl dX7_howMany_82 (fun z_2 _ H_ lo_ hw_ W_ => ?_)
    replace hw_ : (z_2 = sumZ mp ms (-1) M) := hw_
    have f82_v := hw_
    clear hw_
    exact hret _ _ _ _ z_2 () dX7_howMany_85 (by unfold ctI; rw [if_neg (by omega)]; rw [if_neg (by omega)]; rw [if_neg (by omega)]; rw [if_pos (by omega)]; first | done | assumption) W_
  · refine z_tabIn (tgt := 86) F_ 4 c1 ⟨by omega, by decide, by decide⟩ dX7_howMany_1 rfl (by decide) ?_
    refine lv_aload_n F_.1 F_.2.1 dX7_howMany_86 rfl (lv_at hl 0 rfl) ?_
    refine z_get F_ K_ W_ 0 0 0 rfl rfl rfl (C := RX7) (T := TX7) (N := 13) rfl (by decide) hinX7 (List.mem_of_getElem? (i := 1) rfl) dX7_howMany_87 ?_
    refine z_callVip F_ K_ W_ [] (c_X4_allCalls l_ D cy q S M sk sc mk ms mp (by omega) (by omega) bsk bsc bmk bms bmp) 0 rfl gX7_howMany_X4_allCalls rfl (by decide +kernel) ⟨⟨Nat.le_of_ble_eq_true rfl, Nat.le_of_ble_eq_true rfl⟩, rfl, rfl, Nat.zero_le _, Nat.zero_le _⟩ 0 0 4 rfl rfl rfl rfl hl.1 rfl (Nat.le_of_ble_eq_true rfl) [1] [0, 2, 3, 4, 5, 6] [wV cy b q p x e cr t0 ab be rb rn ru, wF cy (q 6) (q 7) 20 5 r1 f1, wF cy (q 8) (q 9) 24 6 r2 f2, wF cy (q 10) (q 11) 24 6 r3 f3, wF cy (q 12) (q 13) 32 8 r4 f4, wX cy x ln tok st en va xb] 7 (by decide +kernel) rfl rfl rfl dX7_howMany_90 (fun z_3 _ H_ lo_ hw_ W_ => ?_)
    replace hw_ : (z_3 = totZ sc S) := hw_
    have f90_v := hw_
    clear hw_
    exact hret _ _ _ _ z_3 () dX7_howMany_93 (by unfold ctI; rw [if_neg (by omega)]; rw [if_neg (by omega)]; rw [if_neg (by omega)]; rw [if_neg (by omega)]; rw [if_pos (by omega)]; first | done | assumption) W_
  · refine z_tabIn (tgt := 94) F_ 5 c1 ⟨by omega, by decide, by decide⟩ dX7_howMany_1 rfl (by decide) ?_
    refine lv_aload_n F_.1 F_.2.1 dX7_howMany_94 rfl (lv_at hl 0 rfl) ?_
    refine z_get F_ K_ W_ 0 0 0 rfl rfl rfl (C := RX7) (T := TX7) (N := 13) rfl (by decide) hinX7 (List.mem_of_getElem? (i := 1) rfl) dX7_howMany_95 ?_
    refine z_get F_ K_ W_ 1 0 7 rfl rfl rfl (C := RX4) (T := TX4) (N := 11) rfl (by decide) hinX4 (List.mem_of_getElem? (i := 4) rfl) dX7_howMany_98 ?_
    refine z_callVip F_ K_ W_ [] (c_X2_size l_ D cy (q 6) (q 7) 20 5 r1 f1 bf1) 0 rfl gX7_howMany_X2_size rfl (by decide +kernel) ⟨⟨Nat.le_of_ble_eq_true rfl, Nat.le_of_ble_eq_true rfl⟩, rfl, rfl, Nat.zero_le _, Nat.zero_le _⟩ 0 0 2 rfl rfl rfl rfl hl.1 rfl (Nat.le_of_ble_eq_true rfl) [2] [0, 1, 3, 4, 5, 6] [wV cy b q p x e cr t0 ab be rb rn ru, wI cy q S M sk sc mk ms mp, wF cy (q 8) (q 9) 24 6 r2 f2, wF cy (q 10) (q 11) 24 6 r3 f3, wF cy (q 12) (q 13) 32 8 r4 f4, wX cy x ln tok st en va xb] 7 (by decide +kernel) rfl rfl rfl dX7_howMany_101 (fun z_4 _ H_ lo_ hw_ W_ => ?_)
    replace hw_ : (z_4 = r1) := hw_
    have f101_v := hw_
    clear hw_
    exact hret _ _ _ _ z_4 () dX7_howMany_104 (by unfold ctI; rw [if_neg (by omega)]; rw [if_neg (by omega)]; rw [if_neg (by omega)]; rw [if_neg (by omega)]; rw [if_neg (by omega)]; rw [if_pos (by omega)]; first | done | assumption) W_
  · refine z_tabIn (tgt := 105) F_ 6 c1 ⟨by omega, by decide, by decide⟩ dX7_howMany_1 rfl (by decide) ?_
    refine lv_aload_n F_.1 F_.2.1 dX7_howMany_105 rfl (lv_at hl 0 rfl) ?_
    refine z_get F_ K_ W_ 0 0 0 rfl rfl rfl (C := RX7) (T := TX7) (N := 13) rfl (by decide) hinX7 (List.mem_of_getElem? (i := 1) rfl) dX7_howMany_106 ?_
    refine z_get F_ K_ W_ 1 0 8 rfl rfl rfl (C := RX4) (T := TX4) (N := 11) rfl (by decide) hinX4 (List.mem_of_getElem? (i := 5) rfl) dX7_howMany_109 ?_
    refine z_callVip F_ K_ W_ [] (c_X2_size l_ D cy (q 8) (q 9) 24 6 r2 f2 bf2) 0 rfl gX7_howMany_X2_size rfl (by decide +kernel) ⟨⟨Nat.le_of_ble_eq_true rfl, Nat.le_of_ble_eq_true rfl⟩, rfl, rfl, Nat.zero_le _, Nat.zero_le _⟩ 0 0 2 rfl rfl rfl rfl hl.1 rfl (Nat.le_of_ble_eq_true rfl) [3] [0, 1, 2, 4, 5, 6] [wV cy b q p x e cr t0 ab be rb rn ru, wI cy q S M sk sc mk ms mp, wF cy (q 6) (q 7) 20 5 r1 f1, wF cy (q 10) (q 11) 24 6 r3 f3, wF cy (q 12) (q 13) 32 8 r4 f4, wX cy x ln tok st en va xb] 7 (by decide +kernel) rfl rfl rfl dX7_howMany_112 (fun z_5 _ H_ lo_ hw_ W_ => ?_)
    replace hw_ : (z_5 = r2) := hw_
    have f112_v := hw_
    clear hw_
    exact hret _ _ _ _ z_5 () dX7_howMany_115 (by unfold ctI; rw [if_neg (by omega)]; rw [if_neg (by omega)]; rw [if_neg (by omega)]; rw [if_neg (by omega)]; rw [if_neg (by omega)]; rw [if_neg (by omega)]; rw [if_pos (by omega)]; first | done | assumption) W_
  · refine z_tabIn (tgt := 116) F_ 7 c1 ⟨by omega, by decide, by decide⟩ dX7_howMany_1 rfl (by decide) ?_
    refine lv_aload_n F_.1 F_.2.1 dX7_howMany_116 rfl (lv_at hl 0 rfl) ?_
    refine z_get F_ K_ W_ 0 0 0 rfl rfl rfl (C := RX7) (T := TX7) (N := 13) rfl (by decide) hinX7 (List.mem_of_getElem? (i := 1) rfl) dX7_howMany_117 ?_
    refine z_get F_ K_ W_ 1 0 9 rfl rfl rfl (C := RX4) (T := TX4) (N := 11) rfl (by decide) hinX4 (List.mem_of_getElem? (i := 6) rfl) dX7_howMany_120 ?_
    refine z_callVip F_ K_ W_ [] (c_X2_size l_ D cy (q 10) (q 11) 24 6 r3 f3 bf3) 0 rfl gX7_howMany_X2_size rfl (by decide +kernel) ⟨⟨Nat.le_of_ble_eq_true rfl, Nat.le_of_ble_eq_true rfl⟩, rfl, rfl, Nat.zero_le _, Nat.zero_le _⟩ 0 0 2 rfl rfl rfl rfl hl.1 rfl (Nat.le_of_ble_eq_true rfl) [4] [0, 1, 2, 3, 5, 6] [wV cy b q p x e cr t0 ab be rb rn ru, wI cy q S M sk sc mk ms mp, wF cy (q 6) (q 7) 20 5 r1 f1, wF cy (q 8) (q 9) 24 6 r2 f2, wF cy (q 12) (q 13) 32 8 r4 f4, wX cy x ln tok st en va xb] 7 (by decide +kernel) rfl rfl rfl dX7_howMany_123 (fun z_6 _ H_ lo_ hw_ W_ => ?_)
    replace hw_ : (z_6 = r3) := hw_
    have f123_v := hw_
    clear hw_
    exact hret _ _ _ _ z_6 () dX7_howMany_126 (by unfold ctI; rw [if_neg (by omega)]; rw [if_neg (by omega)]; rw [if_neg (by omega)]; rw [if_neg (by omega)]; rw [if_neg (by omega)]; rw [if_neg (by omega)]; rw [if_neg (by omega)]; rw [if_pos (by omega)]; first | done | assumption) W_
  · refine z_tabIn (tgt := 127) F_ 8 c1 ⟨by omega, by decide, by decide⟩ dX7_howMany_1 rfl (by decide) ?_
    refine lv_aload_n F_.1 F_.2.1 dX7_howMany_127 rfl (lv_at hl 0 rfl) ?_
    refine z_get F_ K_ W_ 0 0 0 rfl rfl rfl (C := RX7) (T := TX7) (N := 13) rfl (by decide) hinX7 (List.mem_of_getElem? (i := 1) rfl) dX7_howMany_128 ?_
    refine z_get F_ K_ W_ 1 0 10 rfl rfl rfl (C := RX4) (T := TX4) (N := 11) rfl (by decide) hinX4 (List.mem_of_getElem? (i := 7) rfl) dX7_howMany_131 ?_
    refine z_callVip F_ K_ W_ [] (c_X2_size l_ D cy (q 12) (q 13) 32 8 r4 f4 bf4) 0 rfl gX7_howMany_X2_size rfl (by decide +kernel) ⟨⟨Nat.le_of_ble_eq_true rfl, Nat.le_of_ble_eq_true rfl⟩, rfl, rfl, Nat.zero_le _, Nat.zero_le _⟩ 0 0 2 rfl rfl rfl rfl hl.1 rfl (Nat.le_of_ble_eq_true rfl) [5] [0, 1, 2, 3, 4, 6] [wV cy b q p x e cr t0 ab be rb rn ru, wI cy q S M sk sc mk ms mp, wF cy (q 6) (q 7) 20 5 r1 f1, wF cy (q 8) (q 9) 24 6 r2 f2, wF cy (q 10) (q 11) 24 6 r3 f3, wX cy x ln tok st en va xb] 7 (by decide +kernel) rfl rfl rfl dX7_howMany_134 (fun z_7 _ H_ lo_ hw_ W_ => ?_)
    replace hw_ : (z_7 = r4) := hw_
    have f134_v := hw_
    clear hw_
    exact hret _ _ _ _ z_7 () dX7_howMany_137 (by unfold ctI; rw [if_neg (by omega)]; rw [if_neg (by omega)]; rw [if_neg (by omega)]; rw [if_neg (by omega)]; rw [if_neg (by omega)]; rw [if_neg (by omega)]; rw [if_neg (by omega)]; rw [if_neg (by omega)]; rw [if_pos (by omega)]; first | done | assumption) W_
  · refine z_tabOut (tgt := 138) F_ ⟨by omega, c1⟩ dX7_howMany_1 (by decide) ?_
    refine lv_aload_n F_.1 F_.2.1 dX7_howMany_138 rfl (lv_at hl 0 rfl) ?_
    refine z_get F_ K_ W_ 0 0 4 rfl rfl rfl (C := RX7) (T := TX7) (N := 13) rfl (by decide) hinX7 (List.mem_of_getElem? (i := 8) rfl) dX7_howMany_139 ?_
    refine z_callVip F_ K_ W_ [] (c_X6_size l_ D cy x ln tok st en va xb bxb) 0 rfl gX7_howMany_X6_size rfl (by decide +kernel) ⟨⟨Nat.le_of_ble_eq_true rfl, Nat.le_of_ble_eq_true rfl⟩, rfl, rfl, Nat.zero_le _, Nat.zero_le _⟩ 0 0 5 rfl rfl rfl rfl hl.1 rfl (Nat.le_of_ble_eq_true rfl) [6] [0, 1, 2, 3, 4, 5] [wV cy b q p x e cr t0 ab be rb rn ru, wI cy q S M sk sc mk ms mp, wF cy (q 6) (q 7) 20 5 r1 f1, wF cy (q 8) (q 9) 24 6 r2 f2, wF cy (q 10) (q 11) 24 6 r3 f3, wF cy (q 12) (q 13) 32 8 r4 f4] 7 (by decide +kernel) rfl rfl rfl dX7_howMany_142 (fun z_8 _ H_ lo_ hw_ W_ => ?_)
    replace hw_ : (z_8 = ln) := hw_
    have f142_v := hw_
    clear hw_
    exact hret _ _ _ _ z_8 () dX7_howMany_145 (by unfold ctI; rw [if_neg (by omega)]; rw [if_neg (by omega)]; rw [if_neg (by omega)]; rw [if_neg (by omega)]; rw [if_neg (by omega)]; rw [if_neg (by omega)]; rw [if_neg (by omega)]; rw [if_neg (by omega)]; rw [if_neg (by omega)]; first | done | assumption) W_
abbrev rX7_count : Room := { frames := 3, cells := 0, slots := 0, locals := 65 }
set_option maxHeartbeats 1000000 in
set_option maxRecDepth 100000 in
theorem c_X7_count (l_ : Launch) (D : va_G) (cy : Nat → ClassId) (b : Nat → Nat) (q : Nat → Nat) (p : Nat → Nat) (x : Nat → Nat) (e : Nat → Nat) (cr : Nat → Nat) (t0 : Nat) (ab : Int) (be : Int) (rb : Int) (rn : Int) (ru : Int) (S : Int) (M : Int) (sk : Int → Int) (sc : Int → Int) (mk : Int → Int) (ms : Int → Int) (mp : Int → Int) (r1 : Int) (f1 : Int → Int) (r2 : Int) (f2 : Int → Int) (r3 : Int) (f3 : Int → Int) (r4 : Int) (f4 : Int → Int) (ln : Int) (tok : Int) (st : Int) (en : Int) (va : Int) (xb : Int → Int) (w : Int) (bS : 0 ≤ S ∧ S ≤ 3) (bM : 0 ≤ M ∧ M ≤ 8) (bsk : ∀ j : Int, 0 ≤ sk j ∧ sk j ≤ 5) (bsc : ∀ j : Int, 0 ≤ sc j ∧ sc j ≤ 99) (bmk : ∀ j : Int, 0 ≤ mk j ∧ mk j ≤ 5) (bms : ∀ j : Int, 0 ≤ ms j ∧ ms j ≤ 9) (bmp : ∀ j : Int, (-1) ≤ mp j ∧ mp j ≤ 2) (bf1 : ∀ j : Int, (-1) ≤ f1 j ∧ f1 j ≤ 99) (bf2 : ∀ j : Int, (-1) ≤ f2 j ∧ f2 j ≤ 99) (bf3 : ∀ j : Int, (-1) ≤ f3 j ∧ f3 j ≤ 99) (bf4 : ∀ j : Int, (-1) ≤ f4 j ∧ f4 j ≤ 99) (bxb : ∀ j : Int, 0 ≤ xb j ∧ xb j ≤ 127) (rw : -2147483648 ≤ w ∧ w < 2147483648) (hrs : 0 ≤ r1 ∧ r1 ≤ 5 ∧ 0 ≤ r2 ∧ r2 ≤ 6 ∧ 0 ≤ r3 ∧ r3 ≤ 6 ∧ 0 ≤ r4 ∧ r4 ≤ 8) (hln : 0 ≤ ln ∧ ln ≤ 150) : CTi l_ D cy yX7_count wsX7_count rX7_count [.ref (b 0), .int (zi w)] ([wV cy b q p x e cr t0 ab be rb rn ru, wI cy q S M sk sc mk ms mp, wF cy (q 6) (q 7) 20 5 r1 f1, wF cy (q 8) (q 9) 24 6 r2 f2, wF cy (q 10) (q 11) 24 6 r3 f3, wF cy (q 12) (q 13) 32 8 r4 f4, wX cy x ln tok st en va xb]) (fun (z : Int) (u : (Int) × (Int) × (Int)) => (((0 ≤ w ∧ w ≤ 9) ∧ z = ctI S M sc ms mp r1 r2 r3 r4 ln w ∧ u.1 = rb ∧ u.2.1 = rn ∧ u.2.2 = ru) ∨ (¬ (0 ≤ w ∧ w ≤ 9) ∧ z = -2 ∧ u.1 = rb + 1 ∧ u.2.1 = rn ∧ u.2.2 = ru))) (fun (u : (Int) × (Int) × (Int)) => [wV cy b q p x e cr t0 ab be u.1 u.2.1 u.2.2, wI cy q S M sk sc mk ms mp, wF cy (q 6) (q 7) 20 5 r1 f1, wF cy (q 8) (q 9) 24 6 r2 f2, wF cy (q 10) (q 11) 24 6 r3 f3, wF cy (q 12) (q 13) 32 8 r4 f4, wX cy x ln tok st en va xb]) := by
  refine CTi.of RX7 cX7_count 2 rfl (by decide) rfl (fun z u hz => rfl) (Nat.le_of_ble_eq_true rfl) ?_
  intro p_ e_ s_ m_ ar_ be_ me_ c_ Q_ A_ ls_ F_ K_ W_ hl hret
  have hl : lv_has ls_ 2 [(0, .ref (b 0)), (1, .int (zi w))] := hl
  obtain ⟨H_, hH_⟩ : ∃ x, x = s_.heap := ⟨_, rfl⟩
  obtain ⟨lo_, hlo_⟩ : ∃ x : List Loc, x = [] := ⟨_, rfl⟩
  have W_ : WD D A_ s_.heap ([wV cy b q p x e cr t0 ab be rb rn ru, wI cy q S M sk sc mk ms mp, wF cy (q 6) (q 7) 20 5 r1 f1, wF cy (q 8) (q 9) 24 6 r2 f2, wF cy (q 10) (q 11) 24 6 r3 f3, wF cy (q 12) (q 13) 32 8 r4 f4, wX cy x ln tok st en va xb]) H_ lo_ := by rw [hH_, hlo_]; exact W_
  rw [← hlo_]
  suffices hg_ : W p_ l_ e_ rX7_count s_ m_ ar_ be_ me_ c_ H_ lo_ 0 0 Q_ (F0 m_ 0 ls_ []) by rw [hH_] at hg_; exact hg_
  clear hH_ hlo_
  refine lv_iload_n F_.1 F_.2.1 dX7_count_0 rfl (lv_at hl 1 rfl) ?_
  refine z_iconst F_ dX7_count_1 ?_
  refine z_bipush F_ (by decide) dX7_count_2 ?_
  refine z_callSip F_ K_ W_ [.int (zi w), .int (zi 0), .int (zi 9)] (c_X7_within l_ D cy w 0 9 (by first | omega | assumption) (by first | omega | assumption) (by first | omega | assumption)) 3 rfl gX7_count_X7_within rfl (by decide +kernel) ⟨⟨Nat.le_of_ble_eq_true rfl, Nat.le_of_ble_eq_true rfl⟩, rfl, rfl, Nat.zero_le _, Nat.zero_le _⟩ hl.1 rfl (Nat.le_of_ble_eq_true rfl) ([] : List Nat) [0, 1, 2, 3, 4, 5, 6] [wV cy b q p x e cr t0 ab be rb rn ru, wI cy q S M sk sc mk ms mp, wF cy (q 6) (q 7) 20 5 r1 f1, wF cy (q 8) (q 9) 24 6 r2 f2, wF cy (q 10) (q 11) 24 6 r3 f3, wF cy (q 12) (q 13) 32 8 r4 f4, wX cy x ln tok st en va xb] 7 (by decide +kernel) rfl rfl rfl dX7_count_4 (fun z_1 _ H_ lo_ hw_ W_ => ?_)
  replace hw_ : ((z_1 = 1 ∧ (0 ≤ w ∧ w ≤ 9)) ∨ (z_1 = 0 ∧ ¬ (0 ≤ w ∧ w ≤ 9))) := hw_
  have f4_v := hw_
  clear hw_
  refine z_if_eq (tgt := 18) F_ (by omega) dX7_count_7 (by decide) (fun c7 => ?_) (fun c7 => ?_)
  · refine lv_aload_n F_.1 F_.2.1 dX7_count_18 rfl (lv_at hl 0 rfl) ?_
    refine z_bipush F_ (by decide) dX7_count_19 ?_
    refine z_callVi F_ K_ W_ [.int (zi (-2))] (c_X7_refuse l_ D cy b q p x e cr t0 ab be rb rn ru (-2) (by first | omega | assumption)) 1 rfl gX7_count_X7_refuse rfl (by decide +kernel) ⟨⟨Nat.le_of_ble_eq_true rfl, Nat.le_of_ble_eq_true rfl⟩, rfl, rfl, Nat.zero_le _, Nat.zero_le _⟩ 0 0 6 rfl rfl rfl rfl hl.1 rfl (Nat.le_of_ble_eq_true rfl) [0] [1, 2, 3, 4, 5, 6] [wI cy q S M sk sc mk ms mp, wF cy (q 6) (q 7) 20 5 r1 f1, wF cy (q 8) (q 9) 24 6 r2 f2, wF cy (q 10) (q 11) 24 6 r3 f3, wF cy (q 12) (q 13) 32 8 r4 f4, wX cy x ln tok st en va xb] (fun (u_ : (Int) × (Int) × (Int)) => [wV cy b q p x e cr t0 ab be u_.1 u_.2.1 u_.2.2, wI cy q S M sk sc mk ms mp, wF cy (q 6) (q 7) 20 5 r1 f1, wF cy (q 8) (q 9) 24 6 r2 f2, wF cy (q 10) (q 11) 24 6 r3 f3, wF cy (q 12) (q 13) 32 8 r4 f4, wX cy x ln tok st en va xb]) 7 (by decide +kernel) rfl rfl rfl (fun _ => rfl) (fun _ => rfl) (fun _ => rfl) dX7_count_21 (fun z_2 u_ H_ lo_ hw_ W_ => ?_)
    obtain ⟨rb2_3, rn2_4, ru2_5⟩ := u_
    have W_ : WD D A_ s_.heap ([wV cy b q p x e cr t0 ab be rb2_3 rn2_4 ru2_5, wI cy q S M sk sc mk ms mp, wF cy (q 6) (q 7) 20 5 r1 f1, wF cy (q 8) (q 9) 24 6 r2 f2, wF cy (q 10) (q 11) 24 6 r3 f3, wF cy (q 12) (q 13) 32 8 r4 f4, wX cy x ln tok st en va xb]) H_ lo_ := W_
    replace hw_ : (z_2 = (-2)) ∧ (((-2) = -2 ∧ rb2_3 = rb + 1 ∧ rn2_4 = rn ∧ ru2_5 = ru) ∨ ((-2) = -3 ∧ rb2_3 = rb ∧ rn2_4 = rn + 1 ∧ ru2_5 = ru) ∨ (¬ (-2) = -2 ∧ ¬ (-2) = -3 ∧ rb2_3 = rb ∧ rn2_4 = rn ∧ ru2_5 = ru + 1)) := hw_
    obtain ⟨f21_v, f21_k⟩ := hw_
    exact hret _ _ _ _ z_2 (rb2_3, rn2_4, ru2_5) dX7_count_24 (by (try dsimp only) <;> (first | (refine Or.inl (⟨?_, ?_, ?_, ?_, ?_⟩) <;> (first | omega | rfl | assumption)) | (refine Or.inr (⟨?_, ?_, ?_, ?_, ?_⟩) <;> (first | omega | rfl | assumption)))) W_
  · refine lv_aload_n F_.1 F_.2.1 dX7_count_10 rfl (lv_at hl 0 rfl) ?_
    refine lv_iload_n F_.1 F_.2.1 dX7_count_11 rfl (lv_at hl 1 rfl) ?_
    refine z_callVip F_ K_ W_ [.int (zi w)] (c_X7_howMany l_ D cy b q p x e cr t0 ab be rb rn ru S M sk sc mk ms mp r1 f1 r2 f2 r3 f3 r4 f4 ln tok st en va xb w (by omega) (by omega) bsk bsc bmk bms bmp bf1 bf2 bf3 bf4 bxb (by first | omega | assumption) (by first | omega | assumption) (by first | omega | assumption) (by first | omega | assumption)) 1 rfl gX7_count_X7_howMany rfl (by decide +kernel) ⟨⟨Nat.le_of_ble_eq_true rfl, Nat.le_of_ble_eq_true rfl⟩, rfl, rfl, Nat.zero_le _, Nat.zero_le _⟩ 0 0 6 rfl rfl rfl rfl hl.1 rfl (Nat.le_of_ble_eq_true rfl) [0, 1, 2, 3, 4, 5, 6] ([] : List Nat) ([] : List va_W) 7 (by decide +kernel) rfl rfl rfl dX7_count_12 (fun z_6 _ H_ lo_ hw_ W_ => ?_)
    replace hw_ : (z_6 = ctI S M sc ms mp r1 r2 r3 r4 ln w) := hw_
    have f12_v := hw_
    clear hw_
    have hcb_ := ctI_b (S := S) (M := M) (sc := sc) (ms := ms) (mp := mp) (r1 := r1) (r2 := r2) (r3 := r3) (r4 := r4) (ln := ln) w (by omega) (by omega) bsc bms hrs hln
    rw [← f12_v] at hcb_
    refine z_goto (tgt := 24) F_ dX7_count_15 (by decide) ?_
    exact hret _ _ _ _ z_6 (rb, rn, ru) dX7_count_24 (by (try dsimp only) <;> (first | (refine Or.inl (⟨?_, ?_, ?_, ?_, ?_⟩) <;> (first | omega | rfl | assumption)) | (refine Or.inr (⟨?_, ?_, ?_, ?_, ?_⟩) <;> (first | omega | rfl | assumption)))) W_
abbrev rX7_digest : Room := { frames := 3, cells := 0, slots := 0, locals := 65 }
set_option maxHeartbeats 1000000 in
set_option maxRecDepth 100000 in
theorem c_X7_digest (l_ : Launch) (D : va_G) (cy : Nat → ClassId) (b : Nat → Nat) (q : Nat → Nat) (p : Nat → Nat) (x : Nat → Nat) (e : Nat → Nat) (cr : Nat → Nat) (t0 : Nat) (ab : Int) (be : Int) (rb : Int) (rn : Int) (ru : Int) (S : Int) (M : Int) (sk : Int → Int) (sc : Int → Int) (mk : Int → Int) (ms : Int → Int) (mp : Int → Int) (r1 : Int) (f1 : Int → Int) (r2 : Int) (f2 : Int → Int) (r3 : Int) (f3 : Int → Int) (r4 : Int) (f4 : Int → Int) (ln : Int) (tok : Int) (st : Int) (en : Int) (va : Int) (xb : Int → Int) (bS : 0 ≤ S ∧ S ≤ 3) (bM : 0 ≤ M ∧ M ≤ 8) (bsk : ∀ j : Int, 0 ≤ sk j ∧ sk j ≤ 5) (bsc : ∀ j : Int, 0 ≤ sc j ∧ sc j ≤ 99) (bmk : ∀ j : Int, 0 ≤ mk j ∧ mk j ≤ 5) (bms : ∀ j : Int, 0 ≤ ms j ∧ ms j ≤ 9) (bmp : ∀ j : Int, (-1) ≤ mp j ∧ mp j ≤ 2) (bf1 : ∀ j : Int, (-1) ≤ f1 j ∧ f1 j ≤ 99) (bf2 : ∀ j : Int, (-1) ≤ f2 j ∧ f2 j ≤ 99) (bf3 : ∀ j : Int, (-1) ≤ f3 j ∧ f3 j ≤ 99) (bf4 : ∀ j : Int, (-1) ≤ f4 j ∧ f4 j ≤ 99) (bxb : ∀ j : Int, 0 ≤ xb j ∧ xb j ≤ 127) (hrs : 0 ≤ r1 ∧ r1 ≤ 5 ∧ 0 ≤ r2 ∧ r2 ≤ 6 ∧ 0 ≤ r3 ∧ r3 ≤ 6 ∧ 0 ≤ r4 ∧ r4 ≤ 8) (hln : 0 ≤ ln ∧ ln ≤ 150) (hab : (0 ≤ ab ∧ ab ≤ 8) ∧ (1 ≤ be ∧ be ≤ 8)) : CTl l_ D cy yX7_digest wsX7_digest rX7_digest [.ref (b 0)] ([wV cy b q p x e cr t0 ab be rb rn ru, wI cy q S M sk sc mk ms mp, wF cy (q 6) (q 7) 20 5 r1 f1, wF cy (q 8) (q 9) 24 6 r2 f2, wF cy (q 10) (q 11) 24 6 r3 f3, wF cy (q 12) (q 13) 32 8 r4 f4, wX cy x ln tok st en va xb]) (fun (z : Int) (u : Unit) => (z = (31 * (31 * hashZ f3 0 (hashZ f2 0 (hashZ f1 0 (hashM mk ms mp (hashS sk sc (hashZ (ctI S M sc ms mp r1 r2 r3 r4 ln) 0 1721 10) S) M) (4 * r1)) (4 * r2)) (4 * r3) + ab) + be))) (fun (_ : Unit) => [wV cy b q p x e cr t0 ab be rb rn ru, wI cy q S M sk sc mk ms mp, wF cy (q 6) (q 7) 20 5 r1 f1, wF cy (q 8) (q 9) 24 6 r2 f2, wF cy (q 10) (q 11) 24 6 r3 f3, wF cy (q 12) (q 13) 32 8 r4 f4, wX cy x ln tok st en va xb]) := by
  refine CTl.of RX7 cX7_digest 4 rfl (by decide) rfl (Nat.le_of_ble_eq_true rfl) ?_
  intro p_ e_ s_ m_ ar_ be_ me_ c_ Q_ A_ ls_ F_ K_ W_ hl hret
  have hl : lv_has ls_ 4 [(0, .ref (b 0))] := hl
  obtain ⟨H_, hH_⟩ : ∃ x, x = s_.heap := ⟨_, rfl⟩
  obtain ⟨lo_, hlo_⟩ : ∃ x : List Loc, x = [] := ⟨_, rfl⟩
  have W_ : WD D A_ s_.heap ([wV cy b q p x e cr t0 ab be rb rn ru, wI cy q S M sk sc mk ms mp, wF cy (q 6) (q 7) 20 5 r1 f1, wF cy (q 8) (q 9) 24 6 r2 f2, wF cy (q 10) (q 11) 24 6 r3 f3, wF cy (q 12) (q 13) 32 8 r4 f4, wX cy x ln tok st en va xb]) H_ lo_ := by rw [hH_, hlo_]; exact W_
  rw [← hlo_]
  suffices hg_ : W p_ l_ e_ rX7_digest s_ m_ ar_ be_ me_ c_ H_ lo_ 0 0 Q_ (F0 m_ 0 ls_ []) by rw [hH_] at hg_; exact hg_
  clear hH_ hlo_
  have hinX7 : ∀ w ∈ u_ws RX7 TX7 13, w ∈ wsX7_digest := fun w h => List.mem_cons_of_mem _ (List.mem_append_left _ (List.mem_append_left _ (List.mem_append_left _ (List.mem_append_right _ h))))
  refine z_ldc2 (z := 1721) F_ (F_.2.2.2.2 _ (List.mem_of_getElem? (i := 1) rfl)) rfl dX7_digest_0 ?_
  refine lv_lstore_n (lv' := [(1, .long (zl 1721)), (0, .ref (b 0))]) F_.1 F_.2.1 dX7_digest_3 rfl hl (by decide) rfl (fun ls_ hl => ?_)
  refine z_iconst F_ dX7_digest_4 ?_
  refine lv_istore_n (lv' := [(3, .int (zi 0)), (1, .long (zl 1721)), (0, .ref (b 0))]) F_.1 F_.2.1 dX7_digest_5 rfl hl (by decide) rfl (fun ls_ hl => ?_)
  have L6 : ∀ (n_ : Nat) (y : Int) (k : Int) (hk : 0 ≤ k ∧ k ≤ 10) (hy : y = (hashZ (ctI S M sc ms mp r1 r2 r3 r4 ln) 0 1721 k)) (hm_ : (10 - k : Int) < (n_ : Int)) (ls_ : Array Slot) (H_ : Heap) (lo_ : List Loc), WD D A_ s_.heap ([wV cy b q p x e cr t0 ab be rb rn ru, wI cy q S M sk sc mk ms mp, wF cy (q 6) (q 7) 20 5 r1 f1, wF cy (q 8) (q 9) 24 6 r2 f2, wF cy (q 10) (q 11) 24 6 r3 f3, wF cy (q 12) (q 13) 32 8 r4 f4, wX cy x ln tok st en va xb]) H_ lo_ → lv_has ls_ 4 [(3, .int (zi k)), (1, .long (zl y)), (0, .ref (b 0))] → W p_ l_ e_ rX7_digest s_ m_ ar_ be_ me_ c_ H_ lo_ 0 0 Q_ (F0 m_ 6 ls_ []) := by
    intro n_
    induction n_ with
    | zero =>
      intro y k hk hy hm_ ls_ H_ lo_ _ _
      exact absurd hm_ (by omega)
    | succ n_ ih_ =>
      intro y k hk hy hm_ ls_ H_ lo_ W_ hl
      have ih6 := ih_
      refine lv_iload_n F_.1 F_.2.1 dX7_digest_6 rfl (lv_at hl 0 rfl) ?_
      refine z_bipush F_ (by decide) dX7_digest_7 ?_
      refine z_icmp_ge (tgt := 31) F_ (by omega) dX7_digest_9 (by decide) (fun c9 => ?_) (fun c9 => ?_)
      · refine lv_aload_n F_.1 F_.2.1 dX7_digest_31 rfl (lv_at hl 2 rfl) ?_
        refine z_get F_ K_ W_ 0 0 0 rfl rfl rfl (C := RX7) (T := TX7) (N := 13) rfl (by decide) hinX7 (List.mem_of_getElem? (i := 3) rfl) dX7_digest_32 ?_
        refine lv_lload_n F_.1 F_.2.1 dX7_digest_35 rfl (lv_at hl 1 rfl) ?_
        refine z_callVlp F_ K_ W_ [.long (zl y)] (c_X4_foldInto l_ D cy q S M sk sc mk ms mp r1 f1 r2 f2 r3 f3 r4 f4 y (by omega) (by omega) bsk bsc bmk bms bmp bf1 bf2 bf3 bf4 (by first | omega | assumption)) 1 rfl gX7_digest_X4_foldInto rfl (by decide +kernel) ⟨⟨Nat.le_of_ble_eq_true rfl, Nat.le_of_ble_eq_true rfl⟩, rfl, rfl, Nat.zero_le _, Nat.zero_le _⟩ 0 0 4 rfl rfl rfl rfl hl.1 rfl (Nat.le_of_ble_eq_true rfl) [1, 2, 3, 4, 5] [0, 6] [wV cy b q p x e cr t0 ab be rb rn ru, wX cy x ln tok st en va xb] 7 (by decide +kernel) rfl rfl rfl dX7_digest_36 (fun z_1 _ H_ lo_ hw_ W_ => ?_)
        replace hw_ : (z_1 = hashZ f3 0 (hashZ f2 0 (hashZ f1 0 (hashM mk ms mp (hashS sk sc y S) M) (4 * r1)) (4 * r2)) (4 * r3)) := hw_
        have f36_v := hw_
        clear hw_
        refine lv_lstore_n (lv' := [(1, .long (zl z_1)), (3, .int (zi k)), (0, .ref (b 0))]) F_.1 F_.2.1 dX7_digest_39 rfl hl (by decide) rfl (fun ls_ hl => ?_)
        refine z_ldc2 (z := 31) F_ (F_.2.2.2.2 _ (List.mem_of_getElem? (i := 2) rfl)) rfl dX7_digest_40 ?_
        refine lv_lload_n F_.1 F_.2.1 dX7_digest_43 rfl (lv_at hl 0 rfl) ?_
        refine z_lmul F_ dX7_digest_44 ?_
        refine lv_aload_n F_.1 F_.2.1 dX7_digest_45 rfl (lv_at hl 2 rfl) ?_
        refine z_get F_ K_ W_ 0 0 8 rfl rfl rfl (C := RX7) (T := TX7) (N := 13) rfl (by decide) hinX7 (List.mem_of_getElem? (i := 4) rfl) dX7_digest_46 ?_
        refine z_i2l F_ (by omega) dX7_digest_49 ?_
        refine z_ladd F_ dX7_digest_50 ?_
        refine lv_lstore_n (lv' := [(1, .long (zl ((31 * z_1) + ab))), (3, .int (zi k)), (0, .ref (b 0))]) F_.1 F_.2.1 dX7_digest_51 rfl hl (by decide) rfl (fun ls_ hl => ?_)
        refine z_ldc2 (z := 31) F_ (F_.2.2.2.2 _ (List.mem_of_getElem? (i := 2) rfl)) rfl dX7_digest_52 ?_
        refine lv_lload_n F_.1 F_.2.1 dX7_digest_55 rfl (lv_at hl 0 rfl) ?_
        refine z_lmul F_ dX7_digest_56 ?_
        refine lv_aload_n F_.1 F_.2.1 dX7_digest_57 rfl (lv_at hl 2 rfl) ?_
        refine z_get F_ K_ W_ 0 0 9 rfl rfl rfl (C := RX7) (T := TX7) (N := 13) rfl (by decide) hinX7 (List.mem_of_getElem? (i := 5) rfl) dX7_digest_58 ?_
        refine z_i2l F_ (by omega) dX7_digest_61 ?_
        refine z_ladd F_ dX7_digest_62 ?_
        exact hret _ _ _ _ ((31 * ((31 * z_1) + ab)) + be) () dX7_digest_63 (by rw [f36_v, hy, show k = 10 by omega]) W_
      · refine z_ldc2 (z := 31) F_ (F_.2.2.2.2 _ (List.mem_of_getElem? (i := 2) rfl)) rfl dX7_digest_12 ?_
        refine lv_lload_n F_.1 F_.2.1 dX7_digest_15 rfl (lv_at hl 1 rfl) ?_
        refine z_lmul F_ dX7_digest_16 ?_
        refine lv_aload_n F_.1 F_.2.1 dX7_digest_17 rfl (lv_at hl 2 rfl) ?_
        refine lv_iload_n F_.1 F_.2.1 dX7_digest_18 rfl (lv_at hl 0 rfl) ?_
        refine z_callVip F_ K_ W_ [.int (zi k)] (c_X7_howMany l_ D cy b q p x e cr t0 ab be rb rn ru S M sk sc mk ms mp r1 f1 r2 f2 r3 f3 r4 f4 ln tok st en va xb k (by omega) (by omega) bsk bsc bmk bms bmp bf1 bf2 bf3 bf4 bxb (by first | omega | assumption) (by first | omega | assumption) (by first | omega | assumption) (by first | omega | assumption)) 1 rfl gX7_digest_X7_howMany rfl (by decide +kernel) ⟨⟨Nat.le_of_ble_eq_true rfl, Nat.le_of_ble_eq_true rfl⟩, rfl, rfl, Nat.zero_le _, Nat.zero_le _⟩ 0 0 6 rfl rfl rfl rfl hl.1 rfl (Nat.le_of_ble_eq_true rfl) [0, 1, 2, 3, 4, 5, 6] ([] : List Nat) ([] : List va_W) 7 (by decide +kernel) rfl rfl rfl dX7_digest_19 (fun z_2 _ H_ lo_ hw_ W_ => ?_)
        replace hw_ : (z_2 = ctI S M sc ms mp r1 r2 r3 r4 ln k) := hw_
        have f19_v := hw_
        clear hw_
        have hcb_ := ctI_b (S := S) (M := M) (sc := sc) (ms := ms) (mp := mp) (r1 := r1) (r2 := r2) (r3 := r3) (r4 := r4) (ln := ln) k (by omega) (by omega) bsc bms hrs hln
        rw [← f19_v] at hcb_
        refine z_i2l F_ (by omega) dX7_digest_22 ?_
        refine z_ladd F_ dX7_digest_23 ?_
        refine lv_lstore_n (lv' := [(1, .long (zl ((31 * y) + z_2))), (3, .int (zi k)), (0, .ref (b 0))]) F_.1 F_.2.1 dX7_digest_24 rfl hl (by decide) rfl (fun ls_ hl => ?_)
        refine z_iinc (lv' := [(3, .int (zi (k + 1))), (1, .long (zl ((31 * y) + z_2))), (0, .ref (b 0))]) F_ dX7_digest_25 hl (k := 1) rfl (by decide) rfl (fun ls_ hl => ?_)
        refine z_goto (tgt := 6) F_ dX7_digest_28 (by decide) ?_
        exact ih6 ((31 * y) + z_2) (k + 1) (by first | omega | assumption) (by rw [hashZ_s _ _ _ hk.1, ← hy, Int.zero_add, f19_v]) (by omega) ls_ H_ lo_ W_ (lv_sub hl [0, 1, 2] rfl)
  exact L6 ((10 - 0 : Int).toNat + 1) 1721 0 (by first | omega | assumption) (by rfl) (by have := Int.self_le_toNat (10 - 0 : Int); omega) ls_ H_ lo_ W_ (lv_sub hl [0, 1, 2] rfl)
