def vlZ (nt kd : Int) : Int → Int → Int := if nt = 1 then needZ kd else likedZ kd
def kbZ (f : Int → Int) (nt i n m : Int) : Int := bitZ (fun kd => fitZ f (vlZ nt kd) i n) 1 m
theorem kbZ_s (f : Int → Int) (nt i n : Int) {m : Int} (h : 0 ≤ m) : kbZ f nt i n (m + 1) = kbZ f nt i n m + if fitZ f (vlZ nt m) i n = 1 then zpw m else 0 := bitZ_s _ _ h
theorem kbZ_b (f : Int → Int) (nt i n : Int) {m : Int} (h : 0 ≤ m) : 0 ≤ kbZ f nt i n m ∧ kbZ f nt i n m < zpw m := bitZ_b _ _ h

abbrev rX8_skilled : Room := { frames := 2, cells := 0, slots := 0, locals := 50 }
set_option maxHeartbeats 1000000 in
set_option maxRecDepth 100000 in
theorem c_X8_skilled (l_ : Launch) (D : va_G) (cy : Nat → ClassId) (o : Nat → Nat) (ab : Int) (be : Int) (bl : Int) (ta : Int) (tl : Int) (tk : Int) (vl : Int) (g : Int → Int) (rf : Int → Int) (i : Int) (w : Int) (bg : ∀ j : Int, 0 ≤ g j ∧ g j ≤ 99) (ri : -2147483648 ≤ i ∧ i < 2147483648) (rw : -2147483648 ≤ w ∧ w < 2147483648) (hg0 : 0 ≤ g 0 ∧ g 0 ≤ 8) (hg2 : 0 ≤ g 2 ∧ g 2 ≤ 5) : CTi l_ D cy yX8_skilled wsX8_skilled rX8_skilled [.ref (o 0), .int (zi i), .int (zi w)] ([wO cy o ab be bl ta tl tk vl, wA cy (o 1) 192 g, wR cy (o 4) 3 rf]) (fun (z : Int) (u : (Int → Int)) => ((((0 ≤ i ∧ i < g 0) ∧ 0 ≤ w ∧ w ≤ 2) ∧ z = (if w = 0 then cntZ (okS (shZ g 36) (g (20 + i)) i (g 2)) 1 10 else if w = 1 then fstZ (okS (shZ g 36) (g (20 + i)) i (g 2)) 10 else lasZ (okS (shZ g 36) (g (20 + i)) i (g 2)) 10) ∧ u = rf) ∨ (¬ ((0 ≤ i ∧ i < g 0) ∧ 0 ≤ w ∧ w ≤ 2) ∧ z = -2 ∧ u = rfZ rf 0))) (fun (u : (Int → Int)) => [wO cy o ab be bl ta tl tk vl, wA cy (o 1) 192 g, wR cy (o 4) 3 u]) := by
  refine CTi.of RX8 cX8_skilled 7 rfl (by decide) rfl (fun z u hz => rfl) (Nat.le_of_ble_eq_true rfl) ?_
  intro p_ e_ s_ m_ ar_ be_ me_ c_ Q_ A_ ls_ F_ K_ W_ hl hret
  have hl : lv_has ls_ 7 [(0, .ref (o 0)), (1, .int (zi i)), (2, .int (zi w))] := hl
  obtain ⟨H_, hH_⟩ : ∃ x, x = s_.heap := ⟨_, rfl⟩
  obtain ⟨lo_, hlo_⟩ : ∃ x : List Loc, x = [] := ⟨_, rfl⟩
  have W_ : WD D A_ s_.heap ([wO cy o ab be bl ta tl tk vl, wA cy (o 1) 192 g, wR cy (o 4) 3 rf]) H_ lo_ := by rw [hH_, hlo_]; exact W_
  rw [← hlo_]
  suffices hg_ : W p_ l_ e_ rX8_skilled s_ m_ ar_ be_ me_ c_ H_ lo_ 0 0 Q_ (F0 m_ 0 ls_ []) by rw [hH_] at hg_; exact hg_
  clear hH_ hlo_
  refine lv_aload_n F_.1 F_.2.1 dX8_skilled_0 rfl (lv_at hl 0 rfl) ?_
  refine lv_iload_n F_.1 F_.2.1 dX8_skilled_1 rfl (lv_at hl 1 rfl) ?_
  refine z_callVip F_ K_ W_ [.int (zi i)] (c_X8_isMan l_ D cy o ab be bl ta tl tk vl g i bg (by first | omega | assumption) (by first | omega | assumption)) 1 rfl gX8_skilled_X8_isMan rfl (by decide +kernel) ⟨⟨Nat.le_of_ble_eq_true rfl, Nat.le_of_ble_eq_true rfl⟩, rfl, rfl, Nat.zero_le _, Nat.zero_le _⟩ 0 0 7 rfl rfl rfl rfl hl.1 rfl (Nat.le_of_ble_eq_true rfl) [0, 1] [2] [wR cy (o 4) 3 rf] 3 (by decide +kernel) rfl rfl rfl dX8_skilled_2 (fun z_1 _ H_ lo_ hw_ W_ => ?_)
  have hw_ : ((z_1 = 1 ∧ (0 ≤ i ∧ i < g 0)) ∨ (z_1 = 0 ∧ ¬ (0 ≤ i ∧ i < g 0))) := hw_
  have f2_v := hw_
  refine z_if_eq (tgt := 20) F_ (by omega) dX8_skilled_5 (by decide) (fun c5 => ?_) (fun c5 => ?_)
  · refine lv_aload_n F_.1 F_.2.1 dX8_skilled_20 rfl (lv_at hl 0 rfl) ?_
    refine z_bipush F_ (by decide) dX8_skilled_21 ?_
    refine z_callVi F_ K_ W_ [.int (zi (-2))] (c_X8_bad l_ D cy o ab be bl ta tl tk vl rf (-2) (by first | omega | assumption)) 1 rfl gX8_skilled_X8_bad rfl (by decide +kernel) ⟨⟨Nat.le_of_ble_eq_true rfl, Nat.le_of_ble_eq_true rfl⟩, rfl, rfl, Nat.zero_le _, Nat.zero_le _⟩ 0 0 7 rfl rfl rfl rfl hl.1 rfl (Nat.le_of_ble_eq_true rfl) [0, 2] [1] [wA cy (o 1) 192 g] (fun (u_ : (Int → Int)) => [wO cy o ab be bl ta tl tk vl, wA cy (o 1) 192 g, wR cy (o 4) 3 u_]) 3 (by decide +kernel) rfl rfl rfl (fun _ => rfl) (fun _ => rfl) (fun _ => rfl) dX8_skilled_23 (fun z_2 u_ H_ lo_ hw_ W_ => ?_)
    obtain ⟨rf2_3, rfl⟩ : ∃ x, x = u_ := ⟨_, rfl⟩
    have W_ : WD D A_ s_.heap ([wO cy o ab be bl ta tl tk vl, wA cy (o 1) 192 g, wR cy (o 4) 3 rf2_3]) H_ lo_ := W_
    have hw_ : (z_2 = (-2)) ∧ (rf2_3 = rfZ rf 0) := hw_
    obtain ⟨f23_v, f23_r⟩ := hw_
    exact hret _ _ _ _ z_2 rf2_3 dX8_skilled_26 (by exact Or.inr ⟨by omega, by omega, by assumption⟩) W_
  · refine lv_iload_n F_.1 F_.2.1 dX8_skilled_8 rfl (lv_at hl 2 rfl) ?_
    refine z_i2l F_ (by omega) dX8_skilled_9 ?_
    refine z_lconst (z := 0) F_ rfl dX8_skilled_10 ?_
    refine z_ldc2 (z := 2) F_ (F_.2.2.2.2 _ (List.mem_of_getElem? (i := 1) rfl)) rfl dX8_skilled_11 ?_
    refine z_callSip F_ K_ W_ [.long (zl w), .long (zl 0), .long (zl 2)] (c_X8_in l_ D cy w 0 2 (by first | omega | assumption)) 3 rfl gX8_skilled_X8_in rfl (by decide +kernel) ⟨⟨Nat.le_of_ble_eq_true rfl, Nat.le_of_ble_eq_true rfl⟩, rfl, rfl, Nat.zero_le _, Nat.zero_le _⟩ hl.1 rfl (Nat.le_of_ble_eq_true rfl) ([] : List Nat) [0, 1, 2] [wO cy o ab be bl ta tl tk vl, wA cy (o 1) 192 g, wR cy (o 4) 3 rf] 3 (by decide +kernel) rfl rfl rfl dX8_skilled_14 (fun z_4 _ H_ lo_ hw_ W_ => ?_)
    have hw_ : ((z_4 = 1 ∧ (0 ≤ w ∧ w ≤ 2)) ∨ (z_4 = 0 ∧ ¬ (0 ≤ w ∧ w ≤ 2))) := hw_
    have f14_v := hw_
    refine z_if_ne (tgt := 27) F_ (by omega) dX8_skilled_17 (by decide) (fun c17 => ?_) (fun c17 => ?_)
    · refine z_iconst F_ dX8_skilled_27 ?_
      refine lv_istore_n (lv' := [(3, .int (zi 0)), (0, .ref (o 0)), (1, .int (zi i)), (2, .int (zi w))]) F_.1 F_.2.1 dX8_skilled_28 rfl hl (by decide) rfl (fun ls_ hl => ?_)
      refine z_iconst F_ dX8_skilled_29 ?_
      refine lv_istore (lv' := [(4, .int (zi (-1))), (3, .int (zi 0)), (0, .ref (o 0)), (1, .int (zi i)), (2, .int (zi w))]) F_.1 F_.2.1 dX8_skilled_30 hl (by decide) rfl (fun ls_ hl => ?_)
      refine z_iconst F_ dX8_skilled_32 ?_
      refine lv_istore (lv' := [(5, .int (zi (-1))), (4, .int (zi (-1))), (3, .int (zi 0)), (0, .ref (o 0)), (1, .int (zi i)), (2, .int (zi w))]) F_.1 F_.2.1 dX8_skilled_33 hl (by decide) rfl (fun ls_ hl => ?_)
      refine z_iconst F_ dX8_skilled_35 ?_
      refine lv_istore (lv' := [(6, .int (zi 1)), (5, .int (zi (-1))), (4, .int (zi (-1))), (3, .int (zi 0)), (0, .ref (o 0)), (1, .int (zi i)), (2, .int (zi w))]) F_.1 F_.2.1 dX8_skilled_36 hl (by decide) rfl (fun ls_ hl => ?_)
      have L38 : ∀ (n_ : Nat) (x : Int) (y : Int) (v : Int) (t : Int) (ht : 1 ≤ t ∧ t ≤ 10) (hx : x = cntZ (okS (shZ g 36) (g (20 + i)) i (g 2)) 1 t) (hy : y = fstZ (okS (shZ g 36) (g (20 + i)) i (g 2)) t) (hv : v = lasZ (okS (shZ g 36) (g (20 + i)) i (g 2)) t) (hxy : (x = 0 ∧ y = -1) ∨ (0 < x ∧ x ≤ t ∧ 0 ≤ y)) (hm_ : (10 - t : Int) < (n_ : Int)) (ls_ : Array Slot) (H_ : Heap) (lo_ : List Loc), WD D A_ s_.heap ([wO cy o ab be bl ta tl tk vl, wA cy (o 1) 192 g, wR cy (o 4) 3 rf]) H_ lo_ → lv_has ls_ 7 [(6, .int (zi t)), (5, .int (zi v)), (4, .int (zi y)), (3, .int (zi x)), (0, .ref (o 0)), (1, .int (zi i)), (2, .int (zi w))] → W p_ l_ e_ rX8_skilled s_ m_ ar_ be_ me_ c_ H_ lo_ 0 0 Q_ (F0 m_ 38 ls_ []) := by
        intro n_
        induction n_ with
        | zero =>
          intro x y v t ht hx hy hv hxy hm_ ls_ H_ lo_ _ _
          exact absurd hm_ (by omega)
        | succ n_ ih_ =>
          intro x y v t ht hx hy hv hxy hm_ ls_ H_ lo_ W_ hl
          have ih38 := ih_
          refine lv_iload F_.1 F_.2.1 dX8_skilled_38 (lv_at hl 0 rfl) ?_
          refine z_bipush F_ (by decide) dX8_skilled_40 ?_
          refine z_icmp_ge (tgt := 81) F_ (by omega) dX8_skilled_42 (by decide) (fun c42 => ?_) (fun c42 => ?_)
          · refine lv_iload_n F_.1 F_.2.1 dX8_skilled_81 rfl (lv_at hl 6 rfl) ?_
            refine z_if_ne (tgt := 89) F_ (by omega) dX8_skilled_82 (by decide) (fun c82 => ?_) (fun c82 => ?_)
            · refine lv_iload_n F_.1 F_.2.1 dX8_skilled_89 rfl (lv_at hl 6 rfl) ?_
              refine z_iconst F_ dX8_skilled_90 ?_
              refine z_icmp_ne (tgt := 99) F_ (by omega) dX8_skilled_91 (by decide) (fun c91 => ?_) (fun c91 => ?_)
              · refine lv_iload F_.1 F_.2.1 dX8_skilled_99 (lv_at hl 1 rfl) ?_
                exact hret _ _ _ _ v rf dX8_skilled_101 (by exact Or.inl ⟨by omega, by first | (rw [if_pos (by omega), hx]; congr 1; omega) | (rw [if_neg (by omega), if_pos (by omega), hy]; congr 1; omega) | (rw [if_neg (by omega), if_neg (by omega), hv]; congr 1; omega), rfl⟩) W_
              · refine lv_iload F_.1 F_.2.1 dX8_skilled_94 (lv_at hl 2 rfl) ?_
                refine z_goto (tgt := 101) F_ dX8_skilled_96 (by decide) ?_
                exact hret _ _ _ _ y rf dX8_skilled_101 (by exact Or.inl ⟨by omega, by first | (rw [if_pos (by omega), hx]; congr 1; omega) | (rw [if_neg (by omega), if_pos (by omega), hy]; congr 1; omega) | (rw [if_neg (by omega), if_neg (by omega), hv]; congr 1; omega), rfl⟩) W_
            · refine lv_iload_n F_.1 F_.2.1 dX8_skilled_85 rfl (lv_at hl 3 rfl) ?_
              refine z_goto (tgt := 101) F_ dX8_skilled_86 (by decide) ?_
              exact hret _ _ _ _ x rf dX8_skilled_101 (by exact Or.inl ⟨by omega, by first | (rw [if_pos (by omega), hx]; congr 1; omega) | (rw [if_neg (by omega), if_pos (by omega), hy]; congr 1; omega) | (rw [if_neg (by omega), if_neg (by omega), hv]; congr 1; omega), rfl⟩) W_
          · refine lv_aload_n F_.1 F_.2.1 dX8_skilled_45 rfl (lv_at hl 4 rfl) ?_
            refine lv_iload_n F_.1 F_.2.1 dX8_skilled_46 rfl (lv_at hl 5 rfl) ?_
            refine lv_iload F_.1 F_.2.1 dX8_skilled_47 (lv_at hl 0 rfl) ?_
            refine z_callVip F_ K_ W_ [.int (zi i), .int (zi t)] (c_X8_isSkilledBy l_ D cy o ab be bl ta tl tk vl g i t bg (by first | omega | assumption) (by first | omega | assumption) (by first | omega | assumption) (by first | omega | assumption) (by first | omega | assumption)) 2 rfl gX8_skilled_X8_isSkilledBy rfl (by decide +kernel) ⟨⟨Nat.le_of_ble_eq_true rfl, Nat.le_of_ble_eq_true rfl⟩, rfl, rfl, Nat.zero_le _, Nat.zero_le _⟩ 0 0 7 rfl rfl rfl rfl hl.1 rfl (Nat.le_of_ble_eq_true rfl) [0, 1] [2] [wR cy (o 4) 3 rf] 3 (by decide +kernel) rfl rfl rfl dX8_skilled_49 (fun z_5 _ H_ lo_ hw_ W_ => ?_)
            have hw_ : ((z_5 = 1 ∧ okZ (shZ g 36) (g (20 + i)) i t (g 2) = 1) ∨ (z_5 = 0 ∧ okZ (shZ g 36) (g (20 + i)) i t (g 2) = 0)) := hw_
            have f49_v := hw_
            refine z_if_eq (tgt := 75) F_ (by omega) dX8_skilled_52 (by decide) (fun c52 => ?_) (fun c52 => ?_)
            · refine z_iinc (lv' := [(6, .int (zi (t + 1))), (5, .int (zi v)), (4, .int (zi y)), (3, .int (zi x)), (0, .ref (o 0)), (1, .int (zi i)), (2, .int (zi w))]) F_ dX8_skilled_75 hl (k := 0) rfl (by decide) rfl (fun ls_ hl => ?_)
              refine z_goto (tgt := 38) F_ dX8_skilled_78 (by decide) ?_
              exact ih38 x y v (t + 1) (by first | omega | assumption) (by rw [cntZ_s _ _ (by omega), okS_p _ _ _ _ ht.1, ← hx]; split <;> omega) (by rw [fstZ_s _ (by omega), okS_p _ _ _ _ ht.1, ← hy]; split <;> omega) (by rw [lasZ_s _ (by omega), okS_p _ _ _ _ ht.1, ← hv]; split <;> omega) (by first | omega | assumption) (by omega) ls_ H_ lo_ W_ (lv_sub hl [0, 1, 2, 3, 4, 5, 6] rfl)
            · refine lv_iload_n F_.1 F_.2.1 dX8_skilled_55 rfl (lv_at hl 3 rfl) ?_
              refine z_if_ne (tgt := 64) F_ (by omega) dX8_skilled_56 (by decide) (fun c56 => ?_) (fun c56 => ?_)
              · refine lv_iload F_.1 F_.2.1 dX8_skilled_64 (lv_at hl 2 rfl) ?_
                refine lv_istore (lv' := [(4, .int (zi y)), (6, .int (zi t)), (5, .int (zi v)), (3, .int (zi x)), (0, .ref (o 0)), (1, .int (zi i)), (2, .int (zi w))]) F_.1 F_.2.1 dX8_skilled_66 hl (by decide) rfl (fun ls_ hl => ?_)
                refine lv_iload F_.1 F_.2.1 dX8_skilled_68 (lv_at hl 1 rfl) ?_
                refine lv_istore (lv' := [(5, .int (zi t)), (4, .int (zi y)), (6, .int (zi t)), (3, .int (zi x)), (0, .ref (o 0)), (1, .int (zi i)), (2, .int (zi w))]) F_.1 F_.2.1 dX8_skilled_70 hl (by decide) rfl (fun ls_ hl => ?_)
                refine z_iinc (lv' := [(3, .int (zi (x + 1))), (5, .int (zi t)), (4, .int (zi y)), (6, .int (zi t)), (0, .ref (o 0)), (1, .int (zi i)), (2, .int (zi w))]) F_ dX8_skilled_72 hl (k := 3) rfl (by decide) rfl (fun ls_ hl => ?_)
                refine z_iinc (lv' := [(6, .int (zi (t + 1))), (3, .int (zi (x + 1))), (5, .int (zi t)), (4, .int (zi y)), (0, .ref (o 0)), (1, .int (zi i)), (2, .int (zi w))]) F_ dX8_skilled_75 hl (k := 3) rfl (by decide) rfl (fun ls_ hl => ?_)
                refine z_goto (tgt := 38) F_ dX8_skilled_78 (by decide) ?_
                exact ih38 (x + 1) y t (t + 1) (by first | omega | assumption) (by rw [cntZ_s _ _ (by omega), okS_p _ _ _ _ ht.1, ← hx]; split <;> omega) (by rw [fstZ_s _ (by omega), okS_p _ _ _ _ ht.1, ← hy]; split <;> omega) (by rw [lasZ_s _ (by omega), okS_p _ _ _ _ ht.1, ← hv]; split <;> omega) (by first | omega | assumption) (by omega) ls_ H_ lo_ W_ (lv_sub hl [0, 2, 3, 1, 4, 5, 6] rfl)
              · refine lv_iload F_.1 F_.2.1 dX8_skilled_59 (lv_at hl 0 rfl) ?_
                refine z_goto (tgt := 66) F_ dX8_skilled_61 (by decide) ?_
                refine lv_istore (lv' := [(4, .int (zi t)), (6, .int (zi t)), (5, .int (zi v)), (3, .int (zi x)), (0, .ref (o 0)), (1, .int (zi i)), (2, .int (zi w))]) F_.1 F_.2.1 dX8_skilled_66 hl (by decide) rfl (fun ls_ hl => ?_)
                refine lv_iload F_.1 F_.2.1 dX8_skilled_68 (lv_at hl 1 rfl) ?_
                refine lv_istore (lv' := [(5, .int (zi t)), (4, .int (zi t)), (6, .int (zi t)), (3, .int (zi x)), (0, .ref (o 0)), (1, .int (zi i)), (2, .int (zi w))]) F_.1 F_.2.1 dX8_skilled_70 hl (by decide) rfl (fun ls_ hl => ?_)
                refine z_iinc (lv' := [(3, .int (zi (x + 1))), (5, .int (zi t)), (4, .int (zi t)), (6, .int (zi t)), (0, .ref (o 0)), (1, .int (zi i)), (2, .int (zi w))]) F_ dX8_skilled_72 hl (k := 3) rfl (by decide) rfl (fun ls_ hl => ?_)
                refine z_iinc (lv' := [(6, .int (zi (t + 1))), (3, .int (zi (x + 1))), (5, .int (zi t)), (4, .int (zi t)), (0, .ref (o 0)), (1, .int (zi i)), (2, .int (zi w))]) F_ dX8_skilled_75 hl (k := 3) rfl (by decide) rfl (fun ls_ hl => ?_)
                refine z_goto (tgt := 38) F_ dX8_skilled_78 (by decide) ?_
                exact ih38 (x + 1) t t (t + 1) (by first | omega | assumption) (by rw [cntZ_s _ _ (by omega), okS_p _ _ _ _ ht.1, ← hx]; split <;> omega) (by rw [fstZ_s _ (by omega), okS_p _ _ _ _ ht.1, ← hy]; split <;> omega) (by rw [lasZ_s _ (by omega), okS_p _ _ _ _ ht.1, ← hv]; split <;> omega) (by first | omega | assumption) (by omega) ls_ H_ lo_ W_ (lv_sub hl [0, 2, 3, 1, 4, 5, 6] rfl)
      exact L38 ((10 - 1 : Int).toNat + 1) 0 (-1) (-1) 1 (by first | omega | assumption) (by rw [cntZ_1 (okS_0 _ _ _ _)]) (by rw [fstZ_1 (okS_0 _ _ _ _)]) (by rw [lasZ_1 (okS_0 _ _ _ _)]) (by first | omega | assumption) (by have := Int.self_le_toNat (10 - 1 : Int); omega) ls_ H_ lo_ W_ (lv_sub hl [0, 1, 2, 3, 4, 5, 6] rfl)
    · refine lv_aload_n F_.1 F_.2.1 dX8_skilled_20 rfl (lv_at hl 0 rfl) ?_
      refine z_bipush F_ (by decide) dX8_skilled_21 ?_
      refine z_callVi F_ K_ W_ [.int (zi (-2))] (c_X8_bad l_ D cy o ab be bl ta tl tk vl rf (-2) (by first | omega | assumption)) 1 rfl gX8_skilled_X8_bad rfl (by decide +kernel) ⟨⟨Nat.le_of_ble_eq_true rfl, Nat.le_of_ble_eq_true rfl⟩, rfl, rfl, Nat.zero_le _, Nat.zero_le _⟩ 0 0 7 rfl rfl rfl rfl hl.1 rfl (Nat.le_of_ble_eq_true rfl) [0, 2] [1] [wA cy (o 1) 192 g] (fun (u_ : (Int → Int)) => [wO cy o ab be bl ta tl tk vl, wA cy (o 1) 192 g, wR cy (o 4) 3 u_]) 3 (by decide +kernel) rfl rfl rfl (fun _ => rfl) (fun _ => rfl) (fun _ => rfl) dX8_skilled_23 (fun z_6 u_ H_ lo_ hw_ W_ => ?_)
      obtain ⟨rf2_7, rfl⟩ : ∃ x, x = u_ := ⟨_, rfl⟩
      have W_ : WD D A_ s_.heap ([wO cy o ab be bl ta tl tk vl, wA cy (o 1) 192 g, wR cy (o 4) 3 rf2_7]) H_ lo_ := W_
      have hw_ : (z_6 = (-2)) ∧ (rf2_7 = rfZ rf 0) := hw_
      obtain ⟨f23_v, f23_r⟩ := hw_
      exact hret _ _ _ _ z_6 rf2_7 dX8_skilled_26 (by exact Or.inr ⟨by omega, by omega, by assumption⟩) W_
abbrev rX8_tell : Room := { frames := 2, cells := 0, slots := 0, locals := 50 }
set_option maxHeartbeats 1000000 in
set_option maxRecDepth 100000 in
theorem c_X8_tell (l_ : Launch) (D : va_G) (cy : Nat → ClassId) (o : Nat → Nat) (ab : Int) (be : Int) (bl : Int) (ta : Int) (tl : Int) (tk : Int) (vl : Int) (g : Int → Int) (rf : Int → Int) (i : Int) (bg : ∀ j : Int, 0 ≤ g j ∧ g j ≤ 99) (ri : -2147483648 ≤ i ∧ i < 2147483648) (hg0 : 0 ≤ g 0 ∧ g 0 ≤ 8) (hg2 : 0 ≤ g 2 ∧ g 2 ≤ 5) : CTi l_ D cy yX8_tell wsX8_tell rX8_tell [.ref (o 0), .int (zi i)] ([wO cy o ab be bl ta tl tk vl, wA cy (o 1) 192 g, wR cy (o 4) 3 rf]) (fun (z : Int) (u : (Int → Int)) => ((((0 ≤ i ∧ i < g 0)) ∧ z = (bstZ (tellK (okS (shZ g 36) (g (20 + i)) i (g 2)) (g (20 + i))) tellE 1000000 (186)).1 ∧ u = rf) ∨ (¬ ((0 ≤ i ∧ i < g 0)) ∧ z = -2 ∧ u = rfZ rf 0))) (fun (u : (Int → Int)) => [wO cy o ab be bl ta tl tk vl, wA cy (o 1) 192 g, wR cy (o 4) 3 u]) := by
  refine CTi.of RX8 cX8_tell 10 rfl (by decide) rfl (fun z u hz => rfl) (Nat.le_of_ble_eq_true rfl) ?_
  intro p_ e_ s_ m_ ar_ be_ me_ c_ Q_ A_ ls_ F_ K_ W_ hl hret
  have hl : lv_has ls_ 10 [(0, .ref (o 0)), (1, .int (zi i))] := hl
  obtain ⟨H_, hH_⟩ : ∃ x, x = s_.heap := ⟨_, rfl⟩
  obtain ⟨lo_, hlo_⟩ : ∃ x : List Loc, x = [] := ⟨_, rfl⟩
  have W_ : WD D A_ s_.heap ([wO cy o ab be bl ta tl tk vl, wA cy (o 1) 192 g, wR cy (o 4) 3 rf]) H_ lo_ := by rw [hH_, hlo_]; exact W_
  rw [← hlo_]
  suffices hg_ : W p_ l_ e_ rX8_tell s_ m_ ar_ be_ me_ c_ H_ lo_ 0 0 Q_ (F0 m_ 0 ls_ []) by rw [hH_] at hg_; exact hg_
  clear hH_ hlo_
  have hinX8 : ∀ w ∈ u_ws RX8 TX8 19, w ∈ wsX8_tell := fun w h => List.mem_cons_of_mem _ (List.mem_append_right _ h)
  refine lv_aload_n F_.1 F_.2.1 dX8_tell_0 rfl (lv_at hl 0 rfl) ?_
  refine lv_iload_n F_.1 F_.2.1 dX8_tell_1 rfl (lv_at hl 1 rfl) ?_
  refine z_callVip F_ K_ W_ [.int (zi i)] (c_X8_isMan l_ D cy o ab be bl ta tl tk vl g i bg (by first | omega | assumption) (by first | omega | assumption)) 1 rfl gX8_tell_X8_isMan rfl (by decide +kernel) ⟨⟨Nat.le_of_ble_eq_true rfl, Nat.le_of_ble_eq_true rfl⟩, rfl, rfl, Nat.zero_le _, Nat.zero_le _⟩ 0 0 7 rfl rfl rfl rfl hl.1 rfl (Nat.le_of_ble_eq_true rfl) [0, 1] [2] [wR cy (o 4) 3 rf] 3 (by decide +kernel) rfl rfl rfl dX8_tell_2 (fun z_1 _ H_ lo_ hw_ W_ => ?_)
  have hw_ : ((z_1 = 1 ∧ (0 ≤ i ∧ i < g 0)) ∨ (z_1 = 0 ∧ ¬ (0 ≤ i ∧ i < g 0))) := hw_
  have f2_v := hw_
  refine z_if_ne (tgt := 15) F_ (by omega) dX8_tell_5 (by decide) (fun c5 => ?_) (fun c5 => ?_)
  · refine z_iconst F_ dX8_tell_15 ?_
    refine lv_istore_n (lv' := [(2, .int (zi (-1))), (0, .ref (o 0)), (1, .int (zi i))]) F_.1 F_.2.1 dX8_tell_16 rfl hl (by decide) rfl (fun ls_ hl => ?_)
    refine z_ldc (z := 1000000) F_ (F_.2.2.2.2 _ (List.mem_of_getElem? (i := 1) rfl)) rfl dX8_tell_17 ?_
    refine lv_istore_n (lv' := [(3, .int (zi 1000000)), (2, .int (zi (-1))), (0, .ref (o 0)), (1, .int (zi i))]) F_.1 F_.2.1 dX8_tell_19 rfl hl (by decide) rfl (fun ls_ hl => ?_)
    refine z_iconst F_ dX8_tell_20 ?_
    refine lv_istore (lv' := [(4, .int (zi 0)), (3, .int (zi 1000000)), (2, .int (zi (-1))), (0, .ref (o 0)), (1, .int (zi i))]) F_.1 F_.2.1 dX8_tell_21 hl (by decide) rfl (fun ls_ hl => ?_)
    have L23 : ∀ (n_ : Nat) (x : Int) (y : Int) (u : Int) (hu : 0 ≤ u ∧ u ≤ 6) (hx : x = (bstZ (tellK (okS (shZ g 36) (g (20 + i)) i (g 2)) (g (20 + i))) tellE 1000000 (31 * u)).1) (hy : y = (bstZ (tellK (okS (shZ g 36) (g (20 + i)) i (g 2)) (g (20 + i))) tellE 1000000 (31 * u)).2) (hb : -1 ≤ x ∧ x ≤ 600 ∧ 0 < y ∧ y ≤ 1000000) (hm_ : (6 - u : Int) < (n_ : Int)) (ls_ : Array Slot) (H_ : Heap) (lo_ : List Loc), WD D A_ s_.heap ([wO cy o ab be bl ta tl tk vl, wA cy (o 1) 192 g, wR cy (o 4) 3 rf]) H_ lo_ → lv_has ls_ 10 [(4, .int (zi u)), (3, .int (zi y)), (2, .int (zi x)), (0, .ref (o 0)), (1, .int (zi i))] → W p_ l_ e_ rX8_tell s_ m_ ar_ be_ me_ c_ H_ lo_ 0 0 Q_ (F0 m_ 23 ls_ []) := by
      intro n_
      induction n_ with
      | zero =>
        intro x y u hu hx hy hb hm_ ls_ H_ lo_ _ _
        exact absurd hm_ (by omega)
      | succ n_ ih_ =>
        intro x y u hu hx hy hb hm_ ls_ H_ lo_ W_ hl
        have ih23 := ih_
        refine lv_iload F_.1 F_.2.1 dX8_tell_23 (lv_at hl 0 rfl) ?_
        refine z_bipush F_ (by decide) dX8_tell_25 ?_
        refine z_icmp_ge (tgt := 210) F_ (by omega) dX8_tell_27 (by decide) (fun c27 => ?_) (fun c27 => ?_)
        · refine lv_iload_n F_.1 F_.2.1 dX8_tell_210 rfl (lv_at hl 2 rfl) ?_
          exact hret _ _ _ _ x rf dX8_tell_211 (by exact Or.inl ⟨by omega, by rw [hx, show 31 * u = 186 by omega], rfl⟩) W_
        · refine z_iconst F_ dX8_tell_30 ?_
          refine lv_istore (lv' := [(5, .int (zi 0)), (4, .int (zi u)), (3, .int (zi y)), (2, .int (zi x)), (0, .ref (o 0)), (1, .int (zi i))]) F_.1 F_.2.1 dX8_tell_31 hl (by decide) rfl (fun ls_ hl => ?_)
          have L33 : ∀ (n_ : Nat) (x2 : Int) (y2 : Int) (v : Int) (hv : 0 ≤ v ∧ v ≤ 31) (hx2 : x2 = (bstZ (tellK (okS (shZ g 36) (g (20 + i)) i (g 2)) (g (20 + i))) tellE 1000000 (31 * u + v)).1) (hy2 : y2 = (bstZ (tellK (okS (shZ g 36) (g (20 + i)) i (g 2)) (g (20 + i))) tellE 1000000 (31 * u + v)).2) (hb2 : -1 ≤ x2 ∧ x2 ≤ 600 ∧ 0 < y2 ∧ y2 ≤ 1000000) (hm_ : (31 - v : Int) < (n_ : Int)) (ls_ : Array Slot) (H_ : Heap) (lo_ : List Loc), WD D A_ s_.heap ([wO cy o ab be bl ta tl tk vl, wA cy (o 1) 192 g, wR cy (o 4) 3 rf]) H_ lo_ → lv_has ls_ 10 [(5, .int (zi v)), (4, .int (zi u)), (3, .int (zi y2)), (2, .int (zi x2)), (0, .ref (o 0)), (1, .int (zi i))] → W p_ l_ e_ rX8_tell s_ m_ ar_ be_ me_ c_ H_ lo_ 0 0 Q_ (F0 m_ 33 ls_ []) := by
            intro n_
            induction n_ with
            | zero =>
              intro x2 y2 v hv hx2 hy2 hb2 hm_ ls_ H_ lo_ _ _
              exact absurd hm_ (by omega)
            | succ n_ ih_ =>
              intro x2 y2 v hv hx2 hy2 hb2 hm_ ls_ H_ lo_ W_ hl
              have ih33 := ih_
              refine lv_iload F_.1 F_.2.1 dX8_tell_33 (lv_at hl 0 rfl) ?_
              refine z_bipush F_ (by decide) dX8_tell_35 ?_
              refine z_icmp_gt (tgt := 204) F_ (by omega) dX8_tell_37 (by decide) (fun c37 => ?_) (fun c37 => ?_)
              · refine z_iinc (lv' := [(4, .int (zi (u + 1))), (5, .int (zi v)), (3, .int (zi y2)), (2, .int (zi x2)), (0, .ref (o 0)), (1, .int (zi i))]) F_ dX8_tell_204 hl (k := 1) rfl (by decide) rfl (fun ls_ hl => ?_)
                refine z_goto (tgt := 23) F_ dX8_tell_207 (by decide) ?_
                exact ih23 x2 y2 (u + 1) (by first | omega | assumption) (by rw [show 31 * (u + 1) = 31 * u + v by omega]; exact hx2) (by rw [show 31 * (u + 1) = 31 * u + v by omega]; exact hy2) (by first | omega | assumption) (by omega) ls_ H_ lo_ W_ (lv_sub hl [0, 2, 3, 4, 5] rfl)
              · refine z_iconst F_ dX8_tell_40 ?_
                refine lv_istore (lv' := [(6, .int (zi 0)), (5, .int (zi v)), (4, .int (zi u)), (3, .int (zi y2)), (2, .int (zi x2)), (0, .ref (o 0)), (1, .int (zi i))]) F_.1 F_.2.1 dX8_tell_41 hl (by decide) rfl (fun ls_ hl => ?_)
                refine z_iconst F_ dX8_tell_43 ?_
                refine lv_istore (lv' := [(7, .int (zi 0)), (6, .int (zi 0)), (5, .int (zi v)), (4, .int (zi u)), (3, .int (zi y2)), (2, .int (zi x2)), (0, .ref (o 0)), (1, .int (zi i))]) F_.1 F_.2.1 dX8_tell_44 hl (by decide) rfl (fun ls_ hl => ?_)
                refine z_iconst F_ dX8_tell_46 ?_
                refine lv_istore (lv' := [(8, .int (zi 1)), (7, .int (zi 0)), (6, .int (zi 0)), (5, .int (zi v)), (4, .int (zi u)), (3, .int (zi y2)), (2, .int (zi x2)), (0, .ref (o 0)), (1, .int (zi i))]) F_.1 F_.2.1 dX8_tell_47 hl (by decide) rfl (fun ls_ hl => ?_)
                have L49 : ∀ (n_ : Nat) (n1 : Int) (n2 : Int) (t : Int) (ht : 1 ≤ t ∧ t ≤ 10) (h1 : n1 = lvZ (okS (shZ g 36) (g (20 + i)) i (g 2)) (g (20 + i)) u v t) (h2 : n2 = ntZ (okS (shZ g 36) (g (20 + i)) i (g 2)) (g (20 + i)) u v t) (h3 : 0 ≤ n1 ∧ n1 ≤ t ∧ 0 ≤ n2 ∧ n2 ≤ t) (hm_ : (10 - t : Int) < (n_ : Int)) (ls_ : Array Slot) (H_ : Heap) (lo_ : List Loc), WD D A_ s_.heap ([wO cy o ab be bl ta tl tk vl, wA cy (o 1) 192 g, wR cy (o 4) 3 rf]) H_ lo_ → lv_has ls_ 10 [(8, .int (zi t)), (7, .int (zi n2)), (6, .int (zi n1)), (5, .int (zi v)), (4, .int (zi u)), (3, .int (zi y2)), (2, .int (zi x2)), (0, .ref (o 0)), (1, .int (zi i))] → W p_ l_ e_ rX8_tell s_ m_ ar_ be_ me_ c_ H_ lo_ 0 0 Q_ (F0 m_ 49 ls_ []) := by
                  intro n_
                  induction n_ with
                  | zero =>
                    intro n1 n2 t ht h1 h2 h3 hm_ ls_ H_ lo_ _ _
                    exact absurd hm_ (by omega)
                  | succ n_ ih_ =>
                    intro n1 n2 t ht h1 h2 h3 hm_ ls_ H_ lo_ W_ hl
                    have ih49 := ih_
                    refine lv_iload F_.1 F_.2.1 dX8_tell_49 (lv_at hl 0 rfl) ?_
                    refine z_bipush F_ (by decide) dX8_tell_51 ?_
                    refine z_icmp_ge (tgt := 140) F_ (by omega) dX8_tell_53 (by decide) (fun c53 => ?_) (fun c53 => ?_)
                    · have hk1 : n1 = lvZ (okS (shZ g 36) (g (20 + i)) i (g 2)) (g (20 + i)) u v 10 := by rw [h1]; congr 1; omega
                      have hk2 : n2 = ntZ (okS (shZ g 36) (g (20 + i)) i (g 2)) (g (20 + i)) u v 10 := by rw [h2]; congr 1; omega
                      refine lv_iload F_.1 F_.2.1 dX8_tell_140 (lv_at hl 2 rfl) ?_
                      refine lv_iload F_.1 F_.2.1 dX8_tell_142 (lv_at hl 1 rfl) ?_
                      have J154 : ∀ (k154_0 : Int) (g154 : ((n1 ≤ n2) ∧ (k154_0 = n2)) ∨ ((n2 < n1) ∧ (k154_0 = n1))) (ls_ : Array Slot) (H_ : Heap) (lo_ : List Loc), WD D A_ s_.heap ([wO cy o ab be bl ta tl tk vl, wA cy (o 1) 192 g, wR cy (o 4) 3 rf]) H_ lo_ → lv_has ls_ 10 [(8, .int (zi t)), (7, .int (zi n2)), (6, .int (zi n1)), (5, .int (zi v)), (4, .int (zi u)), (3, .int (zi y2)), (2, .int (zi x2)), (0, .ref (o 0)), (1, .int (zi i))] → W p_ l_ e_ rX8_tell s_ m_ ar_ be_ me_ c_ H_ lo_ 0 0 Q_ (F0 m_ 154 ls_ [.int (zi k154_0)]) := by
                        intro k154_0 g154 ls_ H_ lo_ W_ hl
                        refine lv_istore (lv' := [(8, .int (zi k154_0)), (7, .int (zi n2)), (6, .int (zi n1)), (5, .int (zi v)), (4, .int (zi u)), (3, .int (zi y2)), (2, .int (zi x2)), (0, .ref (o 0)), (1, .int (zi i))]) F_.1 F_.2.1 dX8_tell_154 hl (by decide) rfl (fun ls_ hl => ?_)
                        refine lv_iload F_.1 F_.2.1 dX8_tell_156 (lv_at hl 0 rfl) ?_
                        have J179 : ∀ (k179_0 : Int) (g179 : ((k154_0 ≤ 0) ∧ (k179_0 = x2)) ∨ ((0 < k154_0) ∧ (y2 ≤ k154_0) ∧ (k179_0 = x2)) ∨ ((0 < k154_0) ∧ (k154_0 < y2) ∧ (k179_0 = (100 * u) + v))) (ls_ : Array Slot) (H_ : Heap) (lo_ : List Loc), WD D A_ s_.heap ([wO cy o ab be bl ta tl tk vl, wA cy (o 1) 192 g, wR cy (o 4) 3 rf]) H_ lo_ → lv_has ls_ 10 [(8, .int (zi k154_0)), (7, .int (zi n2)), (6, .int (zi n1)), (5, .int (zi v)), (4, .int (zi u)), (3, .int (zi y2)), (2, .int (zi x2)), (0, .ref (o 0)), (1, .int (zi i))] → W p_ l_ e_ rX8_tell s_ m_ ar_ be_ me_ c_ H_ lo_ 0 0 Q_ (F0 m_ 179 ls_ [.int (zi k179_0)]) := by
                          intro k179_0 g179 ls_ H_ lo_ W_ hl
                          refine lv_istore_n (lv' := [(2, .int (zi k179_0)), (8, .int (zi k154_0)), (7, .int (zi n2)), (6, .int (zi n1)), (5, .int (zi v)), (4, .int (zi u)), (3, .int (zi y2)), (0, .ref (o 0)), (1, .int (zi i))]) F_.1 F_.2.1 dX8_tell_179 rfl hl (by decide) rfl (fun ls_ hl => ?_)
                          refine lv_iload F_.1 F_.2.1 dX8_tell_180 (lv_at hl 1 rfl) ?_
                          refine z_if_le (tgt := 196) F_ (by omega) dX8_tell_182 (by decide) (fun c182 => ?_) (fun c182 => ?_)
                          · refine lv_iload_n F_.1 F_.2.1 dX8_tell_196 rfl (lv_at hl 6 rfl) ?_
                            refine lv_istore_n (lv' := [(3, .int (zi y2)), (2, .int (zi k179_0)), (8, .int (zi k154_0)), (7, .int (zi n2)), (6, .int (zi n1)), (5, .int (zi v)), (4, .int (zi u)), (0, .ref (o 0)), (1, .int (zi i))]) F_.1 F_.2.1 dX8_tell_197 rfl hl (by decide) rfl (fun ls_ hl => ?_)
                            refine z_iinc (lv' := [(5, .int (zi (v + 1))), (3, .int (zi y2)), (2, .int (zi k179_0)), (8, .int (zi k154_0)), (7, .int (zi n2)), (6, .int (zi n1)), (4, .int (zi u)), (0, .ref (o 0)), (1, .int (zi i))]) F_ dX8_tell_198 hl (k := 5) rfl (by decide) rfl (fun ls_ hl => ?_)
                            refine z_goto (tgt := 33) F_ dX8_tell_201 (by decide) ?_
                            exact ih33 k179_0 y2 (v + 1) (by first | omega | assumption) (by rw [show 31 * u + (v + 1) = (31 * u + v) + 1 by omega, bstZ_s _ _ _ (by omega), tellK_at _ _ (by omega) (by omega), ← hy2, ← hk1, ← hk2]; have hE := tellE_at (c := u) (l := v) (by omega) (by omega); split <;> omega) (by rw [show 31 * u + (v + 1) = (31 * u + v) + 1 by omega, bstZ_s _ _ _ (by omega), tellK_at _ _ (by omega) (by omega), ← hy2, ← hk1, ← hk2]; split <;> omega) (by first | omega | assumption) (by omega) ls_ H_ lo_ W_ (lv_sub hl [0, 6, 1, 2, 7, 8] rfl)
                          · refine lv_iload F_.1 F_.2.1 dX8_tell_185 (lv_at hl 1 rfl) ?_
                            refine lv_iload_n F_.1 F_.2.1 dX8_tell_187 rfl (lv_at hl 6 rfl) ?_
                            refine z_icmp_ge (tgt := 196) F_ (by omega) dX8_tell_188 (by decide) (fun c188 => ?_) (fun c188 => ?_)
                            · refine lv_iload_n F_.1 F_.2.1 dX8_tell_196 rfl (lv_at hl 6 rfl) ?_
                              refine lv_istore_n (lv' := [(3, .int (zi y2)), (2, .int (zi k179_0)), (8, .int (zi k154_0)), (7, .int (zi n2)), (6, .int (zi n1)), (5, .int (zi v)), (4, .int (zi u)), (0, .ref (o 0)), (1, .int (zi i))]) F_.1 F_.2.1 dX8_tell_197 rfl hl (by decide) rfl (fun ls_ hl => ?_)
                              refine z_iinc (lv' := [(5, .int (zi (v + 1))), (3, .int (zi y2)), (2, .int (zi k179_0)), (8, .int (zi k154_0)), (7, .int (zi n2)), (6, .int (zi n1)), (4, .int (zi u)), (0, .ref (o 0)), (1, .int (zi i))]) F_ dX8_tell_198 hl (k := 5) rfl (by decide) rfl (fun ls_ hl => ?_)
                              refine z_goto (tgt := 33) F_ dX8_tell_201 (by decide) ?_
                              exact ih33 k179_0 y2 (v + 1) (by first | omega | assumption) (by rw [show 31 * u + (v + 1) = (31 * u + v) + 1 by omega, bstZ_s _ _ _ (by omega), tellK_at _ _ (by omega) (by omega), ← hy2, ← hk1, ← hk2]; have hE := tellE_at (c := u) (l := v) (by omega) (by omega); split <;> omega) (by rw [show 31 * u + (v + 1) = (31 * u + v) + 1 by omega, bstZ_s _ _ _ (by omega), tellK_at _ _ (by omega) (by omega), ← hy2, ← hk1, ← hk2]; split <;> omega) (by first | omega | assumption) (by omega) ls_ H_ lo_ W_ (lv_sub hl [0, 6, 1, 2, 7, 8] rfl)
                            · refine lv_iload F_.1 F_.2.1 dX8_tell_191 (lv_at hl 1 rfl) ?_
                              refine z_goto (tgt := 197) F_ dX8_tell_193 (by decide) ?_
                              refine lv_istore_n (lv' := [(3, .int (zi k154_0)), (2, .int (zi k179_0)), (8, .int (zi k154_0)), (7, .int (zi n2)), (6, .int (zi n1)), (5, .int (zi v)), (4, .int (zi u)), (0, .ref (o 0)), (1, .int (zi i))]) F_.1 F_.2.1 dX8_tell_197 rfl hl (by decide) rfl (fun ls_ hl => ?_)
                              refine z_iinc (lv' := [(5, .int (zi (v + 1))), (3, .int (zi k154_0)), (2, .int (zi k179_0)), (8, .int (zi k154_0)), (7, .int (zi n2)), (6, .int (zi n1)), (4, .int (zi u)), (0, .ref (o 0)), (1, .int (zi i))]) F_ dX8_tell_198 hl (k := 5) rfl (by decide) rfl (fun ls_ hl => ?_)
                              refine z_goto (tgt := 33) F_ dX8_tell_201 (by decide) ?_
                              exact ih33 k179_0 k154_0 (v + 1) (by first | omega | assumption) (by rw [show 31 * u + (v + 1) = (31 * u + v) + 1 by omega, bstZ_s _ _ _ (by omega), tellK_at _ _ (by omega) (by omega), ← hy2, ← hk1, ← hk2]; have hE := tellE_at (c := u) (l := v) (by omega) (by omega); split <;> omega) (by rw [show 31 * u + (v + 1) = (31 * u + v) + 1 by omega, bstZ_s _ _ _ (by omega), tellK_at _ _ (by omega) (by omega), ← hy2, ← hk1, ← hk2]; split <;> omega) (by first | omega | assumption) (by omega) ls_ H_ lo_ W_ (lv_sub hl [0, 6, 1, 2, 7, 8] rfl)
                        have J178 : ∀ (g178 : ((k154_0 ≤ 0)) ∨ ((0 < k154_0) ∧ (y2 ≤ k154_0))) (ls_ : Array Slot) (H_ : Heap) (lo_ : List Loc), WD D A_ s_.heap ([wO cy o ab be bl ta tl tk vl, wA cy (o 1) 192 g, wR cy (o 4) 3 rf]) H_ lo_ → lv_has ls_ 10 [(8, .int (zi k154_0)), (7, .int (zi n2)), (6, .int (zi n1)), (5, .int (zi v)), (4, .int (zi u)), (3, .int (zi y2)), (2, .int (zi x2)), (0, .ref (o 0)), (1, .int (zi i))] → W p_ l_ e_ rX8_tell s_ m_ ar_ be_ me_ c_ H_ lo_ 0 0 Q_ (F0 m_ 178 ls_ []) := by
                          intro g178 ls_ H_ lo_ W_ hl
                          refine lv_iload_n F_.1 F_.2.1 dX8_tell_178 rfl (lv_at hl 6 rfl) ?_
                          exact J179 x2 (by first | omega | grind) ls_ H_ lo_ W_ (lv_sub hl [0, 1, 2, 3, 4, 5, 6, 7, 8] rfl)
                        refine z_if_le (tgt := 178) F_ (by omega) dX8_tell_158 (by decide) (fun c158 => ?_) (fun c158 => ?_)
                        · exact J178 (by first | omega | grind) ls_ H_ lo_ W_ (lv_sub hl [0, 1, 2, 3, 4, 5, 6, 7, 8] rfl)
                        · refine lv_iload F_.1 F_.2.1 dX8_tell_161 (lv_at hl 0 rfl) ?_
                          refine lv_iload_n F_.1 F_.2.1 dX8_tell_163 rfl (lv_at hl 5 rfl) ?_
                          refine z_icmp_ge (tgt := 178) F_ (by omega) dX8_tell_164 (by decide) (fun c164 => ?_) (fun c164 => ?_)
                          · exact J178 (by first | omega | grind) ls_ H_ lo_ W_ (lv_sub hl [0, 1, 2, 3, 4, 5, 6, 7, 8] rfl)
                          · refine z_bipush F_ (by decide) dX8_tell_167 ?_
                            refine lv_iload F_.1 F_.2.1 dX8_tell_169 (lv_at hl 4 rfl) ?_
                            refine z_imul F_ dX8_tell_171 ?_
                            refine lv_iload F_.1 F_.2.1 dX8_tell_172 (lv_at hl 3 rfl) ?_
                            refine z_iadd F_ dX8_tell_174 ?_
                            refine z_goto (tgt := 179) F_ dX8_tell_175 (by decide) ?_
                            exact J179 ((100 * u) + v) (by first | omega | grind) ls_ H_ lo_ W_ (lv_sub hl [0, 1, 2, 3, 4, 5, 6, 7, 8] rfl)
                      refine z_icmp_le (tgt := 152) F_ (by omega) dX8_tell_144 (by decide) (fun c144 => ?_) (fun c144 => ?_)
                      · refine lv_iload F_.1 F_.2.1 dX8_tell_152 (lv_at hl 1 rfl) ?_
                        exact J154 n2 (by first | omega | grind) ls_ H_ lo_ W_ (lv_sub hl [0, 1, 2, 3, 4, 5, 6, 7, 8] rfl)
                      · refine lv_iload F_.1 F_.2.1 dX8_tell_147 (lv_at hl 2 rfl) ?_
                        refine z_goto (tgt := 154) F_ dX8_tell_149 (by decide) ?_
                        exact J154 n1 (by first | omega | grind) ls_ H_ lo_ W_ (lv_sub hl [0, 1, 2, 3, 4, 5, 6, 7, 8] rfl)
                    · refine lv_aload_n F_.1 F_.2.1 dX8_tell_56 rfl (lv_at hl 7 rfl) ?_
                      refine z_get F_ K_ W_ 0 0 0 rfl rfl rfl (C := RX8) (T := TX8) (N := 19) rfl (by decide) hinX8 (List.mem_of_getElem? (i := 2) rfl) dX8_tell_57 ?_
                      refine z_bipush F_ (by decide) dX8_tell_60 ?_
                      refine lv_iload_n F_.1 F_.2.1 dX8_tell_62 rfl (lv_at hl 8 rfl) ?_
                      refine z_iadd F_ dX8_tell_63 ?_
                      refine z_iald F_ K_ W_ 1 0 rfl rfl (by omega) (by decide) dX8_tell_64 ?_
                      have b_2 := bg (20 + i)
                      refine lv_iload F_.1 F_.2.1 dX8_tell_65 (lv_at hl 0 rfl) ?_
                      refine lv_iload F_.1 F_.2.1 dX8_tell_67 (lv_at hl 4 rfl) ?_
                      refine z_callSip F_ K_ W_ [.int (zi (g (20 + i))), .int (zi t), .int (zi u)] (c_X8_likedAs l_ D cy (g (20 + i)) t u (by first | omega | assumption) (by first | omega | assumption) (by first | omega | assumption) (by first | omega | assumption) (by first | omega | assumption)) 3 rfl gX8_tell_X8_likedAs rfl (by decide +kernel) ⟨⟨Nat.le_of_ble_eq_true rfl, Nat.le_of_ble_eq_true rfl⟩, rfl, rfl, Nat.zero_le _, Nat.zero_le _⟩ hl.1 rfl (Nat.le_of_ble_eq_true rfl) ([] : List Nat) [0, 1, 2] [wO cy o ab be bl ta tl tk vl, wA cy (o 1) 192 g, wR cy (o 4) 3 rf] 3 (by decide +kernel) rfl rfl rfl dX8_tell_69 (fun z_3 _ H_ lo_ hw_ W_ => ?_)
                      have hw_ : (z_3 = likedZ (g (20 + i)) t u) := hw_
                      have f69_v := hw_
                      have hb69 := likedZ_b2 (g (20 + i)) (s := t) (c := u) (by omega) (by omega)
                      rw [← f69_v] at hb69
                      refine lv_iload F_.1 F_.2.1 dX8_tell_72 (lv_at hl 3 rfl) ?_
                      have J82 : ∀ (k82_0 : Int) (g82 : ((v < z_3) ∧ (k82_0 = 0)) ∨ ((z_3 ≤ v) ∧ (k82_0 = 1))) (ls_ : Array Slot) (H_ : Heap) (lo_ : List Loc), WD D A_ s_.heap ([wO cy o ab be bl ta tl tk vl, wA cy (o 1) 192 g, wR cy (o 4) 3 rf]) H_ lo_ → lv_has ls_ 10 [(8, .int (zi t)), (7, .int (zi n2)), (6, .int (zi n1)), (5, .int (zi v)), (4, .int (zi u)), (3, .int (zi y2)), (2, .int (zi x2)), (0, .ref (o 0)), (1, .int (zi i))] → W p_ l_ e_ rX8_tell s_ m_ ar_ be_ me_ c_ H_ lo_ 0 0 Q_ (F0 m_ 82 ls_ [.int (zi k82_0)]) := by
                        intro k82_0 g82 ls_ H_ lo_ W_ hl
                        refine lv_istore (lv' := [(9, .int (zi k82_0)), (8, .int (zi t)), (7, .int (zi n2)), (6, .int (zi n1)), (5, .int (zi v)), (4, .int (zi u)), (3, .int (zi y2)), (2, .int (zi x2)), (0, .ref (o 0)), (1, .int (zi i))]) F_.1 F_.2.1 dX8_tell_82 hl (by decide) rfl (fun ls_ hl => ?_)
                        refine lv_iload F_.1 F_.2.1 dX8_tell_84 (lv_at hl 3 rfl) ?_
                        refine lv_aload_n F_.1 F_.2.1 dX8_tell_86 rfl (lv_at hl 8 rfl) ?_
                        refine lv_iload_n F_.1 F_.2.1 dX8_tell_87 rfl (lv_at hl 9 rfl) ?_
                        refine lv_iload F_.1 F_.2.1 dX8_tell_88 (lv_at hl 1 rfl) ?_
                        refine z_callVip F_ K_ W_ [.int (zi i), .int (zi t)] (c_X8_isSkilledBy l_ D cy o ab be bl ta tl tk vl g i t bg (by first | omega | assumption) (by first | omega | assumption) (by first | omega | assumption) (by first | omega | assumption) (by first | omega | assumption)) 2 rfl gX8_tell_X8_isSkilledBy rfl (by decide +kernel) ⟨⟨Nat.le_of_ble_eq_true rfl, Nat.le_of_ble_eq_true rfl⟩, rfl, rfl, Nat.zero_le _, Nat.zero_le _⟩ 0 0 7 rfl rfl rfl rfl hl.1 rfl (Nat.le_of_ble_eq_true rfl) [0, 1] [2] [wR cy (o 4) 3 rf] 3 (by decide +kernel) rfl rfl rfl dX8_tell_90 (fun z_4 _ H_ lo_ hw_ W_ => ?_)
                        have hw_ : ((z_4 = 1 ∧ okZ (shZ g 36) (g (20 + i)) i t (g 2) = 1) ∨ (z_4 = 0 ∧ okZ (shZ g 36) (g (20 + i)) i t (g 2) = 0)) := hw_
                        have f90_v := hw_
                        have J106 : ∀ (k106 : Int) (g106 : (k106 = 1 ∧ okZ (shZ g 36) (g (20 + i)) i t (g 2) = 1 ∧ k82_0 = 1) ∨ (k106 = 0 ∧ ¬ (okZ (shZ g 36) (g (20 + i)) i t (g 2) = 1 ∧ k82_0 = 1))) (ls_ : Array Slot) (H_ : Heap) (lo_ : List Loc), WD D A_ s_.heap ([wO cy o ab be bl ta tl tk vl, wA cy (o 1) 192 g, wR cy (o 4) 3 rf]) H_ lo_ → lv_has ls_ 10 [(9, .int (zi k82_0)), (8, .int (zi t)), (7, .int (zi n2)), (6, .int (zi n1)), (5, .int (zi v)), (4, .int (zi u)), (3, .int (zi y2)), (2, .int (zi x2)), (0, .ref (o 0)), (1, .int (zi i))] → W p_ l_ e_ rX8_tell s_ m_ ar_ be_ me_ c_ H_ lo_ 0 0 Q_ (F0 m_ 106 ls_ [.int (zi k106), .int (zi n1)]) := by
                          intro k106 g106 ls_ H_ lo_ W_ hl
                          refine z_iadd F_ dX8_tell_106 ?_
                          refine lv_istore (lv' := [(6, .int (zi (n1 + k106))), (9, .int (zi k82_0)), (8, .int (zi t)), (7, .int (zi n2)), (5, .int (zi v)), (4, .int (zi u)), (3, .int (zi y2)), (2, .int (zi x2)), (0, .ref (o 0)), (1, .int (zi i))]) F_.1 F_.2.1 dX8_tell_107 hl (by decide) rfl (fun ls_ hl => ?_)
                          refine lv_iload F_.1 F_.2.1 dX8_tell_109 (lv_at hl 3 rfl) ?_
                          refine lv_aload_n F_.1 F_.2.1 dX8_tell_111 rfl (lv_at hl 8 rfl) ?_
                          refine lv_iload_n F_.1 F_.2.1 dX8_tell_112 rfl (lv_at hl 9 rfl) ?_
                          refine lv_iload F_.1 F_.2.1 dX8_tell_113 (lv_at hl 2 rfl) ?_
                          refine z_callVip F_ K_ W_ [.int (zi i), .int (zi t)] (c_X8_isSkilledBy l_ D cy o ab be bl ta tl tk vl g i t bg (by first | omega | assumption) (by first | omega | assumption) (by first | omega | assumption) (by first | omega | assumption) (by first | omega | assumption)) 2 rfl gX8_tell_X8_isSkilledBy rfl (by decide +kernel) ⟨⟨Nat.le_of_ble_eq_true rfl, Nat.le_of_ble_eq_true rfl⟩, rfl, rfl, Nat.zero_le _, Nat.zero_le _⟩ 0 0 7 rfl rfl rfl rfl hl.1 rfl (Nat.le_of_ble_eq_true rfl) [0, 1] [2] [wR cy (o 4) 3 rf] 3 (by decide +kernel) rfl rfl rfl dX8_tell_115 (fun z_5 _ H_ lo_ hw_ W_ => ?_)
                          have hw_ : ((z_5 = 1 ∧ okZ (shZ g 36) (g (20 + i)) i t (g 2) = 1) ∨ (z_5 = 0 ∧ okZ (shZ g 36) (g (20 + i)) i t (g 2) = 0)) := hw_
                          have f115_v := hw_
                          have J131 : ∀ (k131 : Int) (g131 : (k131 = 1 ∧ okZ (shZ g 36) (g (20 + i)) i t (g 2) = 1 ∧ k82_0 = 0) ∨ (k131 = 0 ∧ ¬ (okZ (shZ g 36) (g (20 + i)) i t (g 2) = 1 ∧ k82_0 = 0))) (ls_ : Array Slot) (H_ : Heap) (lo_ : List Loc), WD D A_ s_.heap ([wO cy o ab be bl ta tl tk vl, wA cy (o 1) 192 g, wR cy (o 4) 3 rf]) H_ lo_ → lv_has ls_ 10 [(6, .int (zi (n1 + k106))), (9, .int (zi k82_0)), (8, .int (zi t)), (7, .int (zi n2)), (5, .int (zi v)), (4, .int (zi u)), (3, .int (zi y2)), (2, .int (zi x2)), (0, .ref (o 0)), (1, .int (zi i))] → W p_ l_ e_ rX8_tell s_ m_ ar_ be_ me_ c_ H_ lo_ 0 0 Q_ (F0 m_ 131 ls_ [.int (zi k131), .int (zi n2)]) := by
                            intro k131 g131 ls_ H_ lo_ W_ hl
                            refine z_iadd F_ dX8_tell_131 ?_
                            refine lv_istore (lv' := [(7, .int (zi (n2 + k131))), (6, .int (zi (n1 + k106))), (9, .int (zi k82_0)), (8, .int (zi t)), (5, .int (zi v)), (4, .int (zi u)), (3, .int (zi y2)), (2, .int (zi x2)), (0, .ref (o 0)), (1, .int (zi i))]) F_.1 F_.2.1 dX8_tell_132 hl (by decide) rfl (fun ls_ hl => ?_)
                            refine z_iinc (lv' := [(8, .int (zi (t + 1))), (7, .int (zi (n2 + k131))), (6, .int (zi (n1 + k106))), (9, .int (zi k82_0)), (5, .int (zi v)), (4, .int (zi u)), (3, .int (zi y2)), (2, .int (zi x2)), (0, .ref (o 0)), (1, .int (zi i))]) F_ dX8_tell_134 hl (k := 3) rfl (by decide) rfl (fun ls_ hl => ?_)
                            refine z_goto (tgt := 49) F_ dX8_tell_137 (by decide) ?_
                            exact ih49 (n1 + k106) (n2 + k131) (t + 1) (by first | omega | assumption) (by rw [lvZ_s _ _ _ _ (by omega), okS_p _ _ _ _ ht.1, ← h1, ← f69_v]; split <;> omega) (by rw [ntZ_s _ _ _ _ (by omega), okS_p _ _ _ _ ht.1, ← h2, ← f69_v]; split <;> omega) (by first | omega | assumption) (by omega) ls_ H_ lo_ W_ (lv_sub hl [0, 1, 2, 4, 5, 6, 7, 8, 9] rfl)
                          refine z_if_eq (tgt := 130) F_ (by omega) dX8_tell_118 (by decide) (fun c118 => ?_) (fun c118 => ?_)
                          · refine z_iconst F_ dX8_tell_130 ?_
                            exact J131 0 (by first | omega | assumption) ls_ H_ lo_ W_ (lv_sub hl [0, 1, 2, 3, 4, 5, 6, 7, 8, 9] rfl)
                          · refine lv_iload F_.1 F_.2.1 dX8_tell_121 (lv_at hl 1 rfl) ?_
                            refine z_if_ne (tgt := 130) F_ (by omega) dX8_tell_123 (by decide) (fun c123 => ?_) (fun c123 => ?_)
                            · refine z_iconst F_ dX8_tell_130 ?_
                              exact J131 0 (by first | omega | assumption) ls_ H_ lo_ W_ (lv_sub hl [0, 1, 2, 3, 4, 5, 6, 7, 8, 9] rfl)
                            · refine z_iconst F_ dX8_tell_126 ?_
                              refine z_goto (tgt := 131) F_ dX8_tell_127 (by decide) ?_
                              exact J131 1 (by first | omega | assumption) ls_ H_ lo_ W_ (lv_sub hl [0, 1, 2, 3, 4, 5, 6, 7, 8, 9] rfl)
                        have J105 : ∀ (g105 : ((z_4 = 0)) ∨ ((¬ z_4 = 0) ∧ (k82_0 = 0))) (ls_ : Array Slot) (H_ : Heap) (lo_ : List Loc), WD D A_ s_.heap ([wO cy o ab be bl ta tl tk vl, wA cy (o 1) 192 g, wR cy (o 4) 3 rf]) H_ lo_ → lv_has ls_ 10 [(9, .int (zi k82_0)), (8, .int (zi t)), (7, .int (zi n2)), (6, .int (zi n1)), (5, .int (zi v)), (4, .int (zi u)), (3, .int (zi y2)), (2, .int (zi x2)), (0, .ref (o 0)), (1, .int (zi i))] → W p_ l_ e_ rX8_tell s_ m_ ar_ be_ me_ c_ H_ lo_ 0 0 Q_ (F0 m_ 105 ls_ [.int (zi n1)]) := by
                          intro g105 ls_ H_ lo_ W_ hl
                          refine z_iconst F_ dX8_tell_105 ?_
                          exact J106 0 (by first | omega | assumption) ls_ H_ lo_ W_ (lv_sub hl [0, 1, 2, 3, 4, 5, 6, 7, 8, 9] rfl)
                        refine z_if_eq (tgt := 105) F_ (by omega) dX8_tell_93 (by decide) (fun c93 => ?_) (fun c93 => ?_)
                        · exact J105 (by first | omega | grind) ls_ H_ lo_ W_ (lv_sub hl [0, 1, 2, 3, 4, 5, 6, 7, 8, 9] rfl)
                        · refine lv_iload F_.1 F_.2.1 dX8_tell_96 (lv_at hl 0 rfl) ?_
                          refine z_if_eq (tgt := 105) F_ (by omega) dX8_tell_98 (by decide) (fun c98 => ?_) (fun c98 => ?_)
                          · exact J105 (by first | omega | grind) ls_ H_ lo_ W_ (lv_sub hl [0, 1, 2, 3, 4, 5, 6, 7, 8, 9] rfl)
                          · refine z_iconst F_ dX8_tell_101 ?_
                            refine z_goto (tgt := 106) F_ dX8_tell_102 (by decide) ?_
                            exact J106 1 (by first | omega | assumption) ls_ H_ lo_ W_ (lv_sub hl [0, 1, 2, 3, 4, 5, 6, 7, 8, 9] rfl)
                      refine z_icmp_gt (tgt := 81) F_ (by omega) dX8_tell_74 (by decide) (fun c74 => ?_) (fun c74 => ?_)
                      · refine z_iconst F_ dX8_tell_81 ?_
                        exact J82 0 (by first | omega | grind) ls_ H_ lo_ W_ (lv_sub hl [0, 1, 2, 3, 4, 5, 6, 7, 8] rfl)
                      · refine z_iconst F_ dX8_tell_77 ?_
                        refine z_goto (tgt := 82) F_ dX8_tell_78 (by decide) ?_
                        exact J82 1 (by first | omega | grind) ls_ H_ lo_ W_ (lv_sub hl [0, 1, 2, 3, 4, 5, 6, 7, 8] rfl)
                exact L49 ((10 - 1 : Int).toNat + 1) 0 0 1 (by first | omega | assumption) (by rw [lvZ_1 _ _ _ (okS_0 _ _ _ _)]) (by rw [ntZ_1 _ _ _ (okS_0 _ _ _ _)]) (by first | omega | assumption) (by have := Int.self_le_toNat (10 - 1 : Int); omega) ls_ H_ lo_ W_ (lv_sub hl [0, 1, 2, 3, 4, 5, 6, 7, 8] rfl)
          exact L33 ((31 - 0 : Int).toNat + 1) x y 0 (by first | omega | assumption) (by rw [Int.add_zero]; exact hx) (by rw [Int.add_zero]; exact hy) (by first | omega | assumption) (by have := Int.self_le_toNat (31 - 0 : Int); omega) ls_ H_ lo_ W_ (lv_sub hl [0, 1, 2, 3, 4, 5] rfl)
    exact L23 ((6 - 0 : Int).toNat + 1) (-1) 1000000 0 (by first | omega | assumption) (by rfl) (by rfl) (by first | omega | assumption) (by have := Int.self_le_toNat (6 - 0 : Int); omega) ls_ H_ lo_ W_ (lv_sub hl [0, 1, 2, 3, 4] rfl)
  · refine lv_aload_n F_.1 F_.2.1 dX8_tell_8 rfl (lv_at hl 0 rfl) ?_
    refine z_bipush F_ (by decide) dX8_tell_9 ?_
    refine z_callVi F_ K_ W_ [.int (zi (-2))] (c_X8_bad l_ D cy o ab be bl ta tl tk vl rf (-2) (by first | omega | assumption)) 1 rfl gX8_tell_X8_bad rfl (by decide +kernel) ⟨⟨Nat.le_of_ble_eq_true rfl, Nat.le_of_ble_eq_true rfl⟩, rfl, rfl, Nat.zero_le _, Nat.zero_le _⟩ 0 0 7 rfl rfl rfl rfl hl.1 rfl (Nat.le_of_ble_eq_true rfl) [0, 2] [1] [wA cy (o 1) 192 g] (fun (u_ : (Int → Int)) => [wO cy o ab be bl ta tl tk vl, wA cy (o 1) 192 g, wR cy (o 4) 3 u_]) 3 (by decide +kernel) rfl rfl rfl (fun _ => rfl) (fun _ => rfl) (fun _ => rfl) dX8_tell_11 (fun z_6 u_ H_ lo_ hw_ W_ => ?_)
    obtain ⟨rf2_7, rfl⟩ : ∃ x, x = u_ := ⟨_, rfl⟩
    have W_ : WD D A_ s_.heap ([wO cy o ab be bl ta tl tk vl, wA cy (o 1) 192 g, wR cy (o 4) 3 rf2_7]) H_ lo_ := W_
    have hw_ : (z_6 = (-2)) ∧ (rf2_7 = rfZ rf 0) := hw_
    obtain ⟨f11_v, f11_r⟩ := hw_
    exact hret _ _ _ _ z_6 rf2_7 dX8_tell_14 (by exact Or.inr ⟨by omega, by omega, by assumption⟩) W_
abbrev rX8_forget : Room := { frames := 1, cells := 0, slots := 0, locals := 25 }
set_option maxHeartbeats 1000000 in
set_option maxRecDepth 100000 in
theorem c_X8_forget (l_ : Launch) (D : va_G) (cy : Nat → ClassId) (o : Nat → Nat) (ab : Int) (be : Int) (bl : Int) (ta : Int) (tl : Int) (tk : Int) (vl : Int) (g : Int → Int) (rf : Int → Int) (w : Int) (bg : ∀ j : Int, 0 ≤ g j ∧ g j ≤ 99) (rw : -2147483648 ≤ w ∧ w < 2147483648) : CTi l_ D cy yX8_forget wsX8_forget rX8_forget [.ref (o 0), .int (zi w)] ([wO cy o ab be bl ta tl tk vl, wA cy (o 1) 192 g, wR cy (o 4) 3 rf]) (fun (z : Int) (u : (Int → Int) × (Int → Int)) => ((¬ (0 ≤ w ∧ w ≤ 2) ∧ z = -2 ∧ u.1 = g ∧ u.2 = rfZ rf 0) ∨ ((0 ≤ w ∧ w ≤ 2) ∧ z = g (2 + w) ∧ u.1 = zu g (2 + w) 0 ∧ u.2 = rf)) ∧ (∀ j : Int, 0 ≤ u.1 j ∧ u.1 j ≤ 99)) (fun (u : (Int → Int) × (Int → Int)) => [wO cy o ab be bl ta tl tk vl, wA cy (o 1) 192 u.1, wR cy (o 4) 3 u.2]) := by
  refine CTi.of RX8 cX8_forget 3 rfl (by decide) rfl (fun z u hz => rfl) (Nat.le_of_ble_eq_true rfl) ?_
  intro p_ e_ s_ m_ ar_ be_ me_ c_ Q_ A_ ls_ F_ K_ W_ hl hret
  have hl : lv_has ls_ 3 [(0, .ref (o 0)), (1, .int (zi w))] := hl
  obtain ⟨H_, hH_⟩ : ∃ x, x = s_.heap := ⟨_, rfl⟩
  obtain ⟨lo_, hlo_⟩ : ∃ x : List Loc, x = [] := ⟨_, rfl⟩
  have W_ : WD D A_ s_.heap ([wO cy o ab be bl ta tl tk vl, wA cy (o 1) 192 g, wR cy (o 4) 3 rf]) H_ lo_ := by rw [hH_, hlo_]; exact W_
  rw [← hlo_]
  suffices hg_ : W p_ l_ e_ rX8_forget s_ m_ ar_ be_ me_ c_ H_ lo_ 0 0 Q_ (F0 m_ 0 ls_ []) by rw [hH_] at hg_; exact hg_
  clear hH_ hlo_
  have hinX8 : ∀ w ∈ u_ws RX8 TX8 19, w ∈ wsX8_forget := fun w h => List.mem_cons_of_mem _ (List.mem_append_right _ h)
  refine lv_iload_n F_.1 F_.2.1 dX8_forget_0 rfl (lv_at hl 1 rfl) ?_
  refine z_i2l F_ (by omega) dX8_forget_1 ?_
  refine z_lconst (z := 0) F_ rfl dX8_forget_2 ?_
  refine z_ldc2 (z := 2) F_ (F_.2.2.2.2 _ (List.mem_of_getElem? (i := 1) rfl)) rfl dX8_forget_3 ?_
  refine z_callSip F_ K_ W_ [.long (zl w), .long (zl 0), .long (zl 2)] (c_X8_in l_ D cy w 0 2 (by first | omega | assumption)) 3 rfl gX8_forget_X8_in rfl (by decide +kernel) ⟨⟨Nat.le_of_ble_eq_true rfl, Nat.le_of_ble_eq_true rfl⟩, rfl, rfl, Nat.zero_le _, Nat.zero_le _⟩ hl.1 rfl (Nat.le_of_ble_eq_true rfl) ([] : List Nat) [0, 1, 2] [wO cy o ab be bl ta tl tk vl, wA cy (o 1) 192 g, wR cy (o 4) 3 rf] 3 (by decide +kernel) rfl rfl rfl dX8_forget_6 (fun z_1 _ H_ lo_ hw_ W_ => ?_)
  have hw_ : ((z_1 = 1 ∧ (0 ≤ w ∧ w ≤ 2)) ∨ (z_1 = 0 ∧ ¬ (0 ≤ w ∧ w ≤ 2))) := hw_
  have f6_v := hw_
  refine z_if_ne (tgt := 19) F_ (by omega) dX8_forget_9 (by decide) (fun c9 => ?_) (fun c9 => ?_)
  · refine lv_aload_n F_.1 F_.2.1 dX8_forget_19 rfl (lv_at hl 0 rfl) ?_
    refine z_get F_ K_ W_ 0 0 0 rfl rfl rfl (C := RX8) (T := TX8) (N := 19) rfl (by decide) hinX8 (List.mem_of_getElem? (i := 2) rfl) dX8_forget_20 ?_
    refine z_iconst F_ dX8_forget_23 ?_
    refine lv_iload_n F_.1 F_.2.1 dX8_forget_24 rfl (lv_at hl 1 rfl) ?_
    refine z_iadd F_ dX8_forget_25 ?_
    refine z_iald F_ K_ W_ 1 0 rfl rfl (by omega) (by decide) dX8_forget_26 ?_
    have b_2 := bg (2 + w)
    refine lv_istore_n (lv' := [(2, .int (zi (g (2 + w)))), (0, .ref (o 0)), (1, .int (zi w))]) F_.1 F_.2.1 dX8_forget_27 rfl hl (by decide) rfl (fun ls_ hl => ?_)
    refine lv_aload_n F_.1 F_.2.1 dX8_forget_28 rfl (lv_at hl 1 rfl) ?_
    refine z_get F_ K_ W_ 0 0 0 rfl rfl rfl (C := RX8) (T := TX8) (N := 19) rfl (by decide) hinX8 (List.mem_of_getElem? (i := 2) rfl) dX8_forget_29 ?_
    refine z_iconst F_ dX8_forget_32 ?_
    refine lv_iload_n F_.1 F_.2.1 dX8_forget_33 rfl (lv_at hl 2 rfl) ?_
    refine z_iadd F_ dX8_forget_34 ?_
    refine z_iconst F_ dX8_forget_35 ?_
    refine z_iast (sg' := [wO cy o ab be bl ta tl tk vl, wA cy (o 1) 192 (zu g (2 + w) 0), wR cy (o 4) 3 rf]) F_ K_ W_ 1 0 rfl rfl rfl (by omega) (by decide) dX8_forget_36 (fun H_ lo_ W_ => ?_)
    obtain ⟨g_3, eg_3⟩ : ∃ x_ : Int → Int, x_ = zu g (2 + w) 0 := ⟨_, rfl⟩
    rw [← eg_3] at W_
    have bg_3 : ∀ j : Int, 0 ≤ g_3 j ∧ g_3 j ≤ 99 := by rw [eg_3]; exact zu_b bg (by omega)
    refine lv_iload_n F_.1 F_.2.1 dX8_forget_37 rfl (lv_at hl 0 rfl) ?_
    exact hret _ _ _ _ (g (2 + w)) (g_3, rf) dX8_forget_38 ⟨(by exact Or.inr ⟨by omega, rfl, by assumption, rfl⟩), bg_3⟩ W_
  · refine lv_aload_n F_.1 F_.2.1 dX8_forget_12 rfl (lv_at hl 0 rfl) ?_
    refine z_bipush F_ (by decide) dX8_forget_13 ?_
    refine z_callVi F_ K_ W_ [.int (zi (-2))] (c_X8_bad l_ D cy o ab be bl ta tl tk vl rf (-2) (by first | omega | assumption)) 1 rfl gX8_forget_X8_bad rfl (by decide +kernel) ⟨⟨Nat.le_of_ble_eq_true rfl, Nat.le_of_ble_eq_true rfl⟩, rfl, rfl, Nat.zero_le _, Nat.zero_le _⟩ 0 0 7 rfl rfl rfl rfl hl.1 rfl (Nat.le_of_ble_eq_true rfl) [0, 2] [1] [wA cy (o 1) 192 g] (fun (u_ : (Int → Int)) => [wO cy o ab be bl ta tl tk vl, wA cy (o 1) 192 g, wR cy (o 4) 3 u_]) 3 (by decide +kernel) rfl rfl rfl (fun _ => rfl) (fun _ => rfl) (fun _ => rfl) dX8_forget_15 (fun z_4 u_ H_ lo_ hw_ W_ => ?_)
    obtain ⟨rf2_5, rfl⟩ : ∃ x, x = u_ := ⟨_, rfl⟩
    have W_ : WD D A_ s_.heap ([wO cy o ab be bl ta tl tk vl, wA cy (o 1) 192 g, wR cy (o 4) 3 rf2_5]) H_ lo_ := W_
    have hw_ : (z_4 = (-2)) ∧ (rf2_5 = rfZ rf 0) := hw_
    obtain ⟨f15_v, f15_r⟩ := hw_
    exact hret _ _ _ _ z_4 (g, rf2_5) dX8_forget_18 ⟨(by exact Or.inl ⟨by omega, by omega, rfl, by assumption⟩), bg⟩ W_
abbrev rX8_kindsBy : Room := { frames := 1, cells := 0, slots := 0, locals := 24 }
set_option maxHeartbeats 1000000 in
set_option maxRecDepth 100000 in
theorem c_X8_kindsBy (l_ : Launch) (D : va_G) (cy : Nat → ClassId) (o : Nat → Nat) (ab : Int) (be : Int) (bl : Int) (ta : Int) (tl : Int) (tk : Int) (vl : Int) (g : Int → Int) (i : Int) (b : Int) (n : Int) (nt : Int) (bg : ∀ j : Int, 0 ≤ g j ∧ g j ≤ 99) (ri : -2147483648 ≤ i ∧ i < 2147483648) (rb : -2147483648 ≤ b ∧ b < 2147483648) (rn : -2147483648 ≤ n ∧ n < 2147483648) (rnt : -2147483648 ≤ nt ∧ nt < 2147483648) (hb : 36 ≤ b ∧ b ≤ 80) (hn : 0 ≤ n ∧ n ≤ 6) (hnt : nt = 0 ∨ nt = 1) : CTi l_ D cy yX8_kindsBy wsX8_kindsBy rX8_kindsBy [.ref (o 0), .int (zi i), .int (zi b), .int (zi n), .int (zi nt)] ([wO cy o ab be bl ta tl tk vl, wA cy (o 1) 192 g]) (fun (z : Int) (u : Unit) => (z = kbZ (shZ g b) nt i n 6)) (fun (_ : Unit) => [wO cy o ab be bl ta tl tk vl, wA cy (o 1) 192 g]) := by
  refine CTi.of RX8 cX8_kindsBy 11 rfl (by decide) rfl (fun z u hz => rfl) (Nat.le_of_ble_eq_true rfl) ?_
  intro p_ e_ s_ m_ ar_ be_ me_ c_ Q_ A_ ls_ F_ K_ W_ hl hret
  have hl : lv_has ls_ 11 [(0, .ref (o 0)), (1, .int (zi i)), (2, .int (zi b)), (3, .int (zi n)), (4, .int (zi nt))] := hl
  obtain ⟨H_, hH_⟩ : ∃ x, x = s_.heap := ⟨_, rfl⟩
  obtain ⟨lo_, hlo_⟩ : ∃ x : List Loc, x = [] := ⟨_, rfl⟩
  have W_ : WD D A_ s_.heap ([wO cy o ab be bl ta tl tk vl, wA cy (o 1) 192 g]) H_ lo_ := by rw [hH_, hlo_]; exact W_
  rw [← hlo_]
  suffices hg_ : W p_ l_ e_ rX8_kindsBy s_ m_ ar_ be_ me_ c_ H_ lo_ 0 0 Q_ (F0 m_ 0 ls_ []) by rw [hH_] at hg_; exact hg_
  clear hH_ hlo_
  have hinX8 : ∀ w ∈ u_ws RX8 TX8 19, w ∈ wsX8_kindsBy := fun w h => List.mem_cons_of_mem _ (List.mem_append_right _ h)
  refine z_iconst F_ dX8_kindsBy_0 ?_
  refine lv_istore (lv' := [(5, .int (zi 0)), (0, .ref (o 0)), (1, .int (zi i)), (2, .int (zi b)), (3, .int (zi n)), (4, .int (zi nt))]) F_.1 F_.2.1 dX8_kindsBy_1 hl (by decide) rfl (fun ls_ hl => ?_)
  refine z_iconst F_ dX8_kindsBy_3 ?_
  refine lv_istore (lv' := [(6, .int (zi 0)), (5, .int (zi 0)), (0, .ref (o 0)), (1, .int (zi i)), (2, .int (zi b)), (3, .int (zi n)), (4, .int (zi nt))]) F_.1 F_.2.1 dX8_kindsBy_4 hl (by decide) rfl (fun ls_ hl => ?_)
  have L6 : ∀ (n_ : Nat) (x : Int) (kd : Int) (hkd : 0 ≤ kd ∧ kd ≤ 6) (hx : x = kbZ (shZ g b) nt i n kd) (hm_ : (6 - kd : Int) < (n_ : Int)) (ls_ : Array Slot) (H_ : Heap) (lo_ : List Loc), WD D A_ s_.heap ([wO cy o ab be bl ta tl tk vl, wA cy (o 1) 192 g]) H_ lo_ → lv_has ls_ 11 [(6, .int (zi kd)), (5, .int (zi x)), (0, .ref (o 0)), (1, .int (zi i)), (2, .int (zi b)), (3, .int (zi n)), (4, .int (zi nt))] → W p_ l_ e_ rX8_kindsBy s_ m_ ar_ be_ me_ c_ H_ lo_ 0 0 Q_ (F0 m_ 6 ls_ []) := by
    intro n_
    induction n_ with
    | zero =>
      intro x kd hkd hx hm_ ls_ H_ lo_ _ _
      exact absurd hm_ (by omega)
    | succ n_ ih_ =>
      intro x kd hkd hx hm_ ls_ H_ lo_ W_ hl
      have ih6 := ih_
      refine lv_iload F_.1 F_.2.1 dX8_kindsBy_6 (lv_at hl 0 rfl) ?_
      refine z_bipush F_ (by decide) dX8_kindsBy_8 ?_
      refine z_icmp_ge (tgt := 156) F_ (by omega) dX8_kindsBy_10 (by decide) (fun c10 => ?_) (fun c10 => ?_)
      · refine lv_iload F_.1 F_.2.1 dX8_kindsBy_156 (lv_at hl 1 rfl) ?_
        exact hret _ _ _ _ x () dX8_kindsBy_158 (by rw [hx]; congr 1; omega) W_
      · refine z_iconst F_ dX8_kindsBy_13 ?_
        refine lv_istore (lv' := [(7, .int (zi 1)), (6, .int (zi kd)), (5, .int (zi x)), (0, .ref (o 0)), (1, .int (zi i)), (2, .int (zi b)), (3, .int (zi n)), (4, .int (zi nt))]) F_.1 F_.2.1 dX8_kindsBy_14 hl (by decide) rfl (fun ls_ hl => ?_)
        refine z_iconst F_ dX8_kindsBy_16 ?_
        refine lv_istore (lv' := [(8, .int (zi 0)), (7, .int (zi 1)), (6, .int (zi kd)), (5, .int (zi x)), (0, .ref (o 0)), (1, .int (zi i)), (2, .int (zi b)), (3, .int (zi n)), (4, .int (zi nt))]) F_.1 F_.2.1 dX8_kindsBy_17 hl (by decide) rfl (fun ls_ hl => ?_)
        have L19 : ∀ (n_ : Nat) (v : Int) (k : Int) (hk : 0 ≤ k ∧ k ≤ n) (hv : v = fitZ (shZ g b) (vlZ nt kd) i k) (hv1 : v = 0 ∨ v = 1) (hm_ : (n - k : Int) < (n_ : Int)) (ls_ : Array Slot) (H_ : Heap) (lo_ : List Loc), WD D A_ s_.heap ([wO cy o ab be bl ta tl tk vl, wA cy (o 1) 192 g]) H_ lo_ → lv_has ls_ 11 [(8, .int (zi k)), (7, .int (zi v)), (6, .int (zi kd)), (5, .int (zi x)), (0, .ref (o 0)), (1, .int (zi i)), (2, .int (zi b)), (3, .int (zi n)), (4, .int (zi nt))] → W p_ l_ e_ rX8_kindsBy s_ m_ ar_ be_ me_ c_ H_ lo_ 0 0 Q_ (F0 m_ 19 ls_ []) := by
          intro n_
          induction n_ with
          | zero =>
            intro v k hk hv hv1 hm_ ls_ H_ lo_ _ _
            exact absurd hm_ (by omega)
          | succ n_ ih_ =>
            intro v k hk hv hv1 hm_ ls_ H_ lo_ W_ hl
            have ih19 := ih_
            refine lv_iload F_.1 F_.2.1 dX8_kindsBy_19 (lv_at hl 0 rfl) ?_
            refine lv_iload_n F_.1 F_.2.1 dX8_kindsBy_21 rfl (lv_at hl 7 rfl) ?_
            refine z_icmp_ge (tgt := 132) F_ (by omega) dX8_kindsBy_22 (by decide) (fun c22 => ?_) (fun c22 => ?_)
            · have hzb := kbZ_b (shZ g b) nt i n hkd.1
              rw [← hx] at hzb
              have hp8 := zpw_le (show kd ≤ 5 by omega)
              have hp7 : zpw 5 = 32 := rfl
              have hp1 := zpw_pos kd
              have hvn : v = fitZ (shZ g b) (vlZ nt kd) i n := by rw [hv]; congr 1; omega
              refine lv_iload F_.1 F_.2.1 dX8_kindsBy_132 (lv_at hl 3 rfl) ?_
              refine lv_iload F_.1 F_.2.1 dX8_kindsBy_134 (lv_at hl 1 rfl) ?_
              refine z_if_eq (tgt := 146) F_ (by omega) dX8_kindsBy_136 (by decide) (fun c136 => ?_) (fun c136 => ?_)
              · refine z_iconst F_ dX8_kindsBy_146 ?_
                refine z_ior F_ (by omega) dX8_kindsBy_147 ?_
                obtain ⟨w_1, ew_1, fw_1⟩ : ∃ y_ : Int, y_ = zor x 0 ∧ ((v = 1 ∧ y_ = x + zpw kd) ∨ (v = 0 ∧ y_ = x)) := ⟨_, rfl, by first | exact Or.inl ⟨by omega, zor_pw hzb⟩ | exact Or.inr ⟨by omega, zor_0 (by omega)⟩⟩
                rw [← ew_1]
                refine lv_istore (lv' := [(5, .int (zi w_1)), (8, .int (zi k)), (7, .int (zi v)), (6, .int (zi kd)), (0, .ref (o 0)), (1, .int (zi i)), (2, .int (zi b)), (3, .int (zi n)), (4, .int (zi nt))]) F_.1 F_.2.1 dX8_kindsBy_148 hl (by decide) rfl (fun ls_ hl => ?_)
                refine z_iinc (lv' := [(6, .int (zi (kd + 1))), (5, .int (zi w_1)), (8, .int (zi k)), (7, .int (zi v)), (0, .ref (o 0)), (1, .int (zi i)), (2, .int (zi b)), (3, .int (zi n)), (4, .int (zi nt))]) F_ dX8_kindsBy_150 hl (k := 3) rfl (by decide) rfl (fun ls_ hl => ?_)
                refine z_goto (tgt := 6) F_ dX8_kindsBy_153 (by decide) ?_
                exact ih6 w_1 (kd + 1) (by first | omega | assumption) (by rw [kbZ_s _ _ _ _ hkd.1, ← hx, ← hvn]; split <;> omega) (by omega) ls_ H_ lo_ W_ (lv_sub hl [0, 1, 4, 5, 6, 7, 8] rfl)
              · refine z_iconst F_ dX8_kindsBy_139 ?_
                refine lv_iload F_.1 F_.2.1 dX8_kindsBy_140 (lv_at hl 2 rfl) ?_
                refine z_ishl F_ (by rw [Int.one_mul]; omega) dX8_kindsBy_142 ?_
                have i_2 : 1 * zpw kd = zpw kd := by exact Int.one_mul _
                rw [i_2]
                refine z_goto (tgt := 147) F_ dX8_kindsBy_143 (by decide) ?_
                refine z_ior F_ (by omega) dX8_kindsBy_147 ?_
                obtain ⟨w_3, ew_3, fw_3⟩ : ∃ y_ : Int, y_ = zor x (zpw kd) ∧ ((v = 1 ∧ y_ = x + zpw kd) ∨ (v = 0 ∧ y_ = x)) := ⟨_, rfl, by first | exact Or.inl ⟨by omega, zor_pw hzb⟩ | exact Or.inr ⟨by omega, zor_0 (by omega)⟩⟩
                rw [← ew_3]
                refine lv_istore (lv' := [(5, .int (zi w_3)), (8, .int (zi k)), (7, .int (zi v)), (6, .int (zi kd)), (0, .ref (o 0)), (1, .int (zi i)), (2, .int (zi b)), (3, .int (zi n)), (4, .int (zi nt))]) F_.1 F_.2.1 dX8_kindsBy_148 hl (by decide) rfl (fun ls_ hl => ?_)
                refine z_iinc (lv' := [(6, .int (zi (kd + 1))), (5, .int (zi w_3)), (8, .int (zi k)), (7, .int (zi v)), (0, .ref (o 0)), (1, .int (zi i)), (2, .int (zi b)), (3, .int (zi n)), (4, .int (zi nt))]) F_ dX8_kindsBy_150 hl (k := 3) rfl (by decide) rfl (fun ls_ hl => ?_)
                refine z_goto (tgt := 6) F_ dX8_kindsBy_153 (by decide) ?_
                exact ih6 w_3 (kd + 1) (by first | omega | assumption) (by rw [kbZ_s _ _ _ _ hkd.1, ← hx, ← hvn]; split <;> omega) (by omega) ls_ H_ lo_ W_ (lv_sub hl [0, 1, 4, 5, 6, 7, 8] rfl)
            · refine lv_iload_n F_.1 F_.2.1 dX8_kindsBy_25 rfl (lv_at hl 6 rfl) ?_
              refine z_iconst F_ dX8_kindsBy_26 ?_
              refine lv_iload F_.1 F_.2.1 dX8_kindsBy_27 (lv_at hl 0 rfl) ?_
              refine z_imul F_ dX8_kindsBy_29 ?_
              refine z_iadd F_ dX8_kindsBy_30 ?_
              refine lv_istore (lv' := [(9, .int (zi (b + (4 * k)))), (8, .int (zi k)), (7, .int (zi v)), (6, .int (zi kd)), (5, .int (zi x)), (0, .ref (o 0)), (1, .int (zi i)), (2, .int (zi b)), (3, .int (zi n)), (4, .int (zi nt))]) F_.1 F_.2.1 dX8_kindsBy_31 hl (by decide) rfl (fun ls_ hl => ?_)
              refine lv_iload F_.1 F_.2.1 dX8_kindsBy_33 (lv_at hl 9 rfl) ?_
              have J87 : ∀ (q : Int) (hq : q = vlZ nt kd (shZ g b (4 * k + 1)) (shZ g b (4 * k + 2))) (hqb : -400 ≤ q ∧ q ≤ 400) (ls_ : Array Slot) (H_ : Heap) (lo_ : List Loc), WD D A_ s_.heap ([wO cy o ab be bl ta tl tk vl, wA cy (o 1) 192 g]) H_ lo_ → lv_has ls_ 11 [(9, .int (zi (b + (4 * k)))), (8, .int (zi k)), (7, .int (zi v)), (6, .int (zi kd)), (5, .int (zi x)), (0, .ref (o 0)), (1, .int (zi i)), (2, .int (zi b)), (3, .int (zi n)), (4, .int (zi nt))] → W p_ l_ e_ rX8_kindsBy s_ m_ ar_ be_ me_ c_ H_ lo_ 0 0 Q_ (F0 m_ 87 ls_ [.int (zi q)]) := by
                intro q hq hqb ls_ H_ lo_ W_ hl
                refine lv_istore (lv' := [(10, .int (zi q)), (9, .int (zi (b + (4 * k)))), (8, .int (zi k)), (7, .int (zi v)), (6, .int (zi kd)), (5, .int (zi x)), (0, .ref (o 0)), (1, .int (zi i)), (2, .int (zi b)), (3, .int (zi n)), (4, .int (zi nt))]) F_.1 F_.2.1 dX8_kindsBy_87 hl (by decide) rfl (fun ls_ hl => ?_)
                refine lv_iload F_.1 F_.2.1 dX8_kindsBy_89 (lv_at hl 3 rfl) ?_
                refine z_if_eq (tgt := 123) F_ (by omega) dX8_kindsBy_91 (by decide) (fun c91 => ?_) (fun c91 => ?_)
                · refine z_iconst F_ dX8_kindsBy_123 ?_
                  refine lv_istore (lv' := [(7, .int (zi 0)), (10, .int (zi q)), (9, .int (zi (b + (4 * k)))), (8, .int (zi k)), (6, .int (zi kd)), (5, .int (zi x)), (0, .ref (o 0)), (1, .int (zi i)), (2, .int (zi b)), (3, .int (zi n)), (4, .int (zi nt))]) F_.1 F_.2.1 dX8_kindsBy_124 hl (by decide) rfl (fun ls_ hl => ?_)
                  refine z_iinc (lv' := [(8, .int (zi (k + 1))), (7, .int (zi 0)), (10, .int (zi q)), (9, .int (zi (b + (4 * k)))), (6, .int (zi kd)), (5, .int (zi x)), (0, .ref (o 0)), (1, .int (zi i)), (2, .int (zi b)), (3, .int (zi n)), (4, .int (zi nt))]) F_ dX8_kindsBy_126 hl (k := 3) rfl (by decide) rfl (fun ls_ hl => ?_)
                  refine z_goto (tgt := 19) F_ dX8_kindsBy_129 (by decide) ?_
                  exact ih19 0 (k + 1) (by first | omega | assumption) (by rw [fitZ_s _ _ _ hk.1, ← hv, ← hq]; (first | (split <;> omega) | (rw [if_neg (fun q => by first | (have w := q c102; omega) | omega)]; first | done | omega) | (rw [if_pos (fun q => by first | omega | exact absurd q c102)]; first | done | omega))) (by first | omega | assumption) (by omega) ls_ H_ lo_ W_ (lv_sub hl [0, 1, 4, 5, 6, 7, 8, 9, 10] rfl)
                · refine lv_aload_n F_.1 F_.2.1 dX8_kindsBy_94 rfl (lv_at hl 6 rfl) ?_
                  refine z_get F_ K_ W_ 0 0 0 rfl rfl rfl (C := RX8) (T := TX8) (N := 19) rfl (by decide) hinX8 (List.mem_of_getElem? (i := 1) rfl) dX8_kindsBy_95 ?_
                  refine lv_iload F_.1 F_.2.1 dX8_kindsBy_98 (lv_at hl 1 rfl) ?_
                  refine z_iald F_ K_ W_ 1 0 rfl rfl (by omega) (by decide) dX8_kindsBy_100 ?_
                  have b_4 := bg (b + (4 * k))
                  have i_5 : g (b + (4 * k)) = shZ g b (4 * k) := by first | rfl | (show g _ = g _; congr 1; omega)
                  rw [i_5]
                  have b_6 := bg (b + (4 * k))
                  rw [i_5] at b_6
                  refine lv_iload_n F_.1 F_.2.1 dX8_kindsBy_101 rfl (lv_at hl 7 rfl) ?_
                  refine z_icmp_ne (tgt := 119) F_ (by omega) dX8_kindsBy_102 (by decide) (fun c102 => ?_) (fun c102 => ?_)
                  · refine z_iconst F_ dX8_kindsBy_119 ?_
                    refine z_goto (tgt := 124) F_ dX8_kindsBy_120 (by decide) ?_
                    refine lv_istore (lv' := [(7, .int (zi 1)), (10, .int (zi q)), (9, .int (zi (b + (4 * k)))), (8, .int (zi k)), (6, .int (zi kd)), (5, .int (zi x)), (0, .ref (o 0)), (1, .int (zi i)), (2, .int (zi b)), (3, .int (zi n)), (4, .int (zi nt))]) F_.1 F_.2.1 dX8_kindsBy_124 hl (by decide) rfl (fun ls_ hl => ?_)
                    refine z_iinc (lv' := [(8, .int (zi (k + 1))), (7, .int (zi 1)), (10, .int (zi q)), (9, .int (zi (b + (4 * k)))), (6, .int (zi kd)), (5, .int (zi x)), (0, .ref (o 0)), (1, .int (zi i)), (2, .int (zi b)), (3, .int (zi n)), (4, .int (zi nt))]) F_ dX8_kindsBy_126 hl (k := 3) rfl (by decide) rfl (fun ls_ hl => ?_)
                    refine z_goto (tgt := 19) F_ dX8_kindsBy_129 (by decide) ?_
                    exact ih19 1 (k + 1) (by first | omega | assumption) (by rw [fitZ_s _ _ _ hk.1, ← hv, ← hq]; (first | (split <;> omega) | (rw [if_neg (fun q => by first | (have w := q c102; omega) | omega)]; first | done | omega) | (rw [if_pos (fun q => by first | omega | exact absurd q c102)]; first | done | omega))) (by first | omega | assumption) (by omega) ls_ H_ lo_ W_ (lv_sub hl [0, 1, 4, 5, 6, 7, 8, 9, 10] rfl)
                  · refine lv_iload F_.1 F_.2.1 dX8_kindsBy_105 (lv_at hl 0 rfl) ?_
                    refine lv_aload_n F_.1 F_.2.1 dX8_kindsBy_107 rfl (lv_at hl 6 rfl) ?_
                    refine z_get F_ K_ W_ 0 0 0 rfl rfl rfl (C := RX8) (T := TX8) (N := 19) rfl (by decide) hinX8 (List.mem_of_getElem? (i := 1) rfl) dX8_kindsBy_108 ?_
                    refine lv_iload F_.1 F_.2.1 dX8_kindsBy_111 (lv_at hl 1 rfl) ?_
                    refine z_iconst F_ dX8_kindsBy_113 ?_
                    refine z_iadd F_ dX8_kindsBy_114 ?_
                    refine z_iald F_ K_ W_ 1 0 rfl rfl (by omega) (by decide) dX8_kindsBy_115 ?_
                    have b_7 := bg ((b + (4 * k)) + 3)
                    have i_8 : g ((b + (4 * k)) + 3) = shZ g b (4 * k + 3) := by first | rfl | (show g _ = g _; congr 1; omega)
                    rw [i_8]
                    have b_9 := bg ((b + (4 * k)) + 3)
                    rw [i_8] at b_9
                    refine z_icmp_ne (tgt := 123) F_ (by omega) dX8_kindsBy_116 (by decide) (fun c116 => ?_) (fun c116 => ?_)
                    · refine z_iconst F_ dX8_kindsBy_123 ?_
                      refine lv_istore (lv' := [(7, .int (zi 0)), (10, .int (zi q)), (9, .int (zi (b + (4 * k)))), (8, .int (zi k)), (6, .int (zi kd)), (5, .int (zi x)), (0, .ref (o 0)), (1, .int (zi i)), (2, .int (zi b)), (3, .int (zi n)), (4, .int (zi nt))]) F_.1 F_.2.1 dX8_kindsBy_124 hl (by decide) rfl (fun ls_ hl => ?_)
                      refine z_iinc (lv' := [(8, .int (zi (k + 1))), (7, .int (zi 0)), (10, .int (zi q)), (9, .int (zi (b + (4 * k)))), (6, .int (zi kd)), (5, .int (zi x)), (0, .ref (o 0)), (1, .int (zi i)), (2, .int (zi b)), (3, .int (zi n)), (4, .int (zi nt))]) F_ dX8_kindsBy_126 hl (k := 3) rfl (by decide) rfl (fun ls_ hl => ?_)
                      refine z_goto (tgt := 19) F_ dX8_kindsBy_129 (by decide) ?_
                      exact ih19 0 (k + 1) (by first | omega | assumption) (by rw [fitZ_s _ _ _ hk.1, ← hv, ← hq]; (first | (split <;> omega) | (rw [if_neg (fun q => by first | (have w := q c102; omega) | omega)]; first | done | omega) | (rw [if_pos (fun q => by first | omega | exact absurd q c102)]; first | done | omega))) (by first | omega | assumption) (by omega) ls_ H_ lo_ W_ (lv_sub hl [0, 1, 4, 5, 6, 7, 8, 9, 10] rfl)
                    · refine z_iconst F_ dX8_kindsBy_119 ?_
                      refine z_goto (tgt := 124) F_ dX8_kindsBy_120 (by decide) ?_
                      refine lv_istore (lv' := [(7, .int (zi 1)), (10, .int (zi q)), (9, .int (zi (b + (4 * k)))), (8, .int (zi k)), (6, .int (zi kd)), (5, .int (zi x)), (0, .ref (o 0)), (1, .int (zi i)), (2, .int (zi b)), (3, .int (zi n)), (4, .int (zi nt))]) F_.1 F_.2.1 dX8_kindsBy_124 hl (by decide) rfl (fun ls_ hl => ?_)
                      refine z_iinc (lv' := [(8, .int (zi (k + 1))), (7, .int (zi 1)), (10, .int (zi q)), (9, .int (zi (b + (4 * k)))), (6, .int (zi kd)), (5, .int (zi x)), (0, .ref (o 0)), (1, .int (zi i)), (2, .int (zi b)), (3, .int (zi n)), (4, .int (zi nt))]) F_ dX8_kindsBy_126 hl (k := 3) rfl (by decide) rfl (fun ls_ hl => ?_)
                      refine z_goto (tgt := 19) F_ dX8_kindsBy_129 (by decide) ?_
                      exact ih19 1 (k + 1) (by first | omega | assumption) (by rw [fitZ_s _ _ _ hk.1, ← hv, ← hq]; (first | (split <;> omega) | (rw [if_neg (fun q => by first | (have w := q c102; omega) | omega)]; first | done | omega) | (rw [if_pos (fun q => by first | omega | exact absurd q c102)]; first | done | omega))) (by first | omega | assumption) (by omega) ls_ H_ lo_ W_ (lv_sub hl [0, 1, 4, 5, 6, 7, 8, 9, 10] rfl)
              refine z_if_eq (tgt := 64) F_ (by omega) dX8_kindsBy_35 (by decide) (fun c35 => ?_) (fun c35 => ?_)
              · refine lv_iload F_.1 F_.2.1 dX8_kindsBy_64 (lv_at hl 3 rfl) ?_
                refine lv_aload_n F_.1 F_.2.1 dX8_kindsBy_66 rfl (lv_at hl 5 rfl) ?_
                refine z_get F_ K_ W_ 0 0 0 rfl rfl rfl (C := RX8) (T := TX8) (N := 19) rfl (by decide) hinX8 (List.mem_of_getElem? (i := 1) rfl) dX8_kindsBy_67 ?_
                refine lv_iload F_.1 F_.2.1 dX8_kindsBy_70 (lv_at hl 0 rfl) ?_
                refine z_iconst F_ dX8_kindsBy_72 ?_
                refine z_iadd F_ dX8_kindsBy_73 ?_
                refine z_iald F_ K_ W_ 1 0 rfl rfl (by omega) (by decide) dX8_kindsBy_74 ?_
                have b_10 := bg ((b + (4 * k)) + 1)
                have i_11 : g ((b + (4 * k)) + 1) = shZ g b (4 * k + 1) := by first | rfl | (show g _ = g _; congr 1; omega)
                rw [i_11]
                have b_12 := bg ((b + (4 * k)) + 1)
                rw [i_11] at b_12
                refine lv_aload_n F_.1 F_.2.1 dX8_kindsBy_75 rfl (lv_at hl 5 rfl) ?_
                refine z_get F_ K_ W_ 0 0 0 rfl rfl rfl (C := RX8) (T := TX8) (N := 19) rfl (by decide) hinX8 (List.mem_of_getElem? (i := 1) rfl) dX8_kindsBy_76 ?_
                refine lv_iload F_.1 F_.2.1 dX8_kindsBy_79 (lv_at hl 0 rfl) ?_
                refine z_iconst F_ dX8_kindsBy_81 ?_
                refine z_iadd F_ dX8_kindsBy_82 ?_
                refine z_iald F_ K_ W_ 1 0 rfl rfl (by omega) (by decide) dX8_kindsBy_83 ?_
                have b_13 := bg ((b + (4 * k)) + 2)
                have i_14 : g ((b + (4 * k)) + 2) = shZ g b (4 * k + 2) := by first | rfl | (show g _ = g _; congr 1; omega)
                rw [i_14]
                have b_15 := bg ((b + (4 * k)) + 2)
                rw [i_14] at b_15
                refine z_callSip F_ K_ W_ [.int (zi kd), .int (zi (shZ g b (4 * k + 1))), .int (zi (shZ g b (4 * k + 2)))] (c_X8_likedAs l_ D cy kd (shZ g b (4 * k + 1)) (shZ g b (4 * k + 2)) (by first | omega | assumption) (by first | omega | assumption) (by first | omega | assumption) (by first | omega | assumption) (by first | omega | assumption)) 3 rfl gX8_kindsBy_X8_likedAs rfl (by decide +kernel) ⟨⟨Nat.le_of_ble_eq_true rfl, Nat.le_of_ble_eq_true rfl⟩, rfl, rfl, Nat.zero_le _, Nat.zero_le _⟩ hl.1 rfl (Nat.le_of_ble_eq_true rfl) ([] : List Nat) [0, 1] [wO cy o ab be bl ta tl tk vl, wA cy (o 1) 192 g] 2 (by decide +kernel) rfl rfl rfl dX8_kindsBy_84 (fun z_16 _ H_ lo_ hw_ W_ => ?_)
                have hw_ : (z_16 = likedZ kd (shZ g b (4 * k + 1)) (shZ g b (4 * k + 2))) := hw_
                have f84_v := hw_
                have hb84 := likedZ_b2 kd (s := shZ g b (4 * k + 1)) (c := shZ g b (4 * k + 2)) (by omega) (by omega)
                rw [← f84_v] at hb84
                exact J87 z_16 (by unfold vlZ; first | (rw [if_pos (by omega)]; assumption) | (rw [if_neg (by omega)]; assumption)) (by first | omega | assumption) ls_ H_ lo_ W_ (lv_sub hl [0, 1, 2, 3, 4, 5, 6, 7, 8, 9] rfl)
              · refine lv_iload F_.1 F_.2.1 dX8_kindsBy_38 (lv_at hl 3 rfl) ?_
                refine lv_aload_n F_.1 F_.2.1 dX8_kindsBy_40 rfl (lv_at hl 5 rfl) ?_
                refine z_get F_ K_ W_ 0 0 0 rfl rfl rfl (C := RX8) (T := TX8) (N := 19) rfl (by decide) hinX8 (List.mem_of_getElem? (i := 1) rfl) dX8_kindsBy_41 ?_
                refine lv_iload F_.1 F_.2.1 dX8_kindsBy_44 (lv_at hl 0 rfl) ?_
                refine z_iconst F_ dX8_kindsBy_46 ?_
                refine z_iadd F_ dX8_kindsBy_47 ?_
                refine z_iald F_ K_ W_ 1 0 rfl rfl (by omega) (by decide) dX8_kindsBy_48 ?_
                have b_17 := bg ((b + (4 * k)) + 1)
                have i_18 : g ((b + (4 * k)) + 1) = shZ g b (4 * k + 1) := by first | rfl | (show g _ = g _; congr 1; omega)
                rw [i_18]
                have b_19 := bg ((b + (4 * k)) + 1)
                rw [i_18] at b_19
                refine lv_aload_n F_.1 F_.2.1 dX8_kindsBy_49 rfl (lv_at hl 5 rfl) ?_
                refine z_get F_ K_ W_ 0 0 0 rfl rfl rfl (C := RX8) (T := TX8) (N := 19) rfl (by decide) hinX8 (List.mem_of_getElem? (i := 1) rfl) dX8_kindsBy_50 ?_
                refine lv_iload F_.1 F_.2.1 dX8_kindsBy_53 (lv_at hl 0 rfl) ?_
                refine z_iconst F_ dX8_kindsBy_55 ?_
                refine z_iadd F_ dX8_kindsBy_56 ?_
                refine z_iald F_ K_ W_ 1 0 rfl rfl (by omega) (by decide) dX8_kindsBy_57 ?_
                have b_20 := bg ((b + (4 * k)) + 2)
                have i_21 : g ((b + (4 * k)) + 2) = shZ g b (4 * k + 2) := by first | rfl | (show g _ = g _; congr 1; omega)
                rw [i_21]
                have b_22 := bg ((b + (4 * k)) + 2)
                rw [i_21] at b_22
                refine z_callSip F_ K_ W_ [.int (zi kd), .int (zi (shZ g b (4 * k + 1))), .int (zi (shZ g b (4 * k + 2)))] (c_X8_needsAs l_ D cy kd (shZ g b (4 * k + 1)) (shZ g b (4 * k + 2)) (by first | omega | assumption) (by first | omega | assumption) (by first | omega | assumption) (by first | omega | assumption) (by first | omega | assumption)) 3 rfl gX8_kindsBy_X8_needsAs rfl (by decide +kernel) ⟨⟨Nat.le_of_ble_eq_true rfl, Nat.le_of_ble_eq_true rfl⟩, rfl, rfl, Nat.zero_le _, Nat.zero_le _⟩ hl.1 rfl (Nat.le_of_ble_eq_true rfl) ([] : List Nat) [0, 1] [wO cy o ab be bl ta tl tk vl, wA cy (o 1) 192 g] 2 (by decide +kernel) rfl rfl rfl dX8_kindsBy_58 (fun z_23 _ H_ lo_ hw_ W_ => ?_)
                have hw_ : (z_23 = needZ kd (shZ g b (4 * k + 1)) (shZ g b (4 * k + 2))) := hw_
                have f58_v := hw_
                have hb58 : -400 ≤ z_23 ∧ z_23 ≤ 400 := by rw [f58_v]; unfold needZ; repeat (first | omega | split)
                refine z_goto (tgt := 87) F_ dX8_kindsBy_61 (by decide) ?_
                exact J87 z_23 (by unfold vlZ; first | (rw [if_pos (by omega)]; assumption) | (rw [if_neg (by omega)]; assumption)) (by first | omega | assumption) ls_ H_ lo_ W_ (lv_sub hl [0, 1, 2, 3, 4, 5, 6, 7, 8, 9] rfl)
        exact L19 ((n - 0 : Int).toNat + 1) 1 0 (by first | omega | assumption) (by rfl) (by first | omega | assumption) (by have := Int.self_le_toNat (n - 0 : Int); omega) ls_ H_ lo_ W_ (lv_sub hl [0, 1, 2, 3, 4, 5, 6, 7, 8] rfl)
  exact L6 ((6 - 0 : Int).toNat + 1) 0 0 (by first | omega | assumption) (by rfl) (by have := Int.self_le_toNat (6 - 0 : Int); omega) ls_ H_ lo_ W_ (lv_sub hl [0, 1, 2, 3, 4, 5, 6] rfl)
abbrev rX8_kindsOfShip : Room := { frames := 2, cells := 0, slots := 0, locals := 54 }
set_option maxHeartbeats 1000000 in
set_option maxRecDepth 100000 in
theorem c_X8_kindsOfShip (l_ : Launch) (D : va_G) (cy : Nat → ClassId) (o : Nat → Nat) (ab : Int) (be : Int) (bl : Int) (ta : Int) (tl : Int) (tk : Int) (vl : Int) (g : Int → Int) (i : Int) (bg : ∀ j : Int, 0 ≤ g j ∧ g j ≤ 99) (ri : -2147483648 ≤ i ∧ i < 2147483648) (hg3 : 0 ≤ g 3 ∧ g 3 ≤ 6) : CTi l_ D cy yX8_kindsOfShip wsX8_kindsOfShip rX8_kindsOfShip [.ref (o 0), .int (zi i)] ([wO cy o ab be bl ta tl tk vl, wA cy (o 1) 192 g]) (fun (z : Int) (u : Unit) => (z = kbZ (shZ g 56) 1 i (g 3) 6)) (fun (_ : Unit) => [wO cy o ab be bl ta tl tk vl, wA cy (o 1) 192 g]) := by
  refine CTi.of RX8 cX8_kindsOfShip 2 rfl (by decide) rfl (fun z u hz => rfl) (Nat.le_of_ble_eq_true rfl) ?_
  intro p_ e_ s_ m_ ar_ be_ me_ c_ Q_ A_ ls_ F_ K_ W_ hl hret
  have hl : lv_has ls_ 2 [(0, .ref (o 0)), (1, .int (zi i))] := hl
  obtain ⟨H_, hH_⟩ : ∃ x, x = s_.heap := ⟨_, rfl⟩
  obtain ⟨lo_, hlo_⟩ : ∃ x : List Loc, x = [] := ⟨_, rfl⟩
  have W_ : WD D A_ s_.heap ([wO cy o ab be bl ta tl tk vl, wA cy (o 1) 192 g]) H_ lo_ := by rw [hH_, hlo_]; exact W_
  rw [← hlo_]
  suffices hg_ : W p_ l_ e_ rX8_kindsOfShip s_ m_ ar_ be_ me_ c_ H_ lo_ 0 0 Q_ (F0 m_ 0 ls_ []) by rw [hH_] at hg_; exact hg_
  clear hH_ hlo_
  have hinX8 : ∀ w ∈ u_ws RX8 TX8 19, w ∈ wsX8_kindsOfShip := fun w h => List.mem_cons_of_mem _ (List.mem_append_right _ h)
  refine lv_aload_n F_.1 F_.2.1 dX8_kindsOfShip_0 rfl (lv_at hl 0 rfl) ?_
  refine lv_iload_n F_.1 F_.2.1 dX8_kindsOfShip_1 rfl (lv_at hl 1 rfl) ?_
  refine z_bipush F_ (by decide) dX8_kindsOfShip_2 ?_
  refine lv_aload_n F_.1 F_.2.1 dX8_kindsOfShip_4 rfl (lv_at hl 0 rfl) ?_
  refine z_get F_ K_ W_ 0 0 0 rfl rfl rfl (C := RX8) (T := TX8) (N := 19) rfl (by decide) hinX8 (List.mem_of_getElem? (i := 1) rfl) dX8_kindsOfShip_5 ?_
  refine z_iconst F_ dX8_kindsOfShip_8 ?_
  refine z_iald F_ K_ W_ 1 0 rfl rfl (by omega) (by decide) dX8_kindsOfShip_9 ?_
  have b_1 := bg 3
  refine z_iconst F_ dX8_kindsOfShip_10 ?_
  refine z_callVip F_ K_ W_ [.int (zi i), .int (zi 56), .int (zi (g 3)), .int (zi 1)] (c_X8_kindsBy l_ D cy o ab be bl ta tl tk vl g i 56 (g 3) 1 bg (by first | omega | assumption) (by first | omega | assumption) (by first | omega | assumption) (by first | omega | assumption) (by first | omega | assumption) (by first | omega | assumption) (by first | omega | assumption)) 4 rfl gX8_kindsOfShip_X8_kindsBy rfl (by decide +kernel) ⟨⟨Nat.le_of_ble_eq_true rfl, Nat.le_of_ble_eq_true rfl⟩, rfl, rfl, Nat.zero_le _, Nat.zero_le _⟩ 0 0 7 rfl rfl rfl rfl hl.1 rfl (Nat.le_of_ble_eq_true rfl) [0, 1] ([] : List Nat) ([] : List va_W) 2 (by decide +kernel) rfl rfl rfl dX8_kindsOfShip_11 (fun z_2 _ H_ lo_ hw_ W_ => ?_)
  have hw_ : (z_2 = kbZ (shZ g 56) 1 i (g 3) 6) := hw_
  have f11_v := hw_
  exact hret _ _ _ _ z_2 () dX8_kindsOfShip_14 (by first | omega | assumption) W_
abbrev rX8_kindsOfMan : Room := { frames := 2, cells := 0, slots := 0, locals := 54 }
set_option maxHeartbeats 1000000 in
set_option maxRecDepth 100000 in
theorem c_X8_kindsOfMan (l_ : Launch) (D : va_G) (cy : Nat → ClassId) (o : Nat → Nat) (ab : Int) (be : Int) (bl : Int) (ta : Int) (tl : Int) (tk : Int) (vl : Int) (g : Int → Int) (i : Int) (bg : ∀ j : Int, 0 ≤ g j ∧ g j ≤ 99) (ri : -2147483648 ≤ i ∧ i < 2147483648) (hg4 : 0 ≤ g 4 ∧ g 4 ≤ 6) : CTi l_ D cy yX8_kindsOfMan wsX8_kindsOfMan rX8_kindsOfMan [.ref (o 0), .int (zi i)] ([wO cy o ab be bl ta tl tk vl, wA cy (o 1) 192 g]) (fun (z : Int) (u : Unit) => (z = kbZ (shZ g 80) 0 i (g 4) 6)) (fun (_ : Unit) => [wO cy o ab be bl ta tl tk vl, wA cy (o 1) 192 g]) := by
  refine CTi.of RX8 cX8_kindsOfMan 2 rfl (by decide) rfl (fun z u hz => rfl) (Nat.le_of_ble_eq_true rfl) ?_
  intro p_ e_ s_ m_ ar_ be_ me_ c_ Q_ A_ ls_ F_ K_ W_ hl hret
  have hl : lv_has ls_ 2 [(0, .ref (o 0)), (1, .int (zi i))] := hl
  obtain ⟨H_, hH_⟩ : ∃ x, x = s_.heap := ⟨_, rfl⟩
  obtain ⟨lo_, hlo_⟩ : ∃ x : List Loc, x = [] := ⟨_, rfl⟩
  have W_ : WD D A_ s_.heap ([wO cy o ab be bl ta tl tk vl, wA cy (o 1) 192 g]) H_ lo_ := by rw [hH_, hlo_]; exact W_
  rw [← hlo_]
  suffices hg_ : W p_ l_ e_ rX8_kindsOfMan s_ m_ ar_ be_ me_ c_ H_ lo_ 0 0 Q_ (F0 m_ 0 ls_ []) by rw [hH_] at hg_; exact hg_
  clear hH_ hlo_
  have hinX8 : ∀ w ∈ u_ws RX8 TX8 19, w ∈ wsX8_kindsOfMan := fun w h => List.mem_cons_of_mem _ (List.mem_append_right _ h)
  refine lv_aload_n F_.1 F_.2.1 dX8_kindsOfMan_0 rfl (lv_at hl 0 rfl) ?_
  refine lv_iload_n F_.1 F_.2.1 dX8_kindsOfMan_1 rfl (lv_at hl 1 rfl) ?_
  refine z_bipush F_ (by decide) dX8_kindsOfMan_2 ?_
  refine lv_aload_n F_.1 F_.2.1 dX8_kindsOfMan_4 rfl (lv_at hl 0 rfl) ?_
  refine z_get F_ K_ W_ 0 0 0 rfl rfl rfl (C := RX8) (T := TX8) (N := 19) rfl (by decide) hinX8 (List.mem_of_getElem? (i := 1) rfl) dX8_kindsOfMan_5 ?_
  refine z_iconst F_ dX8_kindsOfMan_8 ?_
  refine z_iald F_ K_ W_ 1 0 rfl rfl (by omega) (by decide) dX8_kindsOfMan_9 ?_
  have b_1 := bg 4
  refine z_iconst F_ dX8_kindsOfMan_10 ?_
  refine z_callVip F_ K_ W_ [.int (zi i), .int (zi 80), .int (zi (g 4)), .int (zi 0)] (c_X8_kindsBy l_ D cy o ab be bl ta tl tk vl g i 80 (g 4) 0 bg (by first | omega | assumption) (by first | omega | assumption) (by first | omega | assumption) (by first | omega | assumption) (by first | omega | assumption) (by first | omega | assumption) (by first | omega | assumption)) 4 rfl gX8_kindsOfMan_X8_kindsBy rfl (by decide +kernel) ⟨⟨Nat.le_of_ble_eq_true rfl, Nat.le_of_ble_eq_true rfl⟩, rfl, rfl, Nat.zero_le _, Nat.zero_le _⟩ 0 0 7 rfl rfl rfl rfl hl.1 rfl (Nat.le_of_ble_eq_true rfl) [0, 1] ([] : List Nat) ([] : List va_W) 2 (by decide +kernel) rfl rfl rfl dX8_kindsOfMan_11 (fun z_2 _ H_ lo_ hw_ W_ => ?_)
  have hw_ : (z_2 = kbZ (shZ g 80) 0 i (g 4) 6) := hw_
  have f11_v := hw_
  exact hret _ _ _ _ z_2 () dX8_kindsOfMan_14 (by first | omega | assumption) W_
abbrev rX8_has : Room := { frames := 0, cells := 0, slots := 0, locals := 0 }
set_option maxHeartbeats 1000000 in
set_option maxRecDepth 100000 in
theorem c_X8_has (l_ : Launch) (D : va_G) (cy : Nat → ClassId) (x : Int) (k : Int) (rx : -2147483648 ≤ x ∧ x < 2147483648) (rk : -2147483648 ≤ k ∧ k < 2147483648) (hx : 0 ≤ x ∧ x < 1024) (hk : 0 ≤ k ∧ k < 10) : CTi l_ D cy yX8_has wsX8_has rX8_has [.int (zi x), .int (zi k)] (([] : List va_W)) (fun (z : Int) (u : Unit) => ((z = 1 ∧ (zbt x k = 1)) ∨ (z = 0 ∧ ¬ (zbt x k = 1)))) (fun (_ : Unit) => ([] : List va_W)) := by
  refine CTi.of RX8 cX8_has 2 rfl (by decide) rfl (fun z u hz => z_bl hz) (Nat.le_of_ble_eq_true rfl) ?_
  intro p_ e_ s_ m_ ar_ be_ me_ c_ Q_ A_ ls_ F_ K_ W_ hl hret
  have hl : lv_has ls_ 2 [(0, .int (zi x)), (1, .int (zi k))] := hl
  obtain ⟨H_, hH_⟩ : ∃ x, x = s_.heap := ⟨_, rfl⟩
  obtain ⟨lo_, hlo_⟩ : ∃ x : List Loc, x = [] := ⟨_, rfl⟩
  have W_ : WD D A_ s_.heap (([] : List va_W)) H_ lo_ := by rw [hH_, hlo_]; exact W_
  rw [← hlo_]
  suffices hg_ : W p_ l_ e_ rX8_has s_ m_ ar_ be_ me_ c_ H_ lo_ 0 0 Q_ (F0 m_ 0 ls_ []) by rw [hH_] at hg_; exact hg_
  clear hH_ hlo_
  refine lv_iload_n F_.1 F_.2.1 dX8_has_0 rfl (lv_at hl 0 rfl) ?_
  refine lv_iload_n F_.1 F_.2.1 dX8_has_1 rfl (lv_at hl 1 rfl) ?_
  refine z_ishr F_ (by omega) dX8_has_2 ?_
  refine z_iconst F_ dX8_has_3 ?_
  have hsh := zshr_b k hx.1
  refine z_iand F_ (by omega) dX8_has_4 ?_
  have i_1 : zand (x / zpw k) 1 = zbt x k := by exact zand_1 hsh.1
  rw [i_1]
  refine z_iconst F_ dX8_has_5 ?_
  have hzb := zbt_b x k
  refine z_icmp_ne (tgt := 13) F_ (by omega) dX8_has_6 (by decide) (fun c6 => ?_) (fun c6 => ?_)
  · refine z_iconst F_ dX8_has_13 ?_
    exact hret _ _ _ _ 0 () dX8_has_14 (by first | omega | assumption) W_
  · refine z_iconst F_ dX8_has_9 ?_
    refine z_goto (tgt := 14) F_ dX8_has_10 (by decide) ?_
    exact hret _ _ _ _ 1 () dX8_has_14 (by first | omega | assumption) W_
abbrev rX8_mostAlike : Room := { frames := 1, cells := 0, slots := 0, locals := 21 }
set_option maxHeartbeats 1000000 in
set_option maxRecDepth 100000 in
theorem c_X8_mostAlike (l_ : Launch) (D : va_G) (cy : Nat → ClassId) (o : Nat → Nat) (ab : Int) (be : Int) (bl : Int) (ta : Int) (tl : Int) (tk : Int) (vl : Int) (te : Int → Int) (x : Int) (bte : ∀ j : Int, 0 ≤ te j ∧ te j ≤ 300) (rx : -2147483648 ≤ x ∧ x < 2147483648) (hx : 0 ≤ x ∧ x < 64) : CTi l_ D cy yX8_mostAlike wsX8_mostAlike rX8_mostAlike [.ref (o 0), .int (zi x)] ([wO cy o ab be bl ta tl tk vl, wT cy (o 9) 6 te]) (fun (z : Int) (u : Unit) => (z = topZ te x 6)) (fun (_ : Unit) => [wO cy o ab be bl ta tl tk vl, wT cy (o 9) 6 te]) := by
  refine CTi.of RX8 cX8_mostAlike 6 rfl (by decide) rfl (fun z u hz => rfl) (Nat.le_of_ble_eq_true rfl) ?_
  intro p_ e_ s_ m_ ar_ be_ me_ c_ Q_ A_ ls_ F_ K_ W_ hl hret
  have hl : lv_has ls_ 6 [(0, .ref (o 0)), (1, .int (zi x))] := hl
  obtain ⟨H_, hH_⟩ : ∃ x, x = s_.heap := ⟨_, rfl⟩
  obtain ⟨lo_, hlo_⟩ : ∃ x : List Loc, x = [] := ⟨_, rfl⟩
  have W_ : WD D A_ s_.heap ([wO cy o ab be bl ta tl tk vl, wT cy (o 9) 6 te]) H_ lo_ := by rw [hH_, hlo_]; exact W_
  rw [← hlo_]
  suffices hg_ : W p_ l_ e_ rX8_mostAlike s_ m_ ar_ be_ me_ c_ H_ lo_ 0 0 Q_ (F0 m_ 0 ls_ []) by rw [hH_] at hg_; exact hg_
  clear hH_ hlo_
  have hinX8 : ∀ w ∈ u_ws RX8 TX8 19, w ∈ wsX8_mostAlike := fun w h => List.mem_cons_of_mem _ (List.mem_append_right _ h)
  refine z_iconst F_ dX8_mostAlike_0 ?_
  refine lv_istore_n (lv' := [(2, .int (zi 0)), (0, .ref (o 0)), (1, .int (zi x))]) F_.1 F_.2.1 dX8_mostAlike_1 rfl hl (by decide) rfl (fun ls_ hl => ?_)
  refine z_iconst F_ dX8_mostAlike_2 ?_
  refine lv_istore_n (lv' := [(3, .int (zi 0)), (2, .int (zi 0)), (0, .ref (o 0)), (1, .int (zi x))]) F_.1 F_.2.1 dX8_mostAlike_3 rfl hl (by decide) rfl (fun ls_ hl => ?_)
  have L4 : ∀ (n_ : Nat) (y : Int) (a : Int) (ha : 0 ≤ a ∧ a ≤ 6) (hy : y = topZ te x a) (hyb : 0 ≤ y ∧ y ≤ 6) (hm_ : (6 - a : Int) < (n_ : Int)) (ls_ : Array Slot) (H_ : Heap) (lo_ : List Loc), WD D A_ s_.heap ([wO cy o ab be bl ta tl tk vl, wT cy (o 9) 6 te]) H_ lo_ → lv_has ls_ 6 [(3, .int (zi a)), (2, .int (zi y)), (0, .ref (o 0)), (1, .int (zi x))] → W p_ l_ e_ rX8_mostAlike s_ m_ ar_ be_ me_ c_ H_ lo_ 0 0 Q_ (F0 m_ 4 ls_ []) := by
    intro n_
    induction n_ with
    | zero =>
      intro y a ha hy hyb hm_ ls_ H_ lo_ _ _
      exact absurd hm_ (by omega)
    | succ n_ ih_ =>
      intro y a ha hy hyb hm_ ls_ H_ lo_ W_ hl
      have ih4 := ih_
      refine lv_iload_n F_.1 F_.2.1 dX8_mostAlike_4 rfl (lv_at hl 0 rfl) ?_
      refine z_bipush F_ (by decide) dX8_mostAlike_5 ?_
      refine z_icmp_ge (tgt := 91) F_ (by omega) dX8_mostAlike_7 (by decide) (fun c7 => ?_) (fun c7 => ?_)
      · refine lv_iload_n F_.1 F_.2.1 dX8_mostAlike_91 rfl (lv_at hl 1 rfl) ?_
        exact hret _ _ _ _ y () dX8_mostAlike_92 (by rw [hy]; congr 1; omega) W_
      · refine z_iconst F_ dX8_mostAlike_10 ?_
        refine lv_istore (lv' := [(4, .int (zi 0)), (3, .int (zi a)), (2, .int (zi y)), (0, .ref (o 0)), (1, .int (zi x))]) F_.1 F_.2.1 dX8_mostAlike_11 hl (by decide) rfl (fun ls_ hl => ?_)
        refine z_iconst F_ dX8_mostAlike_13 ?_
        refine lv_istore (lv' := [(5, .int (zi 0)), (4, .int (zi 0)), (3, .int (zi a)), (2, .int (zi y)), (0, .ref (o 0)), (1, .int (zi x))]) F_.1 F_.2.1 dX8_mostAlike_14 hl (by decide) rfl (fun ls_ hl => ?_)
        have L16 : ∀ (n_ : Nat) (v : Int) (b : Int) (hb : 0 ≤ b ∧ b ≤ 6) (hv : v = likeZ te x a b) (hvb : 0 ≤ v ∧ v ≤ b) (hva : b = 0 ∨ zbt x a = 1) (hm_ : (6 - b : Int) < (n_ : Int)) (ls_ : Array Slot) (H_ : Heap) (lo_ : List Loc), WD D A_ s_.heap ([wO cy o ab be bl ta tl tk vl, wT cy (o 9) 6 te]) H_ lo_ → lv_has ls_ 6 [(5, .int (zi b)), (4, .int (zi v)), (3, .int (zi a)), (2, .int (zi y)), (0, .ref (o 0)), (1, .int (zi x))] → W p_ l_ e_ rX8_mostAlike s_ m_ ar_ be_ me_ c_ H_ lo_ 0 0 Q_ (F0 m_ 16 ls_ []) := by
          intro n_
          induction n_ with
          | zero =>
            intro v b hb hv hvb hva hm_ ls_ H_ lo_ _ _
            exact absurd hm_ (by omega)
          | succ n_ ih_ =>
            intro v b hb hv hvb hva hm_ ls_ H_ lo_ W_ hl
            have ih16 := ih_
            refine lv_iload F_.1 F_.2.1 dX8_mostAlike_16 (lv_at hl 0 rfl) ?_
            refine z_bipush F_ (by decide) dX8_mostAlike_18 ?_
            have J72 : ∀ (v : Int) (hcn : (zbt x a = 1 ∧ v = likeZ te x a 6) ∨ (¬ zbt x a = 1 ∧ v = 0)) (hvb : 0 ≤ v ∧ v ≤ 6) (ls_ : Array Slot) (H_ : Heap) (lo_ : List Loc), WD D A_ s_.heap ([wO cy o ab be bl ta tl tk vl, wT cy (o 9) 6 te]) H_ lo_ → lv_has ls_ 6 [(5, .int (zi b)), (4, .int (zi v)), (3, .int (zi a)), (2, .int (zi y)), (0, .ref (o 0)), (1, .int (zi x))] → W p_ l_ e_ rX8_mostAlike s_ m_ ar_ be_ me_ c_ H_ lo_ 0 0 Q_ (F0 m_ 72 ls_ []) := by
              intro v hcn hvb ls_ H_ lo_ W_ hl
              refine lv_iload F_.1 F_.2.1 dX8_mostAlike_72 (lv_at hl 1 rfl) ?_
              refine lv_iload_n F_.1 F_.2.1 dX8_mostAlike_74 rfl (lv_at hl 3 rfl) ?_
              refine z_icmp_le (tgt := 83) F_ (by omega) dX8_mostAlike_75 (by decide) (fun c75 => ?_) (fun c75 => ?_)
              · refine lv_iload_n F_.1 F_.2.1 dX8_mostAlike_83 rfl (lv_at hl 3 rfl) ?_
                refine lv_istore_n (lv' := [(2, .int (zi y)), (5, .int (zi b)), (4, .int (zi v)), (3, .int (zi a)), (0, .ref (o 0)), (1, .int (zi x))]) F_.1 F_.2.1 dX8_mostAlike_84 rfl hl (by decide) rfl (fun ls_ hl => ?_)
                refine z_iinc (lv' := [(3, .int (zi (a + 1))), (2, .int (zi y)), (5, .int (zi b)), (4, .int (zi v)), (0, .ref (o 0)), (1, .int (zi x))]) F_ dX8_mostAlike_85 hl (k := 3) rfl (by decide) rfl (fun ls_ hl => ?_)
                refine z_goto (tgt := 4) F_ dX8_mostAlike_88 (by decide) ?_
                exact ih4 y (a + 1) (by first | omega | assumption) (by rw [topZ_s _ _ ha.1, ← hy]; rcases hcn with q | q; (rw [if_pos q.1, ← q.2]; omega); (rw [if_neg q.1]; omega)) (by first | omega | assumption) (by omega) ls_ H_ lo_ W_ (lv_sub hl [0, 1, 4, 5] rfl)
              · refine lv_iload F_.1 F_.2.1 dX8_mostAlike_78 (lv_at hl 1 rfl) ?_
                refine z_goto (tgt := 84) F_ dX8_mostAlike_80 (by decide) ?_
                refine lv_istore_n (lv' := [(2, .int (zi v)), (5, .int (zi b)), (4, .int (zi v)), (3, .int (zi a)), (0, .ref (o 0)), (1, .int (zi x))]) F_.1 F_.2.1 dX8_mostAlike_84 rfl hl (by decide) rfl (fun ls_ hl => ?_)
                refine z_iinc (lv' := [(3, .int (zi (a + 1))), (2, .int (zi v)), (5, .int (zi b)), (4, .int (zi v)), (0, .ref (o 0)), (1, .int (zi x))]) F_ dX8_mostAlike_85 hl (k := 3) rfl (by decide) rfl (fun ls_ hl => ?_)
                refine z_goto (tgt := 4) F_ dX8_mostAlike_88 (by decide) ?_
                exact ih4 v (a + 1) (by first | omega | assumption) (by rw [topZ_s _ _ ha.1, ← hy]; rcases hcn with q | q; (rw [if_pos q.1, ← q.2]; omega); (rw [if_neg q.1]; omega)) (by first | omega | assumption) (by omega) ls_ H_ lo_ W_ (lv_sub hl [0, 1, 4, 5] rfl)
            refine z_icmp_ge (tgt := 72) F_ (by omega) dX8_mostAlike_20 (by decide) (fun c20 => ?_) (fun c20 => ?_)
            · exact J72 v (by first | exact Or.inl ⟨by omega, by rw [hv]; congr 1; omega⟩ | exact Or.inr ⟨by omega, by (have e0 : b = 0 := by omega); rw [hv, e0]; rfl⟩) (by first | omega | assumption) ls_ H_ lo_ W_ (lv_sub hl [0, 1, 2, 3, 4, 5] rfl)
            · refine lv_iload_n F_.1 F_.2.1 dX8_mostAlike_23 rfl (lv_at hl 5 rfl) ?_
              refine lv_iload_n F_.1 F_.2.1 dX8_mostAlike_24 rfl (lv_at hl 2 rfl) ?_
              refine z_callSip F_ K_ W_ [.int (zi x), .int (zi a)] (c_X8_has l_ D cy x a (by first | omega | assumption) (by first | omega | assumption) (by first | omega | assumption) (by first | omega | assumption)) 2 rfl gX8_mostAlike_X8_has rfl (by decide +kernel) ⟨⟨Nat.le_of_ble_eq_true rfl, Nat.le_of_ble_eq_true rfl⟩, rfl, rfl, Nat.zero_le _, Nat.zero_le _⟩ hl.1 rfl (Nat.le_of_ble_eq_true rfl) ([] : List Nat) [0, 1] [wO cy o ab be bl ta tl tk vl, wT cy (o 9) 6 te] 2 (by decide +kernel) rfl rfl rfl dX8_mostAlike_25 (fun z_1 _ H_ lo_ hw_ W_ => ?_)
              have hw_ : ((z_1 = 1 ∧ (zbt x a = 1)) ∨ (z_1 = 0 ∧ ¬ (zbt x a = 1))) := hw_
              have f25_v := hw_
              refine z_if_eq (tgt := 72) F_ (by omega) dX8_mostAlike_28 (by decide) (fun c28 => ?_) (fun c28 => ?_)
              · exact J72 v (by first | exact Or.inl ⟨by omega, by rw [hv]; congr 1; omega⟩ | exact Or.inr ⟨by omega, by (have e0 : b = 0 := by omega); rw [hv, e0]; rfl⟩) (by first | omega | assumption) ls_ H_ lo_ W_ (lv_sub hl [0, 1, 2, 3, 4, 5] rfl)
              · refine lv_iload F_.1 F_.2.1 dX8_mostAlike_31 (lv_at hl 1 rfl) ?_
                refine lv_iload_n F_.1 F_.2.1 dX8_mostAlike_33 rfl (lv_at hl 5 rfl) ?_
                refine lv_iload F_.1 F_.2.1 dX8_mostAlike_34 (lv_at hl 0 rfl) ?_
                refine z_callSip F_ K_ W_ [.int (zi x), .int (zi b)] (c_X8_has l_ D cy x b (by first | omega | assumption) (by first | omega | assumption) (by first | omega | assumption) (by first | omega | assumption)) 2 rfl gX8_mostAlike_X8_has rfl (by decide +kernel) ⟨⟨Nat.le_of_ble_eq_true rfl, Nat.le_of_ble_eq_true rfl⟩, rfl, rfl, Nat.zero_le _, Nat.zero_le _⟩ hl.1 rfl (Nat.le_of_ble_eq_true rfl) ([] : List Nat) [0, 1] [wO cy o ab be bl ta tl tk vl, wT cy (o 9) 6 te] 2 (by decide +kernel) rfl rfl rfl dX8_mostAlike_36 (fun z_2 _ H_ lo_ hw_ W_ => ?_)
                have hw_ : ((z_2 = 1 ∧ (zbt x b = 1)) ∨ (z_2 = 0 ∧ ¬ (zbt x b = 1))) := hw_
                have f36_v := hw_
                have J63 : ∀ (k63 : Int) (g63 : (k63 = 1 ∧ zbt x b = 1 ∧ te a = te b) ∨ (k63 = 0 ∧ ¬ (zbt x b = 1 ∧ te a = te b))) (ls_ : Array Slot) (H_ : Heap) (lo_ : List Loc), WD D A_ s_.heap ([wO cy o ab be bl ta tl tk vl, wT cy (o 9) 6 te]) H_ lo_ → lv_has ls_ 6 [(5, .int (zi b)), (4, .int (zi v)), (3, .int (zi a)), (2, .int (zi y)), (0, .ref (o 0)), (1, .int (zi x))] → W p_ l_ e_ rX8_mostAlike s_ m_ ar_ be_ me_ c_ H_ lo_ 0 0 Q_ (F0 m_ 63 ls_ [.int (zi k63), .int (zi v)]) := by
                  intro k63 g63 ls_ H_ lo_ W_ hl
                  refine z_iadd F_ dX8_mostAlike_63 ?_
                  refine lv_istore (lv' := [(4, .int (zi (v + k63))), (5, .int (zi b)), (3, .int (zi a)), (2, .int (zi y)), (0, .ref (o 0)), (1, .int (zi x))]) F_.1 F_.2.1 dX8_mostAlike_64 hl (by decide) rfl (fun ls_ hl => ?_)
                  refine z_iinc (lv' := [(5, .int (zi (b + 1))), (4, .int (zi (v + k63))), (3, .int (zi a)), (2, .int (zi y)), (0, .ref (o 0)), (1, .int (zi x))]) F_ dX8_mostAlike_66 hl (k := 1) rfl (by decide) rfl (fun ls_ hl => ?_)
                  refine z_goto (tgt := 16) F_ dX8_mostAlike_69 (by decide) ?_
                  exact ih16 (v + k63) (b + 1) (by first | omega | assumption) (by rw [likeZ_s _ _ _ hb.1, ← hv]; split <;> omega) (by first | omega | assumption) (by first | omega | assumption) (by omega) ls_ H_ lo_ W_ (lv_sub hl [0, 1, 2, 3, 4, 5] rfl)
                refine z_if_eq (tgt := 62) F_ (by omega) dX8_mostAlike_39 (by decide) (fun c39 => ?_) (fun c39 => ?_)
                · refine z_iconst F_ dX8_mostAlike_62 ?_
                  exact J63 0 (by first | omega | assumption) ls_ H_ lo_ W_ (lv_sub hl [0, 1, 2, 3, 4, 5] rfl)
                · refine lv_aload_n F_.1 F_.2.1 dX8_mostAlike_42 rfl (lv_at hl 4 rfl) ?_
                  refine z_get F_ K_ W_ 0 0 10 rfl rfl rfl (C := RX8) (T := TX8) (N := 19) rfl (by decide) hinX8 (List.mem_of_getElem? (i := 1) rfl) dX8_mostAlike_43 ?_
                  refine lv_iload_n F_.1 F_.2.1 dX8_mostAlike_46 rfl (lv_at hl 2 rfl) ?_
                  refine z_iald F_ K_ W_ 1 0 rfl rfl (by omega) (by decide) dX8_mostAlike_47 ?_
                  have b_3 := bte a
                  refine lv_aload_n F_.1 F_.2.1 dX8_mostAlike_48 rfl (lv_at hl 4 rfl) ?_
                  refine z_get F_ K_ W_ 0 0 10 rfl rfl rfl (C := RX8) (T := TX8) (N := 19) rfl (by decide) hinX8 (List.mem_of_getElem? (i := 1) rfl) dX8_mostAlike_49 ?_
                  refine lv_iload F_.1 F_.2.1 dX8_mostAlike_52 (lv_at hl 0 rfl) ?_
                  refine z_iald F_ K_ W_ 1 0 rfl rfl (by omega) (by decide) dX8_mostAlike_54 ?_
                  have b_4 := bte b
                  refine z_icmp_ne (tgt := 62) F_ (by omega) dX8_mostAlike_55 (by decide) (fun c55 => ?_) (fun c55 => ?_)
                  · refine z_iconst F_ dX8_mostAlike_62 ?_
                    exact J63 0 (by first | omega | assumption) ls_ H_ lo_ W_ (lv_sub hl [0, 1, 2, 3, 4, 5] rfl)
                  · refine z_iconst F_ dX8_mostAlike_58 ?_
                    refine z_goto (tgt := 63) F_ dX8_mostAlike_59 (by decide) ?_
                    exact J63 1 (by first | omega | assumption) ls_ H_ lo_ W_ (lv_sub hl [0, 1, 2, 3, 4, 5] rfl)
        exact L16 ((6 - 0 : Int).toNat + 1) 0 0 (by first | omega | assumption) (by rfl) (by first | omega | assumption) (by first | omega | assumption) (by have := Int.self_le_toNat (6 - 0 : Int); omega) ls_ H_ lo_ W_ (lv_sub hl [0, 1, 2, 3, 4, 5] rfl)
  exact L4 ((6 - 0 : Int).toNat + 1) 0 0 (by first | omega | assumption) (by rfl) (by first | omega | assumption) (by have := Int.self_le_toNat (6 - 0 : Int); omega) ls_ H_ lo_ W_ (lv_sub hl [0, 1, 2, 3] rfl)
abbrev rX8_is : Room := { frames := 3, cells := 0, slots := 0, locals := 75 }
set_option maxHeartbeats 1000000 in
set_option maxRecDepth 100000 in
theorem c_X8_is (l_ : Launch) (D : va_G) (cy : Nat → ClassId) (o : Nat → Nat) (ab : Int) (be : Int) (bl : Int) (ta : Int) (tl : Int) (tk : Int) (vl : Int) (g : Int → Int) (rf : Int → Int) (h : Int) (bg : ∀ j : Int, 0 ≤ g j ∧ g j ≤ 99) (rh : -2147483648 ≤ h ∧ h < 2147483648) (hg1 : 0 ≤ g 1 ∧ g 1 ≤ 3) (hg3 : 0 ≤ g 3 ∧ g 3 ≤ 6) : CTi l_ D cy yX8_is wsX8_is rX8_is [.ref (o 0), .int (zi h)] ([wO cy o ab be bl ta tl tk vl, wA cy (o 1) 192 g, wR cy (o 4) 3 rf]) (fun (z : Int) (u : (Int → Int)) => ((((0 ≤ h ∧ h < g 1)) ∧ z = kbZ (shZ g 56) 1 h (g 3) 6 ∧ u = rf) ∨ (¬ ((0 ≤ h ∧ h < g 1)) ∧ z = -2 ∧ u = rfZ rf 0))) (fun (u : (Int → Int)) => [wO cy o ab be bl ta tl tk vl, wA cy (o 1) 192 g, wR cy (o 4) 3 u]) := by
  refine CTi.of RX8 cX8_is 2 rfl (by decide) rfl (fun z u hz => rfl) (Nat.le_of_ble_eq_true rfl) ?_
  intro p_ e_ s_ m_ ar_ be_ me_ c_ Q_ A_ ls_ F_ K_ W_ hl hret
  have hl : lv_has ls_ 2 [(0, .ref (o 0)), (1, .int (zi h))] := hl
  obtain ⟨H_, hH_⟩ : ∃ x, x = s_.heap := ⟨_, rfl⟩
  obtain ⟨lo_, hlo_⟩ : ∃ x : List Loc, x = [] := ⟨_, rfl⟩
  have W_ : WD D A_ s_.heap ([wO cy o ab be bl ta tl tk vl, wA cy (o 1) 192 g, wR cy (o 4) 3 rf]) H_ lo_ := by rw [hH_, hlo_]; exact W_
  rw [← hlo_]
  suffices hg_ : W p_ l_ e_ rX8_is s_ m_ ar_ be_ me_ c_ H_ lo_ 0 0 Q_ (F0 m_ 0 ls_ []) by rw [hH_] at hg_; exact hg_
  clear hH_ hlo_
  refine lv_aload_n F_.1 F_.2.1 dX8_is_0 rfl (lv_at hl 0 rfl) ?_
  refine lv_iload_n F_.1 F_.2.1 dX8_is_1 rfl (lv_at hl 1 rfl) ?_
  refine z_callVip F_ K_ W_ [.int (zi h)] (c_X8_isShip l_ D cy o ab be bl ta tl tk vl g h bg (by first | omega | assumption) (by first | omega | assumption)) 1 rfl gX8_is_X8_isShip rfl (by decide +kernel) ⟨⟨Nat.le_of_ble_eq_true rfl, Nat.le_of_ble_eq_true rfl⟩, rfl, rfl, Nat.zero_le _, Nat.zero_le _⟩ 0 0 7 rfl rfl rfl rfl hl.1 rfl (Nat.le_of_ble_eq_true rfl) [0, 1] [2] [wR cy (o 4) 3 rf] 3 (by decide +kernel) rfl rfl rfl dX8_is_2 (fun z_1 _ H_ lo_ hw_ W_ => ?_)
  have hw_ : ((z_1 = 1 ∧ (0 ≤ h ∧ h < g 1)) ∨ (z_1 = 0 ∧ ¬ (0 ≤ h ∧ h < g 1))) := hw_
  have f2_v := hw_
  refine z_if_eq (tgt := 16) F_ (by omega) dX8_is_5 (by decide) (fun c5 => ?_) (fun c5 => ?_)
  · refine lv_aload_n F_.1 F_.2.1 dX8_is_16 rfl (lv_at hl 0 rfl) ?_
    refine z_bipush F_ (by decide) dX8_is_17 ?_
    refine z_callVi F_ K_ W_ [.int (zi (-2))] (c_X8_bad l_ D cy o ab be bl ta tl tk vl rf (-2) (by first | omega | assumption)) 1 rfl gX8_is_X8_bad rfl (by decide +kernel) ⟨⟨Nat.le_of_ble_eq_true rfl, Nat.le_of_ble_eq_true rfl⟩, rfl, rfl, Nat.zero_le _, Nat.zero_le _⟩ 0 0 7 rfl rfl rfl rfl hl.1 rfl (Nat.le_of_ble_eq_true rfl) [0, 2] [1] [wA cy (o 1) 192 g] (fun (u_ : (Int → Int)) => [wO cy o ab be bl ta tl tk vl, wA cy (o 1) 192 g, wR cy (o 4) 3 u_]) 3 (by decide +kernel) rfl rfl rfl (fun _ => rfl) (fun _ => rfl) (fun _ => rfl) dX8_is_19 (fun z_2 u_ H_ lo_ hw_ W_ => ?_)
    obtain ⟨rf2_3, rfl⟩ : ∃ x, x = u_ := ⟨_, rfl⟩
    have W_ : WD D A_ s_.heap ([wO cy o ab be bl ta tl tk vl, wA cy (o 1) 192 g, wR cy (o 4) 3 rf2_3]) H_ lo_ := W_
    have hw_ : (z_2 = (-2)) ∧ (rf2_3 = rfZ rf 0) := hw_
    obtain ⟨f19_v, f19_r⟩ := hw_
    exact hret _ _ _ _ z_2 rf2_3 dX8_is_22 (by first | exact Or.inl ⟨by omega, by assumption, rfl⟩ | exact Or.inr ⟨by omega, by omega, by assumption⟩) W_
  · refine lv_aload_n F_.1 F_.2.1 dX8_is_8 rfl (lv_at hl 0 rfl) ?_
    refine lv_iload_n F_.1 F_.2.1 dX8_is_9 rfl (lv_at hl 1 rfl) ?_
    refine z_callVip F_ K_ W_ [.int (zi h)] (c_X8_kindsOfShip l_ D cy o ab be bl ta tl tk vl g h bg (by first | omega | assumption) (by first | omega | assumption)) 1 rfl gX8_is_X8_kindsOfShip rfl (by decide +kernel) ⟨⟨Nat.le_of_ble_eq_true rfl, Nat.le_of_ble_eq_true rfl⟩, rfl, rfl, Nat.zero_le _, Nat.zero_le _⟩ 0 0 7 rfl rfl rfl rfl hl.1 rfl (Nat.le_of_ble_eq_true rfl) [0, 1] [2] [wR cy (o 4) 3 rf] 3 (by decide +kernel) rfl rfl rfl dX8_is_10 (fun z_4 _ H_ lo_ hw_ W_ => ?_)
    have hw_ : (z_4 = kbZ (shZ g 56) 1 h (g 3) 6) := hw_
    have f10_v := hw_
    refine z_goto (tgt := 22) F_ dX8_is_13 (by decide) ?_
    exact hret _ _ _ _ z_4 rf dX8_is_22 (by first | exact Or.inl ⟨by omega, by assumption, rfl⟩ | exact Or.inr ⟨by omega, by omega, by assumption⟩) W_
abbrev rX8_kinds : Room := { frames := 3, cells := 0, slots := 0, locals := 75 }
set_option maxHeartbeats 1000000 in
set_option maxRecDepth 100000 in
theorem c_X8_kinds (l_ : Launch) (D : va_G) (cy : Nat → ClassId) (o : Nat → Nat) (ab : Int) (be : Int) (bl : Int) (ta : Int) (tl : Int) (tk : Int) (vl : Int) (g : Int → Int) (rf : Int → Int) (i : Int) (bg : ∀ j : Int, 0 ≤ g j ∧ g j ≤ 99) (ri : -2147483648 ≤ i ∧ i < 2147483648) (hg0 : 0 ≤ g 0 ∧ g 0 ≤ 8) (hg4 : 0 ≤ g 4 ∧ g 4 ≤ 6) : CTi l_ D cy yX8_kinds wsX8_kinds rX8_kinds [.ref (o 0), .int (zi i)] ([wO cy o ab be bl ta tl tk vl, wA cy (o 1) 192 g, wR cy (o 4) 3 rf]) (fun (z : Int) (u : (Int → Int)) => ((((0 ≤ i ∧ i < g 0)) ∧ z = kbZ (shZ g 80) 0 i (g 4) 6 ∧ u = rf) ∨ (¬ ((0 ≤ i ∧ i < g 0)) ∧ z = -2 ∧ u = rfZ rf 0))) (fun (u : (Int → Int)) => [wO cy o ab be bl ta tl tk vl, wA cy (o 1) 192 g, wR cy (o 4) 3 u]) := by
  refine CTi.of RX8 cX8_kinds 2 rfl (by decide) rfl (fun z u hz => rfl) (Nat.le_of_ble_eq_true rfl) ?_
  intro p_ e_ s_ m_ ar_ be_ me_ c_ Q_ A_ ls_ F_ K_ W_ hl hret
  have hl : lv_has ls_ 2 [(0, .ref (o 0)), (1, .int (zi i))] := hl
  obtain ⟨H_, hH_⟩ : ∃ x, x = s_.heap := ⟨_, rfl⟩
  obtain ⟨lo_, hlo_⟩ : ∃ x : List Loc, x = [] := ⟨_, rfl⟩
  have W_ : WD D A_ s_.heap ([wO cy o ab be bl ta tl tk vl, wA cy (o 1) 192 g, wR cy (o 4) 3 rf]) H_ lo_ := by rw [hH_, hlo_]; exact W_
  rw [← hlo_]
  suffices hg_ : W p_ l_ e_ rX8_kinds s_ m_ ar_ be_ me_ c_ H_ lo_ 0 0 Q_ (F0 m_ 0 ls_ []) by rw [hH_] at hg_; exact hg_
  clear hH_ hlo_
  refine lv_aload_n F_.1 F_.2.1 dX8_kinds_0 rfl (lv_at hl 0 rfl) ?_
  refine lv_iload_n F_.1 F_.2.1 dX8_kinds_1 rfl (lv_at hl 1 rfl) ?_
  refine z_callVip F_ K_ W_ [.int (zi i)] (c_X8_isMan l_ D cy o ab be bl ta tl tk vl g i bg (by first | omega | assumption) (by first | omega | assumption)) 1 rfl gX8_kinds_X8_isMan rfl (by decide +kernel) ⟨⟨Nat.le_of_ble_eq_true rfl, Nat.le_of_ble_eq_true rfl⟩, rfl, rfl, Nat.zero_le _, Nat.zero_le _⟩ 0 0 7 rfl rfl rfl rfl hl.1 rfl (Nat.le_of_ble_eq_true rfl) [0, 1] [2] [wR cy (o 4) 3 rf] 3 (by decide +kernel) rfl rfl rfl dX8_kinds_2 (fun z_1 _ H_ lo_ hw_ W_ => ?_)
  have hw_ : ((z_1 = 1 ∧ (0 ≤ i ∧ i < g 0)) ∨ (z_1 = 0 ∧ ¬ (0 ≤ i ∧ i < g 0))) := hw_
  have f2_v := hw_
  refine z_if_eq (tgt := 16) F_ (by omega) dX8_kinds_5 (by decide) (fun c5 => ?_) (fun c5 => ?_)
  · refine lv_aload_n F_.1 F_.2.1 dX8_kinds_16 rfl (lv_at hl 0 rfl) ?_
    refine z_bipush F_ (by decide) dX8_kinds_17 ?_
    refine z_callVi F_ K_ W_ [.int (zi (-2))] (c_X8_bad l_ D cy o ab be bl ta tl tk vl rf (-2) (by first | omega | assumption)) 1 rfl gX8_kinds_X8_bad rfl (by decide +kernel) ⟨⟨Nat.le_of_ble_eq_true rfl, Nat.le_of_ble_eq_true rfl⟩, rfl, rfl, Nat.zero_le _, Nat.zero_le _⟩ 0 0 7 rfl rfl rfl rfl hl.1 rfl (Nat.le_of_ble_eq_true rfl) [0, 2] [1] [wA cy (o 1) 192 g] (fun (u_ : (Int → Int)) => [wO cy o ab be bl ta tl tk vl, wA cy (o 1) 192 g, wR cy (o 4) 3 u_]) 3 (by decide +kernel) rfl rfl rfl (fun _ => rfl) (fun _ => rfl) (fun _ => rfl) dX8_kinds_19 (fun z_2 u_ H_ lo_ hw_ W_ => ?_)
    obtain ⟨rf2_3, rfl⟩ : ∃ x, x = u_ := ⟨_, rfl⟩
    have W_ : WD D A_ s_.heap ([wO cy o ab be bl ta tl tk vl, wA cy (o 1) 192 g, wR cy (o 4) 3 rf2_3]) H_ lo_ := W_
    have hw_ : (z_2 = (-2)) ∧ (rf2_3 = rfZ rf 0) := hw_
    obtain ⟨f19_v, f19_r⟩ := hw_
    exact hret _ _ _ _ z_2 rf2_3 dX8_kinds_22 (by first | exact Or.inl ⟨by omega, by assumption, rfl⟩ | exact Or.inr ⟨by omega, by omega, by assumption⟩) W_
  · refine lv_aload_n F_.1 F_.2.1 dX8_kinds_8 rfl (lv_at hl 0 rfl) ?_
    refine lv_iload_n F_.1 F_.2.1 dX8_kinds_9 rfl (lv_at hl 1 rfl) ?_
    refine z_callVip F_ K_ W_ [.int (zi i)] (c_X8_kindsOfMan l_ D cy o ab be bl ta tl tk vl g i bg (by first | omega | assumption) (by first | omega | assumption)) 1 rfl gX8_kinds_X8_kindsOfMan rfl (by decide +kernel) ⟨⟨Nat.le_of_ble_eq_true rfl, Nat.le_of_ble_eq_true rfl⟩, rfl, rfl, Nat.zero_le _, Nat.zero_le _⟩ 0 0 7 rfl rfl rfl rfl hl.1 rfl (Nat.le_of_ble_eq_true rfl) [0, 1] [2] [wR cy (o 4) 3 rf] 3 (by decide +kernel) rfl rfl rfl dX8_kinds_10 (fun z_4 _ H_ lo_ hw_ W_ => ?_)
    have hw_ : (z_4 = kbZ (shZ g 80) 0 i (g 4) 6) := hw_
    have f10_v := hw_
    refine z_goto (tgt := 22) F_ dX8_kinds_13 (by decide) ?_
    exact hret _ _ _ _ z_4 rf dX8_kinds_22 (by first | exact Or.inl ⟨by omega, by assumption, rfl⟩ | exact Or.inr ⟨by omega, by omega, by assumption⟩) W_
abbrev rX8_look : Room := { frames := 3, cells := 0, slots := 0, locals := 75 }
set_option maxHeartbeats 1000000 in
set_option maxRecDepth 100000 in
theorem c_X8_look (l_ : Launch) (D : va_G) (cy : Nat → ClassId) (o : Nat → Nat) (ab : Int) (be : Int) (bl : Int) (ta : Int) (tl : Int) (tk : Int) (vl : Int) (g : Int → Int) (rf : Int → Int) (te : Int → Int) (h : Int) (bg : ∀ j : Int, 0 ≤ g j ∧ g j ≤ 99) (bte : ∀ j : Int, 0 ≤ te j ∧ te j ≤ 300) (rh : -2147483648 ≤ h ∧ h < 2147483648) (hg1 : 0 ≤ g 1 ∧ g 1 ≤ 3) (hg3 : 0 ≤ g 3 ∧ g 3 ≤ 6) : CTi l_ D cy yX8_look wsX8_look rX8_look [.ref (o 0), .int (zi h)] ([wO cy o ab be bl ta tl tk vl, wA cy (o 1) 192 g, wR cy (o 4) 3 rf, wT cy (o 9) 6 te]) (fun (z : Int) (u : (Int → Int) × (Int → Int)) => ((((0 ≤ h ∧ h < g 1)) ∧ z = (if 0 < (kbZ (shZ g 56) 1 h (g 3) 6) then (bstY (lookK (kbZ (shZ g 56) 1 h (g 3) 6)) lookE 1000000 (270)).1 else -1) ∧ u.1 = rf) ∨ (¬ ((0 ≤ h ∧ h < g 1)) ∧ z = -2 ∧ u.1 = rfZ rf 0)) ∧ (∀ j : Int, 0 ≤ u.2 j ∧ u.2 j ≤ 300)) (fun (u : (Int → Int) × (Int → Int)) => [wO cy o ab be bl ta tl tk vl, wA cy (o 1) 192 g, wR cy (o 4) 3 u.1, wT cy (o 9) 6 u.2]) := by
  refine CTi.of RX8 cX8_look 8 rfl (by decide) rfl (fun z u hz => rfl) (Nat.le_of_ble_eq_true rfl) ?_
  intro p_ e_ s_ m_ ar_ be_ me_ c_ Q_ A_ ls_ F_ K_ W_ hl hret
  have hl : lv_has ls_ 8 [(0, .ref (o 0)), (1, .int (zi h))] := hl
  obtain ⟨H_, hH_⟩ : ∃ x, x = s_.heap := ⟨_, rfl⟩
  obtain ⟨lo_, hlo_⟩ : ∃ x : List Loc, x = [] := ⟨_, rfl⟩
  have W_ : WD D A_ s_.heap ([wO cy o ab be bl ta tl tk vl, wA cy (o 1) 192 g, wR cy (o 4) 3 rf, wT cy (o 9) 6 te]) H_ lo_ := by rw [hH_, hlo_]; exact W_
  rw [← hlo_]
  suffices hg_ : W p_ l_ e_ rX8_look s_ m_ ar_ be_ me_ c_ H_ lo_ 0 0 Q_ (F0 m_ 0 ls_ []) by rw [hH_] at hg_; exact hg_
  clear hH_ hlo_
  have hinX8 : ∀ w ∈ u_ws RX8 TX8 19, w ∈ wsX8_look := fun w h => List.mem_cons_of_mem _ (List.mem_append_right _ h)
  refine lv_aload_n F_.1 F_.2.1 dX8_look_0 rfl (lv_at hl 0 rfl) ?_
  refine lv_iload_n F_.1 F_.2.1 dX8_look_1 rfl (lv_at hl 1 rfl) ?_
  refine z_callVip F_ K_ W_ [.int (zi h)] (c_X8_isShip l_ D cy o ab be bl ta tl tk vl g h bg (by first | omega | assumption) (by first | omega | assumption)) 1 rfl gX8_look_X8_isShip rfl (by decide +kernel) ⟨⟨Nat.le_of_ble_eq_true rfl, Nat.le_of_ble_eq_true rfl⟩, rfl, rfl, Nat.zero_le _, Nat.zero_le _⟩ 0 0 7 rfl rfl rfl rfl hl.1 rfl (Nat.le_of_ble_eq_true rfl) [0, 1] [2, 3] [wR cy (o 4) 3 rf, wT cy (o 9) 6 te] 4 (by decide +kernel) rfl rfl rfl dX8_look_2 (fun z_1 _ H_ lo_ hw_ W_ => ?_)
  have hw_ : ((z_1 = 1 ∧ (0 ≤ h ∧ h < g 1)) ∨ (z_1 = 0 ∧ ¬ (0 ≤ h ∧ h < g 1))) := hw_
  have f2_v := hw_
  refine z_if_ne (tgt := 15) F_ (by omega) dX8_look_5 (by decide) (fun c5 => ?_) (fun c5 => ?_)
  · refine lv_aload_n F_.1 F_.2.1 dX8_look_15 rfl (lv_at hl 0 rfl) ?_
    refine lv_iload_n F_.1 F_.2.1 dX8_look_16 rfl (lv_at hl 1 rfl) ?_
    refine z_callVip F_ K_ W_ [.int (zi h)] (c_X8_kindsOfShip l_ D cy o ab be bl ta tl tk vl g h bg (by first | omega | assumption) (by first | omega | assumption)) 1 rfl gX8_look_X8_kindsOfShip rfl (by decide +kernel) ⟨⟨Nat.le_of_ble_eq_true rfl, Nat.le_of_ble_eq_true rfl⟩, rfl, rfl, Nat.zero_le _, Nat.zero_le _⟩ 0 0 7 rfl rfl rfl rfl hl.1 rfl (Nat.le_of_ble_eq_true rfl) [0, 1] [2, 3] [wR cy (o 4) 3 rf, wT cy (o 9) 6 te] 4 (by decide +kernel) rfl rfl rfl dX8_look_17 (fun z_2 _ H_ lo_ hw_ W_ => ?_)
    have hw_ : (z_2 = kbZ (shZ g 56) 1 h (g 3) 6) := hw_
    have f17_v := hw_
    have hxb := kbZ_b (shZ g 56) 1 h (g 3) (m := 6) (by omega)
    have hp6 : zpw 6 = 64 := rfl
    obtain ⟨x, hxe⟩ : ∃ x_ : Int, x_ = kbZ (shZ g 56) 1 h (g 3) 6 := ⟨_, rfl⟩
    have hzx : z_2 = x := by omega
    refine lv_istore_n (lv' := [(2, .int (zi z_2)), (0, .ref (o 0)), (1, .int (zi h))]) F_.1 F_.2.1 dX8_look_20 rfl hl (by decide) rfl (fun ls_ hl => ?_)
    refine z_iconst F_ dX8_look_21 ?_
    refine lv_istore_n (lv' := [(3, .int (zi (-1))), (2, .int (zi z_2)), (0, .ref (o 0)), (1, .int (zi h))]) F_.1 F_.2.1 dX8_look_22 rfl hl (by decide) rfl (fun ls_ hl => ?_)
    refine z_ldc (z := 1000000) F_ (F_.2.2.2.2 _ (List.mem_of_getElem? (i := 1) rfl)) rfl dX8_look_23 ?_
    refine lv_istore (lv' := [(4, .int (zi 1000000)), (3, .int (zi (-1))), (2, .int (zi z_2)), (0, .ref (o 0)), (1, .int (zi h))]) F_.1 F_.2.1 dX8_look_25 hl (by decide) rfl (fun ls_ hl => ?_)
    refine z_iconst F_ dX8_look_27 ?_
    refine lv_istore (lv' := [(5, .int (zi 1)), (4, .int (zi 1000000)), (3, .int (zi (-1))), (2, .int (zi z_2)), (0, .ref (o 0)), (1, .int (zi h))]) F_.1 F_.2.1 dX8_look_28 hl (by decide) rfl (fun ls_ hl => ?_)
    have L30 : ∀ (n_ : Nat) (y : Int) (v : Int) (d : Int) (t1 : Int → Int) (bt1 : ∀ j : Int, 0 ≤ t1 j ∧ t1 j ≤ 300) (hd : 1 ≤ d ∧ d ≤ 31) (hy : y = (bstY (lookK (kbZ (shZ g 56) 1 h (g 3) 6)) lookE 1000000 (9 * (d - 1))).1) (hv : v = (bstY (lookK (kbZ (shZ g 56) 1 h (g 3) 6)) lookE 1000000 (9 * (d - 1))).2) (hb : -1 ≤ y ∧ y ≤ 400 ∧ 0 ≤ v ∧ v ≤ 1000000) (hd0 : d = 1 ∨ 0 < x) (hm_ : (31 - d : Int) < (n_ : Int)) (ls_ : Array Slot) (H_ : Heap) (lo_ : List Loc), WD D A_ s_.heap ([wO cy o ab be bl ta tl tk vl, wA cy (o 1) 192 g, wR cy (o 4) 3 rf, wT cy (o 9) 6 t1]) H_ lo_ → lv_has ls_ 8 [(5, .int (zi d)), (4, .int (zi v)), (3, .int (zi y)), (2, .int (zi z_2)), (0, .ref (o 0)), (1, .int (zi h))] → W p_ l_ e_ rX8_look s_ m_ ar_ be_ me_ c_ H_ lo_ 0 0 Q_ (F0 m_ 30 ls_ []) := by
      intro n_
      induction n_ with
      | zero =>
        intro y v d t1 bt1 hd hy hv hb hd0 hm_ ls_ H_ lo_ _ _
        exact absurd hm_ (by omega)
      | succ n_ ih_ =>
        intro y v d t1 bt1 hd hy hv hb hd0 hm_ ls_ H_ lo_ W_ hl
        have ih30 := ih_
        refine lv_iload F_.1 F_.2.1 dX8_look_30 (lv_at hl 0 rfl) ?_
        refine z_bipush F_ (by decide) dX8_look_32 ?_
        refine z_icmp_gt (tgt := 138) F_ (by omega) dX8_look_34 (by decide) (fun c34 => ?_) (fun c34 => ?_)
        · refine lv_iload_n F_.1 F_.2.1 dX8_look_138 rfl (lv_at hl 2 rfl) ?_
          exact hret _ _ _ _ y (rf, t1) dX8_look_139 ⟨(by exact Or.inl ⟨by omega, by rw [← hxe]; first | (rw [if_pos (by omega), hy, hxe, show 9 * (d - 1) = 270 by omega]; done) | (rw [if_neg (by omega), hy, show 9 * (d - 1) = 0 by omega]; rfl), rfl⟩), bt1⟩ W_
        · refine lv_iload_n F_.1 F_.2.1 dX8_look_37 rfl (lv_at hl 3 rfl) ?_
          refine z_if_le (tgt := 138) F_ (by omega) dX8_look_38 (by decide) (fun c38 => ?_) (fun c38 => ?_)
          · refine lv_iload_n F_.1 F_.2.1 dX8_look_138 rfl (lv_at hl 2 rfl) ?_
            exact hret _ _ _ _ y (rf, t1) dX8_look_139 ⟨(by exact Or.inl ⟨by omega, by rw [← hxe]; first | (rw [if_pos (by omega), hy, hxe, show 9 * (d - 1) = 270 by omega]; done) | (rw [if_neg (by omega), hy, show 9 * (d - 1) = 0 by omega]; rfl), rfl⟩), bt1⟩ W_
          · refine z_iconst F_ dX8_look_41 ?_
            refine lv_istore (lv' := [(6, .int (zi 0)), (5, .int (zi d)), (4, .int (zi v)), (3, .int (zi y)), (2, .int (zi z_2)), (0, .ref (o 0)), (1, .int (zi h))]) F_.1 F_.2.1 dX8_look_42 hl (by decide) rfl (fun ls_ hl => ?_)
            have L44 : ∀ (n_ : Nat) (y2 : Int) (v2 : Int) (k : Int) (t2 : Int → Int) (bt2 : ∀ j : Int, 0 ≤ t2 j ∧ t2 j ≤ 300) (hk : 0 ≤ k ∧ k ≤ 9) (hy2 : y2 = (bstY (lookK (kbZ (shZ g 56) 1 h (g 3) 6)) lookE 1000000 (9 * (d - 1) + k)).1) (hv2 : v2 = (bstY (lookK (kbZ (shZ g 56) 1 h (g 3) 6)) lookE 1000000 (9 * (d - 1) + k)).2) (hb2 : -1 ≤ y2 ∧ y2 ≤ 400 ∧ 0 ≤ v2 ∧ v2 ≤ 1000000) (hm_ : (9 - k : Int) < (n_ : Int)) (ls_ : Array Slot) (H_ : Heap) (lo_ : List Loc), WD D A_ s_.heap ([wO cy o ab be bl ta tl tk vl, wA cy (o 1) 192 g, wR cy (o 4) 3 rf, wT cy (o 9) 6 t2]) H_ lo_ → lv_has ls_ 8 [(6, .int (zi k)), (5, .int (zi d)), (4, .int (zi v2)), (3, .int (zi y2)), (2, .int (zi z_2)), (0, .ref (o 0)), (1, .int (zi h))] → W p_ l_ e_ rX8_look s_ m_ ar_ be_ me_ c_ H_ lo_ 0 0 Q_ (F0 m_ 44 ls_ []) := by
              intro n_
              induction n_ with
              | zero =>
                intro y2 v2 k t2 bt2 hk hy2 hv2 hb2 hm_ ls_ H_ lo_ _ _
                exact absurd hm_ (by omega)
              | succ n_ ih_ =>
                intro y2 v2 k t2 bt2 hk hy2 hv2 hb2 hm_ ls_ H_ lo_ W_ hl
                have ih44 := ih_
                refine lv_iload F_.1 F_.2.1 dX8_look_44 (lv_at hl 0 rfl) ?_
                refine z_bipush F_ (by decide) dX8_look_46 ?_
                refine z_icmp_ge (tgt := 132) F_ (by omega) dX8_look_48 (by decide) (fun c48 => ?_) (fun c48 => ?_)
                · refine z_iinc (lv' := [(5, .int (zi (d + 1))), (6, .int (zi k)), (4, .int (zi v2)), (3, .int (zi y2)), (2, .int (zi z_2)), (0, .ref (o 0)), (1, .int (zi h))]) F_ dX8_look_132 hl (k := 1) rfl (by decide) rfl (fun ls_ hl => ?_)
                  refine z_goto (tgt := 30) F_ dX8_look_135 (by decide) ?_
                  exact ih30 y2 v2 (d + 1) t2 bt2 (by first | omega | assumption) (by rw [show 9 * (d + 1 - 1) = 9 * (d - 1) + k by omega]; exact hy2) (by rw [show 9 * (d + 1 - 1) = 9 * (d - 1) + k by omega]; exact hv2) (by first | omega | assumption) (by first | omega | assumption) (by omega) ls_ H_ lo_ W_ (lv_sub hl [0, 2, 3, 4, 5, 6] rfl)
                · refine z_iconst F_ dX8_look_51 ?_
                  refine lv_istore (lv' := [(7, .int (zi 0)), (6, .int (zi k)), (5, .int (zi d)), (4, .int (zi v2)), (3, .int (zi y2)), (2, .int (zi z_2)), (0, .ref (o 0)), (1, .int (zi h))]) F_.1 F_.2.1 dX8_look_52 hl (by decide) rfl (fun ls_ hl => ?_)
                  have L54 : ∀ (n_ : Nat) (kd : Int) (t3 : Int → Int) (bt3 : ∀ j : Int, 0 ≤ t3 j ∧ t3 j ≤ 300) (hkd : 0 ≤ kd ∧ kd ≤ 6) (ht : ∀ j, 0 ≤ j → j < kd → t3 j = needZ j d k) (hm_ : (6 - kd : Int) < (n_ : Int)) (ls_ : Array Slot) (H_ : Heap) (lo_ : List Loc), WD D A_ s_.heap ([wO cy o ab be bl ta tl tk vl, wA cy (o 1) 192 g, wR cy (o 4) 3 rf, wT cy (o 9) 6 t3]) H_ lo_ → lv_has ls_ 8 [(7, .int (zi kd)), (6, .int (zi k)), (5, .int (zi d)), (4, .int (zi v2)), (3, .int (zi y2)), (2, .int (zi z_2)), (0, .ref (o 0)), (1, .int (zi h))] → W p_ l_ e_ rX8_look s_ m_ ar_ be_ me_ c_ H_ lo_ 0 0 Q_ (F0 m_ 54 ls_ []) := by
                    intro n_
                    induction n_ with
                    | zero =>
                      intro kd t3 bt3 hkd ht hm_ ls_ H_ lo_ _ _
                      exact absurd hm_ (by omega)
                    | succ n_ ih_ =>
                      intro kd t3 bt3 hkd ht hm_ ls_ H_ lo_ W_ hl
                      have ih54 := ih_
                      refine lv_iload F_.1 F_.2.1 dX8_look_54 (lv_at hl 0 rfl) ?_
                      refine z_bipush F_ (by decide) dX8_look_56 ?_
                      refine z_icmp_ge (tgt := 83) F_ (by omega) dX8_look_58 (by decide) (fun c58 => ?_) (fun c58 => ?_)
                      · refine lv_aload_n F_.1 F_.2.1 dX8_look_83 rfl (lv_at hl 6 rfl) ?_
                        refine lv_iload_n F_.1 F_.2.1 dX8_look_84 rfl (lv_at hl 5 rfl) ?_
                        refine z_callVip F_ K_ W_ [.int (zi z_2)] (c_X8_mostAlike l_ D cy o ab be bl ta tl tk vl t3 z_2 bt3 (by first | omega | assumption) (by first | omega | assumption)) 1 rfl gX8_look_X8_mostAlike rfl (by decide +kernel) ⟨⟨Nat.le_of_ble_eq_true rfl, Nat.le_of_ble_eq_true rfl⟩, rfl, rfl, Nat.zero_le _, Nat.zero_le _⟩ 0 0 7 rfl rfl rfl rfl hl.1 rfl (Nat.le_of_ble_eq_true rfl) [0, 3] [1, 2] [wA cy (o 1) 192 g, wR cy (o 4) 3 rf] 4 (by decide +kernel) rfl rfl rfl dX8_look_85 (fun z_3 _ H_ lo_ hw_ W_ => ?_)
                        have hw_ : (z_3 = topZ t3 z_2 6) := hw_
                        have f85_v := hw_
                        have htop : z_3 = topZ (fun j => needZ j d k) (kbZ (shZ g 56) 1 h (g 3) 6) 6 := by rw [f85_v, hzx, ← hxe]; exact topZ_ext _ (fun j h1 h2 => ht j h1 (by omega))
                        have htb := topZ_b (fun j => needZ j d k) (kbZ (shZ g 56) 1 h (g 3) 6) (m := 6) (by omega)
                        rw [← htop] at htb
                        refine lv_istore (lv' := [(7, .int (zi z_3)), (6, .int (zi k)), (5, .int (zi d)), (4, .int (zi v2)), (3, .int (zi y2)), (2, .int (zi z_2)), (0, .ref (o 0)), (1, .int (zi h))]) F_.1 F_.2.1 dX8_look_88 hl (by decide) rfl (fun ls_ hl => ?_)
                        refine lv_iload F_.1 F_.2.1 dX8_look_90 (lv_at hl 0 rfl) ?_
                        refine lv_iload F_.1 F_.2.1 dX8_look_92 (lv_at hl 3 rfl) ?_
                        have J109 : ∀ (k109_0 : Int) (g109 : ((v2 ≤ z_3) ∧ (k109_0 = y2)) ∨ ((z_3 < v2) ∧ (k109_0 = (10 * d) + k))) (ls_ : Array Slot) (H_ : Heap) (lo_ : List Loc), WD D A_ s_.heap ([wO cy o ab be bl ta tl tk vl, wA cy (o 1) 192 g, wR cy (o 4) 3 rf, wT cy (o 9) 6 t3]) H_ lo_ → lv_has ls_ 8 [(7, .int (zi z_3)), (6, .int (zi k)), (5, .int (zi d)), (4, .int (zi v2)), (3, .int (zi y2)), (2, .int (zi z_2)), (0, .ref (o 0)), (1, .int (zi h))] → W p_ l_ e_ rX8_look s_ m_ ar_ be_ me_ c_ H_ lo_ 0 0 Q_ (F0 m_ 109 ls_ [.int (zi k109_0)]) := by
                          intro k109_0 g109 ls_ H_ lo_ W_ hl
                          refine lv_istore_n (lv' := [(3, .int (zi k109_0)), (7, .int (zi z_3)), (6, .int (zi k)), (5, .int (zi d)), (4, .int (zi v2)), (2, .int (zi z_2)), (0, .ref (o 0)), (1, .int (zi h))]) F_.1 F_.2.1 dX8_look_109 rfl hl (by decide) rfl (fun ls_ hl => ?_)
                          refine lv_iload F_.1 F_.2.1 dX8_look_110 (lv_at hl 1 rfl) ?_
                          refine lv_iload F_.1 F_.2.1 dX8_look_112 (lv_at hl 4 rfl) ?_
                          refine z_icmp_ge (tgt := 122) F_ (by omega) dX8_look_114 (by decide) (fun c114 => ?_) (fun c114 => ?_)
                          · refine lv_iload F_.1 F_.2.1 dX8_look_122 (lv_at hl 4 rfl) ?_
                            refine lv_istore (lv' := [(4, .int (zi v2)), (3, .int (zi k109_0)), (7, .int (zi z_3)), (6, .int (zi k)), (5, .int (zi d)), (2, .int (zi z_2)), (0, .ref (o 0)), (1, .int (zi h))]) F_.1 F_.2.1 dX8_look_124 hl (by decide) rfl (fun ls_ hl => ?_)
                            refine z_iinc (lv' := [(6, .int (zi (k + 1))), (4, .int (zi v2)), (3, .int (zi k109_0)), (7, .int (zi z_3)), (5, .int (zi d)), (2, .int (zi z_2)), (0, .ref (o 0)), (1, .int (zi h))]) F_ dX8_look_126 hl (k := 3) rfl (by decide) rfl (fun ls_ hl => ?_)
                            refine z_goto (tgt := 44) F_ dX8_look_129 (by decide) ?_
                            exact ih44 k109_0 v2 (k + 1) t3 bt3 (by first | omega | assumption) (by rw [show 9 * (d - 1) + (k + 1) = (9 * (d - 1) + k) + 1 by omega, bstY_s _ _ _ (by omega), lookK_at _ (by omega), ← hv2, ← htop]; have hE := lookE_at (d := d) (n := k) (by omega); split <;> omega) (by rw [show 9 * (d - 1) + (k + 1) = (9 * (d - 1) + k) + 1 by omega, bstY_s _ _ _ (by omega), lookK_at _ (by omega), ← hv2, ← htop]; split <;> omega) (by first | omega | assumption) (by omega) ls_ H_ lo_ W_ (lv_sub hl [0, 4, 1, 2, 5, 6, 7] rfl)
                          · refine lv_iload F_.1 F_.2.1 dX8_look_117 (lv_at hl 1 rfl) ?_
                            refine z_goto (tgt := 124) F_ dX8_look_119 (by decide) ?_
                            refine lv_istore (lv' := [(4, .int (zi z_3)), (3, .int (zi k109_0)), (7, .int (zi z_3)), (6, .int (zi k)), (5, .int (zi d)), (2, .int (zi z_2)), (0, .ref (o 0)), (1, .int (zi h))]) F_.1 F_.2.1 dX8_look_124 hl (by decide) rfl (fun ls_ hl => ?_)
                            refine z_iinc (lv' := [(6, .int (zi (k + 1))), (4, .int (zi z_3)), (3, .int (zi k109_0)), (7, .int (zi z_3)), (5, .int (zi d)), (2, .int (zi z_2)), (0, .ref (o 0)), (1, .int (zi h))]) F_ dX8_look_126 hl (k := 3) rfl (by decide) rfl (fun ls_ hl => ?_)
                            refine z_goto (tgt := 44) F_ dX8_look_129 (by decide) ?_
                            exact ih44 k109_0 z_3 (k + 1) t3 bt3 (by first | omega | assumption) (by rw [show 9 * (d - 1) + (k + 1) = (9 * (d - 1) + k) + 1 by omega, bstY_s _ _ _ (by omega), lookK_at _ (by omega), ← hv2, ← htop]; have hE := lookE_at (d := d) (n := k) (by omega); split <;> omega) (by rw [show 9 * (d - 1) + (k + 1) = (9 * (d - 1) + k) + 1 by omega, bstY_s _ _ _ (by omega), lookK_at _ (by omega), ← hv2, ← htop]; split <;> omega) (by first | omega | assumption) (by omega) ls_ H_ lo_ W_ (lv_sub hl [0, 4, 1, 2, 5, 6, 7] rfl)
                        refine z_icmp_ge (tgt := 108) F_ (by omega) dX8_look_94 (by decide) (fun c94 => ?_) (fun c94 => ?_)
                        · refine lv_iload_n F_.1 F_.2.1 dX8_look_108 rfl (lv_at hl 4 rfl) ?_
                          exact J109 y2 (by first | omega | grind) ls_ H_ lo_ W_ (lv_sub hl [0, 1, 2, 3, 4, 5, 6, 7] rfl)
                        · refine z_bipush F_ (by decide) dX8_look_97 ?_
                          refine lv_iload F_.1 F_.2.1 dX8_look_99 (lv_at hl 2 rfl) ?_
                          refine z_imul F_ dX8_look_101 ?_
                          refine lv_iload F_.1 F_.2.1 dX8_look_102 (lv_at hl 1 rfl) ?_
                          refine z_iadd F_ dX8_look_104 ?_
                          refine z_goto (tgt := 109) F_ dX8_look_105 (by decide) ?_
                          exact J109 ((10 * d) + k) (by first | omega | grind) ls_ H_ lo_ W_ (lv_sub hl [0, 1, 2, 3, 4, 5, 6, 7] rfl)
                      · refine lv_aload_n F_.1 F_.2.1 dX8_look_61 rfl (lv_at hl 6 rfl) ?_
                        refine z_get F_ K_ W_ 0 0 10 rfl rfl rfl (C := RX8) (T := TX8) (N := 19) rfl (by decide) hinX8 (List.mem_of_getElem? (i := 2) rfl) dX8_look_62 ?_
                        refine lv_iload F_.1 F_.2.1 dX8_look_65 (lv_at hl 0 rfl) ?_
                        refine lv_iload F_.1 F_.2.1 dX8_look_67 (lv_at hl 0 rfl) ?_
                        refine lv_iload F_.1 F_.2.1 dX8_look_69 (lv_at hl 2 rfl) ?_
                        refine lv_iload F_.1 F_.2.1 dX8_look_71 (lv_at hl 1 rfl) ?_
                        refine z_callSip F_ K_ W_ [.int (zi kd), .int (zi d), .int (zi k)] (c_X8_needsAs l_ D cy kd d k (by first | omega | assumption) (by first | omega | assumption) (by first | omega | assumption) (by first | omega | assumption) (by first | omega | assumption)) 3 rfl gX8_look_X8_needsAs rfl (by decide +kernel) ⟨⟨Nat.le_of_ble_eq_true rfl, Nat.le_of_ble_eq_true rfl⟩, rfl, rfl, Nat.zero_le _, Nat.zero_le _⟩ hl.1 rfl (Nat.le_of_ble_eq_true rfl) ([] : List Nat) [0, 1, 2, 3] [wO cy o ab be bl ta tl tk vl, wA cy (o 1) 192 g, wR cy (o 4) 3 rf, wT cy (o 9) 6 t3] 4 (by decide +kernel) rfl rfl rfl dX8_look_73 (fun z_4 _ H_ lo_ hw_ W_ => ?_)
                        have hw_ : (z_4 = needZ kd d k) := hw_
                        have f73_v := hw_
                        have hb73 := needZ_b kd (d := d) (n := k) (by omega) (by omega)
                        rw [← f73_v] at hb73
                        refine z_iast (sg' := [wO cy o ab be bl ta tl tk vl, wA cy (o 1) 192 g, wR cy (o 4) 3 rf, wT cy (o 9) 6 (zu t3 kd z_4)]) F_ K_ W_ 3 0 rfl rfl rfl (by omega) (by decide) dX8_look_76 (fun H_ lo_ W_ => ?_)
                        obtain ⟨g_5, eg_5⟩ : ∃ x_ : Int → Int, x_ = zu t3 kd z_4 := ⟨_, rfl⟩
                        rw [← eg_5] at W_
                        have bg_5 : ∀ j : Int, 0 ≤ g_5 j ∧ g_5 j ≤ 300 := by rw [eg_5]; exact zu_b bt3 (by omega)
                        refine z_iinc (lv' := [(7, .int (zi (kd + 1))), (6, .int (zi k)), (5, .int (zi d)), (4, .int (zi v2)), (3, .int (zi y2)), (2, .int (zi z_2)), (0, .ref (o 0)), (1, .int (zi h))]) F_ dX8_look_77 hl (k := 0) rfl (by decide) rfl (fun ls_ hl => ?_)
                        refine z_goto (tgt := 54) F_ dX8_look_80 (by decide) ?_
                        exact ih54 (kd + 1) g_5 bg_5 (by first | omega | assumption) (by intro j h1 h2; rw [eg_5, zu_at]; split; (rename_i q; rw [q]; assumption); exact ht j h1 (by omega)) (by omega) ls_ H_ lo_ W_ (lv_sub hl [0, 1, 2, 3, 4, 5, 6, 7] rfl)
                  exact L54 ((6 - 0 : Int).toNat + 1) 0 t2 bt2 (by first | omega | assumption) (by intro j h1 h2; omega) (by have := Int.self_le_toNat (6 - 0 : Int); omega) ls_ H_ lo_ W_ (lv_sub hl [0, 1, 2, 3, 4, 5, 6, 7] rfl)
            exact L44 ((9 - 0 : Int).toNat + 1) y v 0 t1 bt1 (by first | omega | assumption) (by rw [Int.add_zero]; exact hy) (by rw [Int.add_zero]; exact hv) (by first | omega | assumption) (by have := Int.self_le_toNat (9 - 0 : Int); omega) ls_ H_ lo_ W_ (lv_sub hl [0, 1, 2, 3, 4, 5, 6] rfl)
    exact L30 ((31 - 1 : Int).toNat + 1) (-1) 1000000 1 te bte (by first | omega | assumption) (by rfl) (by rfl) (by first | omega | assumption) (by first | omega | assumption) (by have := Int.self_le_toNat (31 - 1 : Int); omega) ls_ H_ lo_ W_ (lv_sub hl [0, 1, 2, 3, 4, 5] rfl)
  · refine lv_aload_n F_.1 F_.2.1 dX8_look_8 rfl (lv_at hl 0 rfl) ?_
    refine z_bipush F_ (by decide) dX8_look_9 ?_
    refine z_callVi F_ K_ W_ [.int (zi (-2))] (c_X8_bad l_ D cy o ab be bl ta tl tk vl rf (-2) (by first | omega | assumption)) 1 rfl gX8_look_X8_bad rfl (by decide +kernel) ⟨⟨Nat.le_of_ble_eq_true rfl, Nat.le_of_ble_eq_true rfl⟩, rfl, rfl, Nat.zero_le _, Nat.zero_le _⟩ 0 0 7 rfl rfl rfl rfl hl.1 rfl (Nat.le_of_ble_eq_true rfl) [0, 2] [1, 3] [wA cy (o 1) 192 g, wT cy (o 9) 6 te] (fun (u_ : (Int → Int)) => [wO cy o ab be bl ta tl tk vl, wA cy (o 1) 192 g, wR cy (o 4) 3 u_, wT cy (o 9) 6 te]) 4 (by decide +kernel) rfl rfl rfl (fun _ => rfl) (fun _ => rfl) (fun _ => rfl) dX8_look_11 (fun z_6 u_ H_ lo_ hw_ W_ => ?_)
    obtain ⟨rf2_7, rfl⟩ : ∃ x, x = u_ := ⟨_, rfl⟩
    have W_ : WD D A_ s_.heap ([wO cy o ab be bl ta tl tk vl, wA cy (o 1) 192 g, wR cy (o 4) 3 rf2_7, wT cy (o 9) 6 te]) H_ lo_ := W_
    have hw_ : (z_6 = (-2)) ∧ (rf2_7 = rfZ rf 0) := hw_
    obtain ⟨f11_v, f11_r⟩ := hw_
    exact hret _ _ _ _ z_6 (rf2_7, te) dX8_look_14 ⟨(by exact Or.inr ⟨by omega, by omega, by assumption⟩), bte⟩ W_
abbrev rX8_ask : Room := { frames := 3, cells := 0, slots := 0, locals := 75 }
set_option maxHeartbeats 1000000 in
set_option maxRecDepth 100000 in
theorem c_X8_ask (l_ : Launch) (D : va_G) (cy : Nat → ClassId) (o : Nat → Nat) (ab : Int) (be : Int) (bl : Int) (ta : Int) (tl : Int) (tk : Int) (vl : Int) (g : Int → Int) (rf : Int → Int) (te : Int → Int) (i : Int) (bg : ∀ j : Int, 0 ≤ g j ∧ g j ≤ 99) (bte : ∀ j : Int, 0 ≤ te j ∧ te j ≤ 300) (ri : -2147483648 ≤ i ∧ i < 2147483648) (hg0 : 0 ≤ g 0 ∧ g 0 ≤ 8) (hg4 : 0 ≤ g 4 ∧ g 4 ≤ 6) : CTi l_ D cy yX8_ask wsX8_ask rX8_ask [.ref (o 0), .int (zi i)] ([wO cy o ab be bl ta tl tk vl, wA cy (o 1) 192 g, wR cy (o 4) 3 rf, wT cy (o 9) 6 te]) (fun (z : Int) (u : (Int → Int) × (Int → Int)) => ((((0 ≤ i ∧ i < g 0)) ∧ z = (if 0 < (kbZ (shZ g 80) 0 i (g 4) 6) then (bstY (askK (g (28 + i)) (kbZ (shZ g 80) 0 i (g 4) 6)) (fun j => j) 1000000 (10)).1 else -1) ∧ u.1 = rf) ∨ (¬ ((0 ≤ i ∧ i < g 0)) ∧ z = -2 ∧ u.1 = rfZ rf 0)) ∧ (∀ j : Int, 0 ≤ u.2 j ∧ u.2 j ≤ 300)) (fun (u : (Int → Int) × (Int → Int)) => [wO cy o ab be bl ta tl tk vl, wA cy (o 1) 192 g, wR cy (o 4) 3 u.1, wT cy (o 9) 6 u.2]) := by
  refine CTi.of RX8 cX8_ask 7 rfl (by decide) rfl (fun z u hz => rfl) (Nat.le_of_ble_eq_true rfl) ?_
  intro p_ e_ s_ m_ ar_ be_ me_ c_ Q_ A_ ls_ F_ K_ W_ hl hret
  have hl : lv_has ls_ 7 [(0, .ref (o 0)), (1, .int (zi i))] := hl
  obtain ⟨H_, hH_⟩ : ∃ x, x = s_.heap := ⟨_, rfl⟩
  obtain ⟨lo_, hlo_⟩ : ∃ x : List Loc, x = [] := ⟨_, rfl⟩
  have W_ : WD D A_ s_.heap ([wO cy o ab be bl ta tl tk vl, wA cy (o 1) 192 g, wR cy (o 4) 3 rf, wT cy (o 9) 6 te]) H_ lo_ := by rw [hH_, hlo_]; exact W_
  rw [← hlo_]
  suffices hg_ : W p_ l_ e_ rX8_ask s_ m_ ar_ be_ me_ c_ H_ lo_ 0 0 Q_ (F0 m_ 0 ls_ []) by rw [hH_] at hg_; exact hg_
  clear hH_ hlo_
  have hinX8 : ∀ w ∈ u_ws RX8 TX8 19, w ∈ wsX8_ask := fun w h => List.mem_cons_of_mem _ (List.mem_append_right _ h)
  refine lv_aload_n F_.1 F_.2.1 dX8_ask_0 rfl (lv_at hl 0 rfl) ?_
  refine lv_iload_n F_.1 F_.2.1 dX8_ask_1 rfl (lv_at hl 1 rfl) ?_
  refine z_callVip F_ K_ W_ [.int (zi i)] (c_X8_isMan l_ D cy o ab be bl ta tl tk vl g i bg (by first | omega | assumption) (by first | omega | assumption)) 1 rfl gX8_ask_X8_isMan rfl (by decide +kernel) ⟨⟨Nat.le_of_ble_eq_true rfl, Nat.le_of_ble_eq_true rfl⟩, rfl, rfl, Nat.zero_le _, Nat.zero_le _⟩ 0 0 7 rfl rfl rfl rfl hl.1 rfl (Nat.le_of_ble_eq_true rfl) [0, 1] [2, 3] [wR cy (o 4) 3 rf, wT cy (o 9) 6 te] 4 (by decide +kernel) rfl rfl rfl dX8_ask_2 (fun z_1 _ H_ lo_ hw_ W_ => ?_)
  have hw_ : ((z_1 = 1 ∧ (0 ≤ i ∧ i < g 0)) ∨ (z_1 = 0 ∧ ¬ (0 ≤ i ∧ i < g 0))) := hw_
  have f2_v := hw_
  refine z_if_ne (tgt := 15) F_ (by omega) dX8_ask_5 (by decide) (fun c5 => ?_) (fun c5 => ?_)
  · refine lv_aload_n F_.1 F_.2.1 dX8_ask_15 rfl (lv_at hl 0 rfl) ?_
    refine lv_iload_n F_.1 F_.2.1 dX8_ask_16 rfl (lv_at hl 1 rfl) ?_
    refine z_callVip F_ K_ W_ [.int (zi i)] (c_X8_kindsOfMan l_ D cy o ab be bl ta tl tk vl g i bg (by first | omega | assumption) (by first | omega | assumption)) 1 rfl gX8_ask_X8_kindsOfMan rfl (by decide +kernel) ⟨⟨Nat.le_of_ble_eq_true rfl, Nat.le_of_ble_eq_true rfl⟩, rfl, rfl, Nat.zero_le _, Nat.zero_le _⟩ 0 0 7 rfl rfl rfl rfl hl.1 rfl (Nat.le_of_ble_eq_true rfl) [0, 1] [2, 3] [wR cy (o 4) 3 rf, wT cy (o 9) 6 te] 4 (by decide +kernel) rfl rfl rfl dX8_ask_17 (fun z_2 _ H_ lo_ hw_ W_ => ?_)
    have hw_ : (z_2 = kbZ (shZ g 80) 0 i (g 4) 6) := hw_
    have f17_v := hw_
    have hxb := kbZ_b (shZ g 80) 0 i (g 4) (m := 6) (by omega)
    have hp6 : zpw 6 = 64 := rfl
    obtain ⟨x, hxe⟩ : ∃ x_ : Int, x_ = kbZ (shZ g 80) 0 i (g 4) 6 := ⟨_, rfl⟩
    have hzx : z_2 = x := by omega
    refine lv_istore_n (lv' := [(2, .int (zi z_2)), (0, .ref (o 0)), (1, .int (zi i))]) F_.1 F_.2.1 dX8_ask_20 rfl hl (by decide) rfl (fun ls_ hl => ?_)
    refine z_iconst F_ dX8_ask_21 ?_
    refine lv_istore_n (lv' := [(3, .int (zi (-1))), (2, .int (zi z_2)), (0, .ref (o 0)), (1, .int (zi i))]) F_.1 F_.2.1 dX8_ask_22 rfl hl (by decide) rfl (fun ls_ hl => ?_)
    refine z_ldc (z := 1000000) F_ (F_.2.2.2.2 _ (List.mem_of_getElem? (i := 1) rfl)) rfl dX8_ask_23 ?_
    refine lv_istore (lv' := [(4, .int (zi 1000000)), (3, .int (zi (-1))), (2, .int (zi z_2)), (0, .ref (o 0)), (1, .int (zi i))]) F_.1 F_.2.1 dX8_ask_25 hl (by decide) rfl (fun ls_ hl => ?_)
    refine z_iconst F_ dX8_ask_27 ?_
    refine lv_istore (lv' := [(5, .int (zi 0)), (4, .int (zi 1000000)), (3, .int (zi (-1))), (2, .int (zi z_2)), (0, .ref (o 0)), (1, .int (zi i))]) F_.1 F_.2.1 dX8_ask_28 hl (by decide) rfl (fun ls_ hl => ?_)
    have L30 : ∀ (n_ : Nat) (y : Int) (v : Int) (d : Int) (t1 : Int → Int) (bt1 : ∀ j : Int, 0 ≤ t1 j ∧ t1 j ≤ 300) (hd : 0 ≤ d ∧ d ≤ 10) (hy : y = (bstY (askK (g (28 + i)) (kbZ (shZ g 80) 0 i (g 4) 6)) (fun j => j) 1000000 (d)).1) (hv : v = (bstY (askK (g (28 + i)) (kbZ (shZ g 80) 0 i (g 4) 6)) (fun j => j) 1000000 (d)).2) (hb : -1 ≤ y ∧ y ≤ 400 ∧ 0 ≤ v ∧ v ≤ 1000000) (hd0 : d = 0 ∨ 0 < x) (hm_ : (10 - d : Int) < (n_ : Int)) (ls_ : Array Slot) (H_ : Heap) (lo_ : List Loc), WD D A_ s_.heap ([wO cy o ab be bl ta tl tk vl, wA cy (o 1) 192 g, wR cy (o 4) 3 rf, wT cy (o 9) 6 t1]) H_ lo_ → lv_has ls_ 7 [(5, .int (zi d)), (4, .int (zi v)), (3, .int (zi y)), (2, .int (zi z_2)), (0, .ref (o 0)), (1, .int (zi i))] → W p_ l_ e_ rX8_ask s_ m_ ar_ be_ me_ c_ H_ lo_ 0 0 Q_ (F0 m_ 30 ls_ []) := by
      intro n_
      induction n_ with
      | zero =>
        intro y v d t1 bt1 hd hy hv hb hd0 hm_ ls_ H_ lo_ _ _
        exact absurd hm_ (by omega)
      | succ n_ ih_ =>
        intro y v d t1 bt1 hd hy hv hb hd0 hm_ ls_ H_ lo_ W_ hl
        have ih30 := ih_
        refine lv_iload F_.1 F_.2.1 dX8_ask_30 (lv_at hl 0 rfl) ?_
        refine z_bipush F_ (by decide) dX8_ask_32 ?_
        refine z_icmp_ge (tgt := 123) F_ (by omega) dX8_ask_34 (by decide) (fun c34 => ?_) (fun c34 => ?_)
        · refine lv_iload_n F_.1 F_.2.1 dX8_ask_123 rfl (lv_at hl 2 rfl) ?_
          exact hret _ _ _ _ y (rf, t1) dX8_ask_124 ⟨(by exact Or.inl ⟨by omega, by rw [← hxe]; first | (rw [if_pos (by omega), hy, hxe, show d = 10 by omega]; done) | (rw [if_neg (by omega), hy, show d = 0 by omega]; rfl), rfl⟩), bt1⟩ W_
        · refine lv_iload_n F_.1 F_.2.1 dX8_ask_37 rfl (lv_at hl 3 rfl) ?_
          refine z_if_le (tgt := 123) F_ (by omega) dX8_ask_38 (by decide) (fun c38 => ?_) (fun c38 => ?_)
          · refine lv_iload_n F_.1 F_.2.1 dX8_ask_123 rfl (lv_at hl 2 rfl) ?_
            exact hret _ _ _ _ y (rf, t1) dX8_ask_124 ⟨(by exact Or.inl ⟨by omega, by rw [← hxe]; first | (rw [if_pos (by omega), hy, hxe, show d = 10 by omega]; done) | (rw [if_neg (by omega), hy, show d = 0 by omega]; rfl), rfl⟩), bt1⟩ W_
          · refine z_iconst F_ dX8_ask_41 ?_
            refine lv_istore (lv' := [(6, .int (zi 0)), (5, .int (zi d)), (4, .int (zi v)), (3, .int (zi y)), (2, .int (zi z_2)), (0, .ref (o 0)), (1, .int (zi i))]) F_.1 F_.2.1 dX8_ask_42 hl (by decide) rfl (fun ls_ hl => ?_)
            have L44 : ∀ (n_ : Nat) (kd : Int) (t3 : Int → Int) (bt3 : ∀ j : Int, 0 ≤ t3 j ∧ t3 j ≤ 300) (hkd : 0 ≤ kd ∧ kd ≤ 6) (ht : ∀ j, 0 ≤ j → j < kd → t3 j = likedZ j (g (28 + i)) d) (hm_ : (6 - kd : Int) < (n_ : Int)) (ls_ : Array Slot) (H_ : Heap) (lo_ : List Loc), WD D A_ s_.heap ([wO cy o ab be bl ta tl tk vl, wA cy (o 1) 192 g, wR cy (o 4) 3 rf, wT cy (o 9) 6 t3]) H_ lo_ → lv_has ls_ 7 [(6, .int (zi kd)), (5, .int (zi d)), (4, .int (zi v)), (3, .int (zi y)), (2, .int (zi z_2)), (0, .ref (o 0)), (1, .int (zi i))] → W p_ l_ e_ rX8_ask s_ m_ ar_ be_ me_ c_ H_ lo_ 0 0 Q_ (F0 m_ 44 ls_ []) := by
              intro n_
              induction n_ with
              | zero =>
                intro kd t3 bt3 hkd ht hm_ ls_ H_ lo_ _ _
                exact absurd hm_ (by omega)
              | succ n_ ih_ =>
                intro kd t3 bt3 hkd ht hm_ ls_ H_ lo_ W_ hl
                have ih44 := ih_
                refine lv_iload F_.1 F_.2.1 dX8_ask_44 (lv_at hl 0 rfl) ?_
                refine z_bipush F_ (by decide) dX8_ask_46 ?_
                refine z_icmp_ge (tgt := 80) F_ (by omega) dX8_ask_48 (by decide) (fun c48 => ?_) (fun c48 => ?_)
                · refine lv_aload_n F_.1 F_.2.1 dX8_ask_80 rfl (lv_at hl 5 rfl) ?_
                  refine lv_iload_n F_.1 F_.2.1 dX8_ask_81 rfl (lv_at hl 4 rfl) ?_
                  refine z_callVip F_ K_ W_ [.int (zi z_2)] (c_X8_mostAlike l_ D cy o ab be bl ta tl tk vl t3 z_2 bt3 (by first | omega | assumption) (by first | omega | assumption)) 1 rfl gX8_ask_X8_mostAlike rfl (by decide +kernel) ⟨⟨Nat.le_of_ble_eq_true rfl, Nat.le_of_ble_eq_true rfl⟩, rfl, rfl, Nat.zero_le _, Nat.zero_le _⟩ 0 0 7 rfl rfl rfl rfl hl.1 rfl (Nat.le_of_ble_eq_true rfl) [0, 3] [1, 2] [wA cy (o 1) 192 g, wR cy (o 4) 3 rf] 4 (by decide +kernel) rfl rfl rfl dX8_ask_82 (fun z_3 _ H_ lo_ hw_ W_ => ?_)
                  have hw_ : (z_3 = topZ t3 z_2 6) := hw_
                  have f82_v := hw_
                  have htop : z_3 = topZ (fun j => likedZ j (g (28 + i)) d) (kbZ (shZ g 80) 0 i (g 4) 6) 6 := by rw [f82_v, hzx, ← hxe]; exact topZ_ext _ (fun j h1 h2 => ht j h1 (by omega))
                  have htb := topZ_b (fun j => likedZ j (g (28 + i)) d) (kbZ (shZ g 80) 0 i (g 4) 6) (m := 6) (by omega)
                  rw [← htop] at htb
                  refine lv_istore (lv' := [(6, .int (zi z_3)), (5, .int (zi d)), (4, .int (zi v)), (3, .int (zi y)), (2, .int (zi z_2)), (0, .ref (o 0)), (1, .int (zi i))]) F_.1 F_.2.1 dX8_ask_85 hl (by decide) rfl (fun ls_ hl => ?_)
                  refine lv_iload F_.1 F_.2.1 dX8_ask_87 (lv_at hl 0 rfl) ?_
                  refine lv_iload F_.1 F_.2.1 dX8_ask_89 (lv_at hl 2 rfl) ?_
                  have J100 : ∀ (k100_0 : Int) (g100 : ((v ≤ z_3) ∧ (k100_0 = y)) ∨ ((z_3 < v) ∧ (k100_0 = d))) (ls_ : Array Slot) (H_ : Heap) (lo_ : List Loc), WD D A_ s_.heap ([wO cy o ab be bl ta tl tk vl, wA cy (o 1) 192 g, wR cy (o 4) 3 rf, wT cy (o 9) 6 t3]) H_ lo_ → lv_has ls_ 7 [(6, .int (zi z_3)), (5, .int (zi d)), (4, .int (zi v)), (3, .int (zi y)), (2, .int (zi z_2)), (0, .ref (o 0)), (1, .int (zi i))] → W p_ l_ e_ rX8_ask s_ m_ ar_ be_ me_ c_ H_ lo_ 0 0 Q_ (F0 m_ 100 ls_ [.int (zi k100_0)]) := by
                    intro k100_0 g100 ls_ H_ lo_ W_ hl
                    refine lv_istore_n (lv' := [(3, .int (zi k100_0)), (6, .int (zi z_3)), (5, .int (zi d)), (4, .int (zi v)), (2, .int (zi z_2)), (0, .ref (o 0)), (1, .int (zi i))]) F_.1 F_.2.1 dX8_ask_100 rfl hl (by decide) rfl (fun ls_ hl => ?_)
                    refine lv_iload F_.1 F_.2.1 dX8_ask_101 (lv_at hl 1 rfl) ?_
                    refine lv_iload F_.1 F_.2.1 dX8_ask_103 (lv_at hl 3 rfl) ?_
                    refine z_icmp_ge (tgt := 113) F_ (by omega) dX8_ask_105 (by decide) (fun c105 => ?_) (fun c105 => ?_)
                    · refine lv_iload F_.1 F_.2.1 dX8_ask_113 (lv_at hl 3 rfl) ?_
                      refine lv_istore (lv' := [(4, .int (zi v)), (3, .int (zi k100_0)), (6, .int (zi z_3)), (5, .int (zi d)), (2, .int (zi z_2)), (0, .ref (o 0)), (1, .int (zi i))]) F_.1 F_.2.1 dX8_ask_115 hl (by decide) rfl (fun ls_ hl => ?_)
                      refine z_iinc (lv' := [(5, .int (zi (d + 1))), (4, .int (zi v)), (3, .int (zi k100_0)), (6, .int (zi z_3)), (2, .int (zi z_2)), (0, .ref (o 0)), (1, .int (zi i))]) F_ dX8_ask_117 hl (k := 3) rfl (by decide) rfl (fun ls_ hl => ?_)
                      refine z_goto (tgt := 30) F_ dX8_ask_120 (by decide) ?_
                      exact ih30 k100_0 v (d + 1) t3 bt3 (by first | omega | assumption) (by rw [bstY_s _ _ _ (by omega), ← hv, show askK (g (28 + i)) (kbZ (shZ g 80) 0 i (g 4) 6) d = topZ (fun j => likedZ j (g (28 + i)) d) (kbZ (shZ g 80) 0 i (g 4) 6) 6 from rfl, ← htop]; split <;> omega) (by rw [bstY_s _ _ _ (by omega), ← hv, show askK (g (28 + i)) (kbZ (shZ g 80) 0 i (g 4) 6) d = topZ (fun j => likedZ j (g (28 + i)) d) (kbZ (shZ g 80) 0 i (g 4) 6) 6 from rfl, ← htop]; split <;> omega) (by first | omega | assumption) (by first | omega | assumption) (by omega) ls_ H_ lo_ W_ (lv_sub hl [0, 1, 2, 4, 5, 6] rfl)
                    · refine lv_iload F_.1 F_.2.1 dX8_ask_108 (lv_at hl 1 rfl) ?_
                      refine z_goto (tgt := 115) F_ dX8_ask_110 (by decide) ?_
                      refine lv_istore (lv' := [(4, .int (zi z_3)), (3, .int (zi k100_0)), (6, .int (zi z_3)), (5, .int (zi d)), (2, .int (zi z_2)), (0, .ref (o 0)), (1, .int (zi i))]) F_.1 F_.2.1 dX8_ask_115 hl (by decide) rfl (fun ls_ hl => ?_)
                      refine z_iinc (lv' := [(5, .int (zi (d + 1))), (4, .int (zi z_3)), (3, .int (zi k100_0)), (6, .int (zi z_3)), (2, .int (zi z_2)), (0, .ref (o 0)), (1, .int (zi i))]) F_ dX8_ask_117 hl (k := 3) rfl (by decide) rfl (fun ls_ hl => ?_)
                      refine z_goto (tgt := 30) F_ dX8_ask_120 (by decide) ?_
                      exact ih30 k100_0 z_3 (d + 1) t3 bt3 (by first | omega | assumption) (by rw [bstY_s _ _ _ (by omega), ← hv, show askK (g (28 + i)) (kbZ (shZ g 80) 0 i (g 4) 6) d = topZ (fun j => likedZ j (g (28 + i)) d) (kbZ (shZ g 80) 0 i (g 4) 6) 6 from rfl, ← htop]; split <;> omega) (by rw [bstY_s _ _ _ (by omega), ← hv, show askK (g (28 + i)) (kbZ (shZ g 80) 0 i (g 4) 6) d = topZ (fun j => likedZ j (g (28 + i)) d) (kbZ (shZ g 80) 0 i (g 4) 6) 6 from rfl, ← htop]; split <;> omega) (by first | omega | assumption) (by first | omega | assumption) (by omega) ls_ H_ lo_ W_ (lv_sub hl [0, 1, 2, 4, 5, 6] rfl)
                  refine z_icmp_ge (tgt := 99) F_ (by omega) dX8_ask_91 (by decide) (fun c91 => ?_) (fun c91 => ?_)
                  · refine lv_iload_n F_.1 F_.2.1 dX8_ask_99 rfl (lv_at hl 3 rfl) ?_
                    exact J100 y (by first | omega | grind) ls_ H_ lo_ W_ (lv_sub hl [0, 1, 2, 3, 4, 5, 6] rfl)
                  · refine lv_iload F_.1 F_.2.1 dX8_ask_94 (lv_at hl 1 rfl) ?_
                    refine z_goto (tgt := 100) F_ dX8_ask_96 (by decide) ?_
                    exact J100 d (by first | omega | grind) ls_ H_ lo_ W_ (lv_sub hl [0, 1, 2, 3, 4, 5, 6] rfl)
                · refine lv_aload_n F_.1 F_.2.1 dX8_ask_51 rfl (lv_at hl 5 rfl) ?_
                  refine z_get F_ K_ W_ 0 0 10 rfl rfl rfl (C := RX8) (T := TX8) (N := 19) rfl (by decide) hinX8 (List.mem_of_getElem? (i := 2) rfl) dX8_ask_52 ?_
                  refine lv_iload F_.1 F_.2.1 dX8_ask_55 (lv_at hl 0 rfl) ?_
                  refine lv_iload F_.1 F_.2.1 dX8_ask_57 (lv_at hl 0 rfl) ?_
                  refine lv_aload_n F_.1 F_.2.1 dX8_ask_59 rfl (lv_at hl 5 rfl) ?_
                  refine z_get F_ K_ W_ 0 0 0 rfl rfl rfl (C := RX8) (T := TX8) (N := 19) rfl (by decide) hinX8 (List.mem_of_getElem? (i := 3) rfl) dX8_ask_60 ?_
                  refine z_bipush F_ (by decide) dX8_ask_63 ?_
                  refine lv_iload_n F_.1 F_.2.1 dX8_ask_65 rfl (lv_at hl 6 rfl) ?_
                  refine z_iadd F_ dX8_ask_66 ?_
                  refine z_iald F_ K_ W_ 1 0 rfl rfl (by omega) (by decide) dX8_ask_67 ?_
                  have b_4 := bg (28 + i)
                  refine lv_iload F_.1 F_.2.1 dX8_ask_68 (lv_at hl 1 rfl) ?_
                  refine z_callSip F_ K_ W_ [.int (zi kd), .int (zi (g (28 + i))), .int (zi d)] (c_X8_likedAs l_ D cy kd (g (28 + i)) d (by first | omega | assumption) (by first | omega | assumption) (by first | omega | assumption) (by first | omega | assumption) (by first | omega | assumption)) 3 rfl gX8_ask_X8_likedAs rfl (by decide +kernel) ⟨⟨Nat.le_of_ble_eq_true rfl, Nat.le_of_ble_eq_true rfl⟩, rfl, rfl, Nat.zero_le _, Nat.zero_le _⟩ hl.1 rfl (Nat.le_of_ble_eq_true rfl) ([] : List Nat) [0, 1, 2, 3] [wO cy o ab be bl ta tl tk vl, wA cy (o 1) 192 g, wR cy (o 4) 3 rf, wT cy (o 9) 6 t3] 4 (by decide +kernel) rfl rfl rfl dX8_ask_70 (fun z_5 _ H_ lo_ hw_ W_ => ?_)
                  have hw_ : (z_5 = likedZ kd (g (28 + i)) d) := hw_
                  have f70_v := hw_
                  have hb70 := likedZ_b2 kd (s := g (28 + i)) (c := d) (by omega) (by omega)
                  rw [← f70_v] at hb70
                  refine z_iast (sg' := [wO cy o ab be bl ta tl tk vl, wA cy (o 1) 192 g, wR cy (o 4) 3 rf, wT cy (o 9) 6 (zu t3 kd z_5)]) F_ K_ W_ 3 0 rfl rfl rfl (by omega) (by decide) dX8_ask_73 (fun H_ lo_ W_ => ?_)
                  obtain ⟨g_6, eg_6⟩ : ∃ x_ : Int → Int, x_ = zu t3 kd z_5 := ⟨_, rfl⟩
                  rw [← eg_6] at W_
                  have bg_6 : ∀ j : Int, 0 ≤ g_6 j ∧ g_6 j ≤ 300 := by rw [eg_6]; exact zu_b bt3 (by omega)
                  refine z_iinc (lv' := [(6, .int (zi (kd + 1))), (5, .int (zi d)), (4, .int (zi v)), (3, .int (zi y)), (2, .int (zi z_2)), (0, .ref (o 0)), (1, .int (zi i))]) F_ dX8_ask_74 hl (k := 0) rfl (by decide) rfl (fun ls_ hl => ?_)
                  refine z_goto (tgt := 44) F_ dX8_ask_77 (by decide) ?_
                  exact ih44 (kd + 1) g_6 bg_6 (by first | omega | assumption) (by intro j h1 h2; rw [eg_6, zu_at]; split; (rename_i q; rw [q]; assumption); exact ht j h1 (by omega)) (by omega) ls_ H_ lo_ W_ (lv_sub hl [0, 1, 2, 3, 4, 5, 6] rfl)
            exact L44 ((6 - 0 : Int).toNat + 1) 0 t1 bt1 (by first | omega | assumption) (by intro j h1 h2; omega) (by have := Int.self_le_toNat (6 - 0 : Int); omega) ls_ H_ lo_ W_ (lv_sub hl [0, 1, 2, 3, 4, 5, 6] rfl)
    exact L30 ((10 - 0 : Int).toNat + 1) (-1) 1000000 0 te bte (by first | omega | assumption) (by rfl) (by rfl) (by first | omega | assumption) (by first | omega | assumption) (by have := Int.self_le_toNat (10 - 0 : Int); omega) ls_ H_ lo_ W_ (lv_sub hl [0, 1, 2, 3, 4, 5] rfl)
  · refine lv_aload_n F_.1 F_.2.1 dX8_ask_8 rfl (lv_at hl 0 rfl) ?_
    refine z_bipush F_ (by decide) dX8_ask_9 ?_
    refine z_callVi F_ K_ W_ [.int (zi (-2))] (c_X8_bad l_ D cy o ab be bl ta tl tk vl rf (-2) (by first | omega | assumption)) 1 rfl gX8_ask_X8_bad rfl (by decide +kernel) ⟨⟨Nat.le_of_ble_eq_true rfl, Nat.le_of_ble_eq_true rfl⟩, rfl, rfl, Nat.zero_le _, Nat.zero_le _⟩ 0 0 7 rfl rfl rfl rfl hl.1 rfl (Nat.le_of_ble_eq_true rfl) [0, 2] [1, 3] [wA cy (o 1) 192 g, wT cy (o 9) 6 te] (fun (u_ : (Int → Int)) => [wO cy o ab be bl ta tl tk vl, wA cy (o 1) 192 g, wR cy (o 4) 3 u_, wT cy (o 9) 6 te]) 4 (by decide +kernel) rfl rfl rfl (fun _ => rfl) (fun _ => rfl) (fun _ => rfl) dX8_ask_11 (fun z_7 u_ H_ lo_ hw_ W_ => ?_)
    obtain ⟨rf2_8, rfl⟩ : ∃ x, x = u_ := ⟨_, rfl⟩
    have W_ : WD D A_ s_.heap ([wO cy o ab be bl ta tl tk vl, wA cy (o 1) 192 g, wR cy (o 4) 3 rf2_8, wT cy (o 9) 6 te]) H_ lo_ := W_
    have hw_ : (z_7 = (-2)) ∧ (rf2_8 = rfZ rf 0) := hw_
    obtain ⟨f11_v, f11_r⟩ := hw_
    exact hret _ _ _ _ z_7 (rf2_8, te) dX8_ask_14 ⟨(by exact Or.inr ⟨by omega, by omega, by assumption⟩), bte⟩ W_
