theorem lstG_b {g : Int → Int} (h : Int) (h0 : 0 ≤ g 0) : lstG g h = -1 ∨ (0 ≤ lstG g h ∧ lstG g h < g 0 ∧ g (6 + lstG g h) = h + 1) := lstZ_b (shZ g 6) _ (h + 1) h0
theorem goG_k {g : Int → Int} {h z k : Int} (hh : 0 ≤ h) (hz : z = -1 ∨ 0 ≤ z) (hk : k < 6) : goG g h z k = g k := by
  unfold goG
  split
  · rfl
  · rw [zu_n _ _ (by omega), zu_n _ _ (by omega)]
theorem cntZ_ch {f f' : Int → Int} {v z m : Int} (hm : 0 ≤ m) (hz : 0 ≤ z ∧ z < m) (h1 : f z = v) (h2 : ¬ f' z = v) (h : ∀ k, 0 ≤ k → k < m → k ≠ z → (f' k = v ↔ f k = v)) : cntZ f' v m = cntZ f v m - 1 := by
  have key : ∀ i, 0 ≤ i → i ≤ m → cntZ f' v i = cntZ f v i - (if z < i then 1 else 0) := by
    refine fZ_rel (P := fun i x y => x = y - (if z < i then 1 else 0)) ?_ (M := m) (fun i x y q1 q2 e => ?_)
    · rw [if_neg (by omega)]; rfl
    · by_cases c : i = z
      · subst c
        rw [if_neg (by omega)] at e
        rw [if_pos h1, if_neg h2, if_pos (show i < i + 1 by omega)]
        omega
      · have q := h i q1 q2 c
        by_cases w : f i = v
        · rw [if_pos w, if_pos (q.mpr w)]
          by_cases s : z < i
          · rw [if_pos s] at e; rw [if_pos (by omega)]; omega
          · rw [if_neg s] at e; rw [if_neg (by omega)]; omega
        · rw [if_neg w, if_neg (fun y => w (q.mp y))]
          by_cases s : z < i
          · rw [if_pos s] at e; rw [if_pos (by omega)]; omega
          · rw [if_neg s] at e; rw [if_neg (by omega)]; omega
  have := key m hm (Int.le_refl m)
  rw [if_pos hz.2] at this
  exact this
theorem lstZ_ne {f g : Int → Int} {v m : Int} (hm : 0 ≤ m) (h : 0 < cntZ f v m) : lstZ f g v m ≠ -1 := by
  have key : ∀ i, 0 ≤ i → i ≤ m → (0 < cntZ f v i → lstZ f g v i ≠ -1) := by
    refine fZ_rel (P := fun i x y => 0 < x → y ≠ -1) (fun q => by omega) (M := m) (fun i x y q1 q2 e => ?_)
    intro q
    by_cases w : f i = v
    · by_cases s : y = -1
      · rw [if_pos ⟨w, Or.inl s⟩]; omega
      · split
        · omega
        · exact s
    · rw [if_neg w] at q
      rw [if_neg (fun z => w z.1)]
      exact e (by omega)
  exact key m hm (Int.le_refl m) h
theorem goG_cnt {g : Int → Int} {h : Int} (hh : 0 ≤ h ∧ h ≤ 2) (h0 : 0 ≤ g 0 ∧ g 0 ≤ 8) (hc : 0 < cntG g (h + 1)) : cntG (goG g h (lstG g h)) (h + 1) = cntG g (h + 1) - 1 := by
  have hne : lstG g h ≠ -1 := lstZ_ne h0.1 hc
  have hb := (lstG_b h h0.1).resolve_left hne
  unfold cntG
  rw [goG_k hh.1 (Or.inr hb.1) (by omega)]
  refine cntZ_ch h0.1 ⟨hb.1, hb.2.1⟩ hb.2.2 ?_ ?_
  · show ¬ goG g h (lstG g h) (6 + lstG g h) = h + 1
    rw [goG, if_neg hne, zu_n _ _ (by omega), zu_s]
    omega
  · intro k q1 q2 q3
    show goG g h (lstG g h) (6 + k) = h + 1 ↔ g (6 + k) = h + 1
    rw [goG, if_neg hne, zu_n _ _ (by omega), zu_n _ _ (by omega)]
def put4 (g : Int → Int) (t a b c d : Int) : Int → Int := zu (zu (zu (zu g t a) (t + 1) b) (t + 2) c) (t + 3) d
theorem callsG_k {g : Int → Int} {h : Int} (hh : 0 ≤ h) (h0 : 0 ≤ g 0) {k : Int} (hk : 0 ≤ k) {j : Int} (hj : j < 6) : (callsG g h k).2 j = g j := by
  have key : ∀ i, 0 ≤ i → i ≤ k → (∀ j, j < 6 → (callsG g h i).2 j = g j) :=
    fZ_ind (P := fun i (x : Int × (Int → Int)) => ∀ j, j < 6 → x.2 j = g j) (fun _ _ => rfl) (M := k) (fun i x q1 q2 e j hj => by
      show goG x.2 h (lstG x.2 h) j = g j
      have h1 := e 0 (by omega)
      have hb := lstG_b (g := x.2) h (by omega)
      rw [goG_k hh (hb.imp id (fun q => q.1)) hj]
      exact e j hj)
  exact key k hk (Int.le_refl k) j hj

abbrev rX8_behind : Room := { frames := 4, cells := 0, slots := 0, locals := 91 }
set_option maxHeartbeats 1000000 in
set_option maxRecDepth 100000 in
theorem c_X8_behind (l_ : Launch) (D : va_G) (cy : Nat → ClassId) (o : Nat → Nat) (ab : Int) (be : Int) (bl : Int) (ta : Int) (tl : Int) (tk : Int) (vl : Int) (g : Int → Int) (rf : Int → Int) (hd : Int → Int) (h : Int) (k : Int) (bg : ∀ j : Int, 0 ≤ g j ∧ g j ≤ 99) (bhd : ∀ j : Int, 0 ≤ hd j ∧ hd j ≤ 99) (rh : -2147483648 ≤ h ∧ h < 2147483648) (rk : -2147483648 ≤ k ∧ k < 2147483648) (hg0 : 0 ≤ g 0 ∧ g 0 ≤ 8) (hg1 : 0 ≤ g 1 ∧ g 1 ≤ 3) : CTi l_ D cy yX8_behind wsX8_behind rX8_behind [.ref (o 0), .int (zi h), .int (zi k)] ([wO cy o ab be bl ta tl tk vl, wA cy (o 1) 192 g, wR cy (o 4) 3 rf, wA cy (o 5) 36 hd]) (fun (z : Int) (u : (Int → Int) × (Int → Int)) => ((((0 ≤ h ∧ h < g 1) ∧ 1 ≤ k ∧ k ≤ 8) ∧ z = (callsG g h k).1 ∧ u.1 = rf) ∨ (¬ ((0 ≤ h ∧ h < g 1) ∧ 1 ≤ k ∧ k ≤ 8) ∧ z = -2 ∧ u.1 = rfZ rf 0)) ∧ (∀ j : Int, 0 ≤ u.2 j ∧ u.2 j ≤ 99)) (fun (u : (Int → Int) × (Int → Int)) => [wO cy o ab be bl ta tl tk vl, wA cy (o 1) 192 g, wR cy (o 4) 3 u.1, wA cy (o 5) 36 u.2]) := by
  refine CTi.of RX8 cX8_behind 5 rfl (by decide) rfl (fun z u hz => rfl) (Nat.le_of_ble_eq_true rfl) ?_
  intro p_ e_ s_ m_ ar_ be_ me_ c_ Q_ A_ ls_ F_ K_ W_ hl hret
  have hl : lv_has ls_ 5 [(0, .ref (o 0)), (1, .int (zi h)), (2, .int (zi k))] := hl
  obtain ⟨H_, hH_⟩ : ∃ x, x = s_.heap := ⟨_, rfl⟩
  obtain ⟨lo_, hlo_⟩ : ∃ x : List Loc, x = [] := ⟨_, rfl⟩
  have W_ : WD D A_ s_.heap ([wO cy o ab be bl ta tl tk vl, wA cy (o 1) 192 g, wR cy (o 4) 3 rf, wA cy (o 5) 36 hd]) H_ lo_ := by rw [hH_, hlo_]; exact W_
  rw [← hlo_]
  suffices hg_ : W p_ l_ e_ rX8_behind s_ m_ ar_ be_ me_ c_ H_ lo_ 0 0 Q_ (F0 m_ 0 ls_ []) by rw [hH_] at hg_; exact hg_
  clear hH_ hlo_
  have hinX8 : ∀ w ∈ u_ws RX8 TX8 19, w ∈ wsX8_behind := fun w h => List.mem_cons_of_mem _ (List.mem_append_right _ h)
  refine lv_aload_n F_.1 F_.2.1 dX8_behind_0 rfl (lv_at hl 0 rfl) ?_
  refine lv_iload_n F_.1 F_.2.1 dX8_behind_1 rfl (lv_at hl 1 rfl) ?_
  refine z_callVip F_ K_ W_ [.int (zi h)] (c_X8_isShip l_ D cy o ab be bl ta tl tk vl g h bg (by first | omega | assumption) (by first | omega | assumption)) 1 rfl gX8_behind_X8_isShip rfl (by decide +kernel) ⟨⟨Nat.le_of_ble_eq_true rfl, Nat.le_of_ble_eq_true rfl⟩, rfl, rfl, Nat.zero_le _, Nat.zero_le _⟩ 0 0 7 rfl rfl rfl rfl hl.1 rfl (Nat.le_of_ble_eq_true rfl) [0, 1] [2, 3] [wR cy (o 4) 3 rf, wA cy (o 5) 36 hd] 4 (by decide +kernel) rfl rfl rfl dX8_behind_2 (fun z_1 _ H_ lo_ hw_ W_ => ?_)
  have hw_ : ((z_1 = 1 ∧ (0 ≤ h ∧ h < g 1)) ∨ (z_1 = 0 ∧ ¬ (0 ≤ h ∧ h < g 1))) := hw_
  have f2_v := hw_
  refine z_if_eq (tgt := 20) F_ (by omega) dX8_behind_5 (by decide) (fun c5 => ?_) (fun c5 => ?_)
  · refine lv_aload_n F_.1 F_.2.1 dX8_behind_20 rfl (lv_at hl 0 rfl) ?_
    refine z_bipush F_ (by decide) dX8_behind_21 ?_
    refine z_callVi F_ K_ W_ [.int (zi (-2))] (c_X8_bad l_ D cy o ab be bl ta tl tk vl rf (-2) (by first | omega | assumption)) 1 rfl gX8_behind_X8_bad rfl (by decide +kernel) ⟨⟨Nat.le_of_ble_eq_true rfl, Nat.le_of_ble_eq_true rfl⟩, rfl, rfl, Nat.zero_le _, Nat.zero_le _⟩ 0 0 7 rfl rfl rfl rfl hl.1 rfl (Nat.le_of_ble_eq_true rfl) [0, 2] [1, 3] [wA cy (o 1) 192 g, wA cy (o 5) 36 hd] (fun (u_ : (Int → Int)) => [wO cy o ab be bl ta tl tk vl, wA cy (o 1) 192 g, wR cy (o 4) 3 u_, wA cy (o 5) 36 hd]) 4 (by decide +kernel) rfl rfl rfl (fun _ => rfl) (fun _ => rfl) (fun _ => rfl) dX8_behind_23 (fun z_2 u_ H_ lo_ hw_ W_ => ?_)
    obtain ⟨rf2_3, rfl⟩ : ∃ x, x = u_ := ⟨_, rfl⟩
    have W_ : WD D A_ s_.heap ([wO cy o ab be bl ta tl tk vl, wA cy (o 1) 192 g, wR cy (o 4) 3 rf2_3, wA cy (o 5) 36 hd]) H_ lo_ := W_
    have hw_ : (z_2 = (-2)) ∧ (rf2_3 = rfZ rf 0) := hw_
    obtain ⟨f23_v, f23_r⟩ := hw_
    exact hret _ _ _ _ z_2 (rf2_3, hd) dX8_behind_26 ⟨(by exact Or.inr ⟨by omega, by omega, by assumption⟩), bhd⟩ W_
  · refine lv_iload_n F_.1 F_.2.1 dX8_behind_8 rfl (lv_at hl 2 rfl) ?_
    refine z_i2l F_ (by omega) dX8_behind_9 ?_
    refine z_lconst (z := 1) F_ rfl dX8_behind_10 ?_
    refine z_ldc2 (z := 8) F_ (F_.2.2.2.2 _ (List.mem_of_getElem? (i := 1) rfl)) rfl dX8_behind_11 ?_
    refine z_callSip F_ K_ W_ [.long (zl k), .long (zl 1), .long (zl 8)] (c_X8_in l_ D cy k 1 8 (by first | omega | assumption)) 3 rfl gX8_behind_X8_in rfl (by decide +kernel) ⟨⟨Nat.le_of_ble_eq_true rfl, Nat.le_of_ble_eq_true rfl⟩, rfl, rfl, Nat.zero_le _, Nat.zero_le _⟩ hl.1 rfl (Nat.le_of_ble_eq_true rfl) ([] : List Nat) [0, 1, 2, 3] [wO cy o ab be bl ta tl tk vl, wA cy (o 1) 192 g, wR cy (o 4) 3 rf, wA cy (o 5) 36 hd] 4 (by decide +kernel) rfl rfl rfl dX8_behind_14 (fun z_4 _ H_ lo_ hw_ W_ => ?_)
    have hw_ : ((z_4 = 1 ∧ (1 ≤ k ∧ k ≤ 8)) ∨ (z_4 = 0 ∧ ¬ (1 ≤ k ∧ k ≤ 8))) := hw_
    have f14_v := hw_
    refine z_if_ne (tgt := 27) F_ (by omega) dX8_behind_17 (by decide) (fun c17 => ?_) (fun c17 => ?_)
    · refine z_iconst F_ dX8_behind_27 ?_
      refine lv_istore_n (lv' := [(3, .int (zi (-1))), (0, .ref (o 0)), (1, .int (zi h)), (2, .int (zi k))]) F_.1 F_.2.1 dX8_behind_28 rfl hl (by decide) rfl (fun ls_ hl => ?_)
      refine lv_aload_n F_.1 F_.2.1 dX8_behind_29 rfl (lv_at hl 1 rfl) ?_
      refine z_callVv F_ K_ W_ [] (c_X8_layHand l_ D cy o ab be bl ta tl tk vl g hd bg bhd) 0 rfl gX8_behind_X8_layHand rfl (by decide +kernel) ⟨⟨Nat.le_of_ble_eq_true rfl, Nat.le_of_ble_eq_true rfl⟩, rfl, rfl, Nat.zero_le _, Nat.zero_le _⟩ 0 0 7 rfl rfl rfl rfl hl.1 rfl (Nat.le_of_ble_eq_true rfl) [0, 1, 3] [2] [wR cy (o 4) 3 rf] (fun (u_ : Unit) => [wO cy o ab be bl ta tl tk vl, wA cy (o 1) 192 g, wR cy (o 4) 3 rf, wA cy (o 5) 36 g]) 4 (by decide +kernel) rfl rfl rfl (fun _ => rfl) (fun _ => rfl) (fun _ => rfl) dX8_behind_30 (fun u_ H_ lo_ hw_ W_ => ?_)
      have W_ : WD D A_ s_.heap ([wO cy o ab be bl ta tl tk vl, wA cy (o 1) 192 g, wR cy (o 4) 3 rf, wA cy (o 5) 36 g]) H_ lo_ := W_
      have hw_ : (∀ j : Int, 0 ≤ g j ∧ g j ≤ 99) := hw_
      have f30_B_H_g := hw_
      refine z_iconst F_ dX8_behind_33 ?_
      refine lv_istore (lv' := [(4, .int (zi 0)), (3, .int (zi (-1))), (0, .ref (o 0)), (1, .int (zi h)), (2, .int (zi k))]) F_.1 F_.2.1 dX8_behind_34 hl (by decide) rfl (fun ls_ hl => ?_)
      have L36 : ∀ (n_ : Nat) (v : Int) (y : Int) (x : Int → Int) (bx : ∀ j : Int, 0 ≤ x j ∧ x j ≤ 99) (hy : 0 ≤ y ∧ y ≤ k) (hv : v = (callsG g h y).1) (hx : x = (callsG g h y).2) (hx0 : x 0 = g 0) (hm_ : (k - y : Int) < (n_ : Int)) (ls_ : Array Slot) (H_ : Heap) (lo_ : List Loc), WD D A_ s_.heap ([wO cy o ab be bl ta tl tk vl, wA cy (o 1) 192 g, wR cy (o 4) 3 rf, wA cy (o 5) 36 x]) H_ lo_ → lv_has ls_ 5 [(4, .int (zi y)), (3, .int (zi v)), (0, .ref (o 0)), (1, .int (zi h)), (2, .int (zi k))] → W p_ l_ e_ rX8_behind s_ m_ ar_ be_ me_ c_ H_ lo_ 0 0 Q_ (F0 m_ 36 ls_ []) := by
        intro n_
        induction n_ with
        | zero =>
          intro v y x bx hy hv hx hx0 hm_ ls_ H_ lo_ _ _
          exact absurd hm_ (by omega)
        | succ n_ ih_ =>
          intro v y x bx hy hv hx hx0 hm_ ls_ H_ lo_ W_ hl
          have ih36 := ih_
          refine lv_iload F_.1 F_.2.1 dX8_behind_36 (lv_at hl 0 rfl) ?_
          refine lv_iload_n F_.1 F_.2.1 dX8_behind_38 rfl (lv_at hl 4 rfl) ?_
          refine z_icmp_ge (tgt := 57) F_ (by omega) dX8_behind_39 (by decide) (fun c39 => ?_) (fun c39 => ?_)
          · refine lv_iload_n F_.1 F_.2.1 dX8_behind_57 rfl (lv_at hl 1 rfl) ?_
            exact hret _ _ _ _ v (rf, x) dX8_behind_58 ⟨(by exact Or.inl ⟨by omega, by rw [hv, show y = k by omega], rfl⟩), bx⟩ W_
          · refine lv_aload_n F_.1 F_.2.1 dX8_behind_42 rfl (lv_at hl 2 rfl) ?_
            refine z_get F_ K_ W_ 0 0 6 rfl rfl rfl (C := RX8) (T := TX8) (N := 19) rfl (by decide) hinX8 (List.mem_of_getElem? (i := 2) rfl) dX8_behind_43 ?_
            refine lv_iload_n F_.1 F_.2.1 dX8_behind_46 rfl (lv_at hl 3 rfl) ?_
            refine z_callSi F_ K_ W_ [.ref (o 5), .int (zi h)] (c_X8_goCall l_ D cy (o 5) 36 x h bx (by first | omega | assumption) (by first | omega | assumption) (by first | omega | assumption) (by first | omega | assumption)) 2 rfl gX8_behind_X8_goCall rfl (by decide +kernel) ⟨⟨Nat.le_of_ble_eq_true rfl, Nat.le_of_ble_eq_true rfl⟩, rfl, rfl, Nat.zero_le _, Nat.zero_le _⟩ hl.1 rfl (Nat.le_of_ble_eq_true rfl) [3] [0, 1, 2] [wO cy o ab be bl ta tl tk vl, wA cy (o 1) 192 g, wR cy (o 4) 3 rf] (fun (u_ : (Int → Int)) => [wO cy o ab be bl ta tl tk vl, wA cy (o 1) 192 g, wR cy (o 4) 3 rf, wA cy (o 5) 36 u_]) 4 (by decide +kernel) rfl rfl rfl (fun _ => rfl) (fun _ => rfl) (fun _ => rfl) dX8_behind_47 (fun z_6 u_ H_ lo_ hw_ W_ => ?_)
            obtain ⟨g2_7, rfl⟩ : ∃ x, x = u_ := ⟨_, rfl⟩
            have W_ : WD D A_ s_.heap ([wO cy o ab be bl ta tl tk vl, wA cy (o 1) 192 g, wR cy (o 4) 3 rf, wA cy (o 5) 36 g2_7]) H_ lo_ := W_
            have hw_ : (z_6 = lstG x h) ∧ (g2_7 = goG x h (lstG x h)) ∧ ((z_6 = -1 ∨ (0 ≤ z_6 ∧ z_6 < x 0)) ∧ g2_7 0 = x 0 ∧ g2_7 1 = x 1) ∧ (∀ j : Int, 0 ≤ g2_7 j ∧ g2_7 j ≤ 99) := hw_
            obtain ⟨f47_v, f47_c, f47_k, f47_B_A_g⟩ := hw_
            refine lv_istore_n (lv' := [(3, .int (zi z_6)), (4, .int (zi y)), (0, .ref (o 0)), (1, .int (zi h)), (2, .int (zi k))]) F_.1 F_.2.1 dX8_behind_50 rfl hl (by decide) rfl (fun ls_ hl => ?_)
            refine z_iinc (lv' := [(4, .int (zi (y + 1))), (3, .int (zi z_6)), (0, .ref (o 0)), (1, .int (zi h)), (2, .int (zi k))]) F_ dX8_behind_51 hl (k := 1) rfl (by decide) rfl (fun ls_ hl => ?_)
            refine z_goto (tgt := 36) F_ dX8_behind_54 (by decide) ?_
            exact ih36 z_6 (y + 1) g2_7 f47_B_A_g (by first | omega | assumption) (by rw [callsG_s _ _ hy.1, f47_v, hx]) (by rw [callsG_s _ _ hy.1, f47_c, hx]) (by omega) (by omega) ls_ H_ lo_ W_ (lv_sub hl [0, 1, 2, 3, 4] rfl)
      exact L36 ((k - 0 : Int).toNat + 1) (-1) 0 g f30_B_H_g (by first | omega | assumption) (by rfl) (by rfl) (by rfl) (by have := Int.self_le_toNat (k - 0 : Int); omega) ls_ H_ lo_ W_ (lv_sub hl [0, 1, 2, 3, 4] rfl)
    · refine lv_aload_n F_.1 F_.2.1 dX8_behind_20 rfl (lv_at hl 0 rfl) ?_
      refine z_bipush F_ (by decide) dX8_behind_21 ?_
      refine z_callVi F_ K_ W_ [.int (zi (-2))] (c_X8_bad l_ D cy o ab be bl ta tl tk vl rf (-2) (by first | omega | assumption)) 1 rfl gX8_behind_X8_bad rfl (by decide +kernel) ⟨⟨Nat.le_of_ble_eq_true rfl, Nat.le_of_ble_eq_true rfl⟩, rfl, rfl, Nat.zero_le _, Nat.zero_le _⟩ 0 0 7 rfl rfl rfl rfl hl.1 rfl (Nat.le_of_ble_eq_true rfl) [0, 2] [1, 3] [wA cy (o 1) 192 g, wA cy (o 5) 36 hd] (fun (u_ : (Int → Int)) => [wO cy o ab be bl ta tl tk vl, wA cy (o 1) 192 g, wR cy (o 4) 3 u_, wA cy (o 5) 36 hd]) 4 (by decide +kernel) rfl rfl rfl (fun _ => rfl) (fun _ => rfl) (fun _ => rfl) dX8_behind_23 (fun z_8 u_ H_ lo_ hw_ W_ => ?_)
      obtain ⟨rf2_9, rfl⟩ : ∃ x, x = u_ := ⟨_, rfl⟩
      have W_ : WD D A_ s_.heap ([wO cy o ab be bl ta tl tk vl, wA cy (o 1) 192 g, wR cy (o 4) 3 rf2_9, wA cy (o 5) 36 hd]) H_ lo_ := W_
      have hw_ : (z_8 = (-2)) ∧ (rf2_9 = rfZ rf 0) := hw_
      obtain ⟨f23_v, f23_r⟩ := hw_
      exact hret _ _ _ _ z_8 (rf2_9, hd) dX8_behind_26 ⟨(by exact Or.inr ⟨by omega, by omega, by assumption⟩), bhd⟩ W_
abbrev rX8_lasts : Room := { frames := 4, cells := 0, slots := 0, locals := 91 }
set_option maxHeartbeats 1000000 in
set_option maxRecDepth 100000 in
theorem c_X8_lasts (l_ : Launch) (D : va_G) (cy : Nat → ClassId) (o : Nat → Nat) (ab : Int) (be : Int) (bl : Int) (ta : Int) (tl : Int) (tk : Int) (vl : Int) (g : Int → Int) (rf : Int → Int) (hd : Int → Int) (h : Int) (d : Int) (bg : ∀ j : Int, 0 ≤ g j ∧ g j ≤ 99) (bhd : ∀ j : Int, 0 ≤ hd j ∧ hd j ≤ 99) (rh : -2147483648 ≤ h ∧ h < 2147483648) (rd : -2147483648 ≤ d ∧ d < 2147483648) (hg0 : 0 ≤ g 0 ∧ g 0 ≤ 8) (hg1 : 0 ≤ g 1 ∧ g 1 ≤ 3) : CTi l_ D cy yX8_lasts wsX8_lasts rX8_lasts [.ref (o 0), .int (zi h), .int (zi d)] ([wO cy o ab be bl ta tl tk vl, wA cy (o 1) 192 g, wR cy (o 4) 3 rf, wA cy (o 5) 36 hd]) (fun (z : Int) (u : (Int → Int) × (Int → Int)) => ((((0 ≤ h ∧ h < g 1) ∧ 1 ≤ d ∧ d ≤ 30) ∧ (0 ≤ z ∧ ¬ canG (callsG g h z).2 h d ∧ ∀ j, 0 ≤ j → j < z → canG (callsG g h j).2 h d) ∧ u.1 = rf) ∨ (¬ ((0 ≤ h ∧ h < g 1) ∧ 1 ≤ d ∧ d ≤ 30) ∧ z = -2 ∧ u.1 = rfZ rf 0)) ∧ (∀ j : Int, 0 ≤ u.2 j ∧ u.2 j ≤ 99)) (fun (u : (Int → Int) × (Int → Int)) => [wO cy o ab be bl ta tl tk vl, wA cy (o 1) 192 g, wR cy (o 4) 3 u.1, wA cy (o 5) 36 u.2]) := by
  refine CTi.of RX8 cX8_lasts 5 rfl (by decide) rfl (fun z u hz => rfl) (Nat.le_of_ble_eq_true rfl) ?_
  intro p_ e_ s_ m_ ar_ be_ me_ c_ Q_ A_ ls_ F_ K_ W_ hl hret
  have hl : lv_has ls_ 5 [(0, .ref (o 0)), (1, .int (zi h)), (2, .int (zi d))] := hl
  obtain ⟨H_, hH_⟩ : ∃ x, x = s_.heap := ⟨_, rfl⟩
  obtain ⟨lo_, hlo_⟩ : ∃ x : List Loc, x = [] := ⟨_, rfl⟩
  have W_ : WD D A_ s_.heap ([wO cy o ab be bl ta tl tk vl, wA cy (o 1) 192 g, wR cy (o 4) 3 rf, wA cy (o 5) 36 hd]) H_ lo_ := by rw [hH_, hlo_]; exact W_
  rw [← hlo_]
  suffices hg_ : W p_ l_ e_ rX8_lasts s_ m_ ar_ be_ me_ c_ H_ lo_ 0 0 Q_ (F0 m_ 0 ls_ []) by rw [hH_] at hg_; exact hg_
  clear hH_ hlo_
  have hinX8 : ∀ w ∈ u_ws RX8 TX8 19, w ∈ wsX8_lasts := fun w h => List.mem_cons_of_mem _ (List.mem_append_right _ h)
  refine lv_aload_n F_.1 F_.2.1 dX8_lasts_0 rfl (lv_at hl 0 rfl) ?_
  refine lv_iload_n F_.1 F_.2.1 dX8_lasts_1 rfl (lv_at hl 1 rfl) ?_
  refine z_callVip F_ K_ W_ [.int (zi h)] (c_X8_isShip l_ D cy o ab be bl ta tl tk vl g h bg (by first | omega | assumption) (by first | omega | assumption)) 1 rfl gX8_lasts_X8_isShip rfl (by decide +kernel) ⟨⟨Nat.le_of_ble_eq_true rfl, Nat.le_of_ble_eq_true rfl⟩, rfl, rfl, Nat.zero_le _, Nat.zero_le _⟩ 0 0 7 rfl rfl rfl rfl hl.1 rfl (Nat.le_of_ble_eq_true rfl) [0, 1] [2, 3] [wR cy (o 4) 3 rf, wA cy (o 5) 36 hd] 4 (by decide +kernel) rfl rfl rfl dX8_lasts_2 (fun z_1 _ H_ lo_ hw_ W_ => ?_)
  have hw_ : ((z_1 = 1 ∧ (0 ≤ h ∧ h < g 1)) ∨ (z_1 = 0 ∧ ¬ (0 ≤ h ∧ h < g 1))) := hw_
  have f2_v := hw_
  refine z_if_eq (tgt := 15) F_ (by omega) dX8_lasts_5 (by decide) (fun c5 => ?_) (fun c5 => ?_)
  · refine lv_aload_n F_.1 F_.2.1 dX8_lasts_15 rfl (lv_at hl 0 rfl) ?_
    refine z_bipush F_ (by decide) dX8_lasts_16 ?_
    refine z_callVi F_ K_ W_ [.int (zi (-2))] (c_X8_bad l_ D cy o ab be bl ta tl tk vl rf (-2) (by first | omega | assumption)) 1 rfl gX8_lasts_X8_bad rfl (by decide +kernel) ⟨⟨Nat.le_of_ble_eq_true rfl, Nat.le_of_ble_eq_true rfl⟩, rfl, rfl, Nat.zero_le _, Nat.zero_le _⟩ 0 0 7 rfl rfl rfl rfl hl.1 rfl (Nat.le_of_ble_eq_true rfl) [0, 2] [1, 3] [wA cy (o 1) 192 g, wA cy (o 5) 36 hd] (fun (u_ : (Int → Int)) => [wO cy o ab be bl ta tl tk vl, wA cy (o 1) 192 g, wR cy (o 4) 3 u_, wA cy (o 5) 36 hd]) 4 (by decide +kernel) rfl rfl rfl (fun _ => rfl) (fun _ => rfl) (fun _ => rfl) dX8_lasts_18 (fun z_2 u_ H_ lo_ hw_ W_ => ?_)
    obtain ⟨rf2_3, rfl⟩ : ∃ x, x = u_ := ⟨_, rfl⟩
    have W_ : WD D A_ s_.heap ([wO cy o ab be bl ta tl tk vl, wA cy (o 1) 192 g, wR cy (o 4) 3 rf2_3, wA cy (o 5) 36 hd]) H_ lo_ := W_
    have hw_ : (z_2 = (-2)) ∧ (rf2_3 = rfZ rf 0) := hw_
    obtain ⟨f18_v, f18_r⟩ := hw_
    exact hret _ _ _ _ z_2 (rf2_3, hd) dX8_lasts_21 ⟨(by exact Or.inr ⟨by omega, by omega, by assumption⟩), bhd⟩ W_
  · refine lv_iload_n F_.1 F_.2.1 dX8_lasts_8 rfl (lv_at hl 2 rfl) ?_
    refine z_callSip F_ K_ W_ [.int (zi d)] (c_X8_isFar l_ D cy d (by first | omega | assumption)) 1 rfl gX8_lasts_X8_isFar rfl (by decide +kernel) ⟨⟨Nat.le_of_ble_eq_true rfl, Nat.le_of_ble_eq_true rfl⟩, rfl, rfl, Nat.zero_le _, Nat.zero_le _⟩ hl.1 rfl (Nat.le_of_ble_eq_true rfl) ([] : List Nat) [0, 1, 2, 3] [wO cy o ab be bl ta tl tk vl, wA cy (o 1) 192 g, wR cy (o 4) 3 rf, wA cy (o 5) 36 hd] 4 (by decide +kernel) rfl rfl rfl dX8_lasts_9 (fun z_4 _ H_ lo_ hw_ W_ => ?_)
    have hw_ : ((z_4 = 1 ∧ (1 ≤ d ∧ d ≤ 30)) ∨ (z_4 = 0 ∧ ¬ (1 ≤ d ∧ d ≤ 30))) := hw_
    have f9_v := hw_
    refine z_if_ne (tgt := 22) F_ (by omega) dX8_lasts_12 (by decide) (fun c12 => ?_) (fun c12 => ?_)
    · refine z_iconst F_ dX8_lasts_22 ?_
      refine lv_istore_n (lv' := [(3, .int (zi 0)), (0, .ref (o 0)), (1, .int (zi h)), (2, .int (zi d))]) F_.1 F_.2.1 dX8_lasts_23 rfl hl (by decide) rfl (fun ls_ hl => ?_)
      refine lv_aload_n F_.1 F_.2.1 dX8_lasts_24 rfl (lv_at hl 1 rfl) ?_
      refine z_callVv F_ K_ W_ [] (c_X8_layHand l_ D cy o ab be bl ta tl tk vl g hd bg bhd) 0 rfl gX8_lasts_X8_layHand rfl (by decide +kernel) ⟨⟨Nat.le_of_ble_eq_true rfl, Nat.le_of_ble_eq_true rfl⟩, rfl, rfl, Nat.zero_le _, Nat.zero_le _⟩ 0 0 7 rfl rfl rfl rfl hl.1 rfl (Nat.le_of_ble_eq_true rfl) [0, 1, 3] [2] [wR cy (o 4) 3 rf] (fun (u_ : Unit) => [wO cy o ab be bl ta tl tk vl, wA cy (o 1) 192 g, wR cy (o 4) 3 rf, wA cy (o 5) 36 g]) 4 (by decide +kernel) rfl rfl rfl (fun _ => rfl) (fun _ => rfl) (fun _ => rfl) dX8_lasts_25 (fun u_ H_ lo_ hw_ W_ => ?_)
      have W_ : WD D A_ s_.heap ([wO cy o ab be bl ta tl tk vl, wA cy (o 1) 192 g, wR cy (o 4) 3 rf, wA cy (o 5) 36 g]) H_ lo_ := W_
      have hw_ : (∀ j : Int, 0 ≤ g j ∧ g j ≤ 99) := hw_
      have f25_B_H_g := hw_
      have L28 : ∀ (n_ : Nat) (y : Int) (x : Int → Int) (bx : ∀ j : Int, 0 ≤ x j ∧ x j ≤ 99) (hx : x = (callsG g h y).2) (hx0 : x 0 = g 0) (ha : ∀ j, 0 ≤ j → j < y → canG (callsG g h j).2 h d) (hy : 0 ≤ y ∧ y ≤ 8 - cntG x (h + 1) ∧ 0 ≤ cntG x (h + 1)) (hm_ : (cntG x (h + 1) : Int) < (n_ : Int)) (ls_ : Array Slot) (H_ : Heap) (lo_ : List Loc), WD D A_ s_.heap ([wO cy o ab be bl ta tl tk vl, wA cy (o 1) 192 g, wR cy (o 4) 3 rf, wA cy (o 5) 36 x]) H_ lo_ → lv_has ls_ 5 [(3, .int (zi y)), (0, .ref (o 0)), (1, .int (zi h)), (2, .int (zi d))] → W p_ l_ e_ rX8_lasts s_ m_ ar_ be_ me_ c_ H_ lo_ 0 0 Q_ (F0 m_ 28 ls_ []) := by
        intro n_
        induction n_ with
        | zero =>
          intro y x bx hx hx0 ha hy hm_ ls_ H_ lo_ _ _
          exact absurd hm_ (by omega)
        | succ n_ ih_ =>
          intro y x bx hx hx0 ha hy hm_ ls_ H_ lo_ W_ hl
          have ih28 := ih_
          refine lv_aload_n F_.1 F_.2.1 dX8_lasts_28 rfl (lv_at hl 1 rfl) ?_
          refine z_get F_ K_ W_ 0 0 6 rfl rfl rfl (C := RX8) (T := TX8) (N := 19) rfl (by decide) hinX8 (List.mem_of_getElem? (i := 1) rfl) dX8_lasts_29 ?_
          refine lv_iload_n F_.1 F_.2.1 dX8_lasts_32 rfl (lv_at hl 2 rfl) ?_
          refine lv_iload_n F_.1 F_.2.1 dX8_lasts_33 rfl (lv_at hl 3 rfl) ?_
          refine z_callSip F_ K_ W_ [.ref (o 5), .int (zi h), .int (zi d)] (c_X8_canSail l_ D cy (o 5) 36 x h d bx (by first | omega | assumption) (by first | omega | assumption) (by first | omega | assumption) (by first | omega | assumption) (by first | omega | assumption) (by first | omega | assumption)) 3 rfl gX8_lasts_X8_canSail rfl (by decide +kernel) ⟨⟨Nat.le_of_ble_eq_true rfl, Nat.le_of_ble_eq_true rfl⟩, rfl, rfl, Nat.zero_le _, Nat.zero_le _⟩ hl.1 rfl (Nat.le_of_ble_eq_true rfl) [3] [0, 1, 2] [wO cy o ab be bl ta tl tk vl, wA cy (o 1) 192 g, wR cy (o 4) 3 rf] 4 (by decide +kernel) rfl rfl rfl dX8_lasts_34 (fun z_6 _ H_ lo_ hw_ W_ => ?_)
          have hw_ : ((z_6 = 1 ∧ canG x h d) ∨ (z_6 = 0 ∧ ¬ canG x h d)) := hw_
          have f34_v := hw_
          refine z_if_eq (tgt := 56) F_ (by omega) dX8_lasts_37 (by decide) (fun c37 => ?_) (fun c37 => ?_)
          · refine lv_iload_n F_.1 F_.2.1 dX8_lasts_56 rfl (lv_at hl 0 rfl) ?_
            exact hret _ _ _ _ y (rf, x) dX8_lasts_57 ⟨(by exact Or.inl ⟨by omega, ⟨hy.1, by rw [← hx]; exact f34_v.elim (fun q => absurd q.1 (by omega)) (fun q => q.2), ha⟩, rfl⟩), bx⟩ W_
          · have hcn := f34_v.elim (fun q => q.2) (fun q => absurd q.1 (by omega))
            have hgc := goG_cnt (g := x) (h := h) (by omega) (by omega) hcn.1
            have hcp := hcn.1
            refine lv_aload_n F_.1 F_.2.1 dX8_lasts_40 rfl (lv_at hl 1 rfl) ?_
            refine z_get F_ K_ W_ 0 0 6 rfl rfl rfl (C := RX8) (T := TX8) (N := 19) rfl (by decide) hinX8 (List.mem_of_getElem? (i := 1) rfl) dX8_lasts_41 ?_
            refine lv_iload_n F_.1 F_.2.1 dX8_lasts_44 rfl (lv_at hl 2 rfl) ?_
            refine z_callSi F_ K_ W_ [.ref (o 5), .int (zi h)] (c_X8_goCall l_ D cy (o 5) 36 x h bx (by first | omega | assumption) (by first | omega | assumption) (by first | omega | assumption) (by first | omega | assumption)) 2 rfl gX8_lasts_X8_goCall rfl (by decide +kernel) ⟨⟨Nat.le_of_ble_eq_true rfl, Nat.le_of_ble_eq_true rfl⟩, rfl, rfl, Nat.zero_le _, Nat.zero_le _⟩ hl.1 rfl (Nat.le_of_ble_eq_true rfl) [3] [0, 1, 2] [wO cy o ab be bl ta tl tk vl, wA cy (o 1) 192 g, wR cy (o 4) 3 rf] (fun (u_ : (Int → Int)) => [wO cy o ab be bl ta tl tk vl, wA cy (o 1) 192 g, wR cy (o 4) 3 rf, wA cy (o 5) 36 u_]) 4 (by decide +kernel) rfl rfl rfl (fun _ => rfl) (fun _ => rfl) (fun _ => rfl) dX8_lasts_45 (fun z_7 u_ H_ lo_ hw_ W_ => ?_)
            obtain ⟨g2_8, rfl⟩ : ∃ x, x = u_ := ⟨_, rfl⟩
            have W_ : WD D A_ s_.heap ([wO cy o ab be bl ta tl tk vl, wA cy (o 1) 192 g, wR cy (o 4) 3 rf, wA cy (o 5) 36 g2_8]) H_ lo_ := W_
            have hw_ : (z_7 = lstG x h) ∧ (g2_8 = goG x h (lstG x h)) ∧ ((z_7 = -1 ∨ (0 ≤ z_7 ∧ z_7 < x 0)) ∧ g2_8 0 = x 0 ∧ g2_8 1 = x 1) ∧ (∀ j : Int, 0 ≤ g2_8 j ∧ g2_8 j ≤ 99) := hw_
            obtain ⟨f45_v, f45_c, f45_k, f45_B_A_g⟩ := hw_
            refine lv_istore (lv' := [(4, .int (zi z_7)), (3, .int (zi y)), (0, .ref (o 0)), (1, .int (zi h)), (2, .int (zi d))]) F_.1 F_.2.1 dX8_lasts_48 hl (by decide) rfl (fun ls_ hl => ?_)
            refine z_iinc (lv' := [(3, .int (zi (y + 1))), (4, .int (zi z_7)), (0, .ref (o 0)), (1, .int (zi h)), (2, .int (zi d))]) F_ dX8_lasts_50 hl (k := 1) rfl (by decide) rfl (fun ls_ hl => ?_)
            refine z_goto (tgt := 28) F_ dX8_lasts_53 (by decide) ?_
            exact ih28 (y + 1) g2_8 f45_B_A_g (by rw [callsG_s _ _ hy.1, f45_c, hx]) (by omega) (by intro j h1 h2; rcases Int.lt_or_eq_of_le (show j ≤ y by omega) with q | q; exact ha j h1 q; rw [q, ← hx]; exact hcn) (by rw [f45_c, hgc]; omega) (by rw [f45_c, hgc]; omega) ls_ H_ lo_ W_ (lv_sub hl [0, 2, 3, 4] rfl)
      exact L28 ((cntG g (h + 1) : Int).toNat + 1) 0 g f25_B_H_g (by rfl) (by rfl) (by intro j h1 h2; omega) (by have hcb : 0 ≤ cntG g (h + 1) ∧ cntG g (h + 1) ≤ g 0 := cntZ_b (shZ g 6) (h + 1) (m := g 0) (by omega); omega) (by have := Int.self_le_toNat (cntG g (h + 1) : Int); omega) ls_ H_ lo_ W_ (lv_sub hl [0, 1, 2, 3] rfl)
    · refine lv_aload_n F_.1 F_.2.1 dX8_lasts_15 rfl (lv_at hl 0 rfl) ?_
      refine z_bipush F_ (by decide) dX8_lasts_16 ?_
      refine z_callVi F_ K_ W_ [.int (zi (-2))] (c_X8_bad l_ D cy o ab be bl ta tl tk vl rf (-2) (by first | omega | assumption)) 1 rfl gX8_lasts_X8_bad rfl (by decide +kernel) ⟨⟨Nat.le_of_ble_eq_true rfl, Nat.le_of_ble_eq_true rfl⟩, rfl, rfl, Nat.zero_le _, Nat.zero_le _⟩ 0 0 7 rfl rfl rfl rfl hl.1 rfl (Nat.le_of_ble_eq_true rfl) [0, 2] [1, 3] [wA cy (o 1) 192 g, wA cy (o 5) 36 hd] (fun (u_ : (Int → Int)) => [wO cy o ab be bl ta tl tk vl, wA cy (o 1) 192 g, wR cy (o 4) 3 u_, wA cy (o 5) 36 hd]) 4 (by decide +kernel) rfl rfl rfl (fun _ => rfl) (fun _ => rfl) (fun _ => rfl) dX8_lasts_18 (fun z_9 u_ H_ lo_ hw_ W_ => ?_)
      obtain ⟨rf2_10, rfl⟩ : ∃ x, x = u_ := ⟨_, rfl⟩
      have W_ : WD D A_ s_.heap ([wO cy o ab be bl ta tl tk vl, wA cy (o 1) 192 g, wR cy (o 4) 3 rf2_10, wA cy (o 5) 36 hd]) H_ lo_ := W_
      have hw_ : (z_9 = (-2)) ∧ (rf2_10 = rfZ rf 0) := hw_
      obtain ⟨f18_v, f18_r⟩ := hw_
      exact hret _ _ _ _ z_9 (rf2_10, hd) dX8_lasts_21 ⟨(by exact Or.inr ⟨by omega, by omega, by assumption⟩), bhd⟩ W_
abbrev rX8_layFour : Room := { frames := 0, cells := 0, slots := 0, locals := 0 }
set_option maxHeartbeats 1000000 in
set_option maxRecDepth 100000 in
theorem c_X8_layFour (l_ : Launch) (D : va_G) (cy : Nat → ClassId) (o : Nat → Nat) (ab : Int) (be : Int) (bl : Int) (ta : Int) (tl : Int) (tk : Int) (vl : Int) (g : Int → Int) (t : Int) (x0 : Int) (x1 : Int) (x2 : Int) (x3 : Int) (bg : ∀ j : Int, 0 ≤ g j ∧ g j ≤ 99) (rt : -2147483648 ≤ t ∧ t < 2147483648) (rx0 : -2147483648 ≤ x0 ∧ x0 < 2147483648) (rx1 : -2147483648 ≤ x1 ∧ x1 < 2147483648) (rx2 : -2147483648 ≤ x2 ∧ x2 < 2147483648) (rx3 : -2147483648 ≤ x3 ∧ x3 < 2147483648) (ht : 36 ≤ t ∧ t ≤ 100) (hx : 0 ≤ x0 ∧ x0 ≤ 99 ∧ 0 ≤ x1 ∧ x1 ≤ 99 ∧ 0 ≤ x2 ∧ x2 ≤ 99 ∧ 0 ≤ x3 ∧ x3 ≤ 99) : CTv l_ D cy yX8_layFour wsX8_layFour rX8_layFour [.ref (o 0), .int (zi t), .int (zi x0), .int (zi x1), .int (zi x2), .int (zi x3)] ([wO cy o ab be bl ta tl tk vl, wA cy (o 1) 192 g]) (fun (u : (Int → Int)) => (u = put4 g t x0 x1 x2 x3) ∧ (∀ j : Int, 0 ≤ u j ∧ u j ≤ 99)) (fun (u : (Int → Int)) => [wO cy o ab be bl ta tl tk vl, wA cy (o 1) 192 u]) := by
  refine CTv.of RX8 cX8_layFour 6 rfl (by decide) rfl (Nat.le_of_ble_eq_true rfl) ?_
  intro p_ e_ s_ m_ ar_ be_ me_ c_ Q_ A_ ls_ F_ K_ W_ hl hret
  have hl : lv_has ls_ 6 [(0, .ref (o 0)), (1, .int (zi t)), (2, .int (zi x0)), (3, .int (zi x1)), (4, .int (zi x2)), (5, .int (zi x3))] := hl
  obtain ⟨H_, hH_⟩ : ∃ x, x = s_.heap := ⟨_, rfl⟩
  obtain ⟨lo_, hlo_⟩ : ∃ x : List Loc, x = [] := ⟨_, rfl⟩
  have W_ : WD D A_ s_.heap ([wO cy o ab be bl ta tl tk vl, wA cy (o 1) 192 g]) H_ lo_ := by rw [hH_, hlo_]; exact W_
  rw [← hlo_]
  suffices hg_ : W p_ l_ e_ rX8_layFour s_ m_ ar_ be_ me_ c_ H_ lo_ 0 0 Q_ (F0 m_ 0 ls_ []) by rw [hH_] at hg_; exact hg_
  clear hH_ hlo_
  have hinX8 : ∀ w ∈ u_ws RX8 TX8 19, w ∈ wsX8_layFour := fun w h => List.mem_cons_of_mem _ (List.mem_append_right _ h)
  refine lv_aload_n F_.1 F_.2.1 dX8_layFour_0 rfl (lv_at hl 0 rfl) ?_
  refine z_get F_ K_ W_ 0 0 0 rfl rfl rfl (C := RX8) (T := TX8) (N := 19) rfl (by decide) hinX8 (List.mem_of_getElem? (i := 1) rfl) dX8_layFour_1 ?_
  refine lv_iload_n F_.1 F_.2.1 dX8_layFour_4 rfl (lv_at hl 1 rfl) ?_
  refine lv_iload_n F_.1 F_.2.1 dX8_layFour_5 rfl (lv_at hl 2 rfl) ?_
  refine z_iast (sg' := [wO cy o ab be bl ta tl tk vl, wA cy (o 1) 192 (zu g t x0)]) F_ K_ W_ 1 0 rfl rfl rfl (by omega) (by decide) dX8_layFour_6 (fun H_ lo_ W_ => ?_)
  obtain ⟨g_1, eg_1⟩ : ∃ x_ : Int → Int, x_ = zu g t x0 := ⟨_, rfl⟩
  rw [← eg_1] at W_
  have bg_1 : ∀ j : Int, 0 ≤ g_1 j ∧ g_1 j ≤ 99 := by rw [eg_1]; exact zu_b bg (by omega)
  refine lv_aload_n F_.1 F_.2.1 dX8_layFour_7 rfl (lv_at hl 0 rfl) ?_
  refine z_get F_ K_ W_ 0 0 0 rfl rfl rfl (C := RX8) (T := TX8) (N := 19) rfl (by decide) hinX8 (List.mem_of_getElem? (i := 1) rfl) dX8_layFour_8 ?_
  refine lv_iload_n F_.1 F_.2.1 dX8_layFour_11 rfl (lv_at hl 1 rfl) ?_
  refine z_iconst F_ dX8_layFour_12 ?_
  refine z_iadd F_ dX8_layFour_13 ?_
  refine lv_iload_n F_.1 F_.2.1 dX8_layFour_14 rfl (lv_at hl 3 rfl) ?_
  refine z_iast (sg' := [wO cy o ab be bl ta tl tk vl, wA cy (o 1) 192 (zu g_1 (t + 1) x1)]) F_ K_ W_ 1 0 rfl rfl rfl (by omega) (by decide) dX8_layFour_15 (fun H_ lo_ W_ => ?_)
  obtain ⟨g_2, eg_2⟩ : ∃ x_ : Int → Int, x_ = zu g_1 (t + 1) x1 := ⟨_, rfl⟩
  rw [← eg_2] at W_
  have bg_2 : ∀ j : Int, 0 ≤ g_2 j ∧ g_2 j ≤ 99 := by rw [eg_2]; exact zu_b bg_1 (by omega)
  refine lv_aload_n F_.1 F_.2.1 dX8_layFour_16 rfl (lv_at hl 0 rfl) ?_
  refine z_get F_ K_ W_ 0 0 0 rfl rfl rfl (C := RX8) (T := TX8) (N := 19) rfl (by decide) hinX8 (List.mem_of_getElem? (i := 1) rfl) dX8_layFour_17 ?_
  refine lv_iload_n F_.1 F_.2.1 dX8_layFour_20 rfl (lv_at hl 1 rfl) ?_
  refine z_iconst F_ dX8_layFour_21 ?_
  refine z_iadd F_ dX8_layFour_22 ?_
  refine lv_iload F_.1 F_.2.1 dX8_layFour_23 (lv_at hl 4 rfl) ?_
  refine z_iast (sg' := [wO cy o ab be bl ta tl tk vl, wA cy (o 1) 192 (zu g_2 (t + 2) x2)]) F_ K_ W_ 1 0 rfl rfl rfl (by omega) (by decide) dX8_layFour_25 (fun H_ lo_ W_ => ?_)
  obtain ⟨g_3, eg_3⟩ : ∃ x_ : Int → Int, x_ = zu g_2 (t + 2) x2 := ⟨_, rfl⟩
  rw [← eg_3] at W_
  have bg_3 : ∀ j : Int, 0 ≤ g_3 j ∧ g_3 j ≤ 99 := by rw [eg_3]; exact zu_b bg_2 (by omega)
  refine lv_aload_n F_.1 F_.2.1 dX8_layFour_26 rfl (lv_at hl 0 rfl) ?_
  refine z_get F_ K_ W_ 0 0 0 rfl rfl rfl (C := RX8) (T := TX8) (N := 19) rfl (by decide) hinX8 (List.mem_of_getElem? (i := 1) rfl) dX8_layFour_27 ?_
  refine lv_iload_n F_.1 F_.2.1 dX8_layFour_30 rfl (lv_at hl 1 rfl) ?_
  refine z_iconst F_ dX8_layFour_31 ?_
  refine z_iadd F_ dX8_layFour_32 ?_
  refine lv_iload F_.1 F_.2.1 dX8_layFour_33 (lv_at hl 5 rfl) ?_
  refine z_iast (sg' := [wO cy o ab be bl ta tl tk vl, wA cy (o 1) 192 (zu g_3 (t + 3) x3)]) F_ K_ W_ 1 0 rfl rfl rfl (by omega) (by decide) dX8_layFour_35 (fun H_ lo_ W_ => ?_)
  obtain ⟨g_4, eg_4⟩ : ∃ x_ : Int → Int, x_ = zu g_3 (t + 3) x3 := ⟨_, rfl⟩
  rw [← eg_4] at W_
  have bg_4 : ∀ j : Int, 0 ≤ g_4 j ∧ g_4 j ≤ 99 := by rw [eg_4]; exact zu_b bg_3 (by omega)
  exact hret _ _ _ _ g_4 dX8_layFour_36 ⟨(by simp only [put4, *]), bg_4⟩ W_
abbrev rX8_seen : Room := { frames := 2, cells := 0, slots := 0, locals := 46 }
set_option maxHeartbeats 1000000 in
set_option maxRecDepth 100000 in
theorem c_X8_seen (l_ : Launch) (D : va_G) (cy : Nat → ClassId) (o : Nat → Nat) (ab : Int) (be : Int) (bl : Int) (ta : Int) (tl : Int) (tk : Int) (vl : Int) (g : Int → Int) (rf : Int → Int) (a0 : Int) (a1 : Int) (a2 : Int) (a3 : Int) (bg : ∀ j : Int, 0 ≤ g j ∧ g j ≤ 99) (ra0 : -2147483648 ≤ a0 ∧ a0 < 2147483648) (ra1 : -2147483648 ≤ a1 ∧ a1 < 2147483648) (ra2 : -2147483648 ≤ a2 ∧ a2 < 2147483648) (ra3 : -2147483648 ≤ a3 ∧ a3 < 2147483648) (hg0 : 0 ≤ g 0 ∧ g 0 ≤ 8) (hg1 : 0 ≤ g 1 ∧ g 1 ≤ 3) (hgc : 0 ≤ g 2 ∧ g 2 ≤ 5) : CTi l_ D cy yX8_seen wsX8_seen rX8_seen [.ref (o 0), .int (zi a0), .int (zi a1), .int (zi a2), .int (zi a3)] ([wO cy o ab be bl ta tl tk vl, wA cy (o 1) 192 g, wR cy (o 4) 3 rf]) (fun (z : Int) (u : (Int → Int) × (Int → Int)) => ((¬ ((0 ≤ a0 ∧ a0 < g 0) ∧ (0 ≤ a1 ∧ a1 ≤ 99) ∧ (0 ≤ a2 ∧ a2 ≤ 30) ∧ (0 ≤ a3 ∧ a3 ≤ 1)) ∧ z = -2 ∧ u.1 = g ∧ u.2 = rfZ rf 0) ∨ (((0 ≤ a0 ∧ a0 < g 0) ∧ (0 ≤ a1 ∧ a1 ≤ 99) ∧ (0 ≤ a2 ∧ a2 ≤ 30) ∧ (0 ≤ a3 ∧ a3 ≤ 1)) ∧ g 2 = 5 ∧ z = -4 ∧ u.1 = g ∧ u.2 = rfZ rf 2) ∨ (((0 ≤ a0 ∧ a0 < g 0) ∧ (0 ≤ a1 ∧ a1 ≤ 99) ∧ (0 ≤ a2 ∧ a2 ≤ 30) ∧ (0 ≤ a3 ∧ a3 ≤ 1)) ∧ g 2 < 5 ∧ z = g 2 + 1 ∧ u.1 = zu (put4 g (36 + 4 * g 2) a0 a1 a2 a3) 2 (g 2 + 1) ∧ u.2 = rf)) ∧ (∀ j : Int, 0 ≤ u.1 j ∧ u.1 j ≤ 99)) (fun (u : (Int → Int) × (Int → Int)) => [wO cy o ab be bl ta tl tk vl, wA cy (o 1) 192 u.1, wR cy (o 4) 3 u.2]) := by
  refine CTi.of RX8 cX8_seen 5 rfl (by decide) rfl (fun z u hz => rfl) (Nat.le_of_ble_eq_true rfl) ?_
  intro p_ e_ s_ m_ ar_ be_ me_ c_ Q_ A_ ls_ F_ K_ W_ hl hret
  have hl : lv_has ls_ 5 [(0, .ref (o 0)), (1, .int (zi a0)), (2, .int (zi a1)), (3, .int (zi a2)), (4, .int (zi a3))] := hl
  obtain ⟨H_, hH_⟩ : ∃ x, x = s_.heap := ⟨_, rfl⟩
  obtain ⟨lo_, hlo_⟩ : ∃ x : List Loc, x = [] := ⟨_, rfl⟩
  have W_ : WD D A_ s_.heap ([wO cy o ab be bl ta tl tk vl, wA cy (o 1) 192 g, wR cy (o 4) 3 rf]) H_ lo_ := by rw [hH_, hlo_]; exact W_
  rw [← hlo_]
  suffices hg_ : W p_ l_ e_ rX8_seen s_ m_ ar_ be_ me_ c_ H_ lo_ 0 0 Q_ (F0 m_ 0 ls_ []) by rw [hH_] at hg_; exact hg_
  clear hH_ hlo_
  have hinX8 : ∀ w ∈ u_ws RX8 TX8 19, w ∈ wsX8_seen := fun w h => List.mem_cons_of_mem _ (List.mem_append_right _ h)
  refine lv_aload_n F_.1 F_.2.1 dX8_seen_0 rfl (lv_at hl 0 rfl) ?_
  refine lv_iload_n F_.1 F_.2.1 dX8_seen_1 rfl (lv_at hl 1 rfl) ?_
  refine z_callVip F_ K_ W_ [.int (zi a0)] (c_X8_isMan l_ D cy o ab be bl ta tl tk vl g a0 bg (by first | omega | assumption) (by first | omega | assumption)) 1 rfl gX8_seen_X8_isMan rfl (by decide +kernel) ⟨⟨Nat.le_of_ble_eq_true rfl, Nat.le_of_ble_eq_true rfl⟩, rfl, rfl, Nat.zero_le _, Nat.zero_le _⟩ 0 0 7 rfl rfl rfl rfl hl.1 rfl (Nat.le_of_ble_eq_true rfl) [0, 1] [2] [wR cy (o 4) 3 rf] 3 (by decide +kernel) rfl rfl rfl dX8_seen_2 (fun z_1 _ H_ lo_ hw_ W_ => ?_)
  have hw_ : ((z_1 = 1 ∧ (0 ≤ a0 ∧ a0 < g 0)) ∨ (z_1 = 0 ∧ ¬ (0 ≤ a0 ∧ a0 < g 0))) := hw_
  have f2_v := hw_
  refine z_if_eq (tgt := 43) F_ (by omega) dX8_seen_5 (by decide) (fun c5 => ?_) (fun c5 => ?_)
  · refine lv_aload_n F_.1 F_.2.1 dX8_seen_43 rfl (lv_at hl 0 rfl) ?_
    refine z_bipush F_ (by decide) dX8_seen_44 ?_
    refine z_callVi F_ K_ W_ [.int (zi (-2))] (c_X8_bad l_ D cy o ab be bl ta tl tk vl rf (-2) (by first | omega | assumption)) 1 rfl gX8_seen_X8_bad rfl (by decide +kernel) ⟨⟨Nat.le_of_ble_eq_true rfl, Nat.le_of_ble_eq_true rfl⟩, rfl, rfl, Nat.zero_le _, Nat.zero_le _⟩ 0 0 7 rfl rfl rfl rfl hl.1 rfl (Nat.le_of_ble_eq_true rfl) [0, 2] [1] [wA cy (o 1) 192 g] (fun (u_ : (Int → Int)) => [wO cy o ab be bl ta tl tk vl, wA cy (o 1) 192 g, wR cy (o 4) 3 u_]) 3 (by decide +kernel) rfl rfl rfl (fun _ => rfl) (fun _ => rfl) (fun _ => rfl) dX8_seen_46 (fun z_2 u_ H_ lo_ hw_ W_ => ?_)
    obtain ⟨rf2_3, rfl⟩ : ∃ x, x = u_ := ⟨_, rfl⟩
    have W_ : WD D A_ s_.heap ([wO cy o ab be bl ta tl tk vl, wA cy (o 1) 192 g, wR cy (o 4) 3 rf2_3]) H_ lo_ := W_
    have hw_ : (z_2 = (-2)) ∧ (rf2_3 = rfZ rf 0) := hw_
    obtain ⟨f46_v, f46_r⟩ := hw_
    exact hret _ _ _ _ z_2 (g, rf2_3) dX8_seen_49 ⟨(by exact Or.inl ⟨by omega, by omega, rfl, by assumption⟩), bg⟩ W_
  · refine lv_iload_n F_.1 F_.2.1 dX8_seen_8 rfl (lv_at hl 2 rfl) ?_
    refine z_i2l F_ (by omega) dX8_seen_9 ?_
    refine z_lconst (z := 0) F_ rfl dX8_seen_10 ?_
    refine z_ldc2 (z := 99) F_ (F_.2.2.2.2 _ (List.mem_of_getElem? (i := 1) rfl)) rfl dX8_seen_11 ?_
    refine z_callSip F_ K_ W_ [.long (zl a1), .long (zl 0), .long (zl 99)] (c_X8_in l_ D cy a1 0 99 (by first | omega | assumption)) 3 rfl gX8_seen_X8_in rfl (by decide +kernel) ⟨⟨Nat.le_of_ble_eq_true rfl, Nat.le_of_ble_eq_true rfl⟩, rfl, rfl, Nat.zero_le _, Nat.zero_le _⟩ hl.1 rfl (Nat.le_of_ble_eq_true rfl) ([] : List Nat) [0, 1, 2] [wO cy o ab be bl ta tl tk vl, wA cy (o 1) 192 g, wR cy (o 4) 3 rf] 3 (by decide +kernel) rfl rfl rfl dX8_seen_14 (fun z_4 _ H_ lo_ hw_ W_ => ?_)
    have hw_ : ((z_4 = 1 ∧ (0 ≤ a1 ∧ a1 ≤ 99)) ∨ (z_4 = 0 ∧ ¬ (0 ≤ a1 ∧ a1 ≤ 99))) := hw_
    have f14_v := hw_
    refine z_if_eq (tgt := 43) F_ (by omega) dX8_seen_17 (by decide) (fun c17 => ?_) (fun c17 => ?_)
    · refine lv_aload_n F_.1 F_.2.1 dX8_seen_43 rfl (lv_at hl 0 rfl) ?_
      refine z_bipush F_ (by decide) dX8_seen_44 ?_
      refine z_callVi F_ K_ W_ [.int (zi (-2))] (c_X8_bad l_ D cy o ab be bl ta tl tk vl rf (-2) (by first | omega | assumption)) 1 rfl gX8_seen_X8_bad rfl (by decide +kernel) ⟨⟨Nat.le_of_ble_eq_true rfl, Nat.le_of_ble_eq_true rfl⟩, rfl, rfl, Nat.zero_le _, Nat.zero_le _⟩ 0 0 7 rfl rfl rfl rfl hl.1 rfl (Nat.le_of_ble_eq_true rfl) [0, 2] [1] [wA cy (o 1) 192 g] (fun (u_ : (Int → Int)) => [wO cy o ab be bl ta tl tk vl, wA cy (o 1) 192 g, wR cy (o 4) 3 u_]) 3 (by decide +kernel) rfl rfl rfl (fun _ => rfl) (fun _ => rfl) (fun _ => rfl) dX8_seen_46 (fun z_5 u_ H_ lo_ hw_ W_ => ?_)
      obtain ⟨rf2_6, rfl⟩ : ∃ x, x = u_ := ⟨_, rfl⟩
      have W_ : WD D A_ s_.heap ([wO cy o ab be bl ta tl tk vl, wA cy (o 1) 192 g, wR cy (o 4) 3 rf2_6]) H_ lo_ := W_
      have hw_ : (z_5 = (-2)) ∧ (rf2_6 = rfZ rf 0) := hw_
      obtain ⟨f46_v, f46_r⟩ := hw_
      exact hret _ _ _ _ z_5 (g, rf2_6) dX8_seen_49 ⟨(by exact Or.inl ⟨by omega, by omega, rfl, by assumption⟩), bg⟩ W_
    · refine lv_iload_n F_.1 F_.2.1 dX8_seen_20 rfl (lv_at hl 3 rfl) ?_
      refine z_i2l F_ (by omega) dX8_seen_21 ?_
      refine z_lconst (z := 0) F_ rfl dX8_seen_22 ?_
      refine z_ldc2 (z := 30) F_ (F_.2.2.2.2 _ (List.mem_of_getElem? (i := 2) rfl)) rfl dX8_seen_23 ?_
      refine z_callSip F_ K_ W_ [.long (zl a2), .long (zl 0), .long (zl 30)] (c_X8_in l_ D cy a2 0 30 (by first | omega | assumption)) 3 rfl gX8_seen_X8_in rfl (by decide +kernel) ⟨⟨Nat.le_of_ble_eq_true rfl, Nat.le_of_ble_eq_true rfl⟩, rfl, rfl, Nat.zero_le _, Nat.zero_le _⟩ hl.1 rfl (Nat.le_of_ble_eq_true rfl) ([] : List Nat) [0, 1, 2] [wO cy o ab be bl ta tl tk vl, wA cy (o 1) 192 g, wR cy (o 4) 3 rf] 3 (by decide +kernel) rfl rfl rfl dX8_seen_26 (fun z_7 _ H_ lo_ hw_ W_ => ?_)
      have hw_ : ((z_7 = 1 ∧ (0 ≤ a2 ∧ a2 ≤ 30)) ∨ (z_7 = 0 ∧ ¬ (0 ≤ a2 ∧ a2 ≤ 30))) := hw_
      have f26_v := hw_
      refine z_if_eq (tgt := 43) F_ (by omega) dX8_seen_29 (by decide) (fun c29 => ?_) (fun c29 => ?_)
      · refine lv_aload_n F_.1 F_.2.1 dX8_seen_43 rfl (lv_at hl 0 rfl) ?_
        refine z_bipush F_ (by decide) dX8_seen_44 ?_
        refine z_callVi F_ K_ W_ [.int (zi (-2))] (c_X8_bad l_ D cy o ab be bl ta tl tk vl rf (-2) (by first | omega | assumption)) 1 rfl gX8_seen_X8_bad rfl (by decide +kernel) ⟨⟨Nat.le_of_ble_eq_true rfl, Nat.le_of_ble_eq_true rfl⟩, rfl, rfl, Nat.zero_le _, Nat.zero_le _⟩ 0 0 7 rfl rfl rfl rfl hl.1 rfl (Nat.le_of_ble_eq_true rfl) [0, 2] [1] [wA cy (o 1) 192 g] (fun (u_ : (Int → Int)) => [wO cy o ab be bl ta tl tk vl, wA cy (o 1) 192 g, wR cy (o 4) 3 u_]) 3 (by decide +kernel) rfl rfl rfl (fun _ => rfl) (fun _ => rfl) (fun _ => rfl) dX8_seen_46 (fun z_8 u_ H_ lo_ hw_ W_ => ?_)
        obtain ⟨rf2_9, rfl⟩ : ∃ x, x = u_ := ⟨_, rfl⟩
        have W_ : WD D A_ s_.heap ([wO cy o ab be bl ta tl tk vl, wA cy (o 1) 192 g, wR cy (o 4) 3 rf2_9]) H_ lo_ := W_
        have hw_ : (z_8 = (-2)) ∧ (rf2_9 = rfZ rf 0) := hw_
        obtain ⟨f46_v, f46_r⟩ := hw_
        exact hret _ _ _ _ z_8 (g, rf2_9) dX8_seen_49 ⟨(by exact Or.inl ⟨by omega, by omega, rfl, by assumption⟩), bg⟩ W_
      · refine lv_iload F_.1 F_.2.1 dX8_seen_32 (lv_at hl 4 rfl) ?_
        refine z_i2l F_ (by omega) dX8_seen_34 ?_
        refine z_lconst (z := 0) F_ rfl dX8_seen_35 ?_
        refine z_lconst (z := 1) F_ rfl dX8_seen_36 ?_
        refine z_callSip F_ K_ W_ [.long (zl a3), .long (zl 0), .long (zl 1)] (c_X8_in l_ D cy a3 0 1 (by first | omega | assumption)) 3 rfl gX8_seen_X8_in rfl (by decide +kernel) ⟨⟨Nat.le_of_ble_eq_true rfl, Nat.le_of_ble_eq_true rfl⟩, rfl, rfl, Nat.zero_le _, Nat.zero_le _⟩ hl.1 rfl (Nat.le_of_ble_eq_true rfl) ([] : List Nat) [0, 1, 2] [wO cy o ab be bl ta tl tk vl, wA cy (o 1) 192 g, wR cy (o 4) 3 rf] 3 (by decide +kernel) rfl rfl rfl dX8_seen_37 (fun z_10 _ H_ lo_ hw_ W_ => ?_)
        have hw_ : ((z_10 = 1 ∧ (0 ≤ a3 ∧ a3 ≤ 1)) ∨ (z_10 = 0 ∧ ¬ (0 ≤ a3 ∧ a3 ≤ 1))) := hw_
        have f37_v := hw_
        refine z_if_ne (tgt := 50) F_ (by omega) dX8_seen_40 (by decide) (fun c40 => ?_) (fun c40 => ?_)
        · refine lv_aload_n F_.1 F_.2.1 dX8_seen_50 rfl (lv_at hl 0 rfl) ?_
          refine z_get F_ K_ W_ 0 0 0 rfl rfl rfl (C := RX8) (T := TX8) (N := 19) rfl (by decide) hinX8 (List.mem_of_getElem? (i := 3) rfl) dX8_seen_51 ?_
          refine z_iconst F_ dX8_seen_54 ?_
          refine z_iald F_ K_ W_ 1 0 rfl rfl (by omega) (by decide) dX8_seen_55 ?_
          have b_11 := bg 2
          refine z_iconst F_ dX8_seen_56 ?_
          refine z_icmp_ne (tgt := 65) F_ (by omega) dX8_seen_57 (by decide) (fun c57 => ?_) (fun c57 => ?_)
          · refine lv_aload_n F_.1 F_.2.1 dX8_seen_65 rfl (lv_at hl 0 rfl) ?_
            refine z_bipush F_ (by decide) dX8_seen_66 ?_
            refine z_iconst F_ dX8_seen_68 ?_
            refine lv_aload_n F_.1 F_.2.1 dX8_seen_69 rfl (lv_at hl 0 rfl) ?_
            refine z_get F_ K_ W_ 0 0 0 rfl rfl rfl (C := RX8) (T := TX8) (N := 19) rfl (by decide) hinX8 (List.mem_of_getElem? (i := 3) rfl) dX8_seen_70 ?_
            refine z_iconst F_ dX8_seen_73 ?_
            refine z_iald F_ K_ W_ 1 0 rfl rfl (by omega) (by decide) dX8_seen_74 ?_
            refine z_imul F_ dX8_seen_75 ?_
            refine z_iadd F_ dX8_seen_76 ?_
            refine lv_iload_n F_.1 F_.2.1 dX8_seen_77 rfl (lv_at hl 1 rfl) ?_
            refine lv_iload_n F_.1 F_.2.1 dX8_seen_78 rfl (lv_at hl 2 rfl) ?_
            refine lv_iload_n F_.1 F_.2.1 dX8_seen_79 rfl (lv_at hl 3 rfl) ?_
            refine lv_iload F_.1 F_.2.1 dX8_seen_80 (lv_at hl 4 rfl) ?_
            refine z_callVv F_ K_ W_ [.int (zi (36 + (4 * (g 2)))), .int (zi a0), .int (zi a1), .int (zi a2), .int (zi a3)] (c_X8_layFour l_ D cy o ab be bl ta tl tk vl g (36 + (4 * (g 2))) a0 a1 a2 a3 bg (by first | omega | assumption) (by first | omega | assumption) (by first | omega | assumption) (by first | omega | assumption) (by first | omega | assumption) (by first | omega | assumption) (by first | omega | assumption)) 5 rfl gX8_seen_X8_layFour rfl (by decide +kernel) ⟨⟨Nat.le_of_ble_eq_true rfl, Nat.le_of_ble_eq_true rfl⟩, rfl, rfl, Nat.zero_le _, Nat.zero_le _⟩ 0 0 7 rfl rfl rfl rfl hl.1 rfl (Nat.le_of_ble_eq_true rfl) [0, 1] [2] [wR cy (o 4) 3 rf] (fun (u_ : (Int → Int)) => [wO cy o ab be bl ta tl tk vl, wA cy (o 1) 192 u_, wR cy (o 4) 3 rf]) 3 (by decide +kernel) rfl rfl rfl (fun _ => rfl) (fun _ => rfl) (fun _ => rfl) dX8_seen_82 (fun u_ H_ lo_ hw_ W_ => ?_)
            obtain ⟨g2_13, rfl⟩ : ∃ x, x = u_ := ⟨_, rfl⟩
            have W_ : WD D A_ s_.heap ([wO cy o ab be bl ta tl tk vl, wA cy (o 1) 192 g2_13, wR cy (o 4) 3 rf]) H_ lo_ := W_
            have hw_ : (g2_13 = put4 g (36 + (4 * (g 2))) a0 a1 a2 a3) ∧ (∀ j : Int, 0 ≤ g2_13 j ∧ g2_13 j ≤ 99) := hw_
            obtain ⟨f82_v, f82_B_A_g⟩ := hw_
            refine lv_aload_n F_.1 F_.2.1 dX8_seen_85 rfl (lv_at hl 0 rfl) ?_
            refine z_get F_ K_ W_ 0 0 0 rfl rfl rfl (C := RX8) (T := TX8) (N := 19) rfl (by decide) hinX8 (List.mem_of_getElem? (i := 3) rfl) dX8_seen_86 ?_
            refine z_iconst F_ dX8_seen_89 ?_
            refine lv_dup2_11 F_.1 F_.2.1 dX8_seen_90 rfl rfl ?_
            refine z_iald F_ K_ W_ 1 0 rfl rfl (by omega) (by decide) dX8_seen_91 ?_
            have b_14 := f82_B_A_g 2
            have i_15 : g2_13 2 = g 2 := by rw [f82_v]; simp only [put4, zu_at]; repeat rw [if_neg (by omega)]
            rw [i_15]
            have b_16 := f82_B_A_g 2
            rw [i_15] at b_16
            refine z_iconst F_ dX8_seen_92 ?_
            refine z_iadd F_ dX8_seen_93 ?_
            refine z_iast (sg' := [wO cy o ab be bl ta tl tk vl, wA cy (o 1) 192 (zu g2_13 2 ((g 2) + 1)), wR cy (o 4) 3 rf]) F_ K_ W_ 1 0 rfl rfl rfl (by omega) (by decide) dX8_seen_94 (fun H_ lo_ W_ => ?_)
            obtain ⟨g_17, eg_17⟩ : ∃ x_ : Int → Int, x_ = zu g2_13 2 ((g 2) + 1) := ⟨_, rfl⟩
            rw [← eg_17] at W_
            have bg_17 : ∀ j : Int, 0 ≤ g_17 j ∧ g_17 j ≤ 99 := by rw [eg_17]; exact zu_b f82_B_A_g (by omega)
            refine lv_aload_n F_.1 F_.2.1 dX8_seen_95 rfl (lv_at hl 0 rfl) ?_
            refine z_get F_ K_ W_ 0 0 0 rfl rfl rfl (C := RX8) (T := TX8) (N := 19) rfl (by decide) hinX8 (List.mem_of_getElem? (i := 3) rfl) dX8_seen_96 ?_
            refine z_iconst F_ dX8_seen_99 ?_
            refine z_iald F_ K_ W_ 1 0 rfl rfl (by omega) (by decide) dX8_seen_100 ?_
            have b_18 := bg_17 2
            have i_19 : g_17 2 = g 2 + 1 := by rw [eg_17]; exact zu_s _ _ _
            rw [i_19]
            have b_20 := bg_17 2
            rw [i_19] at b_20
            exact hret _ _ _ _ (g 2 + 1) (g_17, rf) dX8_seen_101 ⟨(by exact Or.inr (Or.inr ⟨by omega, by omega, rfl, by rw [eg_17, f82_v], rfl⟩)), bg_17⟩ W_
          · refine lv_aload_n F_.1 F_.2.1 dX8_seen_60 rfl (lv_at hl 0 rfl) ?_
            refine z_callVi F_ K_ W_ [] (c_X8_full l_ D cy o ab be bl ta tl tk vl rf) 0 rfl gX8_seen_X8_full rfl (by decide +kernel) ⟨⟨Nat.le_of_ble_eq_true rfl, Nat.le_of_ble_eq_true rfl⟩, rfl, rfl, Nat.zero_le _, Nat.zero_le _⟩ 0 0 7 rfl rfl rfl rfl hl.1 rfl (Nat.le_of_ble_eq_true rfl) [0, 2] [1] [wA cy (o 1) 192 g] (fun (u_ : (Int → Int)) => [wO cy o ab be bl ta tl tk vl, wA cy (o 1) 192 g, wR cy (o 4) 3 u_]) 3 (by decide +kernel) rfl rfl rfl (fun _ => rfl) (fun _ => rfl) (fun _ => rfl) dX8_seen_61 (fun z_21 u_ H_ lo_ hw_ W_ => ?_)
            obtain ⟨rf2_22, rfl⟩ : ∃ x, x = u_ := ⟨_, rfl⟩
            have W_ : WD D A_ s_.heap ([wO cy o ab be bl ta tl tk vl, wA cy (o 1) 192 g, wR cy (o 4) 3 rf2_22]) H_ lo_ := W_
            have hw_ : (z_21 = -4) ∧ (rf2_22 = rfZ rf 2) := hw_
            obtain ⟨f61_v, f61_r⟩ := hw_
            exact hret _ _ _ _ z_21 (g, rf2_22) dX8_seen_64 ⟨(by exact Or.inr (Or.inl ⟨by omega, by omega, by omega, rfl, by assumption⟩)), bg⟩ W_
        · refine lv_aload_n F_.1 F_.2.1 dX8_seen_43 rfl (lv_at hl 0 rfl) ?_
          refine z_bipush F_ (by decide) dX8_seen_44 ?_
          refine z_callVi F_ K_ W_ [.int (zi (-2))] (c_X8_bad l_ D cy o ab be bl ta tl tk vl rf (-2) (by first | omega | assumption)) 1 rfl gX8_seen_X8_bad rfl (by decide +kernel) ⟨⟨Nat.le_of_ble_eq_true rfl, Nat.le_of_ble_eq_true rfl⟩, rfl, rfl, Nat.zero_le _, Nat.zero_le _⟩ 0 0 7 rfl rfl rfl rfl hl.1 rfl (Nat.le_of_ble_eq_true rfl) [0, 2] [1] [wA cy (o 1) 192 g] (fun (u_ : (Int → Int)) => [wO cy o ab be bl ta tl tk vl, wA cy (o 1) 192 g, wR cy (o 4) 3 u_]) 3 (by decide +kernel) rfl rfl rfl (fun _ => rfl) (fun _ => rfl) (fun _ => rfl) dX8_seen_46 (fun z_23 u_ H_ lo_ hw_ W_ => ?_)
          obtain ⟨rf2_24, rfl⟩ : ∃ x, x = u_ := ⟨_, rfl⟩
          have W_ : WD D A_ s_.heap ([wO cy o ab be bl ta tl tk vl, wA cy (o 1) 192 g, wR cy (o 4) 3 rf2_24]) H_ lo_ := W_
          have hw_ : (z_23 = (-2)) ∧ (rf2_24 = rfZ rf 0) := hw_
          obtain ⟨f46_v, f46_r⟩ := hw_
          exact hret _ _ _ _ z_23 (g, rf2_24) dX8_seen_49 ⟨(by exact Or.inl ⟨by omega, by omega, rfl, by assumption⟩), bg⟩ W_
abbrev rX8_note : Room := { frames := 2, cells := 0, slots := 0, locals := 46 }
set_option maxHeartbeats 1000000 in
set_option maxRecDepth 100000 in
theorem c_X8_note (l_ : Launch) (D : va_G) (cy : Nat → ClassId) (o : Nat → Nat) (ab : Int) (be : Int) (bl : Int) (ta : Int) (tl : Int) (tk : Int) (vl : Int) (g : Int → Int) (rf : Int → Int) (a0 : Int) (a1 : Int) (a2 : Int) (a3 : Int) (bg : ∀ j : Int, 0 ≤ g j ∧ g j ≤ 99) (ra0 : -2147483648 ≤ a0 ∧ a0 < 2147483648) (ra1 : -2147483648 ≤ a1 ∧ a1 < 2147483648) (ra2 : -2147483648 ≤ a2 ∧ a2 < 2147483648) (ra3 : -2147483648 ≤ a3 ∧ a3 < 2147483648) (hg0 : 0 ≤ g 0 ∧ g 0 ≤ 8) (hg1 : 0 ≤ g 1 ∧ g 1 ≤ 3) (hgc : 0 ≤ g 3 ∧ g 3 ≤ 6) : CTi l_ D cy yX8_note wsX8_note rX8_note [.ref (o 0), .int (zi a0), .int (zi a1), .int (zi a2), .int (zi a3)] ([wO cy o ab be bl ta tl tk vl, wA cy (o 1) 192 g, wR cy (o 4) 3 rf]) (fun (z : Int) (u : (Int → Int) × (Int → Int)) => ((¬ ((0 ≤ a0 ∧ a0 < g 1) ∧ (1 ≤ a1 ∧ a1 ≤ 30) ∧ (0 ≤ a2 ∧ a2 ≤ 8) ∧ (0 ≤ a3 ∧ a3 ≤ 99)) ∧ z = -2 ∧ u.1 = g ∧ u.2 = rfZ rf 0) ∨ (((0 ≤ a0 ∧ a0 < g 1) ∧ (1 ≤ a1 ∧ a1 ≤ 30) ∧ (0 ≤ a2 ∧ a2 ≤ 8) ∧ (0 ≤ a3 ∧ a3 ≤ 99)) ∧ g 3 = 6 ∧ z = -4 ∧ u.1 = g ∧ u.2 = rfZ rf 2) ∨ (((0 ≤ a0 ∧ a0 < g 1) ∧ (1 ≤ a1 ∧ a1 ≤ 30) ∧ (0 ≤ a2 ∧ a2 ≤ 8) ∧ (0 ≤ a3 ∧ a3 ≤ 99)) ∧ g 3 < 6 ∧ z = g 3 + 1 ∧ u.1 = zu (put4 g (56 + 4 * g 3) a0 a1 a2 a3) 3 (g 3 + 1) ∧ u.2 = rf)) ∧ (∀ j : Int, 0 ≤ u.1 j ∧ u.1 j ≤ 99)) (fun (u : (Int → Int) × (Int → Int)) => [wO cy o ab be bl ta tl tk vl, wA cy (o 1) 192 u.1, wR cy (o 4) 3 u.2]) := by
  refine CTi.of RX8 cX8_note 5 rfl (by decide) rfl (fun z u hz => rfl) (Nat.le_of_ble_eq_true rfl) ?_
  intro p_ e_ s_ m_ ar_ be_ me_ c_ Q_ A_ ls_ F_ K_ W_ hl hret
  have hl : lv_has ls_ 5 [(0, .ref (o 0)), (1, .int (zi a0)), (2, .int (zi a1)), (3, .int (zi a2)), (4, .int (zi a3))] := hl
  obtain ⟨H_, hH_⟩ : ∃ x, x = s_.heap := ⟨_, rfl⟩
  obtain ⟨lo_, hlo_⟩ : ∃ x : List Loc, x = [] := ⟨_, rfl⟩
  have W_ : WD D A_ s_.heap ([wO cy o ab be bl ta tl tk vl, wA cy (o 1) 192 g, wR cy (o 4) 3 rf]) H_ lo_ := by rw [hH_, hlo_]; exact W_
  rw [← hlo_]
  suffices hg_ : W p_ l_ e_ rX8_note s_ m_ ar_ be_ me_ c_ H_ lo_ 0 0 Q_ (F0 m_ 0 ls_ []) by rw [hH_] at hg_; exact hg_
  clear hH_ hlo_
  have hinX8 : ∀ w ∈ u_ws RX8 TX8 19, w ∈ wsX8_note := fun w h => List.mem_cons_of_mem _ (List.mem_append_right _ h)
  refine lv_aload_n F_.1 F_.2.1 dX8_note_0 rfl (lv_at hl 0 rfl) ?_
  refine lv_iload_n F_.1 F_.2.1 dX8_note_1 rfl (lv_at hl 1 rfl) ?_
  refine z_callVip F_ K_ W_ [.int (zi a0)] (c_X8_isShip l_ D cy o ab be bl ta tl tk vl g a0 bg (by first | omega | assumption) (by first | omega | assumption)) 1 rfl gX8_note_X8_isShip rfl (by decide +kernel) ⟨⟨Nat.le_of_ble_eq_true rfl, Nat.le_of_ble_eq_true rfl⟩, rfl, rfl, Nat.zero_le _, Nat.zero_le _⟩ 0 0 7 rfl rfl rfl rfl hl.1 rfl (Nat.le_of_ble_eq_true rfl) [0, 1] [2] [wR cy (o 4) 3 rf] 3 (by decide +kernel) rfl rfl rfl dX8_note_2 (fun z_1 _ H_ lo_ hw_ W_ => ?_)
  have hw_ : ((z_1 = 1 ∧ (0 ≤ a0 ∧ a0 < g 1)) ∨ (z_1 = 0 ∧ ¬ (0 ≤ a0 ∧ a0 < g 1))) := hw_
  have f2_v := hw_
  refine z_if_eq (tgt := 40) F_ (by omega) dX8_note_5 (by decide) (fun c5 => ?_) (fun c5 => ?_)
  · refine lv_aload_n F_.1 F_.2.1 dX8_note_40 rfl (lv_at hl 0 rfl) ?_
    refine z_bipush F_ (by decide) dX8_note_41 ?_
    refine z_callVi F_ K_ W_ [.int (zi (-2))] (c_X8_bad l_ D cy o ab be bl ta tl tk vl rf (-2) (by first | omega | assumption)) 1 rfl gX8_note_X8_bad rfl (by decide +kernel) ⟨⟨Nat.le_of_ble_eq_true rfl, Nat.le_of_ble_eq_true rfl⟩, rfl, rfl, Nat.zero_le _, Nat.zero_le _⟩ 0 0 7 rfl rfl rfl rfl hl.1 rfl (Nat.le_of_ble_eq_true rfl) [0, 2] [1] [wA cy (o 1) 192 g] (fun (u_ : (Int → Int)) => [wO cy o ab be bl ta tl tk vl, wA cy (o 1) 192 g, wR cy (o 4) 3 u_]) 3 (by decide +kernel) rfl rfl rfl (fun _ => rfl) (fun _ => rfl) (fun _ => rfl) dX8_note_43 (fun z_2 u_ H_ lo_ hw_ W_ => ?_)
    obtain ⟨rf2_3, rfl⟩ : ∃ x, x = u_ := ⟨_, rfl⟩
    have W_ : WD D A_ s_.heap ([wO cy o ab be bl ta tl tk vl, wA cy (o 1) 192 g, wR cy (o 4) 3 rf2_3]) H_ lo_ := W_
    have hw_ : (z_2 = (-2)) ∧ (rf2_3 = rfZ rf 0) := hw_
    obtain ⟨f43_v, f43_r⟩ := hw_
    exact hret _ _ _ _ z_2 (g, rf2_3) dX8_note_46 ⟨(by exact Or.inl ⟨by omega, by omega, rfl, by assumption⟩), bg⟩ W_
  · refine lv_iload_n F_.1 F_.2.1 dX8_note_8 rfl (lv_at hl 2 rfl) ?_
    refine z_callSip F_ K_ W_ [.int (zi a1)] (c_X8_isFar l_ D cy a1 (by first | omega | assumption)) 1 rfl gX8_note_X8_isFar rfl (by decide +kernel) ⟨⟨Nat.le_of_ble_eq_true rfl, Nat.le_of_ble_eq_true rfl⟩, rfl, rfl, Nat.zero_le _, Nat.zero_le _⟩ hl.1 rfl (Nat.le_of_ble_eq_true rfl) ([] : List Nat) [0, 1, 2] [wO cy o ab be bl ta tl tk vl, wA cy (o 1) 192 g, wR cy (o 4) 3 rf] 3 (by decide +kernel) rfl rfl rfl dX8_note_9 (fun z_4 _ H_ lo_ hw_ W_ => ?_)
    have hw_ : ((z_4 = 1 ∧ (1 ≤ a1 ∧ a1 ≤ 30)) ∨ (z_4 = 0 ∧ ¬ (1 ≤ a1 ∧ a1 ≤ 30))) := hw_
    have f9_v := hw_
    refine z_if_eq (tgt := 40) F_ (by omega) dX8_note_12 (by decide) (fun c12 => ?_) (fun c12 => ?_)
    · refine lv_aload_n F_.1 F_.2.1 dX8_note_40 rfl (lv_at hl 0 rfl) ?_
      refine z_bipush F_ (by decide) dX8_note_41 ?_
      refine z_callVi F_ K_ W_ [.int (zi (-2))] (c_X8_bad l_ D cy o ab be bl ta tl tk vl rf (-2) (by first | omega | assumption)) 1 rfl gX8_note_X8_bad rfl (by decide +kernel) ⟨⟨Nat.le_of_ble_eq_true rfl, Nat.le_of_ble_eq_true rfl⟩, rfl, rfl, Nat.zero_le _, Nat.zero_le _⟩ 0 0 7 rfl rfl rfl rfl hl.1 rfl (Nat.le_of_ble_eq_true rfl) [0, 2] [1] [wA cy (o 1) 192 g] (fun (u_ : (Int → Int)) => [wO cy o ab be bl ta tl tk vl, wA cy (o 1) 192 g, wR cy (o 4) 3 u_]) 3 (by decide +kernel) rfl rfl rfl (fun _ => rfl) (fun _ => rfl) (fun _ => rfl) dX8_note_43 (fun z_5 u_ H_ lo_ hw_ W_ => ?_)
      obtain ⟨rf2_6, rfl⟩ : ∃ x, x = u_ := ⟨_, rfl⟩
      have W_ : WD D A_ s_.heap ([wO cy o ab be bl ta tl tk vl, wA cy (o 1) 192 g, wR cy (o 4) 3 rf2_6]) H_ lo_ := W_
      have hw_ : (z_5 = (-2)) ∧ (rf2_6 = rfZ rf 0) := hw_
      obtain ⟨f43_v, f43_r⟩ := hw_
      exact hret _ _ _ _ z_5 (g, rf2_6) dX8_note_46 ⟨(by exact Or.inl ⟨by omega, by omega, rfl, by assumption⟩), bg⟩ W_
    · refine lv_iload_n F_.1 F_.2.1 dX8_note_15 rfl (lv_at hl 3 rfl) ?_
      refine z_i2l F_ (by omega) dX8_note_16 ?_
      refine z_lconst (z := 0) F_ rfl dX8_note_17 ?_
      refine z_ldc2 (z := 8) F_ (F_.2.2.2.2 _ (List.mem_of_getElem? (i := 1) rfl)) rfl dX8_note_18 ?_
      refine z_callSip F_ K_ W_ [.long (zl a2), .long (zl 0), .long (zl 8)] (c_X8_in l_ D cy a2 0 8 (by first | omega | assumption)) 3 rfl gX8_note_X8_in rfl (by decide +kernel) ⟨⟨Nat.le_of_ble_eq_true rfl, Nat.le_of_ble_eq_true rfl⟩, rfl, rfl, Nat.zero_le _, Nat.zero_le _⟩ hl.1 rfl (Nat.le_of_ble_eq_true rfl) ([] : List Nat) [0, 1, 2] [wO cy o ab be bl ta tl tk vl, wA cy (o 1) 192 g, wR cy (o 4) 3 rf] 3 (by decide +kernel) rfl rfl rfl dX8_note_21 (fun z_7 _ H_ lo_ hw_ W_ => ?_)
      have hw_ : ((z_7 = 1 ∧ (0 ≤ a2 ∧ a2 ≤ 8)) ∨ (z_7 = 0 ∧ ¬ (0 ≤ a2 ∧ a2 ≤ 8))) := hw_
      have f21_v := hw_
      refine z_if_eq (tgt := 40) F_ (by omega) dX8_note_24 (by decide) (fun c24 => ?_) (fun c24 => ?_)
      · refine lv_aload_n F_.1 F_.2.1 dX8_note_40 rfl (lv_at hl 0 rfl) ?_
        refine z_bipush F_ (by decide) dX8_note_41 ?_
        refine z_callVi F_ K_ W_ [.int (zi (-2))] (c_X8_bad l_ D cy o ab be bl ta tl tk vl rf (-2) (by first | omega | assumption)) 1 rfl gX8_note_X8_bad rfl (by decide +kernel) ⟨⟨Nat.le_of_ble_eq_true rfl, Nat.le_of_ble_eq_true rfl⟩, rfl, rfl, Nat.zero_le _, Nat.zero_le _⟩ 0 0 7 rfl rfl rfl rfl hl.1 rfl (Nat.le_of_ble_eq_true rfl) [0, 2] [1] [wA cy (o 1) 192 g] (fun (u_ : (Int → Int)) => [wO cy o ab be bl ta tl tk vl, wA cy (o 1) 192 g, wR cy (o 4) 3 u_]) 3 (by decide +kernel) rfl rfl rfl (fun _ => rfl) (fun _ => rfl) (fun _ => rfl) dX8_note_43 (fun z_8 u_ H_ lo_ hw_ W_ => ?_)
        obtain ⟨rf2_9, rfl⟩ : ∃ x, x = u_ := ⟨_, rfl⟩
        have W_ : WD D A_ s_.heap ([wO cy o ab be bl ta tl tk vl, wA cy (o 1) 192 g, wR cy (o 4) 3 rf2_9]) H_ lo_ := W_
        have hw_ : (z_8 = (-2)) ∧ (rf2_9 = rfZ rf 0) := hw_
        obtain ⟨f43_v, f43_r⟩ := hw_
        exact hret _ _ _ _ z_8 (g, rf2_9) dX8_note_46 ⟨(by exact Or.inl ⟨by omega, by omega, rfl, by assumption⟩), bg⟩ W_
      · refine lv_iload F_.1 F_.2.1 dX8_note_27 (lv_at hl 4 rfl) ?_
        refine z_i2l F_ (by omega) dX8_note_29 ?_
        refine z_lconst (z := 0) F_ rfl dX8_note_30 ?_
        refine z_ldc2 (z := 99) F_ (F_.2.2.2.2 _ (List.mem_of_getElem? (i := 2) rfl)) rfl dX8_note_31 ?_
        refine z_callSip F_ K_ W_ [.long (zl a3), .long (zl 0), .long (zl 99)] (c_X8_in l_ D cy a3 0 99 (by first | omega | assumption)) 3 rfl gX8_note_X8_in rfl (by decide +kernel) ⟨⟨Nat.le_of_ble_eq_true rfl, Nat.le_of_ble_eq_true rfl⟩, rfl, rfl, Nat.zero_le _, Nat.zero_le _⟩ hl.1 rfl (Nat.le_of_ble_eq_true rfl) ([] : List Nat) [0, 1, 2] [wO cy o ab be bl ta tl tk vl, wA cy (o 1) 192 g, wR cy (o 4) 3 rf] 3 (by decide +kernel) rfl rfl rfl dX8_note_34 (fun z_10 _ H_ lo_ hw_ W_ => ?_)
        have hw_ : ((z_10 = 1 ∧ (0 ≤ a3 ∧ a3 ≤ 99)) ∨ (z_10 = 0 ∧ ¬ (0 ≤ a3 ∧ a3 ≤ 99))) := hw_
        have f34_v := hw_
        refine z_if_ne (tgt := 47) F_ (by omega) dX8_note_37 (by decide) (fun c37 => ?_) (fun c37 => ?_)
        · refine lv_aload_n F_.1 F_.2.1 dX8_note_47 rfl (lv_at hl 0 rfl) ?_
          refine z_get F_ K_ W_ 0 0 0 rfl rfl rfl (C := RX8) (T := TX8) (N := 19) rfl (by decide) hinX8 (List.mem_of_getElem? (i := 3) rfl) dX8_note_48 ?_
          refine z_iconst F_ dX8_note_51 ?_
          refine z_iald F_ K_ W_ 1 0 rfl rfl (by omega) (by decide) dX8_note_52 ?_
          have b_11 := bg 3
          refine z_bipush F_ (by decide) dX8_note_53 ?_
          refine z_icmp_ne (tgt := 63) F_ (by omega) dX8_note_55 (by decide) (fun c55 => ?_) (fun c55 => ?_)
          · refine lv_aload_n F_.1 F_.2.1 dX8_note_63 rfl (lv_at hl 0 rfl) ?_
            refine z_bipush F_ (by decide) dX8_note_64 ?_
            refine z_iconst F_ dX8_note_66 ?_
            refine lv_aload_n F_.1 F_.2.1 dX8_note_67 rfl (lv_at hl 0 rfl) ?_
            refine z_get F_ K_ W_ 0 0 0 rfl rfl rfl (C := RX8) (T := TX8) (N := 19) rfl (by decide) hinX8 (List.mem_of_getElem? (i := 3) rfl) dX8_note_68 ?_
            refine z_iconst F_ dX8_note_71 ?_
            refine z_iald F_ K_ W_ 1 0 rfl rfl (by omega) (by decide) dX8_note_72 ?_
            refine z_imul F_ dX8_note_73 ?_
            refine z_iadd F_ dX8_note_74 ?_
            refine lv_iload_n F_.1 F_.2.1 dX8_note_75 rfl (lv_at hl 1 rfl) ?_
            refine lv_iload_n F_.1 F_.2.1 dX8_note_76 rfl (lv_at hl 2 rfl) ?_
            refine lv_iload_n F_.1 F_.2.1 dX8_note_77 rfl (lv_at hl 3 rfl) ?_
            refine lv_iload F_.1 F_.2.1 dX8_note_78 (lv_at hl 4 rfl) ?_
            refine z_callVv F_ K_ W_ [.int (zi (56 + (4 * (g 3)))), .int (zi a0), .int (zi a1), .int (zi a2), .int (zi a3)] (c_X8_layFour l_ D cy o ab be bl ta tl tk vl g (56 + (4 * (g 3))) a0 a1 a2 a3 bg (by first | omega | assumption) (by first | omega | assumption) (by first | omega | assumption) (by first | omega | assumption) (by first | omega | assumption) (by first | omega | assumption) (by first | omega | assumption)) 5 rfl gX8_note_X8_layFour rfl (by decide +kernel) ⟨⟨Nat.le_of_ble_eq_true rfl, Nat.le_of_ble_eq_true rfl⟩, rfl, rfl, Nat.zero_le _, Nat.zero_le _⟩ 0 0 7 rfl rfl rfl rfl hl.1 rfl (Nat.le_of_ble_eq_true rfl) [0, 1] [2] [wR cy (o 4) 3 rf] (fun (u_ : (Int → Int)) => [wO cy o ab be bl ta tl tk vl, wA cy (o 1) 192 u_, wR cy (o 4) 3 rf]) 3 (by decide +kernel) rfl rfl rfl (fun _ => rfl) (fun _ => rfl) (fun _ => rfl) dX8_note_80 (fun u_ H_ lo_ hw_ W_ => ?_)
            obtain ⟨g2_13, rfl⟩ : ∃ x, x = u_ := ⟨_, rfl⟩
            have W_ : WD D A_ s_.heap ([wO cy o ab be bl ta tl tk vl, wA cy (o 1) 192 g2_13, wR cy (o 4) 3 rf]) H_ lo_ := W_
            have hw_ : (g2_13 = put4 g (56 + (4 * (g 3))) a0 a1 a2 a3) ∧ (∀ j : Int, 0 ≤ g2_13 j ∧ g2_13 j ≤ 99) := hw_
            obtain ⟨f80_v, f80_B_A_g⟩ := hw_
            refine lv_aload_n F_.1 F_.2.1 dX8_note_83 rfl (lv_at hl 0 rfl) ?_
            refine z_get F_ K_ W_ 0 0 0 rfl rfl rfl (C := RX8) (T := TX8) (N := 19) rfl (by decide) hinX8 (List.mem_of_getElem? (i := 3) rfl) dX8_note_84 ?_
            refine z_iconst F_ dX8_note_87 ?_
            refine lv_dup2_11 F_.1 F_.2.1 dX8_note_88 rfl rfl ?_
            refine z_iald F_ K_ W_ 1 0 rfl rfl (by omega) (by decide) dX8_note_89 ?_
            have b_14 := f80_B_A_g 3
            have i_15 : g2_13 3 = g 3 := by rw [f80_v]; simp only [put4, zu_at]; repeat rw [if_neg (by omega)]
            rw [i_15]
            have b_16 := f80_B_A_g 3
            rw [i_15] at b_16
            refine z_iconst F_ dX8_note_90 ?_
            refine z_iadd F_ dX8_note_91 ?_
            refine z_iast (sg' := [wO cy o ab be bl ta tl tk vl, wA cy (o 1) 192 (zu g2_13 3 ((g 3) + 1)), wR cy (o 4) 3 rf]) F_ K_ W_ 1 0 rfl rfl rfl (by omega) (by decide) dX8_note_92 (fun H_ lo_ W_ => ?_)
            obtain ⟨g_17, eg_17⟩ : ∃ x_ : Int → Int, x_ = zu g2_13 3 ((g 3) + 1) := ⟨_, rfl⟩
            rw [← eg_17] at W_
            have bg_17 : ∀ j : Int, 0 ≤ g_17 j ∧ g_17 j ≤ 99 := by rw [eg_17]; exact zu_b f80_B_A_g (by omega)
            refine lv_aload_n F_.1 F_.2.1 dX8_note_93 rfl (lv_at hl 0 rfl) ?_
            refine z_get F_ K_ W_ 0 0 0 rfl rfl rfl (C := RX8) (T := TX8) (N := 19) rfl (by decide) hinX8 (List.mem_of_getElem? (i := 3) rfl) dX8_note_94 ?_
            refine z_iconst F_ dX8_note_97 ?_
            refine z_iald F_ K_ W_ 1 0 rfl rfl (by omega) (by decide) dX8_note_98 ?_
            have b_18 := bg_17 3
            have i_19 : g_17 3 = g 3 + 1 := by rw [eg_17]; exact zu_s _ _ _
            rw [i_19]
            have b_20 := bg_17 3
            rw [i_19] at b_20
            exact hret _ _ _ _ (g 3 + 1) (g_17, rf) dX8_note_99 ⟨(by exact Or.inr (Or.inr ⟨by omega, by omega, rfl, by rw [eg_17, f80_v], rfl⟩)), bg_17⟩ W_
          · refine lv_aload_n F_.1 F_.2.1 dX8_note_58 rfl (lv_at hl 0 rfl) ?_
            refine z_callVi F_ K_ W_ [] (c_X8_full l_ D cy o ab be bl ta tl tk vl rf) 0 rfl gX8_note_X8_full rfl (by decide +kernel) ⟨⟨Nat.le_of_ble_eq_true rfl, Nat.le_of_ble_eq_true rfl⟩, rfl, rfl, Nat.zero_le _, Nat.zero_le _⟩ 0 0 7 rfl rfl rfl rfl hl.1 rfl (Nat.le_of_ble_eq_true rfl) [0, 2] [1] [wA cy (o 1) 192 g] (fun (u_ : (Int → Int)) => [wO cy o ab be bl ta tl tk vl, wA cy (o 1) 192 g, wR cy (o 4) 3 u_]) 3 (by decide +kernel) rfl rfl rfl (fun _ => rfl) (fun _ => rfl) (fun _ => rfl) dX8_note_59 (fun z_21 u_ H_ lo_ hw_ W_ => ?_)
            obtain ⟨rf2_22, rfl⟩ : ∃ x, x = u_ := ⟨_, rfl⟩
            have W_ : WD D A_ s_.heap ([wO cy o ab be bl ta tl tk vl, wA cy (o 1) 192 g, wR cy (o 4) 3 rf2_22]) H_ lo_ := W_
            have hw_ : (z_21 = -4) ∧ (rf2_22 = rfZ rf 2) := hw_
            obtain ⟨f59_v, f59_r⟩ := hw_
            exact hret _ _ _ _ z_21 (g, rf2_22) dX8_note_62 ⟨(by exact Or.inr (Or.inl ⟨by omega, by omega, by omega, rfl, by assumption⟩)), bg⟩ W_
        · refine lv_aload_n F_.1 F_.2.1 dX8_note_40 rfl (lv_at hl 0 rfl) ?_
          refine z_bipush F_ (by decide) dX8_note_41 ?_
          refine z_callVi F_ K_ W_ [.int (zi (-2))] (c_X8_bad l_ D cy o ab be bl ta tl tk vl rf (-2) (by first | omega | assumption)) 1 rfl gX8_note_X8_bad rfl (by decide +kernel) ⟨⟨Nat.le_of_ble_eq_true rfl, Nat.le_of_ble_eq_true rfl⟩, rfl, rfl, Nat.zero_le _, Nat.zero_le _⟩ 0 0 7 rfl rfl rfl rfl hl.1 rfl (Nat.le_of_ble_eq_true rfl) [0, 2] [1] [wA cy (o 1) 192 g] (fun (u_ : (Int → Int)) => [wO cy o ab be bl ta tl tk vl, wA cy (o 1) 192 g, wR cy (o 4) 3 u_]) 3 (by decide +kernel) rfl rfl rfl (fun _ => rfl) (fun _ => rfl) (fun _ => rfl) dX8_note_43 (fun z_23 u_ H_ lo_ hw_ W_ => ?_)
          obtain ⟨rf2_24, rfl⟩ : ∃ x, x = u_ := ⟨_, rfl⟩
          have W_ : WD D A_ s_.heap ([wO cy o ab be bl ta tl tk vl, wA cy (o 1) 192 g, wR cy (o 4) 3 rf2_24]) H_ lo_ := W_
          have hw_ : (z_23 = (-2)) ∧ (rf2_24 = rfZ rf 0) := hw_
          obtain ⟨f43_v, f43_r⟩ := hw_
          exact hret _ _ _ _ z_23 (g, rf2_24) dX8_note_46 ⟨(by exact Or.inl ⟨by omega, by omega, rfl, by assumption⟩), bg⟩ W_
abbrev rX8_mark : Room := { frames := 2, cells := 0, slots := 0, locals := 46 }
set_option maxHeartbeats 1000000 in
set_option maxRecDepth 100000 in
theorem c_X8_mark (l_ : Launch) (D : va_G) (cy : Nat → ClassId) (o : Nat → Nat) (ab : Int) (be : Int) (bl : Int) (ta : Int) (tl : Int) (tk : Int) (vl : Int) (g : Int → Int) (rf : Int → Int) (a0 : Int) (a1 : Int) (a2 : Int) (a3 : Int) (bg : ∀ j : Int, 0 ≤ g j ∧ g j ≤ 99) (ra0 : -2147483648 ≤ a0 ∧ a0 < 2147483648) (ra1 : -2147483648 ≤ a1 ∧ a1 < 2147483648) (ra2 : -2147483648 ≤ a2 ∧ a2 < 2147483648) (ra3 : -2147483648 ≤ a3 ∧ a3 < 2147483648) (hg0 : 0 ≤ g 0 ∧ g 0 ≤ 8) (hg1 : 0 ≤ g 1 ∧ g 1 ≤ 3) (hgc : 0 ≤ g 4 ∧ g 4 ≤ 6) : CTi l_ D cy yX8_mark wsX8_mark rX8_mark [.ref (o 0), .int (zi a0), .int (zi a1), .int (zi a2), .int (zi a3)] ([wO cy o ab be bl ta tl tk vl, wA cy (o 1) 192 g, wR cy (o 4) 3 rf]) (fun (z : Int) (u : (Int → Int) × (Int → Int)) => ((¬ ((0 ≤ a0 ∧ a0 < g 0) ∧ (1 ≤ a1 ∧ a1 ≤ 9) ∧ (0 ≤ a2 ∧ a2 ≤ 99) ∧ (0 ≤ a3 ∧ a3 ≤ 40)) ∧ z = -2 ∧ u.1 = g ∧ u.2 = rfZ rf 0) ∨ (((0 ≤ a0 ∧ a0 < g 0) ∧ (1 ≤ a1 ∧ a1 ≤ 9) ∧ (0 ≤ a2 ∧ a2 ≤ 99) ∧ (0 ≤ a3 ∧ a3 ≤ 40)) ∧ g 4 = 6 ∧ z = -4 ∧ u.1 = g ∧ u.2 = rfZ rf 2) ∨ (((0 ≤ a0 ∧ a0 < g 0) ∧ (1 ≤ a1 ∧ a1 ≤ 9) ∧ (0 ≤ a2 ∧ a2 ≤ 99) ∧ (0 ≤ a3 ∧ a3 ≤ 40)) ∧ g 4 < 6 ∧ z = g 4 + 1 ∧ u.1 = zu (put4 g (80 + 4 * g 4) a0 a1 a2 a3) 4 (g 4 + 1) ∧ u.2 = rf)) ∧ (∀ j : Int, 0 ≤ u.1 j ∧ u.1 j ≤ 99)) (fun (u : (Int → Int) × (Int → Int)) => [wO cy o ab be bl ta tl tk vl, wA cy (o 1) 192 u.1, wR cy (o 4) 3 u.2]) := by
  refine CTi.of RX8 cX8_mark 5 rfl (by decide) rfl (fun z u hz => rfl) (Nat.le_of_ble_eq_true rfl) ?_
  intro p_ e_ s_ m_ ar_ be_ me_ c_ Q_ A_ ls_ F_ K_ W_ hl hret
  have hl : lv_has ls_ 5 [(0, .ref (o 0)), (1, .int (zi a0)), (2, .int (zi a1)), (3, .int (zi a2)), (4, .int (zi a3))] := hl
  obtain ⟨H_, hH_⟩ : ∃ x, x = s_.heap := ⟨_, rfl⟩
  obtain ⟨lo_, hlo_⟩ : ∃ x : List Loc, x = [] := ⟨_, rfl⟩
  have W_ : WD D A_ s_.heap ([wO cy o ab be bl ta tl tk vl, wA cy (o 1) 192 g, wR cy (o 4) 3 rf]) H_ lo_ := by rw [hH_, hlo_]; exact W_
  rw [← hlo_]
  suffices hg_ : W p_ l_ e_ rX8_mark s_ m_ ar_ be_ me_ c_ H_ lo_ 0 0 Q_ (F0 m_ 0 ls_ []) by rw [hH_] at hg_; exact hg_
  clear hH_ hlo_
  have hinX8 : ∀ w ∈ u_ws RX8 TX8 19, w ∈ wsX8_mark := fun w h => List.mem_cons_of_mem _ (List.mem_append_right _ h)
  refine lv_aload_n F_.1 F_.2.1 dX8_mark_0 rfl (lv_at hl 0 rfl) ?_
  refine lv_iload_n F_.1 F_.2.1 dX8_mark_1 rfl (lv_at hl 1 rfl) ?_
  refine z_callVip F_ K_ W_ [.int (zi a0)] (c_X8_isMan l_ D cy o ab be bl ta tl tk vl g a0 bg (by first | omega | assumption) (by first | omega | assumption)) 1 rfl gX8_mark_X8_isMan rfl (by decide +kernel) ⟨⟨Nat.le_of_ble_eq_true rfl, Nat.le_of_ble_eq_true rfl⟩, rfl, rfl, Nat.zero_le _, Nat.zero_le _⟩ 0 0 7 rfl rfl rfl rfl hl.1 rfl (Nat.le_of_ble_eq_true rfl) [0, 1] [2] [wR cy (o 4) 3 rf] 3 (by decide +kernel) rfl rfl rfl dX8_mark_2 (fun z_1 _ H_ lo_ hw_ W_ => ?_)
  have hw_ : ((z_1 = 1 ∧ (0 ≤ a0 ∧ a0 < g 0)) ∨ (z_1 = 0 ∧ ¬ (0 ≤ a0 ∧ a0 < g 0))) := hw_
  have f2_v := hw_
  refine z_if_eq (tgt := 40) F_ (by omega) dX8_mark_5 (by decide) (fun c5 => ?_) (fun c5 => ?_)
  · refine lv_aload_n F_.1 F_.2.1 dX8_mark_40 rfl (lv_at hl 0 rfl) ?_
    refine z_bipush F_ (by decide) dX8_mark_41 ?_
    refine z_callVi F_ K_ W_ [.int (zi (-2))] (c_X8_bad l_ D cy o ab be bl ta tl tk vl rf (-2) (by first | omega | assumption)) 1 rfl gX8_mark_X8_bad rfl (by decide +kernel) ⟨⟨Nat.le_of_ble_eq_true rfl, Nat.le_of_ble_eq_true rfl⟩, rfl, rfl, Nat.zero_le _, Nat.zero_le _⟩ 0 0 7 rfl rfl rfl rfl hl.1 rfl (Nat.le_of_ble_eq_true rfl) [0, 2] [1] [wA cy (o 1) 192 g] (fun (u_ : (Int → Int)) => [wO cy o ab be bl ta tl tk vl, wA cy (o 1) 192 g, wR cy (o 4) 3 u_]) 3 (by decide +kernel) rfl rfl rfl (fun _ => rfl) (fun _ => rfl) (fun _ => rfl) dX8_mark_43 (fun z_2 u_ H_ lo_ hw_ W_ => ?_)
    obtain ⟨rf2_3, rfl⟩ : ∃ x, x = u_ := ⟨_, rfl⟩
    have W_ : WD D A_ s_.heap ([wO cy o ab be bl ta tl tk vl, wA cy (o 1) 192 g, wR cy (o 4) 3 rf2_3]) H_ lo_ := W_
    have hw_ : (z_2 = (-2)) ∧ (rf2_3 = rfZ rf 0) := hw_
    obtain ⟨f43_v, f43_r⟩ := hw_
    exact hret _ _ _ _ z_2 (g, rf2_3) dX8_mark_46 ⟨(by exact Or.inl ⟨by omega, by omega, rfl, by assumption⟩), bg⟩ W_
  · refine lv_iload_n F_.1 F_.2.1 dX8_mark_8 rfl (lv_at hl 2 rfl) ?_
    refine z_callSip F_ K_ W_ [.int (zi a1)] (c_X8_isSkill l_ D cy a1 (by first | omega | assumption)) 1 rfl gX8_mark_X8_isSkill rfl (by decide +kernel) ⟨⟨Nat.le_of_ble_eq_true rfl, Nat.le_of_ble_eq_true rfl⟩, rfl, rfl, Nat.zero_le _, Nat.zero_le _⟩ hl.1 rfl (Nat.le_of_ble_eq_true rfl) ([] : List Nat) [0, 1, 2] [wO cy o ab be bl ta tl tk vl, wA cy (o 1) 192 g, wR cy (o 4) 3 rf] 3 (by decide +kernel) rfl rfl rfl dX8_mark_9 (fun z_4 _ H_ lo_ hw_ W_ => ?_)
    have hw_ : ((z_4 = 1 ∧ (1 ≤ a1 ∧ a1 ≤ 9)) ∨ (z_4 = 0 ∧ ¬ (1 ≤ a1 ∧ a1 ≤ 9))) := hw_
    have f9_v := hw_
    refine z_if_eq (tgt := 40) F_ (by omega) dX8_mark_12 (by decide) (fun c12 => ?_) (fun c12 => ?_)
    · refine lv_aload_n F_.1 F_.2.1 dX8_mark_40 rfl (lv_at hl 0 rfl) ?_
      refine z_bipush F_ (by decide) dX8_mark_41 ?_
      refine z_callVi F_ K_ W_ [.int (zi (-2))] (c_X8_bad l_ D cy o ab be bl ta tl tk vl rf (-2) (by first | omega | assumption)) 1 rfl gX8_mark_X8_bad rfl (by decide +kernel) ⟨⟨Nat.le_of_ble_eq_true rfl, Nat.le_of_ble_eq_true rfl⟩, rfl, rfl, Nat.zero_le _, Nat.zero_le _⟩ 0 0 7 rfl rfl rfl rfl hl.1 rfl (Nat.le_of_ble_eq_true rfl) [0, 2] [1] [wA cy (o 1) 192 g] (fun (u_ : (Int → Int)) => [wO cy o ab be bl ta tl tk vl, wA cy (o 1) 192 g, wR cy (o 4) 3 u_]) 3 (by decide +kernel) rfl rfl rfl (fun _ => rfl) (fun _ => rfl) (fun _ => rfl) dX8_mark_43 (fun z_5 u_ H_ lo_ hw_ W_ => ?_)
      obtain ⟨rf2_6, rfl⟩ : ∃ x, x = u_ := ⟨_, rfl⟩
      have W_ : WD D A_ s_.heap ([wO cy o ab be bl ta tl tk vl, wA cy (o 1) 192 g, wR cy (o 4) 3 rf2_6]) H_ lo_ := W_
      have hw_ : (z_5 = (-2)) ∧ (rf2_6 = rfZ rf 0) := hw_
      obtain ⟨f43_v, f43_r⟩ := hw_
      exact hret _ _ _ _ z_5 (g, rf2_6) dX8_mark_46 ⟨(by exact Or.inl ⟨by omega, by omega, rfl, by assumption⟩), bg⟩ W_
    · refine lv_iload_n F_.1 F_.2.1 dX8_mark_15 rfl (lv_at hl 3 rfl) ?_
      refine z_i2l F_ (by omega) dX8_mark_16 ?_
      refine z_lconst (z := 0) F_ rfl dX8_mark_17 ?_
      refine z_ldc2 (z := 99) F_ (F_.2.2.2.2 _ (List.mem_of_getElem? (i := 1) rfl)) rfl dX8_mark_18 ?_
      refine z_callSip F_ K_ W_ [.long (zl a2), .long (zl 0), .long (zl 99)] (c_X8_in l_ D cy a2 0 99 (by first | omega | assumption)) 3 rfl gX8_mark_X8_in rfl (by decide +kernel) ⟨⟨Nat.le_of_ble_eq_true rfl, Nat.le_of_ble_eq_true rfl⟩, rfl, rfl, Nat.zero_le _, Nat.zero_le _⟩ hl.1 rfl (Nat.le_of_ble_eq_true rfl) ([] : List Nat) [0, 1, 2] [wO cy o ab be bl ta tl tk vl, wA cy (o 1) 192 g, wR cy (o 4) 3 rf] 3 (by decide +kernel) rfl rfl rfl dX8_mark_21 (fun z_7 _ H_ lo_ hw_ W_ => ?_)
      have hw_ : ((z_7 = 1 ∧ (0 ≤ a2 ∧ a2 ≤ 99)) ∨ (z_7 = 0 ∧ ¬ (0 ≤ a2 ∧ a2 ≤ 99))) := hw_
      have f21_v := hw_
      refine z_if_eq (tgt := 40) F_ (by omega) dX8_mark_24 (by decide) (fun c24 => ?_) (fun c24 => ?_)
      · refine lv_aload_n F_.1 F_.2.1 dX8_mark_40 rfl (lv_at hl 0 rfl) ?_
        refine z_bipush F_ (by decide) dX8_mark_41 ?_
        refine z_callVi F_ K_ W_ [.int (zi (-2))] (c_X8_bad l_ D cy o ab be bl ta tl tk vl rf (-2) (by first | omega | assumption)) 1 rfl gX8_mark_X8_bad rfl (by decide +kernel) ⟨⟨Nat.le_of_ble_eq_true rfl, Nat.le_of_ble_eq_true rfl⟩, rfl, rfl, Nat.zero_le _, Nat.zero_le _⟩ 0 0 7 rfl rfl rfl rfl hl.1 rfl (Nat.le_of_ble_eq_true rfl) [0, 2] [1] [wA cy (o 1) 192 g] (fun (u_ : (Int → Int)) => [wO cy o ab be bl ta tl tk vl, wA cy (o 1) 192 g, wR cy (o 4) 3 u_]) 3 (by decide +kernel) rfl rfl rfl (fun _ => rfl) (fun _ => rfl) (fun _ => rfl) dX8_mark_43 (fun z_8 u_ H_ lo_ hw_ W_ => ?_)
        obtain ⟨rf2_9, rfl⟩ : ∃ x, x = u_ := ⟨_, rfl⟩
        have W_ : WD D A_ s_.heap ([wO cy o ab be bl ta tl tk vl, wA cy (o 1) 192 g, wR cy (o 4) 3 rf2_9]) H_ lo_ := W_
        have hw_ : (z_8 = (-2)) ∧ (rf2_9 = rfZ rf 0) := hw_
        obtain ⟨f43_v, f43_r⟩ := hw_
        exact hret _ _ _ _ z_8 (g, rf2_9) dX8_mark_46 ⟨(by exact Or.inl ⟨by omega, by omega, rfl, by assumption⟩), bg⟩ W_
      · refine lv_iload F_.1 F_.2.1 dX8_mark_27 (lv_at hl 4 rfl) ?_
        refine z_i2l F_ (by omega) dX8_mark_29 ?_
        refine z_lconst (z := 0) F_ rfl dX8_mark_30 ?_
        refine z_ldc2 (z := 40) F_ (F_.2.2.2.2 _ (List.mem_of_getElem? (i := 2) rfl)) rfl dX8_mark_31 ?_
        refine z_callSip F_ K_ W_ [.long (zl a3), .long (zl 0), .long (zl 40)] (c_X8_in l_ D cy a3 0 40 (by first | omega | assumption)) 3 rfl gX8_mark_X8_in rfl (by decide +kernel) ⟨⟨Nat.le_of_ble_eq_true rfl, Nat.le_of_ble_eq_true rfl⟩, rfl, rfl, Nat.zero_le _, Nat.zero_le _⟩ hl.1 rfl (Nat.le_of_ble_eq_true rfl) ([] : List Nat) [0, 1, 2] [wO cy o ab be bl ta tl tk vl, wA cy (o 1) 192 g, wR cy (o 4) 3 rf] 3 (by decide +kernel) rfl rfl rfl dX8_mark_34 (fun z_10 _ H_ lo_ hw_ W_ => ?_)
        have hw_ : ((z_10 = 1 ∧ (0 ≤ a3 ∧ a3 ≤ 40)) ∨ (z_10 = 0 ∧ ¬ (0 ≤ a3 ∧ a3 ≤ 40))) := hw_
        have f34_v := hw_
        refine z_if_ne (tgt := 47) F_ (by omega) dX8_mark_37 (by decide) (fun c37 => ?_) (fun c37 => ?_)
        · refine lv_aload_n F_.1 F_.2.1 dX8_mark_47 rfl (lv_at hl 0 rfl) ?_
          refine z_get F_ K_ W_ 0 0 0 rfl rfl rfl (C := RX8) (T := TX8) (N := 19) rfl (by decide) hinX8 (List.mem_of_getElem? (i := 3) rfl) dX8_mark_48 ?_
          refine z_iconst F_ dX8_mark_51 ?_
          refine z_iald F_ K_ W_ 1 0 rfl rfl (by omega) (by decide) dX8_mark_52 ?_
          have b_11 := bg 4
          refine z_bipush F_ (by decide) dX8_mark_53 ?_
          refine z_icmp_ne (tgt := 63) F_ (by omega) dX8_mark_55 (by decide) (fun c55 => ?_) (fun c55 => ?_)
          · refine lv_aload_n F_.1 F_.2.1 dX8_mark_63 rfl (lv_at hl 0 rfl) ?_
            refine z_bipush F_ (by decide) dX8_mark_64 ?_
            refine z_iconst F_ dX8_mark_66 ?_
            refine lv_aload_n F_.1 F_.2.1 dX8_mark_67 rfl (lv_at hl 0 rfl) ?_
            refine z_get F_ K_ W_ 0 0 0 rfl rfl rfl (C := RX8) (T := TX8) (N := 19) rfl (by decide) hinX8 (List.mem_of_getElem? (i := 3) rfl) dX8_mark_68 ?_
            refine z_iconst F_ dX8_mark_71 ?_
            refine z_iald F_ K_ W_ 1 0 rfl rfl (by omega) (by decide) dX8_mark_72 ?_
            refine z_imul F_ dX8_mark_73 ?_
            refine z_iadd F_ dX8_mark_74 ?_
            refine lv_iload_n F_.1 F_.2.1 dX8_mark_75 rfl (lv_at hl 1 rfl) ?_
            refine lv_iload_n F_.1 F_.2.1 dX8_mark_76 rfl (lv_at hl 2 rfl) ?_
            refine lv_iload_n F_.1 F_.2.1 dX8_mark_77 rfl (lv_at hl 3 rfl) ?_
            refine lv_iload F_.1 F_.2.1 dX8_mark_78 (lv_at hl 4 rfl) ?_
            refine z_callVv F_ K_ W_ [.int (zi (80 + (4 * (g 4)))), .int (zi a0), .int (zi a1), .int (zi a2), .int (zi a3)] (c_X8_layFour l_ D cy o ab be bl ta tl tk vl g (80 + (4 * (g 4))) a0 a1 a2 a3 bg (by first | omega | assumption) (by first | omega | assumption) (by first | omega | assumption) (by first | omega | assumption) (by first | omega | assumption) (by first | omega | assumption) (by first | omega | assumption)) 5 rfl gX8_mark_X8_layFour rfl (by decide +kernel) ⟨⟨Nat.le_of_ble_eq_true rfl, Nat.le_of_ble_eq_true rfl⟩, rfl, rfl, Nat.zero_le _, Nat.zero_le _⟩ 0 0 7 rfl rfl rfl rfl hl.1 rfl (Nat.le_of_ble_eq_true rfl) [0, 1] [2] [wR cy (o 4) 3 rf] (fun (u_ : (Int → Int)) => [wO cy o ab be bl ta tl tk vl, wA cy (o 1) 192 u_, wR cy (o 4) 3 rf]) 3 (by decide +kernel) rfl rfl rfl (fun _ => rfl) (fun _ => rfl) (fun _ => rfl) dX8_mark_80 (fun u_ H_ lo_ hw_ W_ => ?_)
            obtain ⟨g2_13, rfl⟩ : ∃ x, x = u_ := ⟨_, rfl⟩
            have W_ : WD D A_ s_.heap ([wO cy o ab be bl ta tl tk vl, wA cy (o 1) 192 g2_13, wR cy (o 4) 3 rf]) H_ lo_ := W_
            have hw_ : (g2_13 = put4 g (80 + (4 * (g 4))) a0 a1 a2 a3) ∧ (∀ j : Int, 0 ≤ g2_13 j ∧ g2_13 j ≤ 99) := hw_
            obtain ⟨f80_v, f80_B_A_g⟩ := hw_
            refine lv_aload_n F_.1 F_.2.1 dX8_mark_83 rfl (lv_at hl 0 rfl) ?_
            refine z_get F_ K_ W_ 0 0 0 rfl rfl rfl (C := RX8) (T := TX8) (N := 19) rfl (by decide) hinX8 (List.mem_of_getElem? (i := 3) rfl) dX8_mark_84 ?_
            refine z_iconst F_ dX8_mark_87 ?_
            refine lv_dup2_11 F_.1 F_.2.1 dX8_mark_88 rfl rfl ?_
            refine z_iald F_ K_ W_ 1 0 rfl rfl (by omega) (by decide) dX8_mark_89 ?_
            have b_14 := f80_B_A_g 4
            have i_15 : g2_13 4 = g 4 := by rw [f80_v]; simp only [put4, zu_at]; repeat rw [if_neg (by omega)]
            rw [i_15]
            have b_16 := f80_B_A_g 4
            rw [i_15] at b_16
            refine z_iconst F_ dX8_mark_90 ?_
            refine z_iadd F_ dX8_mark_91 ?_
            refine z_iast (sg' := [wO cy o ab be bl ta tl tk vl, wA cy (o 1) 192 (zu g2_13 4 ((g 4) + 1)), wR cy (o 4) 3 rf]) F_ K_ W_ 1 0 rfl rfl rfl (by omega) (by decide) dX8_mark_92 (fun H_ lo_ W_ => ?_)
            obtain ⟨g_17, eg_17⟩ : ∃ x_ : Int → Int, x_ = zu g2_13 4 ((g 4) + 1) := ⟨_, rfl⟩
            rw [← eg_17] at W_
            have bg_17 : ∀ j : Int, 0 ≤ g_17 j ∧ g_17 j ≤ 99 := by rw [eg_17]; exact zu_b f80_B_A_g (by omega)
            refine lv_aload_n F_.1 F_.2.1 dX8_mark_93 rfl (lv_at hl 0 rfl) ?_
            refine z_get F_ K_ W_ 0 0 0 rfl rfl rfl (C := RX8) (T := TX8) (N := 19) rfl (by decide) hinX8 (List.mem_of_getElem? (i := 3) rfl) dX8_mark_94 ?_
            refine z_iconst F_ dX8_mark_97 ?_
            refine z_iald F_ K_ W_ 1 0 rfl rfl (by omega) (by decide) dX8_mark_98 ?_
            have b_18 := bg_17 4
            have i_19 : g_17 4 = g 4 + 1 := by rw [eg_17]; exact zu_s _ _ _
            rw [i_19]
            have b_20 := bg_17 4
            rw [i_19] at b_20
            exact hret _ _ _ _ (g 4 + 1) (g_17, rf) dX8_mark_99 ⟨(by exact Or.inr (Or.inr ⟨by omega, by omega, rfl, by rw [eg_17, f80_v], rfl⟩)), bg_17⟩ W_
          · refine lv_aload_n F_.1 F_.2.1 dX8_mark_58 rfl (lv_at hl 0 rfl) ?_
            refine z_callVi F_ K_ W_ [] (c_X8_full l_ D cy o ab be bl ta tl tk vl rf) 0 rfl gX8_mark_X8_full rfl (by decide +kernel) ⟨⟨Nat.le_of_ble_eq_true rfl, Nat.le_of_ble_eq_true rfl⟩, rfl, rfl, Nat.zero_le _, Nat.zero_le _⟩ 0 0 7 rfl rfl rfl rfl hl.1 rfl (Nat.le_of_ble_eq_true rfl) [0, 2] [1] [wA cy (o 1) 192 g] (fun (u_ : (Int → Int)) => [wO cy o ab be bl ta tl tk vl, wA cy (o 1) 192 g, wR cy (o 4) 3 u_]) 3 (by decide +kernel) rfl rfl rfl (fun _ => rfl) (fun _ => rfl) (fun _ => rfl) dX8_mark_59 (fun z_21 u_ H_ lo_ hw_ W_ => ?_)
            obtain ⟨rf2_22, rfl⟩ : ∃ x, x = u_ := ⟨_, rfl⟩
            have W_ : WD D A_ s_.heap ([wO cy o ab be bl ta tl tk vl, wA cy (o 1) 192 g, wR cy (o 4) 3 rf2_22]) H_ lo_ := W_
            have hw_ : (z_21 = -4) ∧ (rf2_22 = rfZ rf 2) := hw_
            obtain ⟨f59_v, f59_r⟩ := hw_
            exact hret _ _ _ _ z_21 (g, rf2_22) dX8_mark_62 ⟨(by exact Or.inr (Or.inl ⟨by omega, by omega, by omega, rfl, by assumption⟩)), bg⟩ W_
        · refine lv_aload_n F_.1 F_.2.1 dX8_mark_40 rfl (lv_at hl 0 rfl) ?_
          refine z_bipush F_ (by decide) dX8_mark_41 ?_
          refine z_callVi F_ K_ W_ [.int (zi (-2))] (c_X8_bad l_ D cy o ab be bl ta tl tk vl rf (-2) (by first | omega | assumption)) 1 rfl gX8_mark_X8_bad rfl (by decide +kernel) ⟨⟨Nat.le_of_ble_eq_true rfl, Nat.le_of_ble_eq_true rfl⟩, rfl, rfl, Nat.zero_le _, Nat.zero_le _⟩ 0 0 7 rfl rfl rfl rfl hl.1 rfl (Nat.le_of_ble_eq_true rfl) [0, 2] [1] [wA cy (o 1) 192 g] (fun (u_ : (Int → Int)) => [wO cy o ab be bl ta tl tk vl, wA cy (o 1) 192 g, wR cy (o 4) 3 u_]) 3 (by decide +kernel) rfl rfl rfl (fun _ => rfl) (fun _ => rfl) (fun _ => rfl) dX8_mark_43 (fun z_23 u_ H_ lo_ hw_ W_ => ?_)
          obtain ⟨rf2_24, rfl⟩ : ∃ x, x = u_ := ⟨_, rfl⟩
          have W_ : WD D A_ s_.heap ([wO cy o ab be bl ta tl tk vl, wA cy (o 1) 192 g, wR cy (o 4) 3 rf2_24]) H_ lo_ := W_
          have hw_ : (z_23 = (-2)) ∧ (rf2_24 = rfZ rf 0) := hw_
          obtain ⟨f43_v, f43_r⟩ := hw_
          exact hret _ _ _ _ z_23 (g, rf2_24) dX8_mark_46 ⟨(by exact Or.inl ⟨by omega, by omega, rfl, by assumption⟩), bg⟩ W_
abbrev rX8_isSkilledBy : Room := { frames := 1, cells := 0, slots := 0, locals := 24 }
set_option maxHeartbeats 1000000 in
set_option maxRecDepth 100000 in
theorem c_X8_isSkilledBy (l_ : Launch) (D : va_G) (cy : Nat → ClassId) (o : Nat → Nat) (ab : Int) (be : Int) (bl : Int) (ta : Int) (tl : Int) (tk : Int) (vl : Int) (g : Int → Int) (i : Int) (t : Int) (bg : ∀ j : Int, 0 ≤ g j ∧ g j ≤ 99) (ri : -2147483648 ≤ i ∧ i < 2147483648) (rt : -2147483648 ≤ t ∧ t < 2147483648) (hg2 : 0 ≤ g 2 ∧ g 2 ≤ 5) (hi : 0 ≤ i ∧ i < 8) (ht : 1 ≤ t ∧ t ≤ 9) : CTi l_ D cy yX8_isSkilledBy wsX8_isSkilledBy rX8_isSkilledBy [.ref (o 0), .int (zi i), .int (zi t)] ([wO cy o ab be bl ta tl tk vl, wA cy (o 1) 192 g]) (fun (z : Int) (u : Unit) => ((z = 1 ∧ okZ (shZ g 36) (g (20 + i)) i t (g 2) = 1) ∨ (z = 0 ∧ okZ (shZ g 36) (g (20 + i)) i t (g 2) = 0))) (fun (_ : Unit) => [wO cy o ab be bl ta tl tk vl, wA cy (o 1) 192 g]) := by
  refine CTi.of RX8 cX8_isSkilledBy 7 rfl (by decide) rfl (fun z u hz => z_bl hz) (Nat.le_of_ble_eq_true rfl) ?_
  intro p_ e_ s_ m_ ar_ be_ me_ c_ Q_ A_ ls_ F_ K_ W_ hl hret
  have hl : lv_has ls_ 7 [(0, .ref (o 0)), (1, .int (zi i)), (2, .int (zi t))] := hl
  obtain ⟨H_, hH_⟩ : ∃ x, x = s_.heap := ⟨_, rfl⟩
  obtain ⟨lo_, hlo_⟩ : ∃ x : List Loc, x = [] := ⟨_, rfl⟩
  have W_ : WD D A_ s_.heap ([wO cy o ab be bl ta tl tk vl, wA cy (o 1) 192 g]) H_ lo_ := by rw [hH_, hlo_]; exact W_
  rw [← hlo_]
  suffices hg_ : W p_ l_ e_ rX8_isSkilledBy s_ m_ ar_ be_ me_ c_ H_ lo_ 0 0 Q_ (F0 m_ 0 ls_ []) by rw [hH_] at hg_; exact hg_
  clear hH_ hlo_
  have hinX8 : ∀ w ∈ u_ws RX8 TX8 19, w ∈ wsX8_isSkilledBy := fun w h => List.mem_cons_of_mem _ (List.mem_append_right _ h)
  refine z_iconst F_ dX8_isSkilledBy_0 ?_
  refine lv_istore_n (lv' := [(3, .int (zi 1)), (0, .ref (o 0)), (1, .int (zi i)), (2, .int (zi t))]) F_.1 F_.2.1 dX8_isSkilledBy_1 rfl hl (by decide) rfl (fun ls_ hl => ?_)
  refine z_iconst F_ dX8_isSkilledBy_2 ?_
  refine lv_istore (lv' := [(4, .int (zi 0)), (3, .int (zi 1)), (0, .ref (o 0)), (1, .int (zi i)), (2, .int (zi t))]) F_.1 F_.2.1 dX8_isSkilledBy_3 hl (by decide) rfl (fun ls_ hl => ?_)
  have L5 : ∀ (n_ : Nat) (x : Int) (k : Int) (hk : 0 ≤ k ∧ k ≤ g 2) (hx : x = okZ (shZ g 36) (g (20 + i)) i t k) (hx1 : x = 0 ∨ x = 1) (hm_ : (g 2 - k : Int) < (n_ : Int)) (ls_ : Array Slot) (H_ : Heap) (lo_ : List Loc), WD D A_ s_.heap ([wO cy o ab be bl ta tl tk vl, wA cy (o 1) 192 g]) H_ lo_ → lv_has ls_ 7 [(4, .int (zi k)), (3, .int (zi x)), (0, .ref (o 0)), (1, .int (zi i)), (2, .int (zi t))] → W p_ l_ e_ rX8_isSkilledBy s_ m_ ar_ be_ me_ c_ H_ lo_ 0 0 Q_ (F0 m_ 5 ls_ []) := by
    intro n_
    induction n_ with
    | zero =>
      intro x k hk hx hx1 hm_ ls_ H_ lo_ _ _
      exact absurd hm_ (by omega)
    | succ n_ ih_ =>
      intro x k hk hx hx1 hm_ ls_ H_ lo_ W_ hl
      have ih5 := ih_
      refine lv_iload F_.1 F_.2.1 dX8_isSkilledBy_5 (lv_at hl 0 rfl) ?_
      refine lv_aload_n F_.1 F_.2.1 dX8_isSkilledBy_7 rfl (lv_at hl 2 rfl) ?_
      refine z_get F_ K_ W_ 0 0 0 rfl rfl rfl (C := RX8) (T := TX8) (N := 19) rfl (by decide) hinX8 (List.mem_of_getElem? (i := 1) rfl) dX8_isSkilledBy_8 ?_
      refine z_iconst F_ dX8_isSkilledBy_11 ?_
      refine z_iald F_ K_ W_ 1 0 rfl rfl (by omega) (by decide) dX8_isSkilledBy_12 ?_
      have b_1 := bg 2
      refine z_icmp_ge (tgt := 116) F_ (by omega) dX8_isSkilledBy_13 (by decide) (fun c13 => ?_) (fun c13 => ?_)
      · refine lv_iload_n F_.1 F_.2.1 dX8_isSkilledBy_116 rfl (lv_at hl 1 rfl) ?_
        exact hret _ _ _ _ x () dX8_isSkilledBy_117 (by rw [show g 2 = k by omega, ← hx]; omega) W_
      · refine z_bipush F_ (by decide) dX8_isSkilledBy_16 ?_
        refine z_iconst F_ dX8_isSkilledBy_18 ?_
        refine lv_iload F_.1 F_.2.1 dX8_isSkilledBy_19 (lv_at hl 0 rfl) ?_
        refine z_imul F_ dX8_isSkilledBy_21 ?_
        refine z_iadd F_ dX8_isSkilledBy_22 ?_
        refine lv_istore (lv' := [(5, .int (zi (36 + (4 * k)))), (4, .int (zi k)), (3, .int (zi x)), (0, .ref (o 0)), (1, .int (zi i)), (2, .int (zi t))]) F_.1 F_.2.1 dX8_isSkilledBy_23 hl (by decide) rfl (fun ls_ hl => ?_)
        refine lv_aload_n F_.1 F_.2.1 dX8_isSkilledBy_25 rfl (lv_at hl 3 rfl) ?_
        refine z_get F_ K_ W_ 0 0 0 rfl rfl rfl (C := RX8) (T := TX8) (N := 19) rfl (by decide) hinX8 (List.mem_of_getElem? (i := 1) rfl) dX8_isSkilledBy_26 ?_
        refine z_bipush F_ (by decide) dX8_isSkilledBy_29 ?_
        refine lv_iload_n F_.1 F_.2.1 dX8_isSkilledBy_31 rfl (lv_at hl 4 rfl) ?_
        refine z_iadd F_ dX8_isSkilledBy_32 ?_
        refine z_iald F_ K_ W_ 1 0 rfl rfl (by omega) (by decide) dX8_isSkilledBy_33 ?_
        have b_2 := bg (20 + i)
        refine lv_iload_n F_.1 F_.2.1 dX8_isSkilledBy_34 rfl (lv_at hl 5 rfl) ?_
        refine lv_aload_n F_.1 F_.2.1 dX8_isSkilledBy_35 rfl (lv_at hl 3 rfl) ?_
        refine z_get F_ K_ W_ 0 0 0 rfl rfl rfl (C := RX8) (T := TX8) (N := 19) rfl (by decide) hinX8 (List.mem_of_getElem? (i := 1) rfl) dX8_isSkilledBy_36 ?_
        refine lv_iload F_.1 F_.2.1 dX8_isSkilledBy_39 (lv_at hl 0 rfl) ?_
        refine z_iconst F_ dX8_isSkilledBy_41 ?_
        refine z_iadd F_ dX8_isSkilledBy_42 ?_
        refine z_iald F_ K_ W_ 1 0 rfl rfl (by omega) (by decide) dX8_isSkilledBy_43 ?_
        have b_3 := bg ((36 + (4 * k)) + 1)
        have i_4 : g ((36 + (4 * k)) + 1) = shZ g 36 (4 * k + 1) := by first | rfl | (show g _ = g _; congr 1; omega)
        rw [i_4]
        have b_5 := bg ((36 + (4 * k)) + 1)
        rw [i_4] at b_5
        refine z_callSip F_ K_ W_ [.int (zi (g (20 + i))), .int (zi t), .int (zi (shZ g 36 (4 * k + 1)))] (c_X8_likedAs l_ D cy (g (20 + i)) t (shZ g 36 (4 * k + 1)) (by first | omega | assumption) (by first | omega | assumption) (by first | omega | assumption) (by first | omega | assumption) (by first | omega | assumption)) 3 rfl gX8_isSkilledBy_X8_likedAs rfl (by decide +kernel) ⟨⟨Nat.le_of_ble_eq_true rfl, Nat.le_of_ble_eq_true rfl⟩, rfl, rfl, Nat.zero_le _, Nat.zero_le _⟩ hl.1 rfl (Nat.le_of_ble_eq_true rfl) ([] : List Nat) [0, 1] [wO cy o ab be bl ta tl tk vl, wA cy (o 1) 192 g] 2 (by decide +kernel) rfl rfl rfl dX8_isSkilledBy_44 (fun z_6 _ H_ lo_ hw_ W_ => ?_)
        have hw_ : (z_6 = likedZ (g (20 + i)) t (shZ g 36 (4 * k + 1))) := hw_
        have f44_v := hw_
        have hb44 := likedZ_b2 (g (20 + i)) (s := t) (c := shZ g 36 (4 * k + 1)) (by omega) (by omega)
        rw [← f44_v] at hb44
        refine lv_aload_n F_.1 F_.2.1 dX8_isSkilledBy_47 rfl (lv_at hl 3 rfl) ?_
        refine z_get F_ K_ W_ 0 0 0 rfl rfl rfl (C := RX8) (T := TX8) (N := 19) rfl (by decide) hinX8 (List.mem_of_getElem? (i := 1) rfl) dX8_isSkilledBy_48 ?_
        refine lv_iload F_.1 F_.2.1 dX8_isSkilledBy_51 (lv_at hl 0 rfl) ?_
        refine z_iconst F_ dX8_isSkilledBy_53 ?_
        refine z_iadd F_ dX8_isSkilledBy_54 ?_
        refine z_iald F_ K_ W_ 1 0 rfl rfl (by omega) (by decide) dX8_isSkilledBy_55 ?_
        have b_7 := bg ((36 + (4 * k)) + 2)
        have i_8 : g ((36 + (4 * k)) + 2) = shZ g 36 (4 * k + 2) := by first | rfl | (show g _ = g _; congr 1; omega)
        rw [i_8]
        have b_9 := bg ((36 + (4 * k)) + 2)
        rw [i_8] at b_9
        have J64 : ∀ (k64_0 : Int) (g64 : ((shZ g 36 (4 * k + 2) < z_6) ∧ (k64_0 = 0)) ∨ ((z_6 ≤ shZ g 36 (4 * k + 2)) ∧ (k64_0 = 1))) (ls_ : Array Slot) (H_ : Heap) (lo_ : List Loc), WD D A_ s_.heap ([wO cy o ab be bl ta tl tk vl, wA cy (o 1) 192 g]) H_ lo_ → lv_has ls_ 7 [(5, .int (zi (36 + (4 * k)))), (4, .int (zi k)), (3, .int (zi x)), (0, .ref (o 0)), (1, .int (zi i)), (2, .int (zi t))] → W p_ l_ e_ rX8_isSkilledBy s_ m_ ar_ be_ me_ c_ H_ lo_ 0 0 Q_ (F0 m_ 64 ls_ [.int (zi k64_0)]) := by
          intro k64_0 g64 ls_ H_ lo_ W_ hl
          refine lv_istore (lv' := [(6, .int (zi k64_0)), (5, .int (zi (36 + (4 * k)))), (4, .int (zi k)), (3, .int (zi x)), (0, .ref (o 0)), (1, .int (zi i)), (2, .int (zi t))]) F_.1 F_.2.1 dX8_isSkilledBy_64 hl (by decide) rfl (fun ls_ hl => ?_)
          refine lv_iload_n F_.1 F_.2.1 dX8_isSkilledBy_66 rfl (lv_at hl 3 rfl) ?_
          refine z_if_eq (tgt := 108) F_ (by omega) dX8_isSkilledBy_67 (by decide) (fun c67 => ?_) (fun c67 => ?_)
          · refine z_iconst F_ dX8_isSkilledBy_108 ?_
            refine lv_istore_n (lv' := [(3, .int (zi 0)), (6, .int (zi k64_0)), (5, .int (zi (36 + (4 * k)))), (4, .int (zi k)), (0, .ref (o 0)), (1, .int (zi i)), (2, .int (zi t))]) F_.1 F_.2.1 dX8_isSkilledBy_109 rfl hl (by decide) rfl (fun ls_ hl => ?_)
            refine z_iinc (lv' := [(4, .int (zi (k + 1))), (3, .int (zi 0)), (6, .int (zi k64_0)), (5, .int (zi (36 + (4 * k)))), (0, .ref (o 0)), (1, .int (zi i)), (2, .int (zi t))]) F_ dX8_isSkilledBy_110 hl (k := 3) rfl (by decide) rfl (fun ls_ hl => ?_)
            refine z_goto (tgt := 5) F_ dX8_isSkilledBy_113 (by decide) ?_
            exact ih5 0 (k + 1) (by first | omega | assumption) (by rw [okZ_s _ _ _ _ hk.1, ← hx]; try rw [f44_v] at g64; (first | (split <;> omega) | (rw [if_neg (fun q => by first | (have w := q c78; omega) | omega)]; first | done | omega) | (rw [if_pos (fun q => by first | omega | exact absurd q c78)]; first | done | omega))) (by first | omega | assumption) (by omega) ls_ H_ lo_ W_ (lv_sub hl [0, 1, 4, 5, 6] rfl)
          · refine lv_aload_n F_.1 F_.2.1 dX8_isSkilledBy_70 rfl (lv_at hl 4 rfl) ?_
            refine z_get F_ K_ W_ 0 0 0 rfl rfl rfl (C := RX8) (T := TX8) (N := 19) rfl (by decide) hinX8 (List.mem_of_getElem? (i := 1) rfl) dX8_isSkilledBy_71 ?_
            refine lv_iload F_.1 F_.2.1 dX8_isSkilledBy_74 (lv_at hl 1 rfl) ?_
            refine z_iald F_ K_ W_ 1 0 rfl rfl (by omega) (by decide) dX8_isSkilledBy_76 ?_
            have b_10 := bg (36 + (4 * k))
            have i_11 : g (36 + (4 * k)) = shZ g 36 (4 * k) := by first | rfl | (show g _ = g _; congr 1; omega)
            rw [i_11]
            have b_12 := bg (36 + (4 * k))
            rw [i_11] at b_12
            refine lv_iload_n F_.1 F_.2.1 dX8_isSkilledBy_77 rfl (lv_at hl 5 rfl) ?_
            refine z_icmp_ne (tgt := 104) F_ (by omega) dX8_isSkilledBy_78 (by decide) (fun c78 => ?_) (fun c78 => ?_)
            · refine z_iconst F_ dX8_isSkilledBy_104 ?_
              refine z_goto (tgt := 109) F_ dX8_isSkilledBy_105 (by decide) ?_
              refine lv_istore_n (lv' := [(3, .int (zi 1)), (6, .int (zi k64_0)), (5, .int (zi (36 + (4 * k)))), (4, .int (zi k)), (0, .ref (o 0)), (1, .int (zi i)), (2, .int (zi t))]) F_.1 F_.2.1 dX8_isSkilledBy_109 rfl hl (by decide) rfl (fun ls_ hl => ?_)
              refine z_iinc (lv' := [(4, .int (zi (k + 1))), (3, .int (zi 1)), (6, .int (zi k64_0)), (5, .int (zi (36 + (4 * k)))), (0, .ref (o 0)), (1, .int (zi i)), (2, .int (zi t))]) F_ dX8_isSkilledBy_110 hl (k := 3) rfl (by decide) rfl (fun ls_ hl => ?_)
              refine z_goto (tgt := 5) F_ dX8_isSkilledBy_113 (by decide) ?_
              exact ih5 1 (k + 1) (by first | omega | assumption) (by rw [okZ_s _ _ _ _ hk.1, ← hx]; try rw [f44_v] at g64; (first | (split <;> omega) | (rw [if_neg (fun q => by first | (have w := q c78; omega) | omega)]; first | done | omega) | (rw [if_pos (fun q => by first | omega | exact absurd q c78)]; first | done | omega))) (by first | omega | assumption) (by omega) ls_ H_ lo_ W_ (lv_sub hl [0, 1, 4, 5, 6] rfl)
            · refine lv_iload F_.1 F_.2.1 dX8_isSkilledBy_81 (lv_at hl 0 rfl) ?_
              refine lv_aload_n F_.1 F_.2.1 dX8_isSkilledBy_83 rfl (lv_at hl 4 rfl) ?_
              refine z_get F_ K_ W_ 0 0 0 rfl rfl rfl (C := RX8) (T := TX8) (N := 19) rfl (by decide) hinX8 (List.mem_of_getElem? (i := 1) rfl) dX8_isSkilledBy_84 ?_
              refine lv_iload F_.1 F_.2.1 dX8_isSkilledBy_87 (lv_at hl 1 rfl) ?_
              refine z_iconst F_ dX8_isSkilledBy_89 ?_
              refine z_iadd F_ dX8_isSkilledBy_90 ?_
              refine z_iald F_ K_ W_ 1 0 rfl rfl (by omega) (by decide) dX8_isSkilledBy_91 ?_
              have b_13 := bg ((36 + (4 * k)) + 3)
              have i_14 : g ((36 + (4 * k)) + 3) = shZ g 36 (4 * k + 3) := by first | rfl | (show g _ = g _; congr 1; omega)
              rw [i_14]
              have b_15 := bg ((36 + (4 * k)) + 3)
              rw [i_14] at b_15
              refine z_iconst F_ dX8_isSkilledBy_92 ?_
              refine z_icmp_ne (tgt := 100) F_ (by omega) dX8_isSkilledBy_93 (by decide) (fun c93 => ?_) (fun c93 => ?_)
              · refine z_iconst F_ dX8_isSkilledBy_100 ?_
                refine z_icmp_ne (tgt := 108) F_ (by omega) dX8_isSkilledBy_101 (by decide) (fun c101 => ?_) (fun c101 => ?_)
                · refine z_iconst F_ dX8_isSkilledBy_108 ?_
                  refine lv_istore_n (lv' := [(3, .int (zi 0)), (6, .int (zi k64_0)), (5, .int (zi (36 + (4 * k)))), (4, .int (zi k)), (0, .ref (o 0)), (1, .int (zi i)), (2, .int (zi t))]) F_.1 F_.2.1 dX8_isSkilledBy_109 rfl hl (by decide) rfl (fun ls_ hl => ?_)
                  refine z_iinc (lv' := [(4, .int (zi (k + 1))), (3, .int (zi 0)), (6, .int (zi k64_0)), (5, .int (zi (36 + (4 * k)))), (0, .ref (o 0)), (1, .int (zi i)), (2, .int (zi t))]) F_ dX8_isSkilledBy_110 hl (k := 3) rfl (by decide) rfl (fun ls_ hl => ?_)
                  refine z_goto (tgt := 5) F_ dX8_isSkilledBy_113 (by decide) ?_
                  exact ih5 0 (k + 1) (by first | omega | assumption) (by rw [okZ_s _ _ _ _ hk.1, ← hx]; try rw [f44_v] at g64; (first | (split <;> omega) | (rw [if_neg (fun q => by first | (have w := q c78; omega) | omega)]; first | done | omega) | (rw [if_pos (fun q => by first | omega | exact absurd q c78)]; first | done | omega))) (by first | omega | assumption) (by omega) ls_ H_ lo_ W_ (lv_sub hl [0, 1, 4, 5, 6] rfl)
                · refine z_iconst F_ dX8_isSkilledBy_104 ?_
                  refine z_goto (tgt := 109) F_ dX8_isSkilledBy_105 (by decide) ?_
                  refine lv_istore_n (lv' := [(3, .int (zi 1)), (6, .int (zi k64_0)), (5, .int (zi (36 + (4 * k)))), (4, .int (zi k)), (0, .ref (o 0)), (1, .int (zi i)), (2, .int (zi t))]) F_.1 F_.2.1 dX8_isSkilledBy_109 rfl hl (by decide) rfl (fun ls_ hl => ?_)
                  refine z_iinc (lv' := [(4, .int (zi (k + 1))), (3, .int (zi 1)), (6, .int (zi k64_0)), (5, .int (zi (36 + (4 * k)))), (0, .ref (o 0)), (1, .int (zi i)), (2, .int (zi t))]) F_ dX8_isSkilledBy_110 hl (k := 3) rfl (by decide) rfl (fun ls_ hl => ?_)
                  refine z_goto (tgt := 5) F_ dX8_isSkilledBy_113 (by decide) ?_
                  exact ih5 1 (k + 1) (by first | omega | assumption) (by rw [okZ_s _ _ _ _ hk.1, ← hx]; try rw [f44_v] at g64; (first | (split <;> omega) | (rw [if_neg (fun q => by first | (have w := q c78; omega) | omega)]; first | done | omega) | (rw [if_pos (fun q => by first | omega | exact absurd q c78)]; first | done | omega))) (by first | omega | assumption) (by omega) ls_ H_ lo_ W_ (lv_sub hl [0, 1, 4, 5, 6] rfl)
              · refine z_iconst F_ dX8_isSkilledBy_96 ?_
                refine z_goto (tgt := 101) F_ dX8_isSkilledBy_97 (by decide) ?_
                refine z_icmp_ne (tgt := 108) F_ (by omega) dX8_isSkilledBy_101 (by decide) (fun c101 => ?_) (fun c101 => ?_)
                · refine z_iconst F_ dX8_isSkilledBy_108 ?_
                  refine lv_istore_n (lv' := [(3, .int (zi 0)), (6, .int (zi k64_0)), (5, .int (zi (36 + (4 * k)))), (4, .int (zi k)), (0, .ref (o 0)), (1, .int (zi i)), (2, .int (zi t))]) F_.1 F_.2.1 dX8_isSkilledBy_109 rfl hl (by decide) rfl (fun ls_ hl => ?_)
                  refine z_iinc (lv' := [(4, .int (zi (k + 1))), (3, .int (zi 0)), (6, .int (zi k64_0)), (5, .int (zi (36 + (4 * k)))), (0, .ref (o 0)), (1, .int (zi i)), (2, .int (zi t))]) F_ dX8_isSkilledBy_110 hl (k := 3) rfl (by decide) rfl (fun ls_ hl => ?_)
                  refine z_goto (tgt := 5) F_ dX8_isSkilledBy_113 (by decide) ?_
                  exact ih5 0 (k + 1) (by first | omega | assumption) (by rw [okZ_s _ _ _ _ hk.1, ← hx]; try rw [f44_v] at g64; (first | (split <;> omega) | (rw [if_neg (fun q => by first | (have w := q c78; omega) | omega)]; first | done | omega) | (rw [if_pos (fun q => by first | omega | exact absurd q c78)]; first | done | omega))) (by first | omega | assumption) (by omega) ls_ H_ lo_ W_ (lv_sub hl [0, 1, 4, 5, 6] rfl)
                · refine z_iconst F_ dX8_isSkilledBy_104 ?_
                  refine z_goto (tgt := 109) F_ dX8_isSkilledBy_105 (by decide) ?_
                  refine lv_istore_n (lv' := [(3, .int (zi 1)), (6, .int (zi k64_0)), (5, .int (zi (36 + (4 * k)))), (4, .int (zi k)), (0, .ref (o 0)), (1, .int (zi i)), (2, .int (zi t))]) F_.1 F_.2.1 dX8_isSkilledBy_109 rfl hl (by decide) rfl (fun ls_ hl => ?_)
                  refine z_iinc (lv' := [(4, .int (zi (k + 1))), (3, .int (zi 1)), (6, .int (zi k64_0)), (5, .int (zi (36 + (4 * k)))), (0, .ref (o 0)), (1, .int (zi i)), (2, .int (zi t))]) F_ dX8_isSkilledBy_110 hl (k := 3) rfl (by decide) rfl (fun ls_ hl => ?_)
                  refine z_goto (tgt := 5) F_ dX8_isSkilledBy_113 (by decide) ?_
                  exact ih5 1 (k + 1) (by first | omega | assumption) (by rw [okZ_s _ _ _ _ hk.1, ← hx]; try rw [f44_v] at g64; (first | (split <;> omega) | (rw [if_neg (fun q => by first | (have w := q c78; omega) | omega)]; first | done | omega) | (rw [if_pos (fun q => by first | omega | exact absurd q c78)]; first | done | omega))) (by first | omega | assumption) (by omega) ls_ H_ lo_ W_ (lv_sub hl [0, 1, 4, 5, 6] rfl)
        refine z_icmp_gt (tgt := 63) F_ (by omega) dX8_isSkilledBy_56 (by decide) (fun c56 => ?_) (fun c56 => ?_)
        · refine z_iconst F_ dX8_isSkilledBy_63 ?_
          exact J64 0 (by first | omega | grind) ls_ H_ lo_ W_ (lv_sub hl [0, 1, 2, 3, 4, 5] rfl)
        · refine z_iconst F_ dX8_isSkilledBy_59 ?_
          refine z_goto (tgt := 64) F_ dX8_isSkilledBy_60 (by decide) ?_
          exact J64 1 (by first | omega | grind) ls_ H_ lo_ W_ (lv_sub hl [0, 1, 2, 3, 4, 5] rfl)
  exact L5 ((g 2 - 0 : Int).toNat + 1) 1 0 (by first | omega | assumption) (by rfl) (by first | omega | assumption) (by have := Int.self_le_toNat (g 2 - 0 : Int); omega) ls_ H_ lo_ W_ (lv_sub hl [0, 1, 2, 3, 4] rfl)
