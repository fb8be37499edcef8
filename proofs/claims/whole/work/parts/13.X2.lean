/-! the cells of a Fours (n4 = 4 mx), of an Isle's own part -/
abbrev wF (cy : Nat → ClassId) (a b n4 : Nat) (mx r : Int) (f : Int → Int) : va_W := [(a, .inr (2, [.int (zi mx), .ref b, .int (zi r)])), (b, .inl (cy 0, n4, .inl (zA f)))]
abbrev wI (cy : Nat → ClassId) (q : Nat → Nat) (S M : Int) (sk sc mk ms mp : Int → Int) : va_W := [(q 0, .inr (4, [.int (zi S), .int (zi M), .ref (q 1), .ref (q 2), .ref (q 3), .ref (q 4), .ref (q 5), .ref (q 6), .ref (q 8), .ref (q 10), .ref (q 12)])), (q 1, .inl (cy 0, 3, .inl (zA sk))), (q 2, .inl (cy 0, 3, .inl (zA sc))), (q 3, .inl (cy 0, 8, .inl (zA mk))), (q 4, .inl (cy 0, 8, .inl (zA ms))), (q 5, .inl (cy 0, 8, .inl (zA mp)))]
/-- four numbers put behind one another; a row pushed behind (the first goes if there are 8); the folding of numbers -/
def putZ (f : Int → Int) (k a b c d : Int) : Int → Int := zu (zu (zu (zu f k a) (k + 1) b) (k + 2) c) (k + 3) d
def pushZ (f : Int → Int) (r a b c d : Int) : Int → Int := if 8 ≤ r then putZ (zcp f f 4 0 28) 28 a b c d else putZ f (4 * r) a b c d
def hashZ (f : Int → Int) (o h n : Int) : Int := fZ (fun k x => 31 * x + f (o + k)) h n
theorem hashZ_0 (f : Int → Int) (o h : Int) : hashZ f o h 0 = h := rfl
theorem hashZ_s (f : Int → Int) (o h : Int) {n : Int} (q : 0 ≤ n) : hashZ f o h (n + 1) = 31 * hashZ f o h n + f (o + n) := fZ_s _ _ q
/-- all f k below m together -/
def totZ (f : Int → Int) (m : Int) : Int := fZ (fun k n => n + f k) 0 m
theorem totZ_0 (f : Int → Int) : totZ f 0 = 0 := rfl
theorem totZ_s (f : Int → Int) {m : Int} (h : 0 ≤ m) : totZ f (m + 1) = totZ f m + f m := fZ_s _ _ h
/-- how liked each is on a ship that made c calls -/
def lkZ (mk ms : Int → Int) (c : Int) : Int → Int := fun k => likedZ (mk k) (ms k) c
/-- a call that leaves z (-1: nobody) -/
def goMp (mp : Int → Int) (z : Int) : Int → Int := if z = -1 then mp else zu mp z (-1)
def goSc (sc : Int → Int) (h z : Int) : Int → Int := if z = -1 then sc else zu sc h (min 99 (sc h + 1))
def lstI (S M : Int) (sc mk ms mp : Int → Int) (h : Int) : Int := if 0 ≤ h ∧ h < S then lstZ mp (lkZ mk ms (sc h)) h M else -1
/-- a row of isles' numbers folded -/
def hashS (sk sc : Int → Int) (h n : Int) : Int := fZ (fun k x => 31 * (31 * x + sk k) + sc k) h n
theorem hashS_0 (sk sc : Int → Int) (h : Int) : hashS sk sc h 0 = h := rfl
theorem hashS_s (sk sc : Int → Int) (h : Int) {n : Int} (q : 0 ≤ n) : hashS sk sc h (n + 1) = 31 * (31 * hashS sk sc h n + sk n) + sc n := fZ_s _ _ q
def hashM (mk ms mp : Int → Int) (h n : Int) : Int := fZ (fun k x => 31 * (31 * (31 * x + mk k) + ms k) + mp k) h n
theorem hashM_0 (mk ms mp : Int → Int) (h : Int) : hashM mk ms mp h 0 = h := rfl
theorem hashM_s (mk ms mp : Int → Int) (h : Int) {n : Int} (q : 0 ≤ n) : hashM mk ms mp h (n + 1) = 31 * (31 * (31 * hashM mk ms mp h n + mk n) + ms n) + mp n := fZ_s _ _ q

abbrev rX2_size : Room := { frames := 0, cells := 0, slots := 0, locals := 0 }
set_option maxHeartbeats 1000000 in
set_option maxRecDepth 100000 in
theorem c_X2_size (l_ : Launch) (D : va_G) (cy : Nat → ClassId) (a : Nat) (b : Nat) (n4 : Nat) (mx : Int) (r : Int) (f : Int → Int) (bf : ∀ j : Int, (-1) ≤ f j ∧ f j ≤ 99) : CTi l_ D cy yX2_size wsX2_size rX2_size [.ref a] ([wF cy a b n4 mx r f]) (fun (z : Int) (u : Unit) => (z = r)) (fun (_ : Unit) => [wF cy a b n4 mx r f]) := by
  refine CTi.of RX2 cX2_size 1 rfl (by decide) rfl (fun z u hz => rfl) (Nat.le_of_ble_eq_true rfl) ?_
  intro p_ e_ s_ m_ ar_ be_ me_ c_ Q_ A_ ls_ F_ K_ W_ hl hret
  have hl : lv_has ls_ 1 [(0, .ref a)] := hl
  obtain ⟨H_, hH_⟩ : ∃ x, x = s_.heap := ⟨_, rfl⟩
  obtain ⟨lo_, hlo_⟩ : ∃ x : List Loc, x = [] := ⟨_, rfl⟩
  have W_ : WD D A_ s_.heap ([wF cy a b n4 mx r f]) H_ lo_ := by rw [hH_, hlo_]; exact W_
  rw [← hlo_]
  suffices hg_ : W p_ l_ e_ rX2_size s_ m_ ar_ be_ me_ c_ H_ lo_ 0 0 Q_ (F0 m_ 0 ls_ []) by rw [hH_] at hg_; exact hg_
  clear hH_ hlo_
  have hinX2 : ∀ w ∈ u_ws RX2 TX2 3, w ∈ wsX2_size := fun w h => List.mem_cons_of_mem _ (List.mem_append_right _ h)
  refine lv_aload_n F_.1 F_.2.1 dX2_size_0 rfl (lv_at hl 0 rfl) ?_
  refine z_get F_ K_ W_ 0 0 2 rfl rfl rfl (C := RX2) (T := TX2) (N := 3) rfl (by decide) hinX2 (List.mem_of_getElem? (i := 1) rfl) dX2_size_1 ?_
  exact hret _ _ _ _ r () dX2_size_4 (by first | omega | assumption) W_
abbrev rX2_isFull : Room := { frames := 0, cells := 0, slots := 0, locals := 0 }
set_option maxHeartbeats 1000000 in
set_option maxRecDepth 100000 in
theorem c_X2_isFull (l_ : Launch) (D : va_G) (cy : Nat → ClassId) (a : Nat) (b : Nat) (n4 : Nat) (mx : Int) (r : Int) (f : Int → Int) (bf : ∀ j : Int, (-1) ≤ f j ∧ f j ≤ 99) (h4 : (n4 : Int) = 4 * mx ∧ mx ≤ 8) (hr : 0 ≤ r ∧ r ≤ mx) : CTi l_ D cy yX2_isFull wsX2_isFull rX2_isFull [.ref a] ([wF cy a b n4 mx r f]) (fun (z : Int) (u : Unit) => ((z = 1 ∧ mx ≤ r) ∨ (z = 0 ∧ r < mx))) (fun (_ : Unit) => [wF cy a b n4 mx r f]) := by
  refine CTi.of RX2 cX2_isFull 1 rfl (by decide) rfl (fun z u hz => z_bl hz) (Nat.le_of_ble_eq_true rfl) ?_
  intro p_ e_ s_ m_ ar_ be_ me_ c_ Q_ A_ ls_ F_ K_ W_ hl hret
  have hl : lv_has ls_ 1 [(0, .ref a)] := hl
  obtain ⟨H_, hH_⟩ : ∃ x, x = s_.heap := ⟨_, rfl⟩
  obtain ⟨lo_, hlo_⟩ : ∃ x : List Loc, x = [] := ⟨_, rfl⟩
  have W_ : WD D A_ s_.heap ([wF cy a b n4 mx r f]) H_ lo_ := by rw [hH_, hlo_]; exact W_
  rw [← hlo_]
  suffices hg_ : W p_ l_ e_ rX2_isFull s_ m_ ar_ be_ me_ c_ H_ lo_ 0 0 Q_ (F0 m_ 0 ls_ []) by rw [hH_] at hg_; exact hg_
  clear hH_ hlo_
  have hinX2 : ∀ w ∈ u_ws RX2 TX2 3, w ∈ wsX2_isFull := fun w h => List.mem_cons_of_mem _ (List.mem_append_right _ h)
  refine lv_aload_n F_.1 F_.2.1 dX2_isFull_0 rfl (lv_at hl 0 rfl) ?_
  refine z_get F_ K_ W_ 0 0 2 rfl rfl rfl (C := RX2) (T := TX2) (N := 3) rfl (by decide) hinX2 (List.mem_of_getElem? (i := 1) rfl) dX2_isFull_1 ?_
  refine lv_aload_n F_.1 F_.2.1 dX2_isFull_4 rfl (lv_at hl 0 rfl) ?_
  refine z_get F_ K_ W_ 0 0 0 rfl rfl rfl (C := RX2) (T := TX2) (N := 3) rfl (by decide) hinX2 (List.mem_of_getElem? (i := 2) rfl) dX2_isFull_5 ?_
  refine z_icmp_lt (tgt := 15) F_ (by omega) dX2_isFull_8 (by decide) (fun c8 => ?_) (fun c8 => ?_)
  · refine z_iconst F_ dX2_isFull_15 ?_
    exact hret _ _ _ _ 0 () dX2_isFull_16 (by first | omega | assumption) W_
  · refine z_iconst F_ dX2_isFull_11 ?_
    refine z_goto (tgt := 16) F_ dX2_isFull_12 (by decide) ?_
    exact hret _ _ _ _ 1 () dX2_isFull_16 (by first | omega | assumption) W_
abbrev rX2_cell : Room := { frames := 0, cells := 0, slots := 0, locals := 0 }
set_option maxHeartbeats 1000000 in
set_option maxRecDepth 100000 in
theorem c_X2_cell (l_ : Launch) (D : va_G) (cy : Nat → ClassId) (a : Nat) (b : Nat) (n4 : Nat) (mx : Int) (r : Int) (f : Int → Int) (i : Int) (j : Int) (bf : ∀ j : Int, (-1) ≤ f j ∧ f j ≤ 99) (ri : -2147483648 ≤ i ∧ i < 2147483648) (rj : -2147483648 ≤ j ∧ j < 2147483648) (h4 : (n4 : Int) = 4 * mx ∧ mx ≤ 8) (hr : 0 ≤ r ∧ r ≤ mx) (hi : 0 ≤ i ∧ i < r) (hj : 0 ≤ j ∧ j < 4) : CTi l_ D cy yX2_cell wsX2_cell rX2_cell [.ref a, .int (zi i), .int (zi j)] ([wF cy a b n4 mx r f]) (fun (z : Int) (u : Unit) => (z = f (4 * i + j))) (fun (_ : Unit) => [wF cy a b n4 mx r f]) := by
  refine CTi.of RX2 cX2_cell 3 rfl (by decide) rfl (fun z u hz => rfl) (Nat.le_of_ble_eq_true rfl) ?_
  intro p_ e_ s_ m_ ar_ be_ me_ c_ Q_ A_ ls_ F_ K_ W_ hl hret
  have hl : lv_has ls_ 3 [(0, .ref a), (1, .int (zi i)), (2, .int (zi j))] := hl
  obtain ⟨H_, hH_⟩ : ∃ x, x = s_.heap := ⟨_, rfl⟩
  obtain ⟨lo_, hlo_⟩ : ∃ x : List Loc, x = [] := ⟨_, rfl⟩
  have W_ : WD D A_ s_.heap ([wF cy a b n4 mx r f]) H_ lo_ := by rw [hH_, hlo_]; exact W_
  rw [← hlo_]
  suffices hg_ : W p_ l_ e_ rX2_cell s_ m_ ar_ be_ me_ c_ H_ lo_ 0 0 Q_ (F0 m_ 0 ls_ []) by rw [hH_] at hg_; exact hg_
  clear hH_ hlo_
  have hinX2 : ∀ w ∈ u_ws RX2 TX2 3, w ∈ wsX2_cell := fun w h => List.mem_cons_of_mem _ (List.mem_append_right _ h)
  refine lv_iload_n F_.1 F_.2.1 dX2_cell_0 rfl (lv_at hl 1 rfl) ?_
  refine z_if_lt (tgt := 34) F_ (by omega) dX2_cell_1 (by decide) (fun c1 => ?_) (fun c1 => ?_)
  · refine z_iconst F_ dX2_cell_34 ?_
    exact hret _ _ _ _ (-1) () dX2_cell_35 (by first | omega | assumption) W_
  · refine lv_iload_n F_.1 F_.2.1 dX2_cell_4 rfl (lv_at hl 1 rfl) ?_
    refine lv_aload_n F_.1 F_.2.1 dX2_cell_5 rfl (lv_at hl 0 rfl) ?_
    refine z_get F_ K_ W_ 0 0 2 rfl rfl rfl (C := RX2) (T := TX2) (N := 3) rfl (by decide) hinX2 (List.mem_of_getElem? (i := 1) rfl) dX2_cell_6 ?_
    refine z_icmp_ge (tgt := 34) F_ (by omega) dX2_cell_9 (by decide) (fun c9 => ?_) (fun c9 => ?_)
    · refine z_iconst F_ dX2_cell_34 ?_
      exact hret _ _ _ _ (-1) () dX2_cell_35 (by first | omega | assumption) W_
    · refine lv_iload_n F_.1 F_.2.1 dX2_cell_12 rfl (lv_at hl 2 rfl) ?_
      refine z_if_lt (tgt := 34) F_ (by omega) dX2_cell_13 (by decide) (fun c13 => ?_) (fun c13 => ?_)
      · refine z_iconst F_ dX2_cell_34 ?_
        exact hret _ _ _ _ (-1) () dX2_cell_35 (by first | omega | assumption) W_
      · refine lv_iload_n F_.1 F_.2.1 dX2_cell_16 rfl (lv_at hl 2 rfl) ?_
        refine z_iconst F_ dX2_cell_17 ?_
        refine z_icmp_ge (tgt := 34) F_ (by omega) dX2_cell_18 (by decide) (fun c18 => ?_) (fun c18 => ?_)
        · refine z_iconst F_ dX2_cell_34 ?_
          exact hret _ _ _ _ (-1) () dX2_cell_35 (by first | omega | assumption) W_
        · refine lv_aload_n F_.1 F_.2.1 dX2_cell_21 rfl (lv_at hl 0 rfl) ?_
          refine z_get F_ K_ W_ 0 0 1 rfl rfl rfl (C := RX2) (T := TX2) (N := 3) rfl (by decide) hinX2 (List.mem_of_getElem? (i := 2) rfl) dX2_cell_22 ?_
          refine z_iconst F_ dX2_cell_25 ?_
          refine lv_iload_n F_.1 F_.2.1 dX2_cell_26 rfl (lv_at hl 1 rfl) ?_
          refine z_imul F_ dX2_cell_27 ?_
          refine lv_iload_n F_.1 F_.2.1 dX2_cell_28 rfl (lv_at hl 2 rfl) ?_
          refine z_iadd F_ dX2_cell_29 ?_
          refine z_iald F_ K_ W_ 0 1 rfl rfl (by omega) (by omega) dX2_cell_30 ?_
          have b_1 := bf ((4 * i) + j)
          refine z_goto (tgt := 35) F_ dX2_cell_31 (by decide) ?_
          exact hret _ _ _ _ (f ((4 * i) + j)) () dX2_cell_35 (by first | omega | assumption) W_
abbrev rX2_append : Room := { frames := 1, cells := 0, slots := 0, locals := 20 }
set_option maxHeartbeats 1000000 in
set_option maxRecDepth 100000 in
theorem c_X2_append (l_ : Launch) (D : va_G) (cy : Nat → ClassId) (a : Nat) (b : Nat) (n4 : Nat) (mx : Int) (r : Int) (f : Int → Int) (x0 : Int) (x1 : Int) (x2 : Int) (x3 : Int) (bf : ∀ j : Int, (-1) ≤ f j ∧ f j ≤ 99) (rx0 : -2147483648 ≤ x0 ∧ x0 < 2147483648) (rx1 : -2147483648 ≤ x1 ∧ x1 < 2147483648) (rx2 : -2147483648 ≤ x2 ∧ x2 < 2147483648) (rx3 : -2147483648 ≤ x3 ∧ x3 < 2147483648) (h4 : (n4 : Int) = 4 * mx ∧ mx ≤ 8) (hr : 0 ≤ r ∧ r < mx) (hx : -1 ≤ x0 ∧ x0 ≤ 99 ∧ -1 ≤ x1 ∧ x1 ≤ 99 ∧ -1 ≤ x2 ∧ x2 ≤ 99 ∧ -1 ≤ x3 ∧ x3 ≤ 99) : CTv l_ D cy yX2_append wsX2_append rX2_append [.ref a, .int (zi x0), .int (zi x1), .int (zi x2), .int (zi x3)] ([wF cy a b n4 mx r f]) (fun (u : (Int → Int)) => (u = putZ f (4 * r) x0 x1 x2 x3) ∧ (∀ j : Int, (-1) ≤ u j ∧ u j ≤ 99)) (fun (u : (Int → Int)) => [wF cy a b n4 mx (r + 1) u]) := by
  refine CTv.of RX2 cX2_append 6 rfl (by decide) rfl (Nat.le_of_ble_eq_true rfl) ?_
  intro p_ e_ s_ m_ ar_ be_ me_ c_ Q_ A_ ls_ F_ K_ W_ hl hret
  have hl : lv_has ls_ 6 [(0, .ref a), (1, .int (zi x0)), (2, .int (zi x1)), (3, .int (zi x2)), (4, .int (zi x3))] := hl
  obtain ⟨H_, hH_⟩ : ∃ x, x = s_.heap := ⟨_, rfl⟩
  obtain ⟨lo_, hlo_⟩ : ∃ x : List Loc, x = [] := ⟨_, rfl⟩
  have W_ : WD D A_ s_.heap ([wF cy a b n4 mx r f]) H_ lo_ := by rw [hH_, hlo_]; exact W_
  rw [← hlo_]
  suffices hg_ : W p_ l_ e_ rX2_append s_ m_ ar_ be_ me_ c_ H_ lo_ 0 0 Q_ (F0 m_ 0 ls_ []) by rw [hH_] at hg_; exact hg_
  clear hH_ hlo_
  have hinX2 : ∀ w ∈ u_ws RX2 TX2 3, w ∈ wsX2_append := fun w h => List.mem_cons_of_mem _ (List.mem_append_right _ h)
  refine lv_aload_n F_.1 F_.2.1 dX2_append_0 rfl (lv_at hl 0 rfl) ?_
  refine z_callVip F_ K_ W_ [] (c_X2_isFull l_ D cy a b n4 mx r f bf (by first | omega | assumption) (by first | omega | assumption)) 0 rfl gX2_append_X2_isFull rfl (by decide +kernel) ⟨⟨Nat.le_of_ble_eq_true rfl, Nat.le_of_ble_eq_true rfl⟩, rfl, rfl, Nat.zero_le _, Nat.zero_le _⟩ 0 0 2 rfl rfl rfl rfl hl.1 rfl (Nat.le_of_ble_eq_true rfl) [0] ([] : List Nat) ([] : List va_W) 1 (by decide +kernel) rfl rfl rfl dX2_append_1 (fun z_1 _ H_ lo_ hw_ W_ => ?_)
  have hw_ : ((z_1 = 1 ∧ mx ≤ r) ∨ (z_1 = 0 ∧ r < mx)) := hw_
  have f1_v := hw_
  refine z_if_eq (tgt := 8) F_ (by omega) dX2_append_4 (by decide) (fun c4 => ?_) (fun c4 => ?_)
  · refine z_iconst F_ dX2_append_8 ?_
    refine lv_aload_n F_.1 F_.2.1 dX2_append_9 rfl (lv_at hl 0 rfl) ?_
    refine z_get F_ K_ W_ 0 0 2 rfl rfl rfl (C := RX2) (T := TX2) (N := 3) rfl (by decide) hinX2 (List.mem_of_getElem? (i := 1) rfl) dX2_append_10 ?_
    refine z_imul F_ dX2_append_13 ?_
    refine lv_istore (lv' := [(5, .int (zi (4 * r))), (0, .ref a), (1, .int (zi x0)), (2, .int (zi x1)), (3, .int (zi x2)), (4, .int (zi x3))]) F_.1 F_.2.1 dX2_append_14 hl (by decide) rfl (fun ls_ hl => ?_)
    refine lv_aload_n F_.1 F_.2.1 dX2_append_16 rfl (lv_at hl 1 rfl) ?_
    refine z_get F_ K_ W_ 0 0 1 rfl rfl rfl (C := RX2) (T := TX2) (N := 3) rfl (by decide) hinX2 (List.mem_of_getElem? (i := 2) rfl) dX2_append_17 ?_
    refine lv_iload F_.1 F_.2.1 dX2_append_20 (lv_at hl 0 rfl) ?_
    refine lv_iload_n F_.1 F_.2.1 dX2_append_22 rfl (lv_at hl 2 rfl) ?_
    refine z_iast (sg' := [wF cy a b n4 mx r (zu f (4 * r) x0)]) F_ K_ W_ 0 1 rfl rfl rfl (by omega) (by omega) dX2_append_23 (fun H_ lo_ W_ => ?_)
    obtain ⟨f_2, ef_2⟩ : ∃ x_ : Int → Int, x_ = zu f (4 * r) x0 := ⟨_, rfl⟩
    rw [← ef_2] at W_
    have bf_2 : ∀ j : Int, (-1) ≤ f_2 j ∧ f_2 j ≤ 99 := by rw [ef_2]; exact zu_b bf (by omega)
    refine lv_aload_n F_.1 F_.2.1 dX2_append_24 rfl (lv_at hl 1 rfl) ?_
    refine z_get F_ K_ W_ 0 0 1 rfl rfl rfl (C := RX2) (T := TX2) (N := 3) rfl (by decide) hinX2 (List.mem_of_getElem? (i := 2) rfl) dX2_append_25 ?_
    refine lv_iload F_.1 F_.2.1 dX2_append_28 (lv_at hl 0 rfl) ?_
    refine z_iconst F_ dX2_append_30 ?_
    refine z_iadd F_ dX2_append_31 ?_
    refine lv_iload_n F_.1 F_.2.1 dX2_append_32 rfl (lv_at hl 3 rfl) ?_
    refine z_iast (sg' := [wF cy a b n4 mx r (zu f_2 ((4 * r) + 1) x1)]) F_ K_ W_ 0 1 rfl rfl rfl (by omega) (by omega) dX2_append_33 (fun H_ lo_ W_ => ?_)
    obtain ⟨f_3, ef_3⟩ : ∃ x_ : Int → Int, x_ = zu f_2 ((4 * r) + 1) x1 := ⟨_, rfl⟩
    rw [← ef_3] at W_
    have bf_3 : ∀ j : Int, (-1) ≤ f_3 j ∧ f_3 j ≤ 99 := by rw [ef_3]; exact zu_b bf_2 (by omega)
    refine lv_aload_n F_.1 F_.2.1 dX2_append_34 rfl (lv_at hl 1 rfl) ?_
    refine z_get F_ K_ W_ 0 0 1 rfl rfl rfl (C := RX2) (T := TX2) (N := 3) rfl (by decide) hinX2 (List.mem_of_getElem? (i := 2) rfl) dX2_append_35 ?_
    refine lv_iload F_.1 F_.2.1 dX2_append_38 (lv_at hl 0 rfl) ?_
    refine z_iconst F_ dX2_append_40 ?_
    refine z_iadd F_ dX2_append_41 ?_
    refine lv_iload_n F_.1 F_.2.1 dX2_append_42 rfl (lv_at hl 4 rfl) ?_
    refine z_iast (sg' := [wF cy a b n4 mx r (zu f_3 ((4 * r) + 2) x2)]) F_ K_ W_ 0 1 rfl rfl rfl (by omega) (by omega) dX2_append_43 (fun H_ lo_ W_ => ?_)
    obtain ⟨f_4, ef_4⟩ : ∃ x_ : Int → Int, x_ = zu f_3 ((4 * r) + 2) x2 := ⟨_, rfl⟩
    rw [← ef_4] at W_
    have bf_4 : ∀ j : Int, (-1) ≤ f_4 j ∧ f_4 j ≤ 99 := by rw [ef_4]; exact zu_b bf_3 (by omega)
    refine lv_aload_n F_.1 F_.2.1 dX2_append_44 rfl (lv_at hl 1 rfl) ?_
    refine z_get F_ K_ W_ 0 0 1 rfl rfl rfl (C := RX2) (T := TX2) (N := 3) rfl (by decide) hinX2 (List.mem_of_getElem? (i := 2) rfl) dX2_append_45 ?_
    refine lv_iload F_.1 F_.2.1 dX2_append_48 (lv_at hl 0 rfl) ?_
    refine z_iconst F_ dX2_append_50 ?_
    refine z_iadd F_ dX2_append_51 ?_
    refine lv_iload F_.1 F_.2.1 dX2_append_52 (lv_at hl 5 rfl) ?_
    refine z_iast (sg' := [wF cy a b n4 mx r (zu f_4 ((4 * r) + 3) x3)]) F_ K_ W_ 0 1 rfl rfl rfl (by omega) (by omega) dX2_append_54 (fun H_ lo_ W_ => ?_)
    obtain ⟨f_5, ef_5⟩ : ∃ x_ : Int → Int, x_ = zu f_4 ((4 * r) + 3) x3 := ⟨_, rfl⟩
    rw [← ef_5] at W_
    have bf_5 : ∀ j : Int, (-1) ≤ f_5 j ∧ f_5 j ≤ 99 := by rw [ef_5]; exact zu_b bf_4 (by omega)
    refine lv_aload_n F_.1 F_.2.1 dX2_append_55 rfl (lv_at hl 1 rfl) ?_
    refine lv_dup F_.1 F_.2.1 dX2_append_56 rfl ?_
    refine z_get F_ K_ W_ 0 0 2 rfl rfl rfl (C := RX2) (T := TX2) (N := 3) rfl (by decide) hinX2 (List.mem_of_getElem? (i := 1) rfl) dX2_append_57 ?_
    refine z_iconst F_ dX2_append_60 ?_
    refine z_iadd F_ dX2_append_61 ?_
    refine z_put (sg' := [wF cy a b n4 mx (r + 1) f_5]) F_ K_ W_ 0 0 2 rfl rfl rfl (C := RX2) (T := TX2) (N := 3) rfl ⟨Nat.le_of_ble_eq_true rfl, Nat.le_of_ble_eq_true rfl⟩ tyX2 tyX2_ok nmX2 rfl rfl rfl hinX2 (List.mem_of_getElem? (i := 1) rfl) dX2_append_62 (fun H_ lo_ W_ => ?_)
    exact hret _ _ _ _ f_5 dX2_append_65 ⟨(by simp only [putZ, *]), bf_5⟩ W_
  · exact absurd c4 (by omega)
abbrev rX2_dropFirst : Room := { frames := 1, cells := 0, slots := 0, locals := 18 }
set_option maxHeartbeats 1000000 in
set_option maxRecDepth 100000 in
theorem c_X2_dropFirst (l_ : Launch) (D : va_G) (cy : Nat → ClassId) (a : Nat) (b : Nat) (n4 : Nat) (mx : Int) (r : Int) (f : Int → Int) (bf : ∀ j : Int, (-1) ≤ f j ∧ f j ≤ 99) (h4 : (n4 : Int) = 4 * mx ∧ mx ≤ 8) (hr : 0 < r ∧ r ≤ mx) : CTv l_ D cy yX2_dropFirst wsX2_dropFirst rX2_dropFirst [.ref a] ([wF cy a b n4 mx r f]) (fun (u : (Int → Int)) => (u = zcp f f 4 0 (4 * (r - 1))) ∧ (∀ j : Int, (-1) ≤ u j ∧ u j ≤ 99)) (fun (u : (Int → Int)) => [wF cy a b n4 mx (r - 1) u]) := by
  refine CTv.of RX2 cX2_dropFirst 1 rfl (by decide) rfl (Nat.le_of_ble_eq_true rfl) ?_
  intro p_ e_ s_ m_ ar_ be_ me_ c_ Q_ A_ ls_ F_ K_ W_ hl hret
  have hl : lv_has ls_ 1 [(0, .ref a)] := hl
  obtain ⟨H_, hH_⟩ : ∃ x, x = s_.heap := ⟨_, rfl⟩
  obtain ⟨lo_, hlo_⟩ : ∃ x : List Loc, x = [] := ⟨_, rfl⟩
  have W_ : WD D A_ s_.heap ([wF cy a b n4 mx r f]) H_ lo_ := by rw [hH_, hlo_]; exact W_
  rw [← hlo_]
  suffices hg_ : W p_ l_ e_ rX2_dropFirst s_ m_ ar_ be_ me_ c_ H_ lo_ 0 0 Q_ (F0 m_ 0 ls_ []) by rw [hH_] at hg_; exact hg_
  clear hH_ hlo_
  have hinX2 : ∀ w ∈ u_ws RX2 TX2 3, w ∈ wsX2_dropFirst := fun w h => List.mem_cons_of_mem _ (List.mem_append_right _ h)
  refine lv_aload_n F_.1 F_.2.1 dX2_dropFirst_0 rfl (lv_at hl 0 rfl) ?_
  refine z_get F_ K_ W_ 0 0 2 rfl rfl rfl (C := RX2) (T := TX2) (N := 3) rfl (by decide) hinX2 (List.mem_of_getElem? (i := 1) rfl) dX2_dropFirst_1 ?_
  refine z_if_le (tgt := 36) F_ (by omega) dX2_dropFirst_4 (by decide) (fun c4 => ?_) (fun c4 => ?_)
  · exact absurd c4 (by omega)
  · refine lv_aload_n F_.1 F_.2.1 dX2_dropFirst_7 rfl (lv_at hl 0 rfl) ?_
    refine lv_dup F_.1 F_.2.1 dX2_dropFirst_8 rfl ?_
    refine z_get F_ K_ W_ 0 0 2 rfl rfl rfl (C := RX2) (T := TX2) (N := 3) rfl (by decide) hinX2 (List.mem_of_getElem? (i := 1) rfl) dX2_dropFirst_9 ?_
    refine z_iconst F_ dX2_dropFirst_12 ?_
    refine z_isub F_ dX2_dropFirst_13 ?_
    refine z_put (sg' := [wF cy a b n4 mx (r - 1) f]) F_ K_ W_ 0 0 2 rfl rfl rfl (C := RX2) (T := TX2) (N := 3) rfl ⟨Nat.le_of_ble_eq_true rfl, Nat.le_of_ble_eq_true rfl⟩ tyX2 tyX2_ok nmX2 rfl rfl rfl hinX2 (List.mem_of_getElem? (i := 1) rfl) dX2_dropFirst_14 (fun H_ lo_ W_ => ?_)
    refine lv_aload_n F_.1 F_.2.1 dX2_dropFirst_17 rfl (lv_at hl 0 rfl) ?_
    refine z_get F_ K_ W_ 0 0 1 rfl rfl rfl (C := RX2) (T := TX2) (N := 3) rfl (by decide) hinX2 (List.mem_of_getElem? (i := 2) rfl) dX2_dropFirst_18 ?_
    refine z_iconst F_ dX2_dropFirst_21 ?_
    refine lv_aload_n F_.1 F_.2.1 dX2_dropFirst_22 rfl (lv_at hl 0 rfl) ?_
    refine z_get F_ K_ W_ 0 0 1 rfl rfl rfl (C := RX2) (T := TX2) (N := 3) rfl (by decide) hinX2 (List.mem_of_getElem? (i := 2) rfl) dX2_dropFirst_23 ?_
    refine z_iconst F_ dX2_dropFirst_26 ?_
    refine z_iconst F_ dX2_dropFirst_27 ?_
    refine lv_aload_n F_.1 F_.2.1 dX2_dropFirst_28 rfl (lv_at hl 0 rfl) ?_
    refine z_get F_ K_ W_ 0 0 2 rfl rfl rfl (C := RX2) (T := TX2) (N := 3) rfl (by decide) hinX2 (List.mem_of_getElem? (i := 1) rfl) dX2_dropFirst_29 ?_
    refine z_imul F_ dX2_dropFirst_32 ?_
    refine z_acopy (sg' := [wF cy a b n4 mx (r - 1) (zcp f f 4 0 (4 * (r - 1)))]) F_ K_ W_ hl.1 (F_.2.2.2.2 _ (List.mem_of_getElem? (i := 3) rfl)) (F_.2.2.2.2 _ (List.mem_of_getElem? (i := 4) rfl)) (F_.2.2.2.2 _ (List.mem_of_getElem? (i := 5) rfl)) (F_.2.2.2.2 _ (List.mem_of_getElem? (i := 6) rfl)) 0 1 0 1 rfl rfl rfl rfl rfl (by omega) (by omega) (by omega) (Nat.le_of_ble_eq_true rfl) (Nat.le_of_ble_eq_true rfl) dX2_dropFirst_33 (fun H_ lo_ W_ => ?_)
    obtain ⟨f_1, ef_1⟩ : ∃ x_ : Int → Int, x_ = zcp f f 4 0 (4 * (r - 1)) := ⟨_, rfl⟩
    rw [← ef_1] at W_
    have bf_1 : ∀ j : Int, (-1) ≤ f_1 j ∧ f_1 j ≤ 99 := by rw [ef_1]; exact zcp_b bf bf
    exact hret _ _ _ _ f_1 dX2_dropFirst_36 ⟨(by assumption), bf_1⟩ W_
abbrev rX2_dropLast : Room := { frames := 0, cells := 0, slots := 0, locals := 0 }
set_option maxHeartbeats 1000000 in
set_option maxRecDepth 100000 in
theorem c_X2_dropLast (l_ : Launch) (D : va_G) (cy : Nat → ClassId) (a : Nat) (b : Nat) (n4 : Nat) (mx : Int) (r : Int) (f : Int → Int) (bf : ∀ j : Int, (-1) ≤ f j ∧ f j ≤ 99) (h4 : (n4 : Int) = 4 * mx ∧ mx ≤ 8) (hr : 0 < r ∧ r ≤ mx) : CTv l_ D cy yX2_dropLast wsX2_dropLast rX2_dropLast [.ref a] ([wF cy a b n4 mx r f]) (fun (u : Unit) => True) (fun (u : Unit) => [wF cy a b n4 mx (r - 1) f]) := by
  refine CTv.of RX2 cX2_dropLast 1 rfl (by decide) rfl (Nat.le_of_ble_eq_true rfl) ?_
  intro p_ e_ s_ m_ ar_ be_ me_ c_ Q_ A_ ls_ F_ K_ W_ hl hret
  have hl : lv_has ls_ 1 [(0, .ref a)] := hl
  obtain ⟨H_, hH_⟩ : ∃ x, x = s_.heap := ⟨_, rfl⟩
  obtain ⟨lo_, hlo_⟩ : ∃ x : List Loc, x = [] := ⟨_, rfl⟩
  have W_ : WD D A_ s_.heap ([wF cy a b n4 mx r f]) H_ lo_ := by rw [hH_, hlo_]; exact W_
  rw [← hlo_]
  suffices hg_ : W p_ l_ e_ rX2_dropLast s_ m_ ar_ be_ me_ c_ H_ lo_ 0 0 Q_ (F0 m_ 0 ls_ []) by rw [hH_] at hg_; exact hg_
  clear hH_ hlo_
  have hinX2 : ∀ w ∈ u_ws RX2 TX2 3, w ∈ wsX2_dropLast := fun w h => List.mem_cons_of_mem _ (List.mem_append_right _ h)
  refine lv_aload_n F_.1 F_.2.1 dX2_dropLast_0 rfl (lv_at hl 0 rfl) ?_
  refine z_get F_ K_ W_ 0 0 2 rfl rfl rfl (C := RX2) (T := TX2) (N := 3) rfl (by decide) hinX2 (List.mem_of_getElem? (i := 1) rfl) dX2_dropLast_1 ?_
  refine z_if_le (tgt := 17) F_ (by omega) dX2_dropLast_4 (by decide) (fun c4 => ?_) (fun c4 => ?_)
  · exact absurd c4 (by omega)
  · refine lv_aload_n F_.1 F_.2.1 dX2_dropLast_7 rfl (lv_at hl 0 rfl) ?_
    refine lv_dup F_.1 F_.2.1 dX2_dropLast_8 rfl ?_
    refine z_get F_ K_ W_ 0 0 2 rfl rfl rfl (C := RX2) (T := TX2) (N := 3) rfl (by decide) hinX2 (List.mem_of_getElem? (i := 1) rfl) dX2_dropLast_9 ?_
    refine z_iconst F_ dX2_dropLast_12 ?_
    refine z_isub F_ dX2_dropLast_13 ?_
    refine z_put (sg' := [wF cy a b n4 mx (r - 1) f]) F_ K_ W_ 0 0 2 rfl rfl rfl (C := RX2) (T := TX2) (N := 3) rfl ⟨Nat.le_of_ble_eq_true rfl, Nat.le_of_ble_eq_true rfl⟩ tyX2 tyX2_ok nmX2 rfl rfl rfl hinX2 (List.mem_of_getElem? (i := 1) rfl) dX2_dropLast_14 (fun H_ lo_ W_ => ?_)
    exact hret _ _ _ _ () dX2_dropLast_17 trivial W_
abbrev rX2_empty : Room := { frames := 0, cells := 0, slots := 0, locals := 0 }
set_option maxHeartbeats 1000000 in
set_option maxRecDepth 100000 in
theorem c_X2_empty (l_ : Launch) (D : va_G) (cy : Nat → ClassId) (a : Nat) (b : Nat) (n4 : Nat) (mx : Int) (r : Int) (f : Int → Int) (bf : ∀ j : Int, (-1) ≤ f j ∧ f j ≤ 99) : CTi l_ D cy yX2_empty wsX2_empty rX2_empty [.ref a] ([wF cy a b n4 mx r f]) (fun (z : Int) (u : Unit) => (z = r)) (fun (u : Unit) => [wF cy a b n4 mx 0 f]) := by
  refine CTi.of RX2 cX2_empty 2 rfl (by decide) rfl (fun z u hz => rfl) (Nat.le_of_ble_eq_true rfl) ?_
  intro p_ e_ s_ m_ ar_ be_ me_ c_ Q_ A_ ls_ F_ K_ W_ hl hret
  have hl : lv_has ls_ 2 [(0, .ref a)] := hl
  obtain ⟨H_, hH_⟩ : ∃ x, x = s_.heap := ⟨_, rfl⟩
  obtain ⟨lo_, hlo_⟩ : ∃ x : List Loc, x = [] := ⟨_, rfl⟩
  have W_ : WD D A_ s_.heap ([wF cy a b n4 mx r f]) H_ lo_ := by rw [hH_, hlo_]; exact W_
  rw [← hlo_]
  suffices hg_ : W p_ l_ e_ rX2_empty s_ m_ ar_ be_ me_ c_ H_ lo_ 0 0 Q_ (F0 m_ 0 ls_ []) by rw [hH_] at hg_; exact hg_
  clear hH_ hlo_
  have hinX2 : ∀ w ∈ u_ws RX2 TX2 3, w ∈ wsX2_empty := fun w h => List.mem_cons_of_mem _ (List.mem_append_right _ h)
  refine lv_aload_n F_.1 F_.2.1 dX2_empty_0 rfl (lv_at hl 0 rfl) ?_
  refine z_get F_ K_ W_ 0 0 2 rfl rfl rfl (C := RX2) (T := TX2) (N := 3) rfl (by decide) hinX2 (List.mem_of_getElem? (i := 1) rfl) dX2_empty_1 ?_
  refine lv_istore_n (lv' := [(1, .int (zi r)), (0, .ref a)]) F_.1 F_.2.1 dX2_empty_4 rfl hl (by decide) rfl (fun ls_ hl => ?_)
  refine lv_aload_n F_.1 F_.2.1 dX2_empty_5 rfl (lv_at hl 1 rfl) ?_
  refine z_iconst F_ dX2_empty_6 ?_
  refine z_put (sg' := [wF cy a b n4 mx 0 f]) F_ K_ W_ 0 0 2 rfl rfl rfl (C := RX2) (T := TX2) (N := 3) rfl ⟨Nat.le_of_ble_eq_true rfl, Nat.le_of_ble_eq_true rfl⟩ tyX2 tyX2_ok nmX2 rfl rfl rfl hinX2 (List.mem_of_getElem? (i := 1) rfl) dX2_empty_7 (fun H_ lo_ W_ => ?_)
  refine lv_iload_n F_.1 F_.2.1 dX2_empty_10 rfl (lv_at hl 0 rfl) ?_
  exact hret _ _ _ _ r () dX2_empty_11 (by first | omega | assumption) W_
abbrev rX2_take : Room := { frames := 1, cells := 0, slots := 0, locals := 18 }
set_option maxHeartbeats 1000000 in
set_option maxRecDepth 100000 in
theorem c_X2_take (l_ : Launch) (D : va_G) (cy : Nat → ClassId) (a : Nat) (b : Nat) (n4 : Nat) (mx : Int) (r : Int) (f : Int → Int) (a2 : Nat) (b2 : Nat) (r2 : Int) (f2 : Int → Int) (bf : ∀ j : Int, (-1) ≤ f j ∧ f j ≤ 99) (bf2 : ∀ j : Int, (-1) ≤ f2 j ∧ f2 j ≤ 99) (h4 : (n4 : Int) = 4 * mx ∧ mx ≤ 8) (hr : 0 ≤ r2 ∧ r2 ≤ mx) : CTv l_ D cy yX2_take wsX2_take rX2_take [.ref a, .ref a2] ([wF cy a b n4 mx r f, wF cy a2 b2 n4 mx r2 f2]) (fun (u : (Int → Int)) => (u = zcp f2 f 0 0 (4 * r2)) ∧ (∀ j : Int, (-1) ≤ u j ∧ u j ≤ 99)) (fun (u : (Int → Int)) => [wF cy a b n4 mx r2 u, wF cy a2 b2 n4 mx r2 f2]) := by
  refine CTv.of RX2 cX2_take 2 rfl (by decide) rfl (Nat.le_of_ble_eq_true rfl) ?_
  intro p_ e_ s_ m_ ar_ be_ me_ c_ Q_ A_ ls_ F_ K_ W_ hl hret
  have hl : lv_has ls_ 2 [(0, .ref a), (1, .ref a2)] := hl
  obtain ⟨H_, hH_⟩ : ∃ x, x = s_.heap := ⟨_, rfl⟩
  obtain ⟨lo_, hlo_⟩ : ∃ x : List Loc, x = [] := ⟨_, rfl⟩
  have W_ : WD D A_ s_.heap ([wF cy a b n4 mx r f, wF cy a2 b2 n4 mx r2 f2]) H_ lo_ := by rw [hH_, hlo_]; exact W_
  rw [← hlo_]
  suffices hg_ : W p_ l_ e_ rX2_take s_ m_ ar_ be_ me_ c_ H_ lo_ 0 0 Q_ (F0 m_ 0 ls_ []) by rw [hH_] at hg_; exact hg_
  clear hH_ hlo_
  have hinX2 : ∀ w ∈ u_ws RX2 TX2 3, w ∈ wsX2_take := fun w h => List.mem_cons_of_mem _ (List.mem_append_right _ h)
  refine lv_aload_n F_.1 F_.2.1 dX2_take_0 rfl (lv_at hl 0 rfl) ?_
  refine lv_aload_n F_.1 F_.2.1 dX2_take_1 rfl (lv_at hl 0 rfl) ?_
  refine z_get F_ K_ W_ 0 0 0 rfl rfl rfl (C := RX2) (T := TX2) (N := 3) rfl (by decide) hinX2 (List.mem_of_getElem? (i := 1) rfl) dX2_take_2 ?_
  refine lv_aload_n F_.1 F_.2.1 dX2_take_5 rfl (lv_at hl 1 rfl) ?_
  refine z_get F_ K_ W_ 1 0 2 rfl rfl rfl (C := RX2) (T := TX2) (N := 3) rfl (by decide) hinX2 (List.mem_of_getElem? (i := 2) rfl) dX2_take_6 ?_
  refine z_min F_ (by omega) hl.1 (F_.2.2.2.2 _ (List.mem_of_getElem? (i := 3) rfl)) (F_.2.2.2.2 _ (List.mem_of_getElem? (i := 4) rfl)) (F_.2.2.2.2 _ (List.mem_of_getElem? (i := 5) rfl)) (F_.2.2.2.2 _ (List.mem_of_getElem? (i := 6) rfl)) (Nat.le_of_ble_eq_true rfl) (Nat.le_of_ble_eq_true rfl) (Nat.zero_le _) (Nat.zero_le _) dX2_take_9 ?_
  have i_2 : min mx r2 = r2 := by omega
  rw [i_2]
  refine z_put (sg' := [wF cy a b n4 mx r2 f, wF cy a2 b2 n4 mx r2 f2]) F_ K_ W_ 0 0 2 rfl rfl rfl (C := RX2) (T := TX2) (N := 3) rfl ⟨Nat.le_of_ble_eq_true rfl, Nat.le_of_ble_eq_true rfl⟩ tyX2 tyX2_ok nmX2 rfl rfl rfl hinX2 (List.mem_of_getElem? (i := 2) rfl) dX2_take_12 (fun H_ lo_ W_ => ?_)
  refine lv_aload_n F_.1 F_.2.1 dX2_take_15 rfl (lv_at hl 1 rfl) ?_
  refine z_get F_ K_ W_ 1 0 1 rfl rfl rfl (C := RX2) (T := TX2) (N := 3) rfl (by decide) hinX2 (List.mem_of_getElem? (i := 7) rfl) dX2_take_16 ?_
  refine z_iconst F_ dX2_take_19 ?_
  refine lv_aload_n F_.1 F_.2.1 dX2_take_20 rfl (lv_at hl 0 rfl) ?_
  refine z_get F_ K_ W_ 0 0 1 rfl rfl rfl (C := RX2) (T := TX2) (N := 3) rfl (by decide) hinX2 (List.mem_of_getElem? (i := 7) rfl) dX2_take_21 ?_
  refine z_iconst F_ dX2_take_24 ?_
  refine z_iconst F_ dX2_take_25 ?_
  refine lv_aload_n F_.1 F_.2.1 dX2_take_26 rfl (lv_at hl 0 rfl) ?_
  refine z_get F_ K_ W_ 0 0 2 rfl rfl rfl (C := RX2) (T := TX2) (N := 3) rfl (by decide) hinX2 (List.mem_of_getElem? (i := 2) rfl) dX2_take_27 ?_
  refine z_imul F_ dX2_take_30 ?_
  refine z_acopy (sg' := [wF cy a b n4 mx r2 (zcp f2 f 0 0 (4 * r2)), wF cy a2 b2 n4 mx r2 f2]) F_ K_ W_ hl.1 (F_.2.2.2.2 _ (List.mem_of_getElem? (i := 8) rfl)) (F_.2.2.2.2 _ (List.mem_of_getElem? (i := 9) rfl)) (F_.2.2.2.2 _ (List.mem_of_getElem? (i := 10) rfl)) (F_.2.2.2.2 _ (List.mem_of_getElem? (i := 11) rfl)) 1 1 0 1 rfl rfl rfl rfl rfl (by omega) (by omega) (by omega) (Nat.le_of_ble_eq_true rfl) (Nat.le_of_ble_eq_true rfl) dX2_take_31 (fun H_ lo_ W_ => ?_)
  obtain ⟨f_3, ef_3⟩ : ∃ x_ : Int → Int, x_ = zcp f2 f 0 0 (4 * r2) := ⟨_, rfl⟩
  rw [← ef_3] at W_
  have bf_3 : ∀ j : Int, (-1) ≤ f_3 j ∧ f_3 j ≤ 99 := by rw [ef_3]; exact zcp_b bf2 bf
  exact hret _ _ _ _ f_3 dX2_take_34 ⟨(by first | omega | assumption), bf_3⟩ W_
abbrev rX2_foldInto : Room := { frames := 0, cells := 0, slots := 0, locals := 0 }
set_option maxHeartbeats 1000000 in
set_option maxRecDepth 100000 in
theorem c_X2_foldInto (l_ : Launch) (D : va_G) (cy : Nat → ClassId) (a : Nat) (b : Nat) (n4 : Nat) (mx : Int) (r : Int) (f : Int → Int) (h : Int) (bf : ∀ j : Int, (-1) ≤ f j ∧ f j ≤ 99) (h4 : (n4 : Int) = 4 * mx ∧ mx ≤ 8) (hr : 0 ≤ r ∧ r ≤ mx) : CTl l_ D cy yX2_foldInto wsX2_foldInto rX2_foldInto [.ref a, .long (zl h)] ([wF cy a b n4 mx r f]) (fun (z : Int) (u : Unit) => (z = hashZ f 0 h (4 * r))) (fun (_ : Unit) => [wF cy a b n4 mx r f]) := by
  refine CTl.of RX2 cX2_foldInto 6 rfl (by decide) rfl (Nat.le_of_ble_eq_true rfl) ?_
  intro p_ e_ s_ m_ ar_ be_ me_ c_ Q_ A_ ls_ F_ K_ W_ hl hret
  have hl : lv_has ls_ 6 [(0, .ref a), (1, .long (zl h))] := hl
  obtain ⟨H_, hH_⟩ : ∃ x, x = s_.heap := ⟨_, rfl⟩
  obtain ⟨lo_, hlo_⟩ : ∃ x : List Loc, x = [] := ⟨_, rfl⟩
  have W_ : WD D A_ s_.heap ([wF cy a b n4 mx r f]) H_ lo_ := by rw [hH_, hlo_]; exact W_
  rw [← hlo_]
  suffices hg_ : W p_ l_ e_ rX2_foldInto s_ m_ ar_ be_ me_ c_ H_ lo_ 0 0 Q_ (F0 m_ 0 ls_ []) by rw [hH_] at hg_; exact hg_
  clear hH_ hlo_
  have hinX2 : ∀ w ∈ u_ws RX2 TX2 3, w ∈ wsX2_foldInto := fun w h => List.mem_cons_of_mem _ (List.mem_append_right _ h)
  refine lv_lload_n F_.1 F_.2.1 dX2_foldInto_0 rfl (lv_at hl 1 rfl) ?_
  refine lv_lstore_n (lv' := [(3, .long (zl h)), (0, .ref a), (1, .long (zl h))]) F_.1 F_.2.1 dX2_foldInto_1 rfl hl (by decide) rfl (fun ls_ hl => ?_)
  refine z_iconst F_ dX2_foldInto_2 ?_
  refine lv_istore (lv' := [(5, .int (zi 0)), (3, .long (zl h)), (0, .ref a), (1, .long (zl h))]) F_.1 F_.2.1 dX2_foldInto_3 hl (by decide) rfl (fun ls_ hl => ?_)
  have L5 : ∀ (n_ : Nat) (x : Int) (k : Int) (hk : 0 ≤ k ∧ k ≤ 4 * r) (hx : x = hashZ f 0 h k) (hm_ : (4 * r - k : Int) < (n_ : Int)) (ls_ : Array Slot) (H_ : Heap) (lo_ : List Loc), WD D A_ s_.heap ([wF cy a b n4 mx r f]) H_ lo_ → lv_has ls_ 6 [(5, .int (zi k)), (3, .long (zl x)), (0, .ref a), (1, .long (zl h))] → W p_ l_ e_ rX2_foldInto s_ m_ ar_ be_ me_ c_ H_ lo_ 0 0 Q_ (F0 m_ 5 ls_ []) := by
    intro n_
    induction n_ with
    | zero =>
      intro x k hk hx hm_ ls_ H_ lo_ _ _
      exact absurd hm_ (by omega)
    | succ n_ ih_ =>
      intro x k hk hx hm_ ls_ H_ lo_ W_ hl
      have ih5 := ih_
      refine lv_iload F_.1 F_.2.1 dX2_foldInto_5 (lv_at hl 0 rfl) ?_
      refine z_iconst F_ dX2_foldInto_7 ?_
      refine lv_aload_n F_.1 F_.2.1 dX2_foldInto_8 rfl (lv_at hl 2 rfl) ?_
      refine z_get F_ K_ W_ 0 0 2 rfl rfl rfl (C := RX2) (T := TX2) (N := 3) rfl (by decide) hinX2 (List.mem_of_getElem? (i := 1) rfl) dX2_foldInto_9 ?_
      refine z_imul F_ dX2_foldInto_12 ?_
      refine z_icmp_ge (tgt := 37) F_ (by omega) dX2_foldInto_13 (by decide) (fun c13 => ?_) (fun c13 => ?_)
      · refine lv_lload_n F_.1 F_.2.1 dX2_foldInto_37 rfl (lv_at hl 1 rfl) ?_
        exact hret _ _ _ _ x () dX2_foldInto_38 (by rw [hx]; congr 1; omega) W_
      · refine z_ldc2 (z := 31) F_ (F_.2.2.2.2 _ (List.mem_of_getElem? (i := 2) rfl)) rfl dX2_foldInto_16 ?_
        refine lv_lload_n F_.1 F_.2.1 dX2_foldInto_19 rfl (lv_at hl 1 rfl) ?_
        refine z_lmul F_ dX2_foldInto_20 ?_
        refine lv_aload_n F_.1 F_.2.1 dX2_foldInto_21 rfl (lv_at hl 2 rfl) ?_
        refine z_get F_ K_ W_ 0 0 1 rfl rfl rfl (C := RX2) (T := TX2) (N := 3) rfl (by decide) hinX2 (List.mem_of_getElem? (i := 3) rfl) dX2_foldInto_22 ?_
        refine lv_iload F_.1 F_.2.1 dX2_foldInto_25 (lv_at hl 0 rfl) ?_
        refine z_iald F_ K_ W_ 0 1 rfl rfl (by omega) (by omega) dX2_foldInto_27 ?_
        have b_1 := bf k
        refine z_i2l F_ (by omega) dX2_foldInto_28 ?_
        refine z_ladd F_ dX2_foldInto_29 ?_
        refine lv_lstore_n (lv' := [(3, .long (zl ((31 * x) + (f k)))), (5, .int (zi k)), (0, .ref a), (1, .long (zl h))]) F_.1 F_.2.1 dX2_foldInto_30 rfl hl (by decide) rfl (fun ls_ hl => ?_)
        refine z_iinc (lv' := [(5, .int (zi (k + 1))), (3, .long (zl ((31 * x) + (f k)))), (0, .ref a), (1, .long (zl h))]) F_ dX2_foldInto_31 hl (k := 1) rfl (by decide) rfl (fun ls_ hl => ?_)
        refine z_goto (tgt := 5) F_ dX2_foldInto_34 (by decide) ?_
        exact ih5 ((31 * x) + (f k)) (k + 1) (by first | omega | assumption) (by rw [hashZ_s _ _ _ hk.1, Int.zero_add, hx]) (by omega) ls_ H_ lo_ W_ (lv_sub hl [0, 1, 2, 3] rfl)
  exact L5 ((4 * r - 0 : Int).toNat + 1) h 0 (by first | omega | assumption) (by rfl) (by have := Int.self_le_toNat (4 * r - 0 : Int); omega) ls_ H_ lo_ W_ (lv_sub hl [0, 1, 2, 3] rfl)
