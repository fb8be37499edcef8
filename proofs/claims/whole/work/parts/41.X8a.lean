/-! the cells of the reference: its object, its rows (wA: numbers 0 .. 99, wT: 0 .. 300, wR: any, wZ: booleans) -/
abbrev wA (cy : Nat → ClassId) (a n : Nat) (g : Int → Int) : va_W := [(a, .inl (cy 0, n, .inl (zA g)))]
abbrev wT (cy : Nat → ClassId) (a n : Nat) (g : Int → Int) : va_W := [(a, .inl (cy 0, n, .inl (zA g)))]
abbrev wR (cy : Nat → ClassId) (a n : Nat) (g : Int → Int) : va_W := [(a, .inl (cy 0, n, .inl (zA g)))]
abbrev wZ (cy : Nat → ClassId) (a n : Nat) (g : Int → Int) : va_W := [(a, .inl (cy 2, n, .inl (zA g)))]
abbrev wO (cy : Nat → ClassId) (o : Nat → Nat) (ab be bl ta tl tk vl : Int) : va_W := [(o 0, .inr (7, [.ref (o 1), .ref (o 2), .ref (o 3), .ref (o 4), .long (zl ab), .long (zl be), .ref (o 5), .ref (o 6), .ref (o 7), .ref (o 8), .ref (o 9), .ref (o 10), .int (zi bl), .int (zi ta), .int (zi tl), .int (zi tk), .int (zi vl), .ref (o 11), .ref (o 12)]))]
def shZ (g : Int → Int) (o : Int) : Int → Int := fun k => g (o + k)
/-- how often a call was refused, one more -/
def rfZ (rf : Int → Int) (k : Int) : Int → Int := zu rf k (rf k + 1)
/-- the reference: who is left, a call, a row kept to be undone, undone -/
def lstG (g : Int → Int) (h : Int) : Int := lstZ (shZ g 6) (lkZ (shZ g 20) (shZ g 28) (g (14 + h))) (h + 1) (g 0)
def goG (g : Int → Int) (h z : Int) : Int → Int := if z = -1 then g else zu (zu g (6 + z) 0) (14 + h) (min 99 (g (14 + h) + 1))
def cntG (g : Int → Int) (v : Int) : Int := cntZ (shZ g 6) v (g 0)
def sumG (g : Int → Int) (v : Int) : Int := sumZ (shZ g 6) (shZ g 28) v (g 0)
def clrG (g : Int → Int) (k : Int) : Int → Int := fun j => if 0 ≤ j ∧ j < k then 0 else g j
def cpG (f g : Int → Int) (k : Int) : Int → Int := fun j => if 0 ≤ j ∧ j < k then f j else g j
def shfG (g : Int → Int) (k : Int) : Int → Int := fun j => if 104 ≤ j ∧ j < 104 + k then g (j + 11) else g j
def rowG (g : Int → Int) (n k : Int) : Int → Int := fun j => if 104 + 11 * n ≤ j ∧ j < 104 + 11 * n + k then g (6 + (j - (104 + 11 * n))) else g j
def savG (g : Int → Int) : Int → Int := if g 5 = 8 then zu (rowG (zu (shfG g 77) 5 7) 7 11) 5 8 else zu (rowG g (g 5) 11) 5 (g 5 + 1)
def bckG (g : Int → Int) (k : Int) : Int → Int := fun j => if 6 ≤ j ∧ j < 6 + k then g (104 + 11 * g 5 + (j - 6)) else g j
def undG (g : Int → Int) : Int → Int := bckG (zu g 5 (g 5 - 1)) 11
def layG (g : Int → Int) (kd t pl : Int) : Int → Int := zu (zu (zu (zu g (20 + g 0) kd) (28 + g 0) t) (6 + g 0) pl) 0 (g 0 + 1)
def shpG (g : Int → Int) (kd : Int) : Int → Int := zu (zu (zu g (17 + g 1) kd) 1 (g 1 + 1)) 5 0
abbrev canG (g : Int → Int) (h d : Int) : Prop := 0 < cntG g (h + 1) ∧ needZ (g (17 + h)) d (cntG g (h + 1)) ≤ sumG g (h + 1)
/-- k calls of a ship one behind another: who was left last, and the row behind them -/
def callsG (g : Int → Int) (h k : Int) : Int × (Int → Int) := fZ (fun _ x => (lstG x.2 h, goG x.2 h (lstG x.2 h))) (-1, g) k
theorem callsG_0 (g : Int → Int) (h : Int) : callsG g h 0 = (-1, g) := rfl
theorem callsG_s (g : Int → Int) (h : Int) {k : Int} (q : 0 ≤ k) : callsG g h (k + 1) = (lstG (callsG g h k).2 h, goG (callsG g h k).2 h (lstG (callsG g h k).2 h)) := fZ_s _ _ q
theorem likedZ_b2 (kind : Int) {s c : Int} (hs : 0 ≤ s ∧ s ≤ 99) (hc : 0 ≤ c ∧ c ≤ 99) : 0 ≤ likedZ kind s c ∧ likedZ kind s c ≤ 208 := by
  unfold likedZ
  repeat' split
  all_goals omega

theorem savG_0 {g : Int → Int} (h : 0 ≤ g 5 ∧ g 5 ≤ 8) : savG g 0 = g 0 := by
  unfold savG
  split
  · simp only [zu_at, rowG, shfG]
    rw [if_neg (by omega), if_neg (by omega), if_neg (by omega), if_neg (by omega)]
  · simp only [zu_at, rowG]
    rw [if_neg (by omega), if_neg (by omega)]

abbrev rX8_in : Room := { frames := 0, cells := 0, slots := 0, locals := 0 }
set_option maxHeartbeats 1000000 in
set_option maxRecDepth 100000 in
theorem c_X8_in (l_ : Launch) (D : va_G) (cy : Nat → ClassId) (v : Int) (lo : Int) (hi : Int) (hv : -4294967296 ≤ v ∧ v ≤ 4294967296 ∧ -4294967296 ≤ lo ∧ lo ≤ 4294967296 ∧ -4294967296 ≤ hi ∧ hi ≤ 4294967296) : CTi l_ D cy yX8_in wsX8_in rX8_in [.long (zl v), .long (zl lo), .long (zl hi)] (([] : List va_W)) (fun (z : Int) (u : Unit) => ((z = 1 ∧ (lo ≤ v ∧ v ≤ hi)) ∨ (z = 0 ∧ ¬ (lo ≤ v ∧ v ≤ hi)))) (fun (_ : Unit) => ([] : List va_W)) := by
  refine CTi.of RX8 cX8_in 6 rfl (by decide) rfl (fun z u hz => z_bl hz) (Nat.le_of_ble_eq_true rfl) ?_
  intro p_ e_ s_ m_ ar_ be_ me_ c_ Q_ A_ ls_ F_ K_ W_ hl hret
  have hl : lv_has ls_ 6 [(0, .long (zl v)), (2, .long (zl lo)), (4, .long (zl hi))] := hl
  obtain ⟨H_, hH_⟩ : ∃ x, x = s_.heap := ⟨_, rfl⟩
  obtain ⟨lo_, hlo_⟩ : ∃ x : List Loc, x = [] := ⟨_, rfl⟩
  have W_ : WD D A_ s_.heap (([] : List va_W)) H_ lo_ := by rw [hH_, hlo_]; exact W_
  rw [← hlo_]
  suffices hg_ : W p_ l_ e_ rX8_in s_ m_ ar_ be_ me_ c_ H_ lo_ 0 0 Q_ (F0 m_ 0 ls_ []) by rw [hH_] at hg_; exact hg_
  clear hH_ hlo_
  refine lv_lload_n F_.1 F_.2.1 dX8_in_0 rfl (lv_at hl 0 rfl) ?_
  refine lv_lload_n F_.1 F_.2.1 dX8_in_1 rfl (lv_at hl 1 rfl) ?_
  refine z_lcmp F_ (by omega) dX8_in_2 ?_
  obtain ⟨q_1, hq_1⟩ : ∃ x : Int, x = (if lo < v then 1 else if v = lo then 0 else -1) := ⟨_, rfl⟩
  rw [← hq_1]
  have hq_1 := z_cmp3 hq_1
  refine z_if_lt (tgt := 17) F_ (by omega) dX8_in_3 (by decide) (fun c3 => ?_) (fun c3 => ?_)
  · refine z_iconst F_ dX8_in_17 ?_
    exact hret _ _ _ _ 0 () dX8_in_18 (by first | omega | assumption) W_
  · refine lv_lload_n F_.1 F_.2.1 dX8_in_6 rfl (lv_at hl 0 rfl) ?_
    refine lv_lload F_.1 F_.2.1 dX8_in_7 (lv_at hl 2 rfl) ?_
    refine z_lcmp F_ (by omega) dX8_in_9 ?_
    obtain ⟨q_2, hq_2⟩ : ∃ x : Int, x = (if hi < v then 1 else if v = hi then 0 else -1) := ⟨_, rfl⟩
    rw [← hq_2]
    have hq_2 := z_cmp3 hq_2
    refine z_if_gt (tgt := 17) F_ (by omega) dX8_in_10 (by decide) (fun c10 => ?_) (fun c10 => ?_)
    · refine z_iconst F_ dX8_in_17 ?_
      exact hret _ _ _ _ 0 () dX8_in_18 (by first | omega | assumption) W_
    · refine z_iconst F_ dX8_in_13 ?_
      refine z_goto (tgt := 18) F_ dX8_in_14 (by decide) ?_
      exact hret _ _ _ _ 1 () dX8_in_18 (by first | omega | assumption) W_
abbrev rX8_bad : Room := { frames := 0, cells := 0, slots := 0, locals := 0 }
set_option maxHeartbeats 1000000 in
set_option maxRecDepth 100000 in
theorem c_X8_bad (l_ : Launch) (D : va_G) (cy : Nat → ClassId) (o : Nat → Nat) (ab : Int) (be : Int) (bl : Int) (ta : Int) (tl : Int) (tk : Int) (vl : Int) (rf : Int → Int) (t : Int) (rt : -2147483648 ≤ t ∧ t < 2147483648) : CTi l_ D cy yX8_bad wsX8_bad rX8_bad [.ref (o 0), .int (zi t)] ([wO cy o ab be bl ta tl tk vl, wR cy (o 4) 3 rf]) (fun (z : Int) (u : (Int → Int)) => (z = t) ∧ (u = rfZ rf 0)) (fun (u : (Int → Int)) => [wO cy o ab be bl ta tl tk vl, wR cy (o 4) 3 u]) := by
  refine CTi.of RX8 cX8_bad 2 rfl (by decide) rfl (fun z u hz => rfl) (Nat.le_of_ble_eq_true rfl) ?_
  intro p_ e_ s_ m_ ar_ be_ me_ c_ Q_ A_ ls_ F_ K_ W_ hl hret
  have hl : lv_has ls_ 2 [(0, .ref (o 0)), (1, .int (zi t))] := hl
  obtain ⟨H_, hH_⟩ : ∃ x, x = s_.heap := ⟨_, rfl⟩
  obtain ⟨lo_, hlo_⟩ : ∃ x : List Loc, x = [] := ⟨_, rfl⟩
  have W_ : WD D A_ s_.heap ([wO cy o ab be bl ta tl tk vl, wR cy (o 4) 3 rf]) H_ lo_ := by rw [hH_, hlo_]; exact W_
  rw [← hlo_]
  suffices hg_ : W p_ l_ e_ rX8_bad s_ m_ ar_ be_ me_ c_ H_ lo_ 0 0 Q_ (F0 m_ 0 ls_ []) by rw [hH_] at hg_; exact hg_
  clear hH_ hlo_
  have hinX8 : ∀ w ∈ u_ws RX8 TX8 19, w ∈ wsX8_bad := fun w h => List.mem_cons_of_mem _ (List.mem_append_right _ h)
  refine lv_aload_n F_.1 F_.2.1 dX8_bad_0 rfl (lv_at hl 0 rfl) ?_
  refine z_get F_ K_ W_ 0 0 3 rfl rfl rfl (C := RX8) (T := TX8) (N := 19) rfl (by decide) hinX8 (List.mem_of_getElem? (i := 1) rfl) dX8_bad_1 ?_
  refine z_iconst F_ dX8_bad_4 ?_
  refine lv_dup2_11 F_.1 F_.2.1 dX8_bad_5 rfl rfl ?_
  refine z_iald F_ K_ W_ 1 0 rfl rfl (by omega) (by decide) dX8_bad_6 ?_
  refine z_iconst F_ dX8_bad_7 ?_
  refine z_iadd F_ dX8_bad_8 ?_
  refine z_iast (sg' := [wO cy o ab be bl ta tl tk vl, wR cy (o 4) 3 (zu rf 0 ((rf 0) + 1))]) F_ K_ W_ 1 0 rfl rfl rfl (by omega) (by decide) dX8_bad_9 (fun H_ lo_ W_ => ?_)
  obtain ⟨g_1, eg_1⟩ : ∃ x_ : Int → Int, x_ = zu rf 0 ((rf 0) + 1) := ⟨_, rfl⟩
  rw [← eg_1] at W_
  refine lv_iload_n F_.1 F_.2.1 dX8_bad_10 rfl (lv_at hl 1 rfl) ?_
  exact hret _ _ _ _ t g_1 dX8_bad_11 ⟨(by first | omega | assumption), (by assumption)⟩ W_
abbrev rX8_no : Room := { frames := 0, cells := 0, slots := 0, locals := 0 }
set_option maxHeartbeats 1000000 in
set_option maxRecDepth 100000 in
theorem c_X8_no (l_ : Launch) (D : va_G) (cy : Nat → ClassId) (o : Nat → Nat) (ab : Int) (be : Int) (bl : Int) (ta : Int) (tl : Int) (tk : Int) (vl : Int) (rf : Int → Int)  : CTi l_ D cy yX8_no wsX8_no rX8_no [.ref (o 0)] ([wO cy o ab be bl ta tl tk vl, wR cy (o 4) 3 rf]) (fun (z : Int) (u : (Int → Int)) => (z = -3) ∧ (u = rfZ rf 1)) (fun (u : (Int → Int)) => [wO cy o ab be bl ta tl tk vl, wR cy (o 4) 3 u]) := by
  refine CTi.of RX8 cX8_no 1 rfl (by decide) rfl (fun z u hz => rfl) (Nat.le_of_ble_eq_true rfl) ?_
  intro p_ e_ s_ m_ ar_ be_ me_ c_ Q_ A_ ls_ F_ K_ W_ hl hret
  have hl : lv_has ls_ 1 [(0, .ref (o 0))] := hl
  obtain ⟨H_, hH_⟩ : ∃ x, x = s_.heap := ⟨_, rfl⟩
  obtain ⟨lo_, hlo_⟩ : ∃ x : List Loc, x = [] := ⟨_, rfl⟩
  have W_ : WD D A_ s_.heap ([wO cy o ab be bl ta tl tk vl, wR cy (o 4) 3 rf]) H_ lo_ := by rw [hH_, hlo_]; exact W_
  rw [← hlo_]
  suffices hg_ : W p_ l_ e_ rX8_no s_ m_ ar_ be_ me_ c_ H_ lo_ 0 0 Q_ (F0 m_ 0 ls_ []) by rw [hH_] at hg_; exact hg_
  clear hH_ hlo_
  have hinX8 : ∀ w ∈ u_ws RX8 TX8 19, w ∈ wsX8_no := fun w h => List.mem_cons_of_mem _ (List.mem_append_right _ h)
  refine lv_aload_n F_.1 F_.2.1 dX8_no_0 rfl (lv_at hl 0 rfl) ?_
  refine z_get F_ K_ W_ 0 0 3 rfl rfl rfl (C := RX8) (T := TX8) (N := 19) rfl (by decide) hinX8 (List.mem_of_getElem? (i := 1) rfl) dX8_no_1 ?_
  refine z_iconst F_ dX8_no_4 ?_
  refine lv_dup2_11 F_.1 F_.2.1 dX8_no_5 rfl rfl ?_
  refine z_iald F_ K_ W_ 1 0 rfl rfl (by omega) (by decide) dX8_no_6 ?_
  refine z_iconst F_ dX8_no_7 ?_
  refine z_iadd F_ dX8_no_8 ?_
  refine z_iast (sg' := [wO cy o ab be bl ta tl tk vl, wR cy (o 4) 3 (zu rf 1 ((rf 1) + 1))]) F_ K_ W_ 1 0 rfl rfl rfl (by omega) (by decide) dX8_no_9 (fun H_ lo_ W_ => ?_)
  obtain ⟨g_1, eg_1⟩ : ∃ x_ : Int → Int, x_ = zu rf 1 ((rf 1) + 1) := ⟨_, rfl⟩
  rw [← eg_1] at W_
  refine z_bipush F_ (by decide) dX8_no_10 ?_
  exact hret _ _ _ _ (-3) g_1 dX8_no_12 ⟨(by first | omega | assumption), (by assumption)⟩ W_
abbrev rX8_full : Room := { frames := 0, cells := 0, slots := 0, locals := 0 }
set_option maxHeartbeats 1000000 in
set_option maxRecDepth 100000 in
theorem c_X8_full (l_ : Launch) (D : va_G) (cy : Nat → ClassId) (o : Nat → Nat) (ab : Int) (be : Int) (bl : Int) (ta : Int) (tl : Int) (tk : Int) (vl : Int) (rf : Int → Int)  : CTi l_ D cy yX8_full wsX8_full rX8_full [.ref (o 0)] ([wO cy o ab be bl ta tl tk vl, wR cy (o 4) 3 rf]) (fun (z : Int) (u : (Int → Int)) => (z = -4) ∧ (u = rfZ rf 2)) (fun (u : (Int → Int)) => [wO cy o ab be bl ta tl tk vl, wR cy (o 4) 3 u]) := by
  refine CTi.of RX8 cX8_full 1 rfl (by decide) rfl (fun z u hz => rfl) (Nat.le_of_ble_eq_true rfl) ?_
  intro p_ e_ s_ m_ ar_ be_ me_ c_ Q_ A_ ls_ F_ K_ W_ hl hret
  have hl : lv_has ls_ 1 [(0, .ref (o 0))] := hl
  obtain ⟨H_, hH_⟩ : ∃ x, x = s_.heap := ⟨_, rfl⟩
  obtain ⟨lo_, hlo_⟩ : ∃ x : List Loc, x = [] := ⟨_, rfl⟩
  have W_ : WD D A_ s_.heap ([wO cy o ab be bl ta tl tk vl, wR cy (o 4) 3 rf]) H_ lo_ := by rw [hH_, hlo_]; exact W_
  rw [← hlo_]
  suffices hg_ : W p_ l_ e_ rX8_full s_ m_ ar_ be_ me_ c_ H_ lo_ 0 0 Q_ (F0 m_ 0 ls_ []) by rw [hH_] at hg_; exact hg_
  clear hH_ hlo_
  have hinX8 : ∀ w ∈ u_ws RX8 TX8 19, w ∈ wsX8_full := fun w h => List.mem_cons_of_mem _ (List.mem_append_right _ h)
  refine lv_aload_n F_.1 F_.2.1 dX8_full_0 rfl (lv_at hl 0 rfl) ?_
  refine z_get F_ K_ W_ 0 0 3 rfl rfl rfl (C := RX8) (T := TX8) (N := 19) rfl (by decide) hinX8 (List.mem_of_getElem? (i := 1) rfl) dX8_full_1 ?_
  refine z_iconst F_ dX8_full_4 ?_
  refine lv_dup2_11 F_.1 F_.2.1 dX8_full_5 rfl rfl ?_
  refine z_iald F_ K_ W_ 1 0 rfl rfl (by omega) (by decide) dX8_full_6 ?_
  refine z_iconst F_ dX8_full_7 ?_
  refine z_iadd F_ dX8_full_8 ?_
  refine z_iast (sg' := [wO cy o ab be bl ta tl tk vl, wR cy (o 4) 3 (zu rf 2 ((rf 2) + 1))]) F_ K_ W_ 1 0 rfl rfl rfl (by omega) (by decide) dX8_full_9 (fun H_ lo_ W_ => ?_)
  obtain ⟨g_1, eg_1⟩ : ∃ x_ : Int → Int, x_ = zu rf 2 ((rf 2) + 1) := ⟨_, rfl⟩
  rw [← eg_1] at W_
  refine z_bipush F_ (by decide) dX8_full_10 ?_
  exact hret _ _ _ _ (-4) g_1 dX8_full_12 ⟨(by first | omega | assumption), (by assumption)⟩ W_
abbrev rX8_begin : Room := { frames := 0, cells := 0, slots := 0, locals := 0 }
set_option maxHeartbeats 1000000 in
set_option maxRecDepth 100000 in
theorem c_X8_begin (l_ : Launch) (D : va_G) (cy : Nat → ClassId) (a : Nat) (n : Nat) (g : Int → Int) (bg : ∀ j : Int, 0 ≤ g j ∧ g j ≤ 99) (hn : 104 ≤ n ∧ n ≤ 400) : CTv l_ D cy yX8_begin wsX8_begin rX8_begin [.ref a] ([wA cy a n g]) (fun (u : (Int → Int)) => (u = clrG g 104) ∧ (∀ j : Int, 0 ≤ u j ∧ u j ≤ 99)) (fun (u : (Int → Int)) => [wA cy a n u]) := by
  refine CTv.of RX8 cX8_begin 2 rfl (by decide) rfl (Nat.le_of_ble_eq_true rfl) ?_
  intro p_ e_ s_ m_ ar_ be_ me_ c_ Q_ A_ ls_ F_ K_ W_ hl hret
  have hl : lv_has ls_ 2 [(0, .ref a)] := hl
  obtain ⟨H_, hH_⟩ : ∃ x, x = s_.heap := ⟨_, rfl⟩
  obtain ⟨lo_, hlo_⟩ : ∃ x : List Loc, x = [] := ⟨_, rfl⟩
  have W_ : WD D A_ s_.heap ([wA cy a n g]) H_ lo_ := by rw [hH_, hlo_]; exact W_
  rw [← hlo_]
  suffices hg_ : W p_ l_ e_ rX8_begin s_ m_ ar_ be_ me_ c_ H_ lo_ 0 0 Q_ (F0 m_ 0 ls_ []) by rw [hH_] at hg_; exact hg_
  clear hH_ hlo_
  refine z_iconst F_ dX8_begin_0 ?_
  refine lv_istore_n (lv' := [(1, .int (zi 0)), (0, .ref a)]) F_.1 F_.2.1 dX8_begin_1 rfl hl (by decide) rfl (fun ls_ hl => ?_)
  have L2 : ∀ (n_ : Nat) (k : Int) (x : Int → Int) (bx : ∀ j : Int, 0 ≤ x j ∧ x j ≤ 99) (hk : 0 ≤ k ∧ k ≤ 104) (hx : x = clrG g k) (hm_ : (104 - k : Int) < (n_ : Int)) (ls_ : Array Slot) (H_ : Heap) (lo_ : List Loc), WD D A_ s_.heap ([wA cy a n x]) H_ lo_ → lv_has ls_ 2 [(1, .int (zi k)), (0, .ref a)] → W p_ l_ e_ rX8_begin s_ m_ ar_ be_ me_ c_ H_ lo_ 0 0 Q_ (F0 m_ 2 ls_ []) := by
    intro n_
    induction n_ with
    | zero =>
      intro k x bx hk hx hm_ ls_ H_ lo_ _ _
      exact absurd hm_ (by omega)
    | succ n_ ih_ =>
      intro k x bx hk hx hm_ ls_ H_ lo_ W_ hl
      have ih2 := ih_
      refine lv_iload_n F_.1 F_.2.1 dX8_begin_2 rfl (lv_at hl 0 rfl) ?_
      refine z_bipush F_ (by decide) dX8_begin_3 ?_
      refine z_icmp_ge (tgt := 18) F_ (by omega) dX8_begin_5 (by decide) (fun c5 => ?_) (fun c5 => ?_)
      · exact hret _ _ _ _ x dX8_begin_18 ⟨(by rw [hx]; congr 1; omega), bx⟩ W_
      · refine lv_aload_n F_.1 F_.2.1 dX8_begin_8 rfl (lv_at hl 1 rfl) ?_
        refine lv_iload_n F_.1 F_.2.1 dX8_begin_9 rfl (lv_at hl 0 rfl) ?_
        refine z_iconst F_ dX8_begin_10 ?_
        refine z_iast (sg' := [wA cy a n (zu x k 0)]) F_ K_ W_ 0 0 rfl rfl rfl (by omega) (by omega) dX8_begin_11 (fun H_ lo_ W_ => ?_)
        obtain ⟨g_1, eg_1⟩ : ∃ x_ : Int → Int, x_ = zu x k 0 := ⟨_, rfl⟩
        rw [← eg_1] at W_
        have bg_1 : ∀ j : Int, 0 ≤ g_1 j ∧ g_1 j ≤ 99 := by rw [eg_1]; exact zu_b bx (by omega)
        refine z_iinc (lv' := [(1, .int (zi (k + 1))), (0, .ref a)]) F_ dX8_begin_12 hl (k := 0) rfl (by decide) rfl (fun ls_ hl => ?_)
        refine z_goto (tgt := 2) F_ dX8_begin_15 (by decide) ?_
        exact ih2 (k + 1) g_1 bg_1 (by first | omega | assumption) (by rw [eg_1, hx]; funext j_; simp only [zu_at, clrG]; repeat (first | omega | rfl | split | (congr 1; omega))) (by omega) ls_ H_ lo_ W_ (lv_sub hl [0, 1] rfl)
  exact L2 ((104 - 0 : Int).toNat + 1) 0 g bg (by first | omega | assumption) (by funext j_; simp only [zu_at, clrG]; repeat (first | omega | rfl | split | (congr 1; omega))) (by have := Int.self_le_toNat (104 - 0 : Int); omega) ls_ H_ lo_ W_ (lv_sub hl [0, 1] rfl)
abbrev rX8_many : Room := { frames := 0, cells := 0, slots := 0, locals := 0 }
set_option maxHeartbeats 1000000 in
set_option maxRecDepth 100000 in
theorem c_X8_many (l_ : Launch) (D : va_G) (cy : Nat → ClassId) (o : Nat → Nat) (ab : Int) (be : Int) (bl : Int) (ta : Int) (tl : Int) (tk : Int) (vl : Int) (g : Int → Int) (bg : ∀ j : Int, 0 ≤ g j ∧ g j ≤ 99) : CTi l_ D cy yX8_many wsX8_many rX8_many [.ref (o 0)] ([wO cy o ab be bl ta tl tk vl, wA cy (o 1) 192 g]) (fun (z : Int) (u : Unit) => (z = g 0)) (fun (_ : Unit) => [wO cy o ab be bl ta tl tk vl, wA cy (o 1) 192 g]) := by
  refine CTi.of RX8 cX8_many 1 rfl (by decide) rfl (fun z u hz => rfl) (Nat.le_of_ble_eq_true rfl) ?_
  intro p_ e_ s_ m_ ar_ be_ me_ c_ Q_ A_ ls_ F_ K_ W_ hl hret
  have hl : lv_has ls_ 1 [(0, .ref (o 0))] := hl
  obtain ⟨H_, hH_⟩ : ∃ x, x = s_.heap := ⟨_, rfl⟩
  obtain ⟨lo_, hlo_⟩ : ∃ x : List Loc, x = [] := ⟨_, rfl⟩
  have W_ : WD D A_ s_.heap ([wO cy o ab be bl ta tl tk vl, wA cy (o 1) 192 g]) H_ lo_ := by rw [hH_, hlo_]; exact W_
  rw [← hlo_]
  suffices hg_ : W p_ l_ e_ rX8_many s_ m_ ar_ be_ me_ c_ H_ lo_ 0 0 Q_ (F0 m_ 0 ls_ []) by rw [hH_] at hg_; exact hg_
  clear hH_ hlo_
  have hinX8 : ∀ w ∈ u_ws RX8 TX8 19, w ∈ wsX8_many := fun w h => List.mem_cons_of_mem _ (List.mem_append_right _ h)
  refine lv_aload_n F_.1 F_.2.1 dX8_many_0 rfl (lv_at hl 0 rfl) ?_
  refine z_get F_ K_ W_ 0 0 0 rfl rfl rfl (C := RX8) (T := TX8) (N := 19) rfl (by decide) hinX8 (List.mem_of_getElem? (i := 1) rfl) dX8_many_1 ?_
  refine z_iconst F_ dX8_many_4 ?_
  refine z_iald F_ K_ W_ 1 0 rfl rfl (by omega) (by decide) dX8_many_5 ?_
  have b_1 := bg 0
  exact hret _ _ _ _ (g 0) () dX8_many_6 (by first | omega | assumption) W_
abbrev rX8_isMan : Room := { frames := 1, cells := 0, slots := 0, locals := 25 }
set_option maxHeartbeats 1000000 in
set_option maxRecDepth 100000 in
theorem c_X8_isMan (l_ : Launch) (D : va_G) (cy : Nat → ClassId) (o : Nat → Nat) (ab : Int) (be : Int) (bl : Int) (ta : Int) (tl : Int) (tk : Int) (vl : Int) (g : Int → Int) (i : Int) (bg : ∀ j : Int, 0 ≤ g j ∧ g j ≤ 99) (ri : -2147483648 ≤ i ∧ i < 2147483648) (hg0 : 0 ≤ g 0 ∧ g 0 ≤ 8) : CTi l_ D cy yX8_isMan wsX8_isMan rX8_isMan [.ref (o 0), .int (zi i)] ([wO cy o ab be bl ta tl tk vl, wA cy (o 1) 192 g]) (fun (z : Int) (u : Unit) => ((z = 1 ∧ (0 ≤ i ∧ i < g 0)) ∨ (z = 0 ∧ ¬ (0 ≤ i ∧ i < g 0)))) (fun (_ : Unit) => [wO cy o ab be bl ta tl tk vl, wA cy (o 1) 192 g]) := by
  refine CTi.of RX8 cX8_isMan 2 rfl (by decide) rfl (fun z u hz => z_bl hz) (Nat.le_of_ble_eq_true rfl) ?_
  intro p_ e_ s_ m_ ar_ be_ me_ c_ Q_ A_ ls_ F_ K_ W_ hl hret
  have hl : lv_has ls_ 2 [(0, .ref (o 0)), (1, .int (zi i))] := hl
  obtain ⟨H_, hH_⟩ : ∃ x, x = s_.heap := ⟨_, rfl⟩
  obtain ⟨lo_, hlo_⟩ : ∃ x : List Loc, x = [] := ⟨_, rfl⟩
  have W_ : WD D A_ s_.heap ([wO cy o ab be bl ta tl tk vl, wA cy (o 1) 192 g]) H_ lo_ := by rw [hH_, hlo_]; exact W_
  rw [← hlo_]
  suffices hg_ : W p_ l_ e_ rX8_isMan s_ m_ ar_ be_ me_ c_ H_ lo_ 0 0 Q_ (F0 m_ 0 ls_ []) by rw [hH_] at hg_; exact hg_
  clear hH_ hlo_
  refine lv_iload_n F_.1 F_.2.1 dX8_isMan_0 rfl (lv_at hl 1 rfl) ?_
  refine z_i2l F_ (by omega) dX8_isMan_1 ?_
  refine z_lconst (z := 0) F_ rfl dX8_isMan_2 ?_
  refine lv_aload_n F_.1 F_.2.1 dX8_isMan_3 rfl (lv_at hl 0 rfl) ?_
  refine z_callVip F_ K_ W_ [] (c_X8_many l_ D cy o ab be bl ta tl tk vl g bg) 0 rfl gX8_isMan_X8_many rfl (by decide +kernel) ⟨⟨Nat.le_of_ble_eq_true rfl, Nat.le_of_ble_eq_true rfl⟩, rfl, rfl, Nat.zero_le _, Nat.zero_le _⟩ 0 0 7 rfl rfl rfl rfl hl.1 rfl (Nat.le_of_ble_eq_true rfl) [0, 1] ([] : List Nat) ([] : List va_W) 2 (by decide +kernel) rfl rfl rfl dX8_isMan_4 (fun z_1 _ H_ lo_ hw_ W_ => ?_)
  have hw_ : (z_1 = g 0) := hw_
  have f4_v := hw_
  have f4_v := f4_v.symm
  subst f4_v
  refine z_iconst F_ dX8_isMan_7 ?_
  refine z_isub F_ dX8_isMan_8 ?_
  refine z_i2l F_ (by omega) dX8_isMan_9 ?_
  refine z_callSip F_ K_ W_ [.long (zl i), .long (zl 0), .long (zl ((g 0) - 1))] (c_X8_in l_ D cy i 0 ((g 0) - 1) (by first | omega | assumption)) 3 rfl gX8_isMan_X8_in rfl (by decide +kernel) ⟨⟨Nat.le_of_ble_eq_true rfl, Nat.le_of_ble_eq_true rfl⟩, rfl, rfl, Nat.zero_le _, Nat.zero_le _⟩ hl.1 rfl (Nat.le_of_ble_eq_true rfl) ([] : List Nat) [0, 1] [wO cy o ab be bl ta tl tk vl, wA cy (o 1) 192 g] 2 (by decide +kernel) rfl rfl rfl dX8_isMan_10 (fun z_2 _ H_ lo_ hw_ W_ => ?_)
  have hw_ : ((z_2 = 1 ∧ (0 ≤ i ∧ i ≤ ((g 0) - 1))) ∨ (z_2 = 0 ∧ ¬ (0 ≤ i ∧ i ≤ ((g 0) - 1)))) := hw_
  have f10_v := hw_
  exact hret _ _ _ _ z_2 () dX8_isMan_13 (by first | omega | assumption) W_
abbrev rX8_isShip : Room := { frames := 1, cells := 0, slots := 0, locals := 25 }
set_option maxHeartbeats 1000000 in
set_option maxRecDepth 100000 in
theorem c_X8_isShip (l_ : Launch) (D : va_G) (cy : Nat → ClassId) (o : Nat → Nat) (ab : Int) (be : Int) (bl : Int) (ta : Int) (tl : Int) (tk : Int) (vl : Int) (g : Int → Int) (h : Int) (bg : ∀ j : Int, 0 ≤ g j ∧ g j ≤ 99) (rh : -2147483648 ≤ h ∧ h < 2147483648) (hg1 : 0 ≤ g 1 ∧ g 1 ≤ 3) : CTi l_ D cy yX8_isShip wsX8_isShip rX8_isShip [.ref (o 0), .int (zi h)] ([wO cy o ab be bl ta tl tk vl, wA cy (o 1) 192 g]) (fun (z : Int) (u : Unit) => ((z = 1 ∧ (0 ≤ h ∧ h < g 1)) ∨ (z = 0 ∧ ¬ (0 ≤ h ∧ h < g 1)))) (fun (_ : Unit) => [wO cy o ab be bl ta tl tk vl, wA cy (o 1) 192 g]) := by
  refine CTi.of RX8 cX8_isShip 2 rfl (by decide) rfl (fun z u hz => z_bl hz) (Nat.le_of_ble_eq_true rfl) ?_
  intro p_ e_ s_ m_ ar_ be_ me_ c_ Q_ A_ ls_ F_ K_ W_ hl hret
  have hl : lv_has ls_ 2 [(0, .ref (o 0)), (1, .int (zi h))] := hl
  obtain ⟨H_, hH_⟩ : ∃ x, x = s_.heap := ⟨_, rfl⟩
  obtain ⟨lo_, hlo_⟩ : ∃ x : List Loc, x = [] := ⟨_, rfl⟩
  have W_ : WD D A_ s_.heap ([wO cy o ab be bl ta tl tk vl, wA cy (o 1) 192 g]) H_ lo_ := by rw [hH_, hlo_]; exact W_
  rw [← hlo_]
  suffices hg_ : W p_ l_ e_ rX8_isShip s_ m_ ar_ be_ me_ c_ H_ lo_ 0 0 Q_ (F0 m_ 0 ls_ []) by rw [hH_] at hg_; exact hg_
  clear hH_ hlo_
  have hinX8 : ∀ w ∈ u_ws RX8 TX8 19, w ∈ wsX8_isShip := fun w h => List.mem_cons_of_mem _ (List.mem_append_right _ h)
  refine lv_iload_n F_.1 F_.2.1 dX8_isShip_0 rfl (lv_at hl 1 rfl) ?_
  refine z_i2l F_ (by omega) dX8_isShip_1 ?_
  refine z_lconst (z := 0) F_ rfl dX8_isShip_2 ?_
  refine lv_aload_n F_.1 F_.2.1 dX8_isShip_3 rfl (lv_at hl 0 rfl) ?_
  refine z_get F_ K_ W_ 0 0 0 rfl rfl rfl (C := RX8) (T := TX8) (N := 19) rfl (by decide) hinX8 (List.mem_of_getElem? (i := 1) rfl) dX8_isShip_4 ?_
  refine z_iconst F_ dX8_isShip_7 ?_
  refine z_iald F_ K_ W_ 1 0 rfl rfl (by omega) (by decide) dX8_isShip_8 ?_
  have b_1 := bg 1
  refine z_iconst F_ dX8_isShip_9 ?_
  refine z_isub F_ dX8_isShip_10 ?_
  refine z_i2l F_ (by omega) dX8_isShip_11 ?_
  refine z_callSip F_ K_ W_ [.long (zl h), .long (zl 0), .long (zl ((g 1) - 1))] (c_X8_in l_ D cy h 0 ((g 1) - 1) (by first | omega | assumption)) 3 rfl gX8_isShip_X8_in rfl (by decide +kernel) ⟨⟨Nat.le_of_ble_eq_true rfl, Nat.le_of_ble_eq_true rfl⟩, rfl, rfl, Nat.zero_le _, Nat.zero_le _⟩ hl.1 rfl (Nat.le_of_ble_eq_true rfl) ([] : List Nat) [0, 1] [wO cy o ab be bl ta tl tk vl, wA cy (o 1) 192 g] 2 (by decide +kernel) rfl rfl rfl dX8_isShip_12 (fun z_2 _ H_ lo_ hw_ W_ => ?_)
  have hw_ : ((z_2 = 1 ∧ (0 ≤ h ∧ h ≤ ((g 1) - 1))) ∨ (z_2 = 0 ∧ ¬ (0 ≤ h ∧ h ≤ ((g 1) - 1)))) := hw_
  have f12_v := hw_
  exact hret _ _ _ _ z_2 () dX8_isShip_15 (by first | omega | assumption) W_
abbrev rX8_isKind : Room := { frames := 1, cells := 0, slots := 0, locals := 25 }
set_option maxHeartbeats 1000000 in
set_option maxRecDepth 100000 in
theorem c_X8_isKind (l_ : Launch) (D : va_G) (cy : Nat → ClassId) (x : Int) (rx : -2147483648 ≤ x ∧ x < 2147483648) : CTi l_ D cy yX8_isKind wsX8_isKind rX8_isKind [.int (zi x)] (([] : List va_W)) (fun (z : Int) (u : Unit) => ((z = 1 ∧ (0 ≤ x ∧ x ≤ 5)) ∨ (z = 0 ∧ ¬ (0 ≤ x ∧ x ≤ 5)))) (fun (_ : Unit) => ([] : List va_W)) := by
  refine CTi.of RX8 cX8_isKind 1 rfl (by decide) rfl (fun z u hz => z_bl hz) (Nat.le_of_ble_eq_true rfl) ?_
  intro p_ e_ s_ m_ ar_ be_ me_ c_ Q_ A_ ls_ F_ K_ W_ hl hret
  have hl : lv_has ls_ 1 [(0, .int (zi x))] := hl
  obtain ⟨H_, hH_⟩ : ∃ x, x = s_.heap := ⟨_, rfl⟩
  obtain ⟨lo_, hlo_⟩ : ∃ x : List Loc, x = [] := ⟨_, rfl⟩
  have W_ : WD D A_ s_.heap (([] : List va_W)) H_ lo_ := by rw [hH_, hlo_]; exact W_
  rw [← hlo_]
  suffices hg_ : W p_ l_ e_ rX8_isKind s_ m_ ar_ be_ me_ c_ H_ lo_ 0 0 Q_ (F0 m_ 0 ls_ []) by rw [hH_] at hg_; exact hg_
  clear hH_ hlo_
  refine lv_iload_n F_.1 F_.2.1 dX8_isKind_0 rfl (lv_at hl 0 rfl) ?_
  refine z_i2l F_ (by omega) dX8_isKind_1 ?_
  refine z_lconst (z := 0) F_ rfl dX8_isKind_2 ?_
  refine z_ldc2 (z := 5) F_ (F_.2.2.2.2 _ (List.mem_of_getElem? (i := 1) rfl)) rfl dX8_isKind_3 ?_
  refine z_callSip F_ K_ W_ [.long (zl x), .long (zl 0), .long (zl 5)] (c_X8_in l_ D cy x 0 5 (by first | omega | assumption)) 3 rfl gX8_isKind_X8_in rfl (by decide +kernel) ⟨⟨Nat.le_of_ble_eq_true rfl, Nat.le_of_ble_eq_true rfl⟩, rfl, rfl, Nat.zero_le _, Nat.zero_le _⟩ hl.1 rfl (Nat.le_of_ble_eq_true rfl) ([] : List Nat) ([] : List Nat) ([] : List va_W) 0 (by decide +kernel) rfl rfl rfl dX8_isKind_6 (fun z_1 _ H_ lo_ hw_ W_ => ?_)
  have hw_ : ((z_1 = 1 ∧ (0 ≤ x ∧ x ≤ 5)) ∨ (z_1 = 0 ∧ ¬ (0 ≤ x ∧ x ≤ 5))) := hw_
  have f6_v := hw_
  exact hret _ _ _ _ z_1 () dX8_isKind_9 (by first | omega | assumption) W_
abbrev rX8_isSkill : Room := { frames := 1, cells := 0, slots := 0, locals := 25 }
set_option maxHeartbeats 1000000 in
set_option maxRecDepth 100000 in
theorem c_X8_isSkill (l_ : Launch) (D : va_G) (cy : Nat → ClassId) (x : Int) (rx : -2147483648 ≤ x ∧ x < 2147483648) : CTi l_ D cy yX8_isSkill wsX8_isSkill rX8_isSkill [.int (zi x)] (([] : List va_W)) (fun (z : Int) (u : Unit) => ((z = 1 ∧ (1 ≤ x ∧ x ≤ 9)) ∨ (z = 0 ∧ ¬ (1 ≤ x ∧ x ≤ 9)))) (fun (_ : Unit) => ([] : List va_W)) := by
  refine CTi.of RX8 cX8_isSkill 1 rfl (by decide) rfl (fun z u hz => z_bl hz) (Nat.le_of_ble_eq_true rfl) ?_
  intro p_ e_ s_ m_ ar_ be_ me_ c_ Q_ A_ ls_ F_ K_ W_ hl hret
  have hl : lv_has ls_ 1 [(0, .int (zi x))] := hl
  obtain ⟨H_, hH_⟩ : ∃ x, x = s_.heap := ⟨_, rfl⟩
  obtain ⟨lo_, hlo_⟩ : ∃ x : List Loc, x = [] := ⟨_, rfl⟩
  have W_ : WD D A_ s_.heap (([] : List va_W)) H_ lo_ := by rw [hH_, hlo_]; exact W_
  rw [← hlo_]
  suffices hg_ : W p_ l_ e_ rX8_isSkill s_ m_ ar_ be_ me_ c_ H_ lo_ 0 0 Q_ (F0 m_ 0 ls_ []) by rw [hH_] at hg_; exact hg_
  clear hH_ hlo_
  refine lv_iload_n F_.1 F_.2.1 dX8_isSkill_0 rfl (lv_at hl 0 rfl) ?_
  refine z_i2l F_ (by omega) dX8_isSkill_1 ?_
  refine z_lconst (z := 1) F_ rfl dX8_isSkill_2 ?_
  refine z_ldc2 (z := 9) F_ (F_.2.2.2.2 _ (List.mem_of_getElem? (i := 1) rfl)) rfl dX8_isSkill_3 ?_
  refine z_callSip F_ K_ W_ [.long (zl x), .long (zl 1), .long (zl 9)] (c_X8_in l_ D cy x 1 9 (by first | omega | assumption)) 3 rfl gX8_isSkill_X8_in rfl (by decide +kernel) ⟨⟨Nat.le_of_ble_eq_true rfl, Nat.le_of_ble_eq_true rfl⟩, rfl, rfl, Nat.zero_le _, Nat.zero_le _⟩ hl.1 rfl (Nat.le_of_ble_eq_true rfl) ([] : List Nat) ([] : List Nat) ([] : List va_W) 0 (by decide +kernel) rfl rfl rfl dX8_isSkill_6 (fun z_1 _ H_ lo_ hw_ W_ => ?_)
  have hw_ : ((z_1 = 1 ∧ (1 ≤ x ∧ x ≤ 9)) ∨ (z_1 = 0 ∧ ¬ (1 ≤ x ∧ x ≤ 9))) := hw_
  have f6_v := hw_
  exact hret _ _ _ _ z_1 () dX8_isSkill_9 (by first | omega | assumption) W_
abbrev rX8_isFar : Room := { frames := 1, cells := 0, slots := 0, locals := 25 }
set_option maxHeartbeats 1000000 in
set_option maxRecDepth 100000 in
theorem c_X8_isFar (l_ : Launch) (D : va_G) (cy : Nat → ClassId) (x : Int) (rx : -2147483648 ≤ x ∧ x < 2147483648) : CTi l_ D cy yX8_isFar wsX8_isFar rX8_isFar [.int (zi x)] (([] : List va_W)) (fun (z : Int) (u : Unit) => ((z = 1 ∧ (1 ≤ x ∧ x ≤ 30)) ∨ (z = 0 ∧ ¬ (1 ≤ x ∧ x ≤ 30)))) (fun (_ : Unit) => ([] : List va_W)) := by
  refine CTi.of RX8 cX8_isFar 1 rfl (by decide) rfl (fun z u hz => z_bl hz) (Nat.le_of_ble_eq_true rfl) ?_
  intro p_ e_ s_ m_ ar_ be_ me_ c_ Q_ A_ ls_ F_ K_ W_ hl hret
  have hl : lv_has ls_ 1 [(0, .int (zi x))] := hl
  obtain ⟨H_, hH_⟩ : ∃ x, x = s_.heap := ⟨_, rfl⟩
  obtain ⟨lo_, hlo_⟩ : ∃ x : List Loc, x = [] := ⟨_, rfl⟩
  have W_ : WD D A_ s_.heap (([] : List va_W)) H_ lo_ := by rw [hH_, hlo_]; exact W_
  rw [← hlo_]
  suffices hg_ : W p_ l_ e_ rX8_isFar s_ m_ ar_ be_ me_ c_ H_ lo_ 0 0 Q_ (F0 m_ 0 ls_ []) by rw [hH_] at hg_; exact hg_
  clear hH_ hlo_
  refine lv_iload_n F_.1 F_.2.1 dX8_isFar_0 rfl (lv_at hl 0 rfl) ?_
  refine z_i2l F_ (by omega) dX8_isFar_1 ?_
  refine z_lconst (z := 1) F_ rfl dX8_isFar_2 ?_
  refine z_ldc2 (z := 30) F_ (F_.2.2.2.2 _ (List.mem_of_getElem? (i := 1) rfl)) rfl dX8_isFar_3 ?_
  refine z_callSip F_ K_ W_ [.long (zl x), .long (zl 1), .long (zl 30)] (c_X8_in l_ D cy x 1 30 (by first | omega | assumption)) 3 rfl gX8_isFar_X8_in rfl (by decide +kernel) ⟨⟨Nat.le_of_ble_eq_true rfl, Nat.le_of_ble_eq_true rfl⟩, rfl, rfl, Nat.zero_le _, Nat.zero_le _⟩ hl.1 rfl (Nat.le_of_ble_eq_true rfl) ([] : List Nat) ([] : List Nat) ([] : List va_W) 0 (by decide +kernel) rfl rfl rfl dX8_isFar_6 (fun z_1 _ H_ lo_ hw_ W_ => ?_)
  have hw_ : ((z_1 = 1 ∧ (1 ≤ x ∧ x ≤ 30)) ∨ (z_1 = 0 ∧ ¬ (1 ≤ x ∧ x ≤ 30))) := hw_
  have f6_v := hw_
  exact hret _ _ _ _ z_1 () dX8_isFar_9 (by first | omega | assumption) W_
abbrev rX8_needsAs : Room := { frames := 0, cells := 0, slots := 0, locals := 0 }
set_option maxHeartbeats 1000000 in
set_option maxRecDepth 100000 in
theorem c_X8_needsAs (l_ : Launch) (D : va_G) (cy : Nat → ClassId) (kd : Int) (d : Int) (k : Int) (rkd : -2147483648 ≤ kd ∧ kd < 2147483648) (rd : -2147483648 ≤ d ∧ d < 2147483648) (rk : -2147483648 ≤ k ∧ k < 2147483648) (hd : 0 ≤ d ∧ d ≤ 99) (hk : 0 ≤ k ∧ k ≤ 99) : CTi l_ D cy yX8_needsAs wsX8_needsAs rX8_needsAs [.int (zi kd), .int (zi d), .int (zi k)] (([] : List va_W)) (fun (z : Int) (u : Unit) => (z = needZ kd d k)) (fun (_ : Unit) => ([] : List va_W)) := by
  refine CTi.of RX8 cX8_needsAs 4 rfl (by decide) rfl (fun z u hz => rfl) (Nat.le_of_ble_eq_true rfl) ?_
  intro p_ e_ s_ m_ ar_ be_ me_ c_ Q_ A_ ls_ F_ K_ W_ hl hret
  have hl : lv_has ls_ 4 [(0, .int (zi kd)), (1, .int (zi d)), (2, .int (zi k))] := hl
  obtain ⟨H_, hH_⟩ : ∃ x, x = s_.heap := ⟨_, rfl⟩
  obtain ⟨lo_, hlo_⟩ : ∃ x : List Loc, x = [] := ⟨_, rfl⟩
  have W_ : WD D A_ s_.heap (([] : List va_W)) H_ lo_ := by rw [hH_, hlo_]; exact W_
  rw [← hlo_]
  suffices hg_ : W p_ l_ e_ rX8_needsAs s_ m_ ar_ be_ me_ c_ H_ lo_ 0 0 Q_ (F0 m_ 0 ls_ []) by rw [hH_] at hg_; exact hg_
  clear hH_ hlo_
  refine z_iconst F_ dX8_needsAs_0 ?_
  refine lv_iload_n F_.1 F_.2.1 dX8_needsAs_1 rfl (lv_at hl 1 rfl) ?_
  refine z_imul F_ dX8_needsAs_2 ?_
  refine z_iconst F_ dX8_needsAs_3 ?_
  refine z_iadd F_ dX8_needsAs_4 ?_
  refine lv_istore_n (lv' := [(3, .int (zi ((2 * d) + 4))), (0, .int (zi kd)), (1, .int (zi d)), (2, .int (zi k))]) F_.1 F_.2.1 dX8_needsAs_5 rfl hl (by decide) rfl (fun ls_ hl => ?_)
  refine lv_iload_n F_.1 F_.2.1 dX8_needsAs_6 rfl (lv_at hl 1 rfl) ?_
  rcases (show kd = 1 ∨ kd = 2 ∨ kd = 3 ∨ kd = 4 ∨ kd = 5 ∨ (kd < 1 ∨ 5 < kd) by omega) with c7 | c7 | c7 | c7 | c7 | c7
  · refine z_tabIn (tgt := 40) F_ 1 c7 ⟨by omega, by decide, by decide⟩ dX8_needsAs_7 rfl (by decide) ?_
    refine lv_iload_n F_.1 F_.2.1 dX8_needsAs_40 rfl (lv_at hl 0 rfl) ?_
    exact hret _ _ _ _ ((2 * d) + 4) () dX8_needsAs_41 (by simp only [needZ]; repeat (first | omega | split)) W_
  · refine z_tabIn (tgt := 42) F_ 2 c7 ⟨by omega, by decide, by decide⟩ dX8_needsAs_7 rfl (by decide) ?_
    refine lv_iload_n F_.1 F_.2.1 dX8_needsAs_42 rfl (lv_at hl 2 rfl) ?_
    exact hret _ _ _ _ d () dX8_needsAs_43 (by simp only [needZ]; repeat (first | omega | split)) W_
  · refine z_tabIn (tgt := 44) F_ 3 c7 ⟨by omega, by decide, by decide⟩ dX8_needsAs_7 rfl (by decide) ?_
    refine lv_iload_n F_.1 F_.2.1 dX8_needsAs_44 rfl (lv_at hl 0 rfl) ?_
    refine z_iconst F_ dX8_needsAs_45 ?_
    refine lv_iload_n F_.1 F_.2.1 dX8_needsAs_46 rfl (lv_at hl 3 rfl) ?_
    refine z_imul F_ dX8_needsAs_47 ?_
    refine z_isub F_ dX8_needsAs_48 ?_
    refine z_iconst F_ dX8_needsAs_49 ?_
    refine z_icmp_ge (tgt := 57) F_ (by omega) dX8_needsAs_50 (by decide) (fun c50 => ?_) (fun c50 => ?_)
    · refine lv_iload_n F_.1 F_.2.1 dX8_needsAs_57 rfl (lv_at hl 0 rfl) ?_
      refine z_iconst F_ dX8_needsAs_58 ?_
      refine lv_iload_n F_.1 F_.2.1 dX8_needsAs_59 rfl (lv_at hl 3 rfl) ?_
      refine z_imul F_ dX8_needsAs_60 ?_
      refine z_isub F_ dX8_needsAs_61 ?_
      exact hret _ _ _ _ (((2 * d) + 4) - (2 * k)) () dX8_needsAs_62 (by simp only [needZ]; repeat (first | omega | split)) W_
    · refine z_iconst F_ dX8_needsAs_53 ?_
      refine z_goto (tgt := 62) F_ dX8_needsAs_54 (by decide) ?_
      exact hret _ _ _ _ 1 () dX8_needsAs_62 (by simp only [needZ]; repeat (first | omega | split)) W_
  · refine z_tabIn (tgt := 63) F_ 4 c7 ⟨by omega, by decide, by decide⟩ dX8_needsAs_7 rfl (by decide) ?_
    refine lv_iload_n F_.1 F_.2.1 dX8_needsAs_63 rfl (lv_at hl 3 rfl) ?_
    refine z_iconst F_ dX8_needsAs_64 ?_
    refine z_icmp_lt (tgt := 76) F_ (by omega) dX8_needsAs_65 (by decide) (fun c65 => ?_) (fun c65 => ?_)
    · refine z_iconst F_ dX8_needsAs_76 ?_
      refine lv_iload_n F_.1 F_.2.1 dX8_needsAs_77 rfl (lv_at hl 2 rfl) ?_
      refine z_imul F_ dX8_needsAs_78 ?_
      exact hret _ _ _ _ (2 * d) () dX8_needsAs_79 (by simp only [needZ]; repeat (first | omega | split)) W_
    · refine z_iconst F_ dX8_needsAs_68 ?_
      refine lv_iload_n F_.1 F_.2.1 dX8_needsAs_69 rfl (lv_at hl 2 rfl) ?_
      refine z_imul F_ dX8_needsAs_70 ?_
      refine z_iconst F_ dX8_needsAs_71 ?_
      refine z_iadd F_ dX8_needsAs_72 ?_
      refine z_goto (tgt := 79) F_ dX8_needsAs_73 (by decide) ?_
      exact hret _ _ _ _ ((2 * d) + 5) () dX8_needsAs_79 (by simp only [needZ]; repeat (first | omega | split)) W_
  · refine z_tabIn (tgt := 80) F_ 5 c7 ⟨by omega, by decide, by decide⟩ dX8_needsAs_7 rfl (by decide) ?_
    refine lv_iload_n F_.1 F_.2.1 dX8_needsAs_80 rfl (lv_at hl 3 rfl) ?_
    refine z_iconst F_ dX8_needsAs_81 ?_
    refine z_icmp_gt (tgt := 96) F_ (by omega) dX8_needsAs_82 (by decide) (fun c82 => ?_) (fun c82 => ?_)
    · refine lv_iload_n F_.1 F_.2.1 dX8_needsAs_96 rfl (lv_at hl 2 rfl) ?_
      exact hret _ _ _ _ d () dX8_needsAs_97 (by simp only [needZ]; repeat (first | omega | split)) W_
    · refine lv_iload_n F_.1 F_.2.1 dX8_needsAs_85 rfl (lv_at hl 2 rfl) ?_
      refine z_bipush F_ (by decide) dX8_needsAs_86 ?_
      refine z_icmp_le (tgt := 96) F_ (by omega) dX8_needsAs_88 (by decide) (fun c88 => ?_) (fun c88 => ?_)
      · refine lv_iload_n F_.1 F_.2.1 dX8_needsAs_96 rfl (lv_at hl 2 rfl) ?_
        exact hret _ _ _ _ d () dX8_needsAs_97 (by simp only [needZ]; repeat (first | omega | split)) W_
      · refine z_bipush F_ (by decide) dX8_needsAs_91 ?_
        refine z_goto (tgt := 97) F_ dX8_needsAs_93 (by decide) ?_
        exact hret _ _ _ _ 9 () dX8_needsAs_97 (by simp only [needZ]; repeat (first | omega | split)) W_
  · refine z_tabOut (tgt := 98) F_ ⟨by omega, c7⟩ dX8_needsAs_7 (by decide) ?_
    refine z_iconst F_ dX8_needsAs_98 ?_
    refine lv_iload_n F_.1 F_.2.1 dX8_needsAs_99 rfl (lv_at hl 2 rfl) ?_
    refine z_imul F_ dX8_needsAs_100 ?_
    exact hret _ _ _ _ (2 * d) () dX8_needsAs_101 (by simp only [needZ]; repeat (first | omega | split)) W_
abbrev rX8_likedAs : Room := { frames := 0, cells := 0, slots := 0, locals := 0 }
set_option maxHeartbeats 1000000 in
set_option maxRecDepth 100000 in
theorem c_X8_likedAs (l_ : Launch) (D : va_G) (cy : Nat → ClassId) (kd : Int) (t : Int) (y : Int) (rkd : -2147483648 ≤ kd ∧ kd < 2147483648) (rt : -2147483648 ≤ t ∧ t < 2147483648) (ry : -2147483648 ≤ y ∧ y < 2147483648) (ht : 0 ≤ t ∧ t ≤ 99) (hy : 0 ≤ y ∧ y ≤ 99) : CTi l_ D cy yX8_likedAs wsX8_likedAs rX8_likedAs [.int (zi kd), .int (zi t), .int (zi y)] (([] : List va_W)) (fun (z : Int) (u : Unit) => (z = likedZ kd t y)) (fun (_ : Unit) => ([] : List va_W)) := by
  refine CTi.of RX8 cX8_likedAs 5 rfl (by decide) rfl (fun z u hz => rfl) (Nat.le_of_ble_eq_true rfl) ?_
  intro p_ e_ s_ m_ ar_ be_ me_ c_ Q_ A_ ls_ F_ K_ W_ hl hret
  have hl : lv_has ls_ 5 [(0, .int (zi kd)), (1, .int (zi t)), (2, .int (zi y))] := hl
  obtain ⟨H_, hH_⟩ : ∃ x, x = s_.heap := ⟨_, rfl⟩
  obtain ⟨lo_, hlo_⟩ : ∃ x : List Loc, x = [] := ⟨_, rfl⟩
  have W_ : WD D A_ s_.heap (([] : List va_W)) H_ lo_ := by rw [hH_, hlo_]; exact W_
  rw [← hlo_]
  suffices hg_ : W p_ l_ e_ rX8_likedAs s_ m_ ar_ be_ me_ c_ H_ lo_ 0 0 Q_ (F0 m_ 0 ls_ []) by rw [hH_] at hg_; exact hg_
  clear hH_ hlo_
  refine lv_iload_n F_.1 F_.2.1 dX8_likedAs_0 rfl (lv_at hl 1 rfl) ?_
  refine z_iconst F_ dX8_likedAs_1 ?_
  refine z_iadd F_ dX8_likedAs_2 ?_
  refine lv_istore_n (lv' := [(3, .int (zi (t + 5))), (0, .int (zi kd)), (1, .int (zi t)), (2, .int (zi y))]) F_.1 F_.2.1 dX8_likedAs_3 rfl hl (by decide) rfl (fun ls_ hl => ?_)
  refine lv_iload_n F_.1 F_.2.1 dX8_likedAs_4 rfl (lv_at hl 2 rfl) ?_
  refine lv_iload_n F_.1 F_.2.1 dX8_likedAs_5 rfl (lv_at hl 3 rfl) ?_
  have J16 : ∀ (k16_0 : Int) (g16 : ((t ≤ y) ∧ (k16_0 = 0)) ∨ ((y < t) ∧ (k16_0 = t - y))) (ls_ : Array Slot) (H_ : Heap) (lo_ : List Loc), WD D A_ s_.heap (([] : List va_W)) H_ lo_ → lv_has ls_ 5 [(3, .int (zi (t + 5))), (0, .int (zi kd)), (1, .int (zi t)), (2, .int (zi y))] → W p_ l_ e_ rX8_likedAs s_ m_ ar_ be_ me_ c_ H_ lo_ 0 0 Q_ (F0 m_ 16 ls_ [.int (zi k16_0)]) := by
    intro k16_0 g16 ls_ H_ lo_ W_ hl
    refine lv_istore (lv' := [(4, .int (zi k16_0)), (3, .int (zi (t + 5))), (0, .int (zi kd)), (1, .int (zi t)), (2, .int (zi y))]) F_.1 F_.2.1 dX8_likedAs_16 hl (by decide) rfl (fun ls_ hl => ?_)
    refine lv_iload_n F_.1 F_.2.1 dX8_likedAs_18 rfl (lv_at hl 2 rfl) ?_
    rcases (show kd = 1 ∨ kd = 2 ∨ kd = 3 ∨ kd = 4 ∨ kd = 5 ∨ (kd < 1 ∨ 5 < kd) by omega) with c19 | c19 | c19 | c19 | c19 | c19
    · refine z_tabIn (tgt := 52) F_ 1 c19 ⟨by omega, by decide, by decide⟩ dX8_likedAs_19 rfl (by decide) ?_
      refine lv_iload_n F_.1 F_.2.1 dX8_likedAs_52 rfl (lv_at hl 1 rfl) ?_
      exact hret _ _ _ _ (t + 5) () dX8_likedAs_53 (by simp only [likedZ]; repeat (first | omega | split)) W_
    · refine z_tabIn (tgt := 54) F_ 2 c19 ⟨by omega, by decide, by decide⟩ dX8_likedAs_19 rfl (by decide) ?_
      refine lv_iload F_.1 F_.2.1 dX8_likedAs_54 (lv_at hl 0 rfl) ?_
      exact hret _ _ _ _ k16_0 () dX8_likedAs_56 (by simp only [likedZ]; repeat (first | omega | split)) W_
    · refine z_tabIn (tgt := 57) F_ 3 c19 ⟨by omega, by decide, by decide⟩ dX8_likedAs_19 rfl (by decide) ?_
      refine lv_iload_n F_.1 F_.2.1 dX8_likedAs_57 rfl (lv_at hl 4 rfl) ?_
      refine z_iconst F_ dX8_likedAs_58 ?_
      refine z_icmp_lt (tgt := 68) F_ (by omega) dX8_likedAs_59 (by decide) (fun c59 => ?_) (fun c59 => ?_)
      · refine lv_iload_n F_.1 F_.2.1 dX8_likedAs_68 rfl (lv_at hl 1 rfl) ?_
        exact hret _ _ _ _ (t + 5) () dX8_likedAs_69 (by simp only [likedZ]; repeat (first | omega | split)) W_
      · refine z_iconst F_ dX8_likedAs_62 ?_
        refine lv_iload_n F_.1 F_.2.1 dX8_likedAs_63 rfl (lv_at hl 1 rfl) ?_
        refine z_imul F_ dX8_likedAs_64 ?_
        refine z_goto (tgt := 69) F_ dX8_likedAs_65 (by decide) ?_
        exact hret _ _ _ _ (2 * (t + 5)) () dX8_likedAs_69 (by simp only [likedZ]; repeat (first | omega | split)) W_
    · refine z_tabIn (tgt := 70) F_ 4 c19 ⟨by omega, by decide, by decide⟩ dX8_likedAs_19 rfl (by decide) ?_
      refine lv_iload_n F_.1 F_.2.1 dX8_likedAs_70 rfl (lv_at hl 4 rfl) ?_
      refine z_iconst F_ dX8_likedAs_71 ?_
      refine z_icmp_ge (tgt := 79) F_ (by omega) dX8_likedAs_72 (by decide) (fun c72 => ?_) (fun c72 => ?_)
      · refine lv_iload_n F_.1 F_.2.1 dX8_likedAs_79 rfl (lv_at hl 3 rfl) ?_
        exact hret _ _ _ _ t () dX8_likedAs_80 (by simp only [likedZ]; repeat (first | omega | split)) W_
      · refine z_iconst F_ dX8_likedAs_75 ?_
        refine z_goto (tgt := 80) F_ dX8_likedAs_76 (by decide) ?_
        exact hret _ _ _ _ 0 () dX8_likedAs_80 (by simp only [likedZ]; repeat (first | omega | split)) W_
    · refine z_tabIn (tgt := 81) F_ 5 c19 ⟨by omega, by decide, by decide⟩ dX8_likedAs_19 rfl (by decide) ?_
      refine lv_iload_n F_.1 F_.2.1 dX8_likedAs_81 rfl (lv_at hl 4 rfl) ?_
      refine z_iconst F_ dX8_likedAs_82 ?_
      refine z_irem F_ (by omega) dX8_likedAs_83 ?_
      refine z_iconst F_ dX8_likedAs_84 ?_
      refine z_icmp_ne (tgt := 92) F_ (by omega) dX8_likedAs_85 (by decide) (fun c85 => ?_) (fun c85 => ?_)
      · refine lv_iload F_.1 F_.2.1 dX8_likedAs_92 (lv_at hl 0 rfl) ?_
        refine z_bipush F_ (by decide) dX8_likedAs_94 ?_
        refine z_iadd F_ dX8_likedAs_96 ?_
        exact hret _ _ _ _ (k16_0 + 9) () dX8_likedAs_97 (by simp only [likedZ]; repeat (first | omega | split)) W_
      · refine z_iconst F_ dX8_likedAs_88 ?_
        refine z_goto (tgt := 97) F_ dX8_likedAs_89 (by decide) ?_
        exact hret _ _ _ _ 0 () dX8_likedAs_97 (by simp only [likedZ]; repeat (first | omega | split)) W_
    · refine z_tabOut (tgt := 98) F_ ⟨by omega, c19⟩ dX8_likedAs_19 (by decide) ?_
      refine lv_iload_n F_.1 F_.2.1 dX8_likedAs_98 rfl (lv_at hl 3 rfl) ?_
      exact hret _ _ _ _ t () dX8_likedAs_99 (by simp only [likedZ]; repeat (first | omega | split)) W_
  refine z_icmp_le (tgt := 15) F_ (by omega) dX8_likedAs_6 (by decide) (fun c6 => ?_) (fun c6 => ?_)
  · refine z_iconst F_ dX8_likedAs_15 ?_
    exact J16 0 (by first | omega | grind) ls_ H_ lo_ W_ (lv_sub hl [0, 1, 2, 3] rfl)
  · refine lv_iload_n F_.1 F_.2.1 dX8_likedAs_9 rfl (lv_at hl 2 rfl) ?_
    refine lv_iload_n F_.1 F_.2.1 dX8_likedAs_10 rfl (lv_at hl 3 rfl) ?_
    refine z_isub F_ dX8_likedAs_11 ?_
    refine z_goto (tgt := 16) F_ dX8_likedAs_12 (by decide) ?_
    exact J16 (t - y) (by first | omega | grind) ls_ H_ lo_ W_ (lv_sub hl [0, 1, 2, 3] rfl)
abbrev rX8_aboard : Room := { frames := 0, cells := 0, slots := 0, locals := 0 }
set_option maxHeartbeats 1000000 in
set_option maxRecDepth 100000 in
theorem c_X8_aboard (l_ : Launch) (D : va_G) (cy : Nat → ClassId) (a : Nat) (n : Nat) (g : Int → Int) (h : Int) (bg : ∀ j : Int, 0 ≤ g j ∧ g j ≤ 99) (rh : -2147483648 ≤ h ∧ h < 2147483648) (hn : 36 ≤ n ∧ n ≤ 400) (hg0 : 0 ≤ g 0 ∧ g 0 ≤ 8) (hh : -1 ≤ h ∧ h ≤ 2) : CTi l_ D cy yX8_aboard wsX8_aboard rX8_aboard [.ref a, .int (zi h)] ([wA cy a n g]) (fun (z : Int) (u : Unit) => (z = cntG g (h + 1))) (fun (_ : Unit) => [wA cy a n g]) := by
  refine CTi.of RX8 cX8_aboard 4 rfl (by decide) rfl (fun z u hz => rfl) (Nat.le_of_ble_eq_true rfl) ?_
  intro p_ e_ s_ m_ ar_ be_ me_ c_ Q_ A_ ls_ F_ K_ W_ hl hret
  have hl : lv_has ls_ 4 [(0, .ref a), (1, .int (zi h))] := hl
  obtain ⟨H_, hH_⟩ : ∃ x, x = s_.heap := ⟨_, rfl⟩
  obtain ⟨lo_, hlo_⟩ : ∃ x : List Loc, x = [] := ⟨_, rfl⟩
  have W_ : WD D A_ s_.heap ([wA cy a n g]) H_ lo_ := by rw [hH_, hlo_]; exact W_
  rw [← hlo_]
  suffices hg_ : W p_ l_ e_ rX8_aboard s_ m_ ar_ be_ me_ c_ H_ lo_ 0 0 Q_ (F0 m_ 0 ls_ []) by rw [hH_] at hg_; exact hg_
  clear hH_ hlo_
  refine z_iconst F_ dX8_aboard_0 ?_
  refine lv_istore_n (lv' := [(2, .int (zi 0)), (0, .ref a), (1, .int (zi h))]) F_.1 F_.2.1 dX8_aboard_1 rfl hl (by decide) rfl (fun ls_ hl => ?_)
  refine z_iconst F_ dX8_aboard_2 ?_
  refine lv_istore_n (lv' := [(3, .int (zi 0)), (2, .int (zi 0)), (0, .ref a), (1, .int (zi h))]) F_.1 F_.2.1 dX8_aboard_3 rfl hl (by decide) rfl (fun ls_ hl => ?_)
  have L4 : ∀ (n_ : Nat) (x : Int) (k : Int) (hk : 0 ≤ k ∧ k ≤ g 0) (hx : x = cntZ (shZ g 6) (h + 1) k) (hb : 0 ≤ x ∧ x ≤ k) (hm_ : (g 0 - k : Int) < (n_ : Int)) (ls_ : Array Slot) (H_ : Heap) (lo_ : List Loc), WD D A_ s_.heap ([wA cy a n g]) H_ lo_ → lv_has ls_ 4 [(3, .int (zi k)), (2, .int (zi x)), (0, .ref a), (1, .int (zi h))] → W p_ l_ e_ rX8_aboard s_ m_ ar_ be_ me_ c_ H_ lo_ 0 0 Q_ (F0 m_ 4 ls_ []) := by
    intro n_
    induction n_ with
    | zero =>
      intro x k hk hx hb hm_ ls_ H_ lo_ _ _
      exact absurd hm_ (by omega)
    | succ n_ ih_ =>
      intro x k hk hx hb hm_ ls_ H_ lo_ W_ hl
      have ih4 := ih_
      refine lv_iload_n F_.1 F_.2.1 dX8_aboard_4 rfl (lv_at hl 0 rfl) ?_
      refine lv_aload_n F_.1 F_.2.1 dX8_aboard_5 rfl (lv_at hl 2 rfl) ?_
      refine z_iconst F_ dX8_aboard_6 ?_
      refine z_iald F_ K_ W_ 0 0 rfl rfl (by omega) (by omega) dX8_aboard_7 ?_
      have b_1 := bg 0
      refine z_icmp_ge (tgt := 37) F_ (by omega) dX8_aboard_8 (by decide) (fun c8 => ?_) (fun c8 => ?_)
      · refine lv_iload_n F_.1 F_.2.1 dX8_aboard_37 rfl (lv_at hl 1 rfl) ?_
        exact hret _ _ _ _ x () dX8_aboard_38 (by rw [hx, cntG]; congr 1; omega) W_
      · refine lv_iload_n F_.1 F_.2.1 dX8_aboard_11 rfl (lv_at hl 1 rfl) ?_
        refine lv_aload_n F_.1 F_.2.1 dX8_aboard_12 rfl (lv_at hl 2 rfl) ?_
        refine z_bipush F_ (by decide) dX8_aboard_13 ?_
        refine lv_iload_n F_.1 F_.2.1 dX8_aboard_15 rfl (lv_at hl 0 rfl) ?_
        refine z_iadd F_ dX8_aboard_16 ?_
        refine z_iald F_ K_ W_ 0 0 rfl rfl (by omega) (by omega) dX8_aboard_17 ?_
        have b_2 := bg (6 + k)
        refine lv_iload_n F_.1 F_.2.1 dX8_aboard_18 rfl (lv_at hl 3 rfl) ?_
        refine z_iconst F_ dX8_aboard_19 ?_
        refine z_iadd F_ dX8_aboard_20 ?_
        refine z_icmp_ne (tgt := 28) F_ (by omega) dX8_aboard_21 (by decide) (fun c21 => ?_) (fun c21 => ?_)
        · refine z_iconst F_ dX8_aboard_28 ?_
          refine z_iadd F_ dX8_aboard_29 ?_
          refine lv_istore_n (lv' := [(2, .int (zi (x + 0))), (3, .int (zi k)), (0, .ref a), (1, .int (zi h))]) F_.1 F_.2.1 dX8_aboard_30 rfl hl (by decide) rfl (fun ls_ hl => ?_)
          refine z_iinc (lv' := [(3, .int (zi (k + 1))), (2, .int (zi (x + 0))), (0, .ref a), (1, .int (zi h))]) F_ dX8_aboard_31 hl (k := 1) rfl (by decide) rfl (fun ls_ hl => ?_)
          refine z_goto (tgt := 4) F_ dX8_aboard_34 (by decide) ?_
          exact ih4 (x + 0) (k + 1) (by first | omega | assumption) (by rw [cntZ_s _ _ hk.1, hx]; first | rw [if_pos (show shZ g 6 k = h + 1 from c21)] | rw [if_neg (show ¬ shZ g 6 k = h + 1 from c21)]) (by first | omega | assumption) (by omega) ls_ H_ lo_ W_ (lv_sub hl [0, 1, 2, 3] rfl)
        · refine z_iconst F_ dX8_aboard_24 ?_
          refine z_goto (tgt := 29) F_ dX8_aboard_25 (by decide) ?_
          refine z_iadd F_ dX8_aboard_29 ?_
          refine lv_istore_n (lv' := [(2, .int (zi (x + 1))), (3, .int (zi k)), (0, .ref a), (1, .int (zi h))]) F_.1 F_.2.1 dX8_aboard_30 rfl hl (by decide) rfl (fun ls_ hl => ?_)
          refine z_iinc (lv' := [(3, .int (zi (k + 1))), (2, .int (zi (x + 1))), (0, .ref a), (1, .int (zi h))]) F_ dX8_aboard_31 hl (k := 1) rfl (by decide) rfl (fun ls_ hl => ?_)
          refine z_goto (tgt := 4) F_ dX8_aboard_34 (by decide) ?_
          exact ih4 (x + 1) (k + 1) (by first | omega | assumption) (by rw [cntZ_s _ _ hk.1, hx]; first | rw [if_pos (show shZ g 6 k = h + 1 from c21)] | rw [if_neg (show ¬ shZ g 6 k = h + 1 from c21)]) (by first | omega | assumption) (by omega) ls_ H_ lo_ W_ (lv_sub hl [0, 1, 2, 3] rfl)
  exact L4 ((g 0 - 0 : Int).toNat + 1) 0 0 (by first | omega | assumption) (by rfl) (by first | omega | assumption) (by have := Int.self_le_toNat (g 0 - 0 : Int); omega) ls_ H_ lo_ W_ (lv_sub hl [0, 1, 2, 3] rfl)
abbrev rX8_skillsIn : Room := { frames := 0, cells := 0, slots := 0, locals := 0 }
set_option maxHeartbeats 1000000 in
set_option maxRecDepth 100000 in
theorem c_X8_skillsIn (l_ : Launch) (D : va_G) (cy : Nat → ClassId) (a : Nat) (n : Nat) (g : Int → Int) (v : Int) (bg : ∀ j : Int, 0 ≤ g j ∧ g j ≤ 99) (rv : -2147483648 ≤ v ∧ v < 2147483648) (hn : 36 ≤ n ∧ n ≤ 400) (hg0 : 0 ≤ g 0 ∧ g 0 ≤ 8) : CTi l_ D cy yX8_skillsIn wsX8_skillsIn rX8_skillsIn [.ref a, .int (zi v)] ([wA cy a n g]) (fun (z : Int) (u : Unit) => (z = sumG g v)) (fun (_ : Unit) => [wA cy a n g]) := by
  refine CTi.of RX8 cX8_skillsIn 4 rfl (by decide) rfl (fun z u hz => rfl) (Nat.le_of_ble_eq_true rfl) ?_
  intro p_ e_ s_ m_ ar_ be_ me_ c_ Q_ A_ ls_ F_ K_ W_ hl hret
  have hl : lv_has ls_ 4 [(0, .ref a), (1, .int (zi v))] := hl
  obtain ⟨H_, hH_⟩ : ∃ x, x = s_.heap := ⟨_, rfl⟩
  obtain ⟨lo_, hlo_⟩ : ∃ x : List Loc, x = [] := ⟨_, rfl⟩
  have W_ : WD D A_ s_.heap ([wA cy a n g]) H_ lo_ := by rw [hH_, hlo_]; exact W_
  rw [← hlo_]
  suffices hg_ : W p_ l_ e_ rX8_skillsIn s_ m_ ar_ be_ me_ c_ H_ lo_ 0 0 Q_ (F0 m_ 0 ls_ []) by rw [hH_] at hg_; exact hg_
  clear hH_ hlo_
  refine z_iconst F_ dX8_skillsIn_0 ?_
  refine lv_istore_n (lv' := [(2, .int (zi 0)), (0, .ref a), (1, .int (zi v))]) F_.1 F_.2.1 dX8_skillsIn_1 rfl hl (by decide) rfl (fun ls_ hl => ?_)
  refine z_iconst F_ dX8_skillsIn_2 ?_
  refine lv_istore_n (lv' := [(3, .int (zi 0)), (2, .int (zi 0)), (0, .ref a), (1, .int (zi v))]) F_.1 F_.2.1 dX8_skillsIn_3 rfl hl (by decide) rfl (fun ls_ hl => ?_)
  have L4 : ∀ (n_ : Nat) (x : Int) (k : Int) (hk : 0 ≤ k ∧ k ≤ g 0) (hx : x = sumZ (shZ g 6) (shZ g 28) v k) (hb : 0 ≤ x ∧ x ≤ 99 * k) (hm_ : (g 0 - k : Int) < (n_ : Int)) (ls_ : Array Slot) (H_ : Heap) (lo_ : List Loc), WD D A_ s_.heap ([wA cy a n g]) H_ lo_ → lv_has ls_ 4 [(3, .int (zi k)), (2, .int (zi x)), (0, .ref a), (1, .int (zi v))] → W p_ l_ e_ rX8_skillsIn s_ m_ ar_ be_ me_ c_ H_ lo_ 0 0 Q_ (F0 m_ 4 ls_ []) := by
    intro n_
    induction n_ with
    | zero =>
      intro x k hk hx hb hm_ ls_ H_ lo_ _ _
      exact absurd hm_ (by omega)
    | succ n_ ih_ =>
      intro x k hk hx hb hm_ ls_ H_ lo_ W_ hl
      have ih4 := ih_
      refine lv_iload_n F_.1 F_.2.1 dX8_skillsIn_4 rfl (lv_at hl 0 rfl) ?_
      refine lv_aload_n F_.1 F_.2.1 dX8_skillsIn_5 rfl (lv_at hl 2 rfl) ?_
      refine z_iconst F_ dX8_skillsIn_6 ?_
      refine z_iald F_ K_ W_ 0 0 rfl rfl (by omega) (by omega) dX8_skillsIn_7 ?_
      have b_1 := bg 0
      refine z_icmp_ge (tgt := 40) F_ (by omega) dX8_skillsIn_8 (by decide) (fun c8 => ?_) (fun c8 => ?_)
      · refine lv_iload_n F_.1 F_.2.1 dX8_skillsIn_40 rfl (lv_at hl 1 rfl) ?_
        exact hret _ _ _ _ x () dX8_skillsIn_41 (by rw [hx, sumG]; congr 1; omega) W_
      · refine lv_iload_n F_.1 F_.2.1 dX8_skillsIn_11 rfl (lv_at hl 1 rfl) ?_
        refine lv_aload_n F_.1 F_.2.1 dX8_skillsIn_12 rfl (lv_at hl 2 rfl) ?_
        refine z_bipush F_ (by decide) dX8_skillsIn_13 ?_
        refine lv_iload_n F_.1 F_.2.1 dX8_skillsIn_15 rfl (lv_at hl 0 rfl) ?_
        refine z_iadd F_ dX8_skillsIn_16 ?_
        refine z_iald F_ K_ W_ 0 0 rfl rfl (by omega) (by omega) dX8_skillsIn_17 ?_
        have b_2 := bg (6 + k)
        refine lv_iload_n F_.1 F_.2.1 dX8_skillsIn_18 rfl (lv_at hl 3 rfl) ?_
        refine z_icmp_ne (tgt := 31) F_ (by omega) dX8_skillsIn_19 (by decide) (fun c19 => ?_) (fun c19 => ?_)
        · refine z_iconst F_ dX8_skillsIn_31 ?_
          refine z_iadd F_ dX8_skillsIn_32 ?_
          refine lv_istore_n (lv' := [(2, .int (zi (x + 0))), (3, .int (zi k)), (0, .ref a), (1, .int (zi v))]) F_.1 F_.2.1 dX8_skillsIn_33 rfl hl (by decide) rfl (fun ls_ hl => ?_)
          refine z_iinc (lv' := [(3, .int (zi (k + 1))), (2, .int (zi (x + 0))), (0, .ref a), (1, .int (zi v))]) F_ dX8_skillsIn_34 hl (k := 1) rfl (by decide) rfl (fun ls_ hl => ?_)
          refine z_goto (tgt := 4) F_ dX8_skillsIn_37 (by decide) ?_
          exact ih4 (x + 0) (k + 1) (by first | omega | assumption) (by rw [sumZ_s _ _ _ hk.1, hx]; first | (rw [if_pos (show shZ g 6 k = v from c19)]; rfl) | rw [if_neg (show ¬ shZ g 6 k = v from c19)]) (by first | omega | assumption) (by omega) ls_ H_ lo_ W_ (lv_sub hl [0, 1, 2, 3] rfl)
        · refine lv_aload_n F_.1 F_.2.1 dX8_skillsIn_22 rfl (lv_at hl 2 rfl) ?_
          refine z_bipush F_ (by decide) dX8_skillsIn_23 ?_
          refine lv_iload_n F_.1 F_.2.1 dX8_skillsIn_25 rfl (lv_at hl 0 rfl) ?_
          refine z_iadd F_ dX8_skillsIn_26 ?_
          refine z_iald F_ K_ W_ 0 0 rfl rfl (by omega) (by omega) dX8_skillsIn_27 ?_
          have b_3 := bg (28 + k)
          refine z_goto (tgt := 32) F_ dX8_skillsIn_28 (by decide) ?_
          refine z_iadd F_ dX8_skillsIn_32 ?_
          refine lv_istore_n (lv' := [(2, .int (zi (x + (g (28 + k))))), (3, .int (zi k)), (0, .ref a), (1, .int (zi v))]) F_.1 F_.2.1 dX8_skillsIn_33 rfl hl (by decide) rfl (fun ls_ hl => ?_)
          refine z_iinc (lv' := [(3, .int (zi (k + 1))), (2, .int (zi (x + (g (28 + k))))), (0, .ref a), (1, .int (zi v))]) F_ dX8_skillsIn_34 hl (k := 1) rfl (by decide) rfl (fun ls_ hl => ?_)
          refine z_goto (tgt := 4) F_ dX8_skillsIn_37 (by decide) ?_
          exact ih4 (x + (g (28 + k))) (k + 1) (by first | omega | assumption) (by rw [sumZ_s _ _ _ hk.1, hx]; first | (rw [if_pos (show shZ g 6 k = v from c19)]; rfl) | rw [if_neg (show ¬ shZ g 6 k = v from c19)]) (by first | omega | assumption) (by omega) ls_ H_ lo_ W_ (lv_sub hl [0, 1, 2, 3] rfl)
  exact L4 ((g 0 - 0 : Int).toNat + 1) 0 0 (by first | omega | assumption) (by rfl) (by first | omega | assumption) (by have := Int.self_le_toNat (g 0 - 0 : Int); omega) ls_ H_ lo_ W_ (lv_sub hl [0, 1, 2, 3] rfl)
abbrev rX8_canSail : Room := { frames := 1, cells := 0, slots := 0, locals := 23 }
set_option maxHeartbeats 1000000 in
set_option maxRecDepth 100000 in
theorem c_X8_canSail (l_ : Launch) (D : va_G) (cy : Nat → ClassId) (a : Nat) (n : Nat) (g : Int → Int) (h : Int) (d : Int) (bg : ∀ j : Int, 0 ≤ g j ∧ g j ≤ 99) (rh : -2147483648 ≤ h ∧ h < 2147483648) (rd : -2147483648 ≤ d ∧ d < 2147483648) (hn : 36 ≤ n ∧ n ≤ 400) (hg0 : 0 ≤ g 0 ∧ g 0 ≤ 8) (hh : 0 ≤ h ∧ h ≤ 2) (hd : 1 ≤ d ∧ d ≤ 30) : CTi l_ D cy yX8_canSail wsX8_canSail rX8_canSail [.ref a, .int (zi h), .int (zi d)] ([wA cy a n g]) (fun (z : Int) (u : Unit) => ((z = 1 ∧ canG g h d) ∨ (z = 0 ∧ ¬ canG g h d))) (fun (_ : Unit) => [wA cy a n g]) := by
  refine CTi.of RX8 cX8_canSail 4 rfl (by decide) rfl (fun z u hz => z_bl hz) (Nat.le_of_ble_eq_true rfl) ?_
  intro p_ e_ s_ m_ ar_ be_ me_ c_ Q_ A_ ls_ F_ K_ W_ hl hret
  have hl : lv_has ls_ 4 [(0, .ref a), (1, .int (zi h)), (2, .int (zi d))] := hl
  obtain ⟨H_, hH_⟩ : ∃ x, x = s_.heap := ⟨_, rfl⟩
  obtain ⟨lo_, hlo_⟩ : ∃ x : List Loc, x = [] := ⟨_, rfl⟩
  have W_ : WD D A_ s_.heap ([wA cy a n g]) H_ lo_ := by rw [hH_, hlo_]; exact W_
  rw [← hlo_]
  suffices hg_ : W p_ l_ e_ rX8_canSail s_ m_ ar_ be_ me_ c_ H_ lo_ 0 0 Q_ (F0 m_ 0 ls_ []) by rw [hH_] at hg_; exact hg_
  clear hH_ hlo_
  refine lv_aload_n F_.1 F_.2.1 dX8_canSail_0 rfl (lv_at hl 0 rfl) ?_
  refine lv_iload_n F_.1 F_.2.1 dX8_canSail_1 rfl (lv_at hl 1 rfl) ?_
  refine z_callSip F_ K_ W_ [.ref a, .int (zi h)] (c_X8_aboard l_ D cy a n g h bg (by first | omega | assumption) (by first | omega | assumption) (by first | omega | assumption) (by first | omega | assumption)) 2 rfl gX8_canSail_X8_aboard rfl (by decide +kernel) ⟨⟨Nat.le_of_ble_eq_true rfl, Nat.le_of_ble_eq_true rfl⟩, rfl, rfl, Nat.zero_le _, Nat.zero_le _⟩ hl.1 rfl (Nat.le_of_ble_eq_true rfl) [0] ([] : List Nat) ([] : List va_W) 1 (by decide +kernel) rfl rfl rfl dX8_canSail_2 (fun z_1 _ H_ lo_ hw_ W_ => ?_)
  have hw_ : (z_1 = cntG g (h + 1)) := hw_
  have f2_v := hw_
  have f2_v := f2_v.symm
  subst f2_v
  have hcb := cntZ_b (shZ g 6) (h + 1) (m := g 0) (by omega)
  have hcb : 0 ≤ cntG g (h + 1) ∧ cntG g (h + 1) ≤ g 0 := hcb
  refine lv_istore_n (lv' := [(3, .int (zi (cntG g (h + 1)))), (0, .ref a), (1, .int (zi h)), (2, .int (zi d))]) F_.1 F_.2.1 dX8_canSail_5 rfl hl (by decide) rfl (fun ls_ hl => ?_)
  refine lv_iload_n F_.1 F_.2.1 dX8_canSail_6 rfl (lv_at hl 0 rfl) ?_
  refine z_if_le (tgt := 35) F_ (by omega) dX8_canSail_7 (by decide) (fun c7 => ?_) (fun c7 => ?_)
  · refine z_iconst F_ dX8_canSail_35 ?_
    exact hret _ _ _ _ 0 () dX8_canSail_36 (by first | exact Or.inr ⟨rfl, fun q => by have h1 := q.1; have h2 := q.2; omega⟩ | exact Or.inl ⟨rfl, by omega, by omega⟩) W_
  · refine lv_aload_n F_.1 F_.2.1 dX8_canSail_10 rfl (lv_at hl 1 rfl) ?_
    refine lv_iload_n F_.1 F_.2.1 dX8_canSail_11 rfl (lv_at hl 2 rfl) ?_
    refine z_iconst F_ dX8_canSail_12 ?_
    refine z_iadd F_ dX8_canSail_13 ?_
    refine z_callSip F_ K_ W_ [.ref a, .int (zi (h + 1))] (c_X8_skillsIn l_ D cy a n g (h + 1) bg (by first | omega | assumption) (by first | omega | assumption) (by first | omega | assumption)) 2 rfl gX8_canSail_X8_skillsIn rfl (by decide +kernel) ⟨⟨Nat.le_of_ble_eq_true rfl, Nat.le_of_ble_eq_true rfl⟩, rfl, rfl, Nat.zero_le _, Nat.zero_le _⟩ hl.1 rfl (Nat.le_of_ble_eq_true rfl) [0] ([] : List Nat) ([] : List va_W) 1 (by decide +kernel) rfl rfl rfl dX8_canSail_14 (fun z_2 _ H_ lo_ hw_ W_ => ?_)
    have hw_ : (z_2 = sumG g (h + 1)) := hw_
    have f14_v := hw_
    have f14_v := f14_v.symm
    subst f14_v
    have hsb := sumZ_b (shZ g 6) (shZ g 28) (h + 1) (m := g 0) (by omega) (b := 99) (fun j => bg (28 + j))
    have hsb : 0 ≤ sumG g (h + 1) ∧ sumG g (h + 1) ≤ 99 * g 0 := hsb
    refine lv_aload_n F_.1 F_.2.1 dX8_canSail_17 rfl (lv_at hl 1 rfl) ?_
    refine z_bipush F_ (by decide) dX8_canSail_18 ?_
    refine lv_iload_n F_.1 F_.2.1 dX8_canSail_20 rfl (lv_at hl 2 rfl) ?_
    refine z_iadd F_ dX8_canSail_21 ?_
    refine z_iald F_ K_ W_ 0 0 rfl rfl (by omega) (by omega) dX8_canSail_22 ?_
    have b_3 := bg (17 + h)
    refine lv_iload_n F_.1 F_.2.1 dX8_canSail_23 rfl (lv_at hl 3 rfl) ?_
    refine lv_iload_n F_.1 F_.2.1 dX8_canSail_24 rfl (lv_at hl 0 rfl) ?_
    refine z_callSip F_ K_ W_ [.int (zi (g (17 + h))), .int (zi d), .int (zi (cntG g (h + 1)))] (c_X8_needsAs l_ D cy (g (17 + h)) d (cntG g (h + 1)) (by first | omega | assumption) (by first | omega | assumption) (by first | omega | assumption) (by first | omega | assumption) (by first | omega | assumption)) 3 rfl gX8_canSail_X8_needsAs rfl (by decide +kernel) ⟨⟨Nat.le_of_ble_eq_true rfl, Nat.le_of_ble_eq_true rfl⟩, rfl, rfl, Nat.zero_le _, Nat.zero_le _⟩ hl.1 rfl (Nat.le_of_ble_eq_true rfl) ([] : List Nat) [0] [wA cy a n g] 1 (by decide +kernel) rfl rfl rfl dX8_canSail_25 (fun z_4 _ H_ lo_ hw_ W_ => ?_)
    have hw_ : (z_4 = needZ (g (17 + h)) d (cntG g (h + 1))) := hw_
    have f25_v := hw_
    have f25_v := f25_v.symm
    subst f25_v
    have hnb := needZ_b (g (17 + h)) hd (n := cntG g (h + 1)) (by omega)
    refine z_icmp_lt (tgt := 35) F_ (by omega) dX8_canSail_28 (by decide) (fun c28 => ?_) (fun c28 => ?_)
    · refine z_iconst F_ dX8_canSail_35 ?_
      exact hret _ _ _ _ 0 () dX8_canSail_36 (by first | exact Or.inr ⟨rfl, fun q => by have h1 := q.1; have h2 := q.2; omega⟩ | exact Or.inl ⟨rfl, by omega, by omega⟩) W_
    · refine z_iconst F_ dX8_canSail_31 ?_
      refine z_goto (tgt := 36) F_ dX8_canSail_32 (by decide) ?_
      exact hret _ _ _ _ 1 () dX8_canSail_36 (by first | exact Or.inr ⟨rfl, fun q => by have h1 := q.1; have h2 := q.2; omega⟩ | exact Or.inl ⟨rfl, by omega, by omega⟩) W_
abbrev rX8_likedOf : Room := { frames := 1, cells := 0, slots := 0, locals := 24 }
set_option maxHeartbeats 1000000 in
set_option maxRecDepth 100000 in
theorem c_X8_likedOf (l_ : Launch) (D : va_G) (cy : Nat → ClassId) (a : Nat) (n : Nat) (g : Int → Int) (i : Int) (h : Int) (bg : ∀ j : Int, 0 ≤ g j ∧ g j ≤ 99) (ri : -2147483648 ≤ i ∧ i < 2147483648) (rh : -2147483648 ≤ h ∧ h < 2147483648) (hn : 36 ≤ n ∧ n ≤ 400) (hi : 0 ≤ i ∧ i < 8) (hh : 0 ≤ h ∧ h ≤ 2) : CTi l_ D cy yX8_likedOf wsX8_likedOf rX8_likedOf [.ref a, .int (zi i), .int (zi h)] ([wA cy a n g]) (fun (z : Int) (u : Unit) => (z = likedZ (g (20 + i)) (g (28 + i)) (g (14 + h)))) (fun (_ : Unit) => [wA cy a n g]) := by
  refine CTi.of RX8 cX8_likedOf 3 rfl (by decide) rfl (fun z u hz => rfl) (Nat.le_of_ble_eq_true rfl) ?_
  intro p_ e_ s_ m_ ar_ be_ me_ c_ Q_ A_ ls_ F_ K_ W_ hl hret
  have hl : lv_has ls_ 3 [(0, .ref a), (1, .int (zi i)), (2, .int (zi h))] := hl
  obtain ⟨H_, hH_⟩ : ∃ x, x = s_.heap := ⟨_, rfl⟩
  obtain ⟨lo_, hlo_⟩ : ∃ x : List Loc, x = [] := ⟨_, rfl⟩
  have W_ : WD D A_ s_.heap ([wA cy a n g]) H_ lo_ := by rw [hH_, hlo_]; exact W_
  rw [← hlo_]
  suffices hg_ : W p_ l_ e_ rX8_likedOf s_ m_ ar_ be_ me_ c_ H_ lo_ 0 0 Q_ (F0 m_ 0 ls_ []) by rw [hH_] at hg_; exact hg_
  clear hH_ hlo_
  refine lv_aload_n F_.1 F_.2.1 dX8_likedOf_0 rfl (lv_at hl 0 rfl) ?_
  refine z_bipush F_ (by decide) dX8_likedOf_1 ?_
  refine lv_iload_n F_.1 F_.2.1 dX8_likedOf_3 rfl (lv_at hl 1 rfl) ?_
  refine z_iadd F_ dX8_likedOf_4 ?_
  refine z_iald F_ K_ W_ 0 0 rfl rfl (by omega) (by omega) dX8_likedOf_5 ?_
  have b_1 := bg (20 + i)
  refine lv_aload_n F_.1 F_.2.1 dX8_likedOf_6 rfl (lv_at hl 0 rfl) ?_
  refine z_bipush F_ (by decide) dX8_likedOf_7 ?_
  refine lv_iload_n F_.1 F_.2.1 dX8_likedOf_9 rfl (lv_at hl 1 rfl) ?_
  refine z_iadd F_ dX8_likedOf_10 ?_
  refine z_iald F_ K_ W_ 0 0 rfl rfl (by omega) (by omega) dX8_likedOf_11 ?_
  have b_2 := bg (28 + i)
  refine lv_aload_n F_.1 F_.2.1 dX8_likedOf_12 rfl (lv_at hl 0 rfl) ?_
  refine z_bipush F_ (by decide) dX8_likedOf_13 ?_
  refine lv_iload_n F_.1 F_.2.1 dX8_likedOf_15 rfl (lv_at hl 2 rfl) ?_
  refine z_iadd F_ dX8_likedOf_16 ?_
  refine z_iald F_ K_ W_ 0 0 rfl rfl (by omega) (by omega) dX8_likedOf_17 ?_
  have b_3 := bg (14 + h)
  refine z_callSip F_ K_ W_ [.int (zi (g (20 + i))), .int (zi (g (28 + i))), .int (zi (g (14 + h)))] (c_X8_likedAs l_ D cy (g (20 + i)) (g (28 + i)) (g (14 + h)) (by first | omega | assumption) (by first | omega | assumption) (by first | omega | assumption) (by first | omega | assumption) (by first | omega | assumption)) 3 rfl gX8_likedOf_X8_likedAs rfl (by decide +kernel) ⟨⟨Nat.le_of_ble_eq_true rfl, Nat.le_of_ble_eq_true rfl⟩, rfl, rfl, Nat.zero_le _, Nat.zero_le _⟩ hl.1 rfl (Nat.le_of_ble_eq_true rfl) ([] : List Nat) [0] [wA cy a n g] 1 (by decide +kernel) rfl rfl rfl dX8_likedOf_18 (fun z_4 _ H_ lo_ hw_ W_ => ?_)
  have hw_ : (z_4 = likedZ (g (20 + i)) (g (28 + i)) (g (14 + h))) := hw_
  have f18_v := hw_
  exact hret _ _ _ _ z_4 () dX8_likedOf_21 (by first | omega | assumption) W_
abbrev rX8_leastOf : Room := { frames := 2, cells := 0, slots := 0, locals := 46 }
set_option maxHeartbeats 1000000 in
set_option maxRecDepth 100000 in
theorem c_X8_leastOf (l_ : Launch) (D : va_G) (cy : Nat → ClassId) (a : Nat) (n : Nat) (g : Int → Int) (h : Int) (bg : ∀ j : Int, 0 ≤ g j ∧ g j ≤ 99) (rh : -2147483648 ≤ h ∧ h < 2147483648) (hn : 36 ≤ n ∧ n ≤ 400) (hg0 : 0 ≤ g 0 ∧ g 0 ≤ 8) (hh : 0 ≤ h ∧ h ≤ 2) : CTi l_ D cy yX8_leastOf wsX8_leastOf rX8_leastOf [.ref a, .int (zi h)] ([wA cy a n g]) (fun (z : Int) (u : Unit) => (z = lstG g h)) (fun (_ : Unit) => [wA cy a n g]) := by
  refine CTi.of RX8 cX8_leastOf 4 rfl (by decide) rfl (fun z u hz => rfl) (Nat.le_of_ble_eq_true rfl) ?_
  intro p_ e_ s_ m_ ar_ be_ me_ c_ Q_ A_ ls_ F_ K_ W_ hl hret
  have hl : lv_has ls_ 4 [(0, .ref a), (1, .int (zi h))] := hl
  obtain ⟨H_, hH_⟩ : ∃ x, x = s_.heap := ⟨_, rfl⟩
  obtain ⟨lo_, hlo_⟩ : ∃ x : List Loc, x = [] := ⟨_, rfl⟩
  have W_ : WD D A_ s_.heap ([wA cy a n g]) H_ lo_ := by rw [hH_, hlo_]; exact W_
  rw [← hlo_]
  suffices hg_ : W p_ l_ e_ rX8_leastOf s_ m_ ar_ be_ me_ c_ H_ lo_ 0 0 Q_ (F0 m_ 0 ls_ []) by rw [hH_] at hg_; exact hg_
  clear hH_ hlo_
  refine z_iconst F_ dX8_leastOf_0 ?_
  refine lv_istore_n (lv' := [(2, .int (zi (-1))), (0, .ref a), (1, .int (zi h))]) F_.1 F_.2.1 dX8_leastOf_1 rfl hl (by decide) rfl (fun ls_ hl => ?_)
  refine z_iconst F_ dX8_leastOf_2 ?_
  refine lv_istore_n (lv' := [(3, .int (zi 0)), (2, .int (zi (-1))), (0, .ref a), (1, .int (zi h))]) F_.1 F_.2.1 dX8_leastOf_3 rfl hl (by decide) rfl (fun ls_ hl => ?_)
  have L4 : ∀ (n_ : Nat) (x : Int) (k : Int) (hk : 0 ≤ k ∧ k ≤ g 0) (hx : x = lstZ (shZ g 6) (lkZ (shZ g 20) (shZ g 28) (g (14 + h))) (h + 1) k) (hb : x = -1 ∨ (0 ≤ x ∧ x < k)) (hm_ : (g 0 - k : Int) < (n_ : Int)) (ls_ : Array Slot) (H_ : Heap) (lo_ : List Loc), WD D A_ s_.heap ([wA cy a n g]) H_ lo_ → lv_has ls_ 4 [(3, .int (zi k)), (2, .int (zi x)), (0, .ref a), (1, .int (zi h))] → W p_ l_ e_ rX8_leastOf s_ m_ ar_ be_ me_ c_ H_ lo_ 0 0 Q_ (F0 m_ 4 ls_ []) := by
    intro n_
    induction n_ with
    | zero =>
      intro x k hk hx hb hm_ ls_ H_ lo_ _ _
      exact absurd hm_ (by omega)
    | succ n_ ih_ =>
      intro x k hk hx hb hm_ ls_ H_ lo_ W_ hl
      have ih4 := ih_
      refine lv_iload_n F_.1 F_.2.1 dX8_leastOf_4 rfl (lv_at hl 0 rfl) ?_
      refine lv_aload_n F_.1 F_.2.1 dX8_leastOf_5 rfl (lv_at hl 2 rfl) ?_
      refine z_iconst F_ dX8_leastOf_6 ?_
      refine z_iald F_ K_ W_ 0 0 rfl rfl (by omega) (by omega) dX8_leastOf_7 ?_
      have b_1 := bg 0
      refine z_icmp_ge (tgt := 51) F_ (by omega) dX8_leastOf_8 (by decide) (fun c8 => ?_) (fun c8 => ?_)
      · refine lv_iload_n F_.1 F_.2.1 dX8_leastOf_51 rfl (lv_at hl 1 rfl) ?_
        exact hret _ _ _ _ x () dX8_leastOf_52 (by rw [hx, lstG]; congr 1; omega) W_
      · refine lv_aload_n F_.1 F_.2.1 dX8_leastOf_11 rfl (lv_at hl 2 rfl) ?_
        refine z_bipush F_ (by decide) dX8_leastOf_12 ?_
        refine lv_iload_n F_.1 F_.2.1 dX8_leastOf_14 rfl (lv_at hl 0 rfl) ?_
        refine z_iadd F_ dX8_leastOf_15 ?_
        refine z_iald F_ K_ W_ 0 0 rfl rfl (by omega) (by omega) dX8_leastOf_16 ?_
        have b_2 := bg (6 + k)
        refine lv_iload_n F_.1 F_.2.1 dX8_leastOf_17 rfl (lv_at hl 3 rfl) ?_
        refine z_iconst F_ dX8_leastOf_18 ?_
        refine z_iadd F_ dX8_leastOf_19 ?_
        refine z_icmp_ne (tgt := 45) F_ (by omega) dX8_leastOf_20 (by decide) (fun c20 => ?_) (fun c20 => ?_)
        · refine z_iinc (lv' := [(3, .int (zi (k + 1))), (2, .int (zi x)), (0, .ref a), (1, .int (zi h))]) F_ dX8_leastOf_45 hl (k := 0) rfl (by decide) rfl (fun ls_ hl => ?_)
          refine z_goto (tgt := 4) F_ dX8_leastOf_48 (by decide) ?_
          exact ih4 x (k + 1) (by first | omega | assumption) (by rw [lstZ_s _ _ _ hk.1, ← hx]; first | (rw [if_neg (fun q => c20 q.1)]; done) | (rw [if_pos ⟨c20, Or.inl c25⟩]; done) | (have q1 : z_A = lkZ (shZ g 20) (shZ g 28) (g (14 + h)) k := f31_v; have q2 : z_B = lkZ (shZ g 20) (shZ g 28) (g (14 + h)) x := f37_v; rw [← q1, ← q2]; first | (rw [if_pos ⟨c20, Or.inr (by omega)⟩]; done) | (rw [if_neg (fun q => q.2.elim (fun w => c25 w) (fun w => absurd w (by omega)))]; done))) (by first | omega | assumption) (by omega) ls_ H_ lo_ W_ (lv_sub hl [0, 1, 2, 3] rfl)
        · refine lv_iload_n F_.1 F_.2.1 dX8_leastOf_23 rfl (lv_at hl 1 rfl) ?_
          refine z_iconst F_ dX8_leastOf_24 ?_
          refine z_icmp_eq (tgt := 43) F_ (by omega) dX8_leastOf_25 (by decide) (fun c25 => ?_) (fun c25 => ?_)
          · refine lv_iload_n F_.1 F_.2.1 dX8_leastOf_43 rfl (lv_at hl 0 rfl) ?_
            refine lv_istore_n (lv' := [(2, .int (zi k)), (3, .int (zi k)), (0, .ref a), (1, .int (zi h))]) F_.1 F_.2.1 dX8_leastOf_44 rfl hl (by decide) rfl (fun ls_ hl => ?_)
            refine z_iinc (lv' := [(3, .int (zi (k + 1))), (2, .int (zi k)), (0, .ref a), (1, .int (zi h))]) F_ dX8_leastOf_45 hl (k := 1) rfl (by decide) rfl (fun ls_ hl => ?_)
            refine z_goto (tgt := 4) F_ dX8_leastOf_48 (by decide) ?_
            exact ih4 k (k + 1) (by first | omega | assumption) (by rw [lstZ_s _ _ _ hk.1, ← hx]; first | (rw [if_neg (fun q => c20 q.1)]; done) | (rw [if_pos ⟨c20, Or.inl c25⟩]; done) | (have q1 : z_A = lkZ (shZ g 20) (shZ g 28) (g (14 + h)) k := f31_v; have q2 : z_B = lkZ (shZ g 20) (shZ g 28) (g (14 + h)) x := f37_v; rw [← q1, ← q2]; first | (rw [if_pos ⟨c20, Or.inr (by omega)⟩]; done) | (rw [if_neg (fun q => q.2.elim (fun w => c25 w) (fun w => absurd w (by omega)))]; done))) (by first | omega | assumption) (by omega) ls_ H_ lo_ W_ (lv_sub hl [0, 1, 2, 3] rfl)
          · refine lv_aload_n F_.1 F_.2.1 dX8_leastOf_28 rfl (lv_at hl 2 rfl) ?_
            refine lv_iload_n F_.1 F_.2.1 dX8_leastOf_29 rfl (lv_at hl 0 rfl) ?_
            refine lv_iload_n F_.1 F_.2.1 dX8_leastOf_30 rfl (lv_at hl 3 rfl) ?_
            refine z_callSip F_ K_ W_ [.ref a, .int (zi k), .int (zi h)] (c_X8_likedOf l_ D cy a n g k h bg (by first | omega | assumption) (by first | omega | assumption) (by first | omega | assumption) (by first | omega | assumption) (by first | omega | assumption)) 3 rfl gX8_leastOf_X8_likedOf rfl (by decide +kernel) ⟨⟨Nat.le_of_ble_eq_true rfl, Nat.le_of_ble_eq_true rfl⟩, rfl, rfl, Nat.zero_le _, Nat.zero_le _⟩ hl.1 rfl (Nat.le_of_ble_eq_true rfl) [0] ([] : List Nat) ([] : List va_W) 1 (by decide +kernel) rfl rfl rfl dX8_leastOf_31 (fun z_3 _ H_ lo_ hw_ W_ => ?_)
            have hw_ : (z_3 = likedZ (g (20 + k)) (g (28 + k)) (g (14 + h))) := hw_
            have f31_v := hw_
            have hb31 := likedZ_b2 (g (20 + k)) (bg (28 + k)) (bg (14 + h))
            rw [← f31_v] at hb31
            obtain ⟨z_A, hzA⟩ : ∃ x_ : Int, x_ = z_3 := ⟨_, rfl⟩
            rw [← hzA] at f31_v
            refine lv_aload_n F_.1 F_.2.1 dX8_leastOf_34 rfl (lv_at hl 2 rfl) ?_
            refine lv_iload_n F_.1 F_.2.1 dX8_leastOf_35 rfl (lv_at hl 1 rfl) ?_
            refine lv_iload_n F_.1 F_.2.1 dX8_leastOf_36 rfl (lv_at hl 3 rfl) ?_
            refine z_callSip F_ K_ W_ [.ref a, .int (zi x), .int (zi h)] (c_X8_likedOf l_ D cy a n g x h bg (by first | omega | assumption) (by first | omega | assumption) (by first | omega | assumption) (by first | omega | assumption) (by first | omega | assumption)) 3 rfl gX8_leastOf_X8_likedOf rfl (by decide +kernel) ⟨⟨Nat.le_of_ble_eq_true rfl, Nat.le_of_ble_eq_true rfl⟩, rfl, rfl, Nat.zero_le _, Nat.zero_le _⟩ hl.1 rfl (Nat.le_of_ble_eq_true rfl) [0] ([] : List Nat) ([] : List va_W) 1 (by decide +kernel) rfl rfl rfl dX8_leastOf_37 (fun z_4 _ H_ lo_ hw_ W_ => ?_)
            have hw_ : (z_4 = likedZ (g (20 + x)) (g (28 + x)) (g (14 + h))) := hw_
            have f37_v := hw_
            have hb37 := likedZ_b2 (g (20 + x)) (bg (28 + x)) (bg (14 + h))
            rw [← f37_v] at hb37
            obtain ⟨z_B, hzB⟩ : ∃ x_ : Int, x_ = z_4 := ⟨_, rfl⟩
            rw [← hzB] at f37_v
            refine z_icmp_ge (tgt := 45) F_ (by omega) dX8_leastOf_40 (by decide) (fun c40 => ?_) (fun c40 => ?_)
            · refine z_iinc (lv' := [(3, .int (zi (k + 1))), (2, .int (zi x)), (0, .ref a), (1, .int (zi h))]) F_ dX8_leastOf_45 hl (k := 0) rfl (by decide) rfl (fun ls_ hl => ?_)
              refine z_goto (tgt := 4) F_ dX8_leastOf_48 (by decide) ?_
              exact ih4 x (k + 1) (by first | omega | assumption) (by rw [lstZ_s _ _ _ hk.1, ← hx]; first | (rw [if_neg (fun q => c20 q.1)]; done) | (rw [if_pos ⟨c20, Or.inl c25⟩]; done) | (have q1 : z_A = lkZ (shZ g 20) (shZ g 28) (g (14 + h)) k := f31_v; have q2 : z_B = lkZ (shZ g 20) (shZ g 28) (g (14 + h)) x := f37_v; rw [← q1, ← q2]; first | (rw [if_pos ⟨c20, Or.inr (by omega)⟩]; done) | (rw [if_neg (fun q => q.2.elim (fun w => c25 w) (fun w => absurd w (by omega)))]; done))) (by first | omega | assumption) (by omega) ls_ H_ lo_ W_ (lv_sub hl [0, 1, 2, 3] rfl)
            · refine lv_iload_n F_.1 F_.2.1 dX8_leastOf_43 rfl (lv_at hl 0 rfl) ?_
              refine lv_istore_n (lv' := [(2, .int (zi k)), (3, .int (zi k)), (0, .ref a), (1, .int (zi h))]) F_.1 F_.2.1 dX8_leastOf_44 rfl hl (by decide) rfl (fun ls_ hl => ?_)
              refine z_iinc (lv' := [(3, .int (zi (k + 1))), (2, .int (zi k)), (0, .ref a), (1, .int (zi h))]) F_ dX8_leastOf_45 hl (k := 1) rfl (by decide) rfl (fun ls_ hl => ?_)
              refine z_goto (tgt := 4) F_ dX8_leastOf_48 (by decide) ?_
              exact ih4 k (k + 1) (by first | omega | assumption) (by rw [lstZ_s _ _ _ hk.1, ← hx]; first | (rw [if_neg (fun q => c20 q.1)]; done) | (rw [if_pos ⟨c20, Or.inl c25⟩]; done) | (have q1 : z_A = lkZ (shZ g 20) (shZ g 28) (g (14 + h)) k := f31_v; have q2 : z_B = lkZ (shZ g 20) (shZ g 28) (g (14 + h)) x := f37_v; rw [← q1, ← q2]; first | (rw [if_pos ⟨c20, Or.inr (by omega)⟩]; done) | (rw [if_neg (fun q => q.2.elim (fun w => c25 w) (fun w => absurd w (by omega)))]; done))) (by first | omega | assumption) (by omega) ls_ H_ lo_ W_ (lv_sub hl [0, 1, 2, 3] rfl)
  exact L4 ((g 0 - 0 : Int).toNat + 1) (-1) 0 (by first | omega | assumption) (by rfl) (by first | omega | assumption) (by have := Int.self_le_toNat (g 0 - 0 : Int); omega) ls_ H_ lo_ W_ (lv_sub hl [0, 1, 2, 3] rfl)
abbrev rX8_goCall : Room := { frames := 3, cells := 0, slots := 0, locals := 69 }
set_option maxHeartbeats 1000000 in
set_option maxRecDepth 100000 in
theorem c_X8_goCall (l_ : Launch) (D : va_G) (cy : Nat → ClassId) (a : Nat) (n : Nat) (g : Int → Int) (h : Int) (bg : ∀ j : Int, 0 ≤ g j ∧ g j ≤ 99) (rh : -2147483648 ≤ h ∧ h < 2147483648) (hn : 36 ≤ n ∧ n ≤ 400) (hg0 : 0 ≤ g 0 ∧ g 0 ≤ 8) (hh : 0 ≤ h ∧ h ≤ 2) : CTi l_ D cy yX8_goCall wsX8_goCall rX8_goCall [.ref a, .int (zi h)] ([wA cy a n g]) (fun (z : Int) (u : (Int → Int)) => (z = lstG g h) ∧ (u = goG g h (lstG g h)) ∧ ((z = -1 ∨ (0 ≤ z ∧ z < g 0)) ∧ u 0 = g 0 ∧ u 1 = g 1) ∧ (∀ j : Int, 0 ≤ u j ∧ u j ≤ 99)) (fun (u : (Int → Int)) => [wA cy a n u]) := by
  refine CTi.of RX8 cX8_goCall 3 rfl (by decide) rfl (fun z u hz => rfl) (Nat.le_of_ble_eq_true rfl) ?_
  intro p_ e_ s_ m_ ar_ be_ me_ c_ Q_ A_ ls_ F_ K_ W_ hl hret
  have hl : lv_has ls_ 3 [(0, .ref a), (1, .int (zi h))] := hl
  obtain ⟨H_, hH_⟩ : ∃ x, x = s_.heap := ⟨_, rfl⟩
  obtain ⟨lo_, hlo_⟩ : ∃ x : List Loc, x = [] := ⟨_, rfl⟩
  have W_ : WD D A_ s_.heap ([wA cy a n g]) H_ lo_ := by rw [hH_, hlo_]; exact W_
  rw [← hlo_]
  suffices hg_ : W p_ l_ e_ rX8_goCall s_ m_ ar_ be_ me_ c_ H_ lo_ 0 0 Q_ (F0 m_ 0 ls_ []) by rw [hH_] at hg_; exact hg_
  clear hH_ hlo_
  refine lv_aload_n F_.1 F_.2.1 dX8_goCall_0 rfl (lv_at hl 0 rfl) ?_
  refine lv_iload_n F_.1 F_.2.1 dX8_goCall_1 rfl (lv_at hl 1 rfl) ?_
  refine z_callSip F_ K_ W_ [.ref a, .int (zi h)] (c_X8_leastOf l_ D cy a n g h bg (by first | omega | assumption) (by first | omega | assumption) (by first | omega | assumption) (by first | omega | assumption)) 2 rfl gX8_goCall_X8_leastOf rfl (by decide +kernel) ⟨⟨Nat.le_of_ble_eq_true rfl, Nat.le_of_ble_eq_true rfl⟩, rfl, rfl, Nat.zero_le _, Nat.zero_le _⟩ hl.1 rfl (Nat.le_of_ble_eq_true rfl) [0] ([] : List Nat) ([] : List va_W) 1 (by decide +kernel) rfl rfl rfl dX8_goCall_2 (fun z_1 _ H_ lo_ hw_ W_ => ?_)
  have hw_ : (z_1 = lstG g h) := hw_
  have f2_v := hw_
  have hlb := lstZ_b (shZ g 6) (lkZ (shZ g 20) (shZ g 28) (g (14 + h))) (h + 1) (m := g 0) (by omega)
  have hlb : z_1 = -1 ∨ (0 ≤ z_1 ∧ z_1 < g 0 ∧ shZ g 6 z_1 = h + 1) := by rw [f2_v]; exact hlb
  refine lv_istore_n (lv' := [(2, .int (zi z_1)), (0, .ref a), (1, .int (zi h))]) F_.1 F_.2.1 dX8_goCall_5 rfl hl (by decide) rfl (fun ls_ hl => ?_)
  refine lv_iload_n F_.1 F_.2.1 dX8_goCall_6 rfl (lv_at hl 0 rfl) ?_
  refine z_iconst F_ dX8_goCall_7 ?_
  refine z_icmp_eq (tgt := 43) F_ (by omega) dX8_goCall_8 (by decide) (fun c8 => ?_) (fun c8 => ?_)
  · refine lv_iload_n F_.1 F_.2.1 dX8_goCall_43 rfl (lv_at hl 0 rfl) ?_
    exact hret _ _ _ _ z_1 g dX8_goCall_44 ⟨(by first | omega | assumption), (by rw [← f2_v, goG]; first | rw [if_pos c8] | (rw [if_neg c8]; simp only [*]; congr 1; omega)), (by refine ⟨by omega, ?_, ?_⟩ <;> first | rfl | (simp only [*, zu_at]; repeat rw [if_neg (by omega)])), bg⟩ W_
  · refine lv_aload_n F_.1 F_.2.1 dX8_goCall_11 rfl (lv_at hl 1 rfl) ?_
    refine z_bipush F_ (by decide) dX8_goCall_12 ?_
    refine lv_iload_n F_.1 F_.2.1 dX8_goCall_14 rfl (lv_at hl 0 rfl) ?_
    refine z_iadd F_ dX8_goCall_15 ?_
    refine z_iconst F_ dX8_goCall_16 ?_
    refine z_iast (sg' := [wA cy a n (zu g (6 + z_1) 0)]) F_ K_ W_ 0 0 rfl rfl rfl (by omega) (by omega) dX8_goCall_17 (fun H_ lo_ W_ => ?_)
    obtain ⟨g_2, eg_2⟩ : ∃ x_ : Int → Int, x_ = zu g (6 + z_1) 0 := ⟨_, rfl⟩
    rw [← eg_2] at W_
    have bg_2 : ∀ j : Int, 0 ≤ g_2 j ∧ g_2 j ≤ 99 := by rw [eg_2]; exact zu_b bg (by omega)
    refine lv_aload_n F_.1 F_.2.1 dX8_goCall_18 rfl (lv_at hl 1 rfl) ?_
    refine z_bipush F_ (by decide) dX8_goCall_19 ?_
    refine lv_iload_n F_.1 F_.2.1 dX8_goCall_21 rfl (lv_at hl 2 rfl) ?_
    refine z_iadd F_ dX8_goCall_22 ?_
    refine lv_dup2_11 F_.1 F_.2.1 dX8_goCall_23 rfl rfl ?_
    refine z_iald F_ K_ W_ 0 0 rfl rfl (by omega) (by omega) dX8_goCall_24 ?_
    have b_3 := bg_2 (14 + h)
    have i_4 : g_2 (14 + h) = g (14 + h) := by rw [eg_2]; simp only [zu_at]; repeat (first | rw [if_neg (by omega)] | rw [if_pos (by omega)])
    rw [i_4]
    have b_5 := bg_2 (14 + h)
    rw [i_4] at b_5
    refine lv_aload_n F_.1 F_.2.1 dX8_goCall_25 rfl (lv_at hl 1 rfl) ?_
    refine z_bipush F_ (by decide) dX8_goCall_26 ?_
    refine lv_iload_n F_.1 F_.2.1 dX8_goCall_28 rfl (lv_at hl 2 rfl) ?_
    refine z_iadd F_ dX8_goCall_29 ?_
    refine z_iald F_ K_ W_ 0 0 rfl rfl (by omega) (by omega) dX8_goCall_30 ?_
    have i_6 : g_2 (14 + h) = g (14 + h) := by rw [eg_2]; simp only [zu_at]; repeat (first | rw [if_neg (by omega)] | rw [if_pos (by omega)])
    rw [i_6]
    have b_7 := bg_2 (14 + h)
    rw [i_6] at b_7
    refine z_bipush F_ (by decide) dX8_goCall_31 ?_
    refine z_icmp_ge (tgt := 40) F_ (by omega) dX8_goCall_33 (by decide) (fun c33 => ?_) (fun c33 => ?_)
    · refine z_iconst F_ dX8_goCall_40 ?_
      refine z_iadd F_ dX8_goCall_41 ?_
      refine z_iast (sg' := [wA cy a n (zu g_2 (14 + h) ((g (14 + h)) + 0))]) F_ K_ W_ 0 0 rfl rfl rfl (by omega) (by omega) dX8_goCall_42 (fun H_ lo_ W_ => ?_)
      obtain ⟨g_8, eg_8⟩ : ∃ x_ : Int → Int, x_ = zu g_2 (14 + h) ((g (14 + h)) + 0) := ⟨_, rfl⟩
      rw [← eg_8] at W_
      have bg_8 : ∀ j : Int, 0 ≤ g_8 j ∧ g_8 j ≤ 99 := by rw [eg_8]; exact zu_b bg_2 (by omega)
      refine lv_iload_n F_.1 F_.2.1 dX8_goCall_43 rfl (lv_at hl 0 rfl) ?_
      exact hret _ _ _ _ z_1 g_8 dX8_goCall_44 ⟨(by first | omega | assumption), (by rw [← f2_v, goG]; first | rw [if_pos c8] | (rw [if_neg c8]; simp only [*]; congr 1; omega)), (by refine ⟨by omega, ?_, ?_⟩ <;> first | rfl | (simp only [*, zu_at]; repeat rw [if_neg (by omega)])), bg_8⟩ W_
    · refine z_iconst F_ dX8_goCall_36 ?_
      refine z_goto (tgt := 41) F_ dX8_goCall_37 (by decide) ?_
      refine z_iadd F_ dX8_goCall_41 ?_
      refine z_iast (sg' := [wA cy a n (zu g_2 (14 + h) ((g (14 + h)) + 1))]) F_ K_ W_ 0 0 rfl rfl rfl (by omega) (by omega) dX8_goCall_42 (fun H_ lo_ W_ => ?_)
      obtain ⟨g_9, eg_9⟩ : ∃ x_ : Int → Int, x_ = zu g_2 (14 + h) ((g (14 + h)) + 1) := ⟨_, rfl⟩
      rw [← eg_9] at W_
      have bg_9 : ∀ j : Int, 0 ≤ g_9 j ∧ g_9 j ≤ 99 := by rw [eg_9]; exact zu_b bg_2 (by omega)
      refine lv_iload_n F_.1 F_.2.1 dX8_goCall_43 rfl (lv_at hl 0 rfl) ?_
      exact hret _ _ _ _ z_1 g_9 dX8_goCall_44 ⟨(by first | omega | assumption), (by rw [← f2_v, goG]; first | rw [if_pos c8] | (rw [if_neg c8]; simp only [*]; congr 1; omega)), (by refine ⟨by omega, ?_, ?_⟩ <;> first | rfl | (simp only [*, zu_at]; repeat rw [if_neg (by omega)])), bg_9⟩ W_
