abbrev wB (cy : Nat → ClassId) (a : Nat) (g : Int → Int) : va_W := [(a, .inl (cy 0, 150, .inl (zA g)))]
def canZ (g : Int → Int) (h d : Int) : Int := if 0 < cntG g (h + 1) ∧ needZ (g (17 + h)) d (cntG g (h + 1)) ≤ sumG g (h + 1) then 1 else 0
theorem canZ_iff (g : Int → Int) (h d : Int) : (canZ g h d = 1 ∧ canG g h d) ∨ (canZ g h d = 0 ∧ ¬ canG g h d) := by
  unfold canZ canG
  by_cases q : 0 < cntG g (h + 1) ∧ needZ (g (17 + h)) d (cntG g (h + 1)) ≤ sumG g (h + 1)
  · rw [if_pos q]; exact Or.inl ⟨rfl, q⟩
  · rw [if_neg q]; exact Or.inr ⟨rfl, q⟩
theorem canZ_of {g : Int → Int} {h d z : Int} (q : (z = 1 ∧ canG g h d) ∨ (z = 0 ∧ ¬ canG g h d)) : z = canZ g h d := by
  rcases canZ_iff g h d with w | w <;> rcases q with q | q
  · rw [q.1, w.1]
  · exact absurd w.2 q.2
  · exact absurd q.2 w.2
  · rw [q.1, w.1]
def gbZ (own oth b n : Int) : Int := (if own = 1 then (if b = 1 then 6 else -4) else (if n = 1 then 2 else -2)) - (if own = 1 ∧ oth = 1 then 3 else 0)
theorem gbZ_b (own oth b n : Int) : -7 ≤ gbZ own oth b n ∧ gbZ own oth b n ≤ 6 := by
  unfold gbZ
  repeat (first | omega | split)
def resZ (ba bb na nb pair : Int) : Int := if gbZ (1 - pair % 2) (pair / 2) ba na ≤ gbZ (pair % 2) (pair / 2) ba na ∧ gbZ (1 - pair / 2) (pair % 2) bb nb ≤ gbZ (pair / 2) (pair % 2) bb nb then 1 else 0
def watZ (ba bb na nb m : Int) : Int := bitZ (resZ ba bb na nb) 1 m
theorem watZ_s (ba bb na nb : Int) {m : Int} (h : 0 ≤ m) : watZ ba bb na nb (m + 1) = watZ ba bb na nb m + if resZ ba bb na nb m = 1 then zpw m else 0 := bitZ_s _ _ h
def gcdZ (a b : Int) : Int := ((Nat.gcd a.toNat b.toNat : Nat) : Int)
theorem gcdZ_s {x y : Int} (hx : 0 ≤ x) (hy : 0 < y) : gcdZ y (x % y) = gcdZ x y := by
  obtain ⟨a, rfl⟩ := Int.eq_ofNat_of_zero_le hx
  obtain ⟨b, rfl⟩ := Int.eq_ofNat_of_zero_le (show 0 ≤ y by omega)
  unfold gcdZ
  rw [← Int.natCast_emod, Int.toNat_natCast, Int.toNat_natCast, Int.toNat_natCast, Nat.gcd_comm a b, Nat.gcd_rec b a, Nat.gcd_comm]
theorem gcdZ_0 {x : Int} (hx : 0 ≤ x) : gcdZ x 0 = x := by
  unfold gcdZ
  rw [show (0 : Int).toNat = 0 from rfl, Nat.gcd_zero_right]
  omega
def lcgZ (x : Int) : Int := (x * 1103515245 + 12345) % 2147483648
def yearG (g x : Int → Int) (h y : Int) : Int → Int := if h < g 1 ∧ 8 ≤ y then goG x h (lstG x h) else if h < g 1 ∧ y < g 0 ∧ x (6 + y) = 0 then zu x (6 + y) (h + 1) else x
def cenG (g : Int → Int) (seed n : Int) : Int × (Int → Int) := fZ (fun _ s => (lcgZ s.1, yearG g s.2 (lcgZ s.1 / 65536 % 3) (lcgZ s.1 / 1048576 % 16))) (seed, g) n
theorem cenG_s (g : Int → Int) (seed : Int) {n : Int} (h : 0 ≤ n) : cenG g seed (n + 1) = (lcgZ (cenG g seed n).1, yearG g (cenG g seed n).2 (lcgZ (cenG g seed n).1 / 65536 % 3) (lcgZ (cenG g seed n).1 / 1048576 % 16)) := fZ_s _ _ h
def ctG (g : Int → Int) (bl w : Int) : Int := if w = 0 then g 0 else if w = 1 then g 1 else if w = 2 then cntG g 0 else if w = 3 then sumG g 0 else if w = 4 then g 14 + g 15 + g 16 else if w = 9 then bl else g (w - 3)
def plG (g : Int → Int) : Int → Int := fun k => g (6 + k) - 1
def digG (g : Int → Int) (bl ab be : Int) : Int := 31 * (31 * hashZ g 80 (hashZ g 56 (hashZ g 36 (hashM (shZ g 20) (shZ g 28) (plG g) (hashS (shZ g 17) (shZ g 14) (hashZ (ctG g bl) 0 1721 10) (g 1)) (g 0)) (4 * g 2)) (4 * g 3)) (4 * g 4) + ab) + be
def imG (kp g : Int → Int) (i k : Int) : Int → Int := fun j => if 192 * i ≤ j ∧ j < 192 * i + k then g (j - 192 * i) else kp j

theorem cntZ_pos {f : Int → Int} {v z m : Int} (hm : 0 ≤ m) (hz : 0 ≤ z ∧ z < m) (h : f z = v) : 0 < cntZ f v m := by
  have e : ∀ i, 0 ≤ i → i ≤ m → (0 ≤ cntZ f v i ∧ (z < i → 0 < cntZ f v i)) := by
    refine fZ_ind (P := fun i x => 0 ≤ x ∧ (z < i → 0 < x)) ⟨by omega, fun q => by omega⟩ (M := m) (fun i x q1 q2 e => ?_)
    by_cases c : i = z
    · subst c
      rw [if_pos h]
      omega
    · split <;> omega
  exact (e m hm (Int.le_refl m)).2 hz.2
theorem ctG_b {g : Int → Int} {bl k : Int} (h0 : 0 ≤ g 0 ∧ g 0 ≤ 8) (hbl : 0 ≤ bl ∧ bl ≤ 150) (bg : ∀ j, 0 ≤ g j ∧ g j ≤ 99) : 0 ≤ ctG g bl k ∧ ctG g bl k ≤ 1000 := by
  have h1 := cntZ_b (shZ g 6) 0 (m := g 0) h0.1
  have h1 : 0 ≤ cntG g 0 ∧ cntG g 0 ≤ g 0 := h1
  have h2 := sumZ_b (shZ g 6) (shZ g 28) 0 (m := g 0) h0.1 (b := 99) (fun j => bg (28 + j))
  have h2 : 0 ≤ sumG g 0 ∧ sumG g 0 ≤ 99 * g 0 := h2
  have a0 := bg 0
  have a1 := bg 1
  have a2 := bg 14
  have a3 := bg 15
  have a4 := bg 16
  have a5 := bg (k - 3)
  unfold ctG
  repeat (first | omega | split)

abbrev rX8_canBehind : Room := { frames := 4, cells := 0, slots := 0, locals := 91 }
set_option maxHeartbeats 1000000 in
set_option maxRecDepth 100000 in
theorem c_X8_canBehind (l_ : Launch) (D : va_G) (cy : Nat → ClassId) (o : Nat → Nat) (ab : Int) (be : Int) (bl : Int) (ta : Int) (tl : Int) (tk : Int) (vl : Int) (g : Int → Int) (hd : Int → Int) (h : Int) (d : Int) (bg : ∀ j : Int, 0 ≤ g j ∧ g j ≤ 99) (bhd : ∀ j : Int, 0 ≤ hd j ∧ hd j ≤ 99) (rh : -2147483648 ≤ h ∧ h < 2147483648) (rd : -2147483648 ≤ d ∧ d < 2147483648) (hg0 : 0 ≤ g 0 ∧ g 0 ≤ 8) (hg1 : 0 ≤ g 1 ∧ g 1 ≤ 3) (hh : 0 ≤ h ∧ h < g 1) (hdd : 1 ≤ d ∧ d ≤ 30) : CTi l_ D cy yX8_canBehind wsX8_canBehind rX8_canBehind [.ref (o 0), .int (zi h), .int (zi d)] ([wO cy o ab be bl ta tl tk vl, wA cy (o 1) 192 g, wA cy (o 5) 36 hd]) (fun (z : Int) (u : (Int → Int)) => ((z = 1 ∧ canG (goG g h (lstG g h)) h d) ∨ (z = 0 ∧ ¬ canG (goG g h (lstG g h)) h d)) ∧ (∀ j : Int, 0 ≤ u j ∧ u j ≤ 99)) (fun (u : (Int → Int)) => [wO cy o ab be bl ta tl tk vl, wA cy (o 1) 192 g, wA cy (o 5) 36 u]) := by
  refine CTi.of RX8 cX8_canBehind 4 rfl (by decide) rfl (fun z u hz => z_bl hz.1) (Nat.le_of_ble_eq_true rfl) ?_
  intro p_ e_ s_ m_ ar_ be_ me_ c_ Q_ A_ ls_ F_ K_ W_ hl hret
  have hl : lv_has ls_ 4 [(0, .ref (o 0)), (1, .int (zi h)), (2, .int (zi d))] := hl
  obtain ⟨H_, hH_⟩ : ∃ x, x = s_.heap := ⟨_, rfl⟩
  obtain ⟨lo_, hlo_⟩ : ∃ x : List Loc, x = [] := ⟨_, rfl⟩
  have W_ : WD D A_ s_.heap ([wO cy o ab be bl ta tl tk vl, wA cy (o 1) 192 g, wA cy (o 5) 36 hd]) H_ lo_ := by rw [hH_, hlo_]; exact W_
  rw [← hlo_]
  suffices hg_ : W p_ l_ e_ rX8_canBehind s_ m_ ar_ be_ me_ c_ H_ lo_ 0 0 Q_ (F0 m_ 0 ls_ []) by rw [hH_] at hg_; exact hg_
  clear hH_ hlo_
  have hinX8 : ∀ w ∈ u_ws RX8 TX8 19, w ∈ wsX8_canBehind := fun w h => List.mem_cons_of_mem _ (List.mem_append_right _ h)
  refine lv_aload_n F_.1 F_.2.1 dX8_canBehind_0 rfl (lv_at hl 0 rfl) ?_
  refine z_callVv F_ K_ W_ [] (c_X8_layHand l_ D cy o ab be bl ta tl tk vl g hd bg bhd) 0 rfl gX8_canBehind_X8_layHand rfl (by decide +kernel) ⟨⟨Nat.le_of_ble_eq_true rfl, Nat.le_of_ble_eq_true rfl⟩, rfl, rfl, Nat.zero_le _, Nat.zero_le _⟩ 0 0 7 rfl rfl rfl rfl hl.1 rfl (Nat.le_of_ble_eq_true rfl) [0, 1, 2] ([] : List Nat) ([] : List va_W) (fun (u_ : Unit) => [wO cy o ab be bl ta tl tk vl, wA cy (o 1) 192 g, wA cy (o 5) 36 g]) 3 (by decide +kernel) rfl rfl rfl (fun _ => rfl) (fun _ => rfl) (fun _ => rfl) dX8_canBehind_1 (fun u_ H_ lo_ hw_ W_ => ?_)
  have W_ : WD D A_ s_.heap ([wO cy o ab be bl ta tl tk vl, wA cy (o 1) 192 g, wA cy (o 5) 36 g]) H_ lo_ := W_
  replace hw_ : (∀ j : Int, 0 ≤ g j ∧ g j ≤ 99) := hw_
  have f1_B_H_g := hw_
  clear hw_
  refine lv_aload_n F_.1 F_.2.1 dX8_canBehind_4 rfl (lv_at hl 0 rfl) ?_
  refine z_get F_ K_ W_ 0 0 6 rfl rfl rfl (C := RX8) (T := TX8) (N := 19) rfl (by decide) hinX8 (List.mem_of_getElem? (i := 1) rfl) dX8_canBehind_5 ?_
  refine lv_iload_n F_.1 F_.2.1 dX8_canBehind_8 rfl (lv_at hl 1 rfl) ?_
  refine z_callSi F_ K_ W_ [.ref (o 5), .int (zi h)] (c_X8_goCall l_ D cy (o 5) 36 g h f1_B_H_g (by first | omega | assumption) (by first | omega | assumption) (by first | omega | assumption) (by first | omega | assumption)) 2 rfl gX8_canBehind_X8_goCall rfl (by decide +kernel) ⟨⟨Nat.le_of_ble_eq_true rfl, Nat.le_of_ble_eq_true rfl⟩, rfl, rfl, Nat.zero_le _, Nat.zero_le _⟩ hl.1 rfl (Nat.le_of_ble_eq_true rfl) [2] [0, 1] [wO cy o ab be bl ta tl tk vl, wA cy (o 1) 192 g] (fun (u_ : (Int → Int)) => [wO cy o ab be bl ta tl tk vl, wA cy (o 1) 192 g, wA cy (o 5) 36 u_]) 3 (by decide +kernel) rfl rfl rfl (fun _ => rfl) (fun _ => rfl) (fun _ => rfl) dX8_canBehind_9 (fun z_2 u_ H_ lo_ hw_ W_ => ?_)
  obtain ⟨g2_3, rfl⟩ : ∃ x, x = u_ := ⟨_, rfl⟩
  have W_ : WD D A_ s_.heap ([wO cy o ab be bl ta tl tk vl, wA cy (o 1) 192 g, wA cy (o 5) 36 g2_3]) H_ lo_ := W_
  replace hw_ : (z_2 = lstG g h) ∧ (g2_3 = goG g h (lstG g h)) ∧ ((z_2 = -1 ∨ (0 ≤ z_2 ∧ z_2 < g 0)) ∧ g2_3 0 = g 0 ∧ g2_3 1 = g 1) ∧ (∀ j : Int, 0 ≤ g2_3 j ∧ g2_3 j ≤ 99) := hw_
  obtain ⟨f9_v, f9_c, f9_k, f9_B_A_g⟩ := hw_
  refine lv_istore_n (lv' := [(3, .int (zi z_2)), (0, .ref (o 0)), (1, .int (zi h)), (2, .int (zi d))]) F_.1 F_.2.1 dX8_canBehind_12 rfl hl (by decide) rfl (fun ls_ hl => ?_)
  refine lv_aload_n F_.1 F_.2.1 dX8_canBehind_13 rfl (lv_at hl 1 rfl) ?_
  refine z_get F_ K_ W_ 0 0 6 rfl rfl rfl (C := RX8) (T := TX8) (N := 19) rfl (by decide) hinX8 (List.mem_of_getElem? (i := 1) rfl) dX8_canBehind_14 ?_
  refine lv_iload_n F_.1 F_.2.1 dX8_canBehind_17 rfl (lv_at hl 2 rfl) ?_
  refine lv_iload_n F_.1 F_.2.1 dX8_canBehind_18 rfl (lv_at hl 3 rfl) ?_
  refine z_callSip F_ K_ W_ [.ref (o 5), .int (zi h), .int (zi d)] (c_X8_canSail l_ D cy (o 5) 36 g2_3 h d f9_B_A_g (by first | omega | assumption) (by first | omega | assumption) (by first | omega | assumption) (by first | omega | assumption) (by first | omega | assumption) (by first | omega | assumption)) 3 rfl gX8_canBehind_X8_canSail rfl (by decide +kernel) ⟨⟨Nat.le_of_ble_eq_true rfl, Nat.le_of_ble_eq_true rfl⟩, rfl, rfl, Nat.zero_le _, Nat.zero_le _⟩ hl.1 rfl (Nat.le_of_ble_eq_true rfl) [2] [0, 1] [wO cy o ab be bl ta tl tk vl, wA cy (o 1) 192 g] 3 (by decide +kernel) rfl rfl rfl dX8_canBehind_19 (fun z_4 _ H_ lo_ hw_ W_ => ?_)
  replace hw_ : ((z_4 = 1 ∧ canG g2_3 h d) ∨ (z_4 = 0 ∧ ¬ canG g2_3 h d)) := hw_
  have f19_v := hw_
  clear hw_
  exact hret _ _ _ _ z_4 g2_3 dX8_canBehind_22 ⟨(by rw [← f9_c]; assumption), f9_B_A_g⟩ W_
abbrev rX8_getsBy : Room := { frames := 0, cells := 0, slots := 0, locals := 0 }
set_option maxHeartbeats 1000000 in
set_option maxRecDepth 100000 in
theorem c_X8_getsBy (l_ : Launch) (D : va_G) (cy : Nat → ClassId) (own : Int) (oth : Int) (b : Int) (n : Int) (rown : -2147483648 ≤ own ∧ own < 2147483648) (roth : -2147483648 ≤ oth ∧ oth < 2147483648) (rb : -2147483648 ≤ b ∧ b < 2147483648) (rn : -2147483648 ≤ n ∧ n < 2147483648) (hb : (b = 0 ∨ b = 1) ∧ (n = 0 ∨ n = 1)) : CTi l_ D cy yX8_getsBy wsX8_getsBy rX8_getsBy [.int (zi own), .int (zi oth), .int (zi b), .int (zi n)] (([] : List va_W)) (fun (z : Int) (u : Unit) => (z = gbZ own oth b n)) (fun (_ : Unit) => ([] : List va_W)) := by
  refine CTi.of RX8 cX8_getsBy 5 rfl (by decide) rfl (fun z u hz => rfl) (Nat.le_of_ble_eq_true rfl) ?_
  intro p_ e_ s_ m_ ar_ be_ me_ c_ Q_ A_ ls_ F_ K_ W_ hl hret
  have hl : lv_has ls_ 5 [(0, .int (zi own)), (1, .int (zi oth)), (2, .int (zi b)), (3, .int (zi n))] := hl
  obtain ⟨H_, hH_⟩ : ∃ x, x = s_.heap := ⟨_, rfl⟩
  obtain ⟨lo_, hlo_⟩ : ∃ x : List Loc, x = [] := ⟨_, rfl⟩
  have W_ : WD D A_ s_.heap (([] : List va_W)) H_ lo_ := by rw [hH_, hlo_]; exact W_
  rw [← hlo_]
  suffices hg_ : W p_ l_ e_ rX8_getsBy s_ m_ ar_ be_ me_ c_ H_ lo_ 0 0 Q_ (F0 m_ 0 ls_ []) by rw [hH_] at hg_; exact hg_
  clear hH_ hlo_
  refine lv_iload_n F_.1 F_.2.1 dX8_getsBy_0 rfl (lv_at hl 0 rfl) ?_
  refine z_iconst F_ dX8_getsBy_1 ?_
  have J29 : ∀ (k29_0 : Int) (g29 : ((¬ own = 1) ∧ (n = 0) ∧ (k29_0 = (-2))) ∨ ((¬ own = 1) ∧ (¬ n = 0) ∧ (k29_0 = 2)) ∨ ((own = 1) ∧ (b = 0) ∧ (k29_0 = (-4))) ∨ ((own = 1) ∧ (¬ b = 0) ∧ (k29_0 = 6))) (ls_ : Array Slot) (H_ : Heap) (lo_ : List Loc), WD D A_ s_.heap (([] : List va_W)) H_ lo_ → lv_has ls_ 5 [(0, .int (zi own)), (1, .int (zi oth)), (2, .int (zi b)), (3, .int (zi n))] → W p_ l_ e_ rX8_getsBy s_ m_ ar_ be_ me_ c_ H_ lo_ 0 0 Q_ (F0 m_ 29 ls_ [.int (zi k29_0)]) := by
    intro k29_0 g29 ls_ H_ lo_ W_ hl
    refine lv_istore (lv' := [(4, .int (zi k29_0)), (0, .int (zi own)), (1, .int (zi oth)), (2, .int (zi b)), (3, .int (zi n))]) F_.1 F_.2.1 dX8_getsBy_29 hl (by decide) rfl (fun ls_ hl => ?_)
    refine lv_iload_n F_.1 F_.2.1 dX8_getsBy_31 rfl (lv_at hl 1 rfl) ?_
    refine z_iconst F_ dX8_getsBy_32 ?_
    refine z_icmp_ne (tgt := 48) F_ (by omega) dX8_getsBy_33 (by decide) (fun c33 => ?_) (fun c33 => ?_)
    · refine lv_iload F_.1 F_.2.1 dX8_getsBy_48 (lv_at hl 0 rfl) ?_
      exact hret _ _ _ _ k29_0 () dX8_getsBy_50 (by unfold gbZ; repeat (first | omega | split)) W_
    · refine lv_iload_n F_.1 F_.2.1 dX8_getsBy_36 rfl (lv_at hl 2 rfl) ?_
      refine z_iconst F_ dX8_getsBy_37 ?_
      refine z_icmp_ne (tgt := 48) F_ (by omega) dX8_getsBy_38 (by decide) (fun c38 => ?_) (fun c38 => ?_)
      · refine lv_iload F_.1 F_.2.1 dX8_getsBy_48 (lv_at hl 0 rfl) ?_
        exact hret _ _ _ _ k29_0 () dX8_getsBy_50 (by unfold gbZ; repeat (first | omega | split)) W_
      · refine lv_iload F_.1 F_.2.1 dX8_getsBy_41 (lv_at hl 0 rfl) ?_
        refine z_iconst F_ dX8_getsBy_43 ?_
        refine z_isub F_ dX8_getsBy_44 ?_
        refine z_goto (tgt := 50) F_ dX8_getsBy_45 (by decide) ?_
        exact hret _ _ _ _ (k29_0 - 3) () dX8_getsBy_50 (by unfold gbZ; repeat (first | omega | split)) W_
  refine z_icmp_ne (tgt := 19) F_ (by omega) dX8_getsBy_2 (by decide) (fun c2 => ?_) (fun c2 => ?_)
  · refine lv_iload_n F_.1 F_.2.1 dX8_getsBy_19 rfl (lv_at hl 3 rfl) ?_
    refine z_if_eq (tgt := 27) F_ (by omega) dX8_getsBy_20 (by decide) (fun c20 => ?_) (fun c20 => ?_)
    · refine z_bipush F_ (by decide) dX8_getsBy_27 ?_
      exact J29 (-2) (by first | omega | grind) ls_ H_ lo_ W_ (lv_sub hl [0, 1, 2, 3] rfl)
    · refine z_iconst F_ dX8_getsBy_23 ?_
      refine z_goto (tgt := 29) F_ dX8_getsBy_24 (by decide) ?_
      exact J29 2 (by first | omega | grind) ls_ H_ lo_ W_ (lv_sub hl [0, 1, 2, 3] rfl)
  · refine lv_iload_n F_.1 F_.2.1 dX8_getsBy_5 rfl (lv_at hl 2 rfl) ?_
    refine z_if_eq (tgt := 14) F_ (by omega) dX8_getsBy_6 (by decide) (fun c6 => ?_) (fun c6 => ?_)
    · refine z_bipush F_ (by decide) dX8_getsBy_14 ?_
      refine z_goto (tgt := 29) F_ dX8_getsBy_16 (by decide) ?_
      exact J29 (-4) (by first | omega | grind) ls_ H_ lo_ W_ (lv_sub hl [0, 1, 2, 3] rfl)
    · refine z_bipush F_ (by decide) dX8_getsBy_9 ?_
      refine z_goto (tgt := 29) F_ dX8_getsBy_11 (by decide) ?_
      exact J29 6 (by first | omega | grind) ls_ H_ lo_ W_ (lv_sub hl [0, 1, 2, 3] rfl)
abbrev rX8_water : Room := { frames := 5, cells := 0, slots := 0, locals := 114 }
set_option maxHeartbeats 1000000 in
set_option maxRecDepth 100000 in
theorem c_X8_water (l_ : Launch) (D : va_G) (cy : Nat → ClassId) (o : Nat → Nat) (ab : Int) (be : Int) (bl : Int) (ta : Int) (tl : Int) (tk : Int) (vl : Int) (g : Int → Int) (rf : Int → Int) (hd : Int → Int) (a : Int) (b : Int) (d : Int) (bg : ∀ j : Int, 0 ≤ g j ∧ g j ≤ 99) (bhd : ∀ j : Int, 0 ≤ hd j ∧ hd j ≤ 99) (ra : -2147483648 ≤ a ∧ a < 2147483648) (rb : -2147483648 ≤ b ∧ b < 2147483648) (rd : -2147483648 ≤ d ∧ d < 2147483648) (hg0 : 0 ≤ g 0 ∧ g 0 ≤ 8) (hg1 : 0 ≤ g 1 ∧ g 1 ≤ 3) : CTi l_ D cy yX8_water wsX8_water rX8_water [.ref (o 0), .int (zi a), .int (zi b), .int (zi d)] ([wO cy o ab be bl ta tl tk vl, wA cy (o 1) 192 g, wR cy (o 4) 3 rf, wA cy (o 5) 36 hd]) (fun (z : Int) (u : (Int → Int) × (Int → Int)) => ((((0 ≤ a ∧ a < g 1) ∧ (0 ≤ b ∧ b < g 1) ∧ a ≠ b ∧ (1 ≤ d ∧ d ≤ 30)) ∧ z = watZ (canZ (goG g a (lstG g a)) a d) (canZ (goG g b (lstG g b)) b d) (canZ g a d) (canZ g b d) 4 ∧ u.1 = rf) ∨ (¬ ((0 ≤ a ∧ a < g 1) ∧ (0 ≤ b ∧ b < g 1) ∧ a ≠ b ∧ (1 ≤ d ∧ d ≤ 30)) ∧ z = -2 ∧ u.1 = rfZ rf 0)) ∧ (∀ j : Int, 0 ≤ u.2 j ∧ u.2 j ≤ 99)) (fun (u : (Int → Int) × (Int → Int)) => [wO cy o ab be bl ta tl tk vl, wA cy (o 1) 192 g, wR cy (o 4) 3 u.1, wA cy (o 5) 36 u.2]) := by
  refine CTi.of RX8 cX8_water 13 rfl (by decide) rfl (fun z u hz => rfl) (Nat.le_of_ble_eq_true rfl) ?_
  intro p_ e_ s_ m_ ar_ be_ me_ c_ Q_ A_ ls_ F_ K_ W_ hl hret
  have hl : lv_has ls_ 13 [(0, .ref (o 0)), (1, .int (zi a)), (2, .int (zi b)), (3, .int (zi d))] := hl
  obtain ⟨H_, hH_⟩ : ∃ x, x = s_.heap := ⟨_, rfl⟩
  obtain ⟨lo_, hlo_⟩ : ∃ x : List Loc, x = [] := ⟨_, rfl⟩
  have W_ : WD D A_ s_.heap ([wO cy o ab be bl ta tl tk vl, wA cy (o 1) 192 g, wR cy (o 4) 3 rf, wA cy (o 5) 36 hd]) H_ lo_ := by rw [hH_, hlo_]; exact W_
  rw [← hlo_]
  suffices hg_ : W p_ l_ e_ rX8_water s_ m_ ar_ be_ me_ c_ H_ lo_ 0 0 Q_ (F0 m_ 0 ls_ []) by rw [hH_] at hg_; exact hg_
  clear hH_ hlo_
  have hinX8 : ∀ w ∈ u_ws RX8 TX8 19, w ∈ wsX8_water := fun w h => List.mem_cons_of_mem _ (List.mem_append_right _ h)
  refine lv_aload_n F_.1 F_.2.1 dX8_water_0 rfl (lv_at hl 0 rfl) ?_
  refine lv_iload_n F_.1 F_.2.1 dX8_water_1 rfl (lv_at hl 1 rfl) ?_
  refine z_callVip F_ K_ W_ [.int (zi a)] (c_X8_isShip l_ D cy o ab be bl ta tl tk vl g a bg (by first | omega | assumption) (by first | omega | assumption)) 1 rfl gX8_water_X8_isShip rfl (by decide +kernel) ⟨⟨Nat.le_of_ble_eq_true rfl, Nat.le_of_ble_eq_true rfl⟩, rfl, rfl, Nat.zero_le _, Nat.zero_le _⟩ 0 0 7 rfl rfl rfl rfl hl.1 rfl (Nat.le_of_ble_eq_true rfl) [0, 1] [2, 3] [wR cy (o 4) 3 rf, wA cy (o 5) 36 hd] 4 (by decide +kernel) rfl rfl rfl dX8_water_2 (fun z_1 _ H_ lo_ hw_ W_ => ?_)
  replace hw_ : ((z_1 = 1 ∧ (0 ≤ a ∧ a < g 1)) ∨ (z_1 = 0 ∧ ¬ (0 ≤ a ∧ a < g 1))) := hw_
  have f2_v := hw_
  clear hw_
  refine z_if_eq (tgt := 28) F_ (by omega) dX8_water_5 (by decide) (fun c5 => ?_) (fun c5 => ?_)
  · refine lv_aload_n F_.1 F_.2.1 dX8_water_28 rfl (lv_at hl 0 rfl) ?_
    refine z_bipush F_ (by decide) dX8_water_29 ?_
    refine z_callVi F_ K_ W_ [.int (zi (-2))] (c_X8_bad l_ D cy o ab be bl ta tl tk vl rf (-2) (by first | omega | assumption)) 1 rfl gX8_water_X8_bad rfl (by decide +kernel) ⟨⟨Nat.le_of_ble_eq_true rfl, Nat.le_of_ble_eq_true rfl⟩, rfl, rfl, Nat.zero_le _, Nat.zero_le _⟩ 0 0 7 rfl rfl rfl rfl hl.1 rfl (Nat.le_of_ble_eq_true rfl) [0, 2] [1, 3] [wA cy (o 1) 192 g, wA cy (o 5) 36 hd] (fun (u_ : (Int → Int)) => [wO cy o ab be bl ta tl tk vl, wA cy (o 1) 192 g, wR cy (o 4) 3 u_, wA cy (o 5) 36 hd]) 4 (by decide +kernel) rfl rfl rfl (fun _ => rfl) (fun _ => rfl) (fun _ => rfl) dX8_water_31 (fun z_2 u_ H_ lo_ hw_ W_ => ?_)
    obtain ⟨rf2_3, rfl⟩ : ∃ x, x = u_ := ⟨_, rfl⟩
    have W_ : WD D A_ s_.heap ([wO cy o ab be bl ta tl tk vl, wA cy (o 1) 192 g, wR cy (o 4) 3 rf2_3, wA cy (o 5) 36 hd]) H_ lo_ := W_
    replace hw_ : (z_2 = (-2)) ∧ (rf2_3 = rfZ rf 0) := hw_
    obtain ⟨f31_v, f31_r⟩ := hw_
    exact hret _ _ _ _ z_2 (rf2_3, hd) dX8_water_34 ⟨(by exact Or.inr ⟨by omega, by omega, by assumption⟩), bhd⟩ W_
  · refine lv_aload_n F_.1 F_.2.1 dX8_water_8 rfl (lv_at hl 0 rfl) ?_
    refine lv_iload_n F_.1 F_.2.1 dX8_water_9 rfl (lv_at hl 2 rfl) ?_
    refine z_callVip F_ K_ W_ [.int (zi b)] (c_X8_isShip l_ D cy o ab be bl ta tl tk vl g b bg (by first | omega | assumption) (by first | omega | assumption)) 1 rfl gX8_water_X8_isShip rfl (by decide +kernel) ⟨⟨Nat.le_of_ble_eq_true rfl, Nat.le_of_ble_eq_true rfl⟩, rfl, rfl, Nat.zero_le _, Nat.zero_le _⟩ 0 0 7 rfl rfl rfl rfl hl.1 rfl (Nat.le_of_ble_eq_true rfl) [0, 1] [2, 3] [wR cy (o 4) 3 rf, wA cy (o 5) 36 hd] 4 (by decide +kernel) rfl rfl rfl dX8_water_10 (fun z_4 _ H_ lo_ hw_ W_ => ?_)
    replace hw_ : ((z_4 = 1 ∧ (0 ≤ b ∧ b < g 1)) ∨ (z_4 = 0 ∧ ¬ (0 ≤ b ∧ b < g 1))) := hw_
    have f10_v := hw_
    clear hw_
    refine z_if_eq (tgt := 28) F_ (by omega) dX8_water_13 (by decide) (fun c13 => ?_) (fun c13 => ?_)
    · refine lv_aload_n F_.1 F_.2.1 dX8_water_28 rfl (lv_at hl 0 rfl) ?_
      refine z_bipush F_ (by decide) dX8_water_29 ?_
      refine z_callVi F_ K_ W_ [.int (zi (-2))] (c_X8_bad l_ D cy o ab be bl ta tl tk vl rf (-2) (by first | omega | assumption)) 1 rfl gX8_water_X8_bad rfl (by decide +kernel) ⟨⟨Nat.le_of_ble_eq_true rfl, Nat.le_of_ble_eq_true rfl⟩, rfl, rfl, Nat.zero_le _, Nat.zero_le _⟩ 0 0 7 rfl rfl rfl rfl hl.1 rfl (Nat.le_of_ble_eq_true rfl) [0, 2] [1, 3] [wA cy (o 1) 192 g, wA cy (o 5) 36 hd] (fun (u_ : (Int → Int)) => [wO cy o ab be bl ta tl tk vl, wA cy (o 1) 192 g, wR cy (o 4) 3 u_, wA cy (o 5) 36 hd]) 4 (by decide +kernel) rfl rfl rfl (fun _ => rfl) (fun _ => rfl) (fun _ => rfl) dX8_water_31 (fun z_5 u_ H_ lo_ hw_ W_ => ?_)
      obtain ⟨rf2_6, rfl⟩ : ∃ x, x = u_ := ⟨_, rfl⟩
      have W_ : WD D A_ s_.heap ([wO cy o ab be bl ta tl tk vl, wA cy (o 1) 192 g, wR cy (o 4) 3 rf2_6, wA cy (o 5) 36 hd]) H_ lo_ := W_
      replace hw_ : (z_5 = (-2)) ∧ (rf2_6 = rfZ rf 0) := hw_
      obtain ⟨f31_v, f31_r⟩ := hw_
      exact hret _ _ _ _ z_5 (rf2_6, hd) dX8_water_34 ⟨(by exact Or.inr ⟨by omega, by omega, by assumption⟩), bhd⟩ W_
    · refine lv_iload_n F_.1 F_.2.1 dX8_water_16 rfl (lv_at hl 1 rfl) ?_
      refine lv_iload_n F_.1 F_.2.1 dX8_water_17 rfl (lv_at hl 2 rfl) ?_
      refine z_icmp_eq (tgt := 28) F_ (by omega) dX8_water_18 (by decide) (fun c18 => ?_) (fun c18 => ?_)
      · refine lv_aload_n F_.1 F_.2.1 dX8_water_28 rfl (lv_at hl 0 rfl) ?_
        refine z_bipush F_ (by decide) dX8_water_29 ?_
        refine z_callVi F_ K_ W_ [.int (zi (-2))] (c_X8_bad l_ D cy o ab be bl ta tl tk vl rf (-2) (by first | omega | assumption)) 1 rfl gX8_water_X8_bad rfl (by decide +kernel) ⟨⟨Nat.le_of_ble_eq_true rfl, Nat.le_of_ble_eq_true rfl⟩, rfl, rfl, Nat.zero_le _, Nat.zero_le _⟩ 0 0 7 rfl rfl rfl rfl hl.1 rfl (Nat.le_of_ble_eq_true rfl) [0, 2] [1, 3] [wA cy (o 1) 192 g, wA cy (o 5) 36 hd] (fun (u_ : (Int → Int)) => [wO cy o ab be bl ta tl tk vl, wA cy (o 1) 192 g, wR cy (o 4) 3 u_, wA cy (o 5) 36 hd]) 4 (by decide +kernel) rfl rfl rfl (fun _ => rfl) (fun _ => rfl) (fun _ => rfl) dX8_water_31 (fun z_7 u_ H_ lo_ hw_ W_ => ?_)
        obtain ⟨rf2_8, rfl⟩ : ∃ x, x = u_ := ⟨_, rfl⟩
        have W_ : WD D A_ s_.heap ([wO cy o ab be bl ta tl tk vl, wA cy (o 1) 192 g, wR cy (o 4) 3 rf2_8, wA cy (o 5) 36 hd]) H_ lo_ := W_
        replace hw_ : (z_7 = (-2)) ∧ (rf2_8 = rfZ rf 0) := hw_
        obtain ⟨f31_v, f31_r⟩ := hw_
        exact hret _ _ _ _ z_7 (rf2_8, hd) dX8_water_34 ⟨(by exact Or.inr ⟨by omega, by omega, by assumption⟩), bhd⟩ W_
      · refine lv_iload_n F_.1 F_.2.1 dX8_water_21 rfl (lv_at hl 3 rfl) ?_
        refine z_callSip F_ K_ W_ [.int (zi d)] (c_X8_isFar l_ D cy d (by first | omega | assumption)) 1 rfl gX8_water_X8_isFar rfl (by decide +kernel) ⟨⟨Nat.le_of_ble_eq_true rfl, Nat.le_of_ble_eq_true rfl⟩, rfl, rfl, Nat.zero_le _, Nat.zero_le _⟩ hl.1 rfl (Nat.le_of_ble_eq_true rfl) ([] : List Nat) [0, 1, 2, 3] [wO cy o ab be bl ta tl tk vl, wA cy (o 1) 192 g, wR cy (o 4) 3 rf, wA cy (o 5) 36 hd] 4 (by decide +kernel) rfl rfl rfl dX8_water_22 (fun z_9 _ H_ lo_ hw_ W_ => ?_)
        replace hw_ : ((z_9 = 1 ∧ (1 ≤ d ∧ d ≤ 30)) ∨ (z_9 = 0 ∧ ¬ (1 ≤ d ∧ d ≤ 30))) := hw_
        have f22_v := hw_
        clear hw_
        refine z_if_ne (tgt := 35) F_ (by omega) dX8_water_25 (by decide) (fun c25 => ?_) (fun c25 => ?_)
        · have hok : (0 ≤ a ∧ a < g 1) ∧ (0 ≤ b ∧ b < g 1) ∧ a ≠ b ∧ (1 ≤ d ∧ d ≤ 30) := by omega
          clear f2_v f10_v f22_v
          refine lv_aload_n F_.1 F_.2.1 dX8_water_35 rfl (lv_at hl 0 rfl) ?_
          refine lv_iload_n F_.1 F_.2.1 dX8_water_36 rfl (lv_at hl 1 rfl) ?_
          refine lv_iload_n F_.1 F_.2.1 dX8_water_37 rfl (lv_at hl 3 rfl) ?_
          refine z_callVi F_ K_ W_ [.int (zi a), .int (zi d)] (c_X8_canBehind l_ D cy o ab be bl ta tl tk vl g hd a d bg bhd (by first | omega | assumption) (by first | omega | assumption) (by first | omega | assumption) (by first | omega | assumption) (by first | omega | assumption) (by first | omega | assumption)) 2 rfl gX8_water_X8_canBehind rfl (by decide +kernel) ⟨⟨Nat.le_of_ble_eq_true rfl, Nat.le_of_ble_eq_true rfl⟩, rfl, rfl, Nat.zero_le _, Nat.zero_le _⟩ 0 0 7 rfl rfl rfl rfl hl.1 rfl (Nat.le_of_ble_eq_true rfl) [0, 1, 3] [2] [wR cy (o 4) 3 rf] (fun (u_ : (Int → Int)) => [wO cy o ab be bl ta tl tk vl, wA cy (o 1) 192 g, wR cy (o 4) 3 rf, wA cy (o 5) 36 u_]) 4 (by decide +kernel) rfl rfl rfl (fun _ => rfl) (fun _ => rfl) (fun _ => rfl) dX8_water_38 (fun z_10 u_ H_ lo_ hw_ W_ => ?_)
          obtain ⟨h2_11, rfl⟩ : ∃ x, x = u_ := ⟨_, rfl⟩
          have W_ : WD D A_ s_.heap ([wO cy o ab be bl ta tl tk vl, wA cy (o 1) 192 g, wR cy (o 4) 3 rf, wA cy (o 5) 36 h2_11]) H_ lo_ := W_
          replace hw_ : ((z_10 = 1 ∧ canG (goG g a (lstG g a)) a d) ∨ (z_10 = 0 ∧ ¬ canG (goG g a (lstG g a)) a d)) ∧ (∀ j : Int, 0 ≤ h2_11 j ∧ h2_11 j ≤ 99) := hw_
          obtain ⟨f38_v, f38_B_H_g⟩ := hw_
          have e38 : z_10 = canZ (goG g a (lstG g a)) a d := canZ_of f38_v
          have r38 : z_10 = 0 ∨ z_10 = 1 := f38_v.elim (fun q => Or.inr q.1) (fun q => Or.inl q.1)
          clear f38_v
          refine lv_istore (lv' := [(4, .int (zi z_10)), (0, .ref (o 0)), (1, .int (zi a)), (2, .int (zi b)), (3, .int (zi d))]) F_.1 F_.2.1 dX8_water_41 hl (by decide) rfl (fun ls_ hl => ?_)
          refine lv_aload_n F_.1 F_.2.1 dX8_water_43 rfl (lv_at hl 1 rfl) ?_
          refine lv_iload_n F_.1 F_.2.1 dX8_water_44 rfl (lv_at hl 3 rfl) ?_
          refine lv_iload_n F_.1 F_.2.1 dX8_water_45 rfl (lv_at hl 4 rfl) ?_
          refine z_callVi F_ K_ W_ [.int (zi b), .int (zi d)] (c_X8_canBehind l_ D cy o ab be bl ta tl tk vl g h2_11 b d bg f38_B_H_g (by first | omega | assumption) (by first | omega | assumption) (by first | omega | assumption) (by first | omega | assumption) (by first | omega | assumption) (by first | omega | assumption)) 2 rfl gX8_water_X8_canBehind rfl (by decide +kernel) ⟨⟨Nat.le_of_ble_eq_true rfl, Nat.le_of_ble_eq_true rfl⟩, rfl, rfl, Nat.zero_le _, Nat.zero_le _⟩ 0 0 7 rfl rfl rfl rfl hl.1 rfl (Nat.le_of_ble_eq_true rfl) [0, 1, 3] [2] [wR cy (o 4) 3 rf] (fun (u_ : (Int → Int)) => [wO cy o ab be bl ta tl tk vl, wA cy (o 1) 192 g, wR cy (o 4) 3 rf, wA cy (o 5) 36 u_]) 4 (by decide +kernel) rfl rfl rfl (fun _ => rfl) (fun _ => rfl) (fun _ => rfl) dX8_water_46 (fun z_12 u_ H_ lo_ hw_ W_ => ?_)
          obtain ⟨h2_13, rfl⟩ : ∃ x, x = u_ := ⟨_, rfl⟩
          have W_ : WD D A_ s_.heap ([wO cy o ab be bl ta tl tk vl, wA cy (o 1) 192 g, wR cy (o 4) 3 rf, wA cy (o 5) 36 h2_13]) H_ lo_ := W_
          replace hw_ : ((z_12 = 1 ∧ canG (goG g b (lstG g b)) b d) ∨ (z_12 = 0 ∧ ¬ canG (goG g b (lstG g b)) b d)) ∧ (∀ j : Int, 0 ≤ h2_13 j ∧ h2_13 j ≤ 99) := hw_
          obtain ⟨f46_v, f46_B_H_g⟩ := hw_
          have e46 : z_12 = canZ (goG g b (lstG g b)) b d := canZ_of f46_v
          have r46 : z_12 = 0 ∨ z_12 = 1 := f46_v.elim (fun q => Or.inr q.1) (fun q => Or.inl q.1)
          clear f46_v
          refine lv_istore (lv' := [(5, .int (zi z_12)), (4, .int (zi z_10)), (0, .ref (o 0)), (1, .int (zi a)), (2, .int (zi b)), (3, .int (zi d))]) F_.1 F_.2.1 dX8_water_49 hl (by decide) rfl (fun ls_ hl => ?_)
          refine lv_aload_n F_.1 F_.2.1 dX8_water_51 rfl (lv_at hl 2 rfl) ?_
          refine z_get F_ K_ W_ 0 0 0 rfl rfl rfl (C := RX8) (T := TX8) (N := 19) rfl (by decide) hinX8 (List.mem_of_getElem? (i := 1) rfl) dX8_water_52 ?_
          refine lv_iload_n F_.1 F_.2.1 dX8_water_55 rfl (lv_at hl 3 rfl) ?_
          refine lv_iload_n F_.1 F_.2.1 dX8_water_56 rfl (lv_at hl 5 rfl) ?_
          refine z_callSip F_ K_ W_ [.ref (o 1), .int (zi a), .int (zi d)] (c_X8_canSail l_ D cy (o 1) 192 g a d bg (by first | omega | assumption) (by first | omega | assumption) (by first | omega | assumption) (by first | omega | assumption) (by first | omega | assumption) (by first | omega | assumption)) 3 rfl gX8_water_X8_canSail rfl (by decide +kernel) ⟨⟨Nat.le_of_ble_eq_true rfl, Nat.le_of_ble_eq_true rfl⟩, rfl, rfl, Nat.zero_le _, Nat.zero_le _⟩ hl.1 rfl (Nat.le_of_ble_eq_true rfl) [1] [0, 2, 3] [wO cy o ab be bl ta tl tk vl, wR cy (o 4) 3 rf, wA cy (o 5) 36 h2_13] 4 (by decide +kernel) rfl rfl rfl dX8_water_57 (fun z_14 _ H_ lo_ hw_ W_ => ?_)
          replace hw_ : ((z_14 = 1 ∧ canG g a d) ∨ (z_14 = 0 ∧ ¬ canG g a d)) := hw_
          have f57_v := hw_
          clear hw_
          have e57 : z_14 = canZ g a d := canZ_of f57_v
          have r57 : z_14 = 0 ∨ z_14 = 1 := f57_v.elim (fun q => Or.inr q.1) (fun q => Or.inl q.1)
          clear f57_v
          refine lv_istore (lv' := [(6, .int (zi z_14)), (5, .int (zi z_12)), (4, .int (zi z_10)), (0, .ref (o 0)), (1, .int (zi a)), (2, .int (zi b)), (3, .int (zi d))]) F_.1 F_.2.1 dX8_water_60 hl (by decide) rfl (fun ls_ hl => ?_)
          refine lv_aload_n F_.1 F_.2.1 dX8_water_62 rfl (lv_at hl 3 rfl) ?_
          refine z_get F_ K_ W_ 0 0 0 rfl rfl rfl (C := RX8) (T := TX8) (N := 19) rfl (by decide) hinX8 (List.mem_of_getElem? (i := 1) rfl) dX8_water_63 ?_
          refine lv_iload_n F_.1 F_.2.1 dX8_water_66 rfl (lv_at hl 5 rfl) ?_
          refine lv_iload_n F_.1 F_.2.1 dX8_water_67 rfl (lv_at hl 6 rfl) ?_
          refine z_callSip F_ K_ W_ [.ref (o 1), .int (zi b), .int (zi d)] (c_X8_canSail l_ D cy (o 1) 192 g b d bg (by first | omega | assumption) (by first | omega | assumption) (by first | omega | assumption) (by first | omega | assumption) (by first | omega | assumption) (by first | omega | assumption)) 3 rfl gX8_water_X8_canSail rfl (by decide +kernel) ⟨⟨Nat.le_of_ble_eq_true rfl, Nat.le_of_ble_eq_true rfl⟩, rfl, rfl, Nat.zero_le _, Nat.zero_le _⟩ hl.1 rfl (Nat.le_of_ble_eq_true rfl) [1] [0, 2, 3] [wO cy o ab be bl ta tl tk vl, wR cy (o 4) 3 rf, wA cy (o 5) 36 h2_13] 4 (by decide +kernel) rfl rfl rfl dX8_water_68 (fun z_15 _ H_ lo_ hw_ W_ => ?_)
          replace hw_ : ((z_15 = 1 ∧ canG g b d) ∨ (z_15 = 0 ∧ ¬ canG g b d)) := hw_
          have f68_v := hw_
          clear hw_
          have e68 : z_15 = canZ g b d := canZ_of f68_v
          have r68 : z_15 = 0 ∨ z_15 = 1 := f68_v.elim (fun q => Or.inr q.1) (fun q => Or.inl q.1)
          clear f68_v
          refine lv_istore (lv' := [(7, .int (zi z_15)), (6, .int (zi z_14)), (5, .int (zi z_12)), (4, .int (zi z_10)), (0, .ref (o 0)), (1, .int (zi a)), (2, .int (zi b)), (3, .int (zi d))]) F_.1 F_.2.1 dX8_water_71 hl (by decide) rfl (fun ls_ hl => ?_)
          refine z_iconst F_ dX8_water_73 ?_
          refine lv_istore (lv' := [(8, .int (zi 0)), (7, .int (zi z_15)), (6, .int (zi z_14)), (5, .int (zi z_12)), (4, .int (zi z_10)), (0, .ref (o 0)), (1, .int (zi a)), (2, .int (zi b)), (3, .int (zi d))]) F_.1 F_.2.1 dX8_water_74 hl (by decide) rfl (fun ls_ hl => ?_)
          refine z_iconst F_ dX8_water_76 ?_
          refine lv_istore (lv' := [(9, .int (zi 0)), (8, .int (zi 0)), (7, .int (zi z_15)), (6, .int (zi z_14)), (5, .int (zi z_12)), (4, .int (zi z_10)), (0, .ref (o 0)), (1, .int (zi a)), (2, .int (zi b)), (3, .int (zi d))]) F_.1 F_.2.1 dX8_water_77 hl (by decide) rfl (fun ls_ hl => ?_)
          have L79 : ∀ (n_ : Nat) (x : Int) (k : Int) (hk : 0 ≤ k ∧ k ≤ 4) (hx : x = watZ z_10 z_12 z_14 z_15 k) (hm_ : (4 - k : Int) < (n_ : Int)) (ls_ : Array Slot) (H_ : Heap) (lo_ : List Loc), WD D A_ s_.heap ([wO cy o ab be bl ta tl tk vl, wA cy (o 1) 192 g, wR cy (o 4) 3 rf, wA cy (o 5) 36 h2_13]) H_ lo_ → lv_has ls_ 13 [(9, .int (zi k)), (8, .int (zi x)), (7, .int (zi z_15)), (6, .int (zi z_14)), (5, .int (zi z_12)), (4, .int (zi z_10)), (0, .ref (o 0)), (1, .int (zi a)), (2, .int (zi b)), (3, .int (zi d))] → W p_ l_ e_ rX8_water s_ m_ ar_ be_ me_ c_ H_ lo_ 0 0 Q_ (F0 m_ 79 ls_ []) := by
            intro n_
            induction n_ with
            | zero =>
              intro x k hk hx hm_ ls_ H_ lo_ _ _
              exact absurd hm_ (by omega)
            | succ n_ ih_ =>
              intro x k hk hx hm_ ls_ H_ lo_ W_ hl
              have ih79 := ih_
              refine lv_iload F_.1 F_.2.1 dX8_water_79 (lv_at hl 0 rfl) ?_
              refine z_iconst F_ dX8_water_81 ?_
              refine z_icmp_ge (tgt := 182) F_ (by omega) dX8_water_82 (by decide) (fun c82 => ?_) (fun c82 => ?_)
              · refine lv_iload F_.1 F_.2.1 dX8_water_182 (lv_at hl 1 rfl) ?_
                exact hret _ _ _ _ x (rf, h2_13) dX8_water_184 ⟨(by exact Or.inl ⟨hok, by rw [hx, show k = 4 by omega, e38, e46, e57, e68], rfl⟩), f46_B_H_g⟩ W_
              · have hzb : 0 ≤ x ∧ x < zpw k := by rw [hx]; exact bitZ_b _ 1 hk.1
                have hp8 := zpw_le (show k ≤ 3 by omega)
                have hp7 : zpw 3 = 8 := rfl
                have hp1 := zpw_pos k
                refine lv_iload F_.1 F_.2.1 dX8_water_85 (lv_at hl 0 rfl) ?_
                refine z_iconst F_ dX8_water_87 ?_
                refine z_iand F_ (by omega) dX8_water_88 ?_
                have i_16 : zand k 1 = k % 2 := by exact zand_1 hk.1
                rw [i_16]
                refine lv_istore (lv' := [(10, .int (zi (k % 2))), (9, .int (zi k)), (8, .int (zi x)), (7, .int (zi z_15)), (6, .int (zi z_14)), (5, .int (zi z_12)), (4, .int (zi z_10)), (0, .ref (o 0)), (1, .int (zi a)), (2, .int (zi b)), (3, .int (zi d))]) F_.1 F_.2.1 dX8_water_89 hl (by decide) rfl (fun ls_ hl => ?_)
                refine lv_iload F_.1 F_.2.1 dX8_water_91 (lv_at hl 1 rfl) ?_
                refine z_iconst F_ dX8_water_93 ?_
                refine z_ishr F_ (by omega) dX8_water_94 ?_
                have i_17 : k / zpw 1 = k / 2 := by rfl
                rw [i_17]
                refine lv_istore (lv' := [(11, .int (zi (k / 2))), (10, .int (zi (k % 2))), (9, .int (zi k)), (8, .int (zi x)), (7, .int (zi z_15)), (6, .int (zi z_14)), (5, .int (zi z_12)), (4, .int (zi z_10)), (0, .ref (o 0)), (1, .int (zi a)), (2, .int (zi b)), (3, .int (zi d))]) F_.1 F_.2.1 dX8_water_95 hl (by decide) rfl (fun ls_ hl => ?_)
                refine lv_iload F_.1 F_.2.1 dX8_water_97 (lv_at hl 1 rfl) ?_
                refine lv_iload F_.1 F_.2.1 dX8_water_99 (lv_at hl 0 rfl) ?_
                refine lv_iload F_.1 F_.2.1 dX8_water_101 (lv_at hl 7 rfl) ?_
                refine lv_iload F_.1 F_.2.1 dX8_water_103 (lv_at hl 5 rfl) ?_
                refine z_callSip F_ K_ W_ [.int (zi (k % 2)), .int (zi (k / 2)), .int (zi z_10), .int (zi z_14)] (c_X8_getsBy l_ D cy (k % 2) (k / 2) z_10 z_14 (by first | omega | assumption) (by first | omega | assumption) (by first | omega | assumption) (by first | omega | assumption) (by first | omega | assumption)) 4 rfl gX8_water_X8_getsBy rfl (by decide +kernel) ⟨⟨Nat.le_of_ble_eq_true rfl, Nat.le_of_ble_eq_true rfl⟩, rfl, rfl, Nat.zero_le _, Nat.zero_le _⟩ hl.1 rfl (Nat.le_of_ble_eq_true rfl) ([] : List Nat) [0, 1, 2, 3] [wO cy o ab be bl ta tl tk vl, wA cy (o 1) 192 g, wR cy (o 4) 3 rf, wA cy (o 5) 36 h2_13] 4 (by decide +kernel) rfl rfl rfl dX8_water_105 (fun z_18 _ H_ lo_ hw_ W_ => ?_)
                replace hw_ : (z_18 = gbZ (k % 2) (k / 2) z_10 z_14) := hw_
                have f105_v := hw_
                clear hw_
                have f105_v := f105_v.symm
                subst f105_v
                have hg105 := gbZ_b _ _ _ _ |> fun (q : -7 ≤ (gbZ (k % 2) (k / 2) z_10 z_14) ∧ (gbZ (k % 2) (k / 2) z_10 z_14) ≤ 6) => q
                refine z_iconst F_ dX8_water_108 ?_
                refine lv_iload F_.1 F_.2.1 dX8_water_109 (lv_at hl 1 rfl) ?_
                refine z_isub F_ dX8_water_111 ?_
                refine lv_iload F_.1 F_.2.1 dX8_water_112 (lv_at hl 0 rfl) ?_
                refine lv_iload F_.1 F_.2.1 dX8_water_114 (lv_at hl 7 rfl) ?_
                refine lv_iload F_.1 F_.2.1 dX8_water_116 (lv_at hl 5 rfl) ?_
                refine z_callSip F_ K_ W_ [.int (zi (1 - (k % 2))), .int (zi (k / 2)), .int (zi z_10), .int (zi z_14)] (c_X8_getsBy l_ D cy (1 - (k % 2)) (k / 2) z_10 z_14 (by first | omega | assumption) (by first | omega | assumption) (by first | omega | assumption) (by first | omega | assumption) (by first | omega | assumption)) 4 rfl gX8_water_X8_getsBy rfl (by decide +kernel) ⟨⟨Nat.le_of_ble_eq_true rfl, Nat.le_of_ble_eq_true rfl⟩, rfl, rfl, Nat.zero_le _, Nat.zero_le _⟩ hl.1 rfl (Nat.le_of_ble_eq_true rfl) ([] : List Nat) [0, 1, 2, 3] [wO cy o ab be bl ta tl tk vl, wA cy (o 1) 192 g, wR cy (o 4) 3 rf, wA cy (o 5) 36 h2_13] 4 (by decide +kernel) rfl rfl rfl dX8_water_118 (fun z_19 _ H_ lo_ hw_ W_ => ?_)
                replace hw_ : (z_19 = gbZ (1 - (k % 2)) (k / 2) z_10 z_14) := hw_
                have f118_v := hw_
                clear hw_
                have f118_v := f118_v.symm
                subst f118_v
                have hg118 := gbZ_b _ _ _ _ |> fun (q : -7 ≤ (gbZ (1 - (k % 2)) (k / 2) z_10 z_14) ∧ (gbZ (1 - (k % 2)) (k / 2) z_10 z_14) ≤ 6) => q
                have J156 : ∀ (j156_12 : Int) (hj : j156_12 = resZ z_10 z_12 z_14 z_15 k) (hjb : j156_12 = 0 ∨ j156_12 = 1) (ls_ : Array Slot) (H_ : Heap) (lo_ : List Loc), WD D A_ s_.heap ([wO cy o ab be bl ta tl tk vl, wA cy (o 1) 192 g, wR cy (o 4) 3 rf, wA cy (o 5) 36 h2_13]) H_ lo_ → lv_has ls_ 13 [(11, .int (zi (k / 2))), (10, .int (zi (k % 2))), (9, .int (zi k)), (8, .int (zi x)), (7, .int (zi z_15)), (6, .int (zi z_14)), (5, .int (zi z_12)), (4, .int (zi z_10)), (0, .ref (o 0)), (1, .int (zi a)), (2, .int (zi b)), (3, .int (zi d))] → W p_ l_ e_ rX8_water s_ m_ ar_ be_ me_ c_ H_ lo_ 0 0 Q_ (F0 m_ 156 ls_ [.int (zi j156_12)]) := by
                  intro j156_12 hj hjb ls_ H_ lo_ W_ hl
                  refine lv_istore (lv' := [(12, .int (zi j156_12)), (11, .int (zi (k / 2))), (10, .int (zi (k % 2))), (9, .int (zi k)), (8, .int (zi x)), (7, .int (zi z_15)), (6, .int (zi z_14)), (5, .int (zi z_12)), (4, .int (zi z_10)), (0, .ref (o 0)), (1, .int (zi a)), (2, .int (zi b)), (3, .int (zi d))]) F_.1 F_.2.1 dX8_water_156 hl (by decide) rfl (fun ls_ hl => ?_)
                  refine lv_iload F_.1 F_.2.1 dX8_water_158 (lv_at hl 4 rfl) ?_
                  refine lv_iload F_.1 F_.2.1 dX8_water_160 (lv_at hl 0 rfl) ?_
                  refine z_if_eq (tgt := 172) F_ (by omega) dX8_water_162 (by decide) (fun c162 => ?_) (fun c162 => ?_)
                  · refine z_iconst F_ dX8_water_172 ?_
                    refine z_ior F_ (by omega) dX8_water_173 ?_
                    obtain ⟨w_20, ew_20, fw_20⟩ : ∃ y_ : Int, y_ = zor x 0 ∧ ((j156_12 = 1 ∧ y_ = x + zpw k) ∨ (j156_12 = 0 ∧ y_ = x)) := ⟨_, rfl, by first | exact Or.inl ⟨by omega, zor_pw hzb⟩ | exact Or.inr ⟨by omega, zor_0 (by omega)⟩⟩
                    rw [← ew_20]
                    refine lv_istore (lv' := [(8, .int (zi w_20)), (12, .int (zi j156_12)), (11, .int (zi (k / 2))), (10, .int (zi (k % 2))), (9, .int (zi k)), (7, .int (zi z_15)), (6, .int (zi z_14)), (5, .int (zi z_12)), (4, .int (zi z_10)), (0, .ref (o 0)), (1, .int (zi a)), (2, .int (zi b)), (3, .int (zi d))]) F_.1 F_.2.1 dX8_water_174 hl (by decide) rfl (fun ls_ hl => ?_)
                    refine z_iinc (lv' := [(9, .int (zi (k + 1))), (8, .int (zi w_20)), (12, .int (zi j156_12)), (11, .int (zi (k / 2))), (10, .int (zi (k % 2))), (7, .int (zi z_15)), (6, .int (zi z_14)), (5, .int (zi z_12)), (4, .int (zi z_10)), (0, .ref (o 0)), (1, .int (zi a)), (2, .int (zi b)), (3, .int (zi d))]) F_ dX8_water_176 hl (k := 4) rfl (by decide) rfl (fun ls_ hl => ?_)
                    refine z_goto (tgt := 79) F_ dX8_water_179 (by decide) ?_
                    exact ih79 w_20 (k + 1) (by first | omega | assumption) (by rw [watZ_s _ _ _ _ hk.1, ← hx, ← hj]; split <;> omega) (by omega) ls_ H_ lo_ W_ (lv_sub hl [0, 1, 5, 6, 7, 8, 9, 10, 11, 12] rfl)
                  · refine z_iconst F_ dX8_water_165 ?_
                    refine lv_iload F_.1 F_.2.1 dX8_water_166 (lv_at hl 3 rfl) ?_
                    refine z_ishl F_ (by rw [Int.one_mul]; omega) dX8_water_168 ?_
                    have i_21 : 1 * zpw k = zpw k := by exact Int.one_mul _
                    rw [i_21]
                    refine z_goto (tgt := 173) F_ dX8_water_169 (by decide) ?_
                    refine z_ior F_ (by omega) dX8_water_173 ?_
                    obtain ⟨w_22, ew_22, fw_22⟩ : ∃ y_ : Int, y_ = zor x (zpw k) ∧ ((j156_12 = 1 ∧ y_ = x + zpw k) ∨ (j156_12 = 0 ∧ y_ = x)) := ⟨_, rfl, by first | exact Or.inl ⟨by omega, zor_pw hzb⟩ | exact Or.inr ⟨by omega, zor_0 (by omega)⟩⟩
                    rw [← ew_22]
                    refine lv_istore (lv' := [(8, .int (zi w_22)), (12, .int (zi j156_12)), (11, .int (zi (k / 2))), (10, .int (zi (k % 2))), (9, .int (zi k)), (7, .int (zi z_15)), (6, .int (zi z_14)), (5, .int (zi z_12)), (4, .int (zi z_10)), (0, .ref (o 0)), (1, .int (zi a)), (2, .int (zi b)), (3, .int (zi d))]) F_.1 F_.2.1 dX8_water_174 hl (by decide) rfl (fun ls_ hl => ?_)
                    refine z_iinc (lv' := [(9, .int (zi (k + 1))), (8, .int (zi w_22)), (12, .int (zi j156_12)), (11, .int (zi (k / 2))), (10, .int (zi (k % 2))), (7, .int (zi z_15)), (6, .int (zi z_14)), (5, .int (zi z_12)), (4, .int (zi z_10)), (0, .ref (o 0)), (1, .int (zi a)), (2, .int (zi b)), (3, .int (zi d))]) F_ dX8_water_176 hl (k := 4) rfl (by decide) rfl (fun ls_ hl => ?_)
                    refine z_goto (tgt := 79) F_ dX8_water_179 (by decide) ?_
                    exact ih79 w_22 (k + 1) (by first | omega | assumption) (by rw [watZ_s _ _ _ _ hk.1, ← hx, ← hj]; split <;> omega) (by omega) ls_ H_ lo_ W_ (lv_sub hl [0, 1, 5, 6, 7, 8, 9, 10, 11, 12] rfl)
                have J155 : ∀ (g155 : ((gbZ (k % 2) (k / 2) z_10 z_14 < gbZ (1 - (k % 2)) (k / 2) z_10 z_14)) ∨ ((gbZ (1 - (k % 2)) (k / 2) z_10 z_14 ≤ gbZ (k % 2) (k / 2) z_10 z_14) ∧ (gbZ (k / 2) (k % 2) z_12 z_15 < gbZ (1 - (k / 2)) (k % 2) z_12 z_15))) (ls_ : Array Slot) (H_ : Heap) (lo_ : List Loc), WD D A_ s_.heap ([wO cy o ab be bl ta tl tk vl, wA cy (o 1) 192 g, wR cy (o 4) 3 rf, wA cy (o 5) 36 h2_13]) H_ lo_ → lv_has ls_ 13 [(11, .int (zi (k / 2))), (10, .int (zi (k % 2))), (9, .int (zi k)), (8, .int (zi x)), (7, .int (zi z_15)), (6, .int (zi z_14)), (5, .int (zi z_12)), (4, .int (zi z_10)), (0, .ref (o 0)), (1, .int (zi a)), (2, .int (zi b)), (3, .int (zi d))] → W p_ l_ e_ rX8_water s_ m_ ar_ be_ me_ c_ H_ lo_ 0 0 Q_ (F0 m_ 155 ls_ []) := by
                  intro g155 ls_ H_ lo_ W_ hl
                  refine z_iconst F_ dX8_water_155 ?_
                  exact J156 0 (by unfold resZ; first | (rw [if_pos ⟨by omega, by omega⟩]) | (rw [if_neg (fun q => by have h1 := q.1; have h2 := q.2; omega)])) (by first | omega | assumption) ls_ H_ lo_ W_ (lv_sub hl [0, 1, 2, 3, 4, 5, 6, 7, 8, 9, 10, 11] rfl)
                refine z_icmp_lt (tgt := 155) F_ (by omega) dX8_water_121 (by decide) (fun c121 => ?_) (fun c121 => ?_)
                · exact J155 (by first | omega | grind) ls_ H_ lo_ W_ (lv_sub hl [0, 1, 2, 3, 4, 5, 6, 7, 8, 9, 10, 11] rfl)
                · refine lv_iload F_.1 F_.2.1 dX8_water_124 (lv_at hl 0 rfl) ?_
                  refine lv_iload F_.1 F_.2.1 dX8_water_126 (lv_at hl 1 rfl) ?_
                  refine lv_iload F_.1 F_.2.1 dX8_water_128 (lv_at hl 6 rfl) ?_
                  refine lv_iload F_.1 F_.2.1 dX8_water_130 (lv_at hl 4 rfl) ?_
                  refine z_callSip F_ K_ W_ [.int (zi (k / 2)), .int (zi (k % 2)), .int (zi z_12), .int (zi z_15)] (c_X8_getsBy l_ D cy (k / 2) (k % 2) z_12 z_15 (by first | omega | assumption) (by first | omega | assumption) (by first | omega | assumption) (by first | omega | assumption) (by first | omega | assumption)) 4 rfl gX8_water_X8_getsBy rfl (by decide +kernel) ⟨⟨Nat.le_of_ble_eq_true rfl, Nat.le_of_ble_eq_true rfl⟩, rfl, rfl, Nat.zero_le _, Nat.zero_le _⟩ hl.1 rfl (Nat.le_of_ble_eq_true rfl) ([] : List Nat) [0, 1, 2, 3] [wO cy o ab be bl ta tl tk vl, wA cy (o 1) 192 g, wR cy (o 4) 3 rf, wA cy (o 5) 36 h2_13] 4 (by decide +kernel) rfl rfl rfl dX8_water_132 (fun z_23 _ H_ lo_ hw_ W_ => ?_)
                  replace hw_ : (z_23 = gbZ (k / 2) (k % 2) z_12 z_15) := hw_
                  have f132_v := hw_
                  clear hw_
                  have f132_v := f132_v.symm
                  subst f132_v
                  have hg132 := gbZ_b _ _ _ _ |> fun (q : -7 ≤ (gbZ (k / 2) (k % 2) z_12 z_15) ∧ (gbZ (k / 2) (k % 2) z_12 z_15) ≤ 6) => q
                  refine z_iconst F_ dX8_water_135 ?_
                  refine lv_iload F_.1 F_.2.1 dX8_water_136 (lv_at hl 0 rfl) ?_
                  refine z_isub F_ dX8_water_138 ?_
                  refine lv_iload F_.1 F_.2.1 dX8_water_139 (lv_at hl 1 rfl) ?_
                  refine lv_iload F_.1 F_.2.1 dX8_water_141 (lv_at hl 6 rfl) ?_
                  refine lv_iload F_.1 F_.2.1 dX8_water_143 (lv_at hl 4 rfl) ?_
                  refine z_callSip F_ K_ W_ [.int (zi (1 - (k / 2))), .int (zi (k % 2)), .int (zi z_12), .int (zi z_15)] (c_X8_getsBy l_ D cy (1 - (k / 2)) (k % 2) z_12 z_15 (by first | omega | assumption) (by first | omega | assumption) (by first | omega | assumption) (by first | omega | assumption) (by first | omega | assumption)) 4 rfl gX8_water_X8_getsBy rfl (by decide +kernel) ⟨⟨Nat.le_of_ble_eq_true rfl, Nat.le_of_ble_eq_true rfl⟩, rfl, rfl, Nat.zero_le _, Nat.zero_le _⟩ hl.1 rfl (Nat.le_of_ble_eq_true rfl) ([] : List Nat) [0, 1, 2, 3] [wO cy o ab be bl ta tl tk vl, wA cy (o 1) 192 g, wR cy (o 4) 3 rf, wA cy (o 5) 36 h2_13] 4 (by decide +kernel) rfl rfl rfl dX8_water_145 (fun z_24 _ H_ lo_ hw_ W_ => ?_)
                  replace hw_ : (z_24 = gbZ (1 - (k / 2)) (k % 2) z_12 z_15) := hw_
                  have f145_v := hw_
                  clear hw_
                  have f145_v := f145_v.symm
                  subst f145_v
                  have hg145 := gbZ_b _ _ _ _ |> fun (q : -7 ≤ (gbZ (1 - (k / 2)) (k % 2) z_12 z_15) ∧ (gbZ (1 - (k / 2)) (k % 2) z_12 z_15) ≤ 6) => q
                  refine z_icmp_lt (tgt := 155) F_ (by omega) dX8_water_148 (by decide) (fun c148 => ?_) (fun c148 => ?_)
                  · exact J155 (by first | omega | grind) ls_ H_ lo_ W_ (lv_sub hl [0, 1, 2, 3, 4, 5, 6, 7, 8, 9, 10, 11] rfl)
                  · refine z_iconst F_ dX8_water_151 ?_
                    refine z_goto (tgt := 156) F_ dX8_water_152 (by decide) ?_
                    exact J156 1 (by unfold resZ; first | (rw [if_pos ⟨by omega, by omega⟩]) | (rw [if_neg (fun q => by have h1 := q.1; have h2 := q.2; omega)])) (by first | omega | assumption) ls_ H_ lo_ W_ (lv_sub hl [0, 1, 2, 3, 4, 5, 6, 7, 8, 9, 10, 11] rfl)
          exact L79 ((4 - 0 : Int).toNat + 1) 0 0 (by first | omega | assumption) (by rfl) (by have := Int.self_le_toNat (4 - 0 : Int); omega) ls_ H_ lo_ W_ (lv_sub hl [0, 1, 2, 3, 4, 5, 6, 7, 8, 9] rfl)
        · refine lv_aload_n F_.1 F_.2.1 dX8_water_28 rfl (lv_at hl 0 rfl) ?_
          refine z_bipush F_ (by decide) dX8_water_29 ?_
          refine z_callVi F_ K_ W_ [.int (zi (-2))] (c_X8_bad l_ D cy o ab be bl ta tl tk vl rf (-2) (by first | omega | assumption)) 1 rfl gX8_water_X8_bad rfl (by decide +kernel) ⟨⟨Nat.le_of_ble_eq_true rfl, Nat.le_of_ble_eq_true rfl⟩, rfl, rfl, Nat.zero_le _, Nat.zero_le _⟩ 0 0 7 rfl rfl rfl rfl hl.1 rfl (Nat.le_of_ble_eq_true rfl) [0, 2] [1, 3] [wA cy (o 1) 192 g, wA cy (o 5) 36 hd] (fun (u_ : (Int → Int)) => [wO cy o ab be bl ta tl tk vl, wA cy (o 1) 192 g, wR cy (o 4) 3 u_, wA cy (o 5) 36 hd]) 4 (by decide +kernel) rfl rfl rfl (fun _ => rfl) (fun _ => rfl) (fun _ => rfl) dX8_water_31 (fun z_25 u_ H_ lo_ hw_ W_ => ?_)
          obtain ⟨rf2_26, rfl⟩ : ∃ x, x = u_ := ⟨_, rfl⟩
          have W_ : WD D A_ s_.heap ([wO cy o ab be bl ta tl tk vl, wA cy (o 1) 192 g, wR cy (o 4) 3 rf2_26, wA cy (o 5) 36 hd]) H_ lo_ := W_
          replace hw_ : (z_25 = (-2)) ∧ (rf2_26 = rfZ rf 0) := hw_
          obtain ⟨f31_v, f31_r⟩ := hw_
          exact hret _ _ _ _ z_25 (rf2_26, hd) dX8_water_34 ⟨(by exact Or.inr ⟨by omega, by omega, by assumption⟩), bhd⟩ W_
abbrev rX8_fraction : Room := { frames := 0, cells := 0, slots := 0, locals := 0 }
set_option maxHeartbeats 1000000 in
set_option maxRecDepth 100000 in
theorem c_X8_fraction (l_ : Launch) (D : va_G) (cy : Nat → ClassId) (o : Nat → Nat) (ab : Int) (be : Int) (bl : Int) (ta : Int) (tl : Int) (tk : Int) (vl : Int) (a : Int) (b : Int) (ha : 0 ≤ a ∧ a ≤ 8) (hb : 1 ≤ b ∧ b ≤ 8) : CTv l_ D cy yX8_fraction wsX8_fraction rX8_fraction [.ref (o 0), .long (zl a), .long (zl b)] ([wO cy o ab be bl ta tl tk vl]) (fun (u : Unit) => True) (fun (u : Unit) => [wO cy o (a / gcdZ a b) (b / gcdZ a b) bl ta tl tk vl]) := by
  refine CTv.of RX8 cX8_fraction 11 rfl (by decide) rfl (Nat.le_of_ble_eq_true rfl) ?_
  intro p_ e_ s_ m_ ar_ be_ me_ c_ Q_ A_ ls_ F_ K_ W_ hl hret
  have hl : lv_has ls_ 11 [(0, .ref (o 0)), (1, .long (zl a)), (3, .long (zl b))] := hl
  obtain ⟨H_, hH_⟩ : ∃ x, x = s_.heap := ⟨_, rfl⟩
  obtain ⟨lo_, hlo_⟩ : ∃ x : List Loc, x = [] := ⟨_, rfl⟩
  have W_ : WD D A_ s_.heap ([wO cy o ab be bl ta tl tk vl]) H_ lo_ := by rw [hH_, hlo_]; exact W_
  rw [← hlo_]
  suffices hg_ : W p_ l_ e_ rX8_fraction s_ m_ ar_ be_ me_ c_ H_ lo_ 0 0 Q_ (F0 m_ 0 ls_ []) by rw [hH_] at hg_; exact hg_
  clear hH_ hlo_
  have hinX8 : ∀ w ∈ u_ws RX8 TX8 19, w ∈ wsX8_fraction := fun w h => List.mem_cons_of_mem _ (List.mem_append_right _ h)
  refine lv_lload_n F_.1 F_.2.1 dX8_fraction_0 rfl (lv_at hl 1 rfl) ?_
  refine lv_lstore (lv' := [(5, .long (zl a)), (0, .ref (o 0)), (1, .long (zl a)), (3, .long (zl b))]) F_.1 F_.2.1 dX8_fraction_1 hl (by decide) rfl (fun ls_ hl => ?_)
  refine lv_lload_n F_.1 F_.2.1 dX8_fraction_3 rfl (lv_at hl 3 rfl) ?_
  refine lv_lstore (lv' := [(7, .long (zl b)), (5, .long (zl a)), (0, .ref (o 0)), (1, .long (zl a)), (3, .long (zl b))]) F_.1 F_.2.1 dX8_fraction_4 hl (by decide) rfl (fun ls_ hl => ?_)
  have L6 : ∀ (n_ : Nat) (x : Int) (y : Int) (hx : 0 ≤ x ∧ x ≤ 8 ∧ 0 ≤ y ∧ y ≤ 8 ∧ (0 < x ∨ 0 < y)) (hg : gcdZ x y = gcdZ a b) (hm_ : (y : Int) < (n_ : Int)) (ls_ : Array Slot) (H_ : Heap) (lo_ : List Loc), WD D A_ s_.heap ([wO cy o ab be bl ta tl tk vl]) H_ lo_ → lv_has ls_ 11 [(7, .long (zl y)), (5, .long (zl x)), (0, .ref (o 0)), (1, .long (zl a)), (3, .long (zl b))] → W p_ l_ e_ rX8_fraction s_ m_ ar_ be_ me_ c_ H_ lo_ 0 0 Q_ (F0 m_ 6 ls_ []) := by
    intro n_
    induction n_ with
    | zero =>
      intro x y hx hg hm_ ls_ H_ lo_ _ _
      exact absurd hm_ (by omega)
    | succ n_ ih_ =>
      intro x y hx hg hm_ ls_ H_ lo_ W_ hl
      have ih6 := ih_
      refine lv_lload F_.1 F_.2.1 dX8_fraction_6 (lv_at hl 0 rfl) ?_
      refine z_lconst (z := 0) F_ rfl dX8_fraction_8 ?_
      refine z_lcmp F_ (by omega) dX8_fraction_9 ?_
      obtain ⟨q_1, hq_1⟩ : ∃ x : Int, x = (if 0 < y then 1 else if y = 0 then 0 else -1) := ⟨_, rfl⟩
      rw [← hq_1]
      have hq_1 := z_cmp3 hq_1
      refine z_if_eq (tgt := 31) F_ (by omega) dX8_fraction_10 (by decide) (fun c10 => ?_) (fun c10 => ?_)
      · have hy0 : y = 0 := by omega
        have hxg : x = gcdZ a b := by rw [← hg, hy0]; exact (gcdZ_0 hx.1).symm
        subst hxg
        refine lv_aload_n F_.1 F_.2.1 dX8_fraction_31 rfl (lv_at hl 2 rfl) ?_
        refine lv_lload_n F_.1 F_.2.1 dX8_fraction_32 rfl (lv_at hl 3 rfl) ?_
        refine lv_lload F_.1 F_.2.1 dX8_fraction_33 (lv_at hl 1 rfl) ?_
        refine z_ldiv F_ (by omega) dX8_fraction_35 ?_
        refine z_put (sg' := [wO cy o (a / (gcdZ a b)) be bl ta tl tk vl]) F_ K_ W_ 0 0 4 rfl rfl rfl (C := RX8) (T := TX8) (N := 19) rfl ⟨Nat.le_of_ble_eq_true rfl, Nat.le_of_ble_eq_true rfl⟩ tyX8 tyX8_ok nmX8 rfl rfl rfl hinX8 (List.mem_of_getElem? (i := 1) rfl) dX8_fraction_36 (fun H_ lo_ W_ => ?_)
        refine lv_aload_n F_.1 F_.2.1 dX8_fraction_39 rfl (lv_at hl 2 rfl) ?_
        refine lv_lload_n F_.1 F_.2.1 dX8_fraction_40 rfl (lv_at hl 4 rfl) ?_
        refine lv_lload F_.1 F_.2.1 dX8_fraction_41 (lv_at hl 1 rfl) ?_
        refine z_ldiv F_ (by omega) dX8_fraction_43 ?_
        refine z_put (sg' := [wO cy o (a / (gcdZ a b)) (b / (gcdZ a b)) bl ta tl tk vl]) F_ K_ W_ 0 0 5 rfl rfl rfl (C := RX8) (T := TX8) (N := 19) rfl ⟨Nat.le_of_ble_eq_true rfl, Nat.le_of_ble_eq_true rfl⟩ tyX8 tyX8_ok nmX8 rfl rfl rfl hinX8 (List.mem_of_getElem? (i := 2) rfl) dX8_fraction_44 (fun H_ lo_ W_ => ?_)
        exact hret _ _ _ _ () dX8_fraction_47 trivial W_
      · refine lv_lload F_.1 F_.2.1 dX8_fraction_13 (lv_at hl 1 rfl) ?_
        refine lv_lload F_.1 F_.2.1 dX8_fraction_15 (lv_at hl 0 rfl) ?_
        refine z_lrem F_ (by omega) dX8_fraction_17 ?_
        refine lv_lstore (lv' := [(9, .long (zl (x % y))), (7, .long (zl y)), (5, .long (zl x)), (0, .ref (o 0)), (1, .long (zl a)), (3, .long (zl b))]) F_.1 F_.2.1 dX8_fraction_18 hl (by decide) rfl (fun ls_ hl => ?_)
        refine lv_lload F_.1 F_.2.1 dX8_fraction_20 (lv_at hl 1 rfl) ?_
        refine lv_lstore (lv' := [(5, .long (zl y)), (9, .long (zl (x % y))), (7, .long (zl y)), (0, .ref (o 0)), (1, .long (zl a)), (3, .long (zl b))]) F_.1 F_.2.1 dX8_fraction_22 hl (by decide) rfl (fun ls_ hl => ?_)
        refine lv_lload F_.1 F_.2.1 dX8_fraction_24 (lv_at hl 1 rfl) ?_
        refine lv_lstore (lv' := [(7, .long (zl (x % y))), (5, .long (zl y)), (9, .long (zl (x % y))), (0, .ref (o 0)), (1, .long (zl a)), (3, .long (zl b))]) F_.1 F_.2.1 dX8_fraction_26 hl (by decide) rfl (fun ls_ hl => ?_)
        refine z_goto (tgt := 6) F_ dX8_fraction_28 (by decide) ?_
        exact ih6 y (x % y) (by have h1 := Int.emod_nonneg x (b := y) (by omega); have h2 := Int.emod_lt_of_pos x (b := y) (by omega); omega) (by rw [← hg]; exact gcdZ_s (by omega) (by omega)) (by have h2 := Int.emod_lt_of_pos x (b := y) (by omega); omega) ls_ H_ lo_ W_ (lv_sub hl [0, 1, 3, 4, 5] rfl)
  exact L6 ((b : Int).toNat + 1) a b (by first | omega | assumption) (by rfl) (by have := Int.self_le_toNat (b : Int); omega) ls_ H_ lo_ W_ (lv_sub hl [0, 1, 2, 3, 4] rfl)
abbrev rX8_lots : Room := { frames := 2, cells := 0, slots := 0, locals := 46 }
set_option maxHeartbeats 1000000 in
set_option maxRecDepth 100000 in
theorem c_X8_lots (l_ : Launch) (D : va_G) (cy : Nat → ClassId) (o : Nat → Nat) (ab : Int) (be : Int) (bl : Int) (ta : Int) (tl : Int) (tk : Int) (vl : Int) (g : Int → Int) (rf : Int → Int) (i : Int) (n : Int) (bg : ∀ j : Int, 0 ≤ g j ∧ g j ≤ 99) (ri : -2147483648 ≤ i ∧ i < 2147483648) (rn : -2147483648 ≤ n ∧ n < 2147483648) (hg0 : 0 ≤ g 0 ∧ g 0 ≤ 8) (hg1 : 0 ≤ g 1 ∧ g 1 ≤ 3) (hp : ∀ k, 0 ≤ k → k < g 0 → g (6 + k) ≤ 3) : CTi l_ D cy yX8_lots wsX8_lots rX8_lots [.ref (o 0), .int (zi i), .int (zi n)] ([wO cy o ab be bl ta tl tk vl, wA cy (o 1) 192 g, wR cy (o 4) 3 rf]) (fun (z : Int) (u : (Int → Int) × (Int) × (Int)) => ((¬ ((0 ≤ i ∧ i < g 0) ∧ 0 ≤ n ∧ n ≤ 8) ∧ z = -2 ∧ u.2.1 = ab ∧ u.2.2 = be ∧ u.1 = rfZ rf 0) ∨ (((0 ≤ i ∧ i < g 0) ∧ 0 ≤ n ∧ n ≤ 8) ∧ g (6 + i) = 0 ∧ z = -3 ∧ u.2.1 = ab ∧ u.2.2 = be ∧ u.1 = rfZ rf 1) ∨ (((0 ≤ i ∧ i < g 0) ∧ 0 ≤ n ∧ n ≤ 8) ∧ 0 < g (6 + i) ∧ z = 1 ∧ u.2.1 = (min n (cntG g (g (6 + i)))) / gcdZ (min n (cntG g (g (6 + i)))) (cntG g (g (6 + i))) ∧ u.2.2 = cntG g (g (6 + i)) / gcdZ (min n (cntG g (g (6 + i)))) (cntG g (g (6 + i))) ∧ u.1 = rf))) (fun (u : (Int → Int) × (Int) × (Int)) => [wO cy o u.2.1 u.2.2 bl ta tl tk vl, wA cy (o 1) 192 g, wR cy (o 4) 3 u.1]) := by
  refine CTi.of RX8 cX8_lots 5 rfl (by decide) rfl (fun z u hz => rfl) (Nat.le_of_ble_eq_true rfl) ?_
  intro p_ e_ s_ m_ ar_ be_ me_ c_ Q_ A_ ls_ F_ K_ W_ hl hret
  have hl : lv_has ls_ 5 [(0, .ref (o 0)), (1, .int (zi i)), (2, .int (zi n))] := hl
  obtain ⟨H_, hH_⟩ : ∃ x, x = s_.heap := ⟨_, rfl⟩
  obtain ⟨lo_, hlo_⟩ : ∃ x : List Loc, x = [] := ⟨_, rfl⟩
  have W_ : WD D A_ s_.heap ([wO cy o ab be bl ta tl tk vl, wA cy (o 1) 192 g, wR cy (o 4) 3 rf]) H_ lo_ := by rw [hH_, hlo_]; exact W_
  rw [← hlo_]
  suffices hg_ : W p_ l_ e_ rX8_lots s_ m_ ar_ be_ me_ c_ H_ lo_ 0 0 Q_ (F0 m_ 0 ls_ []) by rw [hH_] at hg_; exact hg_
  clear hH_ hlo_
  have hinX8 : ∀ w ∈ u_ws RX8 TX8 19, w ∈ wsX8_lots := fun w h => List.mem_cons_of_mem _ (List.mem_append_right _ h)
  refine lv_aload_n F_.1 F_.2.1 dX8_lots_0 rfl (lv_at hl 0 rfl) ?_
  refine lv_iload_n F_.1 F_.2.1 dX8_lots_1 rfl (lv_at hl 1 rfl) ?_
  refine z_callVip F_ K_ W_ [.int (zi i)] (c_X8_isMan l_ D cy o ab be bl ta tl tk vl g i bg (by first | omega | assumption) (by first | omega | assumption)) 1 rfl gX8_lots_X8_isMan rfl (by decide +kernel) ⟨⟨Nat.le_of_ble_eq_true rfl, Nat.le_of_ble_eq_true rfl⟩, rfl, rfl, Nat.zero_le _, Nat.zero_le _⟩ 0 0 7 rfl rfl rfl rfl hl.1 rfl (Nat.le_of_ble_eq_true rfl) [0, 1] [2] [wR cy (o 4) 3 rf] 3 (by decide +kernel) rfl rfl rfl dX8_lots_2 (fun z_1 _ H_ lo_ hw_ W_ => ?_)
  replace hw_ : ((z_1 = 1 ∧ (0 ≤ i ∧ i < g 0)) ∨ (z_1 = 0 ∧ ¬ (0 ≤ i ∧ i < g 0))) := hw_
  have f2_v := hw_
  clear hw_
  refine z_if_eq (tgt := 20) F_ (by omega) dX8_lots_5 (by decide) (fun c5 => ?_) (fun c5 => ?_)
  · refine lv_aload_n F_.1 F_.2.1 dX8_lots_20 rfl (lv_at hl 0 rfl) ?_
    refine z_bipush F_ (by decide) dX8_lots_21 ?_
    refine z_callVi F_ K_ W_ [.int (zi (-2))] (c_X8_bad l_ D cy o ab be bl ta tl tk vl rf (-2) (by first | omega | assumption)) 1 rfl gX8_lots_X8_bad rfl (by decide +kernel) ⟨⟨Nat.le_of_ble_eq_true rfl, Nat.le_of_ble_eq_true rfl⟩, rfl, rfl, Nat.zero_le _, Nat.zero_le _⟩ 0 0 7 rfl rfl rfl rfl hl.1 rfl (Nat.le_of_ble_eq_true rfl) [0, 2] [1] [wA cy (o 1) 192 g] (fun (u_ : (Int → Int)) => [wO cy o ab be bl ta tl tk vl, wA cy (o 1) 192 g, wR cy (o 4) 3 u_]) 3 (by decide +kernel) rfl rfl rfl (fun _ => rfl) (fun _ => rfl) (fun _ => rfl) dX8_lots_23 (fun z_2 u_ H_ lo_ hw_ W_ => ?_)
    obtain ⟨rf2_3, rfl⟩ : ∃ x, x = u_ := ⟨_, rfl⟩
    have W_ : WD D A_ s_.heap ([wO cy o ab be bl ta tl tk vl, wA cy (o 1) 192 g, wR cy (o 4) 3 rf2_3]) H_ lo_ := W_
    replace hw_ : (z_2 = (-2)) ∧ (rf2_3 = rfZ rf 0) := hw_
    obtain ⟨f23_v, f23_r⟩ := hw_
    exact hret _ _ _ _ z_2 (rf2_3, ab, be) dX8_lots_26 (by exact Or.inl ⟨by omega, by omega, rfl, rfl, by assumption⟩) W_
  · refine lv_iload_n F_.1 F_.2.1 dX8_lots_8 rfl (lv_at hl 2 rfl) ?_
    refine z_i2l F_ (by omega) dX8_lots_9 ?_
    refine z_lconst (z := 0) F_ rfl dX8_lots_10 ?_
    refine z_ldc2 (z := 8) F_ (F_.2.2.2.2 _ (List.mem_of_getElem? (i := 1) rfl)) rfl dX8_lots_11 ?_
    refine z_callSip F_ K_ W_ [.long (zl n), .long (zl 0), .long (zl 8)] (c_X8_in l_ D cy n 0 8 (by first | omega | assumption)) 3 rfl gX8_lots_X8_in rfl (by decide +kernel) ⟨⟨Nat.le_of_ble_eq_true rfl, Nat.le_of_ble_eq_true rfl⟩, rfl, rfl, Nat.zero_le _, Nat.zero_le _⟩ hl.1 rfl (Nat.le_of_ble_eq_true rfl) ([] : List Nat) [0, 1, 2] [wO cy o ab be bl ta tl tk vl, wA cy (o 1) 192 g, wR cy (o 4) 3 rf] 3 (by decide +kernel) rfl rfl rfl dX8_lots_14 (fun z_4 _ H_ lo_ hw_ W_ => ?_)
    replace hw_ : ((z_4 = 1 ∧ (0 ≤ n ∧ n ≤ 8)) ∨ (z_4 = 0 ∧ ¬ (0 ≤ n ∧ n ≤ 8))) := hw_
    have f14_v := hw_
    clear hw_
    refine z_if_ne (tgt := 27) F_ (by omega) dX8_lots_17 (by decide) (fun c17 => ?_) (fun c17 => ?_)
    · have hpi := hp i (by omega) (by omega)
      refine lv_aload_n F_.1 F_.2.1 dX8_lots_27 rfl (lv_at hl 0 rfl) ?_
      refine z_get F_ K_ W_ 0 0 0 rfl rfl rfl (C := RX8) (T := TX8) (N := 19) rfl (by decide) hinX8 (List.mem_of_getElem? (i := 2) rfl) dX8_lots_28 ?_
      refine z_bipush F_ (by decide) dX8_lots_31 ?_
      refine lv_iload_n F_.1 F_.2.1 dX8_lots_33 rfl (lv_at hl 1 rfl) ?_
      refine z_iadd F_ dX8_lots_34 ?_
      refine z_iald F_ K_ W_ 1 0 rfl rfl (by omega) (by decide) dX8_lots_35 ?_
      have b_5 := bg (6 + i)
      refine z_iconst F_ dX8_lots_36 ?_
      refine z_isub F_ dX8_lots_37 ?_
      refine lv_istore_n (lv' := [(3, .int (zi ((g (6 + i)) - 1))), (0, .ref (o 0)), (1, .int (zi i)), (2, .int (zi n))]) F_.1 F_.2.1 dX8_lots_38 rfl hl (by decide) rfl (fun ls_ hl => ?_)
      refine lv_iload_n F_.1 F_.2.1 dX8_lots_39 rfl (lv_at hl 0 rfl) ?_
      refine z_iconst F_ dX8_lots_40 ?_
      refine z_icmp_ne (tgt := 49) F_ (by omega) dX8_lots_41 (by decide) (fun c41 => ?_) (fun c41 => ?_)
      · refine lv_aload_n F_.1 F_.2.1 dX8_lots_49 rfl (lv_at hl 1 rfl) ?_
        refine z_get F_ K_ W_ 0 0 0 rfl rfl rfl (C := RX8) (T := TX8) (N := 19) rfl (by decide) hinX8 (List.mem_of_getElem? (i := 2) rfl) dX8_lots_50 ?_
        refine lv_iload_n F_.1 F_.2.1 dX8_lots_53 rfl (lv_at hl 0 rfl) ?_
        refine z_callSip F_ K_ W_ [.ref (o 1), .int (zi ((g (6 + i)) - 1))] (c_X8_aboard l_ D cy (o 1) 192 g ((g (6 + i)) - 1) bg (by first | omega | assumption) (by first | omega | assumption) (by first | omega | assumption) (by first | omega | assumption)) 2 rfl gX8_lots_X8_aboard rfl (by decide +kernel) ⟨⟨Nat.le_of_ble_eq_true rfl, Nat.le_of_ble_eq_true rfl⟩, rfl, rfl, Nat.zero_le _, Nat.zero_le _⟩ hl.1 rfl (Nat.le_of_ble_eq_true rfl) [1] [0, 2] [wO cy o ab be bl ta tl tk vl, wR cy (o 4) 3 rf] 3 (by decide +kernel) rfl rfl rfl dX8_lots_54 (fun z_6 _ H_ lo_ hw_ W_ => ?_)
        replace hw_ : (z_6 = cntG g (((g (6 + i)) - 1) + 1)) := hw_
        have f54_v := hw_
        clear hw_
        have f54_v := f54_v.symm
        subst f54_v
        have e54 : g (6 + i) - 1 + 1 = g (6 + i) := by omega
        rw [e54]
        have hcb : 0 ≤ cntG g (g (6 + i)) ∧ cntG g (g (6 + i)) ≤ g 0 := cntZ_b (shZ g 6) (g (6 + i)) (m := g 0) (by omega)
        have hcp : 0 < cntG g (g (6 + i)) := cntZ_pos (f := shZ g 6) (z := i) (by omega) (by omega) rfl
        refine lv_istore (lv' := [(4, .int (zi (cntG g (g (6 + i))))), (3, .int (zi ((g (6 + i)) - 1))), (0, .ref (o 0)), (1, .int (zi i)), (2, .int (zi n))]) F_.1 F_.2.1 dX8_lots_57 hl (by decide) rfl (fun ls_ hl => ?_)
        refine lv_aload_n F_.1 F_.2.1 dX8_lots_59 rfl (lv_at hl 2 rfl) ?_
        refine lv_iload_n F_.1 F_.2.1 dX8_lots_60 rfl (lv_at hl 4 rfl) ?_
        refine lv_iload F_.1 F_.2.1 dX8_lots_61 (lv_at hl 0 rfl) ?_
        have J74 : ∀ (w : Int) (hw : w = min n (cntG g (g (6 + i)))) (ls_ : Array Slot) (H_ : Heap) (lo_ : List Loc), WD D A_ s_.heap ([wO cy o ab be bl ta tl tk vl, wA cy (o 1) 192 g, wR cy (o 4) 3 rf]) H_ lo_ → lv_has ls_ 5 [(4, .int (zi (cntG g (g (6 + i))))), (3, .int (zi ((g (6 + i)) - 1))), (0, .ref (o 0)), (1, .int (zi i)), (2, .int (zi n))] → W p_ l_ e_ rX8_lots s_ m_ ar_ be_ me_ c_ H_ lo_ 0 0 Q_ (F0 m_ 74 ls_ [.long (zl w), .ref (o 0)]) := by
          intro w hw ls_ H_ lo_ W_ hl
          refine lv_iload F_.1 F_.2.1 dX8_lots_74 (lv_at hl 0 rfl) ?_
          refine z_i2l F_ (by omega) dX8_lots_76 ?_
          refine z_callVv F_ K_ W_ [.long (zl w), .long (zl (cntG g (g (6 + i))))] (c_X8_fraction l_ D cy o ab be bl ta tl tk vl w (cntG g (g (6 + i))) (by first | omega | assumption) (by first | omega | assumption)) 2 rfl gX8_lots_X8_fraction rfl (by decide +kernel) ⟨⟨Nat.le_of_ble_eq_true rfl, Nat.le_of_ble_eq_true rfl⟩, rfl, rfl, Nat.zero_le _, Nat.zero_le _⟩ 0 0 7 rfl rfl rfl rfl hl.1 rfl (Nat.le_of_ble_eq_true rfl) [0] [1, 2] [wA cy (o 1) 192 g, wR cy (o 4) 3 rf] (fun (u_ : Unit) => [wO cy o (w / gcdZ w (cntG g (g (6 + i)))) ((cntG g (g (6 + i))) / gcdZ w (cntG g (g (6 + i)))) bl ta tl tk vl, wA cy (o 1) 192 g, wR cy (o 4) 3 rf]) 3 (by decide +kernel) rfl rfl rfl (fun _ => rfl) (fun _ => rfl) (fun _ => rfl) dX8_lots_77 (fun u_ H_ lo_ hw_ W_ => ?_)
          have W_ : WD D A_ s_.heap ([wO cy o (w / gcdZ w (cntG g (g (6 + i)))) ((cntG g (g (6 + i))) / gcdZ w (cntG g (g (6 + i)))) bl ta tl tk vl, wA cy (o 1) 192 g, wR cy (o 4) 3 rf]) H_ lo_ := W_
          refine z_iconst F_ dX8_lots_80 ?_
          exact hret _ _ _ _ 1 (rf, w / gcdZ w (cntG g (g (6 + i))), (cntG g (g (6 + i))) / gcdZ w (cntG g (g (6 + i)))) dX8_lots_81 (by exact Or.inr (Or.inr ⟨by omega, by omega, rfl, by rw [hw], by rw [hw], rfl⟩)) W_
        refine z_icmp_ge (tgt := 71) F_ (by omega) dX8_lots_63 (by decide) (fun c63 => ?_) (fun c63 => ?_)
        · refine lv_iload F_.1 F_.2.1 dX8_lots_71 (lv_at hl 0 rfl) ?_
          refine z_i2l F_ (by omega) dX8_lots_73 ?_
          exact J74 (cntG g (g (6 + i))) (by first | omega | assumption) ls_ H_ lo_ W_ (lv_sub hl [0, 1, 2, 3, 4] rfl)
        · refine lv_iload_n F_.1 F_.2.1 dX8_lots_66 rfl (lv_at hl 4 rfl) ?_
          refine z_i2l F_ (by omega) dX8_lots_67 ?_
          refine z_goto (tgt := 74) F_ dX8_lots_68 (by decide) ?_
          exact J74 n (by first | omega | assumption) ls_ H_ lo_ W_ (lv_sub hl [0, 1, 2, 3, 4] rfl)
      · refine lv_aload_n F_.1 F_.2.1 dX8_lots_44 rfl (lv_at hl 1 rfl) ?_
        refine z_callVi F_ K_ W_ [] (c_X8_no l_ D cy o ab be bl ta tl tk vl rf) 0 rfl gX8_lots_X8_no rfl (by decide +kernel) ⟨⟨Nat.le_of_ble_eq_true rfl, Nat.le_of_ble_eq_true rfl⟩, rfl, rfl, Nat.zero_le _, Nat.zero_le _⟩ 0 0 7 rfl rfl rfl rfl hl.1 rfl (Nat.le_of_ble_eq_true rfl) [0, 2] [1] [wA cy (o 1) 192 g] (fun (u_ : (Int → Int)) => [wO cy o ab be bl ta tl tk vl, wA cy (o 1) 192 g, wR cy (o 4) 3 u_]) 3 (by decide +kernel) rfl rfl rfl (fun _ => rfl) (fun _ => rfl) (fun _ => rfl) dX8_lots_45 (fun z_8 u_ H_ lo_ hw_ W_ => ?_)
        obtain ⟨rf2_9, rfl⟩ : ∃ x, x = u_ := ⟨_, rfl⟩
        have W_ : WD D A_ s_.heap ([wO cy o ab be bl ta tl tk vl, wA cy (o 1) 192 g, wR cy (o 4) 3 rf2_9]) H_ lo_ := W_
        replace hw_ : (z_8 = -3) ∧ (rf2_9 = rfZ rf 1) := hw_
        obtain ⟨f45_v, f45_r⟩ := hw_
        exact hret _ _ _ _ z_8 (rf2_9, ab, be) dX8_lots_48 (by exact Or.inr (Or.inl ⟨by omega, by omega, by omega, rfl, rfl, by assumption⟩)) W_
    · refine lv_aload_n F_.1 F_.2.1 dX8_lots_20 rfl (lv_at hl 0 rfl) ?_
      refine z_bipush F_ (by decide) dX8_lots_21 ?_
      refine z_callVi F_ K_ W_ [.int (zi (-2))] (c_X8_bad l_ D cy o ab be bl ta tl tk vl rf (-2) (by first | omega | assumption)) 1 rfl gX8_lots_X8_bad rfl (by decide +kernel) ⟨⟨Nat.le_of_ble_eq_true rfl, Nat.le_of_ble_eq_true rfl⟩, rfl, rfl, Nat.zero_le _, Nat.zero_le _⟩ 0 0 7 rfl rfl rfl rfl hl.1 rfl (Nat.le_of_ble_eq_true rfl) [0, 2] [1] [wA cy (o 1) 192 g] (fun (u_ : (Int → Int)) => [wO cy o ab be bl ta tl tk vl, wA cy (o 1) 192 g, wR cy (o 4) 3 u_]) 3 (by decide +kernel) rfl rfl rfl (fun _ => rfl) (fun _ => rfl) (fun _ => rfl) dX8_lots_23 (fun z_10 u_ H_ lo_ hw_ W_ => ?_)
      obtain ⟨rf2_11, rfl⟩ : ∃ x, x = u_ := ⟨_, rfl⟩
      have W_ : WD D A_ s_.heap ([wO cy o ab be bl ta tl tk vl, wA cy (o 1) 192 g, wR cy (o 4) 3 rf2_11]) H_ lo_ := W_
      replace hw_ : (z_10 = (-2)) ∧ (rf2_11 = rfZ rf 0) := hw_
      obtain ⟨f23_v, f23_r⟩ := hw_
      exact hret _ _ _ _ z_10 (rf2_11, ab, be) dX8_lots_26 (by exact Or.inl ⟨by omega, by omega, rfl, rfl, by assumption⟩) W_
abbrev rX8_centuries : Room := { frames := 4, cells := 0, slots := 0, locals := 91 }
set_option maxHeartbeats 1000000 in
set_option maxRecDepth 100000 in
theorem c_X8_centuries (l_ : Launch) (D : va_G) (cy : Nat → ClassId) (o : Nat → Nat) (ab : Int) (be : Int) (bl : Int) (ta : Int) (tl : Int) (tk : Int) (vl : Int) (g : Int → Int) (rf : Int → Int) (hd : Int → Int) (sd : Int) (n : Int) (bg : ∀ j : Int, 0 ≤ g j ∧ g j ≤ 99) (bhd : ∀ j : Int, 0 ≤ hd j ∧ hd j ≤ 99) (rsd : -2147483648 ≤ sd ∧ sd < 2147483648) (rn : -2147483648 ≤ n ∧ n < 2147483648) (hg0 : 0 ≤ g 0 ∧ g 0 ≤ 8) (hg1 : 0 ≤ g 1 ∧ g 1 ≤ 3) : CTi l_ D cy yX8_centuries wsX8_centuries rX8_centuries [.ref (o 0), .int (zi sd), .int (zi n)] ([wO cy o ab be bl ta tl tk vl, wA cy (o 1) 192 g, wR cy (o 4) 3 rf, wA cy (o 5) 36 hd]) (fun (z : Int) (u : (Int → Int) × (Int → Int)) => ((((0 ≤ sd ∧ sd ≤ 999999) ∧ (0 ≤ n ∧ n ≤ 60)) ∧ z = sumG (cenG g sd n).2 0 ∧ u.1 = rf) ∨ (¬ ((0 ≤ sd ∧ sd ≤ 999999) ∧ (0 ≤ n ∧ n ≤ 60)) ∧ z = -2 ∧ u.1 = rfZ rf 0)) ∧ (∀ j : Int, 0 ≤ u.2 j ∧ u.2 j ≤ 99)) (fun (u : (Int → Int) × (Int → Int)) => [wO cy o ab be bl ta tl tk vl, wA cy (o 1) 192 g, wR cy (o 4) 3 u.1, wA cy (o 5) 36 u.2]) := by
  refine CTi.of RX8 cX8_centuries 9 rfl (by decide) rfl (fun z u hz => rfl) (Nat.le_of_ble_eq_true rfl) ?_
  intro p_ e_ s_ m_ ar_ be_ me_ c_ Q_ A_ ls_ F_ K_ W_ hl hret
  have hl : lv_has ls_ 9 [(0, .ref (o 0)), (1, .int (zi sd)), (2, .int (zi n))] := hl
  obtain ⟨H_, hH_⟩ : ∃ x, x = s_.heap := ⟨_, rfl⟩
  obtain ⟨lo_, hlo_⟩ : ∃ x : List Loc, x = [] := ⟨_, rfl⟩
  have W_ : WD D A_ s_.heap ([wO cy o ab be bl ta tl tk vl, wA cy (o 1) 192 g, wR cy (o 4) 3 rf, wA cy (o 5) 36 hd]) H_ lo_ := by rw [hH_, hlo_]; exact W_
  rw [← hlo_]
  suffices hg_ : W p_ l_ e_ rX8_centuries s_ m_ ar_ be_ me_ c_ H_ lo_ 0 0 Q_ (F0 m_ 0 ls_ []) by rw [hH_] at hg_; exact hg_
  clear hH_ hlo_
  have hinX8 : ∀ w ∈ u_ws RX8 TX8 19, w ∈ wsX8_centuries := fun w h => List.mem_cons_of_mem _ (List.mem_append_right _ h)
  refine lv_iload_n F_.1 F_.2.1 dX8_centuries_0 rfl (lv_at hl 1 rfl) ?_
  refine z_i2l F_ (by omega) dX8_centuries_1 ?_
  refine z_lconst (z := 0) F_ rfl dX8_centuries_2 ?_
  refine z_ldc2 (z := 999999) F_ (F_.2.2.2.2 _ (List.mem_of_getElem? (i := 1) rfl)) rfl dX8_centuries_3 ?_
  refine z_callSip F_ K_ W_ [.long (zl sd), .long (zl 0), .long (zl 999999)] (c_X8_in l_ D cy sd 0 999999 (by first | omega | assumption)) 3 rfl gX8_centuries_X8_in rfl (by decide +kernel) ⟨⟨Nat.le_of_ble_eq_true rfl, Nat.le_of_ble_eq_true rfl⟩, rfl, rfl, Nat.zero_le _, Nat.zero_le _⟩ hl.1 rfl (Nat.le_of_ble_eq_true rfl) ([] : List Nat) [0, 1, 2, 3] [wO cy o ab be bl ta tl tk vl, wA cy (o 1) 192 g, wR cy (o 4) 3 rf, wA cy (o 5) 36 hd] 4 (by decide +kernel) rfl rfl rfl dX8_centuries_6 (fun z_1 _ H_ lo_ hw_ W_ => ?_)
  replace hw_ : ((z_1 = 1 ∧ (0 ≤ sd ∧ sd ≤ 999999)) ∨ (z_1 = 0 ∧ ¬ (0 ≤ sd ∧ sd ≤ 999999))) := hw_
  have f6_v := hw_
  clear hw_
  refine z_if_eq (tgt := 24) F_ (by omega) dX8_centuries_9 (by decide) (fun c9 => ?_) (fun c9 => ?_)
  · refine lv_aload_n F_.1 F_.2.1 dX8_centuries_24 rfl (lv_at hl 0 rfl) ?_
    refine z_bipush F_ (by decide) dX8_centuries_25 ?_
    refine z_callVi F_ K_ W_ [.int (zi (-2))] (c_X8_bad l_ D cy o ab be bl ta tl tk vl rf (-2) (by first | omega | assumption)) 1 rfl gX8_centuries_X8_bad rfl (by decide +kernel) ⟨⟨Nat.le_of_ble_eq_true rfl, Nat.le_of_ble_eq_true rfl⟩, rfl, rfl, Nat.zero_le _, Nat.zero_le _⟩ 0 0 7 rfl rfl rfl rfl hl.1 rfl (Nat.le_of_ble_eq_true rfl) [0, 2] [1, 3] [wA cy (o 1) 192 g, wA cy (o 5) 36 hd] (fun (u_ : (Int → Int)) => [wO cy o ab be bl ta tl tk vl, wA cy (o 1) 192 g, wR cy (o 4) 3 u_, wA cy (o 5) 36 hd]) 4 (by decide +kernel) rfl rfl rfl (fun _ => rfl) (fun _ => rfl) (fun _ => rfl) dX8_centuries_27 (fun z_2 u_ H_ lo_ hw_ W_ => ?_)
    obtain ⟨rf2_3, rfl⟩ : ∃ x, x = u_ := ⟨_, rfl⟩
    have W_ : WD D A_ s_.heap ([wO cy o ab be bl ta tl tk vl, wA cy (o 1) 192 g, wR cy (o 4) 3 rf2_3, wA cy (o 5) 36 hd]) H_ lo_ := W_
    replace hw_ : (z_2 = (-2)) ∧ (rf2_3 = rfZ rf 0) := hw_
    obtain ⟨f27_v, f27_r⟩ := hw_
    exact hret _ _ _ _ z_2 (rf2_3, hd) dX8_centuries_30 ⟨(by exact Or.inr ⟨by omega, by omega, by assumption⟩), bhd⟩ W_
  · refine lv_iload_n F_.1 F_.2.1 dX8_centuries_12 rfl (lv_at hl 2 rfl) ?_
    refine z_i2l F_ (by omega) dX8_centuries_13 ?_
    refine z_lconst (z := 0) F_ rfl dX8_centuries_14 ?_
    refine z_ldc2 (z := 60) F_ (F_.2.2.2.2 _ (List.mem_of_getElem? (i := 2) rfl)) rfl dX8_centuries_15 ?_
    refine z_callSip F_ K_ W_ [.long (zl n), .long (zl 0), .long (zl 60)] (c_X8_in l_ D cy n 0 60 (by first | omega | assumption)) 3 rfl gX8_centuries_X8_in rfl (by decide +kernel) ⟨⟨Nat.le_of_ble_eq_true rfl, Nat.le_of_ble_eq_true rfl⟩, rfl, rfl, Nat.zero_le _, Nat.zero_le _⟩ hl.1 rfl (Nat.le_of_ble_eq_true rfl) ([] : List Nat) [0, 1, 2, 3] [wO cy o ab be bl ta tl tk vl, wA cy (o 1) 192 g, wR cy (o 4) 3 rf, wA cy (o 5) 36 hd] 4 (by decide +kernel) rfl rfl rfl dX8_centuries_18 (fun z_4 _ H_ lo_ hw_ W_ => ?_)
    replace hw_ : ((z_4 = 1 ∧ (0 ≤ n ∧ n ≤ 60)) ∨ (z_4 = 0 ∧ ¬ (0 ≤ n ∧ n ≤ 60))) := hw_
    have f18_v := hw_
    clear hw_
    refine z_if_ne (tgt := 31) F_ (by omega) dX8_centuries_21 (by decide) (fun c21 => ?_) (fun c21 => ?_)
    · refine lv_iload_n F_.1 F_.2.1 dX8_centuries_31 rfl (lv_at hl 1 rfl) ?_
      refine z_i2l F_ (by omega) dX8_centuries_32 ?_
      refine lv_lstore_n (lv' := [(3, .long (zl sd)), (0, .ref (o 0)), (1, .int (zi sd)), (2, .int (zi n))]) F_.1 F_.2.1 dX8_centuries_33 rfl hl (by decide) rfl (fun ls_ hl => ?_)
      refine lv_aload_n F_.1 F_.2.1 dX8_centuries_34 rfl (lv_at hl 1 rfl) ?_
      refine z_callVv F_ K_ W_ [] (c_X8_layHand l_ D cy o ab be bl ta tl tk vl g hd bg bhd) 0 rfl gX8_centuries_X8_layHand rfl (by decide +kernel) ⟨⟨Nat.le_of_ble_eq_true rfl, Nat.le_of_ble_eq_true rfl⟩, rfl, rfl, Nat.zero_le _, Nat.zero_le _⟩ 0 0 7 rfl rfl rfl rfl hl.1 rfl (Nat.le_of_ble_eq_true rfl) [0, 1, 3] [2] [wR cy (o 4) 3 rf] (fun (u_ : Unit) => [wO cy o ab be bl ta tl tk vl, wA cy (o 1) 192 g, wR cy (o 4) 3 rf, wA cy (o 5) 36 g]) 4 (by decide +kernel) rfl rfl rfl (fun _ => rfl) (fun _ => rfl) (fun _ => rfl) dX8_centuries_35 (fun u_ H_ lo_ hw_ W_ => ?_)
      have W_ : WD D A_ s_.heap ([wO cy o ab be bl ta tl tk vl, wA cy (o 1) 192 g, wR cy (o 4) 3 rf, wA cy (o 5) 36 g]) H_ lo_ := W_
      replace hw_ : (∀ j : Int, 0 ≤ g j ∧ g j ≤ 99) := hw_
      have f35_B_H_g := hw_
      clear hw_
      refine z_iconst F_ dX8_centuries_38 ?_
      refine lv_istore (lv' := [(5, .int (zi 0)), (3, .long (zl sd)), (0, .ref (o 0)), (1, .int (zi sd)), (2, .int (zi n))]) F_.1 F_.2.1 dX8_centuries_39 hl (by decide) rfl (fun ls_ hl => ?_)
      have L41 : ∀ (n_ : Nat) (X : Int) (k : Int) (x : Int → Int) (bx : ∀ j : Int, 0 ≤ x j ∧ x j ≤ 99) (hk : 0 ≤ k ∧ k ≤ n) (hX : X = (cenG g sd k).1) (hx : x = (cenG g sd k).2) (hXb : 0 ≤ X ∧ X < 2147483648) (hx0 : x 0 = g 0 ∧ x 1 = g 1) (hm_ : (n - k : Int) < (n_ : Int)) (ls_ : Array Slot) (H_ : Heap) (lo_ : List Loc), WD D A_ s_.heap ([wO cy o ab be bl ta tl tk vl, wA cy (o 1) 192 g, wR cy (o 4) 3 rf, wA cy (o 5) 36 x]) H_ lo_ → lv_has ls_ 9 [(5, .int (zi k)), (3, .long (zl X)), (0, .ref (o 0)), (1, .int (zi sd)), (2, .int (zi n))] → W p_ l_ e_ rX8_centuries s_ m_ ar_ be_ me_ c_ H_ lo_ 0 0 Q_ (F0 m_ 41 ls_ []) := by
        intro n_
        induction n_ with
        | zero =>
          intro X k x bx hk hX hx hXb hx0 hm_ ls_ H_ lo_ _ _
          exact absurd hm_ (by omega)
        | succ n_ ih_ =>
          intro X k x bx hk hX hx hXb hx0 hm_ ls_ H_ lo_ W_ hl
          have ih41 := ih_
          refine lv_iload F_.1 F_.2.1 dX8_centuries_41 (lv_at hl 0 rfl) ?_
          refine lv_iload_n F_.1 F_.2.1 dX8_centuries_43 rfl (lv_at hl 4 rfl) ?_
          refine z_icmp_ge (tgt := 166) F_ (by omega) dX8_centuries_44 (by decide) (fun c44 => ?_) (fun c44 => ?_)
          · refine lv_aload_n F_.1 F_.2.1 dX8_centuries_166 rfl (lv_at hl 2 rfl) ?_
            refine z_get F_ K_ W_ 0 0 6 rfl rfl rfl (C := RX8) (T := TX8) (N := 19) rfl (by decide) hinX8 (List.mem_of_getElem? (i := 10) rfl) dX8_centuries_167 ?_
            refine z_iconst F_ dX8_centuries_170 ?_
            refine z_callSip F_ K_ W_ [.ref (o 5), .int (zi 0)] (c_X8_skillsIn l_ D cy (o 5) 36 x 0 bx (by first | omega | assumption) (by first | omega | assumption) (by first | omega | assumption)) 2 rfl gX8_centuries_X8_skillsIn rfl (by decide +kernel) ⟨⟨Nat.le_of_ble_eq_true rfl, Nat.le_of_ble_eq_true rfl⟩, rfl, rfl, Nat.zero_le _, Nat.zero_le _⟩ hl.1 rfl (Nat.le_of_ble_eq_true rfl) [3] [0, 1, 2] [wO cy o ab be bl ta tl tk vl, wA cy (o 1) 192 g, wR cy (o 4) 3 rf] 4 (by decide +kernel) rfl rfl rfl dX8_centuries_171 (fun z_6 _ H_ lo_ hw_ W_ => ?_)
            replace hw_ : (z_6 = sumG x 0) := hw_
            have f171_v := hw_
            clear hw_
            exact hret _ _ _ _ z_6 (rf, x) dX8_centuries_174 ⟨(by exact Or.inl ⟨by omega, by rw [f171_v, hx, show k = n by omega], rfl⟩), bx⟩ W_
          · refine lv_lload_n F_.1 F_.2.1 dX8_centuries_47 rfl (lv_at hl 1 rfl) ?_
            refine z_ldc2 (z := 1103515245) F_ (F_.2.2.2.2 _ (List.mem_of_getElem? (i := 3) rfl)) rfl dX8_centuries_48 ?_
            refine z_lmul F_ dX8_centuries_51 ?_
            refine z_ldc2 (z := 12345) F_ (F_.2.2.2.2 _ (List.mem_of_getElem? (i := 4) rfl)) rfl dX8_centuries_52 ?_
            refine z_ladd F_ dX8_centuries_55 ?_
            refine z_ldc2 (z := 2147483648) F_ (F_.2.2.2.2 _ (List.mem_of_getElem? (i := 5) rfl)) rfl dX8_centuries_56 ?_
            refine z_lrem F_ (by omega) dX8_centuries_59 ?_
            refine lv_lstore_n (lv' := [(3, .long (zl (((X * 1103515245) + 12345) % 2147483648))), (5, .int (zi k)), (0, .ref (o 0)), (1, .int (zi sd)), (2, .int (zi n))]) F_.1 F_.2.1 dX8_centuries_60 rfl hl (by decide) rfl (fun ls_ hl => ?_)
            refine lv_lload_n F_.1 F_.2.1 dX8_centuries_61 rfl (lv_at hl 0 rfl) ?_
            refine z_ldc2 (z := 65536) F_ (F_.2.2.2.2 _ (List.mem_of_getElem? (i := 6) rfl)) rfl dX8_centuries_62 ?_
            refine z_ldiv F_ (by omega) dX8_centuries_65 ?_
            refine z_ldc2 (z := 3) F_ (F_.2.2.2.2 _ (List.mem_of_getElem? (i := 7) rfl)) rfl dX8_centuries_66 ?_
            refine z_lrem F_ (by omega) dX8_centuries_69 ?_
            refine z_l2i F_ (by omega) dX8_centuries_70 ?_
            refine lv_istore (lv' := [(6, .int (zi (((((X * 1103515245) + 12345) % 2147483648) / 65536) % 3))), (3, .long (zl (((X * 1103515245) + 12345) % 2147483648))), (5, .int (zi k)), (0, .ref (o 0)), (1, .int (zi sd)), (2, .int (zi n))]) F_.1 F_.2.1 dX8_centuries_71 hl (by decide) rfl (fun ls_ hl => ?_)
            refine lv_lload_n F_.1 F_.2.1 dX8_centuries_73 rfl (lv_at hl 1 rfl) ?_
            refine z_ldc2 (z := 1048576) F_ (F_.2.2.2.2 _ (List.mem_of_getElem? (i := 8) rfl)) rfl dX8_centuries_74 ?_
            refine z_ldiv F_ (by omega) dX8_centuries_77 ?_
            refine z_ldc2 (z := 16) F_ (F_.2.2.2.2 _ (List.mem_of_getElem? (i := 9) rfl)) rfl dX8_centuries_78 ?_
            refine z_lrem F_ (by omega) dX8_centuries_81 ?_
            refine z_l2i F_ (by omega) dX8_centuries_82 ?_
            refine lv_istore (lv' := [(7, .int (zi (((((X * 1103515245) + 12345) % 2147483648) / 1048576) % 16))), (6, .int (zi (((((X * 1103515245) + 12345) % 2147483648) / 65536) % 3))), (3, .long (zl (((X * 1103515245) + 12345) % 2147483648))), (5, .int (zi k)), (0, .ref (o 0)), (1, .int (zi sd)), (2, .int (zi n))]) F_.1 F_.2.1 dX8_centuries_83 hl (by decide) rfl (fun ls_ hl => ?_)
            refine lv_aload_n F_.1 F_.2.1 dX8_centuries_85 rfl (lv_at hl 4 rfl) ?_
            refine lv_iload F_.1 F_.2.1 dX8_centuries_86 (lv_at hl 1 rfl) ?_
            refine z_callVip F_ K_ W_ [.int (zi (((((X * 1103515245) + 12345) % 2147483648) / 65536) % 3))] (c_X8_isShip l_ D cy o ab be bl ta tl tk vl g (((((X * 1103515245) + 12345) % 2147483648) / 65536) % 3) bg (by first | omega | assumption) (by first | omega | assumption)) 1 rfl gX8_centuries_X8_isShip rfl (by decide +kernel) ⟨⟨Nat.le_of_ble_eq_true rfl, Nat.le_of_ble_eq_true rfl⟩, rfl, rfl, Nat.zero_le _, Nat.zero_le _⟩ 0 0 7 rfl rfl rfl rfl hl.1 rfl (Nat.le_of_ble_eq_true rfl) [0, 1] [2, 3] [wR cy (o 4) 3 rf, wA cy (o 5) 36 x] 4 (by decide +kernel) rfl rfl rfl dX8_centuries_88 (fun z_7 _ H_ lo_ hw_ W_ => ?_)
            replace hw_ : ((z_7 = 1 ∧ (0 ≤ (((((X * 1103515245) + 12345) % 2147483648) / 65536) % 3) ∧ (((((X * 1103515245) + 12345) % 2147483648) / 65536) % 3) < g 1)) ∨ (z_7 = 0 ∧ ¬ (0 ≤ (((((X * 1103515245) + 12345) % 2147483648) / 65536) % 3) ∧ (((((X * 1103515245) + 12345) % 2147483648) / 65536) % 3) < g 1))) := hw_
            have f88_v := hw_
            clear hw_
            have J115 : ∀ (g115 : ((z_7 = 0)) ∨ ((¬ z_7 = 0) ∧ (((((X * 1103515245) + 12345) % 2147483648) / 1048576) % 16 < 8))) (ls_ : Array Slot) (H_ : Heap) (lo_ : List Loc), WD D A_ s_.heap ([wO cy o ab be bl ta tl tk vl, wA cy (o 1) 192 g, wR cy (o 4) 3 rf, wA cy (o 5) 36 x]) H_ lo_ → lv_has ls_ 9 [(7, .int (zi (((((X * 1103515245) + 12345) % 2147483648) / 1048576) % 16))), (6, .int (zi (((((X * 1103515245) + 12345) % 2147483648) / 65536) % 3))), (3, .long (zl (((X * 1103515245) + 12345) % 2147483648))), (5, .int (zi k)), (0, .ref (o 0)), (1, .int (zi sd)), (2, .int (zi n))] → W p_ l_ e_ rX8_centuries s_ m_ ar_ be_ me_ c_ H_ lo_ 0 0 Q_ (F0 m_ 115 ls_ []) := by
              intro g115 ls_ H_ lo_ W_ hl
              refine lv_aload_n F_.1 F_.2.1 dX8_centuries_115 rfl (lv_at hl 4 rfl) ?_
              refine lv_iload F_.1 F_.2.1 dX8_centuries_116 (lv_at hl 1 rfl) ?_
              refine z_callVip F_ K_ W_ [.int (zi (((((X * 1103515245) + 12345) % 2147483648) / 65536) % 3))] (c_X8_isShip l_ D cy o ab be bl ta tl tk vl g (((((X * 1103515245) + 12345) % 2147483648) / 65536) % 3) bg (by first | omega | assumption) (by first | omega | assumption)) 1 rfl gX8_centuries_X8_isShip rfl (by decide +kernel) ⟨⟨Nat.le_of_ble_eq_true rfl, Nat.le_of_ble_eq_true rfl⟩, rfl, rfl, Nat.zero_le _, Nat.zero_le _⟩ 0 0 7 rfl rfl rfl rfl hl.1 rfl (Nat.le_of_ble_eq_true rfl) [0, 1] [2, 3] [wR cy (o 4) 3 rf, wA cy (o 5) 36 x] 4 (by decide +kernel) rfl rfl rfl dX8_centuries_118 (fun z_8 _ H_ lo_ hw_ W_ => ?_)
              replace hw_ : ((z_8 = 1 ∧ (0 ≤ (((((X * 1103515245) + 12345) % 2147483648) / 65536) % 3) ∧ (((((X * 1103515245) + 12345) % 2147483648) / 65536) % 3) < g 1)) ∨ (z_8 = 0 ∧ ¬ (0 ≤ (((((X * 1103515245) + 12345) % 2147483648) / 65536) % 3) ∧ (((((X * 1103515245) + 12345) % 2147483648) / 65536) % 3) < g 1))) := hw_
              have f118_v := hw_
              clear hw_
              refine z_if_eq (tgt := 160) F_ (by omega) dX8_centuries_121 (by decide) (fun c121 => ?_) (fun c121 => ?_)
              · refine z_iinc (lv' := [(5, .int (zi (k + 1))), (7, .int (zi (((((X * 1103515245) + 12345) % 2147483648) / 1048576) % 16))), (6, .int (zi (((((X * 1103515245) + 12345) % 2147483648) / 65536) % 3))), (3, .long (zl (((X * 1103515245) + 12345) % 2147483648))), (0, .ref (o 0)), (1, .int (zi sd)), (2, .int (zi n))]) F_ dX8_centuries_160 hl (k := 3) rfl (by decide) rfl (fun ls_ hl => ?_)
                refine z_goto (tgt := 41) F_ dX8_centuries_163 (by decide) ?_
                exact ih41 (((X * 1103515245) + 12345) % 2147483648) (k + 1) x bx (by first | omega | assumption) (by rw [cenG_s _ _ hk.1, ← hX]; rfl) (by rw [cenG_s _ _ hk.1, ← hX, ← hx]; show _ = yearG g x (lcgZ X / 65536 % 3) (lcgZ X / 1048576 % 16); unfold yearG lcgZ; first | (rw [if_pos ⟨by omega, by omega⟩]; assumption) | (rw [if_neg (fun q => by have h1 := q.1; have h2 := q.2; omega), if_pos ⟨by omega, by omega, by omega⟩]; assumption) | (rw [if_neg (fun q => by have h1 := q.1; have h2 := q.2; omega), if_neg (fun q => by have h1 := q.1; have h2 := q.2.1; have h3 := q.2.2; omega)])) (by first | omega | assumption) (by first | omega | (rw [eLASTDEF, zu_n _ _ (by omega), zu_n _ _ (by omega)]; exact hx0)) (by omega) ls_ H_ lo_ W_ (lv_sub hl [0, 3, 4, 5, 6] rfl)
              · refine lv_aload_n F_.1 F_.2.1 dX8_centuries_124 rfl (lv_at hl 4 rfl) ?_
                refine lv_iload F_.1 F_.2.1 dX8_centuries_125 (lv_at hl 0 rfl) ?_
                refine z_callVip F_ K_ W_ [.int (zi (((((X * 1103515245) + 12345) % 2147483648) / 1048576) % 16))] (c_X8_isMan l_ D cy o ab be bl ta tl tk vl g (((((X * 1103515245) + 12345) % 2147483648) / 1048576) % 16) bg (by first | omega | assumption) (by first | omega | assumption)) 1 rfl gX8_centuries_X8_isMan rfl (by decide +kernel) ⟨⟨Nat.le_of_ble_eq_true rfl, Nat.le_of_ble_eq_true rfl⟩, rfl, rfl, Nat.zero_le _, Nat.zero_le _⟩ 0 0 7 rfl rfl rfl rfl hl.1 rfl (Nat.le_of_ble_eq_true rfl) [0, 1] [2, 3] [wR cy (o 4) 3 rf, wA cy (o 5) 36 x] 4 (by decide +kernel) rfl rfl rfl dX8_centuries_127 (fun z_9 _ H_ lo_ hw_ W_ => ?_)
                replace hw_ : ((z_9 = 1 ∧ (0 ≤ (((((X * 1103515245) + 12345) % 2147483648) / 1048576) % 16) ∧ (((((X * 1103515245) + 12345) % 2147483648) / 1048576) % 16) < g 0)) ∨ (z_9 = 0 ∧ ¬ (0 ≤ (((((X * 1103515245) + 12345) % 2147483648) / 1048576) % 16) ∧ (((((X * 1103515245) + 12345) % 2147483648) / 1048576) % 16) < g 0))) := hw_
                have f127_v := hw_
                clear hw_
                refine z_if_eq (tgt := 160) F_ (by omega) dX8_centuries_130 (by decide) (fun c130 => ?_) (fun c130 => ?_)
                · refine z_iinc (lv' := [(5, .int (zi (k + 1))), (7, .int (zi (((((X * 1103515245) + 12345) % 2147483648) / 1048576) % 16))), (6, .int (zi (((((X * 1103515245) + 12345) % 2147483648) / 65536) % 3))), (3, .long (zl (((X * 1103515245) + 12345) % 2147483648))), (0, .ref (o 0)), (1, .int (zi sd)), (2, .int (zi n))]) F_ dX8_centuries_160 hl (k := 3) rfl (by decide) rfl (fun ls_ hl => ?_)
                  refine z_goto (tgt := 41) F_ dX8_centuries_163 (by decide) ?_
                  exact ih41 (((X * 1103515245) + 12345) % 2147483648) (k + 1) x bx (by first | omega | assumption) (by rw [cenG_s _ _ hk.1, ← hX]; rfl) (by rw [cenG_s _ _ hk.1, ← hX, ← hx]; show _ = yearG g x (lcgZ X / 65536 % 3) (lcgZ X / 1048576 % 16); unfold yearG lcgZ; first | (rw [if_pos ⟨by omega, by omega⟩]; assumption) | (rw [if_neg (fun q => by have h1 := q.1; have h2 := q.2; omega), if_pos ⟨by omega, by omega, by omega⟩]; assumption) | (rw [if_neg (fun q => by have h1 := q.1; have h2 := q.2; omega), if_neg (fun q => by have h1 := q.1; have h2 := q.2.1; have h3 := q.2.2; omega)])) (by first | omega | assumption) (by first | omega | (rw [eLASTDEF, zu_n _ _ (by omega), zu_n _ _ (by omega)]; exact hx0)) (by omega) ls_ H_ lo_ W_ (lv_sub hl [0, 3, 4, 5, 6] rfl)
                · refine lv_aload_n F_.1 F_.2.1 dX8_centuries_133 rfl (lv_at hl 4 rfl) ?_
                  refine z_get F_ K_ W_ 0 0 6 rfl rfl rfl (C := RX8) (T := TX8) (N := 19) rfl (by decide) hinX8 (List.mem_of_getElem? (i := 10) rfl) dX8_centuries_134 ?_
                  refine z_bipush F_ (by decide) dX8_centuries_137 ?_
                  refine lv_iload F_.1 F_.2.1 dX8_centuries_139 (lv_at hl 0 rfl) ?_
                  refine z_iadd F_ dX8_centuries_141 ?_
                  refine z_iald F_ K_ W_ 3 0 rfl rfl (by omega) (by decide) dX8_centuries_142 ?_
                  have b_10 := bx (6 + (((((X * 1103515245) + 12345) % 2147483648) / 1048576) % 16))
                  refine z_if_ne (tgt := 160) F_ (by omega) dX8_centuries_143 (by decide) (fun c143 => ?_) (fun c143 => ?_)
                  · refine z_iinc (lv' := [(5, .int (zi (k + 1))), (7, .int (zi (((((X * 1103515245) + 12345) % 2147483648) / 1048576) % 16))), (6, .int (zi (((((X * 1103515245) + 12345) % 2147483648) / 65536) % 3))), (3, .long (zl (((X * 1103515245) + 12345) % 2147483648))), (0, .ref (o 0)), (1, .int (zi sd)), (2, .int (zi n))]) F_ dX8_centuries_160 hl (k := 3) rfl (by decide) rfl (fun ls_ hl => ?_)
                    refine z_goto (tgt := 41) F_ dX8_centuries_163 (by decide) ?_
                    exact ih41 (((X * 1103515245) + 12345) % 2147483648) (k + 1) x bx (by first | omega | assumption) (by rw [cenG_s _ _ hk.1, ← hX]; rfl) (by rw [cenG_s _ _ hk.1, ← hX, ← hx]; show _ = yearG g x (lcgZ X / 65536 % 3) (lcgZ X / 1048576 % 16); unfold yearG lcgZ; first | (rw [if_pos ⟨by omega, by omega⟩]; assumption) | (rw [if_neg (fun q => by have h1 := q.1; have h2 := q.2; omega), if_pos ⟨by omega, by omega, by omega⟩]; assumption) | (rw [if_neg (fun q => by have h1 := q.1; have h2 := q.2; omega), if_neg (fun q => by have h1 := q.1; have h2 := q.2.1; have h3 := q.2.2; omega)])) (by first | omega | assumption) (by first | omega | (rw [eLASTDEF, zu_n _ _ (by omega), zu_n _ _ (by omega)]; exact hx0)) (by omega) ls_ H_ lo_ W_ (lv_sub hl [0, 3, 4, 5, 6] rfl)
                  · refine lv_aload_n F_.1 F_.2.1 dX8_centuries_146 rfl (lv_at hl 4 rfl) ?_
                    refine z_get F_ K_ W_ 0 0 6 rfl rfl rfl (C := RX8) (T := TX8) (N := 19) rfl (by decide) hinX8 (List.mem_of_getElem? (i := 10) rfl) dX8_centuries_147 ?_
                    refine z_bipush F_ (by decide) dX8_centuries_150 ?_
                    refine lv_iload F_.1 F_.2.1 dX8_centuries_152 (lv_at hl 0 rfl) ?_
                    refine z_iadd F_ dX8_centuries_154 ?_
                    refine lv_iload F_.1 F_.2.1 dX8_centuries_155 (lv_at hl 1 rfl) ?_
                    refine z_iconst F_ dX8_centuries_157 ?_
                    refine z_iadd F_ dX8_centuries_158 ?_
                    refine z_iast (sg' := [wO cy o ab be bl ta tl tk vl, wA cy (o 1) 192 g, wR cy (o 4) 3 rf, wA cy (o 5) 36 (zu x (6 + (((((X * 1103515245) + 12345) % 2147483648) / 1048576) % 16)) ((((((X * 1103515245) + 12345) % 2147483648) / 65536) % 3) + 1))]) F_ K_ W_ 3 0 rfl rfl rfl (by omega) (by decide) dX8_centuries_159 (fun H_ lo_ W_ => ?_)
                    obtain ⟨g_11, eg_11⟩ : ∃ x_ : Int → Int, x_ = zu x (6 + (((((X * 1103515245) + 12345) % 2147483648) / 1048576) % 16)) ((((((X * 1103515245) + 12345) % 2147483648) / 65536) % 3) + 1) := ⟨_, rfl⟩
                    rw [← eg_11] at W_
                    have bg_11 : ∀ j : Int, 0 ≤ g_11 j ∧ g_11 j ≤ 99 := by rw [eg_11]; exact zu_b bx (by omega)
                    refine z_iinc (lv' := [(5, .int (zi (k + 1))), (7, .int (zi (((((X * 1103515245) + 12345) % 2147483648) / 1048576) % 16))), (6, .int (zi (((((X * 1103515245) + 12345) % 2147483648) / 65536) % 3))), (3, .long (zl (((X * 1103515245) + 12345) % 2147483648))), (0, .ref (o 0)), (1, .int (zi sd)), (2, .int (zi n))]) F_ dX8_centuries_160 hl (k := 3) rfl (by decide) rfl (fun ls_ hl => ?_)
                    refine z_goto (tgt := 41) F_ dX8_centuries_163 (by decide) ?_
                    exact ih41 (((X * 1103515245) + 12345) % 2147483648) (k + 1) g_11 bg_11 (by first | omega | assumption) (by rw [cenG_s _ _ hk.1, ← hX]; rfl) (by rw [cenG_s _ _ hk.1, ← hX, ← hx]; show _ = yearG g x (lcgZ X / 65536 % 3) (lcgZ X / 1048576 % 16); unfold yearG lcgZ; first | (rw [if_pos ⟨by omega, by omega⟩]; assumption) | (rw [if_neg (fun q => by have h1 := q.1; have h2 := q.2; omega), if_pos ⟨by omega, by omega, by omega⟩]; assumption) | (rw [if_neg (fun q => by have h1 := q.1; have h2 := q.2; omega), if_neg (fun q => by have h1 := q.1; have h2 := q.2.1; have h3 := q.2.2; omega)])) (by first | omega | assumption) (by first | omega | (rw [eg_11, zu_n _ _ (by omega), zu_n _ _ (by omega)]; exact hx0)) (by omega) ls_ H_ lo_ W_ (lv_sub hl [0, 3, 4, 5, 6] rfl)
            refine z_if_eq (tgt := 115) F_ (by omega) dX8_centuries_91 (by decide) (fun c91 => ?_) (fun c91 => ?_)
            · exact J115 (by first | omega | grind) ls_ H_ lo_ W_ (lv_sub hl [0, 1, 2, 3, 4, 5, 6] rfl)
            · refine lv_iload F_.1 F_.2.1 dX8_centuries_94 (lv_at hl 0 rfl) ?_
              refine z_bipush F_ (by decide) dX8_centuries_96 ?_
              refine z_icmp_lt (tgt := 115) F_ (by omega) dX8_centuries_98 (by decide) (fun c98 => ?_) (fun c98 => ?_)
              · exact J115 (by first | omega | grind) ls_ H_ lo_ W_ (lv_sub hl [0, 1, 2, 3, 4, 5, 6] rfl)
              · refine lv_aload_n F_.1 F_.2.1 dX8_centuries_101 rfl (lv_at hl 4 rfl) ?_
                refine z_get F_ K_ W_ 0 0 6 rfl rfl rfl (C := RX8) (T := TX8) (N := 19) rfl (by decide) hinX8 (List.mem_of_getElem? (i := 10) rfl) dX8_centuries_102 ?_
                refine lv_iload F_.1 F_.2.1 dX8_centuries_105 (lv_at hl 1 rfl) ?_
                refine z_callSi F_ K_ W_ [.ref (o 5), .int (zi (((((X * 1103515245) + 12345) % 2147483648) / 65536) % 3))] (c_X8_goCall l_ D cy (o 5) 36 x (((((X * 1103515245) + 12345) % 2147483648) / 65536) % 3) bx (by first | omega | assumption) (by first | omega | assumption) (by first | omega | assumption) (by first | omega | assumption)) 2 rfl gX8_centuries_X8_goCall rfl (by decide +kernel) ⟨⟨Nat.le_of_ble_eq_true rfl, Nat.le_of_ble_eq_true rfl⟩, rfl, rfl, Nat.zero_le _, Nat.zero_le _⟩ hl.1 rfl (Nat.le_of_ble_eq_true rfl) [3] [0, 1, 2] [wO cy o ab be bl ta tl tk vl, wA cy (o 1) 192 g, wR cy (o 4) 3 rf] (fun (u_ : (Int → Int)) => [wO cy o ab be bl ta tl tk vl, wA cy (o 1) 192 g, wR cy (o 4) 3 rf, wA cy (o 5) 36 u_]) 4 (by decide +kernel) rfl rfl rfl (fun _ => rfl) (fun _ => rfl) (fun _ => rfl) dX8_centuries_107 (fun z_12 u_ H_ lo_ hw_ W_ => ?_)
                obtain ⟨g2_13, rfl⟩ : ∃ x, x = u_ := ⟨_, rfl⟩
                have W_ : WD D A_ s_.heap ([wO cy o ab be bl ta tl tk vl, wA cy (o 1) 192 g, wR cy (o 4) 3 rf, wA cy (o 5) 36 g2_13]) H_ lo_ := W_
                replace hw_ : (z_12 = lstG x (((((X * 1103515245) + 12345) % 2147483648) / 65536) % 3)) ∧ (g2_13 = goG x (((((X * 1103515245) + 12345) % 2147483648) / 65536) % 3) (lstG x (((((X * 1103515245) + 12345) % 2147483648) / 65536) % 3))) ∧ ((z_12 = -1 ∨ (0 ≤ z_12 ∧ z_12 < x 0)) ∧ g2_13 0 = x 0 ∧ g2_13 1 = x 1) ∧ (∀ j : Int, 0 ≤ g2_13 j ∧ g2_13 j ≤ 99) := hw_
                obtain ⟨f107_v, f107_c, f107_k, f107_B_A_g⟩ := hw_
                refine lv_istore (lv' := [(8, .int (zi z_12)), (7, .int (zi (((((X * 1103515245) + 12345) % 2147483648) / 1048576) % 16))), (6, .int (zi (((((X * 1103515245) + 12345) % 2147483648) / 65536) % 3))), (3, .long (zl (((X * 1103515245) + 12345) % 2147483648))), (5, .int (zi k)), (0, .ref (o 0)), (1, .int (zi sd)), (2, .int (zi n))]) F_.1 F_.2.1 dX8_centuries_110 hl (by decide) rfl (fun ls_ hl => ?_)
                refine z_goto (tgt := 160) F_ dX8_centuries_112 (by decide) ?_
                refine z_iinc (lv' := [(5, .int (zi (k + 1))), (8, .int (zi z_12)), (7, .int (zi (((((X * 1103515245) + 12345) % 2147483648) / 1048576) % 16))), (6, .int (zi (((((X * 1103515245) + 12345) % 2147483648) / 65536) % 3))), (3, .long (zl (((X * 1103515245) + 12345) % 2147483648))), (0, .ref (o 0)), (1, .int (zi sd)), (2, .int (zi n))]) F_ dX8_centuries_160 hl (k := 4) rfl (by decide) rfl (fun ls_ hl => ?_)
                refine z_goto (tgt := 41) F_ dX8_centuries_163 (by decide) ?_
                exact ih41 (((X * 1103515245) + 12345) % 2147483648) (k + 1) g2_13 f107_B_A_g (by first | omega | assumption) (by rw [cenG_s _ _ hk.1, ← hX]; rfl) (by rw [cenG_s _ _ hk.1, ← hX, ← hx]; show _ = yearG g x (lcgZ X / 65536 % 3) (lcgZ X / 1048576 % 16); unfold yearG lcgZ; first | (rw [if_pos ⟨by omega, by omega⟩]; assumption) | (rw [if_neg (fun q => by have h1 := q.1; have h2 := q.2; omega), if_pos ⟨by omega, by omega, by omega⟩]; assumption) | (rw [if_neg (fun q => by have h1 := q.1; have h2 := q.2; omega), if_neg (fun q => by have h1 := q.1; have h2 := q.2.1; have h3 := q.2.2; omega)])) (by first | omega | assumption) (by first | omega | (rw [eLASTDEF, zu_n _ _ (by omega), zu_n _ _ (by omega)]; exact hx0)) (by omega) ls_ H_ lo_ W_ (lv_sub hl [0, 4, 5, 6, 7] rfl)
      exact L41 ((n - 0 : Int).toNat + 1) sd 0 g f35_B_H_g (by first | omega | assumption) (by rfl) (by rfl) (by first | omega | assumption) (by first | omega | assumption) (by have := Int.self_le_toNat (n - 0 : Int); omega) ls_ H_ lo_ W_ (lv_sub hl [0, 1, 2, 3, 4] rfl)
    · refine lv_aload_n F_.1 F_.2.1 dX8_centuries_24 rfl (lv_at hl 0 rfl) ?_
      refine z_bipush F_ (by decide) dX8_centuries_25 ?_
      refine z_callVi F_ K_ W_ [.int (zi (-2))] (c_X8_bad l_ D cy o ab be bl ta tl tk vl rf (-2) (by first | omega | assumption)) 1 rfl gX8_centuries_X8_bad rfl (by decide +kernel) ⟨⟨Nat.le_of_ble_eq_true rfl, Nat.le_of_ble_eq_true rfl⟩, rfl, rfl, Nat.zero_le _, Nat.zero_le _⟩ 0 0 7 rfl rfl rfl rfl hl.1 rfl (Nat.le_of_ble_eq_true rfl) [0, 2] [1, 3] [wA cy (o 1) 192 g, wA cy (o 5) 36 hd] (fun (u_ : (Int → Int)) => [wO cy o ab be bl ta tl tk vl, wA cy (o 1) 192 g, wR cy (o 4) 3 u_, wA cy (o 5) 36 hd]) 4 (by decide +kernel) rfl rfl rfl (fun _ => rfl) (fun _ => rfl) (fun _ => rfl) dX8_centuries_27 (fun z_14 u_ H_ lo_ hw_ W_ => ?_)
      obtain ⟨rf2_15, rfl⟩ : ∃ x, x = u_ := ⟨_, rfl⟩
      have W_ : WD D A_ s_.heap ([wO cy o ab be bl ta tl tk vl, wA cy (o 1) 192 g, wR cy (o 4) 3 rf2_15, wA cy (o 5) 36 hd]) H_ lo_ := W_
      replace hw_ : (z_14 = (-2)) ∧ (rf2_15 = rfZ rf 0) := hw_
      obtain ⟨f27_v, f27_r⟩ := hw_
      exact hret _ _ _ _ z_14 (rf2_15, hd) dX8_centuries_30 ⟨(by exact Or.inr ⟨by omega, by omega, by assumption⟩), bhd⟩ W_
abbrev rX8_type : Room := { frames := 1, cells := 0, slots := 0, locals := 25 }
set_option maxHeartbeats 1000000 in
set_option maxRecDepth 100000 in
theorem c_X8_type (l_ : Launch) (D : va_G) (cy : Nat → ClassId) (o : Nat → Nat) (ab : Int) (be : Int) (bl : Int) (ta : Int) (tl : Int) (tk : Int) (vl : Int) (rf : Int → Int) (yb : Int → Int) (c : Int) (byb : ∀ j : Int, 0 ≤ yb j ∧ yb j ≤ 127) (rc : -2147483648 ≤ c ∧ c < 2147483648) (hbl : 0 ≤ bl ∧ bl ≤ 150) : CTi l_ D cy yX8_type wsX8_type rX8_type [.ref (o 0), .int (zi c)] ([wO cy o ab be bl ta tl tk vl, wR cy (o 4) 3 rf, wB cy (o 10) yb]) (fun (z : Int) (u : (Int → Int) × (Int → Int) × (Int)) => ((¬ (0 ≤ c ∧ c ≤ 127) ∧ z = -2 ∧ u.2.1 = yb ∧ u.2.2 = bl ∧ u.1 = rfZ rf 0) ∨ ((0 ≤ c ∧ c ≤ 127) ∧ bl = 150 ∧ z = -4 ∧ u.2.1 = yb ∧ u.2.2 = bl ∧ u.1 = rfZ rf 2) ∨ ((0 ≤ c ∧ c ≤ 127) ∧ bl < 150 ∧ z = bl + 1 ∧ u.2.1 = zu yb bl c ∧ u.2.2 = bl + 1 ∧ u.1 = rf)) ∧ (∀ j : Int, 0 ≤ u.2.1 j ∧ u.2.1 j ≤ 127)) (fun (u : (Int → Int) × (Int → Int) × (Int)) => [wO cy o ab be u.2.2 ta tl tk vl, wR cy (o 4) 3 u.1, wB cy (o 10) u.2.1]) := by
  refine CTi.of RX8 cX8_type 2 rfl (by decide) rfl (fun z u hz => rfl) (Nat.le_of_ble_eq_true rfl) ?_
  intro p_ e_ s_ m_ ar_ be_ me_ c_ Q_ A_ ls_ F_ K_ W_ hl hret
  have hl : lv_has ls_ 2 [(0, .ref (o 0)), (1, .int (zi c))] := hl
  obtain ⟨H_, hH_⟩ : ∃ x, x = s_.heap := ⟨_, rfl⟩
  obtain ⟨lo_, hlo_⟩ : ∃ x : List Loc, x = [] := ⟨_, rfl⟩
  have W_ : WD D A_ s_.heap ([wO cy o ab be bl ta tl tk vl, wR cy (o 4) 3 rf, wB cy (o 10) yb]) H_ lo_ := by rw [hH_, hlo_]; exact W_
  rw [← hlo_]
  suffices hg_ : W p_ l_ e_ rX8_type s_ m_ ar_ be_ me_ c_ H_ lo_ 0 0 Q_ (F0 m_ 0 ls_ []) by rw [hH_] at hg_; exact hg_
  clear hH_ hlo_
  have hinX8 : ∀ w ∈ u_ws RX8 TX8 19, w ∈ wsX8_type := fun w h => List.mem_cons_of_mem _ (List.mem_append_right _ h)
  refine lv_iload_n F_.1 F_.2.1 dX8_type_0 rfl (lv_at hl 1 rfl) ?_
  refine z_i2l F_ (by omega) dX8_type_1 ?_
  refine z_lconst (z := 0) F_ rfl dX8_type_2 ?_
  refine z_ldc2 (z := 127) F_ (F_.2.2.2.2 _ (List.mem_of_getElem? (i := 1) rfl)) rfl dX8_type_3 ?_
  refine z_callSip F_ K_ W_ [.long (zl c), .long (zl 0), .long (zl 127)] (c_X8_in l_ D cy c 0 127 (by first | omega | assumption)) 3 rfl gX8_type_X8_in rfl (by decide +kernel) ⟨⟨Nat.le_of_ble_eq_true rfl, Nat.le_of_ble_eq_true rfl⟩, rfl, rfl, Nat.zero_le _, Nat.zero_le _⟩ hl.1 rfl (Nat.le_of_ble_eq_true rfl) ([] : List Nat) [0, 1, 2] [wO cy o ab be bl ta tl tk vl, wR cy (o 4) 3 rf, wB cy (o 10) yb] 3 (by decide +kernel) rfl rfl rfl dX8_type_6 (fun z_1 _ H_ lo_ hw_ W_ => ?_)
  replace hw_ : ((z_1 = 1 ∧ (0 ≤ c ∧ c ≤ 127)) ∨ (z_1 = 0 ∧ ¬ (0 ≤ c ∧ c ≤ 127))) := hw_
  have f6_v := hw_
  clear hw_
  refine z_if_ne (tgt := 19) F_ (by omega) dX8_type_9 (by decide) (fun c9 => ?_) (fun c9 => ?_)
  · refine lv_aload_n F_.1 F_.2.1 dX8_type_19 rfl (lv_at hl 0 rfl) ?_
    refine z_get F_ K_ W_ 0 0 12 rfl rfl rfl (C := RX8) (T := TX8) (N := 19) rfl (by decide) hinX8 (List.mem_of_getElem? (i := 2) rfl) dX8_type_20 ?_
    refine z_sipush F_ (by decide) dX8_type_23 ?_
    refine z_icmp_ne (tgt := 34) F_ (by omega) dX8_type_26 (by decide) (fun c26 => ?_) (fun c26 => ?_)
    · refine lv_aload_n F_.1 F_.2.1 dX8_type_34 rfl (lv_at hl 0 rfl) ?_
      refine z_get F_ K_ W_ 0 0 11 rfl rfl rfl (C := RX8) (T := TX8) (N := 19) rfl (by decide) hinX8 (List.mem_of_getElem? (i := 3) rfl) dX8_type_35 ?_
      refine lv_aload_n F_.1 F_.2.1 dX8_type_38 rfl (lv_at hl 0 rfl) ?_
      refine z_get F_ K_ W_ 0 0 12 rfl rfl rfl (C := RX8) (T := TX8) (N := 19) rfl (by decide) hinX8 (List.mem_of_getElem? (i := 2) rfl) dX8_type_39 ?_
      refine lv_iload_n F_.1 F_.2.1 dX8_type_42 rfl (lv_at hl 1 rfl) ?_
      refine z_iast (sg' := [wO cy o ab be bl ta tl tk vl, wR cy (o 4) 3 rf, wB cy (o 10) (zu yb bl c)]) F_ K_ W_ 2 0 rfl rfl rfl (by omega) (by decide) dX8_type_43 (fun H_ lo_ W_ => ?_)
      obtain ⟨g_2, eg_2⟩ : ∃ x_ : Int → Int, x_ = zu yb bl c := ⟨_, rfl⟩
      rw [← eg_2] at W_
      have bg_2 : ∀ j : Int, 0 ≤ g_2 j ∧ g_2 j ≤ 127 := by rw [eg_2]; exact zu_b byb (by omega)
      refine lv_aload_n F_.1 F_.2.1 dX8_type_44 rfl (lv_at hl 0 rfl) ?_
      refine lv_dup F_.1 F_.2.1 dX8_type_45 rfl ?_
      refine z_get F_ K_ W_ 0 0 12 rfl rfl rfl (C := RX8) (T := TX8) (N := 19) rfl (by decide) hinX8 (List.mem_of_getElem? (i := 2) rfl) dX8_type_46 ?_
      refine z_iconst F_ dX8_type_49 ?_
      refine z_iadd F_ dX8_type_50 ?_
      refine z_put (sg' := [wO cy o ab be (bl + 1) ta tl tk vl, wR cy (o 4) 3 rf, wB cy (o 10) g_2]) F_ K_ W_ 0 0 12 rfl rfl rfl (C := RX8) (T := TX8) (N := 19) rfl ⟨Nat.le_of_ble_eq_true rfl, Nat.le_of_ble_eq_true rfl⟩ tyX8 tyX8_ok nmX8 rfl rfl rfl hinX8 (List.mem_of_getElem? (i := 2) rfl) dX8_type_51 (fun H_ lo_ W_ => ?_)
      refine lv_aload_n F_.1 F_.2.1 dX8_type_54 rfl (lv_at hl 0 rfl) ?_
      refine z_get F_ K_ W_ 0 0 12 rfl rfl rfl (C := RX8) (T := TX8) (N := 19) rfl (by decide) hinX8 (List.mem_of_getElem? (i := 2) rfl) dX8_type_55 ?_
      exact hret _ _ _ _ (bl + 1) (rf, g_2, bl + 1) dX8_type_58 ⟨(by exact Or.inr (Or.inr ⟨by omega, by omega, rfl, by assumption, rfl, rfl⟩)), bg_2⟩ W_
    · refine lv_aload_n F_.1 F_.2.1 dX8_type_29 rfl (lv_at hl 0 rfl) ?_
      refine z_callVi F_ K_ W_ [] (c_X8_full l_ D cy o ab be bl ta tl tk vl rf) 0 rfl gX8_type_X8_full rfl (by decide +kernel) ⟨⟨Nat.le_of_ble_eq_true rfl, Nat.le_of_ble_eq_true rfl⟩, rfl, rfl, Nat.zero_le _, Nat.zero_le _⟩ 0 0 7 rfl rfl rfl rfl hl.1 rfl (Nat.le_of_ble_eq_true rfl) [0, 1] [2] [wB cy (o 10) yb] (fun (u_ : (Int → Int)) => [wO cy o ab be bl ta tl tk vl, wR cy (o 4) 3 u_, wB cy (o 10) yb]) 3 (by decide +kernel) rfl rfl rfl (fun _ => rfl) (fun _ => rfl) (fun _ => rfl) dX8_type_30 (fun z_3 u_ H_ lo_ hw_ W_ => ?_)
      obtain ⟨rf2_4, rfl⟩ : ∃ x, x = u_ := ⟨_, rfl⟩
      have W_ : WD D A_ s_.heap ([wO cy o ab be bl ta tl tk vl, wR cy (o 4) 3 rf2_4, wB cy (o 10) yb]) H_ lo_ := W_
      replace hw_ : (z_3 = -4) ∧ (rf2_4 = rfZ rf 2) := hw_
      obtain ⟨f30_v, f30_r⟩ := hw_
      exact hret _ _ _ _ z_3 (rf2_4, yb, bl) dX8_type_33 ⟨(by exact Or.inr (Or.inl ⟨by omega, by omega, by omega, rfl, rfl, by assumption⟩)), byb⟩ W_
  · refine lv_aload_n F_.1 F_.2.1 dX8_type_12 rfl (lv_at hl 0 rfl) ?_
    refine z_bipush F_ (by decide) dX8_type_13 ?_
    refine z_callVi F_ K_ W_ [.int (zi (-2))] (c_X8_bad l_ D cy o ab be bl ta tl tk vl rf (-2) (by first | omega | assumption)) 1 rfl gX8_type_X8_bad rfl (by decide +kernel) ⟨⟨Nat.le_of_ble_eq_true rfl, Nat.le_of_ble_eq_true rfl⟩, rfl, rfl, Nat.zero_le _, Nat.zero_le _⟩ 0 0 7 rfl rfl rfl rfl hl.1 rfl (Nat.le_of_ble_eq_true rfl) [0, 1] [2] [wB cy (o 10) yb] (fun (u_ : (Int → Int)) => [wO cy o ab be bl ta tl tk vl, wR cy (o 4) 3 u_, wB cy (o 10) yb]) 3 (by decide +kernel) rfl rfl rfl (fun _ => rfl) (fun _ => rfl) (fun _ => rfl) dX8_type_15 (fun z_5 u_ H_ lo_ hw_ W_ => ?_)
    obtain ⟨rf2_6, rfl⟩ : ∃ x, x = u_ := ⟨_, rfl⟩
    have W_ : WD D A_ s_.heap ([wO cy o ab be bl ta tl tk vl, wR cy (o 4) 3 rf2_6, wB cy (o 10) yb]) H_ lo_ := W_
    replace hw_ : (z_5 = (-2)) ∧ (rf2_6 = rfZ rf 0) := hw_
    obtain ⟨f15_v, f15_r⟩ := hw_
    exact hret _ _ _ _ z_5 (rf2_6, yb, bl) dX8_type_18 ⟨(by exact Or.inl ⟨by omega, by omega, rfl, rfl, by assumption⟩), byb⟩ W_
abbrev rX8_clear : Room := { frames := 0, cells := 0, slots := 0, locals := 0 }
set_option maxHeartbeats 1000000 in
set_option maxRecDepth 100000 in
theorem c_X8_clear (l_ : Launch) (D : va_G) (cy : Nat → ClassId) (o : Nat → Nat) (ab : Int) (be : Int) (bl : Int) (ta : Int) (tl : Int) (tk : Int) (vl : Int)  : CTi l_ D cy yX8_clear wsX8_clear rX8_clear [.ref (o 0)] ([wO cy o ab be bl ta tl tk vl]) (fun (z : Int) (u : Unit) => (z = bl)) (fun (u : Unit) => [wO cy o ab be 0 ta tl tk vl]) := by
  refine CTi.of RX8 cX8_clear 2 rfl (by decide) rfl (fun z u hz => rfl) (Nat.le_of_ble_eq_true rfl) ?_
  intro p_ e_ s_ m_ ar_ be_ me_ c_ Q_ A_ ls_ F_ K_ W_ hl hret
  have hl : lv_has ls_ 2 [(0, .ref (o 0))] := hl
  obtain ⟨H_, hH_⟩ : ∃ x, x = s_.heap := ⟨_, rfl⟩
  obtain ⟨lo_, hlo_⟩ : ∃ x : List Loc, x = [] := ⟨_, rfl⟩
  have W_ : WD D A_ s_.heap ([wO cy o ab be bl ta tl tk vl]) H_ lo_ := by rw [hH_, hlo_]; exact W_
  rw [← hlo_]
  suffices hg_ : W p_ l_ e_ rX8_clear s_ m_ ar_ be_ me_ c_ H_ lo_ 0 0 Q_ (F0 m_ 0 ls_ []) by rw [hH_] at hg_; exact hg_
  clear hH_ hlo_
  have hinX8 : ∀ w ∈ u_ws RX8 TX8 19, w ∈ wsX8_clear := fun w h => List.mem_cons_of_mem _ (List.mem_append_right _ h)
  refine lv_aload_n F_.1 F_.2.1 dX8_clear_0 rfl (lv_at hl 0 rfl) ?_
  refine z_get F_ K_ W_ 0 0 12 rfl rfl rfl (C := RX8) (T := TX8) (N := 19) rfl (by decide) hinX8 (List.mem_of_getElem? (i := 1) rfl) dX8_clear_1 ?_
  refine lv_istore_n (lv' := [(1, .int (zi bl)), (0, .ref (o 0))]) F_.1 F_.2.1 dX8_clear_4 rfl hl (by decide) rfl (fun ls_ hl => ?_)
  refine lv_aload_n F_.1 F_.2.1 dX8_clear_5 rfl (lv_at hl 1 rfl) ?_
  refine z_iconst F_ dX8_clear_6 ?_
  refine z_put (sg' := [wO cy o ab be 0 ta tl tk vl]) F_ K_ W_ 0 0 12 rfl rfl rfl (C := RX8) (T := TX8) (N := 19) rfl ⟨Nat.le_of_ble_eq_true rfl, Nat.le_of_ble_eq_true rfl⟩ tyX8 tyX8_ok nmX8 rfl rfl rfl hinX8 (List.mem_of_getElem? (i := 1) rfl) dX8_clear_7 (fun H_ lo_ W_ => ?_)
  refine lv_iload_n F_.1 F_.2.1 dX8_clear_10 rfl (lv_at hl 0 rfl) ?_
  exact hret _ _ _ _ bl () dX8_clear_11 (by first | omega | assumption) W_
abbrev rX8_part : Room := { frames := 1, cells := 0, slots := 0, locals := 21 }
set_option maxHeartbeats 1000000 in
set_option maxRecDepth 100000 in
theorem c_X8_part (l_ : Launch) (D : va_G) (cy : Nat → ClassId) (o : Nat → Nat) (ab : Int) (be : Int) (bl : Int) (ta : Int) (tl : Int) (tk : Int) (vl : Int) (rf : Int → Int) (w : Int) (rw : -2147483648 ≤ w ∧ w < 2147483648) : CTl l_ D cy yX8_part wsX8_part rX8_part [.ref (o 0), .int (zi w)] ([wO cy o ab be bl ta tl tk vl, wR cy (o 4) 3 rf]) (fun (z : Int) (u : (Int → Int)) => ((w = 0 ∧ z = ab ∧ u = rf) ∨ (w = 1 ∧ z = be ∧ u = rf) ∨ (¬ (w = 0 ∨ w = 1) ∧ z = -2 ∧ u = rfZ rf 0))) (fun (u : (Int → Int)) => [wO cy o ab be bl ta tl tk vl, wR cy (o 4) 3 u]) := by
  refine CTl.of RX8 cX8_part 2 rfl (by decide) rfl (Nat.le_of_ble_eq_true rfl) ?_
  intro p_ e_ s_ m_ ar_ be_ me_ c_ Q_ A_ ls_ F_ K_ W_ hl hret
  have hl : lv_has ls_ 2 [(0, .ref (o 0)), (1, .int (zi w))] := hl
  obtain ⟨H_, hH_⟩ : ∃ x, x = s_.heap := ⟨_, rfl⟩
  obtain ⟨lo_, hlo_⟩ : ∃ x : List Loc, x = [] := ⟨_, rfl⟩
  have W_ : WD D A_ s_.heap ([wO cy o ab be bl ta tl tk vl, wR cy (o 4) 3 rf]) H_ lo_ := by rw [hH_, hlo_]; exact W_
  rw [← hlo_]
  suffices hg_ : W p_ l_ e_ rX8_part s_ m_ ar_ be_ me_ c_ H_ lo_ 0 0 Q_ (F0 m_ 0 ls_ []) by rw [hH_] at hg_; exact hg_
  clear hH_ hlo_
  have hinX8 : ∀ w ∈ u_ws RX8 TX8 19, w ∈ wsX8_part := fun w h => List.mem_cons_of_mem _ (List.mem_append_right _ h)
  refine lv_iload_n F_.1 F_.2.1 dX8_part_0 rfl (lv_at hl 1 rfl) ?_
  refine z_if_ne (tgt := 11) F_ (by omega) dX8_part_1 (by decide) (fun c1 => ?_) (fun c1 => ?_)
  · refine lv_iload_n F_.1 F_.2.1 dX8_part_11 rfl (lv_at hl 1 rfl) ?_
    refine z_iconst F_ dX8_part_12 ?_
    refine z_icmp_ne (tgt := 23) F_ (by omega) dX8_part_13 (by decide) (fun c13 => ?_) (fun c13 => ?_)
    · refine lv_aload_n F_.1 F_.2.1 dX8_part_23 rfl (lv_at hl 0 rfl) ?_
      refine z_bipush F_ (by decide) dX8_part_24 ?_
      refine z_callVi F_ K_ W_ [.int (zi (-2))] (c_X8_bad l_ D cy o ab be bl ta tl tk vl rf (-2) (by first | omega | assumption)) 1 rfl gX8_part_X8_bad rfl (by decide +kernel) ⟨⟨Nat.le_of_ble_eq_true rfl, Nat.le_of_ble_eq_true rfl⟩, rfl, rfl, Nat.zero_le _, Nat.zero_le _⟩ 0 0 7 rfl rfl rfl rfl hl.1 rfl (Nat.le_of_ble_eq_true rfl) [0, 1] ([] : List Nat) ([] : List va_W) (fun (u_ : (Int → Int)) => [wO cy o ab be bl ta tl tk vl, wR cy (o 4) 3 u_]) 2 (by decide +kernel) rfl rfl rfl (fun _ => rfl) (fun _ => rfl) (fun _ => rfl) dX8_part_26 (fun z_1 u_ H_ lo_ hw_ W_ => ?_)
      obtain ⟨rf2_2, rfl⟩ : ∃ x, x = u_ := ⟨_, rfl⟩
      have W_ : WD D A_ s_.heap ([wO cy o ab be bl ta tl tk vl, wR cy (o 4) 3 rf2_2]) H_ lo_ := W_
      replace hw_ : (z_1 = (-2)) ∧ (rf2_2 = rfZ rf 0) := hw_
      obtain ⟨f26_v, f26_r⟩ := hw_
      refine z_i2l F_ (by omega) dX8_part_29 ?_
      exact hret _ _ _ _ z_1 rf2_2 dX8_part_30 (by first | exact Or.inl ⟨by omega, rfl, rfl⟩ | exact Or.inr (Or.inl ⟨by omega, rfl, rfl⟩) | exact Or.inr (Or.inr ⟨by omega, by omega, by assumption⟩)) W_
    · refine lv_aload_n F_.1 F_.2.1 dX8_part_16 rfl (lv_at hl 0 rfl) ?_
      refine z_get F_ K_ W_ 0 0 5 rfl rfl rfl (C := RX8) (T := TX8) (N := 19) rfl (by decide) hinX8 (List.mem_of_getElem? (i := 2) rfl) dX8_part_17 ?_
      refine z_goto (tgt := 30) F_ dX8_part_20 (by decide) ?_
      exact hret _ _ _ _ be rf dX8_part_30 (by first | exact Or.inl ⟨by omega, rfl, rfl⟩ | exact Or.inr (Or.inl ⟨by omega, rfl, rfl⟩) | exact Or.inr (Or.inr ⟨by omega, by omega, by assumption⟩)) W_
  · refine lv_aload_n F_.1 F_.2.1 dX8_part_4 rfl (lv_at hl 0 rfl) ?_
    refine z_get F_ K_ W_ 0 0 4 rfl rfl rfl (C := RX8) (T := TX8) (N := 19) rfl (by decide) hinX8 (List.mem_of_getElem? (i := 1) rfl) dX8_part_5 ?_
    refine z_goto (tgt := 30) F_ dX8_part_8 (by decide) ?_
    exact hret _ _ _ _ ab rf dX8_part_30 (by first | exact Or.inl ⟨by omega, rfl, rfl⟩ | exact Or.inr (Or.inl ⟨by omega, rfl, rfl⟩) | exact Or.inr (Or.inr ⟨by omega, by omega, by assumption⟩)) W_
abbrev rX8_image : Room := { frames := 1, cells := 0, slots := 0, locals := 25 }
set_option maxHeartbeats 1000000 in
set_option maxRecDepth 100000 in
theorem c_X8_image (l_ : Launch) (D : va_G) (cy : Nat → ClassId) (o : Nat → Nat) (ab : Int) (be : Int) (bl : Int) (ta : Int) (tl : Int) (tk : Int) (vl : Int) (g : Int → Int) (rf : Int → Int) (kp : Int → Int) (ik : Int → Int) (i : Int) (bg : ∀ j : Int, 0 ≤ g j ∧ g j ≤ 99) (bkp : ∀ j : Int, 0 ≤ kp j ∧ kp j ≤ 99) (bik : ∀ j : Int, 0 ≤ ik j ∧ ik j ≤ 1) (ri : -2147483648 ≤ i ∧ i < 2147483648) : CTi l_ D cy yX8_image wsX8_image rX8_image [.ref (o 0), .int (zi i)] ([wO cy o ab be bl ta tl tk vl, wA cy (o 1) 192 g, wR cy (o 4) 3 rf, wA cy (o 2) 384 kp, wZ cy (o 3) 2 ik]) (fun (z : Int) (u : (Int → Int) × (Int → Int) × (Int → Int)) => (((0 ≤ i ∧ i ≤ 1) ∧ z = 1 ∧ u.2.1 = imG kp g i 192 ∧ u.2.2 = zu ik i 1 ∧ u.1 = rf) ∨ (¬ (0 ≤ i ∧ i ≤ 1) ∧ z = -2 ∧ u.2.1 = kp ∧ u.2.2 = ik ∧ u.1 = rfZ rf 0)) ∧ (∀ j : Int, 0 ≤ u.2.1 j ∧ u.2.1 j ≤ 99) ∧ (∀ j : Int, 0 ≤ u.2.2 j ∧ u.2.2 j ≤ 1)) (fun (u : (Int → Int) × (Int → Int) × (Int → Int)) => [wO cy o ab be bl ta tl tk vl, wA cy (o 1) 192 g, wR cy (o 4) 3 u.1, wA cy (o 2) 384 u.2.1, wZ cy (o 3) 2 u.2.2]) := by
  refine CTi.of RX8 cX8_image 3 rfl (by decide) rfl (fun z u hz => rfl) (Nat.le_of_ble_eq_true rfl) ?_
  intro p_ e_ s_ m_ ar_ be_ me_ c_ Q_ A_ ls_ F_ K_ W_ hl hret
  have hl : lv_has ls_ 3 [(0, .ref (o 0)), (1, .int (zi i))] := hl
  obtain ⟨H_, hH_⟩ : ∃ x, x = s_.heap := ⟨_, rfl⟩
  obtain ⟨lo_, hlo_⟩ : ∃ x : List Loc, x = [] := ⟨_, rfl⟩
  have W_ : WD D A_ s_.heap ([wO cy o ab be bl ta tl tk vl, wA cy (o 1) 192 g, wR cy (o 4) 3 rf, wA cy (o 2) 384 kp, wZ cy (o 3) 2 ik]) H_ lo_ := by rw [hH_, hlo_]; exact W_
  rw [← hlo_]
  suffices hg_ : W p_ l_ e_ rX8_image s_ m_ ar_ be_ me_ c_ H_ lo_ 0 0 Q_ (F0 m_ 0 ls_ []) by rw [hH_] at hg_; exact hg_
  clear hH_ hlo_
  have hinX8 : ∀ w ∈ u_ws RX8 TX8 19, w ∈ wsX8_image := fun w h => List.mem_cons_of_mem _ (List.mem_append_right _ h)
  refine lv_iload_n F_.1 F_.2.1 dX8_image_0 rfl (lv_at hl 1 rfl) ?_
  refine z_i2l F_ (by omega) dX8_image_1 ?_
  refine z_lconst (z := 0) F_ rfl dX8_image_2 ?_
  refine z_lconst (z := 1) F_ rfl dX8_image_3 ?_
  refine z_callSip F_ K_ W_ [.long (zl i), .long (zl 0), .long (zl 1)] (c_X8_in l_ D cy i 0 1 (by first | omega | assumption)) 3 rfl gX8_image_X8_in rfl (by decide +kernel) ⟨⟨Nat.le_of_ble_eq_true rfl, Nat.le_of_ble_eq_true rfl⟩, rfl, rfl, Nat.zero_le _, Nat.zero_le _⟩ hl.1 rfl (Nat.le_of_ble_eq_true rfl) ([] : List Nat) [0, 1, 2, 3, 4] [wO cy o ab be bl ta tl tk vl, wA cy (o 1) 192 g, wR cy (o 4) 3 rf, wA cy (o 2) 384 kp, wZ cy (o 3) 2 ik] 5 (by decide +kernel) rfl rfl rfl dX8_image_4 (fun z_1 _ H_ lo_ hw_ W_ => ?_)
  replace hw_ : ((z_1 = 1 ∧ (0 ≤ i ∧ i ≤ 1)) ∨ (z_1 = 0 ∧ ¬ (0 ≤ i ∧ i ≤ 1))) := hw_
  have f4_v := hw_
  clear hw_
  refine z_if_ne (tgt := 17) F_ (by omega) dX8_image_7 (by decide) (fun c7 => ?_) (fun c7 => ?_)
  · refine z_iconst F_ dX8_image_17 ?_
    refine lv_istore_n (lv' := [(2, .int (zi 0)), (0, .ref (o 0)), (1, .int (zi i))]) F_.1 F_.2.1 dX8_image_18 rfl hl (by decide) rfl (fun ls_ hl => ?_)
    have L19 : ∀ (n_ : Nat) (k : Int) (x : Int → Int) (bx : ∀ j : Int, 0 ≤ x j ∧ x j ≤ 99) (hk : 0 ≤ k ∧ k ≤ 192) (hx : x = imG kp g i k) (hm_ : (192 - k : Int) < (n_ : Int)) (ls_ : Array Slot) (H_ : Heap) (lo_ : List Loc), WD D A_ s_.heap ([wO cy o ab be bl ta tl tk vl, wA cy (o 1) 192 g, wR cy (o 4) 3 rf, wA cy (o 2) 384 x, wZ cy (o 3) 2 ik]) H_ lo_ → lv_has ls_ 3 [(2, .int (zi k)), (0, .ref (o 0)), (1, .int (zi i))] → W p_ l_ e_ rX8_image s_ m_ ar_ be_ me_ c_ H_ lo_ 0 0 Q_ (F0 m_ 19 ls_ []) := by
      intro n_
      induction n_ with
      | zero =>
        intro k x bx hk hx hm_ ls_ H_ lo_ _ _
        exact absurd hm_ (by omega)
      | succ n_ ih_ =>
        intro k x bx hk hx hm_ ls_ H_ lo_ W_ hl
        have ih19 := ih_
        refine lv_iload_n F_.1 F_.2.1 dX8_image_19 rfl (lv_at hl 0 rfl) ?_
        refine z_sipush F_ (by decide) dX8_image_20 ?_
        refine z_icmp_ge (tgt := 50) F_ (by omega) dX8_image_23 (by decide) (fun c23 => ?_) (fun c23 => ?_)
        · refine lv_aload_n F_.1 F_.2.1 dX8_image_50 rfl (lv_at hl 1 rfl) ?_
          refine z_get F_ K_ W_ 0 0 2 rfl rfl rfl (C := RX8) (T := TX8) (N := 19) rfl (by decide) hinX8 (List.mem_of_getElem? (i := 3) rfl) dX8_image_51 ?_
          refine lv_iload_n F_.1 F_.2.1 dX8_image_54 rfl (lv_at hl 2 rfl) ?_
          refine z_iconst F_ dX8_image_55 ?_
          refine z_zast (sg' := [wO cy o ab be bl ta tl tk vl, wA cy (o 1) 192 g, wR cy (o 4) 3 rf, wA cy (o 2) 384 x, wZ cy (o 3) 2 (zu ik i 1)]) F_ K_ W_ 4 0 rfl rfl rfl (by omega) (by decide) (by omega) dX8_image_56 (fun H_ lo_ W_ => ?_)
          obtain ⟨g_2, eg_2⟩ : ∃ x_ : Int → Int, x_ = zu ik i 1 := ⟨_, rfl⟩
          rw [← eg_2] at W_
          have bg_2 : ∀ j : Int, 0 ≤ g_2 j ∧ g_2 j ≤ 1 := by rw [eg_2]; exact zu_b bik (by omega)
          refine z_iconst F_ dX8_image_57 ?_
          exact hret _ _ _ _ 1 (rf, x, g_2) dX8_image_58 ⟨(by exact Or.inl ⟨by omega, rfl, by rw [hx, show k = 192 by omega], by assumption, rfl⟩), bx, bg_2⟩ W_
        · refine lv_aload_n F_.1 F_.2.1 dX8_image_26 rfl (lv_at hl 1 rfl) ?_
          refine z_get F_ K_ W_ 0 0 1 rfl rfl rfl (C := RX8) (T := TX8) (N := 19) rfl (by decide) hinX8 (List.mem_of_getElem? (i := 1) rfl) dX8_image_27 ?_
          refine z_sipush F_ (by decide) dX8_image_30 ?_
          refine lv_iload_n F_.1 F_.2.1 dX8_image_33 rfl (lv_at hl 2 rfl) ?_
          refine z_imul F_ dX8_image_34 ?_
          refine lv_iload_n F_.1 F_.2.1 dX8_image_35 rfl (lv_at hl 0 rfl) ?_
          refine z_iadd F_ dX8_image_36 ?_
          refine lv_aload_n F_.1 F_.2.1 dX8_image_37 rfl (lv_at hl 1 rfl) ?_
          refine z_get F_ K_ W_ 0 0 0 rfl rfl rfl (C := RX8) (T := TX8) (N := 19) rfl (by decide) hinX8 (List.mem_of_getElem? (i := 2) rfl) dX8_image_38 ?_
          refine lv_iload_n F_.1 F_.2.1 dX8_image_41 rfl (lv_at hl 0 rfl) ?_
          refine z_iald F_ K_ W_ 1 0 rfl rfl (by omega) (by decide) dX8_image_42 ?_
          have b_3 := bg k
          refine z_iast (sg' := [wO cy o ab be bl ta tl tk vl, wA cy (o 1) 192 g, wR cy (o 4) 3 rf, wA cy (o 2) 384 (zu x ((192 * i) + k) (g k)), wZ cy (o 3) 2 ik]) F_ K_ W_ 3 0 rfl rfl rfl (by omega) (by decide) dX8_image_43 (fun H_ lo_ W_ => ?_)
          obtain ⟨g_4, eg_4⟩ : ∃ x_ : Int → Int, x_ = zu x ((192 * i) + k) (g k) := ⟨_, rfl⟩
          rw [← eg_4] at W_
          have bg_4 : ∀ j : Int, 0 ≤ g_4 j ∧ g_4 j ≤ 99 := by rw [eg_4]; exact zu_b bx (by omega)
          refine z_iinc (lv' := [(2, .int (zi (k + 1))), (0, .ref (o 0)), (1, .int (zi i))]) F_ dX8_image_44 hl (k := 0) rfl (by decide) rfl (fun ls_ hl => ?_)
          refine z_goto (tgt := 19) F_ dX8_image_47 (by decide) ?_
          exact ih19 (k + 1) g_4 bg_4 (by first | omega | assumption) (by rw [eg_4, hx]; funext j_; simp only [zu_at, imG]; repeat (first | omega | rfl | split | (congr 1; omega))) (by omega) ls_ H_ lo_ W_ (lv_sub hl [0, 1, 2] rfl)
    exact L19 ((192 - 0 : Int).toNat + 1) 0 kp bkp (by first | omega | assumption) (by funext j_; simp only [zu_at, imG]; repeat (first | omega | rfl | split | (congr 1; omega))) (by have := Int.self_le_toNat (192 - 0 : Int); omega) ls_ H_ lo_ W_ (lv_sub hl [0, 1, 2] rfl)
  · refine lv_aload_n F_.1 F_.2.1 dX8_image_10 rfl (lv_at hl 0 rfl) ?_
    refine z_bipush F_ (by decide) dX8_image_11 ?_
    refine z_callVi F_ K_ W_ [.int (zi (-2))] (c_X8_bad l_ D cy o ab be bl ta tl tk vl rf (-2) (by first | omega | assumption)) 1 rfl gX8_image_X8_bad rfl (by decide +kernel) ⟨⟨Nat.le_of_ble_eq_true rfl, Nat.le_of_ble_eq_true rfl⟩, rfl, rfl, Nat.zero_le _, Nat.zero_le _⟩ 0 0 7 rfl rfl rfl rfl hl.1 rfl (Nat.le_of_ble_eq_true rfl) [0, 2] [1, 3, 4] [wA cy (o 1) 192 g, wA cy (o 2) 384 kp, wZ cy (o 3) 2 ik] (fun (u_ : (Int → Int)) => [wO cy o ab be bl ta tl tk vl, wA cy (o 1) 192 g, wR cy (o 4) 3 u_, wA cy (o 2) 384 kp, wZ cy (o 3) 2 ik]) 5 (by decide +kernel) rfl rfl rfl (fun _ => rfl) (fun _ => rfl) (fun _ => rfl) dX8_image_13 (fun z_5 u_ H_ lo_ hw_ W_ => ?_)
    obtain ⟨rf2_6, rfl⟩ : ∃ x, x = u_ := ⟨_, rfl⟩
    have W_ : WD D A_ s_.heap ([wO cy o ab be bl ta tl tk vl, wA cy (o 1) 192 g, wR cy (o 4) 3 rf2_6, wA cy (o 2) 384 kp, wZ cy (o 3) 2 ik]) H_ lo_ := W_
    replace hw_ : (z_5 = (-2)) ∧ (rf2_6 = rfZ rf 0) := hw_
    obtain ⟨f13_v, f13_r⟩ := hw_
    exact hret _ _ _ _ z_5 (rf2_6, kp, ik) dX8_image_16 ⟨(by exact Or.inr ⟨by omega, by omega, rfl, rfl, by assumption⟩), bkp, bik⟩ W_
abbrev rX8_from : Room := { frames := 1, cells := 0, slots := 0, locals := 25 }
set_option maxHeartbeats 1000000 in
set_option maxRecDepth 100000 in
theorem c_X8_from (l_ : Launch) (D : va_G) (cy : Nat → ClassId) (o : Nat → Nat) (ab : Int) (be : Int) (bl : Int) (ta : Int) (tl : Int) (tk : Int) (vl : Int) (g : Int → Int) (rf : Int → Int) (kp : Int → Int) (ik : Int → Int) (i : Int) (bg : ∀ j : Int, 0 ≤ g j ∧ g j ≤ 99) (bkp : ∀ j : Int, 0 ≤ kp j ∧ kp j ≤ 99) (bik : ∀ j : Int, 0 ≤ ik j ∧ ik j ≤ 1) (ri : -2147483648 ≤ i ∧ i < 2147483648) : CTi l_ D cy yX8_from wsX8_from rX8_from [.ref (o 0), .int (zi i)] ([wO cy o ab be bl ta tl tk vl, wA cy (o 1) 192 g, wR cy (o 4) 3 rf, wA cy (o 2) 384 kp, wZ cy (o 3) 2 ik]) (fun (z : Int) (u : (Int → Int) × (Int → Int)) => ((¬ (0 ≤ i ∧ i ≤ 1) ∧ z = -2 ∧ u.2 = g ∧ u.1 = rfZ rf 0) ∨ ((0 ≤ i ∧ i ≤ 1) ∧ ik i = 0 ∧ z = -3 ∧ u.2 = g ∧ u.1 = rfZ rf 1) ∨ ((0 ≤ i ∧ i ≤ 1) ∧ ik i = 1 ∧ z = 1 ∧ u.2 = shZ kp (192 * i) ∧ u.1 = rf)) ∧ (∀ j : Int, 0 ≤ u.2 j ∧ u.2 j ≤ 99)) (fun (u : (Int → Int) × (Int → Int)) => [wO cy o ab be bl ta tl tk vl, wA cy (o 1) 192 u.2, wR cy (o 4) 3 u.1, wA cy (o 2) 384 kp, wZ cy (o 3) 2 ik]) := by
  refine CTi.of RX8 cX8_from 3 rfl (by decide) rfl (fun z u hz => rfl) (Nat.le_of_ble_eq_true rfl) ?_
  intro p_ e_ s_ m_ ar_ be_ me_ c_ Q_ A_ ls_ F_ K_ W_ hl hret
  have hl : lv_has ls_ 3 [(0, .ref (o 0)), (1, .int (zi i))] := hl
  obtain ⟨H_, hH_⟩ : ∃ x, x = s_.heap := ⟨_, rfl⟩
  obtain ⟨lo_, hlo_⟩ : ∃ x : List Loc, x = [] := ⟨_, rfl⟩
  have W_ : WD D A_ s_.heap ([wO cy o ab be bl ta tl tk vl, wA cy (o 1) 192 g, wR cy (o 4) 3 rf, wA cy (o 2) 384 kp, wZ cy (o 3) 2 ik]) H_ lo_ := by rw [hH_, hlo_]; exact W_
  rw [← hlo_]
  suffices hg_ : W p_ l_ e_ rX8_from s_ m_ ar_ be_ me_ c_ H_ lo_ 0 0 Q_ (F0 m_ 0 ls_ []) by rw [hH_] at hg_; exact hg_
  clear hH_ hlo_
  have hinX8 : ∀ w ∈ u_ws RX8 TX8 19, w ∈ wsX8_from := fun w h => List.mem_cons_of_mem _ (List.mem_append_right _ h)
  refine lv_iload_n F_.1 F_.2.1 dX8_from_0 rfl (lv_at hl 1 rfl) ?_
  refine z_i2l F_ (by omega) dX8_from_1 ?_
  refine z_lconst (z := 0) F_ rfl dX8_from_2 ?_
  refine z_lconst (z := 1) F_ rfl dX8_from_3 ?_
  refine z_callSip F_ K_ W_ [.long (zl i), .long (zl 0), .long (zl 1)] (c_X8_in l_ D cy i 0 1 (by first | omega | assumption)) 3 rfl gX8_from_X8_in rfl (by decide +kernel) ⟨⟨Nat.le_of_ble_eq_true rfl, Nat.le_of_ble_eq_true rfl⟩, rfl, rfl, Nat.zero_le _, Nat.zero_le _⟩ hl.1 rfl (Nat.le_of_ble_eq_true rfl) ([] : List Nat) [0, 1, 2, 3, 4] [wO cy o ab be bl ta tl tk vl, wA cy (o 1) 192 g, wR cy (o 4) 3 rf, wA cy (o 2) 384 kp, wZ cy (o 3) 2 ik] 5 (by decide +kernel) rfl rfl rfl dX8_from_4 (fun z_1 _ H_ lo_ hw_ W_ => ?_)
  replace hw_ : ((z_1 = 1 ∧ (0 ≤ i ∧ i ≤ 1)) ∨ (z_1 = 0 ∧ ¬ (0 ≤ i ∧ i ≤ 1))) := hw_
  have f4_v := hw_
  clear hw_
  refine z_if_ne (tgt := 17) F_ (by omega) dX8_from_7 (by decide) (fun c7 => ?_) (fun c7 => ?_)
  · refine lv_aload_n F_.1 F_.2.1 dX8_from_17 rfl (lv_at hl 0 rfl) ?_
    refine z_get F_ K_ W_ 0 0 2 rfl rfl rfl (C := RX8) (T := TX8) (N := 19) rfl (by decide) hinX8 (List.mem_of_getElem? (i := 1) rfl) dX8_from_18 ?_
    refine lv_iload_n F_.1 F_.2.1 dX8_from_21 rfl (lv_at hl 1 rfl) ?_
    refine z_zald F_ K_ W_ 4 0 rfl rfl (by omega) (by decide) dX8_from_22 ?_
    have b_2 := bik i
    refine z_if_ne (tgt := 31) F_ (by omega) dX8_from_23 (by decide) (fun c23 => ?_) (fun c23 => ?_)
    · refine z_iconst F_ dX8_from_31 ?_
      refine lv_istore_n (lv' := [(2, .int (zi 0)), (0, .ref (o 0)), (1, .int (zi i))]) F_.1 F_.2.1 dX8_from_32 rfl hl (by decide) rfl (fun ls_ hl => ?_)
      have L33 : ∀ (n_ : Nat) (k : Int) (x : Int → Int) (bx : ∀ j : Int, 0 ≤ x j ∧ x j ≤ 99) (hk : 0 ≤ k ∧ k ≤ 192) (hx : x = cpG (shZ kp (192 * i)) g k) (hm_ : (192 - k : Int) < (n_ : Int)) (ls_ : Array Slot) (H_ : Heap) (lo_ : List Loc), WD D A_ s_.heap ([wO cy o ab be bl ta tl tk vl, wA cy (o 1) 192 x, wR cy (o 4) 3 rf, wA cy (o 2) 384 kp, wZ cy (o 3) 2 ik]) H_ lo_ → lv_has ls_ 3 [(2, .int (zi k)), (0, .ref (o 0)), (1, .int (zi i))] → W p_ l_ e_ rX8_from s_ m_ ar_ be_ me_ c_ H_ lo_ 0 0 Q_ (F0 m_ 33 ls_ []) := by
        intro n_
        induction n_ with
        | zero =>
          intro k x bx hk hx hm_ ls_ H_ lo_ _ _
          exact absurd hm_ (by omega)
        | succ n_ ih_ =>
          intro k x bx hk hx hm_ ls_ H_ lo_ W_ hl
          have ih33 := ih_
          refine lv_iload_n F_.1 F_.2.1 dX8_from_33 rfl (lv_at hl 0 rfl) ?_
          refine z_sipush F_ (by decide) dX8_from_34 ?_
          refine z_icmp_ge (tgt := 64) F_ (by omega) dX8_from_37 (by decide) (fun c37 => ?_) (fun c37 => ?_)
          · have W_ : WD D A_ s_.heap ([wO cy o ab be bl ta tl tk vl, wA cy (o 1) 192 (shZ kp (192 * i)), wR cy (o 4) 3 rf, wA cy (o 2) 384 kp, wZ cy (o 3) 2 ik]) H_ lo_ := wd_cell W_ 1 0 rfl rfl rfl (by intro j_ h1_ h2_; rw [hx]; simp only [cpG]; rw [if_pos (by omega)])
            refine z_iconst F_ dX8_from_64 ?_
            exact hret _ _ _ _ 1 (rf, (shZ kp (192 * i))) dX8_from_65 ⟨(by exact Or.inr (Or.inr ⟨by omega, by omega, rfl, rfl, rfl⟩)), (by exact fun j => bkp (192 * i + j))⟩ W_
          · refine lv_aload_n F_.1 F_.2.1 dX8_from_40 rfl (lv_at hl 1 rfl) ?_
            refine z_get F_ K_ W_ 0 0 0 rfl rfl rfl (C := RX8) (T := TX8) (N := 19) rfl (by decide) hinX8 (List.mem_of_getElem? (i := 2) rfl) dX8_from_41 ?_
            refine lv_iload_n F_.1 F_.2.1 dX8_from_44 rfl (lv_at hl 0 rfl) ?_
            refine lv_aload_n F_.1 F_.2.1 dX8_from_45 rfl (lv_at hl 1 rfl) ?_
            refine z_get F_ K_ W_ 0 0 1 rfl rfl rfl (C := RX8) (T := TX8) (N := 19) rfl (by decide) hinX8 (List.mem_of_getElem? (i := 3) rfl) dX8_from_46 ?_
            refine z_sipush F_ (by decide) dX8_from_49 ?_
            refine lv_iload_n F_.1 F_.2.1 dX8_from_52 rfl (lv_at hl 2 rfl) ?_
            refine z_imul F_ dX8_from_53 ?_
            refine lv_iload_n F_.1 F_.2.1 dX8_from_54 rfl (lv_at hl 0 rfl) ?_
            refine z_iadd F_ dX8_from_55 ?_
            refine z_iald F_ K_ W_ 3 0 rfl rfl (by omega) (by decide) dX8_from_56 ?_
            have b_3 := bkp ((192 * i) + k)
            refine z_iast (sg' := [wO cy o ab be bl ta tl tk vl, wA cy (o 1) 192 (zu x k (kp ((192 * i) + k))), wR cy (o 4) 3 rf, wA cy (o 2) 384 kp, wZ cy (o 3) 2 ik]) F_ K_ W_ 1 0 rfl rfl rfl (by omega) (by decide) dX8_from_57 (fun H_ lo_ W_ => ?_)
            obtain ⟨g_4, eg_4⟩ : ∃ x_ : Int → Int, x_ = zu x k (kp ((192 * i) + k)) := ⟨_, rfl⟩
            rw [← eg_4] at W_
            have bg_4 : ∀ j : Int, 0 ≤ g_4 j ∧ g_4 j ≤ 99 := by rw [eg_4]; exact zu_b bx (by omega)
            refine z_iinc (lv' := [(2, .int (zi (k + 1))), (0, .ref (o 0)), (1, .int (zi i))]) F_ dX8_from_58 hl (k := 0) rfl (by decide) rfl (fun ls_ hl => ?_)
            refine z_goto (tgt := 33) F_ dX8_from_61 (by decide) ?_
            exact ih33 (k + 1) g_4 bg_4 (by first | omega | assumption) (by rw [eg_4, hx]; funext j_; simp only [zu_at, cpG, shZ]; repeat (first | omega | rfl | split | (congr 1; omega))) (by omega) ls_ H_ lo_ W_ (lv_sub hl [0, 1, 2] rfl)
      exact L33 ((192 - 0 : Int).toNat + 1) 0 g bg (by first | omega | assumption) (by funext j_; simp only [zu_at, cpG]; repeat (first | omega | rfl | split | (congr 1; omega))) (by have := Int.self_le_toNat (192 - 0 : Int); omega) ls_ H_ lo_ W_ (lv_sub hl [0, 1, 2] rfl)
    · refine lv_aload_n F_.1 F_.2.1 dX8_from_26 rfl (lv_at hl 0 rfl) ?_
      refine z_callVi F_ K_ W_ [] (c_X8_no l_ D cy o ab be bl ta tl tk vl rf) 0 rfl gX8_from_X8_no rfl (by decide +kernel) ⟨⟨Nat.le_of_ble_eq_true rfl, Nat.le_of_ble_eq_true rfl⟩, rfl, rfl, Nat.zero_le _, Nat.zero_le _⟩ 0 0 7 rfl rfl rfl rfl hl.1 rfl (Nat.le_of_ble_eq_true rfl) [0, 2] [1, 3, 4] [wA cy (o 1) 192 g, wA cy (o 2) 384 kp, wZ cy (o 3) 2 ik] (fun (u_ : (Int → Int)) => [wO cy o ab be bl ta tl tk vl, wA cy (o 1) 192 g, wR cy (o 4) 3 u_, wA cy (o 2) 384 kp, wZ cy (o 3) 2 ik]) 5 (by decide +kernel) rfl rfl rfl (fun _ => rfl) (fun _ => rfl) (fun _ => rfl) dX8_from_27 (fun z_5 u_ H_ lo_ hw_ W_ => ?_)
      obtain ⟨rf2_6, rfl⟩ : ∃ x, x = u_ := ⟨_, rfl⟩
      have W_ : WD D A_ s_.heap ([wO cy o ab be bl ta tl tk vl, wA cy (o 1) 192 g, wR cy (o 4) 3 rf2_6, wA cy (o 2) 384 kp, wZ cy (o 3) 2 ik]) H_ lo_ := W_
      replace hw_ : (z_5 = -3) ∧ (rf2_6 = rfZ rf 1) := hw_
      obtain ⟨f27_v, f27_r⟩ := hw_
      exact hret _ _ _ _ z_5 (rf2_6, g) dX8_from_30 ⟨(by exact Or.inr (Or.inl ⟨by omega, by omega, by omega, rfl, by assumption⟩)), bg⟩ W_
  · refine lv_aload_n F_.1 F_.2.1 dX8_from_10 rfl (lv_at hl 0 rfl) ?_
    refine z_bipush F_ (by decide) dX8_from_11 ?_
    refine z_callVi F_ K_ W_ [.int (zi (-2))] (c_X8_bad l_ D cy o ab be bl ta tl tk vl rf (-2) (by first | omega | assumption)) 1 rfl gX8_from_X8_bad rfl (by decide +kernel) ⟨⟨Nat.le_of_ble_eq_true rfl, Nat.le_of_ble_eq_true rfl⟩, rfl, rfl, Nat.zero_le _, Nat.zero_le _⟩ 0 0 7 rfl rfl rfl rfl hl.1 rfl (Nat.le_of_ble_eq_true rfl) [0, 2] [1, 3, 4] [wA cy (o 1) 192 g, wA cy (o 2) 384 kp, wZ cy (o 3) 2 ik] (fun (u_ : (Int → Int)) => [wO cy o ab be bl ta tl tk vl, wA cy (o 1) 192 g, wR cy (o 4) 3 u_, wA cy (o 2) 384 kp, wZ cy (o 3) 2 ik]) 5 (by decide +kernel) rfl rfl rfl (fun _ => rfl) (fun _ => rfl) (fun _ => rfl) dX8_from_13 (fun z_7 u_ H_ lo_ hw_ W_ => ?_)
    obtain ⟨rf2_8, rfl⟩ : ∃ x, x = u_ := ⟨_, rfl⟩
    have W_ : WD D A_ s_.heap ([wO cy o ab be bl ta tl tk vl, wA cy (o 1) 192 g, wR cy (o 4) 3 rf2_8, wA cy (o 2) 384 kp, wZ cy (o 3) 2 ik]) H_ lo_ := W_
    replace hw_ : (z_7 = (-2)) ∧ (rf2_8 = rfZ rf 0) := hw_
    obtain ⟨f13_v, f13_r⟩ := hw_
    exact hret _ _ _ _ z_7 (rf2_8, g) dX8_from_16 ⟨(by exact Or.inl ⟨by omega, by omega, rfl, by assumption⟩), bg⟩ W_
abbrev rX8_status : Room := { frames := 1, cells := 0, slots := 0, locals := 25 }
set_option maxHeartbeats 1000000 in
set_option maxRecDepth 100000 in
theorem c_X8_status (l_ : Launch) (D : va_G) (cy : Nat → ClassId) (o : Nat → Nat) (ab : Int) (be : Int) (bl : Int) (ta : Int) (tl : Int) (tk : Int) (vl : Int) (rf : Int → Int) (w : Int) (rw : -2147483648 ≤ w ∧ w < 2147483648) : CTi l_ D cy yX8_status wsX8_status rX8_status [.ref (o 0), .int (zi w)] ([wO cy o ab be bl ta tl tk vl, wR cy (o 4) 3 rf]) (fun (z : Int) (u : (Int → Int)) => (((0 ≤ w ∧ w ≤ 2) ∧ z = rf w ∧ u = rf) ∨ (¬ (0 ≤ w ∧ w ≤ 2) ∧ z = -1 ∧ u = rfZ rf 0))) (fun (u : (Int → Int)) => [wO cy o ab be bl ta tl tk vl, wR cy (o 4) 3 u]) := by
  refine CTi.of RX8 cX8_status 2 rfl (by decide) rfl (fun z u hz => rfl) (Nat.le_of_ble_eq_true rfl) ?_
  intro p_ e_ s_ m_ ar_ be_ me_ c_ Q_ A_ ls_ F_ K_ W_ hl hret
  have hl : lv_has ls_ 2 [(0, .ref (o 0)), (1, .int (zi w))] := hl
  obtain ⟨H_, hH_⟩ : ∃ x, x = s_.heap := ⟨_, rfl⟩
  obtain ⟨lo_, hlo_⟩ : ∃ x : List Loc, x = [] := ⟨_, rfl⟩
  have W_ : WD D A_ s_.heap ([wO cy o ab be bl ta tl tk vl, wR cy (o 4) 3 rf]) H_ lo_ := by rw [hH_, hlo_]; exact W_
  rw [← hlo_]
  suffices hg_ : W p_ l_ e_ rX8_status s_ m_ ar_ be_ me_ c_ H_ lo_ 0 0 Q_ (F0 m_ 0 ls_ []) by rw [hH_] at hg_; exact hg_
  clear hH_ hlo_
  have hinX8 : ∀ w ∈ u_ws RX8 TX8 19, w ∈ wsX8_status := fun w h => List.mem_cons_of_mem _ (List.mem_append_right _ h)
  refine lv_iload_n F_.1 F_.2.1 dX8_status_0 rfl (lv_at hl 1 rfl) ?_
  refine z_i2l F_ (by omega) dX8_status_1 ?_
  refine z_lconst (z := 0) F_ rfl dX8_status_2 ?_
  refine z_ldc2 (z := 2) F_ (F_.2.2.2.2 _ (List.mem_of_getElem? (i := 1) rfl)) rfl dX8_status_3 ?_
  refine z_callSip F_ K_ W_ [.long (zl w), .long (zl 0), .long (zl 2)] (c_X8_in l_ D cy w 0 2 (by first | omega | assumption)) 3 rfl gX8_status_X8_in rfl (by decide +kernel) ⟨⟨Nat.le_of_ble_eq_true rfl, Nat.le_of_ble_eq_true rfl⟩, rfl, rfl, Nat.zero_le _, Nat.zero_le _⟩ hl.1 rfl (Nat.le_of_ble_eq_true rfl) ([] : List Nat) [0, 1] [wO cy o ab be bl ta tl tk vl, wR cy (o 4) 3 rf] 2 (by decide +kernel) rfl rfl rfl dX8_status_6 (fun z_1 _ H_ lo_ hw_ W_ => ?_)
  replace hw_ : ((z_1 = 1 ∧ (0 ≤ w ∧ w ≤ 2)) ∨ (z_1 = 0 ∧ ¬ (0 ≤ w ∧ w ≤ 2))) := hw_
  have f6_v := hw_
  clear hw_
  refine z_if_eq (tgt := 21) F_ (by omega) dX8_status_9 (by decide) (fun c9 => ?_) (fun c9 => ?_)
  · refine lv_aload_n F_.1 F_.2.1 dX8_status_21 rfl (lv_at hl 0 rfl) ?_
    refine z_iconst F_ dX8_status_22 ?_
    refine z_callVi F_ K_ W_ [.int (zi (-1))] (c_X8_bad l_ D cy o ab be bl ta tl tk vl rf (-1) (by first | omega | assumption)) 1 rfl gX8_status_X8_bad rfl (by decide +kernel) ⟨⟨Nat.le_of_ble_eq_true rfl, Nat.le_of_ble_eq_true rfl⟩, rfl, rfl, Nat.zero_le _, Nat.zero_le _⟩ 0 0 7 rfl rfl rfl rfl hl.1 rfl (Nat.le_of_ble_eq_true rfl) [0, 1] ([] : List Nat) ([] : List va_W) (fun (u_ : (Int → Int)) => [wO cy o ab be bl ta tl tk vl, wR cy (o 4) 3 u_]) 2 (by decide +kernel) rfl rfl rfl (fun _ => rfl) (fun _ => rfl) (fun _ => rfl) dX8_status_23 (fun z_2 u_ H_ lo_ hw_ W_ => ?_)
    obtain ⟨rf2_3, rfl⟩ : ∃ x, x = u_ := ⟨_, rfl⟩
    have W_ : WD D A_ s_.heap ([wO cy o ab be bl ta tl tk vl, wR cy (o 4) 3 rf2_3]) H_ lo_ := W_
    replace hw_ : (z_2 = (-1)) ∧ (rf2_3 = rfZ rf 0) := hw_
    obtain ⟨f23_v, f23_r⟩ := hw_
    exact hret _ _ _ _ z_2 rf2_3 dX8_status_26 (by first | exact Or.inl ⟨by omega, rfl, rfl⟩ | exact Or.inr ⟨by omega, by omega, by assumption⟩) W_
  · refine lv_aload_n F_.1 F_.2.1 dX8_status_12 rfl (lv_at hl 0 rfl) ?_
    refine z_get F_ K_ W_ 0 0 3 rfl rfl rfl (C := RX8) (T := TX8) (N := 19) rfl (by decide) hinX8 (List.mem_of_getElem? (i := 2) rfl) dX8_status_13 ?_
    refine lv_iload_n F_.1 F_.2.1 dX8_status_16 rfl (lv_at hl 1 rfl) ?_
    refine z_iald F_ K_ W_ 1 0 rfl rfl (by omega) (by decide) dX8_status_17 ?_
    refine z_goto (tgt := 26) F_ dX8_status_18 (by decide) ?_
    exact hret _ _ _ _ (rf w) rf dX8_status_26 (by first | exact Or.inl ⟨by omega, rfl, rfl⟩ | exact Or.inr ⟨by omega, by omega, by assumption⟩) W_
abbrev rX8_counted : Room := { frames := 2, cells := 0, slots := 0, locals := 43 }
set_option maxHeartbeats 1000000 in
set_option maxRecDepth 100000 in
theorem c_X8_counted (l_ : Launch) (D : va_G) (cy : Nat → ClassId) (o : Nat → Nat) (ab : Int) (be : Int) (bl : Int) (ta : Int) (tl : Int) (tk : Int) (vl : Int) (g : Int → Int) (w : Int) (bg : ∀ j : Int, 0 ≤ g j ∧ g j ≤ 99) (rw : -2147483648 ≤ w ∧ w < 2147483648) (hg0 : 0 ≤ g 0 ∧ g 0 ≤ 8) (hw : 0 ≤ w ∧ w ≤ 9) : CTi l_ D cy yX8_counted wsX8_counted rX8_counted [.ref (o 0), .int (zi w)] ([wO cy o ab be bl ta tl tk vl, wA cy (o 1) 192 g]) (fun (z : Int) (u : Unit) => (z = ctG g bl w)) (fun (_ : Unit) => [wO cy o ab be bl ta tl tk vl, wA cy (o 1) 192 g]) := by
  refine CTi.of RX8 cX8_counted 2 rfl (by decide) rfl (fun z u hz => rfl) (Nat.le_of_ble_eq_true rfl) ?_
  intro p_ e_ s_ m_ ar_ be_ me_ c_ Q_ A_ ls_ F_ K_ W_ hl hret
  have hl : lv_has ls_ 2 [(0, .ref (o 0)), (1, .int (zi w))] := hl
  obtain ⟨H_, hH_⟩ : ∃ x, x = s_.heap := ⟨_, rfl⟩
  obtain ⟨lo_, hlo_⟩ : ∃ x : List Loc, x = [] := ⟨_, rfl⟩
  have W_ : WD D A_ s_.heap ([wO cy o ab be bl ta tl tk vl, wA cy (o 1) 192 g]) H_ lo_ := by rw [hH_, hlo_]; exact W_
  rw [← hlo_]
  suffices hg_ : W p_ l_ e_ rX8_counted s_ m_ ar_ be_ me_ c_ H_ lo_ 0 0 Q_ (F0 m_ 0 ls_ []) by rw [hH_] at hg_; exact hg_
  clear hH_ hlo_
  have hinX8 : ∀ w ∈ u_ws RX8 TX8 19, w ∈ wsX8_counted := fun w h => List.mem_cons_of_mem _ (List.mem_append_right _ h)
  refine lv_iload_n F_.1 F_.2.1 dX8_counted_0 rfl (lv_at hl 1 rfl) ?_
  rcases (show w = 0 ∨ w = 1 ∨ w = 2 ∨ w = 3 ∨ w = 4 ∨ w = 5 ∨ w = 6 ∨ w = 7 ∨ w = 8 ∨ w = 9 ∨ (w < 0 ∨ 9 < w) by omega) with c1 | c1 | c1 | c1 | c1 | c1 | c1 | c1 | c1 | c1 | c1
  · refine z_tabIn (tgt := 56) F_ 0 c1 ⟨by omega, by decide, by decide⟩ dX8_counted_1 rfl (by decide) ?_
    refine lv_aload_n F_.1 F_.2.1 dX8_counted_56 rfl (lv_at hl 0 rfl) ?_
    refine z_callVip F_ K_ W_ [] (c_X8_many l_ D cy o ab be bl ta tl tk vl g bg) 0 rfl gX8_counted_X8_many rfl (by decide +kernel) ⟨⟨Nat.le_of_ble_eq_true rfl, Nat.le_of_ble_eq_true rfl⟩, rfl, rfl, Nat.zero_le _, Nat.zero_le _⟩ 0 0 7 rfl rfl rfl rfl hl.1 rfl (Nat.le_of_ble_eq_true rfl) [0, 1] ([] : List Nat) ([] : List va_W) 2 (by decide +kernel) rfl rfl rfl dX8_counted_57 (fun z_1 _ H_ lo_ hw_ W_ => ?_)
    replace hw_ : (z_1 = g 0) := hw_
    have f57_v := hw_
    clear hw_
    have f57_v := f57_v.symm
    subst f57_v
    exact hret _ _ _ _ (g 0) () dX8_counted_60 (by simp only [ctG, c1]; first | rfl | assumption | (simp; first | done | assumption | omega)) W_
  · refine z_tabIn (tgt := 61) F_ 1 c1 ⟨by omega, by decide, by decide⟩ dX8_counted_1 rfl (by decide) ?_
    refine lv_aload_n F_.1 F_.2.1 dX8_counted_61 rfl (lv_at hl 0 rfl) ?_
    refine z_get F_ K_ W_ 0 0 0 rfl rfl rfl (C := RX8) (T := TX8) (N := 19) rfl (by decide) hinX8 (List.mem_of_getElem? (i := 1) rfl) dX8_counted_62 ?_
    refine z_iconst F_ dX8_counted_65 ?_
    refine z_iald F_ K_ W_ 1 0 rfl rfl (by omega) (by decide) dX8_counted_66 ?_
    have b_2 := bg 1
    exact hret _ _ _ _ (g 1) () dX8_counted_67 (by simp only [ctG, c1]; first | rfl | assumption | (simp; first | done | assumption | omega)) W_
  · refine z_tabIn (tgt := 68) F_ 2 c1 ⟨by omega, by decide, by decide⟩ dX8_counted_1 rfl (by decide) ?_
    refine lv_aload_n F_.1 F_.2.1 dX8_counted_68 rfl (lv_at hl 0 rfl) ?_
    refine z_get F_ K_ W_ 0 0 0 rfl rfl rfl (C := RX8) (T := TX8) (N := 19) rfl (by decide) hinX8 (List.mem_of_getElem? (i := 1) rfl) dX8_counted_69 ?_
    refine z_callSip F_ K_ W_ [.ref (o 1)] (c_X8_ashore l_ D cy (o 1) 192 g bg (by first | omega | assumption) (by first | omega | assumption)) 1 rfl gX8_counted_X8_ashore rfl (by decide +kernel) ⟨⟨Nat.le_of_ble_eq_true rfl, Nat.le_of_ble_eq_true rfl⟩, rfl, rfl, Nat.zero_le _, Nat.zero_le _⟩ hl.1 rfl (Nat.le_of_ble_eq_true rfl) [1] [0] [wO cy o ab be bl ta tl tk vl] 2 (by decide +kernel) rfl rfl rfl dX8_counted_72 (fun z_3 _ H_ lo_ hw_ W_ => ?_)
    replace hw_ : (z_3 = cntG g 0) := hw_
    have f72_v := hw_
    clear hw_
    exact hret _ _ _ _ z_3 () dX8_counted_75 (by simp only [ctG, c1]; first | rfl | assumption | (simp; first | done | assumption | omega)) W_
  · refine z_tabIn (tgt := 76) F_ 3 c1 ⟨by omega, by decide, by decide⟩ dX8_counted_1 rfl (by decide) ?_
    refine lv_aload_n F_.1 F_.2.1 dX8_counted_76 rfl (lv_at hl 0 rfl) ?_
    refine z_get F_ K_ W_ 0 0 0 rfl rfl rfl (C := RX8) (T := TX8) (N := 19) rfl (by decide) hinX8 (List.mem_of_getElem? (i := 1) rfl) dX8_counted_77 ?_
    refine z_iconst F_ dX8_counted_80 ?_
    refine z_callSip F_ K_ W_ [.ref (o 1), .int (zi 0)] (c_X8_skillsIn l_ D cy (o 1) 192 g 0 bg (by first | omega | assumption) (by first | omega | assumption) (by first | omega | assumption)) 2 rfl gX8_counted_X8_skillsIn rfl (by decide +kernel) ⟨⟨Nat.le_of_ble_eq_true rfl, Nat.le_of_ble_eq_true rfl⟩, rfl, rfl, Nat.zero_le _, Nat.zero_le _⟩ hl.1 rfl (Nat.le_of_ble_eq_true rfl) [1] [0] [wO cy o ab be bl ta tl tk vl] 2 (by decide +kernel) rfl rfl rfl dX8_counted_81 (fun z_4 _ H_ lo_ hw_ W_ => ?_)
    replace hw_ : (z_4 = sumG g 0) := hw_
    have f81_v := hw_
    clear hw_
    exact hret _ _ _ _ z_4 () dX8_counted_84 (by simp only [ctG, c1]; first | rfl | assumption | (simp; first | done | assumption | omega)) W_
  · refine z_tabIn (tgt := 85) F_ 4 c1 ⟨by omega, by decide, by decide⟩ dX8_counted_1 rfl (by decide) ?_
    refine lv_aload_n F_.1 F_.2.1 dX8_counted_85 rfl (lv_at hl 0 rfl) ?_
    refine z_get F_ K_ W_ 0 0 0 rfl rfl rfl (C := RX8) (T := TX8) (N := 19) rfl (by decide) hinX8 (List.mem_of_getElem? (i := 1) rfl) dX8_counted_86 ?_
    refine z_bipush F_ (by decide) dX8_counted_89 ?_
    refine z_iald F_ K_ W_ 1 0 rfl rfl (by omega) (by decide) dX8_counted_91 ?_
    have b_5 := bg 14
    refine lv_aload_n F_.1 F_.2.1 dX8_counted_92 rfl (lv_at hl 0 rfl) ?_
    refine z_get F_ K_ W_ 0 0 0 rfl rfl rfl (C := RX8) (T := TX8) (N := 19) rfl (by decide) hinX8 (List.mem_of_getElem? (i := 1) rfl) dX8_counted_93 ?_
    refine z_bipush F_ (by decide) dX8_counted_96 ?_
    refine z_iald F_ K_ W_ 1 0 rfl rfl (by omega) (by decide) dX8_counted_98 ?_
    have b_6 := bg 15
    refine z_iadd F_ dX8_counted_99 ?_
    refine lv_aload_n F_.1 F_.2.1 dX8_counted_100 rfl (lv_at hl 0 rfl) ?_
    refine z_get F_ K_ W_ 0 0 0 rfl rfl rfl (C := RX8) (T := TX8) (N := 19) rfl (by decide) hinX8 (List.mem_of_getElem? (i := 1) rfl) dX8_counted_101 ?_
    refine z_bipush F_ (by decide) dX8_counted_104 ?_
    refine z_iald F_ K_ W_ 1 0 rfl rfl (by omega) (by decide) dX8_counted_106 ?_
    have b_7 := bg 16
    refine z_iadd F_ dX8_counted_107 ?_
    exact hret _ _ _ _ (((g 14) + (g 15)) + (g 16)) () dX8_counted_108 (by simp only [ctG, c1]; first | rfl | assumption | (simp; first | done | assumption | omega)) W_
  · refine z_tabIn (tgt := 114) F_ 5 c1 ⟨by omega, by decide, by decide⟩ dX8_counted_1 rfl (by decide) ?_
    refine lv_aload_n F_.1 F_.2.1 dX8_counted_114 rfl (lv_at hl 0 rfl) ?_
    refine z_get F_ K_ W_ 0 0 0 rfl rfl rfl (C := RX8) (T := TX8) (N := 19) rfl (by decide) hinX8 (List.mem_of_getElem? (i := 1) rfl) dX8_counted_115 ?_
    refine z_iconst F_ dX8_counted_118 ?_
    refine lv_iload_n F_.1 F_.2.1 dX8_counted_119 rfl (lv_at hl 1 rfl) ?_
    refine z_iadd F_ dX8_counted_120 ?_
    refine z_iconst F_ dX8_counted_121 ?_
    refine z_isub F_ dX8_counted_122 ?_
    refine z_iald F_ K_ W_ 1 0 rfl rfl (by omega) (by decide) dX8_counted_123 ?_
    have b_8 := bg ((2 + w) - 5)
    exact hret _ _ _ _ (g ((2 + w) - 5)) () dX8_counted_124 (by unfold ctG; rw [if_neg (by omega), if_neg (by omega), if_neg (by omega), if_neg (by omega), if_neg (by omega), if_neg (by omega)]; congr 1; omega) W_
  · refine z_tabIn (tgt := 114) F_ 6 c1 ⟨by omega, by decide, by decide⟩ dX8_counted_1 rfl (by decide) ?_
    refine lv_aload_n F_.1 F_.2.1 dX8_counted_114 rfl (lv_at hl 0 rfl) ?_
    refine z_get F_ K_ W_ 0 0 0 rfl rfl rfl (C := RX8) (T := TX8) (N := 19) rfl (by decide) hinX8 (List.mem_of_getElem? (i := 1) rfl) dX8_counted_115 ?_
    refine z_iconst F_ dX8_counted_118 ?_
    refine lv_iload_n F_.1 F_.2.1 dX8_counted_119 rfl (lv_at hl 1 rfl) ?_
    refine z_iadd F_ dX8_counted_120 ?_
    refine z_iconst F_ dX8_counted_121 ?_
    refine z_isub F_ dX8_counted_122 ?_
    refine z_iald F_ K_ W_ 1 0 rfl rfl (by omega) (by decide) dX8_counted_123 ?_
    have b_9 := bg ((2 + w) - 5)
    exact hret _ _ _ _ (g ((2 + w) - 5)) () dX8_counted_124 (by unfold ctG; rw [if_neg (by omega), if_neg (by omega), if_neg (by omega), if_neg (by omega), if_neg (by omega), if_neg (by omega)]; congr 1; omega) W_
  · refine z_tabIn (tgt := 114) F_ 7 c1 ⟨by omega, by decide, by decide⟩ dX8_counted_1 rfl (by decide) ?_
    refine lv_aload_n F_.1 F_.2.1 dX8_counted_114 rfl (lv_at hl 0 rfl) ?_
    refine z_get F_ K_ W_ 0 0 0 rfl rfl rfl (C := RX8) (T := TX8) (N := 19) rfl (by decide) hinX8 (List.mem_of_getElem? (i := 1) rfl) dX8_counted_115 ?_
    refine z_iconst F_ dX8_counted_118 ?_
    refine lv_iload_n F_.1 F_.2.1 dX8_counted_119 rfl (lv_at hl 1 rfl) ?_
    refine z_iadd F_ dX8_counted_120 ?_
    refine z_iconst F_ dX8_counted_121 ?_
    refine z_isub F_ dX8_counted_122 ?_
    refine z_iald F_ K_ W_ 1 0 rfl rfl (by omega) (by decide) dX8_counted_123 ?_
    have b_10 := bg ((2 + w) - 5)
    exact hret _ _ _ _ (g ((2 + w) - 5)) () dX8_counted_124 (by unfold ctG; rw [if_neg (by omega), if_neg (by omega), if_neg (by omega), if_neg (by omega), if_neg (by omega), if_neg (by omega)]; congr 1; omega) W_
  · refine z_tabIn (tgt := 114) F_ 8 c1 ⟨by omega, by decide, by decide⟩ dX8_counted_1 rfl (by decide) ?_
    refine lv_aload_n F_.1 F_.2.1 dX8_counted_114 rfl (lv_at hl 0 rfl) ?_
    refine z_get F_ K_ W_ 0 0 0 rfl rfl rfl (C := RX8) (T := TX8) (N := 19) rfl (by decide) hinX8 (List.mem_of_getElem? (i := 1) rfl) dX8_counted_115 ?_
    refine z_iconst F_ dX8_counted_118 ?_
    refine lv_iload_n F_.1 F_.2.1 dX8_counted_119 rfl (lv_at hl 1 rfl) ?_
    refine z_iadd F_ dX8_counted_120 ?_
    refine z_iconst F_ dX8_counted_121 ?_
    refine z_isub F_ dX8_counted_122 ?_
    refine z_iald F_ K_ W_ 1 0 rfl rfl (by omega) (by decide) dX8_counted_123 ?_
    have b_11 := bg ((2 + w) - 5)
    exact hret _ _ _ _ (g ((2 + w) - 5)) () dX8_counted_124 (by unfold ctG; rw [if_neg (by omega), if_neg (by omega), if_neg (by omega), if_neg (by omega), if_neg (by omega), if_neg (by omega)]; congr 1; omega) W_
  · refine z_tabIn (tgt := 109) F_ 9 c1 ⟨by omega, by decide, by decide⟩ dX8_counted_1 rfl (by decide) ?_
    refine lv_aload_n F_.1 F_.2.1 dX8_counted_109 rfl (lv_at hl 0 rfl) ?_
    refine z_get F_ K_ W_ 0 0 12 rfl rfl rfl (C := RX8) (T := TX8) (N := 19) rfl (by decide) hinX8 (List.mem_of_getElem? (i := 2) rfl) dX8_counted_110 ?_
    exact hret _ _ _ _ bl () dX8_counted_113 (by simp only [ctG, c1]; first | rfl | assumption | (simp; first | done | assumption | omega)) W_
  · refine z_tabOut (tgt := 114) F_ ⟨by omega, c1⟩ dX8_counted_1 (by decide) ?_
    refine lv_aload_n F_.1 F_.2.1 dX8_counted_114 rfl (lv_at hl 0 rfl) ?_
    refine z_get F_ K_ W_ 0 0 0 rfl rfl rfl (C := RX8) (T := TX8) (N := 19) rfl (by decide) hinX8 (List.mem_of_getElem? (i := 1) rfl) dX8_counted_115 ?_
    refine z_iconst F_ dX8_counted_118 ?_
    refine lv_iload_n F_.1 F_.2.1 dX8_counted_119 rfl (lv_at hl 1 rfl) ?_
    refine z_iadd F_ dX8_counted_120 ?_
    refine z_iconst F_ dX8_counted_121 ?_
    refine z_isub F_ dX8_counted_122 ?_
    refine z_iald F_ K_ W_ 1 0 rfl rfl (by omega) (by decide) dX8_counted_123 ?_
    have b_12 := bg ((2 + w) - 5)
    exact hret _ _ _ _ (g ((2 + w) - 5)) () dX8_counted_124 (by unfold ctG; rw [if_neg (by omega), if_neg (by omega), if_neg (by omega), if_neg (by omega), if_neg (by omega), if_neg (by omega)]; congr 1; omega) W_
abbrev rX8_count : Room := { frames := 3, cells := 0, slots := 0, locals := 64 }
set_option maxHeartbeats 1000000 in
set_option maxRecDepth 100000 in
theorem c_X8_count (l_ : Launch) (D : va_G) (cy : Nat → ClassId) (o : Nat → Nat) (ab : Int) (be : Int) (bl : Int) (ta : Int) (tl : Int) (tk : Int) (vl : Int) (g : Int → Int) (rf : Int → Int) (w : Int) (bg : ∀ j : Int, 0 ≤ g j ∧ g j ≤ 99) (rw : -2147483648 ≤ w ∧ w < 2147483648) (hg0 : 0 ≤ g 0 ∧ g 0 ≤ 8) : CTi l_ D cy yX8_count wsX8_count rX8_count [.ref (o 0), .int (zi w)] ([wO cy o ab be bl ta tl tk vl, wA cy (o 1) 192 g, wR cy (o 4) 3 rf]) (fun (z : Int) (u : (Int → Int)) => (((0 ≤ w ∧ w ≤ 9) ∧ z = ctG g bl w ∧ u = rf) ∨ (¬ (0 ≤ w ∧ w ≤ 9) ∧ z = -2 ∧ u = rfZ rf 0))) (fun (u : (Int → Int)) => [wO cy o ab be bl ta tl tk vl, wA cy (o 1) 192 g, wR cy (o 4) 3 u]) := by
  refine CTi.of RX8 cX8_count 2 rfl (by decide) rfl (fun z u hz => rfl) (Nat.le_of_ble_eq_true rfl) ?_
  intro p_ e_ s_ m_ ar_ be_ me_ c_ Q_ A_ ls_ F_ K_ W_ hl hret
  have hl : lv_has ls_ 2 [(0, .ref (o 0)), (1, .int (zi w))] := hl
  obtain ⟨H_, hH_⟩ : ∃ x, x = s_.heap := ⟨_, rfl⟩
  obtain ⟨lo_, hlo_⟩ : ∃ x : List Loc, x = [] := ⟨_, rfl⟩
  have W_ : WD D A_ s_.heap ([wO cy o ab be bl ta tl tk vl, wA cy (o 1) 192 g, wR cy (o 4) 3 rf]) H_ lo_ := by rw [hH_, hlo_]; exact W_
  rw [← hlo_]
  suffices hg_ : W p_ l_ e_ rX8_count s_ m_ ar_ be_ me_ c_ H_ lo_ 0 0 Q_ (F0 m_ 0 ls_ []) by rw [hH_] at hg_; exact hg_
  clear hH_ hlo_
  refine lv_iload_n F_.1 F_.2.1 dX8_count_0 rfl (lv_at hl 1 rfl) ?_
  refine z_i2l F_ (by omega) dX8_count_1 ?_
  refine z_lconst (z := 0) F_ rfl dX8_count_2 ?_
  refine z_ldc2 (z := 9) F_ (F_.2.2.2.2 _ (List.mem_of_getElem? (i := 1) rfl)) rfl dX8_count_3 ?_
  refine z_callSip F_ K_ W_ [.long (zl w), .long (zl 0), .long (zl 9)] (c_X8_in l_ D cy w 0 9 (by first | omega | assumption)) 3 rfl gX8_count_X8_in rfl (by decide +kernel) ⟨⟨Nat.le_of_ble_eq_true rfl, Nat.le_of_ble_eq_true rfl⟩, rfl, rfl, Nat.zero_le _, Nat.zero_le _⟩ hl.1 rfl (Nat.le_of_ble_eq_true rfl) ([] : List Nat) [0, 1, 2] [wO cy o ab be bl ta tl tk vl, wA cy (o 1) 192 g, wR cy (o 4) 3 rf] 3 (by decide +kernel) rfl rfl rfl dX8_count_6 (fun z_1 _ H_ lo_ hw_ W_ => ?_)
  replace hw_ : ((z_1 = 1 ∧ (0 ≤ w ∧ w ≤ 9)) ∨ (z_1 = 0 ∧ ¬ (0 ≤ w ∧ w ≤ 9))) := hw_
  have f6_v := hw_
  clear hw_
  refine z_if_eq (tgt := 20) F_ (by omega) dX8_count_9 (by decide) (fun c9 => ?_) (fun c9 => ?_)
  · refine lv_aload_n F_.1 F_.2.1 dX8_count_20 rfl (lv_at hl 0 rfl) ?_
    refine z_bipush F_ (by decide) dX8_count_21 ?_
    refine z_callVi F_ K_ W_ [.int (zi (-2))] (c_X8_bad l_ D cy o ab be bl ta tl tk vl rf (-2) (by first | omega | assumption)) 1 rfl gX8_count_X8_bad rfl (by decide +kernel) ⟨⟨Nat.le_of_ble_eq_true rfl, Nat.le_of_ble_eq_true rfl⟩, rfl, rfl, Nat.zero_le _, Nat.zero_le _⟩ 0 0 7 rfl rfl rfl rfl hl.1 rfl (Nat.le_of_ble_eq_true rfl) [0, 2] [1] [wA cy (o 1) 192 g] (fun (u_ : (Int → Int)) => [wO cy o ab be bl ta tl tk vl, wA cy (o 1) 192 g, wR cy (o 4) 3 u_]) 3 (by decide +kernel) rfl rfl rfl (fun _ => rfl) (fun _ => rfl) (fun _ => rfl) dX8_count_23 (fun z_2 u_ H_ lo_ hw_ W_ => ?_)
    obtain ⟨rf2_3, rfl⟩ : ∃ x, x = u_ := ⟨_, rfl⟩
    have W_ : WD D A_ s_.heap ([wO cy o ab be bl ta tl tk vl, wA cy (o 1) 192 g, wR cy (o 4) 3 rf2_3]) H_ lo_ := W_
    replace hw_ : (z_2 = (-2)) ∧ (rf2_3 = rfZ rf 0) := hw_
    obtain ⟨f23_v, f23_r⟩ := hw_
    exact hret _ _ _ _ z_2 rf2_3 dX8_count_26 (by first | exact Or.inl ⟨by omega, by assumption, rfl⟩ | exact Or.inr ⟨by omega, by omega, by assumption⟩) W_
  · refine lv_aload_n F_.1 F_.2.1 dX8_count_12 rfl (lv_at hl 0 rfl) ?_
    refine lv_iload_n F_.1 F_.2.1 dX8_count_13 rfl (lv_at hl 1 rfl) ?_
    refine z_callVip F_ K_ W_ [.int (zi w)] (c_X8_counted l_ D cy o ab be bl ta tl tk vl g w bg (by first | omega | assumption) (by first | omega | assumption) (by first | omega | assumption)) 1 rfl gX8_count_X8_counted rfl (by decide +kernel) ⟨⟨Nat.le_of_ble_eq_true rfl, Nat.le_of_ble_eq_true rfl⟩, rfl, rfl, Nat.zero_le _, Nat.zero_le _⟩ 0 0 7 rfl rfl rfl rfl hl.1 rfl (Nat.le_of_ble_eq_true rfl) [0, 1] [2] [wR cy (o 4) 3 rf] 3 (by decide +kernel) rfl rfl rfl dX8_count_14 (fun z_4 _ H_ lo_ hw_ W_ => ?_)
    replace hw_ : (z_4 = ctG g bl w) := hw_
    have f14_v := hw_
    clear hw_
    refine z_goto (tgt := 26) F_ dX8_count_17 (by decide) ?_
    exact hret _ _ _ _ z_4 rf dX8_count_26 (by first | exact Or.inl ⟨by omega, by assumption, rfl⟩ | exact Or.inr ⟨by omega, by omega, by assumption⟩) W_
abbrev rX8_sums : Room := { frames := 0, cells := 0, slots := 0, locals := 0 }
set_option maxHeartbeats 1000000 in
set_option maxRecDepth 100000 in
theorem c_X8_sums (l_ : Launch) (D : va_G) (cy : Nat → ClassId) (o : Nat → Nat) (ab : Int) (be : Int) (bl : Int) (ta : Int) (tl : Int) (tk : Int) (vl : Int) (g : Int → Int) (h : Int) (b : Int) (n : Int) (bg : ∀ j : Int, 0 ≤ g j ∧ g j ≤ 99) (rb : -2147483648 ≤ b ∧ b < 2147483648) (rn : -2147483648 ≤ n ∧ n < 2147483648) (hb : 0 ≤ b ∧ b ≤ 100) (hn : 0 ≤ n ∧ b + n ≤ 192) : CTl l_ D cy yX8_sums wsX8_sums rX8_sums [.ref (o 0), .long (zl h), .int (zi b), .int (zi n)] ([wO cy o ab be bl ta tl tk vl, wA cy (o 1) 192 g]) (fun (z : Int) (u : Unit) => (z = hashZ g b h n)) (fun (_ : Unit) => [wO cy o ab be bl ta tl tk vl, wA cy (o 1) 192 g]) := by
  refine CTl.of RX8 cX8_sums 8 rfl (by decide) rfl (Nat.le_of_ble_eq_true rfl) ?_
  intro p_ e_ s_ m_ ar_ be_ me_ c_ Q_ A_ ls_ F_ K_ W_ hl hret
  have hl : lv_has ls_ 8 [(0, .ref (o 0)), (1, .long (zl h)), (3, .int (zi b)), (4, .int (zi n))] := hl
  obtain ⟨H_, hH_⟩ : ∃ x, x = s_.heap := ⟨_, rfl⟩
  obtain ⟨lo_, hlo_⟩ : ∃ x : List Loc, x = [] := ⟨_, rfl⟩
  have W_ : WD D A_ s_.heap ([wO cy o ab be bl ta tl tk vl, wA cy (o 1) 192 g]) H_ lo_ := by rw [hH_, hlo_]; exact W_
  rw [← hlo_]
  suffices hg_ : W p_ l_ e_ rX8_sums s_ m_ ar_ be_ me_ c_ H_ lo_ 0 0 Q_ (F0 m_ 0 ls_ []) by rw [hH_] at hg_; exact hg_
  clear hH_ hlo_
  have hinX8 : ∀ w ∈ u_ws RX8 TX8 19, w ∈ wsX8_sums := fun w h => List.mem_cons_of_mem _ (List.mem_append_right _ h)
  refine lv_lload_n F_.1 F_.2.1 dX8_sums_0 rfl (lv_at hl 1 rfl) ?_
  refine lv_lstore (lv' := [(5, .long (zl h)), (0, .ref (o 0)), (1, .long (zl h)), (3, .int (zi b)), (4, .int (zi n))]) F_.1 F_.2.1 dX8_sums_1 hl (by decide) rfl (fun ls_ hl => ?_)
  refine z_iconst F_ dX8_sums_3 ?_
  refine lv_istore (lv' := [(7, .int (zi 0)), (5, .long (zl h)), (0, .ref (o 0)), (1, .long (zl h)), (3, .int (zi b)), (4, .int (zi n))]) F_.1 F_.2.1 dX8_sums_4 hl (by decide) rfl (fun ls_ hl => ?_)
  have L6 : ∀ (n_ : Nat) (x : Int) (k : Int) (hk : 0 ≤ k ∧ k ≤ n) (hx : x = hashZ g b h k) (hm_ : (n - k : Int) < (n_ : Int)) (ls_ : Array Slot) (H_ : Heap) (lo_ : List Loc), WD D A_ s_.heap ([wO cy o ab be bl ta tl tk vl, wA cy (o 1) 192 g]) H_ lo_ → lv_has ls_ 8 [(7, .int (zi k)), (5, .long (zl x)), (0, .ref (o 0)), (1, .long (zl h)), (3, .int (zi b)), (4, .int (zi n))] → W p_ l_ e_ rX8_sums s_ m_ ar_ be_ me_ c_ H_ lo_ 0 0 Q_ (F0 m_ 6 ls_ []) := by
    intro n_
    induction n_ with
    | zero =>
      intro x k hk hx hm_ ls_ H_ lo_ _ _
      exact absurd hm_ (by omega)
    | succ n_ ih_ =>
      intro x k hk hx hm_ ls_ H_ lo_ W_ hl
      have ih6 := ih_
      refine lv_iload F_.1 F_.2.1 dX8_sums_6 (lv_at hl 0 rfl) ?_
      refine lv_iload F_.1 F_.2.1 dX8_sums_8 (lv_at hl 5 rfl) ?_
      refine z_icmp_ge (tgt := 38) F_ (by omega) dX8_sums_10 (by decide) (fun c10 => ?_) (fun c10 => ?_)
      · refine lv_lload F_.1 F_.2.1 dX8_sums_38 (lv_at hl 1 rfl) ?_
        exact hret _ _ _ _ x () dX8_sums_40 (by rw [hx]; congr 1; omega) W_
      · refine z_ldc2 (z := 31) F_ (F_.2.2.2.2 _ (List.mem_of_getElem? (i := 1) rfl)) rfl dX8_sums_13 ?_
        refine lv_lload F_.1 F_.2.1 dX8_sums_16 (lv_at hl 1 rfl) ?_
        refine z_lmul F_ dX8_sums_18 ?_
        refine lv_aload_n F_.1 F_.2.1 dX8_sums_19 rfl (lv_at hl 2 rfl) ?_
        refine z_get F_ K_ W_ 0 0 0 rfl rfl rfl (C := RX8) (T := TX8) (N := 19) rfl (by decide) hinX8 (List.mem_of_getElem? (i := 2) rfl) dX8_sums_20 ?_
        refine lv_iload_n F_.1 F_.2.1 dX8_sums_23 rfl (lv_at hl 4 rfl) ?_
        refine lv_iload F_.1 F_.2.1 dX8_sums_24 (lv_at hl 0 rfl) ?_
        refine z_iadd F_ dX8_sums_26 ?_
        refine z_iald F_ K_ W_ 1 0 rfl rfl (by omega) (by decide) dX8_sums_27 ?_
        have b_1 := bg (b + k)
        refine z_i2l F_ (by omega) dX8_sums_28 ?_
        refine z_ladd F_ dX8_sums_29 ?_
        refine lv_lstore (lv' := [(5, .long (zl ((31 * x) + (g (b + k))))), (7, .int (zi k)), (0, .ref (o 0)), (1, .long (zl h)), (3, .int (zi b)), (4, .int (zi n))]) F_.1 F_.2.1 dX8_sums_30 hl (by decide) rfl (fun ls_ hl => ?_)
        refine z_iinc (lv' := [(7, .int (zi (k + 1))), (5, .long (zl ((31 * x) + (g (b + k))))), (0, .ref (o 0)), (1, .long (zl h)), (3, .int (zi b)), (4, .int (zi n))]) F_ dX8_sums_32 hl (k := 1) rfl (by decide) rfl (fun ls_ hl => ?_)
        refine z_goto (tgt := 6) F_ dX8_sums_35 (by decide) ?_
        exact ih6 ((31 * x) + (g (b + k))) (k + 1) (by first | omega | assumption) (by rw [hashZ_s _ _ _ hk.1, hx]) (by omega) ls_ H_ lo_ W_ (lv_sub hl [0, 1, 2, 3, 4, 5] rfl)
  exact L6 ((n - 0 : Int).toNat + 1) h 0 (by first | omega | assumption) (by rfl) (by have := Int.self_le_toNat (n - 0 : Int); omega) ls_ H_ lo_ W_ (lv_sub hl [0, 1, 2, 3, 4, 5] rfl)
abbrev rX8_digest : Room := { frames := 3, cells := 0, slots := 0, locals := 64 }
set_option maxHeartbeats 1000000 in
set_option maxRecDepth 100000 in
theorem c_X8_digest (l_ : Launch) (D : va_G) (cy : Nat → ClassId) (o : Nat → Nat) (ab : Int) (be : Int) (bl : Int) (ta : Int) (tl : Int) (tk : Int) (vl : Int) (g : Int → Int) (bg : ∀ j : Int, 0 ≤ g j ∧ g j ≤ 99) (hg0 : 0 ≤ g 0 ∧ g 0 ≤ 8) (hg1 : 0 ≤ g 1 ∧ g 1 ≤ 3) (hg2 : 0 ≤ g 2 ∧ g 2 ≤ 5) (hg3 : 0 ≤ g 3 ∧ g 3 ≤ 6) (hg4 : 0 ≤ g 4 ∧ g 4 ≤ 6) (hbl : 0 ≤ bl ∧ bl ≤ 150) : CTl l_ D cy yX8_digest wsX8_digest rX8_digest [.ref (o 0)] ([wO cy o ab be bl ta tl tk vl, wA cy (o 1) 192 g]) (fun (z : Int) (u : Unit) => (z = digG g bl ab be)) (fun (_ : Unit) => [wO cy o ab be bl ta tl tk vl, wA cy (o 1) 192 g]) := by
  refine CTl.of RX8 cX8_digest 4 rfl (by decide) rfl (Nat.le_of_ble_eq_true rfl) ?_
  intro p_ e_ s_ m_ ar_ be_ me_ c_ Q_ A_ ls_ F_ K_ W_ hl hret
  have hl : lv_has ls_ 4 [(0, .ref (o 0))] := hl
  obtain ⟨H_, hH_⟩ : ∃ x, x = s_.heap := ⟨_, rfl⟩
  obtain ⟨lo_, hlo_⟩ : ∃ x : List Loc, x = [] := ⟨_, rfl⟩
  have W_ : WD D A_ s_.heap ([wO cy o ab be bl ta tl tk vl, wA cy (o 1) 192 g]) H_ lo_ := by rw [hH_, hlo_]; exact W_
  rw [← hlo_]
  suffices hg_ : W p_ l_ e_ rX8_digest s_ m_ ar_ be_ me_ c_ H_ lo_ 0 0 Q_ (F0 m_ 0 ls_ []) by rw [hH_] at hg_; exact hg_
  clear hH_ hlo_
  have hinX8 : ∀ w ∈ u_ws RX8 TX8 19, w ∈ wsX8_digest := fun w h => List.mem_cons_of_mem _ (List.mem_append_right _ h)
  refine z_ldc2 (z := 1721) F_ (F_.2.2.2.2 _ (List.mem_of_getElem? (i := 1) rfl)) rfl dX8_digest_0 ?_
  refine lv_lstore_n (lv' := [(1, .long (zl 1721)), (0, .ref (o 0))]) F_.1 F_.2.1 dX8_digest_3 rfl hl (by decide) rfl (fun ls_ hl => ?_)
  refine z_iconst F_ dX8_digest_4 ?_
  refine lv_istore_n (lv' := [(3, .int (zi 0)), (1, .long (zl 1721)), (0, .ref (o 0))]) F_.1 F_.2.1 dX8_digest_5 rfl hl (by decide) rfl (fun ls_ hl => ?_)
  have L6 : ∀ (n_ : Nat) (x : Int) (k : Int) (hk : 0 ≤ k ∧ k ≤ 10) (hx : x = hashZ (ctG g bl) 0 1721 k) (hm_ : (10 - k : Int) < (n_ : Int)) (ls_ : Array Slot) (H_ : Heap) (lo_ : List Loc), WD D A_ s_.heap ([wO cy o ab be bl ta tl tk vl, wA cy (o 1) 192 g]) H_ lo_ → lv_has ls_ 4 [(3, .int (zi k)), (1, .long (zl x)), (0, .ref (o 0))] → W p_ l_ e_ rX8_digest s_ m_ ar_ be_ me_ c_ H_ lo_ 0 0 Q_ (F0 m_ 6 ls_ []) := by
    intro n_
    induction n_ with
    | zero =>
      intro x k hk hx hm_ ls_ H_ lo_ _ _
      exact absurd hm_ (by omega)
    | succ n_ ih_ =>
      intro x k hk hx hm_ ls_ H_ lo_ W_ hl
      have ih6 := ih_
      refine lv_iload_n F_.1 F_.2.1 dX8_digest_6 rfl (lv_at hl 0 rfl) ?_
      refine z_bipush F_ (by decide) dX8_digest_7 ?_
      refine z_icmp_ge (tgt := 31) F_ (by omega) dX8_digest_9 (by decide) (fun c9 => ?_) (fun c9 => ?_)
      · refine z_iconst F_ dX8_digest_31 ?_
        refine lv_istore_n (lv' := [(3, .int (zi 0)), (1, .long (zl x)), (0, .ref (o 0))]) F_.1 F_.2.1 dX8_digest_32 rfl hl (by decide) rfl (fun ls_ hl => ?_)
        have L33 : ∀ (n_ : Nat) (x2 : Int) (k2 : Int) (hk2 : 0 ≤ k2 ∧ k2 ≤ g 1) (hx2 : x2 = hashS (shZ g 17) (shZ g 14) (hashZ (ctG g bl) 0 1721 10) k2) (hm_ : (g 1 - k2 : Int) < (n_ : Int)) (ls_ : Array Slot) (H_ : Heap) (lo_ : List Loc), WD D A_ s_.heap ([wO cy o ab be bl ta tl tk vl, wA cy (o 1) 192 g]) H_ lo_ → lv_has ls_ 4 [(3, .int (zi k2)), (1, .long (zl x2)), (0, .ref (o 0))] → W p_ l_ e_ rX8_digest s_ m_ ar_ be_ me_ c_ H_ lo_ 0 0 Q_ (F0 m_ 33 ls_ []) := by
          intro n_
          induction n_ with
          | zero =>
            intro x2 k2 hk2 hx2 hm_ ls_ H_ lo_ _ _
            exact absurd hm_ (by omega)
          | succ n_ ih_ =>
            intro x2 k2 hk2 hx2 hm_ ls_ H_ lo_ W_ hl
            have ih33 := ih_
            refine lv_iload_n F_.1 F_.2.1 dX8_digest_33 rfl (lv_at hl 0 rfl) ?_
            refine lv_aload_n F_.1 F_.2.1 dX8_digest_34 rfl (lv_at hl 2 rfl) ?_
            refine z_get F_ K_ W_ 0 0 0 rfl rfl rfl (C := RX8) (T := TX8) (N := 19) rfl (by decide) hinX8 (List.mem_of_getElem? (i := 3) rfl) dX8_digest_35 ?_
            refine z_iconst F_ dX8_digest_38 ?_
            refine z_iald F_ K_ W_ 1 0 rfl rfl (by omega) (by decide) dX8_digest_39 ?_
            have b_1 := bg 1
            refine z_icmp_ge (tgt := 81) F_ (by omega) dX8_digest_40 (by decide) (fun c40 => ?_) (fun c40 => ?_)
            · refine z_iconst F_ dX8_digest_81 ?_
              refine lv_istore_n (lv' := [(3, .int (zi 0)), (1, .long (zl x2)), (0, .ref (o 0))]) F_.1 F_.2.1 dX8_digest_82 rfl hl (by decide) rfl (fun ls_ hl => ?_)
              have L83 : ∀ (n_ : Nat) (x3 : Int) (k3 : Int) (hk3 : 0 ≤ k3 ∧ k3 ≤ g 0) (hx3 : x3 = hashM (shZ g 20) (shZ g 28) (plG g) (hashS (shZ g 17) (shZ g 14) (hashZ (ctG g bl) 0 1721 10) (g 1)) k3) (hm_ : (g 0 - k3 : Int) < (n_ : Int)) (ls_ : Array Slot) (H_ : Heap) (lo_ : List Loc), WD D A_ s_.heap ([wO cy o ab be bl ta tl tk vl, wA cy (o 1) 192 g]) H_ lo_ → lv_has ls_ 4 [(3, .int (zi k3)), (1, .long (zl x3)), (0, .ref (o 0))] → W p_ l_ e_ rX8_digest s_ m_ ar_ be_ me_ c_ H_ lo_ 0 0 Q_ (F0 m_ 83 ls_ []) := by
                intro n_
                induction n_ with
                | zero =>
                  intro x3 k3 hk3 hx3 hm_ ls_ H_ lo_ _ _
                  exact absurd hm_ (by omega)
                | succ n_ ih_ =>
                  intro x3 k3 hk3 hx3 hm_ ls_ H_ lo_ W_ hl
                  have ih83 := ih_
                  refine lv_iload_n F_.1 F_.2.1 dX8_digest_83 rfl (lv_at hl 0 rfl) ?_
                  refine lv_aload_n F_.1 F_.2.1 dX8_digest_84 rfl (lv_at hl 2 rfl) ?_
                  refine z_callVip F_ K_ W_ [] (c_X8_many l_ D cy o ab be bl ta tl tk vl g bg) 0 rfl gX8_digest_X8_many rfl (by decide +kernel) ⟨⟨Nat.le_of_ble_eq_true rfl, Nat.le_of_ble_eq_true rfl⟩, rfl, rfl, Nat.zero_le _, Nat.zero_le _⟩ 0 0 7 rfl rfl rfl rfl hl.1 rfl (Nat.le_of_ble_eq_true rfl) [0, 1] ([] : List Nat) ([] : List va_W) 2 (by decide +kernel) rfl rfl rfl dX8_digest_85 (fun z_2 _ H_ lo_ hw_ W_ => ?_)
                  replace hw_ : (z_2 = g 0) := hw_
                  have f85_v := hw_
                  clear hw_
                  have f85_v := f85_v.symm
                  subst f85_v
                  refine z_icmp_ge (tgt := 146) F_ (by omega) dX8_digest_88 (by decide) (fun c88 => ?_) (fun c88 => ?_)
                  · refine lv_aload_n F_.1 F_.2.1 dX8_digest_146 rfl (lv_at hl 2 rfl) ?_
                    refine lv_lload_n F_.1 F_.2.1 dX8_digest_147 rfl (lv_at hl 1 rfl) ?_
                    refine z_bipush F_ (by decide) dX8_digest_148 ?_
                    refine z_iconst F_ dX8_digest_150 ?_
                    refine lv_aload_n F_.1 F_.2.1 dX8_digest_151 rfl (lv_at hl 2 rfl) ?_
                    refine z_get F_ K_ W_ 0 0 0 rfl rfl rfl (C := RX8) (T := TX8) (N := 19) rfl (by decide) hinX8 (List.mem_of_getElem? (i := 3) rfl) dX8_digest_152 ?_
                    refine z_iconst F_ dX8_digest_155 ?_
                    refine z_iald F_ K_ W_ 1 0 rfl rfl (by omega) (by decide) dX8_digest_156 ?_
                    have b_3 := bg 2
                    refine z_imul F_ dX8_digest_157 ?_
                    refine z_callVlp F_ K_ W_ [.long (zl x3), .int (zi 36), .int (zi (4 * (g 2)))] (c_X8_sums l_ D cy o ab be bl ta tl tk vl g x3 36 (4 * (g 2)) bg (by first | omega | assumption) (by first | omega | assumption) (by first | omega | assumption) (by first | omega | assumption)) 3 rfl gX8_digest_X8_sums rfl (by decide +kernel) ⟨⟨Nat.le_of_ble_eq_true rfl, Nat.le_of_ble_eq_true rfl⟩, rfl, rfl, Nat.zero_le _, Nat.zero_le _⟩ 0 0 7 rfl rfl rfl rfl hl.1 rfl (Nat.le_of_ble_eq_true rfl) [0, 1] ([] : List Nat) ([] : List va_W) 2 (by decide +kernel) rfl rfl rfl dX8_digest_158 (fun z_4 _ H_ lo_ hw_ W_ => ?_)
                    replace hw_ : (z_4 = hashZ g 36 x3 (4 * (g 2))) := hw_
                    have f158_v := hw_
                    clear hw_
                    refine lv_lstore_n (lv' := [(1, .long (zl z_4)), (3, .int (zi k3)), (0, .ref (o 0))]) F_.1 F_.2.1 dX8_digest_161 rfl hl (by decide) rfl (fun ls_ hl => ?_)
                    refine lv_aload_n F_.1 F_.2.1 dX8_digest_162 rfl (lv_at hl 2 rfl) ?_
                    refine lv_lload_n F_.1 F_.2.1 dX8_digest_163 rfl (lv_at hl 0 rfl) ?_
                    refine z_bipush F_ (by decide) dX8_digest_164 ?_
                    refine z_iconst F_ dX8_digest_166 ?_
                    refine lv_aload_n F_.1 F_.2.1 dX8_digest_167 rfl (lv_at hl 2 rfl) ?_
                    refine z_get F_ K_ W_ 0 0 0 rfl rfl rfl (C := RX8) (T := TX8) (N := 19) rfl (by decide) hinX8 (List.mem_of_getElem? (i := 3) rfl) dX8_digest_168 ?_
                    refine z_iconst F_ dX8_digest_171 ?_
                    refine z_iald F_ K_ W_ 1 0 rfl rfl (by omega) (by decide) dX8_digest_172 ?_
                    have b_5 := bg 3
                    refine z_imul F_ dX8_digest_173 ?_
                    refine z_callVlp F_ K_ W_ [.long (zl z_4), .int (zi 56), .int (zi (4 * (g 3)))] (c_X8_sums l_ D cy o ab be bl ta tl tk vl g z_4 56 (4 * (g 3)) bg (by first | omega | assumption) (by first | omega | assumption) (by first | omega | assumption) (by first | omega | assumption)) 3 rfl gX8_digest_X8_sums rfl (by decide +kernel) ⟨⟨Nat.le_of_ble_eq_true rfl, Nat.le_of_ble_eq_true rfl⟩, rfl, rfl, Nat.zero_le _, Nat.zero_le _⟩ 0 0 7 rfl rfl rfl rfl hl.1 rfl (Nat.le_of_ble_eq_true rfl) [0, 1] ([] : List Nat) ([] : List va_W) 2 (by decide +kernel) rfl rfl rfl dX8_digest_174 (fun z_6 _ H_ lo_ hw_ W_ => ?_)
                    replace hw_ : (z_6 = hashZ g 56 z_4 (4 * (g 3))) := hw_
                    have f174_v := hw_
                    clear hw_
                    refine lv_lstore_n (lv' := [(1, .long (zl z_6)), (3, .int (zi k3)), (0, .ref (o 0))]) F_.1 F_.2.1 dX8_digest_177 rfl hl (by decide) rfl (fun ls_ hl => ?_)
                    refine lv_aload_n F_.1 F_.2.1 dX8_digest_178 rfl (lv_at hl 2 rfl) ?_
                    refine lv_lload_n F_.1 F_.2.1 dX8_digest_179 rfl (lv_at hl 0 rfl) ?_
                    refine z_bipush F_ (by decide) dX8_digest_180 ?_
                    refine z_iconst F_ dX8_digest_182 ?_
                    refine lv_aload_n F_.1 F_.2.1 dX8_digest_183 rfl (lv_at hl 2 rfl) ?_
                    refine z_get F_ K_ W_ 0 0 0 rfl rfl rfl (C := RX8) (T := TX8) (N := 19) rfl (by decide) hinX8 (List.mem_of_getElem? (i := 3) rfl) dX8_digest_184 ?_
                    refine z_iconst F_ dX8_digest_187 ?_
                    refine z_iald F_ K_ W_ 1 0 rfl rfl (by omega) (by decide) dX8_digest_188 ?_
                    have b_7 := bg 4
                    refine z_imul F_ dX8_digest_189 ?_
                    refine z_callVlp F_ K_ W_ [.long (zl z_6), .int (zi 80), .int (zi (4 * (g 4)))] (c_X8_sums l_ D cy o ab be bl ta tl tk vl g z_6 80 (4 * (g 4)) bg (by first | omega | assumption) (by first | omega | assumption) (by first | omega | assumption) (by first | omega | assumption)) 3 rfl gX8_digest_X8_sums rfl (by decide +kernel) ⟨⟨Nat.le_of_ble_eq_true rfl, Nat.le_of_ble_eq_true rfl⟩, rfl, rfl, Nat.zero_le _, Nat.zero_le _⟩ 0 0 7 rfl rfl rfl rfl hl.1 rfl (Nat.le_of_ble_eq_true rfl) [0, 1] ([] : List Nat) ([] : List va_W) 2 (by decide +kernel) rfl rfl rfl dX8_digest_190 (fun z_8 _ H_ lo_ hw_ W_ => ?_)
                    replace hw_ : (z_8 = hashZ g 80 z_6 (4 * (g 4))) := hw_
                    have f190_v := hw_
                    clear hw_
                    refine lv_lstore_n (lv' := [(1, .long (zl z_8)), (3, .int (zi k3)), (0, .ref (o 0))]) F_.1 F_.2.1 dX8_digest_193 rfl hl (by decide) rfl (fun ls_ hl => ?_)
                    refine z_ldc2 (z := 31) F_ (F_.2.2.2.2 _ (List.mem_of_getElem? (i := 2) rfl)) rfl dX8_digest_194 ?_
                    refine z_ldc2 (z := 31) F_ (F_.2.2.2.2 _ (List.mem_of_getElem? (i := 2) rfl)) rfl dX8_digest_197 ?_
                    refine lv_lload_n F_.1 F_.2.1 dX8_digest_200 rfl (lv_at hl 0 rfl) ?_
                    refine z_lmul F_ dX8_digest_201 ?_
                    refine lv_aload_n F_.1 F_.2.1 dX8_digest_202 rfl (lv_at hl 2 rfl) ?_
                    refine z_get F_ K_ W_ 0 0 4 rfl rfl rfl (C := RX8) (T := TX8) (N := 19) rfl (by decide) hinX8 (List.mem_of_getElem? (i := 4) rfl) dX8_digest_203 ?_
                    refine z_ladd F_ dX8_digest_206 ?_
                    refine z_lmul F_ dX8_digest_207 ?_
                    refine lv_aload_n F_.1 F_.2.1 dX8_digest_208 rfl (lv_at hl 2 rfl) ?_
                    refine z_get F_ K_ W_ 0 0 5 rfl rfl rfl (C := RX8) (T := TX8) (N := 19) rfl (by decide) hinX8 (List.mem_of_getElem? (i := 5) rfl) dX8_digest_209 ?_
                    refine z_ladd F_ dX8_digest_212 ?_
                    exact hret _ _ _ _ ((31 * ((31 * z_8) + ab)) + be) () dX8_digest_213 (by rw [f190_v, f174_v, f158_v, hx3, show k3 = g 0 by omega]; rfl) W_
                  · refine z_ldc2 (z := 31) F_ (F_.2.2.2.2 _ (List.mem_of_getElem? (i := 2) rfl)) rfl dX8_digest_91 ?_
                    refine z_ldc2 (z := 31) F_ (F_.2.2.2.2 _ (List.mem_of_getElem? (i := 2) rfl)) rfl dX8_digest_94 ?_
                    refine z_ldc2 (z := 31) F_ (F_.2.2.2.2 _ (List.mem_of_getElem? (i := 2) rfl)) rfl dX8_digest_97 ?_
                    refine lv_lload_n F_.1 F_.2.1 dX8_digest_100 rfl (lv_at hl 1 rfl) ?_
                    refine z_lmul F_ dX8_digest_101 ?_
                    refine lv_aload_n F_.1 F_.2.1 dX8_digest_102 rfl (lv_at hl 2 rfl) ?_
                    refine z_get F_ K_ W_ 0 0 0 rfl rfl rfl (C := RX8) (T := TX8) (N := 19) rfl (by decide) hinX8 (List.mem_of_getElem? (i := 3) rfl) dX8_digest_103 ?_
                    refine z_bipush F_ (by decide) dX8_digest_106 ?_
                    refine lv_iload_n F_.1 F_.2.1 dX8_digest_108 rfl (lv_at hl 0 rfl) ?_
                    refine z_iadd F_ dX8_digest_109 ?_
                    refine z_iald F_ K_ W_ 1 0 rfl rfl (by omega) (by decide) dX8_digest_110 ?_
                    have b_9 := bg (20 + k3)
                    refine z_i2l F_ (by omega) dX8_digest_111 ?_
                    refine z_ladd F_ dX8_digest_112 ?_
                    refine z_lmul F_ dX8_digest_113 ?_
                    refine lv_aload_n F_.1 F_.2.1 dX8_digest_114 rfl (lv_at hl 2 rfl) ?_
                    refine z_get F_ K_ W_ 0 0 0 rfl rfl rfl (C := RX8) (T := TX8) (N := 19) rfl (by decide) hinX8 (List.mem_of_getElem? (i := 3) rfl) dX8_digest_115 ?_
                    refine z_bipush F_ (by decide) dX8_digest_118 ?_
                    refine lv_iload_n F_.1 F_.2.1 dX8_digest_120 rfl (lv_at hl 0 rfl) ?_
                    refine z_iadd F_ dX8_digest_121 ?_
                    refine z_iald F_ K_ W_ 1 0 rfl rfl (by omega) (by decide) dX8_digest_122 ?_
                    have b_10 := bg (28 + k3)
                    refine z_i2l F_ (by omega) dX8_digest_123 ?_
                    refine z_ladd F_ dX8_digest_124 ?_
                    refine z_lmul F_ dX8_digest_125 ?_
                    refine lv_aload_n F_.1 F_.2.1 dX8_digest_126 rfl (lv_at hl 2 rfl) ?_
                    refine z_get F_ K_ W_ 0 0 0 rfl rfl rfl (C := RX8) (T := TX8) (N := 19) rfl (by decide) hinX8 (List.mem_of_getElem? (i := 3) rfl) dX8_digest_127 ?_
                    refine z_bipush F_ (by decide) dX8_digest_130 ?_
                    refine lv_iload_n F_.1 F_.2.1 dX8_digest_132 rfl (lv_at hl 0 rfl) ?_
                    refine z_iadd F_ dX8_digest_133 ?_
                    refine z_iald F_ K_ W_ 1 0 rfl rfl (by omega) (by decide) dX8_digest_134 ?_
                    have b_11 := bg (6 + k3)
                    refine z_i2l F_ (by omega) dX8_digest_135 ?_
                    refine z_ladd F_ dX8_digest_136 ?_
                    refine z_lconst (z := 1) F_ rfl dX8_digest_137 ?_
                    refine z_lsub F_ dX8_digest_138 ?_
                    refine lv_lstore_n (lv' := [(1, .long (zl (((31 * ((31 * ((31 * x3) + (g (20 + k3)))) + (g (28 + k3)))) + (g (6 + k3))) - 1))), (3, .int (zi k3)), (0, .ref (o 0))]) F_.1 F_.2.1 dX8_digest_139 rfl hl (by decide) rfl (fun ls_ hl => ?_)
                    refine z_iinc (lv' := [(3, .int (zi (k3 + 1))), (1, .long (zl (((31 * ((31 * ((31 * x3) + (g (20 + k3)))) + (g (28 + k3)))) + (g (6 + k3))) - 1))), (0, .ref (o 0))]) F_ dX8_digest_140 hl (k := 1) rfl (by decide) rfl (fun ls_ hl => ?_)
                    refine z_goto (tgt := 83) F_ dX8_digest_143 (by decide) ?_
                    exact ih83 (((31 * ((31 * ((31 * x3) + (g (20 + k3)))) + (g (28 + k3)))) + (g (6 + k3))) - 1) (k3 + 1) (by first | omega | assumption) (by rw [hashM_s _ _ _ _ hk3.1, hx3]; simp only [shZ, plG]; omega) (by omega) ls_ H_ lo_ W_ (lv_sub hl [0, 1, 2] rfl)
              exact L83 ((g 0 - 0 : Int).toNat + 1) x2 0 (by first | omega | assumption) (by rw [hx2, show k2 = g 1 by omega]; rfl) (by have := Int.self_le_toNat (g 0 - 0 : Int); omega) ls_ H_ lo_ W_ (lv_sub hl [0, 1, 2] rfl)
            · refine z_ldc2 (z := 31) F_ (F_.2.2.2.2 _ (List.mem_of_getElem? (i := 2) rfl)) rfl dX8_digest_43 ?_
              refine z_ldc2 (z := 31) F_ (F_.2.2.2.2 _ (List.mem_of_getElem? (i := 2) rfl)) rfl dX8_digest_46 ?_
              refine lv_lload_n F_.1 F_.2.1 dX8_digest_49 rfl (lv_at hl 1 rfl) ?_
              refine z_lmul F_ dX8_digest_50 ?_
              refine lv_aload_n F_.1 F_.2.1 dX8_digest_51 rfl (lv_at hl 2 rfl) ?_
              refine z_get F_ K_ W_ 0 0 0 rfl rfl rfl (C := RX8) (T := TX8) (N := 19) rfl (by decide) hinX8 (List.mem_of_getElem? (i := 3) rfl) dX8_digest_52 ?_
              refine z_bipush F_ (by decide) dX8_digest_55 ?_
              refine lv_iload_n F_.1 F_.2.1 dX8_digest_57 rfl (lv_at hl 0 rfl) ?_
              refine z_iadd F_ dX8_digest_58 ?_
              refine z_iald F_ K_ W_ 1 0 rfl rfl (by omega) (by decide) dX8_digest_59 ?_
              have b_12 := bg (17 + k2)
              refine z_i2l F_ (by omega) dX8_digest_60 ?_
              refine z_ladd F_ dX8_digest_61 ?_
              refine z_lmul F_ dX8_digest_62 ?_
              refine lv_aload_n F_.1 F_.2.1 dX8_digest_63 rfl (lv_at hl 2 rfl) ?_
              refine z_get F_ K_ W_ 0 0 0 rfl rfl rfl (C := RX8) (T := TX8) (N := 19) rfl (by decide) hinX8 (List.mem_of_getElem? (i := 3) rfl) dX8_digest_64 ?_
              refine z_bipush F_ (by decide) dX8_digest_67 ?_
              refine lv_iload_n F_.1 F_.2.1 dX8_digest_69 rfl (lv_at hl 0 rfl) ?_
              refine z_iadd F_ dX8_digest_70 ?_
              refine z_iald F_ K_ W_ 1 0 rfl rfl (by omega) (by decide) dX8_digest_71 ?_
              have b_13 := bg (14 + k2)
              refine z_i2l F_ (by omega) dX8_digest_72 ?_
              refine z_ladd F_ dX8_digest_73 ?_
              refine lv_lstore_n (lv' := [(1, .long (zl ((31 * ((31 * x2) + (g (17 + k2)))) + (g (14 + k2))))), (3, .int (zi k2)), (0, .ref (o 0))]) F_.1 F_.2.1 dX8_digest_74 rfl hl (by decide) rfl (fun ls_ hl => ?_)
              refine z_iinc (lv' := [(3, .int (zi (k2 + 1))), (1, .long (zl ((31 * ((31 * x2) + (g (17 + k2)))) + (g (14 + k2))))), (0, .ref (o 0))]) F_ dX8_digest_75 hl (k := 1) rfl (by decide) rfl (fun ls_ hl => ?_)
              refine z_goto (tgt := 33) F_ dX8_digest_78 (by decide) ?_
              exact ih33 ((31 * ((31 * x2) + (g (17 + k2)))) + (g (14 + k2))) (k2 + 1) (by first | omega | assumption) (by rw [hashS_s _ _ _ hk2.1, hx2]; rfl) (by omega) ls_ H_ lo_ W_ (lv_sub hl [0, 1, 2] rfl)
        exact L33 ((g 1 - 0 : Int).toNat + 1) x 0 (by first | omega | assumption) (by rw [hx, show k = 10 by omega]; rfl) (by have := Int.self_le_toNat (g 1 - 0 : Int); omega) ls_ H_ lo_ W_ (lv_sub hl [0, 1, 2] rfl)
      · refine z_ldc2 (z := 31) F_ (F_.2.2.2.2 _ (List.mem_of_getElem? (i := 2) rfl)) rfl dX8_digest_12 ?_
        refine lv_lload_n F_.1 F_.2.1 dX8_digest_15 rfl (lv_at hl 1 rfl) ?_
        refine z_lmul F_ dX8_digest_16 ?_
        refine lv_aload_n F_.1 F_.2.1 dX8_digest_17 rfl (lv_at hl 2 rfl) ?_
        refine lv_iload_n F_.1 F_.2.1 dX8_digest_18 rfl (lv_at hl 0 rfl) ?_
        refine z_callVip F_ K_ W_ [.int (zi k)] (c_X8_counted l_ D cy o ab be bl ta tl tk vl g k bg (by first | omega | assumption) (by first | omega | assumption) (by first | omega | assumption)) 1 rfl gX8_digest_X8_counted rfl (by decide +kernel) ⟨⟨Nat.le_of_ble_eq_true rfl, Nat.le_of_ble_eq_true rfl⟩, rfl, rfl, Nat.zero_le _, Nat.zero_le _⟩ 0 0 7 rfl rfl rfl rfl hl.1 rfl (Nat.le_of_ble_eq_true rfl) [0, 1] ([] : List Nat) ([] : List va_W) 2 (by decide +kernel) rfl rfl rfl dX8_digest_19 (fun z_14 _ H_ lo_ hw_ W_ => ?_)
        replace hw_ : (z_14 = ctG g bl k) := hw_
        have f19_v := hw_
        clear hw_
        have f19_v := f19_v.symm
        subst f19_v
        have hctb := ctG_b hg0 hbl bg (k := k)
        refine z_i2l F_ (by omega) dX8_digest_22 ?_
        refine z_ladd F_ dX8_digest_23 ?_
        refine lv_lstore_n (lv' := [(1, .long (zl ((31 * x) + (ctG g bl k)))), (3, .int (zi k)), (0, .ref (o 0))]) F_.1 F_.2.1 dX8_digest_24 rfl hl (by decide) rfl (fun ls_ hl => ?_)
        refine z_iinc (lv' := [(3, .int (zi (k + 1))), (1, .long (zl ((31 * x) + (ctG g bl k)))), (0, .ref (o 0))]) F_ dX8_digest_25 hl (k := 1) rfl (by decide) rfl (fun ls_ hl => ?_)
        refine z_goto (tgt := 6) F_ dX8_digest_28 (by decide) ?_
        exact ih6 ((31 * x) + (ctG g bl k)) (k + 1) (by first | omega | assumption) (by rw [hashZ_s _ _ _ hk.1, Int.zero_add, hx]) (by omega) ls_ H_ lo_ W_ (lv_sub hl [0, 1, 2] rfl)
  exact L6 ((10 - 0 : Int).toNat + 1) 1721 0 (by first | omega | assumption) (by rfl) (by have := Int.self_le_toNat (10 - 0 : Int); omega) ls_ H_ lo_ W_ (lv_sub hl [0, 1, 2] rfl)
