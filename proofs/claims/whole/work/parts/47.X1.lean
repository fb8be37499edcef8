/-! the cells of a Fewest, of a Crews -/
abbrev wE (cy : Nat → ClassId) (e : Nat → Nat) (fk fm : Int → Int) : va_W := [(e 0, .inr (1, [.ref (e 1), .ref (e 2)])), (e 1, .inl (cy 0, 27, .inl (zA fk))), (e 2, .inl (cy 0, 3, .inl (zA fm)))]
abbrev wC (cy : Nat → ClassId) (cr : Nat → Nat) (fo : Int) (wo be : Int → Int) : va_W := [(cr 0, .inr (0, [.ref (cr 1), .ref (cr 2), .int (zi fo)])), (cr 1, .inl (cy 0, 256, .inl (zA wo))), (cr 2, .inl (cy 0, 256, .inl (zA be)))]

/-! a ship's calls one behind another: what they leave together (-1: nobody was left for one), her calls, the places -/
def rowI (S M : Int) (sc mk ms mp : Int → Int) (h k : Int) : Int × (Int → Int) × (Int → Int) := fZ (fun _ x => if (0 ≤ h ∧ h < S) ∧ 0 ≤ x.1 ∧ lstI S M x.2.1 mk ms x.2.2 h ≠ -1 then (x.1 + ms (lstI S M x.2.1 mk ms x.2.2 h), goSc x.2.1 h (lstI S M x.2.1 mk ms x.2.2 h), goMp x.2.2 (lstI S M x.2.1 mk ms x.2.2 h)) else (-1, x.2.1, x.2.2)) (0, sc, mp) k
theorem rowI_0 (S M : Int) (sc mk ms mp : Int → Int) (h : Int) : rowI S M sc mk ms mp h 0 = (0, sc, mp) := rfl
theorem rowI_s (S M : Int) (sc mk ms mp : Int → Int) (h : Int) {k : Int} (q : 0 ≤ k) : rowI S M sc mk ms mp h (k + 1) = if (0 ≤ h ∧ h < S) ∧ 0 ≤ (rowI S M sc mk ms mp h k).1 ∧ lstI S M (rowI S M sc mk ms mp h k).2.1 mk ms (rowI S M sc mk ms mp h k).2.2 h ≠ -1 then ((rowI S M sc mk ms mp h k).1 + ms (lstI S M (rowI S M sc mk ms mp h k).2.1 mk ms (rowI S M sc mk ms mp h k).2.2 h), goSc (rowI S M sc mk ms mp h k).2.1 h (lstI S M (rowI S M sc mk ms mp h k).2.1 mk ms (rowI S M sc mk ms mp h k).2.2 h), goMp (rowI S M sc mk ms mp h k).2.2 (lstI S M (rowI S M sc mk ms mp h k).2.1 mk ms (rowI S M sc mk ms mp h k).2.2 h)) else (-1, (rowI S M sc mk ms mp h k).2.1, (rowI S M sc mk ms mp h k).2.2) := fZ_s _ _ q
theorem lstI_b {S M : Int} (sc mk ms mp : Int → Int) (h : Int) (hM : 0 ≤ M) : lstI S M sc mk ms mp h = -1 ∨ (0 ≤ lstI S M sc mk ms mp h ∧ lstI S M sc mk ms mp h < M ∧ (0 ≤ h ∧ h < S) ∧ mp (lstI S M sc mk ms mp h) = h) := by
  unfold lstI
  split
  · rename_i q
    rcases lstZ_b mp (lkZ mk ms (sc h)) h hM with w | w
    · exact Or.inl w
    · exact Or.inr ⟨w.1, w.2.1, q, w.2.2⟩
  · exact Or.inl rfl
/-- the rows of three ships, one ship's behind the ones ahead of her -/
def rowsS (S M : Int) (sc mk ms mp : Int → Int) (n : Int) : (Int → Int) × (Int → Int) × (Int → Int) := fZ (fun h x => (fun j => if 9 * h ≤ j ∧ j < 9 * h + 9 then (rowI S M x.2.1 mk ms x.2.2 h (j - 9 * h)).1 else x.1 j, (rowI S M x.2.1 mk ms x.2.2 h 9).2.1, (rowI S M x.2.1 mk ms x.2.2 h 9).2.2)) (fun _ => 0, sc, mp) n
theorem rowsS_s (S M : Int) (sc mk ms mp : Int → Int) {n : Int} (q : 0 ≤ n) : rowsS S M sc mk ms mp (n + 1) = (fun j => if 9 * n ≤ j ∧ j < 9 * n + 9 then (rowI S M (rowsS S M sc mk ms mp n).2.1 mk ms (rowsS S M sc mk ms mp n).2.2 n (j - 9 * n)).1 else (rowsS S M sc mk ms mp n).1 j, (rowI S M (rowsS S M sc mk ms mp n).2.1 mk ms (rowsS S M sc mk ms mp n).2.2 n 9).2.1, (rowI S M (rowsS S M sc mk ms mp n).2.1 mk ms (rowsS S M sc mk ms mp n).2.2 n 9).2.2) := fZ_s _ _ q
def lvsP (f : Int → Int) (a b c x : Int) : Prop := 0 ≤ f a ∧ 0 ≤ f (9 + b) ∧ 0 ≤ f (18 + c) ∧ x ≤ f a + f (9 + b) + f (18 + c)

abbrev rX1_madeBy : Room := { frames := 0, cells := 0, slots := 0, locals := 0 }
set_option maxHeartbeats 1000000 in
set_option maxRecDepth 100000 in
theorem c_X1_madeBy (l_ : Launch) (D : va_G) (cy : Nat → ClassId) (e : Nat → Nat) (fk : Int → Int) (fm : Int → Int) (h : Int) (bfk : ∀ j : Int, (-1) ≤ fk j ∧ fk j ≤ 99) (bfm : ∀ j : Int, 0 ≤ fm j ∧ fm j ≤ 8) (rh : -2147483648 ≤ h ∧ h < 2147483648) (hh : 0 ≤ h ∧ h ≤ 2) : CTi l_ D cy yX1_madeBy wsX1_madeBy rX1_madeBy [.ref (e 0), .int (zi h)] ([wE cy e fk fm]) (fun (z : Int) (u : Unit) => (z = fm h)) (fun (_ : Unit) => [wE cy e fk fm]) := by
  refine CTi.of RX1 cX1_madeBy 2 rfl (by decide) rfl (fun z u hz => rfl) (Nat.le_of_ble_eq_true rfl) ?_
  intro p_ e_ s_ m_ ar_ be_ me_ c_ Q_ A_ ls_ F_ K_ W_ hl hret
  have hl : lv_has ls_ 2 [(0, .ref (e 0)), (1, .int (zi h))] := hl
  obtain ⟨H_, hH_⟩ : ∃ x, x = s_.heap := ⟨_, rfl⟩
  obtain ⟨lo_, hlo_⟩ : ∃ x : List Loc, x = [] := ⟨_, rfl⟩
  have W_ : WD D A_ s_.heap ([wE cy e fk fm]) H_ lo_ := by rw [hH_, hlo_]; exact W_
  rw [← hlo_]
  suffices hg_ : W p_ l_ e_ rX1_madeBy s_ m_ ar_ be_ me_ c_ H_ lo_ 0 0 Q_ (F0 m_ 0 ls_ []) by rw [hH_] at hg_; exact hg_
  clear hH_ hlo_
  have hinX1 : ∀ w ∈ u_ws RX1 TX1 2, w ∈ wsX1_madeBy := fun w h => List.mem_cons_of_mem _ (List.mem_append_right _ h)
  refine lv_iload_n F_.1 F_.2.1 dX1_madeBy_0 rfl (lv_at hl 1 rfl) ?_
  refine z_if_lt (tgt := 18) F_ (by omega) dX1_madeBy_1 (by decide) (fun c1 => ?_) (fun c1 => ?_)
  · exact absurd c1 (by omega)
  · refine lv_iload_n F_.1 F_.2.1 dX1_madeBy_4 rfl (lv_at hl 1 rfl) ?_
    refine z_iconst F_ dX1_madeBy_5 ?_
    refine z_icmp_ge (tgt := 18) F_ (by omega) dX1_madeBy_6 (by decide) (fun c6 => ?_) (fun c6 => ?_)
    · exact absurd c6 (by omega)
    · refine lv_aload_n F_.1 F_.2.1 dX1_madeBy_9 rfl (lv_at hl 0 rfl) ?_
      refine z_get F_ K_ W_ 0 0 1 rfl rfl rfl (C := RX1) (T := TX1) (N := 2) rfl (by decide) hinX1 (List.mem_of_getElem? (i := 1) rfl) dX1_madeBy_10 ?_
      refine lv_iload_n F_.1 F_.2.1 dX1_madeBy_13 rfl (lv_at hl 1 rfl) ?_
      refine z_iald F_ K_ W_ 0 2 rfl rfl (by omega) (by decide) dX1_madeBy_14 ?_
      have b_1 := bfm h
      refine z_goto (tgt := 19) F_ dX1_madeBy_15 (by decide) ?_
      exact hret _ _ _ _ (fm h) () dX1_madeBy_19 (by first | omega | assumption) W_
abbrev rX1_fillRow : Room := { frames := 3, cells := 0, slots := 0, locals := 72 }
set_option maxHeartbeats 1000000 in
set_option maxRecDepth 100000 in
theorem c_X1_fillRow (l_ : Launch) (D : va_G) (cy : Nat → ClassId) (e : Nat → Nat) (fk : Int → Int) (fm : Int → Int) (q : Nat → Nat) (S : Int) (M : Int) (sk : Int → Int) (sc : Int → Int) (mk : Int → Int) (ms : Int → Int) (mp : Int → Int) (h : Int) (bfk : ∀ j : Int, (-1) ≤ fk j ∧ fk j ≤ 99) (bfm : ∀ j : Int, 0 ≤ fm j ∧ fm j ≤ 8) (bS : 0 ≤ S ∧ S ≤ 3) (bM : 0 ≤ M ∧ M ≤ 8) (bsk : ∀ j : Int, 0 ≤ sk j ∧ sk j ≤ 5) (bsc : ∀ j : Int, 0 ≤ sc j ∧ sc j ≤ 99) (bmk : ∀ j : Int, 0 ≤ mk j ∧ mk j ≤ 5) (bms : ∀ j : Int, 0 ≤ ms j ∧ ms j ≤ 9) (bmp : ∀ j : Int, (-1) ≤ mp j ∧ mp j ≤ 2) (rh : -2147483648 ≤ h ∧ h < 2147483648) (hh : 0 ≤ h ∧ h ≤ 2) : CTv l_ D cy yX1_fillRow wsX1_fillRow rX1_fillRow [.ref (e 0), .ref (q 0), .int (zi h)] ([wE cy e fk fm, wI cy q S M sk sc mk ms mp]) (fun (u : (Int → Int) × (Int → Int) × (Int → Int)) => (∀ j, u.1 j = if 9 * h ≤ j ∧ j < 9 * h + 9 then (rowI S M sc mk ms mp h (j - 9 * h)).1 else fk j) ∧ (u.2.1 = (rowI S M sc mk ms mp h 9).2.1) ∧ (u.2.2 = (rowI S M sc mk ms mp h 9).2.2) ∧ (∀ j : Int, (-1) ≤ u.1 j ∧ u.1 j ≤ 99) ∧ (∀ j : Int, 0 ≤ u.2.1 j ∧ u.2.1 j ≤ 99) ∧ (∀ j : Int, (-1) ≤ u.2.2 j ∧ u.2.2 j ≤ 2)) (fun (u : (Int → Int) × (Int → Int) × (Int → Int)) => [wE cy e u.1 fm, wI cy q S M sk u.2.1 mk ms u.2.2]) := by
  refine CTv.of RX1 cX1_fillRow 6 rfl (by decide) rfl (Nat.le_of_ble_eq_true rfl) ?_
  intro p_ e_ s_ m_ ar_ be_ me_ c_ Q_ A_ ls_ F_ K_ W_ hl hret
  have hl : lv_has ls_ 6 [(0, .ref (e 0)), (1, .ref (q 0)), (2, .int (zi h))] := hl
  obtain ⟨H_, hH_⟩ : ∃ x, x = s_.heap := ⟨_, rfl⟩
  obtain ⟨lo_, hlo_⟩ : ∃ x : List Loc, x = [] := ⟨_, rfl⟩
  have W_ : WD D A_ s_.heap ([wE cy e fk fm, wI cy q S M sk sc mk ms mp]) H_ lo_ := by rw [hH_, hlo_]; exact W_
  rw [← hlo_]
  suffices hg_ : W p_ l_ e_ rX1_fillRow s_ m_ ar_ be_ me_ c_ H_ lo_ 0 0 Q_ (F0 m_ 0 ls_ []) by rw [hH_] at hg_; exact hg_
  clear hH_ hlo_
  have hinX1 : ∀ w ∈ u_ws RX1 TX1 2, w ∈ wsX1_fillRow := fun w h => List.mem_cons_of_mem _ (List.mem_append_left _ (List.mem_append_right _ h))
  have hinX4 : ∀ w ∈ u_ws RX4 TX4 11, w ∈ wsX1_fillRow := fun w h => List.mem_cons_of_mem _ (List.mem_append_right _ h)
  refine z_iconst F_ dX1_fillRow_0 ?_
  refine lv_istore_n (lv' := [(3, .int (zi 0)), (0, .ref (e 0)), (1, .ref (q 0)), (2, .int (zi h))]) F_.1 F_.2.1 dX1_fillRow_1 rfl hl (by decide) rfl (fun ls_ hl => ?_)
  refine z_iconst F_ dX1_fillRow_2 ?_
  refine lv_istore (lv' := [(4, .int (zi 0)), (3, .int (zi 0)), (0, .ref (e 0)), (1, .ref (q 0)), (2, .int (zi h))]) F_.1 F_.2.1 dX1_fillRow_3 hl (by decide) rfl (fun ls_ hl => ?_)
  have L5 : ∀ (n_ : Nat) (x : Int) (k : Int) (f : Int → Int) (c : Int → Int) (p : Int → Int) (bf : ∀ j : Int, (-1) ≤ f j ∧ f j ≤ 99) (bc : ∀ j : Int, 0 ≤ c j ∧ c j ≤ 99) (bp : ∀ j : Int, (-1) ≤ p j ∧ p j ≤ 2) (hk : 0 ≤ k ∧ k ≤ 9) (hx : x = (rowI S M sc mk ms mp h k).1) (hc : c = (rowI S M sc mk ms mp h k).2.1) (hp : p = (rowI S M sc mk ms mp h k).2.2) (hf : ∀ j, f j = if 9 * h ≤ j ∧ j < 9 * h + k then (rowI S M sc mk ms mp h (j - 9 * h)).1 else fk j) (hxb : -1 ≤ x ∧ x ≤ 9 * k) (hm_ : (9 - k : Int) < (n_ : Int)) (ls_ : Array Slot) (H_ : Heap) (lo_ : List Loc), WD D A_ s_.heap ([wE cy e f fm, wI cy q S M sk c mk ms p]) H_ lo_ → lv_has ls_ 6 [(4, .int (zi k)), (3, .int (zi x)), (0, .ref (e 0)), (1, .ref (q 0)), (2, .int (zi h))] → W p_ l_ e_ rX1_fillRow s_ m_ ar_ be_ me_ c_ H_ lo_ 0 0 Q_ (F0 m_ 5 ls_ []) := by
    intro n_
    induction n_ with
    | zero =>
      intro x k f c p bf bc bp hk hx hc hp hf hxb hm_ ls_ H_ lo_ _ _
      exact absurd hm_ (by omega)
    | succ n_ ih_ =>
      intro x k f c p bf bc bp hk hx hc hp hf hxb hm_ ls_ H_ lo_ W_ hl
      have ih5 := ih_
      refine lv_iload F_.1 F_.2.1 dX1_fillRow_5 (lv_at hl 0 rfl) ?_
      refine z_bipush F_ (by decide) dX1_fillRow_7 ?_
      refine z_icmp_ge (tgt := 74) F_ (by omega) dX1_fillRow_9 (by decide) (fun c9 => ?_) (fun c9 => ?_)
      · exact hret _ _ _ _ (f, c, p) dX1_fillRow_74 ⟨(by intro j; refine (hf j).trans ?_; rw [show k = 9 by omega]), (by refine hc.trans ?_; rw [show k = 9 by omega]), (by refine hp.trans ?_; rw [show k = 9 by omega]), bf, bc, bp⟩ W_
      · refine lv_aload_n F_.1 F_.2.1 dX1_fillRow_12 rfl (lv_at hl 2 rfl) ?_
        refine z_get F_ K_ W_ 0 0 0 rfl rfl rfl (C := RX1) (T := TX1) (N := 2) rfl (by decide) hinX1 (List.mem_of_getElem? (i := 1) rfl) dX1_fillRow_13 ?_
        refine lv_iload_n F_.1 F_.2.1 dX1_fillRow_16 rfl (lv_at hl 4 rfl) ?_
        refine z_bipush F_ (by decide) dX1_fillRow_17 ?_
        refine z_imul F_ dX1_fillRow_19 ?_
        refine lv_iload F_.1 F_.2.1 dX1_fillRow_20 (lv_at hl 0 rfl) ?_
        refine z_iadd F_ dX1_fillRow_22 ?_
        refine lv_iload_n F_.1 F_.2.1 dX1_fillRow_23 rfl (lv_at hl 1 rfl) ?_
        refine z_iast (sg' := [wE cy e (zu f ((h * 9) + k) x) fm, wI cy q S M sk c mk ms p]) F_ K_ W_ 0 1 rfl rfl rfl (by omega) (by decide) dX1_fillRow_24 (fun H_ lo_ W_ => ?_)
        obtain ⟨fk_1, efk_1⟩ : ∃ x_ : Int → Int, x_ = zu f ((h * 9) + k) x := ⟨_, rfl⟩
        rw [← efk_1] at W_
        have bfk_1 : ∀ j : Int, (-1) ≤ fk_1 j ∧ fk_1 j ≤ 99 := by rw [efk_1]; exact zu_b bf (by omega)
        refine lv_aload_n F_.1 F_.2.1 dX1_fillRow_25 rfl (lv_at hl 3 rfl) ?_
        refine lv_iload_n F_.1 F_.2.1 dX1_fillRow_26 rfl (lv_at hl 4 rfl) ?_
        refine z_callVip F_ K_ W_ [.int (zi h)] (c_X4_hasShip l_ D cy q S M sk c mk ms p h (by omega) (by omega) bsk bc bmk bms bp (by first | omega | assumption)) 1 rfl gX1_fillRow_X4_hasShip rfl (by decide +kernel) ⟨⟨Nat.le_of_ble_eq_true rfl, Nat.le_of_ble_eq_true rfl⟩, rfl, rfl, Nat.zero_le _, Nat.zero_le _⟩ 0 0 4 rfl rfl rfl rfl hl.1 rfl (Nat.le_of_ble_eq_true rfl) [1] [0] [wE cy e fk_1 fm] 2 (by decide +kernel) rfl rfl rfl dX1_fillRow_27 (fun z_2 _ H_ lo_ hw_ W_ => ?_)
        replace hw_ : ((z_2 = 1 ∧ (0 ≤ h ∧ h < S)) ∨ (z_2 = 0 ∧ ¬ (0 ≤ h ∧ h < S))) := hw_
        have f27_v := hw_
        clear hw_
        have J45 : ∀ (g45 : ((z_2 = 0)) ∨ ((¬ z_2 = 0) ∧ (x < 0))) (ls_ : Array Slot) (H_ : Heap) (lo_ : List Loc), WD D A_ s_.heap ([wE cy e fk_1 fm, wI cy q S M sk c mk ms p]) H_ lo_ → lv_has ls_ 6 [(4, .int (zi k)), (3, .int (zi x)), (0, .ref (e 0)), (1, .ref (q 0)), (2, .int (zi h))] → W p_ l_ e_ rX1_fillRow s_ m_ ar_ be_ me_ c_ H_ lo_ 0 0 Q_ (F0 m_ 45 ls_ []) := by
          intro g45 ls_ H_ lo_ W_ hl
          refine z_iconst F_ dX1_fillRow_45 ?_
          refine lv_istore (lv' := [(5, .int (zi (-1))), (4, .int (zi k)), (3, .int (zi x)), (0, .ref (e 0)), (1, .ref (q 0)), (2, .int (zi h))]) F_.1 F_.2.1 dX1_fillRow_46 hl (by decide) rfl (fun ls_ hl => ?_)
          refine lv_iload F_.1 F_.2.1 dX1_fillRow_48 (lv_at hl 0 rfl) ?_
          refine z_iconst F_ dX1_fillRow_50 ?_
          refine z_icmp_ne (tgt := 58) F_ (by omega) dX1_fillRow_51 (by decide) (fun c51 => ?_) (fun c51 => ?_)
          · exact absurd c51 (by omega)
          · refine z_iconst F_ dX1_fillRow_54 ?_
            refine z_goto (tgt := 67) F_ dX1_fillRow_55 (by decide) ?_
            refine lv_istore_n (lv' := [(3, .int (zi (-1))), (5, .int (zi (-1))), (4, .int (zi k)), (0, .ref (e 0)), (1, .ref (q 0)), (2, .int (zi h))]) F_.1 F_.2.1 dX1_fillRow_67 rfl hl (by decide) rfl (fun ls_ hl => ?_)
            refine z_iinc (lv' := [(4, .int (zi (k + 1))), (3, .int (zi (-1))), (5, .int (zi (-1))), (0, .ref (e 0)), (1, .ref (q 0)), (2, .int (zi h))]) F_ dX1_fillRow_68 hl (k := 2) rfl (by decide) rfl (fun ls_ hl => ?_)
            refine z_goto (tgt := 5) F_ dX1_fillRow_71 (by decide) ?_
            exact ih5 (-1) (k + 1) fk_1 c p bfk_1 bc bp (by first | omega | assumption) (by rw [rowI_s _ _ _ _ _ _ _ hk.1, ← hx, ← hc, ← hp]; first | (rw [if_neg (fun q => by have h1 := q.1; have h2 := q.2.1; omega)]; done) | (rw [if_neg (fun q => q.2.2 (f39_v.symm.trans c51))]; done) | (rw [if_pos ⟨by omega, by omega, fun q => c51 (f39_v.trans q)⟩]; rw [← f39_v]; done)) (by rw [rowI_s _ _ _ _ _ _ _ hk.1, ← hx, ← hc, ← hp]; first | (rw [if_neg (fun q => by have h1 := q.1; have h2 := q.2.1; omega)]; done) | (rw [if_neg (fun q => q.2.2 (f39_v.symm.trans c51))]; rw [f39_c, goSc, if_pos c51]; done) | (rw [if_pos ⟨by omega, by omega, fun q => c51 (f39_v.trans q)⟩]; rw [← f39_v]; exact f39_c)) (by rw [rowI_s _ _ _ _ _ _ _ hk.1, ← hx, ← hc, ← hp]; first | (rw [if_neg (fun q => by have h1 := q.1; have h2 := q.2.1; omega)]; done) | (rw [if_neg (fun q => q.2.2 (f39_v.symm.trans c51))]; rw [f39_p, goMp, if_pos c51]; done) | (rw [if_pos ⟨by omega, by omega, fun q => c51 (f39_v.trans q)⟩]; rw [← f39_v]; exact f39_p)) (by intro j; rw [efk_1, zu_at, hf]; by_cases q : j = h * 9 + k; (rw [if_pos q, if_pos (by omega), show j - 9 * h = k by omega, hx]); (rw [if_neg q]; by_cases w : 9 * h ≤ j ∧ j < 9 * h + k; (rw [if_pos w, if_pos (by omega)]); (rw [if_neg w, if_neg (by omega)]))) (by first | omega | assumption) (by omega) ls_ H_ lo_ W_ (lv_sub hl [0, 1, 3, 4, 5] rfl)
        refine z_if_eq (tgt := 45) F_ (by omega) dX1_fillRow_30 (by decide) (fun c30 => ?_) (fun c30 => ?_)
        · exact J45 (by first | omega | grind) ls_ H_ lo_ W_ (lv_sub hl [0, 1, 2, 3, 4] rfl)
        · refine lv_iload_n F_.1 F_.2.1 dX1_fillRow_33 rfl (lv_at hl 1 rfl) ?_
          refine z_if_lt (tgt := 45) F_ (by omega) dX1_fillRow_34 (by decide) (fun c34 => ?_) (fun c34 => ?_)
          · exact J45 (by first | omega | grind) ls_ H_ lo_ W_ (lv_sub hl [0, 1, 2, 3, 4] rfl)
          · refine lv_aload_n F_.1 F_.2.1 dX1_fillRow_37 rfl (lv_at hl 3 rfl) ?_
            refine lv_iload_n F_.1 F_.2.1 dX1_fillRow_38 rfl (lv_at hl 4 rfl) ?_
            refine z_callVi F_ K_ W_ [.int (zi h)] (c_X4_leaveOne l_ D cy q S M sk c mk ms p h (by omega) (by omega) bsk bc bmk bms bp (by first | omega | assumption)) 1 rfl gX1_fillRow_X4_leaveOne rfl (by decide +kernel) ⟨⟨Nat.le_of_ble_eq_true rfl, Nat.le_of_ble_eq_true rfl⟩, rfl, rfl, Nat.zero_le _, Nat.zero_le _⟩ 0 0 4 rfl rfl rfl rfl hl.1 rfl (Nat.le_of_ble_eq_true rfl) [1] [0] [wE cy e fk_1 fm] (fun (u_ : (Int → Int) × (Int → Int)) => [wE cy e fk_1 fm, wI cy q S M sk u_.1 mk ms u_.2]) 2 (by decide +kernel) rfl rfl rfl (fun _ => rfl) (fun _ => rfl) (fun _ => rfl) dX1_fillRow_39 (fun z_3 u_ H_ lo_ hw_ W_ => ?_)
            obtain ⟨sc2_4, mp2_5⟩ := u_
            have W_ : WD D A_ s_.heap ([wE cy e fk_1 fm, wI cy q S M sk sc2_4 mk ms mp2_5]) H_ lo_ := W_
            replace hw_ : (z_3 = lstI S M c mk ms p h) ∧ (mp2_5 = goMp p z_3) ∧ (sc2_4 = goSc c h z_3) ∧ (∀ j : Int, 0 ≤ sc2_4 j ∧ sc2_4 j ≤ 99) ∧ (∀ j : Int, (-1) ≤ mp2_5 j ∧ mp2_5 j ≤ 2) := hw_
            obtain ⟨f39_v, f39_p, f39_c, f39_B_I_sc, f39_B_I_mp⟩ := hw_
            have hlb := lstI_b (S := S) (M := M) c mk ms p h (by omega)
            rw [← f39_v] at hlb
            refine z_goto (tgt := 46) F_ dX1_fillRow_42 (by decide) ?_
            refine lv_istore (lv' := [(5, .int (zi z_3)), (4, .int (zi k)), (3, .int (zi x)), (0, .ref (e 0)), (1, .ref (q 0)), (2, .int (zi h))]) F_.1 F_.2.1 dX1_fillRow_46 hl (by decide) rfl (fun ls_ hl => ?_)
            refine lv_iload F_.1 F_.2.1 dX1_fillRow_48 (lv_at hl 0 rfl) ?_
            refine z_iconst F_ dX1_fillRow_50 ?_
            refine z_icmp_ne (tgt := 58) F_ (by omega) dX1_fillRow_51 (by decide) (fun c51 => ?_) (fun c51 => ?_)
            · refine lv_iload_n F_.1 F_.2.1 dX1_fillRow_58 rfl (lv_at hl 2 rfl) ?_
              refine lv_aload_n F_.1 F_.2.1 dX1_fillRow_59 rfl (lv_at hl 4 rfl) ?_
              refine z_get F_ K_ W_ 1 0 5 rfl rfl rfl (C := RX4) (T := TX4) (N := 11) rfl (by decide) hinX4 (List.mem_of_getElem? (i := 2) rfl) dX1_fillRow_60 ?_
              refine lv_iload F_.1 F_.2.1 dX1_fillRow_63 (lv_at hl 0 rfl) ?_
              refine z_iald F_ K_ W_ 1 4 rfl rfl (by omega) (by decide) dX1_fillRow_65 ?_
              have b_6 := bms z_3
              refine z_iadd F_ dX1_fillRow_66 ?_
              refine lv_istore_n (lv' := [(3, .int (zi (x + (ms z_3)))), (5, .int (zi z_3)), (4, .int (zi k)), (0, .ref (e 0)), (1, .ref (q 0)), (2, .int (zi h))]) F_.1 F_.2.1 dX1_fillRow_67 rfl hl (by decide) rfl (fun ls_ hl => ?_)
              refine z_iinc (lv' := [(4, .int (zi (k + 1))), (3, .int (zi (x + (ms z_3)))), (5, .int (zi z_3)), (0, .ref (e 0)), (1, .ref (q 0)), (2, .int (zi h))]) F_ dX1_fillRow_68 hl (k := 2) rfl (by decide) rfl (fun ls_ hl => ?_)
              refine z_goto (tgt := 5) F_ dX1_fillRow_71 (by decide) ?_
              exact ih5 (x + (ms z_3)) (k + 1) fk_1 sc2_4 mp2_5 bfk_1 f39_B_I_sc f39_B_I_mp (by first | omega | assumption) (by rw [rowI_s _ _ _ _ _ _ _ hk.1, ← hx, ← hc, ← hp]; first | (rw [if_neg (fun q => by have h1 := q.1; have h2 := q.2.1; omega)]; done) | (rw [if_neg (fun q => q.2.2 (f39_v.symm.trans c51))]; done) | (rw [if_pos ⟨by omega, by omega, fun q => c51 (f39_v.trans q)⟩]; rw [← f39_v]; done)) (by rw [rowI_s _ _ _ _ _ _ _ hk.1, ← hx, ← hc, ← hp]; first | (rw [if_neg (fun q => by have h1 := q.1; have h2 := q.2.1; omega)]; done) | (rw [if_neg (fun q => q.2.2 (f39_v.symm.trans c51))]; rw [f39_c, goSc, if_pos c51]; done) | (rw [if_pos ⟨by omega, by omega, fun q => c51 (f39_v.trans q)⟩]; rw [← f39_v]; exact f39_c)) (by rw [rowI_s _ _ _ _ _ _ _ hk.1, ← hx, ← hc, ← hp]; first | (rw [if_neg (fun q => by have h1 := q.1; have h2 := q.2.1; omega)]; done) | (rw [if_neg (fun q => q.2.2 (f39_v.symm.trans c51))]; rw [f39_p, goMp, if_pos c51]; done) | (rw [if_pos ⟨by omega, by omega, fun q => c51 (f39_v.trans q)⟩]; rw [← f39_v]; exact f39_p)) (by intro j; rw [efk_1, zu_at, hf]; by_cases q : j = h * 9 + k; (rw [if_pos q, if_pos (by omega), show j - 9 * h = k by omega, hx]); (rw [if_neg q]; by_cases w : 9 * h ≤ j ∧ j < 9 * h + k; (rw [if_pos w, if_pos (by omega)]); (rw [if_neg w, if_neg (by omega)]))) (by first | omega | assumption) (by omega) ls_ H_ lo_ W_ (lv_sub hl [0, 1, 3, 4, 5] rfl)
            · refine z_iconst F_ dX1_fillRow_54 ?_
              refine z_goto (tgt := 67) F_ dX1_fillRow_55 (by decide) ?_
              refine lv_istore_n (lv' := [(3, .int (zi (-1))), (5, .int (zi z_3)), (4, .int (zi k)), (0, .ref (e 0)), (1, .ref (q 0)), (2, .int (zi h))]) F_.1 F_.2.1 dX1_fillRow_67 rfl hl (by decide) rfl (fun ls_ hl => ?_)
              refine z_iinc (lv' := [(4, .int (zi (k + 1))), (3, .int (zi (-1))), (5, .int (zi z_3)), (0, .ref (e 0)), (1, .ref (q 0)), (2, .int (zi h))]) F_ dX1_fillRow_68 hl (k := 2) rfl (by decide) rfl (fun ls_ hl => ?_)
              refine z_goto (tgt := 5) F_ dX1_fillRow_71 (by decide) ?_
              exact ih5 (-1) (k + 1) fk_1 sc2_4 mp2_5 bfk_1 f39_B_I_sc f39_B_I_mp (by first | omega | assumption) (by rw [rowI_s _ _ _ _ _ _ _ hk.1, ← hx, ← hc, ← hp]; first | (rw [if_neg (fun q => by have h1 := q.1; have h2 := q.2.1; omega)]; done) | (rw [if_neg (fun q => q.2.2 (f39_v.symm.trans c51))]; done) | (rw [if_pos ⟨by omega, by omega, fun q => c51 (f39_v.trans q)⟩]; rw [← f39_v]; done)) (by rw [rowI_s _ _ _ _ _ _ _ hk.1, ← hx, ← hc, ← hp]; first | (rw [if_neg (fun q => by have h1 := q.1; have h2 := q.2.1; omega)]; done) | (rw [if_neg (fun q => q.2.2 (f39_v.symm.trans c51))]; rw [f39_c, goSc, if_pos c51]; done) | (rw [if_pos ⟨by omega, by omega, fun q => c51 (f39_v.trans q)⟩]; rw [← f39_v]; exact f39_c)) (by rw [rowI_s _ _ _ _ _ _ _ hk.1, ← hx, ← hc, ← hp]; first | (rw [if_neg (fun q => by have h1 := q.1; have h2 := q.2.1; omega)]; done) | (rw [if_neg (fun q => q.2.2 (f39_v.symm.trans c51))]; rw [f39_p, goMp, if_pos c51]; done) | (rw [if_pos ⟨by omega, by omega, fun q => c51 (f39_v.trans q)⟩]; rw [← f39_v]; exact f39_p)) (by intro j; rw [efk_1, zu_at, hf]; by_cases q : j = h * 9 + k; (rw [if_pos q, if_pos (by omega), show j - 9 * h = k by omega, hx]); (rw [if_neg q]; by_cases w : 9 * h ≤ j ∧ j < 9 * h + k; (rw [if_pos w, if_pos (by omega)]); (rw [if_neg w, if_neg (by omega)]))) (by first | omega | assumption) (by omega) ls_ H_ lo_ W_ (lv_sub hl [0, 1, 3, 4, 5] rfl)
  exact L5 ((9 - 0 : Int).toNat + 1) 0 0 fk sc mp bfk bsc bmp (by first | omega | assumption) (by rfl) (by rfl) (by rfl) (by intro j; rw [if_neg (by omega)]) (by first | omega | assumption) (by have := Int.self_le_toNat (9 - 0 : Int); omega) ls_ H_ lo_ W_ (lv_sub hl [0, 1, 2, 3, 4] rfl)
abbrev rX1_leaves : Room := { frames := 0, cells := 0, slots := 0, locals := 0 }
set_option maxHeartbeats 1000000 in
set_option maxRecDepth 100000 in
theorem c_X1_leaves (l_ : Launch) (D : va_G) (cy : Nat → ClassId) (e : Nat → Nat) (fk : Int → Int) (fm : Int → Int) (a : Int) (b : Int) (c : Int) (x : Int) (bfk : ∀ j : Int, (-1) ≤ fk j ∧ fk j ≤ 99) (bfm : ∀ j : Int, 0 ≤ fm j ∧ fm j ≤ 8) (ra : -2147483648 ≤ a ∧ a < 2147483648) (rb : -2147483648 ≤ b ∧ b < 2147483648) (rc : -2147483648 ≤ c ∧ c < 2147483648) (rx : -2147483648 ≤ x ∧ x < 2147483648) (ha : 0 ≤ a ∧ a ≤ 8 ∧ 0 ≤ b ∧ b ≤ 8 ∧ 0 ≤ c ∧ c ≤ 8) (hx : -300 ≤ x ∧ x ≤ 300) : CTi l_ D cy yX1_leaves wsX1_leaves rX1_leaves [.ref (e 0), .int (zi a), .int (zi b), .int (zi c), .int (zi x)] ([wE cy e fk fm]) (fun (z : Int) (u : Unit) => ((z = 1 ∧ lvsP fk a b c x) ∨ (z = 0 ∧ ¬ lvsP fk a b c x))) (fun (_ : Unit) => [wE cy e fk fm]) := by
  refine CTi.of RX1 cX1_leaves 8 rfl (by decide) rfl (fun z u hz => z_bl hz) (Nat.le_of_ble_eq_true rfl) ?_
  intro p_ e_ s_ m_ ar_ be_ me_ c_ Q_ A_ ls_ F_ K_ W_ hl hret
  have hl : lv_has ls_ 8 [(0, .ref (e 0)), (1, .int (zi a)), (2, .int (zi b)), (3, .int (zi c)), (4, .int (zi x))] := hl
  obtain ⟨H_, hH_⟩ : ∃ x, x = s_.heap := ⟨_, rfl⟩
  obtain ⟨lo_, hlo_⟩ : ∃ x : List Loc, x = [] := ⟨_, rfl⟩
  have W_ : WD D A_ s_.heap ([wE cy e fk fm]) H_ lo_ := by rw [hH_, hlo_]; exact W_
  rw [← hlo_]
  suffices hg_ : W p_ l_ e_ rX1_leaves s_ m_ ar_ be_ me_ c_ H_ lo_ 0 0 Q_ (F0 m_ 0 ls_ []) by rw [hH_] at hg_; exact hg_
  clear hH_ hlo_
  have hinX1 : ∀ w ∈ u_ws RX1 TX1 2, w ∈ wsX1_leaves := fun w h => List.mem_cons_of_mem _ (List.mem_append_right _ h)
  refine lv_aload_n F_.1 F_.2.1 dX1_leaves_0 rfl (lv_at hl 0 rfl) ?_
  refine z_get F_ K_ W_ 0 0 0 rfl rfl rfl (C := RX1) (T := TX1) (N := 2) rfl (by decide) hinX1 (List.mem_of_getElem? (i := 1) rfl) dX1_leaves_1 ?_
  refine lv_iload_n F_.1 F_.2.1 dX1_leaves_4 rfl (lv_at hl 1 rfl) ?_
  refine z_iald F_ K_ W_ 0 1 rfl rfl (by omega) (by decide) dX1_leaves_5 ?_
  have b_1 := bfk a
  refine lv_istore (lv' := [(5, .int (zi (fk a))), (0, .ref (e 0)), (1, .int (zi a)), (2, .int (zi b)), (3, .int (zi c)), (4, .int (zi x))]) F_.1 F_.2.1 dX1_leaves_6 hl (by decide) rfl (fun ls_ hl => ?_)
  refine lv_aload_n F_.1 F_.2.1 dX1_leaves_8 rfl (lv_at hl 1 rfl) ?_
  refine z_get F_ K_ W_ 0 0 0 rfl rfl rfl (C := RX1) (T := TX1) (N := 2) rfl (by decide) hinX1 (List.mem_of_getElem? (i := 1) rfl) dX1_leaves_9 ?_
  refine z_bipush F_ (by decide) dX1_leaves_12 ?_
  refine lv_iload_n F_.1 F_.2.1 dX1_leaves_14 rfl (lv_at hl 3 rfl) ?_
  refine z_iadd F_ dX1_leaves_15 ?_
  refine z_iald F_ K_ W_ 0 1 rfl rfl (by omega) (by decide) dX1_leaves_16 ?_
  have b_2 := bfk (9 + b)
  refine lv_istore (lv' := [(6, .int (zi (fk (9 + b)))), (5, .int (zi (fk a))), (0, .ref (e 0)), (1, .int (zi a)), (2, .int (zi b)), (3, .int (zi c)), (4, .int (zi x))]) F_.1 F_.2.1 dX1_leaves_17 hl (by decide) rfl (fun ls_ hl => ?_)
  refine lv_aload_n F_.1 F_.2.1 dX1_leaves_19 rfl (lv_at hl 2 rfl) ?_
  refine z_get F_ K_ W_ 0 0 0 rfl rfl rfl (C := RX1) (T := TX1) (N := 2) rfl (by decide) hinX1 (List.mem_of_getElem? (i := 1) rfl) dX1_leaves_20 ?_
  refine z_bipush F_ (by decide) dX1_leaves_23 ?_
  refine lv_iload_n F_.1 F_.2.1 dX1_leaves_25 rfl (lv_at hl 5 rfl) ?_
  refine z_iadd F_ dX1_leaves_26 ?_
  refine z_iald F_ K_ W_ 0 1 rfl rfl (by omega) (by decide) dX1_leaves_27 ?_
  have b_3 := bfk (18 + c)
  refine lv_istore (lv' := [(7, .int (zi (fk (18 + c)))), (6, .int (zi (fk (9 + b)))), (5, .int (zi (fk a))), (0, .ref (e 0)), (1, .int (zi a)), (2, .int (zi b)), (3, .int (zi c)), (4, .int (zi x))]) F_.1 F_.2.1 dX1_leaves_28 hl (by decide) rfl (fun ls_ hl => ?_)
  refine lv_iload F_.1 F_.2.1 dX1_leaves_30 (lv_at hl 2 rfl) ?_
  refine z_if_lt (tgt := 62) F_ (by omega) dX1_leaves_32 (by decide) (fun c32 => ?_) (fun c32 => ?_)
  · refine z_iconst F_ dX1_leaves_62 ?_
    exact hret _ _ _ _ 0 () dX1_leaves_63 (by first | exact Or.inl ⟨rfl, by unfold lvsP; omega⟩ | exact Or.inr ⟨rfl, by unfold lvsP; omega⟩) W_
  · refine lv_iload F_.1 F_.2.1 dX1_leaves_35 (lv_at hl 1 rfl) ?_
    refine z_if_lt (tgt := 62) F_ (by omega) dX1_leaves_37 (by decide) (fun c37 => ?_) (fun c37 => ?_)
    · refine z_iconst F_ dX1_leaves_62 ?_
      exact hret _ _ _ _ 0 () dX1_leaves_63 (by first | exact Or.inl ⟨rfl, by unfold lvsP; omega⟩ | exact Or.inr ⟨rfl, by unfold lvsP; omega⟩) W_
    · refine lv_iload F_.1 F_.2.1 dX1_leaves_40 (lv_at hl 0 rfl) ?_
      refine z_if_lt (tgt := 62) F_ (by omega) dX1_leaves_42 (by decide) (fun c42 => ?_) (fun c42 => ?_)
      · refine z_iconst F_ dX1_leaves_62 ?_
        exact hret _ _ _ _ 0 () dX1_leaves_63 (by first | exact Or.inl ⟨rfl, by unfold lvsP; omega⟩ | exact Or.inr ⟨rfl, by unfold lvsP; omega⟩) W_
      · refine lv_iload F_.1 F_.2.1 dX1_leaves_45 (lv_at hl 2 rfl) ?_
        refine lv_iload F_.1 F_.2.1 dX1_leaves_47 (lv_at hl 1 rfl) ?_
        refine z_iadd F_ dX1_leaves_49 ?_
        refine lv_iload F_.1 F_.2.1 dX1_leaves_50 (lv_at hl 0 rfl) ?_
        refine z_iadd F_ dX1_leaves_52 ?_
        refine lv_iload F_.1 F_.2.1 dX1_leaves_53 (lv_at hl 7 rfl) ?_
        refine z_icmp_lt (tgt := 62) F_ (by omega) dX1_leaves_55 (by decide) (fun c55 => ?_) (fun c55 => ?_)
        · refine z_iconst F_ dX1_leaves_62 ?_
          exact hret _ _ _ _ 0 () dX1_leaves_63 (by first | exact Or.inl ⟨rfl, by unfold lvsP; omega⟩ | exact Or.inr ⟨rfl, by unfold lvsP; omega⟩) W_
        · refine z_iconst F_ dX1_leaves_58 ?_
          refine z_goto (tgt := 63) F_ dX1_leaves_59 (by decide) ?_
          exact hret _ _ _ _ 1 () dX1_leaves_63 (by first | exact Or.inl ⟨rfl, by unfold lvsP; omega⟩ | exact Or.inr ⟨rfl, by unfold lvsP; omega⟩) W_
abbrev rX1_findWith : Room := { frames := 1, cells := 0, slots := 0, locals := 27 }
set_option maxHeartbeats 1000000 in
set_option maxRecDepth 100000 in
theorem c_X1_findWith (l_ : Launch) (D : va_G) (cy : Nat → ClassId) (e : Nat → Nat) (fk : Int → Int) (fm : Int → Int) (t : Int) (x : Int) (bfk : ∀ j : Int, (-1) ≤ fk j ∧ fk j ≤ 99) (bfm : ∀ j : Int, 0 ≤ fm j ∧ fm j ≤ 8) (rt : -2147483648 ≤ t ∧ t < 2147483648) (rx : -2147483648 ≤ x ∧ x < 2147483648) (ht : 0 ≤ t ∧ t ≤ 8) (hx : -300 ≤ x ∧ x ≤ 300) : CTi l_ D cy yX1_findWith wsX1_findWith rX1_findWith [.ref (e 0), .int (zi t), .int (zi x)] ([wE cy e fk fm]) (fun (z : Int) (u : (Int → Int)) => ((z = 1 ∧ (∃ a b, 0 ≤ a ∧ 0 ≤ b ∧ a + b ≤ t ∧ lvsP fk a b (t - a - b) x ∧ u 0 = a ∧ u 1 = b ∧ u 2 = t - a - b ∧ ∀ a1 b1, 0 ≤ a1 → 0 ≤ b1 → a1 + b1 ≤ t → (a1 < a ∨ a1 = a ∧ b1 < b) → ¬ lvsP fk a1 b1 (t - a1 - b1) x)) ∨ (z = 0 ∧ (∀ a1 b1, 0 ≤ a1 → 0 ≤ b1 → a1 + b1 ≤ t → ¬ lvsP fk a1 b1 (t - a1 - b1) x))) ∧ (∀ j : Int, 0 ≤ u j ∧ u j ≤ 8)) (fun (u : (Int → Int)) => [wE cy e fk u]) := by
  refine CTi.of RX1 cX1_findWith 5 rfl (by decide) rfl (fun z u hz => z_bl hz.1) (Nat.le_of_ble_eq_true rfl) ?_
  intro p_ e_ s_ m_ ar_ be_ me_ c_ Q_ A_ ls_ F_ K_ W_ hl hret
  have hl : lv_has ls_ 5 [(0, .ref (e 0)), (1, .int (zi t)), (2, .int (zi x))] := hl
  obtain ⟨H_, hH_⟩ : ∃ x, x = s_.heap := ⟨_, rfl⟩
  obtain ⟨lo_, hlo_⟩ : ∃ x : List Loc, x = [] := ⟨_, rfl⟩
  have W_ : WD D A_ s_.heap ([wE cy e fk fm]) H_ lo_ := by rw [hH_, hlo_]; exact W_
  rw [← hlo_]
  suffices hg_ : W p_ l_ e_ rX1_findWith s_ m_ ar_ be_ me_ c_ H_ lo_ 0 0 Q_ (F0 m_ 0 ls_ []) by rw [hH_] at hg_; exact hg_
  clear hH_ hlo_
  have hinX1 : ∀ w ∈ u_ws RX1 TX1 2, w ∈ wsX1_findWith := fun w h => List.mem_cons_of_mem _ (List.mem_append_right _ h)
  refine z_iconst F_ dX1_findWith_0 ?_
  refine lv_istore_n (lv' := [(3, .int (zi 0)), (0, .ref (e 0)), (1, .int (zi t)), (2, .int (zi x))]) F_.1 F_.2.1 dX1_findWith_1 rfl hl (by decide) rfl (fun ls_ hl => ?_)
  have L2 : ∀ (n_ : Nat) (a : Int) (ha : 0 ≤ a ∧ a ≤ t + 1) (hn : ∀ a1 b1, 0 ≤ a1 → a1 < a → 0 ≤ b1 → a1 + b1 ≤ t → ¬ lvsP fk a1 b1 (t - a1 - b1) x) (hm_ : (t + 1 - a : Int) < (n_ : Int)) (ls_ : Array Slot) (H_ : Heap) (lo_ : List Loc), WD D A_ s_.heap ([wE cy e fk fm]) H_ lo_ → lv_has ls_ 5 [(3, .int (zi a)), (0, .ref (e 0)), (1, .int (zi t)), (2, .int (zi x))] → W p_ l_ e_ rX1_findWith s_ m_ ar_ be_ me_ c_ H_ lo_ 0 0 Q_ (F0 m_ 2 ls_ []) := by
    intro n_
    induction n_ with
    | zero =>
      intro a ha hn hm_ ls_ H_ lo_ _ _
      exact absurd hm_ (by omega)
    | succ n_ ih_ =>
      intro a ha hn hm_ ls_ H_ lo_ W_ hl
      have ih2 := ih_
      refine lv_iload_n F_.1 F_.2.1 dX1_findWith_2 rfl (lv_at hl 0 rfl) ?_
      refine lv_iload_n F_.1 F_.2.1 dX1_findWith_3 rfl (lv_at hl 2 rfl) ?_
      refine z_icmp_gt (tgt := 76) F_ (by omega) dX1_findWith_4 (by decide) (fun c4 => ?_) (fun c4 => ?_)
      · refine z_iconst F_ dX1_findWith_76 ?_
        exact hret _ _ _ _ 0 fm dX1_findWith_77 ⟨(by exact Or.inr ⟨rfl, fun a1 b1 h1 h2 h3 => hn a1 b1 h1 (by omega) h2 h3⟩), bfm⟩ W_
      · refine z_iconst F_ dX1_findWith_7 ?_
        refine lv_istore (lv' := [(4, .int (zi 0)), (3, .int (zi a)), (0, .ref (e 0)), (1, .int (zi t)), (2, .int (zi x))]) F_.1 F_.2.1 dX1_findWith_8 hl (by decide) rfl (fun ls_ hl => ?_)
        have L10 : ∀ (n_ : Nat) (b : Int) (hb : 0 ≤ b ∧ b ≤ t - a + 1) (hn2 : ∀ b1, 0 ≤ b1 → b1 < b → ¬ lvsP fk a b1 (t - a - b1) x) (hm_ : (t - a + 1 - b : Int) < (n_ : Int)) (ls_ : Array Slot) (H_ : Heap) (lo_ : List Loc), WD D A_ s_.heap ([wE cy e fk fm]) H_ lo_ → lv_has ls_ 5 [(4, .int (zi b)), (3, .int (zi a)), (0, .ref (e 0)), (1, .int (zi t)), (2, .int (zi x))] → W p_ l_ e_ rX1_findWith s_ m_ ar_ be_ me_ c_ H_ lo_ 0 0 Q_ (F0 m_ 10 ls_ []) := by
          intro n_
          induction n_ with
          | zero =>
            intro b hb hn2 hm_ ls_ H_ lo_ _ _
            exact absurd hm_ (by omega)
          | succ n_ ih_ =>
            intro b hb hn2 hm_ ls_ H_ lo_ W_ hl
            have ih10 := ih_
            refine lv_iload F_.1 F_.2.1 dX1_findWith_10 (lv_at hl 0 rfl) ?_
            refine lv_iload_n F_.1 F_.2.1 dX1_findWith_12 rfl (lv_at hl 3 rfl) ?_
            refine lv_iload_n F_.1 F_.2.1 dX1_findWith_13 rfl (lv_at hl 1 rfl) ?_
            refine z_isub F_ dX1_findWith_14 ?_
            refine z_icmp_gt (tgt := 70) F_ (by omega) dX1_findWith_15 (by decide) (fun c15 => ?_) (fun c15 => ?_)
            · refine z_iinc (lv' := [(3, .int (zi (a + 1))), (4, .int (zi b)), (0, .ref (e 0)), (1, .int (zi t)), (2, .int (zi x))]) F_ dX1_findWith_70 hl (k := 1) rfl (by decide) rfl (fun ls_ hl => ?_)
              refine z_goto (tgt := 2) F_ dX1_findWith_73 (by decide) ?_
              exact ih2 (a + 1) (by first | omega | assumption) (by intro a1 b1 h1 h2 h3 h4; rcases Int.lt_or_eq_of_le (show a1 ≤ a by omega) with q | q; exact hn a1 b1 h1 q h3 h4; subst q; exact hn2 b1 h3 (by omega)) (by omega) ls_ H_ lo_ W_ (lv_sub hl [0, 2, 3, 4] rfl)
            · refine lv_aload_n F_.1 F_.2.1 dX1_findWith_18 rfl (lv_at hl 2 rfl) ?_
              refine lv_iload_n F_.1 F_.2.1 dX1_findWith_19 rfl (lv_at hl 1 rfl) ?_
              refine lv_iload F_.1 F_.2.1 dX1_findWith_20 (lv_at hl 0 rfl) ?_
              refine lv_iload_n F_.1 F_.2.1 dX1_findWith_22 rfl (lv_at hl 3 rfl) ?_
              refine lv_iload_n F_.1 F_.2.1 dX1_findWith_23 rfl (lv_at hl 1 rfl) ?_
              refine z_isub F_ dX1_findWith_24 ?_
              refine lv_iload F_.1 F_.2.1 dX1_findWith_25 (lv_at hl 0 rfl) ?_
              refine z_isub F_ dX1_findWith_27 ?_
              refine lv_iload_n F_.1 F_.2.1 dX1_findWith_28 rfl (lv_at hl 4 rfl) ?_
              refine z_callVip F_ K_ W_ [.int (zi a), .int (zi b), .int (zi ((t - a) - b)), .int (zi x)] (c_X1_leaves l_ D cy e fk fm a b ((t - a) - b) x bfk bfm (by first | omega | assumption) (by first | omega | assumption) (by first | omega | assumption) (by first | omega | assumption) (by first | omega | assumption) (by first | omega | assumption)) 4 rfl gX1_findWith_X1_leaves rfl (by decide +kernel) ⟨⟨Nat.le_of_ble_eq_true rfl, Nat.le_of_ble_eq_true rfl⟩, rfl, rfl, Nat.zero_le _, Nat.zero_le _⟩ 0 0 1 rfl rfl rfl rfl hl.1 rfl (Nat.le_of_ble_eq_true rfl) [0] ([] : List Nat) ([] : List va_W) 1 (by decide +kernel) rfl rfl rfl dX1_findWith_29 (fun z_1 _ H_ lo_ hw_ W_ => ?_)
              replace hw_ : ((z_1 = 1 ∧ lvsP fk a b ((t - a) - b) x) ∨ (z_1 = 0 ∧ ¬ lvsP fk a b ((t - a) - b) x)) := hw_
              have f29_v := hw_
              clear hw_
              refine z_if_eq (tgt := 64) F_ (by omega) dX1_findWith_32 (by decide) (fun c32 => ?_) (fun c32 => ?_)
              · refine z_iinc (lv' := [(4, .int (zi (b + 1))), (3, .int (zi a)), (0, .ref (e 0)), (1, .int (zi t)), (2, .int (zi x))]) F_ dX1_findWith_64 hl (k := 0) rfl (by decide) rfl (fun ls_ hl => ?_)
                refine z_goto (tgt := 10) F_ dX1_findWith_67 (by decide) ?_
                exact ih10 (b + 1) (by first | omega | assumption) (by intro b1 h1 h2; rcases Int.lt_or_eq_of_le (show b1 ≤ b by omega) with q | q; exact hn2 b1 h1 q; rw [q]; exact f29_v.elim (fun w => absurd w.1 (by omega)) (fun w => w.2)) (by omega) ls_ H_ lo_ W_ (lv_sub hl [0, 1, 2, 3, 4] rfl)
              · refine lv_aload_n F_.1 F_.2.1 dX1_findWith_35 rfl (lv_at hl 2 rfl) ?_
                refine z_get F_ K_ W_ 0 0 1 rfl rfl rfl (C := RX1) (T := TX1) (N := 2) rfl (by decide) hinX1 (List.mem_of_getElem? (i := 1) rfl) dX1_findWith_36 ?_
                refine z_iconst F_ dX1_findWith_39 ?_
                refine lv_iload_n F_.1 F_.2.1 dX1_findWith_40 rfl (lv_at hl 1 rfl) ?_
                refine z_iast (sg' := [wE cy e fk (zu fm 0 a)]) F_ K_ W_ 0 2 rfl rfl rfl (by omega) (by decide) dX1_findWith_41 (fun H_ lo_ W_ => ?_)
                obtain ⟨fm_2, efm_2⟩ : ∃ x_ : Int → Int, x_ = zu fm 0 a := ⟨_, rfl⟩
                rw [← efm_2] at W_
                have bfm_2 : ∀ j : Int, 0 ≤ fm_2 j ∧ fm_2 j ≤ 8 := by rw [efm_2]; exact zu_b bfm (by omega)
                refine lv_aload_n F_.1 F_.2.1 dX1_findWith_42 rfl (lv_at hl 2 rfl) ?_
                refine z_get F_ K_ W_ 0 0 1 rfl rfl rfl (C := RX1) (T := TX1) (N := 2) rfl (by decide) hinX1 (List.mem_of_getElem? (i := 1) rfl) dX1_findWith_43 ?_
                refine z_iconst F_ dX1_findWith_46 ?_
                refine lv_iload F_.1 F_.2.1 dX1_findWith_47 (lv_at hl 0 rfl) ?_
                refine z_iast (sg' := [wE cy e fk (zu fm_2 1 b)]) F_ K_ W_ 0 2 rfl rfl rfl (by omega) (by decide) dX1_findWith_49 (fun H_ lo_ W_ => ?_)
                obtain ⟨fm_3, efm_3⟩ : ∃ x_ : Int → Int, x_ = zu fm_2 1 b := ⟨_, rfl⟩
                rw [← efm_3] at W_
                have bfm_3 : ∀ j : Int, 0 ≤ fm_3 j ∧ fm_3 j ≤ 8 := by rw [efm_3]; exact zu_b bfm_2 (by omega)
                refine lv_aload_n F_.1 F_.2.1 dX1_findWith_50 rfl (lv_at hl 2 rfl) ?_
                refine z_get F_ K_ W_ 0 0 1 rfl rfl rfl (C := RX1) (T := TX1) (N := 2) rfl (by decide) hinX1 (List.mem_of_getElem? (i := 1) rfl) dX1_findWith_51 ?_
                refine z_iconst F_ dX1_findWith_54 ?_
                refine lv_iload_n F_.1 F_.2.1 dX1_findWith_55 rfl (lv_at hl 3 rfl) ?_
                refine lv_iload_n F_.1 F_.2.1 dX1_findWith_56 rfl (lv_at hl 1 rfl) ?_
                refine z_isub F_ dX1_findWith_57 ?_
                refine lv_iload F_.1 F_.2.1 dX1_findWith_58 (lv_at hl 0 rfl) ?_
                refine z_isub F_ dX1_findWith_60 ?_
                refine z_iast (sg' := [wE cy e fk (zu fm_3 2 ((t - a) - b))]) F_ K_ W_ 0 2 rfl rfl rfl (by omega) (by decide) dX1_findWith_61 (fun H_ lo_ W_ => ?_)
                obtain ⟨fm_4, efm_4⟩ : ∃ x_ : Int → Int, x_ = zu fm_3 2 ((t - a) - b) := ⟨_, rfl⟩
                rw [← efm_4] at W_
                have bfm_4 : ∀ j : Int, 0 ≤ fm_4 j ∧ fm_4 j ≤ 8 := by rw [efm_4]; exact zu_b bfm_3 (by omega)
                refine z_iconst F_ dX1_findWith_62 ?_
                exact hret _ _ _ _ 1 fm_4 dX1_findWith_63 ⟨(by exact Or.inl ⟨rfl, a, b, by omega, by omega, by omega, f29_v.elim (fun w => w.2) (fun w => absurd w.1 (by omega)), by rw [efm_4, zu_n _ _ (by omega), efm_3, zu_n _ _ (by omega), efm_2, zu_s], by rw [efm_4, zu_n _ _ (by omega), efm_3, zu_s], by rw [efm_4, zu_s], fun a1 b1 h1 h2 h3 h4 => (by rcases h4 with w | w; exact hn a1 b1 h1 w h2 h3; (rw [w.1]; exact hn2 b1 h2 w.2))⟩), bfm_4⟩ W_
        exact L10 ((t - a + 1 - 0 : Int).toNat + 1) 0 (by first | omega | assumption) (by intro b1 h1 h2; omega) (by have := Int.self_le_toNat (t - a + 1 - 0 : Int); omega) ls_ H_ lo_ W_ (lv_sub hl [0, 1, 2, 3, 4] rfl)
  exact L2 ((t + 1 - 0 : Int).toNat + 1) 0 (by first | omega | assumption) (by intro a1 b1 h1 h2; omega) (by have := Int.self_le_toNat (t + 1 - 0 : Int); omega) ls_ H_ lo_ W_ (lv_sub hl [0, 1, 2, 3] rfl)
abbrev rX1_find : Room := { frames := 4, cells := 0, slots := 0, locals := 97 }
set_option maxHeartbeats 1000000 in
set_option maxRecDepth 100000 in
theorem c_X1_find (l_ : Launch) (D : va_G) (cy : Nat → ClassId) (e : Nat → Nat) (fk : Int → Int) (fm : Int → Int) (q : Nat → Nat) (S : Int) (M : Int) (sk : Int → Int) (sc : Int → Int) (mk : Int → Int) (ms : Int → Int) (mp : Int → Int) (x : Int) (bfk : ∀ j : Int, (-1) ≤ fk j ∧ fk j ≤ 99) (bfm : ∀ j : Int, 0 ≤ fm j ∧ fm j ≤ 8) (bS : 0 ≤ S ∧ S ≤ 3) (bM : 0 ≤ M ∧ M ≤ 8) (bsk : ∀ j : Int, 0 ≤ sk j ∧ sk j ≤ 5) (bsc : ∀ j : Int, 0 ≤ sc j ∧ sc j ≤ 99) (bmk : ∀ j : Int, 0 ≤ mk j ∧ mk j ≤ 5) (bms : ∀ j : Int, 0 ≤ ms j ∧ ms j ≤ 9) (bmp : ∀ j : Int, (-1) ≤ mp j ∧ mp j ≤ 2) (rx : -2147483648 ≤ x ∧ x < 2147483648) (hx : 1 ≤ x ∧ x ≤ 72) : CTi l_ D cy yX1_find wsX1_find rX1_find [.ref (e 0), .ref (q 0), .int (zi x)] ([wE cy e fk fm, wI cy q S M sk sc mk ms mp]) (fun (z : Int) (u : (Int → Int) × (Int → Int) × (Int → Int) × (Int → Int)) => ((z = -6 ∧ (∀ a1 b1 c1, 0 ≤ a1 → 0 ≤ b1 → 0 ≤ c1 → a1 + b1 + c1 ≤ 8 → ¬ lvsP (rowsS S M sc mk ms mp 3).1 a1 b1 c1 (x - sumZ mp ms (-1) M))) ∨ ((0 ≤ z ∧ z ≤ 8) ∧ (∃ a b c, 0 ≤ a ∧ 0 ≤ b ∧ 0 ≤ c ∧ a + b + c = z ∧ lvsP (rowsS S M sc mk ms mp 3).1 a b c (x - sumZ mp ms (-1) M) ∧ u.2.1 0 = a ∧ u.2.1 1 = b ∧ u.2.1 2 = c ∧ (∀ a1 b1 c1, 0 ≤ a1 → 0 ≤ b1 → 0 ≤ c1 → a1 + b1 + c1 < z → ¬ lvsP (rowsS S M sc mk ms mp 3).1 a1 b1 c1 (x - sumZ mp ms (-1) M)) ∧ ∀ a1 b1 c1, 0 ≤ a1 → 0 ≤ b1 → 0 ≤ c1 → a1 + b1 + c1 = z → (a1 < a ∨ a1 = a ∧ b1 < b) → ¬ lvsP (rowsS S M sc mk ms mp 3).1 a1 b1 c1 (x - sumZ mp ms (-1) M)))) ∧ (∀ j : Int, (-1) ≤ u.1 j ∧ u.1 j ≤ 99) ∧ (∀ j : Int, 0 ≤ u.2.1 j ∧ u.2.1 j ≤ 8) ∧ (∀ j : Int, 0 ≤ u.2.2.1 j ∧ u.2.2.1 j ≤ 99) ∧ (∀ j : Int, (-1) ≤ u.2.2.2 j ∧ u.2.2.2 j ≤ 2)) (fun (u : (Int → Int) × (Int → Int) × (Int → Int) × (Int → Int)) => [wE cy e u.1 u.2.1, wI cy q S M sk u.2.2.1 mk ms u.2.2.2]) := by
  refine CTi.of RX1 cX1_find 5 rfl (by decide) rfl (fun z u hz => rfl) (Nat.le_of_ble_eq_true rfl) ?_
  intro p_ e_ s_ m_ ar_ be_ me_ c_ Q_ A_ ls_ F_ K_ W_ hl hret
  have hl : lv_has ls_ 5 [(0, .ref (e 0)), (1, .ref (q 0)), (2, .int (zi x))] := hl
  obtain ⟨H_, hH_⟩ : ∃ x, x = s_.heap := ⟨_, rfl⟩
  obtain ⟨lo_, hlo_⟩ : ∃ x : List Loc, x = [] := ⟨_, rfl⟩
  have W_ : WD D A_ s_.heap ([wE cy e fk fm, wI cy q S M sk sc mk ms mp]) H_ lo_ := by rw [hH_, hlo_]; exact W_
  rw [← hlo_]
  suffices hg_ : W p_ l_ e_ rX1_find s_ m_ ar_ be_ me_ c_ H_ lo_ 0 0 Q_ (F0 m_ 0 ls_ []) by rw [hH_] at hg_; exact hg_
  clear hH_ hlo_
  refine lv_iload_n F_.1 F_.2.1 dX1_find_0 rfl (lv_at hl 2 rfl) ?_
  refine lv_aload_n F_.1 F_.2.1 dX1_find_1 rfl (lv_at hl 1 rfl) ?_
  refine z_iconst F_ dX1_find_2 ?_
  refine z_callVip F_ K_ W_ [.int (zi (-1))] (c_X4_skillsAt l_ D cy q S M sk sc mk ms mp (-1) (by omega) (by omega) bsk bsc bmk bms bmp (by first | omega | assumption)) 1 rfl gX1_find_X4_skillsAt rfl (by decide +kernel) ⟨⟨Nat.le_of_ble_eq_true rfl, Nat.le_of_ble_eq_true rfl⟩, rfl, rfl, Nat.zero_le _, Nat.zero_le _⟩ 0 0 4 rfl rfl rfl rfl hl.1 rfl (Nat.le_of_ble_eq_true rfl) [1] [0] [wE cy e fk fm] 2 (by decide +kernel) rfl rfl rfl dX1_find_3 (fun z_1 _ H_ lo_ hw_ W_ => ?_)
  replace hw_ : (z_1 = sumZ mp ms (-1) M) := hw_
  have f3_v := hw_
  clear hw_
  have f3_v := f3_v.symm
  subst f3_v
  have hsb := sumZ_b mp ms (-1) (m := M) (by omega) (b := 9) (fun j => bms j)
  refine z_isub F_ dX1_find_6 ?_
  refine lv_istore_n (lv' := [(3, .int (zi (x - (sumZ mp ms (-1) M)))), (0, .ref (e 0)), (1, .ref (q 0)), (2, .int (zi x))]) F_.1 F_.2.1 dX1_find_7 rfl hl (by decide) rfl (fun ls_ hl => ?_)
  refine z_iconst F_ dX1_find_8 ?_
  refine lv_istore (lv' := [(4, .int (zi 0)), (3, .int (zi (x - (sumZ mp ms (-1) M)))), (0, .ref (e 0)), (1, .ref (q 0)), (2, .int (zi x))]) F_.1 F_.2.1 dX1_find_9 hl (by decide) rfl (fun ls_ hl => ?_)
  have L11 : ∀ (n_ : Nat) (h : Int) (f : Int → Int) (c : Int → Int) (p : Int → Int) (bf : ∀ j : Int, (-1) ≤ f j ∧ f j ≤ 99) (bc : ∀ j : Int, 0 ≤ c j ∧ c j ≤ 99) (bp : ∀ j : Int, (-1) ≤ p j ∧ p j ≤ 2) (hh : 0 ≤ h ∧ h ≤ 3) (hf : ∀ j, 0 ≤ j → j < 9 * h → f j = (rowsS S M sc mk ms mp h).1 j) (hc : c = (rowsS S M sc mk ms mp h).2.1) (hp : p = (rowsS S M sc mk ms mp h).2.2) (hm_ : (3 - h : Int) < (n_ : Int)) (ls_ : Array Slot) (H_ : Heap) (lo_ : List Loc), WD D A_ s_.heap ([wE cy e f fm, wI cy q S M sk c mk ms p]) H_ lo_ → lv_has ls_ 5 [(4, .int (zi h)), (3, .int (zi (x - (sumZ mp ms (-1) M)))), (0, .ref (e 0)), (1, .ref (q 0)), (2, .int (zi x))] → W p_ l_ e_ rX1_find s_ m_ ar_ be_ me_ c_ H_ lo_ 0 0 Q_ (F0 m_ 11 ls_ []) := by
    intro n_
    induction n_ with
    | zero =>
      intro h f c p bf bc bp hh hf hc hp hm_ ls_ H_ lo_ _ _
      exact absurd hm_ (by omega)
    | succ n_ ih_ =>
      intro h f c p bf bc bp hh hf hc hp hm_ ls_ H_ lo_ W_ hl
      have ih11 := ih_
      refine lv_iload F_.1 F_.2.1 dX1_find_11 (lv_at hl 0 rfl) ?_
      refine z_iconst F_ dX1_find_13 ?_
      refine z_icmp_ge (tgt := 30) F_ (by omega) dX1_find_14 (by decide) (fun c14 => ?_) (fun c14 => ?_)
      · have hL : ∀ a1 b1 c1, (0 ≤ a1 ∧ a1 ≤ 8 ∧ 0 ≤ b1 ∧ b1 ≤ 8 ∧ 0 ≤ c1 ∧ c1 ≤ 8) → (lvsP f a1 b1 c1 (x - sumZ mp ms (-1) M) ↔ lvsP (rowsS S M sc mk ms mp 3).1 a1 b1 c1 (x - sumZ mp ms (-1) M)) := by
          intro a1 b1 c1 q
          have e3 : h = 3 := by omega
          unfold lvsP
          rw [hf a1 (by omega) (by omega), hf (9 + b1) (by omega) (by omega), hf (18 + c1) (by omega) (by omega), e3]
        refine z_iconst F_ dX1_find_30 ?_
        refine lv_istore (lv' := [(4, .int (zi 0)), (3, .int (zi (x - (sumZ mp ms (-1) M)))), (0, .ref (e 0)), (1, .ref (q 0)), (2, .int (zi x))]) F_.1 F_.2.1 dX1_find_31 hl (by decide) rfl (fun ls_ hl => ?_)
        have L33 : ∀ (n_ : Nat) (t : Int) (m2 : Int → Int) (bm2 : ∀ j : Int, 0 ≤ m2 j ∧ m2 j ≤ 8) (ht : 0 ≤ t ∧ t ≤ 9) (hn : ∀ a1 b1 c1, 0 ≤ a1 → 0 ≤ b1 → 0 ≤ c1 → a1 + b1 + c1 < t → ¬ lvsP (rowsS S M sc mk ms mp 3).1 a1 b1 c1 (x - sumZ mp ms (-1) M)) (hm_ : (9 - t : Int) < (n_ : Int)) (ls_ : Array Slot) (H_ : Heap) (lo_ : List Loc), WD D A_ s_.heap ([wE cy e f m2, wI cy q S M sk c mk ms p]) H_ lo_ → lv_has ls_ 5 [(4, .int (zi t)), (3, .int (zi (x - (sumZ mp ms (-1) M)))), (0, .ref (e 0)), (1, .ref (q 0)), (2, .int (zi x))] → W p_ l_ e_ rX1_find s_ m_ ar_ be_ me_ c_ H_ lo_ 0 0 Q_ (F0 m_ 33 ls_ []) := by
          intro n_
          induction n_ with
          | zero =>
            intro t m2 bm2 ht hn hm_ ls_ H_ lo_ _ _
            exact absurd hm_ (by omega)
          | succ n_ ih_ =>
            intro t m2 bm2 ht hn hm_ ls_ H_ lo_ W_ hl
            have ih33 := ih_
            refine lv_iload F_.1 F_.2.1 dX1_find_33 (lv_at hl 0 rfl) ?_
            refine z_bipush F_ (by decide) dX1_find_35 ?_
            refine z_icmp_gt (tgt := 59) F_ (by omega) dX1_find_37 (by decide) (fun c37 => ?_) (fun c37 => ?_)
            · refine z_bipush F_ (by decide) dX1_find_59 ?_
              exact hret _ _ _ _ (-6) (f, m2, c, p) dX1_find_61 ⟨(by exact Or.inl ⟨rfl, fun a1 b1 c1 h1 h2 h3 h4 => hn a1 b1 c1 h1 h2 h3 (by omega)⟩), bf, bm2, bc, bp⟩ W_
            · refine lv_aload_n F_.1 F_.2.1 dX1_find_40 rfl (lv_at hl 2 rfl) ?_
              refine lv_iload F_.1 F_.2.1 dX1_find_41 (lv_at hl 0 rfl) ?_
              refine lv_iload_n F_.1 F_.2.1 dX1_find_43 rfl (lv_at hl 1 rfl) ?_
              refine z_callVi F_ K_ W_ [.int (zi t), .int (zi (x - (sumZ mp ms (-1) M)))] (c_X1_findWith l_ D cy e f m2 t (x - (sumZ mp ms (-1) M)) bf bm2 (by first | omega | assumption) (by first | omega | assumption) (by first | omega | assumption) (by first | omega | assumption)) 2 rfl gX1_find_X1_findWith rfl (by decide +kernel) ⟨⟨Nat.le_of_ble_eq_true rfl, Nat.le_of_ble_eq_true rfl⟩, rfl, rfl, Nat.zero_le _, Nat.zero_le _⟩ 0 0 1 rfl rfl rfl rfl hl.1 rfl (Nat.le_of_ble_eq_true rfl) [0] [1] [wI cy q S M sk c mk ms p] (fun (u_ : (Int → Int)) => [wE cy e f u_, wI cy q S M sk c mk ms p]) 2 (by decide +kernel) rfl rfl rfl (fun _ => rfl) (fun _ => rfl) (fun _ => rfl) dX1_find_44 (fun z_2 u_ H_ lo_ hw_ W_ => ?_)
              obtain ⟨fm2_3, rfl⟩ : ∃ x, x = u_ := ⟨_, rfl⟩
              have W_ : WD D A_ s_.heap ([wE cy e f fm2_3, wI cy q S M sk c mk ms p]) H_ lo_ := W_
              replace hw_ : ((z_2 = 1 ∧ (∃ a b, 0 ≤ a ∧ 0 ≤ b ∧ a + b ≤ t ∧ lvsP f a b (t - a - b) (x - (sumZ mp ms (-1) M)) ∧ fm2_3 0 = a ∧ fm2_3 1 = b ∧ fm2_3 2 = t - a - b ∧ ∀ a1 b1, 0 ≤ a1 → 0 ≤ b1 → a1 + b1 ≤ t → (a1 < a ∨ a1 = a ∧ b1 < b) → ¬ lvsP f a1 b1 (t - a1 - b1) (x - (sumZ mp ms (-1) M)))) ∨ (z_2 = 0 ∧ (∀ a1 b1, 0 ≤ a1 → 0 ≤ b1 → a1 + b1 ≤ t → ¬ lvsP f a1 b1 (t - a1 - b1) (x - (sumZ mp ms (-1) M))))) ∧ (∀ j : Int, 0 ≤ fm2_3 j ∧ fm2_3 j ≤ 8) := hw_
              obtain ⟨f44_v, f44_B_E_fm⟩ := hw_
              refine z_if_eq (tgt := 53) F_ (by omega) dX1_find_47 (by decide) (fun c47 => ?_) (fun c47 => ?_)
              · refine z_iinc (lv' := [(4, .int (zi (t + 1))), (3, .int (zi (x - (sumZ mp ms (-1) M)))), (0, .ref (e 0)), (1, .ref (q 0)), (2, .int (zi x))]) F_ dX1_find_53 hl (k := 0) rfl (by decide) rfl (fun ls_ hl => ?_)
                refine z_goto (tgt := 33) F_ dX1_find_56 (by decide) ?_
                exact ih33 (t + 1) fm2_3 f44_B_E_fm (by first | omega | assumption) (by intro a1 b1 c1 h1 h2 h3 h4; rcases Int.lt_or_eq_of_le (show a1 + b1 + c1 ≤ t by omega) with q | q; exact hn a1 b1 c1 h1 h2 h3 q; (intro w; exact f44_v.elim (fun y => absurd y.1 (by omega)) (fun y => y.2 a1 b1 h1 h2 (by omega) (hL a1 b1 (t - a1 - b1) (by omega) |>.mpr (by rw [show t - a1 - b1 = c1 by omega]; exact w))))) (by omega) ls_ H_ lo_ W_ (lv_sub hl [0, 1, 2, 3, 4] rfl)
              · refine lv_iload F_.1 F_.2.1 dX1_find_50 (lv_at hl 0 rfl) ?_
                exact hret _ _ _ _ t (f, fm2_3, c, p) dX1_find_52 ⟨(by refine Or.inr ⟨by omega, ?_⟩; rcases f44_v with w | w; (obtain ⟨-, a, b, h1, h2, h3, h4, h5, h6, h7, h8⟩ := w; exact ⟨a, b, t - a - b, h1, h2, by omega, by omega, (hL a b (t - a - b) (by omega)).mp h4, h5, h6, h7, hn, fun a1 b1 c1 g1 g2 g3 g4 g5 g6 => h8 a1 b1 g1 g2 (by omega) g5 ((hL a1 b1 (t - a1 - b1) (by omega)).mpr (by rw [show t - a1 - b1 = c1 by omega]; exact g6))⟩); (exact absurd w.1 (by omega))), bf, f44_B_E_fm, bc, bp⟩ W_
        exact L33 ((9 - 0 : Int).toNat + 1) 0 fm bfm (by first | omega | assumption) (by intro a1 b1 c1 h1 h2 h3; omega) (by have := Int.self_le_toNat (9 - 0 : Int); omega) ls_ H_ lo_ W_ (lv_sub hl [0, 1, 2, 3, 4] rfl)
      · refine lv_aload_n F_.1 F_.2.1 dX1_find_17 rfl (lv_at hl 2 rfl) ?_
        refine lv_aload_n F_.1 F_.2.1 dX1_find_18 rfl (lv_at hl 3 rfl) ?_
        refine lv_iload F_.1 F_.2.1 dX1_find_19 (lv_at hl 0 rfl) ?_
        refine z_callVv F_ K_ W_ [.ref (q 0), .int (zi h)] (c_X1_fillRow l_ D cy e f fm q S M sk c mk ms p h bf bfm (by omega) (by omega) bsk bc bmk bms bp (by first | omega | assumption) (by first | omega | assumption)) 2 rfl gX1_find_X1_fillRow rfl (by decide +kernel) ⟨⟨Nat.le_of_ble_eq_true rfl, Nat.le_of_ble_eq_true rfl⟩, rfl, rfl, Nat.zero_le _, Nat.zero_le _⟩ 0 0 1 rfl rfl rfl rfl hl.1 rfl (Nat.le_of_ble_eq_true rfl) [0, 1] ([] : List Nat) ([] : List va_W) (fun (u_ : (Int → Int) × (Int → Int) × (Int → Int)) => [wE cy e u_.1 fm, wI cy q S M sk u_.2.1 mk ms u_.2.2]) 2 (by decide +kernel) rfl rfl rfl (fun _ => rfl) (fun _ => rfl) (fun _ => rfl) dX1_find_21 (fun u_ H_ lo_ hw_ W_ => ?_)
        obtain ⟨fk2_5, sc2_6, mp2_7⟩ := u_
        have W_ : WD D A_ s_.heap ([wE cy e fk2_5 fm, wI cy q S M sk sc2_6 mk ms mp2_7]) H_ lo_ := W_
        replace hw_ : (∀ j, fk2_5 j = if 9 * h ≤ j ∧ j < 9 * h + 9 then (rowI S M c mk ms p h (j - 9 * h)).1 else f j) ∧ (sc2_6 = (rowI S M c mk ms p h 9).2.1) ∧ (mp2_7 = (rowI S M c mk ms p h 9).2.2) ∧ (∀ j : Int, (-1) ≤ fk2_5 j ∧ fk2_5 j ≤ 99) ∧ (∀ j : Int, 0 ≤ sc2_6 j ∧ sc2_6 j ≤ 99) ∧ (∀ j : Int, (-1) ≤ mp2_7 j ∧ mp2_7 j ≤ 2) := hw_
        obtain ⟨f21_k, f21_c, f21_p, f21_B_E_fk, f21_B_I_sc, f21_B_I_mp⟩ := hw_
        refine z_iinc (lv' := [(4, .int (zi (h + 1))), (3, .int (zi (x - (sumZ mp ms (-1) M)))), (0, .ref (e 0)), (1, .ref (q 0)), (2, .int (zi x))]) F_ dX1_find_24 hl (k := 0) rfl (by decide) rfl (fun ls_ hl => ?_)
        refine z_goto (tgt := 11) F_ dX1_find_27 (by decide) ?_
        exact ih11 (h + 1) fk2_5 sc2_6 mp2_7 f21_B_E_fk f21_B_I_sc f21_B_I_mp (by first | omega | assumption) (by intro j h1 h2; rw [f21_k, rowsS_s _ _ _ _ _ _ hh.1, ← hc, ← hp]; show _ = if 9 * h ≤ j ∧ j < 9 * h + 9 then _ else _; by_cases q : 9 * h ≤ j ∧ j < 9 * h + 9; (rw [if_pos q, if_pos q]); (rw [if_neg q, if_neg q]; exact hf j h1 (by omega))) (by rw [f21_c, rowsS_s _ _ _ _ _ _ hh.1, ← hc, ← hp]) (by rw [f21_p, rowsS_s _ _ _ _ _ _ hh.1, ← hc, ← hp]) (by omega) ls_ H_ lo_ W_ (lv_sub hl [0, 1, 2, 3, 4] rfl)
  exact L11 ((3 - 0 : Int).toNat + 1) 0 fk sc mp bfk bsc bmp (by first | omega | assumption) (by intro j h1 h2; omega) (by rfl) (by rfl) (by have := Int.self_le_toNat (3 - 0 : Int); omega) ls_ H_ lo_ W_ (lv_sub hl [0, 1, 2, 3, 4] rfl)
