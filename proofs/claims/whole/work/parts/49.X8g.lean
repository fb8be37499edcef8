def ckZ (c : Int) : Int := if 97 ≤ c ∧ c ≤ 122 then 1 else if 48 ≤ c ∧ c ≤ 57 then 2 else if c = 59 then 3 else if c = 32 then 4 else 5
theorem ck_f (c : Int) : (1 ≤ ckZ c ∧ ckZ c ≤ 5) ∧ (ckZ c = 1 ↔ 97 ≤ c ∧ c ≤ 122) ∧ (ckZ c = 2 ↔ 48 ≤ c ∧ c ≤ 57) ∧ (ckZ c = 3 ↔ c = 59) ∧ (ckZ c = 4 ↔ c = 32) := by
  unfold ckZ
  split
  · omega
  · split
    · omega
    · split
      · omega
      · split <;> omega
def kkP (k c : Int) : Prop := (k = 1 ↔ ckZ c = 1) ∧ (k = 2 ↔ ckZ c = 2) ∧ (k = 3 ↔ ckZ c = 3)
def RunR (yb : Int → Int) (bl a e : Int) : Prop := a < e ∧ e ≤ bl ∧ (∀ j, a ≤ j → j < e → ckZ (yb j) = ckZ (yb a)) ∧ (e < bl → ckZ (yb e) ≠ ckZ (yb a))
def valZ (yb : Int → Int) (a e : Int) : Int := if e - a = 1 then yb a - 48 else 10 * (yb a - 48) + yb (a + 1) - 48
/-- the token behind s: its kind (0 none, 1 word, 2 number, 3 semicolon, 5 none of these), where it begins and ends, its number -/
def TokR (yb : Int → Int) (bl s t a e v : Int) : Prop := (s ≤ a ∧ a ≤ bl ∧ (∀ j, s ≤ j → j < a → yb j = 32) ∧ (a < bl → yb a ≠ 32)) ∧ ((a = bl ∧ t = 0 ∧ e = a) ∨ (a < bl ∧ 3 ≤ ckZ (yb a) ∧ t = ckZ (yb a) ∧ e = a + 1) ∨ (a < bl ∧ ckZ (yb a) ≤ 2 ∧ RunR yb bl a e ∧ t = (if ckZ (yb a) = 2 ∧ 2 < e - a then 5 else ckZ (yb a)))) ∧ (t = 2 → v = valZ yb a e)
theorem RunR_u {yb : Int → Int} {bl a e e' : Int} (h : RunR yb bl a e) (h' : RunR yb bl a e') : e = e' := by
  by_cases q : e < e'
  · exact absurd (h'.2.2.1 e (by have := h.1; omega) q) (h.2.2.2 (by have := h'.2.1; omega))
  · by_cases w : e' < e
    · exact absurd (h.2.2.1 e' (by have := h'.1; omega) w) (h'.2.2.2 (by have := h.2.1; omega))
    · omega
theorem TokR_u {yb : Int → Int} {bl s t a e v t' a' e' v' : Int} (h : TokR yb bl s t a e v) (h' : TokR yb bl s t' a' e' v') : t = t' ∧ a = a' ∧ e = e' ∧ (t = 2 → v = v') := by
  obtain ⟨⟨h1, h2, h3, h4⟩, h5, h6⟩ := h
  obtain ⟨⟨g1, g2, g3, g4⟩, g5, g6⟩ := h'
  have ea : a = a' := by
    by_cases q : a < a'
    · exact absurd (g3 a h1 q) (h4 (by omega))
    · by_cases w : a' < a
      · exact absurd (h3 a' g1 w) (g4 (by omega))
      · omega
  subst ea
  have ee : e = e' := by
    rcases h5 with q | q | q <;> rcases g5 with w | w | w
    · omega
    · omega
    · omega
    · omega
    · omega
    · omega
    · omega
    · omega
    · exact RunR_u q.2.2.1 w.2.2.1
  subst ee
  have et : t = t' := by
    rcases h5 with q | q | q <;> rcases g5 with w | w | w
    · omega
    · omega
    · omega
    · omega
    · omega
    · omega
    · omega
    · omega
    · rw [q.2.2.2, w.2.2.2]
  subst et
  exact ⟨rfl, rfl, rfl, fun q => by rw [h6 q, g6 q]⟩
noncomputable def isP (P : Prop) : Int := @ite Int P (Classical.propDecidable P) 1 0
theorem isP_1 {P : Prop} (h : P) : isP P = 1 := @if_pos P (Classical.propDecidable P) h Int 1 0
theorem isP_0 {P : Prop} (h : ¬ P) : ¬ isP P = 1 := by
  unfold isP
  rw [@if_neg P (Classical.propDecidable P) h Int 1 0]
  decide
noncomputable def tkF (yb : Int → Int) (bl s : Int) : Int × Int × Int × Int := Classical.epsilon (fun q : Int × Int × Int × Int => TokR yb bl s q.1 q.2.1 q.2.2.1 q.2.2.2)
noncomputable def tK (yb : Int → Int) (bl s : Int) : Int := (tkF yb bl s).1
noncomputable def tA (yb : Int → Int) (bl s : Int) : Int := (tkF yb bl s).2.1
noncomputable def tE (yb : Int → Int) (bl s : Int) : Int := (tkF yb bl s).2.2.1
noncomputable def tV (yb : Int → Int) (bl s : Int) : Int := (tkF yb bl s).2.2.2
theorem tk_f {yb : Int → Int} {bl s t a e v : Int} (h : TokR yb bl s t a e v) : tK yb bl s = t ∧ tA yb bl s = a ∧ tE yb bl s = e ∧ (t = 2 → tV yb bl s = v) := by
  have hx : ∃ q : Int × Int × Int × Int, TokR yb bl s q.1 q.2.1 q.2.2.1 q.2.2.2 := ⟨(t, a, e, v), h⟩
  have hc := Classical.epsilon_spec hx
  unfold tK tA tE tV tkF
  obtain ⟨q1, q2, q3, q4⟩ := TokR_u hc h
  exact ⟨q1, q2, q3, fun w => q4 (q1.trans w)⟩
/-- what a reader at s holds of the token behind s -/
def TS (yb : Int → Int) (bl s tk ta tl vl : Int) : Prop := TokR yb bl s (if tk = 4 then 5 else tk) ta (ta + tl) vl ∧ (0 ≤ tl ∧ 0 ≤ tk ∧ tk ≤ 4 ∧ 0 ≤ vl ∧ vl ≤ 99)
theorem TS_f {yb : Int → Int} {bl s tk ta tl vl : Int} (h : TS yb bl s tk ta tl vl) : tK yb bl s = (if tk = 4 then 5 else tk) ∧ tA yb bl s = ta ∧ tE yb bl s = ta + tl ∧ (tk = 2 → tV yb bl s = vl) ∧ (s ≤ ta ∧ 0 ≤ tl ∧ ta + tl ≤ bl ∧ 0 ≤ tk ∧ tk ≤ 4 ∧ 0 ≤ vl ∧ vl ≤ 99 ∧ (tk ≠ 0 → 0 < tl)) := by
  obtain ⟨hr, hb⟩ := h
  obtain ⟨q1, q2, q3, q4⟩ := tk_f hr
  refine ⟨q1, q2, q3, fun w => q4 (by rw [w]; rfl), ?_⟩
  obtain ⟨⟨h1, h2, h3, h4⟩, h5, h6⟩ := hr
  rcases h5 with q | q | q
  · refine ⟨h1, hb.1, by omega, hb.2.1, hb.2.2.1, hb.2.2.2.1, hb.2.2.2.2, ?_⟩
    have := q.2.1
    split at this <;> omega
  · refine ⟨h1, hb.1, by omega, hb.2.1, hb.2.2.1, hb.2.2.2.1, hb.2.2.2.2, by omega⟩
  · have r1 := q.2.2.1.1
    have r2 := q.2.2.1.2.1
    exact ⟨h1, hb.1, r2, hb.2.1, hb.2.2.1, hb.2.2.2.1, hb.2.2.2.2, by omega⟩
theorem TS_0 {yb : Int → Int} {bl s a : Int} (h1 : s ≤ a) (h2 : a = bl) (h3 : ∀ j, s ≤ j → j < a → yb j = 32) : TS yb bl s 0 a 0 0 :=
  ⟨⟨⟨h1, by omega, h3, fun q => by omega⟩, Or.inl ⟨h2, rfl, by omega⟩, fun q => absurd q (by decide)⟩, by omega⟩
theorem TS_e {yb : Int → Int} {bl s a tl k v tk : Int} (hs : s ≤ a ∧ a < bl) (hsp : ∀ j, s ≤ j → j < a → yb j = 32) (hn : yb a ≠ 32) (hk0 : (1 ≤ k ∧ k ≤ 4) ∧ kkP k (yb a)) (htl : 1 ≤ tl ∧ a + tl ≤ bl) (hrun : ∀ j, a ≤ j → j < a + tl → ckZ (yb j) = ckZ (yb a)) (hfin : (3 ≤ k ∧ tl = 1) ∨ (k < 3 ∧ (a + tl < bl → ckZ (yb (a + tl)) ≠ ckZ (yb a)))) (hv : k = 2 → tl ≤ 2 → v = valZ yb a (a + tl)) (hvb : 0 ≤ v ∧ v ≤ 99) (htk : (k = 2 ∧ 2 < tl ∧ tk = 4) ∨ (¬ (k = 2 ∧ 2 < tl) ∧ tk = k)) : TS yb bl s tk a tl v := by
  have hc := ck_f (yb a)
  have hk : (1 ≤ k ∧ k ≤ 4) ∧ (k = 1 ↔ ckZ (yb a) = 1) ∧ (k = 2 ↔ ckZ (yb a) = 2) ∧ (k = 3 ↔ ckZ (yb a) = 3) := hk0
  refine ⟨⟨⟨hs.1, by omega, hsp, fun _ => hn⟩, Or.inr ?_, ?_⟩, by omega⟩
  · rcases hfin with q | q
    · refine Or.inl ⟨hs.2, by omega, ?_, by omega⟩
      split <;> omega
    · refine Or.inr ⟨hs.2, by omega, ⟨by omega, htl.2, hrun, q.2⟩, ?_⟩
      split <;> split <;> omega
  · intro q
    split at q
    · omega
    · exact hv (by omega) (by omega)
def cwZ (c0 c1 c2 c3 c4 c5 : Int) : Int → Int := fun j => if j = 0 then c0 else if j = 1 then c1 else if j = 2 then c2 else if j = 3 then c3 else if j = 4 then c4 else c5
def wdP (yb : Int → Int) (tk ta tl n : Int) (c : Int → Int) : Prop := tk = 1 ∧ tl = n ∧ ∀ j, 0 ≤ j → j < n → yb (ta + j) = c j
abbrev nmP (yb : Int → Int) (bl lo hi s : Int) : Prop := tK yb bl s = 2 ∧ lo ≤ tV yb bl s ∧ tV yb bl s ≤ hi
def shpR (g : Int → Int) (v : Int) : Int → Int := zu (zu g (17 + g 1) v) 1 (g 1 + 1)
noncomputable def shpI (yb : Int → Int) (bl s : Int) (g : Int → Int) : Int × Int × (Int → Int) := if g 1 = 3 then (0, tA yb bl s, g) else if nmP yb bl 0 5 (tE yb bl s) then (1, tE yb bl (tE yb bl s), shpR g (tV yb bl (tE yb bl s))) else (0, tA yb bl (tE yb bl s), g)
noncomputable def manI (yb : Int → Int) (bl s : Int) (g : Int → Int) : Int × Int × (Int → Int) := if g 0 = 8 then (0, tA yb bl s, g) else if nmP yb bl 0 5 (tE yb bl s) then (if nmP yb bl 1 9 (tE yb bl (tE yb bl s)) then (if tK yb bl (tE yb bl (tE yb bl (tE yb bl s))) = 2 ∧ (tV yb bl (tE yb bl (tE yb bl (tE yb bl s))) = 9 ∨ tV yb bl (tE yb bl (tE yb bl (tE yb bl s))) < g 1) then (1, tE yb bl (tE yb bl (tE yb bl (tE yb bl s))), layG g (tV yb bl (tE yb bl s)) (tV yb bl (tE yb bl (tE yb bl s))) (if tV yb bl (tE yb bl (tE yb bl (tE yb bl s))) = 9 then 0 else tV yb bl (tE yb bl (tE yb bl (tE yb bl s))) + 1)) else (0, tA yb bl (tE yb bl (tE yb bl (tE yb bl s))), g)) else (0, tA yb bl (tE yb bl (tE yb bl s)), g)) else (0, tA yb bl (tE yb bl s), g)
noncomputable def calI (yb : Int → Int) (bl s : Int) (g : Int → Int) : Int × Int × (Int → Int) := if nmP yb bl 0 (g 1 - 1) (tE yb bl s) ∧ ¬ cntG g (tV yb bl (tE yb bl s) + 1) = 0 then (1, tE yb bl (tE yb bl s), goG g (tV yb bl (tE yb bl s)) (lstG g (tV yb bl (tE yb bl s)))) else (0, tA yb bl (tE yb bl s), g)
noncomputable def brdI (yb : Int → Int) (bl s : Int) (g : Int → Int) : Int × Int × (Int → Int) := if nmP yb bl 0 (g 1 - 1) (tE yb bl s) then (if nmP yb bl 0 (g 0 - 1) (tE yb bl (tE yb bl s)) ∧ g (6 + tV yb bl (tE yb bl (tE yb bl s))) = 0 then (1, tE yb bl (tE yb bl (tE yb bl s)), zu g (6 + tV yb bl (tE yb bl (tE yb bl s))) (tV yb bl (tE yb bl s) + 1)) else (0, tA yb bl (tE yb bl (tE yb bl s)), g)) else (0, tA yb bl (tE yb bl s), g)
abbrev wdS (yb : Int → Int) (bl s n : Int) (c : Int → Int) : Prop := wdP yb (tK yb bl s) (tA yb bl s) (tE yb bl s - tA yb bl s) n c
noncomputable def itmN (yb : Int → Int) (bl s : Int) (g : Int → Int) : Int × Int × (Int → Int) := if isP (wdS yb bl s 4 (cwZ 115 104 105 112 0 0)) = 1 then shpI yb bl s g else if isP (wdS yb bl s 3 (cwZ 109 97 110 0 0 0)) = 1 then manI yb bl s g else if isP (wdS yb bl s 4 (cwZ 99 97 108 108 0 0)) = 1 then calI yb bl s g else if isP (wdS yb bl s 5 (cwZ 98 111 97 114 100 0)) = 1 then brdI yb bl s g else (0, tA yb bl s, g)
noncomputable def itm0 (yb : Int → Int) (bl s : Int) (g : Int → Int) : Int × Int × (Int → Int) := if isP (wdS yb bl s 6 (cwZ 105 115 108 97 110 100)) = 1 then (1, tE yb bl s, g) else (0, tA yb bl s, g)
noncomputable def clsF (yb : Int → Int) (bl : Int) (r : Int × Int × (Int → Int)) : Int × Int × (Int → Int) := if r.1 = 1 then (if tK yb bl r.2.1 = 3 then (1, tE yb bl r.2.1, r.2.2) else (0, tA yb bl r.2.1, r.2.2)) else r
noncomputable def itmF (yb : Int → Int) (bl s k : Int) (g : Int → Int) : Int × Int × (Int → Int) := clsF yb bl (if k = 0 then itm0 yb bl s g else itmN yb bl s g)
noncomputable def rdF (yb : Int → Int) (bl : Int) : Nat → Int → Int → (Int → Int) → Int × (Int → Int)
  | 0, _, _, g => (-10, g)
  | n + 1, s, k, g => if tK yb bl s = 0 ∧ 0 < k then (k, g) else if (itmF yb bl s k g).1 = 1 then rdF yb bl n (itmF yb bl s k g).2.1 (k + 1) (itmF yb bl s k g).2.2 else (-10 - (itmF yb bl s k g).2.1, g)
noncomputable def rdK (yb : Int → Int) (bl s k : Int) (g : Int → Int) : Int × (Int → Int) := rdF yb bl (151 - k).toNat s k g
theorem rdK_s (yb : Int → Int) (bl s : Int) {k : Int} (g : Int → Int) (h : 0 ≤ k ∧ k ≤ 150) : rdK yb bl s k g = if tK yb bl s = 0 ∧ 0 < k then (k, g) else if (itmF yb bl s k g).1 = 1 then rdK yb bl (itmF yb bl s k g).2.1 (k + 1) (itmF yb bl s k g).2.2 else (-10 - (itmF yb bl s k g).2.1, g) := by
  unfold rdK
  rw [show (151 - k).toNat = (151 - (k + 1)).toNat + 1 by omega]
  rfl

abbrev rX8_isSmall : Room := { frames := 1, cells := 0, slots := 0, locals := 25 }
set_option maxHeartbeats 1000000 in
set_option maxRecDepth 100000 in
theorem c_X8_isSmall (l_ : Launch) (D : va_G) (cy : Nat → ClassId) (c : Int) (rc : -2147483648 ≤ c ∧ c < 2147483648) : CTi l_ D cy yX8_isSmall wsX8_isSmall rX8_isSmall [.int (zi c)] (([] : List va_W)) (fun (z : Int) (u : Unit) => ((z = 1 ∧ (97 ≤ c ∧ c ≤ 122)) ∨ (z = 0 ∧ ¬ (97 ≤ c ∧ c ≤ 122)))) (fun (_ : Unit) => ([] : List va_W)) := by
  refine CTi.of RX8 cX8_isSmall 1 rfl (by decide) rfl (fun z u hz => z_bl hz) (Nat.le_of_ble_eq_true rfl) ?_
  intro p_ e_ s_ m_ ar_ be_ me_ c_ Q_ A_ ls_ F_ K_ W_ hl hret
  have hl : lv_has ls_ 1 [(0, .int (zi c))] := hl
  obtain ⟨H_, hH_⟩ : ∃ x, x = s_.heap := ⟨_, rfl⟩
  obtain ⟨lo_, hlo_⟩ : ∃ x : List Loc, x = [] := ⟨_, rfl⟩
  have W_ : WD D A_ s_.heap (([] : List va_W)) H_ lo_ := by rw [hH_, hlo_]; exact W_
  rw [← hlo_]
  suffices hg_ : W p_ l_ e_ rX8_isSmall s_ m_ ar_ be_ me_ c_ H_ lo_ 0 0 Q_ (F0 m_ 0 ls_ []) by rw [hH_] at hg_; exact hg_
  clear hH_ hlo_
  refine lv_iload_n F_.1 F_.2.1 dX8_isSmall_0 rfl (lv_at hl 0 rfl) ?_
  refine z_i2l F_ (by omega) dX8_isSmall_1 ?_
  refine z_ldc2 (z := 97) F_ (F_.2.2.2.2 _ (List.mem_of_getElem? (i := 1) rfl)) rfl dX8_isSmall_2 ?_
  refine z_ldc2 (z := 122) F_ (F_.2.2.2.2 _ (List.mem_of_getElem? (i := 2) rfl)) rfl dX8_isSmall_5 ?_
  refine z_callSip F_ K_ W_ [.long (zl c), .long (zl 97), .long (zl 122)] (c_X8_in l_ D cy c 97 122 (by first | omega | assumption)) 3 rfl gX8_isSmall_X8_in rfl (by decide +kernel) ⟨⟨Nat.le_of_ble_eq_true rfl, Nat.le_of_ble_eq_true rfl⟩, rfl, rfl, Nat.zero_le _, Nat.zero_le _⟩ hl.1 rfl (Nat.le_of_ble_eq_true rfl) ([] : List Nat) ([] : List Nat) ([] : List va_W) 0 (by decide +kernel) rfl rfl rfl dX8_isSmall_8 (fun z_1 _ H_ lo_ hw_ W_ => ?_)
  replace hw_ : ((z_1 = 1 ∧ (97 ≤ c ∧ c ≤ 122)) ∨ (z_1 = 0 ∧ ¬ (97 ≤ c ∧ c ≤ 122))) := hw_
  have f8_v := hw_
  clear hw_
  exact hret _ _ _ _ z_1 () dX8_isSmall_11 (by first | omega | assumption) W_
abbrev rX8_isFigure : Room := { frames := 1, cells := 0, slots := 0, locals := 25 }
set_option maxHeartbeats 1000000 in
set_option maxRecDepth 100000 in
theorem c_X8_isFigure (l_ : Launch) (D : va_G) (cy : Nat → ClassId) (c : Int) (rc : -2147483648 ≤ c ∧ c < 2147483648) : CTi l_ D cy yX8_isFigure wsX8_isFigure rX8_isFigure [.int (zi c)] (([] : List va_W)) (fun (z : Int) (u : Unit) => ((z = 1 ∧ (48 ≤ c ∧ c ≤ 57)) ∨ (z = 0 ∧ ¬ (48 ≤ c ∧ c ≤ 57)))) (fun (_ : Unit) => ([] : List va_W)) := by
  refine CTi.of RX8 cX8_isFigure 1 rfl (by decide) rfl (fun z u hz => z_bl hz) (Nat.le_of_ble_eq_true rfl) ?_
  intro p_ e_ s_ m_ ar_ be_ me_ c_ Q_ A_ ls_ F_ K_ W_ hl hret
  have hl : lv_has ls_ 1 [(0, .int (zi c))] := hl
  obtain ⟨H_, hH_⟩ : ∃ x, x = s_.heap := ⟨_, rfl⟩
  obtain ⟨lo_, hlo_⟩ : ∃ x : List Loc, x = [] := ⟨_, rfl⟩
  have W_ : WD D A_ s_.heap (([] : List va_W)) H_ lo_ := by rw [hH_, hlo_]; exact W_
  rw [← hlo_]
  suffices hg_ : W p_ l_ e_ rX8_isFigure s_ m_ ar_ be_ me_ c_ H_ lo_ 0 0 Q_ (F0 m_ 0 ls_ []) by rw [hH_] at hg_; exact hg_
  clear hH_ hlo_
  refine lv_iload_n F_.1 F_.2.1 dX8_isFigure_0 rfl (lv_at hl 0 rfl) ?_
  refine z_i2l F_ (by omega) dX8_isFigure_1 ?_
  refine z_ldc2 (z := 48) F_ (F_.2.2.2.2 _ (List.mem_of_getElem? (i := 1) rfl)) rfl dX8_isFigure_2 ?_
  refine z_ldc2 (z := 57) F_ (F_.2.2.2.2 _ (List.mem_of_getElem? (i := 2) rfl)) rfl dX8_isFigure_5 ?_
  refine z_callSip F_ K_ W_ [.long (zl c), .long (zl 48), .long (zl 57)] (c_X8_in l_ D cy c 48 57 (by first | omega | assumption)) 3 rfl gX8_isFigure_X8_in rfl (by decide +kernel) ⟨⟨Nat.le_of_ble_eq_true rfl, Nat.le_of_ble_eq_true rfl⟩, rfl, rfl, Nat.zero_le _, Nat.zero_le _⟩ hl.1 rfl (Nat.le_of_ble_eq_true rfl) ([] : List Nat) ([] : List Nat) ([] : List va_W) 0 (by decide +kernel) rfl rfl rfl dX8_isFigure_8 (fun z_1 _ H_ lo_ hw_ W_ => ?_)
  replace hw_ : ((z_1 = 1 ∧ (48 ≤ c ∧ c ≤ 57)) ∨ (z_1 = 0 ∧ ¬ (48 ≤ c ∧ c ≤ 57))) := hw_
  have f8_v := hw_
  clear hw_
  exact hret _ _ _ _ z_1 () dX8_isFigure_11 (by first | omega | assumption) W_
abbrev rX8_lookAt : Room := { frames := 2, cells := 0, slots := 0, locals := 45 }
set_option maxHeartbeats 1000000 in
set_option maxRecDepth 100000 in
theorem c_X8_lookAt (l_ : Launch) (D : va_G) (cy : Nat → ClassId) (o : Nat → Nat) (ab : Int) (be : Int) (bl : Int) (ta : Int) (tl : Int) (tk : Int) (vl : Int) (yb : Int → Int) (s : Int) (byb : ∀ j : Int, 0 ≤ yb j ∧ yb j ≤ 127) (rs : -2147483648 ≤ s ∧ s < 2147483648) (hbl : 0 ≤ bl ∧ bl ≤ 150) (hs : 0 ≤ s ∧ s ≤ bl) : CTv l_ D cy yX8_lookAt wsX8_lookAt rX8_lookAt [.ref (o 0), .int (zi s)] ([wO cy o ab be bl ta tl tk vl, wB cy (o 10) yb]) (fun (u : (Int) × (Int) × (Int) × (Int)) => (TS yb bl s u.2.2.1 u.1 u.2.1 u.2.2.2)) (fun (u : (Int) × (Int) × (Int) × (Int)) => [wO cy o ab be bl u.1 u.2.1 u.2.2.1 u.2.2.2, wB cy (o 10) yb]) := by
  refine CTv.of RX8 cX8_lookAt 5 rfl (by decide) rfl (Nat.le_of_ble_eq_true rfl) ?_
  intro p_ e_ s_ m_ ar_ be_ me_ c_ Q_ A_ ls_ F_ K_ W_ hl hret
  have hl : lv_has ls_ 5 [(0, .ref (o 0)), (1, .int (zi s))] := hl
  obtain ⟨H_, hH_⟩ : ∃ x, x = s_.heap := ⟨_, rfl⟩
  obtain ⟨lo_, hlo_⟩ : ∃ x : List Loc, x = [] := ⟨_, rfl⟩
  have W_ : WD D A_ s_.heap ([wO cy o ab be bl ta tl tk vl, wB cy (o 10) yb]) H_ lo_ := by rw [hH_, hlo_]; exact W_
  rw [← hlo_]
  suffices hg_ : W p_ l_ e_ rX8_lookAt s_ m_ ar_ be_ me_ c_ H_ lo_ 0 0 Q_ (F0 m_ 0 ls_ []) by rw [hH_] at hg_; exact hg_
  clear hH_ hlo_
  have hinX8 : ∀ w ∈ u_ws RX8 TX8 19, w ∈ wsX8_lookAt := fun w h => List.mem_cons_of_mem _ (List.mem_append_right _ h)
  refine lv_aload_n F_.1 F_.2.1 dX8_lookAt_0 rfl (lv_at hl 0 rfl) ?_
  refine lv_iload_n F_.1 F_.2.1 dX8_lookAt_1 rfl (lv_at hl 1 rfl) ?_
  refine z_put (sg' := [wO cy o ab be bl s tl tk vl, wB cy (o 10) yb]) F_ K_ W_ 0 0 13 rfl rfl rfl (C := RX8) (T := TX8) (N := 19) rfl ⟨Nat.le_of_ble_eq_true rfl, Nat.le_of_ble_eq_true rfl⟩ tyX8 tyX8_ok nmX8 rfl rfl rfl hinX8 (List.mem_of_getElem? (i := 1) rfl) dX8_lookAt_2 (fun H_ lo_ W_ => ?_)
  have L5 : ∀ (n_ : Nat) (a : Int) (ha : s ≤ a ∧ a ≤ bl) (hsp : ∀ j, s ≤ j → j < a → yb j = 32) (hm_ : (bl - a : Int) < (n_ : Int)) (ls_ : Array Slot) (H_ : Heap) (lo_ : List Loc), WD D A_ s_.heap ([wO cy o ab be bl a tl tk vl, wB cy (o 10) yb]) H_ lo_ → lv_has ls_ 5 [(0, .ref (o 0)), (1, .int (zi s))] → W p_ l_ e_ rX8_lookAt s_ m_ ar_ be_ me_ c_ H_ lo_ 0 0 Q_ (F0 m_ 5 ls_ []) := by
    intro n_
    induction n_ with
    | zero =>
      intro a ha hsp hm_ ls_ H_ lo_ _ _
      exact absurd hm_ (by omega)
    | succ n_ ih_ =>
      intro a ha hsp hm_ ls_ H_ lo_ W_ hl
      have ih5 := ih_
      refine lv_aload_n F_.1 F_.2.1 dX8_lookAt_5 rfl (lv_at hl 0 rfl) ?_
      refine z_get F_ K_ W_ 0 0 13 rfl rfl rfl (C := RX8) (T := TX8) (N := 19) rfl (by decide) hinX8 (List.mem_of_getElem? (i := 1) rfl) dX8_lookAt_6 ?_
      refine lv_aload_n F_.1 F_.2.1 dX8_lookAt_9 rfl (lv_at hl 0 rfl) ?_
      refine z_get F_ K_ W_ 0 0 12 rfl rfl rfl (C := RX8) (T := TX8) (N := 19) rfl (by decide) hinX8 (List.mem_of_getElem? (i := 2) rfl) dX8_lookAt_10 ?_
      have J43 : ∀ (g43 : ((bl ≤ a)) ∨ ((a < bl) ∧ (¬ yb a = 32))) (ls_ : Array Slot) (H_ : Heap) (lo_ : List Loc), WD D A_ s_.heap ([wO cy o ab be bl a tl tk vl, wB cy (o 10) yb]) H_ lo_ → lv_has ls_ 5 [(0, .ref (o 0)), (1, .int (zi s))] → W p_ l_ e_ rX8_lookAt s_ m_ ar_ be_ me_ c_ H_ lo_ 0 0 Q_ (F0 m_ 43 ls_ []) := by
        intro g43 ls_ H_ lo_ W_ hl
        refine lv_aload_n F_.1 F_.2.1 dX8_lookAt_43 rfl (lv_at hl 0 rfl) ?_
        refine z_iconst F_ dX8_lookAt_44 ?_
        refine z_put (sg' := [wO cy o ab be bl a 0 tk vl, wB cy (o 10) yb]) F_ K_ W_ 0 0 14 rfl rfl rfl (C := RX8) (T := TX8) (N := 19) rfl ⟨Nat.le_of_ble_eq_true rfl, Nat.le_of_ble_eq_true rfl⟩ tyX8 tyX8_ok nmX8 rfl rfl rfl hinX8 (List.mem_of_getElem? (i := 4) rfl) dX8_lookAt_45 (fun H_ lo_ W_ => ?_)
        refine lv_aload_n F_.1 F_.2.1 dX8_lookAt_48 rfl (lv_at hl 0 rfl) ?_
        refine z_iconst F_ dX8_lookAt_49 ?_
        refine z_put (sg' := [wO cy o ab be bl a 0 0 vl, wB cy (o 10) yb]) F_ K_ W_ 0 0 15 rfl rfl rfl (C := RX8) (T := TX8) (N := 19) rfl ⟨Nat.le_of_ble_eq_true rfl, Nat.le_of_ble_eq_true rfl⟩ tyX8 tyX8_ok nmX8 rfl rfl rfl hinX8 (List.mem_of_getElem? (i := 5) rfl) dX8_lookAt_50 (fun H_ lo_ W_ => ?_)
        refine lv_aload_n F_.1 F_.2.1 dX8_lookAt_53 rfl (lv_at hl 0 rfl) ?_
        refine z_iconst F_ dX8_lookAt_54 ?_
        refine z_put (sg' := [wO cy o ab be bl a 0 0 0, wB cy (o 10) yb]) F_ K_ W_ 0 0 16 rfl rfl rfl (C := RX8) (T := TX8) (N := 19) rfl ⟨Nat.le_of_ble_eq_true rfl, Nat.le_of_ble_eq_true rfl⟩ tyX8 tyX8_ok nmX8 rfl rfl rfl hinX8 (List.mem_of_getElem? (i := 6) rfl) dX8_lookAt_55 (fun H_ lo_ W_ => ?_)
        refine lv_aload_n F_.1 F_.2.1 dX8_lookAt_58 rfl (lv_at hl 0 rfl) ?_
        refine z_get F_ K_ W_ 0 0 13 rfl rfl rfl (C := RX8) (T := TX8) (N := 19) rfl (by decide) hinX8 (List.mem_of_getElem? (i := 1) rfl) dX8_lookAt_59 ?_
        refine lv_aload_n F_.1 F_.2.1 dX8_lookAt_62 rfl (lv_at hl 0 rfl) ?_
        refine z_get F_ K_ W_ 0 0 12 rfl rfl rfl (C := RX8) (T := TX8) (N := 19) rfl (by decide) hinX8 (List.mem_of_getElem? (i := 2) rfl) dX8_lookAt_63 ?_
        refine z_icmp_ne (tgt := 70) F_ (by omega) dX8_lookAt_66 (by decide) (fun c66 => ?_) (fun c66 => ?_)
        · refine lv_aload_n F_.1 F_.2.1 dX8_lookAt_70 rfl (lv_at hl 0 rfl) ?_
          refine z_get F_ K_ W_ 0 0 11 rfl rfl rfl (C := RX8) (T := TX8) (N := 19) rfl (by decide) hinX8 (List.mem_of_getElem? (i := 3) rfl) dX8_lookAt_71 ?_
          refine lv_aload_n F_.1 F_.2.1 dX8_lookAt_74 rfl (lv_at hl 0 rfl) ?_
          refine z_get F_ K_ W_ 0 0 13 rfl rfl rfl (C := RX8) (T := TX8) (N := 19) rfl (by decide) hinX8 (List.mem_of_getElem? (i := 1) rfl) dX8_lookAt_75 ?_
          refine z_iald F_ K_ W_ 1 0 rfl rfl (by omega) (by decide) dX8_lookAt_78 ?_
          have b_1 := byb a
          refine lv_istore_n (lv' := [(2, .int (zi (yb a))), (0, .ref (o 0)), (1, .int (zi s))]) F_.1 F_.2.1 dX8_lookAt_79 rfl hl (by decide) rfl (fun ls_ hl => ?_)
          have hck := ck_f (yb a)
          refine lv_aload_n F_.1 F_.2.1 dX8_lookAt_80 rfl (lv_at hl 1 rfl) ?_
          refine lv_iload_n F_.1 F_.2.1 dX8_lookAt_81 rfl (lv_at hl 0 rfl) ?_
          refine z_callSip F_ K_ W_ [.int (zi (yb a))] (c_X8_isSmall l_ D cy (yb a) (by first | omega | assumption)) 1 rfl gX8_lookAt_X8_isSmall rfl (by decide +kernel) ⟨⟨Nat.le_of_ble_eq_true rfl, Nat.le_of_ble_eq_true rfl⟩, rfl, rfl, Nat.zero_le _, Nat.zero_le _⟩ hl.1 rfl (Nat.le_of_ble_eq_true rfl) ([] : List Nat) [0, 1] [wO cy o ab be bl a 0 0 0, wB cy (o 10) yb] 2 (by decide +kernel) rfl rfl rfl dX8_lookAt_82 (fun z_2 _ H_ lo_ hw_ W_ => ?_)
          replace hw_ : ((z_2 = 1 ∧ (97 ≤ (yb a) ∧ (yb a) ≤ 122)) ∨ (z_2 = 0 ∧ ¬ (97 ≤ (yb a) ∧ (yb a) ≤ 122))) := hw_
          have f82_v := hw_
          clear hw_
          have J114 : ∀ (k114 : Int) (hk : (1 ≤ k114 ∧ k114 ≤ 4) ∧ kkP k114 (yb a)) (ls_ : Array Slot) (H_ : Heap) (lo_ : List Loc), WD D A_ s_.heap ([wO cy o ab be bl a 0 0 0, wB cy (o 10) yb]) H_ lo_ → lv_has ls_ 5 [(2, .int (zi (yb a))), (0, .ref (o 0)), (1, .int (zi s))] → W p_ l_ e_ rX8_lookAt s_ m_ ar_ be_ me_ c_ H_ lo_ 0 0 Q_ (F0 m_ 114 ls_ [.int (zi k114), .ref (o 0)]) := by
            intro k114 hk ls_ H_ lo_ W_ hl
            clear hck
            refine z_put (sg' := [wO cy o ab be bl a 0 k114 0, wB cy (o 10) yb]) F_ K_ W_ 0 0 15 rfl rfl rfl (C := RX8) (T := TX8) (N := 19) rfl ⟨Nat.le_of_ble_eq_true rfl, Nat.le_of_ble_eq_true rfl⟩ tyX8 tyX8_ok nmX8 rfl rfl rfl hinX8 (List.mem_of_getElem? (i := 5) rfl) dX8_lookAt_114 (fun H_ lo_ W_ => ?_)
            refine lv_aload_n F_.1 F_.2.1 dX8_lookAt_117 rfl (lv_at hl 1 rfl) ?_
            refine z_iconst F_ dX8_lookAt_118 ?_
            refine z_put (sg' := [wO cy o ab be bl a 1 k114 0, wB cy (o 10) yb]) F_ K_ W_ 0 0 14 rfl rfl rfl (C := RX8) (T := TX8) (N := 19) rfl ⟨Nat.le_of_ble_eq_true rfl, Nat.le_of_ble_eq_true rfl⟩ tyX8 tyX8_ok nmX8 rfl rfl rfl hinX8 (List.mem_of_getElem? (i := 4) rfl) dX8_lookAt_119 (fun H_ lo_ W_ => ?_)
            refine lv_aload_n F_.1 F_.2.1 dX8_lookAt_122 rfl (lv_at hl 1 rfl) ?_
            refine z_get F_ K_ W_ 0 0 15 rfl rfl rfl (C := RX8) (T := TX8) (N := 19) rfl (by decide) hinX8 (List.mem_of_getElem? (i := 5) rfl) dX8_lookAt_123 ?_
            refine z_iconst F_ dX8_lookAt_126 ?_
            have J135 : ∀ (k135 : Int) (g135 : (k135 = 1 ∧ k114 < 3) ∨ (k135 = 0 ∧ 3 ≤ k114)) (ls_ : Array Slot) (H_ : Heap) (lo_ : List Loc), WD D A_ s_.heap ([wO cy o ab be bl a 1 k114 0, wB cy (o 10) yb]) H_ lo_ → lv_has ls_ 5 [(2, .int (zi (yb a))), (0, .ref (o 0)), (1, .int (zi s))] → W p_ l_ e_ rX8_lookAt s_ m_ ar_ be_ me_ c_ H_ lo_ 0 0 Q_ (F0 m_ 135 ls_ [.int (zi k135)]) := by
              intro k135 g135 ls_ H_ lo_ W_ hl
              refine lv_istore_n (lv' := [(3, .int (zi k135)), (2, .int (zi (yb a))), (0, .ref (o 0)), (1, .int (zi s))]) F_.1 F_.2.1 dX8_lookAt_135 rfl hl (by decide) rfl (fun ls_ hl => ?_)
              have L136 : ∀ (n_ : Nat) (go : Int) (n1 : Int) (hgo : go = 0 ∨ go = 1) (hn1 : 1 ≤ n1 ∧ a + n1 ≤ bl) (hrun : ∀ j, a ≤ j → j < a + n1 → ckZ (yb j) = ckZ (yb a)) (hst : (go = 1 → k114 < 3) ∧ (go = 0 → (3 ≤ k114 ∧ n1 = 1) ∨ (k114 < 3 ∧ a + n1 < bl ∧ ckZ (yb (a + n1)) ≠ ckZ (yb a)))) (hm_ : (bl - a - n1 + go : Int) < (n_ : Int)) (ls_ : Array Slot) (H_ : Heap) (lo_ : List Loc), WD D A_ s_.heap ([wO cy o ab be bl a n1 k114 0, wB cy (o 10) yb]) H_ lo_ → lv_has ls_ 5 [(3, .int (zi go)), (2, .int (zi (yb a))), (0, .ref (o 0)), (1, .int (zi s))] → W p_ l_ e_ rX8_lookAt s_ m_ ar_ be_ me_ c_ H_ lo_ 0 0 Q_ (F0 m_ 136 ls_ []) := by
                intro n_
                induction n_ with
                | zero =>
                  intro go n1 hgo hn1 hrun hst hm_ ls_ H_ lo_ _ _
                  exact absurd hm_ (by omega)
                | succ n_ ih_ =>
                  intro go n1 hgo hn1 hrun hst hm_ ls_ H_ lo_ W_ hl
                  have ih136 := ih_
                  refine lv_iload_n F_.1 F_.2.1 dX8_lookAt_136 rfl (lv_at hl 0 rfl) ?_
                  have J215 : ∀ (hfin : (3 ≤ k114 ∧ n1 = 1) ∨ (k114 < 3 ∧ (a + n1 < bl → ckZ (yb (a + n1)) ≠ ckZ (yb a)))) (ls_ : Array Slot) (H_ : Heap) (lo_ : List Loc), WD D A_ s_.heap ([wO cy o ab be bl a n1 k114 0, wB cy (o 10) yb]) H_ lo_ → lv_has ls_ 5 [(3, .int (zi go)), (2, .int (zi (yb a))), (0, .ref (o 0)), (1, .int (zi s))] → W p_ l_ e_ rX8_lookAt s_ m_ ar_ be_ me_ c_ H_ lo_ 0 0 Q_ (F0 m_ 215 ls_ []) := by
                    intro hfin ls_ H_ lo_ W_ hl
                    clear hst hgo
                    refine z_iconst F_ dX8_lookAt_215 ?_
                    refine lv_istore (lv' := [(4, .int (zi 0)), (3, .int (zi go)), (2, .int (zi (yb a))), (0, .ref (o 0)), (1, .int (zi s))]) F_.1 F_.2.1 dX8_lookAt_216 hl (by decide) rfl (fun ls_ hl => ?_)
                    have L218 : ∀ (n_ : Nat) (i : Int) (v1 : Int) (hi : 0 ≤ i ∧ i ≤ 2 ∧ i ≤ n1) (hv1 : (k114 = 2 → (i = 0 ∧ v1 = 0) ∨ (i = 1 ∧ v1 = yb a - 48) ∨ (i = 2 ∧ v1 = 10 * (yb a - 48) + yb (a + 1) - 48)) ∧ (¬ k114 = 2 → v1 = 0 ∧ i = 0)) (hvb : 0 ≤ v1 ∧ v1 ≤ 99) (hm_ : (n1 - i : Int) < (n_ : Int)) (ls_ : Array Slot) (H_ : Heap) (lo_ : List Loc), WD D A_ s_.heap ([wO cy o ab be bl a n1 k114 v1, wB cy (o 10) yb]) H_ lo_ → lv_has ls_ 5 [(4, .int (zi i)), (3, .int (zi go)), (2, .int (zi (yb a))), (0, .ref (o 0)), (1, .int (zi s))] → W p_ l_ e_ rX8_lookAt s_ m_ ar_ be_ me_ c_ H_ lo_ 0 0 Q_ (F0 m_ 218 ls_ []) := by
                      intro n_
                      induction n_ with
                      | zero =>
                        intro i v1 hi hv1 hvb hm_ ls_ H_ lo_ _ _
                        exact absurd hm_ (by omega)
                      | succ n_ ih_ =>
                        intro i v1 hi hv1 hvb hm_ ls_ H_ lo_ W_ hl
                        have ih218 := ih_
                        refine lv_iload F_.1 F_.2.1 dX8_lookAt_218 (lv_at hl 0 rfl) ?_
                        refine lv_aload_n F_.1 F_.2.1 dX8_lookAt_220 rfl (lv_at hl 3 rfl) ?_
                        refine z_get F_ K_ W_ 0 0 14 rfl rfl rfl (C := RX8) (T := TX8) (N := 19) rfl (by decide) hinX8 (List.mem_of_getElem? (i := 4) rfl) dX8_lookAt_221 ?_
                        have J274 : ∀ (g274 : ((n1 ≤ i)) ∨ ((i < n1) ∧ (2 ≤ i)) ∨ ((i < n1) ∧ (i < 2) ∧ (¬ k114 = 2))) (ls_ : Array Slot) (H_ : Heap) (lo_ : List Loc), WD D A_ s_.heap ([wO cy o ab be bl a n1 k114 v1, wB cy (o 10) yb]) H_ lo_ → lv_has ls_ 5 [(4, .int (zi i)), (3, .int (zi go)), (2, .int (zi (yb a))), (0, .ref (o 0)), (1, .int (zi s))] → W p_ l_ e_ rX8_lookAt s_ m_ ar_ be_ me_ c_ H_ lo_ 0 0 Q_ (F0 m_ 274 ls_ []) := by
                          intro g274 ls_ H_ lo_ W_ hl
                          refine lv_aload_n F_.1 F_.2.1 dX8_lookAt_274 rfl (lv_at hl 3 rfl) ?_
                          refine lv_aload_n F_.1 F_.2.1 dX8_lookAt_275 rfl (lv_at hl 3 rfl) ?_
                          refine z_get F_ K_ W_ 0 0 15 rfl rfl rfl (C := RX8) (T := TX8) (N := 19) rfl (by decide) hinX8 (List.mem_of_getElem? (i := 5) rfl) dX8_lookAt_276 ?_
                          refine z_iconst F_ dX8_lookAt_279 ?_
                          refine z_icmp_ne (tgt := 295) F_ (by omega) dX8_lookAt_280 (by decide) (fun c280 => ?_) (fun c280 => ?_)
                          · refine lv_aload_n F_.1 F_.2.1 dX8_lookAt_295 rfl (lv_at hl 3 rfl) ?_
                            refine z_get F_ K_ W_ 0 0 15 rfl rfl rfl (C := RX8) (T := TX8) (N := 19) rfl (by decide) hinX8 (List.mem_of_getElem? (i := 5) rfl) dX8_lookAt_296 ?_
                            refine z_put (sg' := [wO cy o ab be bl a n1 k114 v1, wB cy (o 10) yb]) F_ K_ W_ 0 0 15 rfl rfl rfl (C := RX8) (T := TX8) (N := 19) rfl ⟨Nat.le_of_ble_eq_true rfl, Nat.le_of_ble_eq_true rfl⟩ tyX8 tyX8_ok nmX8 rfl rfl rfl hinX8 (List.mem_of_getElem? (i := 5) rfl) dX8_lookAt_299 (fun H_ lo_ W_ => ?_)
                            exact hret _ _ _ _ (a, n1, k114, v1) dX8_lookAt_302 (by show TS yb bl s _ a n1 v1; exact TS_e ⟨ha.1, by omega⟩ hsp (by omega) hk hn1 hrun hfin (fun q1 q2 => by unfold valZ; have hv2 := hv1.1 q1; split <;> omega) hvb (by first | exact Or.inl ⟨by omega, by omega, rfl⟩ | exact Or.inr ⟨by omega, rfl⟩)) W_
                          · refine lv_aload_n F_.1 F_.2.1 dX8_lookAt_283 rfl (lv_at hl 3 rfl) ?_
                            refine z_get F_ K_ W_ 0 0 14 rfl rfl rfl (C := RX8) (T := TX8) (N := 19) rfl (by decide) hinX8 (List.mem_of_getElem? (i := 4) rfl) dX8_lookAt_284 ?_
                            refine z_iconst F_ dX8_lookAt_287 ?_
                            refine z_icmp_le (tgt := 295) F_ (by omega) dX8_lookAt_288 (by decide) (fun c288 => ?_) (fun c288 => ?_)
                            · refine lv_aload_n F_.1 F_.2.1 dX8_lookAt_295 rfl (lv_at hl 3 rfl) ?_
                              refine z_get F_ K_ W_ 0 0 15 rfl rfl rfl (C := RX8) (T := TX8) (N := 19) rfl (by decide) hinX8 (List.mem_of_getElem? (i := 5) rfl) dX8_lookAt_296 ?_
                              refine z_put (sg' := [wO cy o ab be bl a n1 k114 v1, wB cy (o 10) yb]) F_ K_ W_ 0 0 15 rfl rfl rfl (C := RX8) (T := TX8) (N := 19) rfl ⟨Nat.le_of_ble_eq_true rfl, Nat.le_of_ble_eq_true rfl⟩ tyX8 tyX8_ok nmX8 rfl rfl rfl hinX8 (List.mem_of_getElem? (i := 5) rfl) dX8_lookAt_299 (fun H_ lo_ W_ => ?_)
                              exact hret _ _ _ _ (a, n1, k114, v1) dX8_lookAt_302 (by show TS yb bl s _ a n1 v1; exact TS_e ⟨ha.1, by omega⟩ hsp (by omega) hk hn1 hrun hfin (fun q1 q2 => by unfold valZ; have hv2 := hv1.1 q1; split <;> omega) hvb (by first | exact Or.inl ⟨by omega, by omega, rfl⟩ | exact Or.inr ⟨by omega, rfl⟩)) W_
                            · refine z_iconst F_ dX8_lookAt_291 ?_
                              refine z_goto (tgt := 299) F_ dX8_lookAt_292 (by decide) ?_
                              refine z_put (sg' := [wO cy o ab be bl a n1 4 v1, wB cy (o 10) yb]) F_ K_ W_ 0 0 15 rfl rfl rfl (C := RX8) (T := TX8) (N := 19) rfl ⟨Nat.le_of_ble_eq_true rfl, Nat.le_of_ble_eq_true rfl⟩ tyX8 tyX8_ok nmX8 rfl rfl rfl hinX8 (List.mem_of_getElem? (i := 5) rfl) dX8_lookAt_299 (fun H_ lo_ W_ => ?_)
                              exact hret _ _ _ _ (a, n1, 4, v1) dX8_lookAt_302 (by show TS yb bl s _ a n1 v1; exact TS_e ⟨ha.1, by omega⟩ hsp (by omega) hk hn1 hrun hfin (fun q1 q2 => by unfold valZ; have hv2 := hv1.1 q1; split <;> omega) hvb (by first | exact Or.inl ⟨by omega, by omega, rfl⟩ | exact Or.inr ⟨by omega, rfl⟩)) W_
                        refine z_icmp_ge (tgt := 274) F_ (by omega) dX8_lookAt_224 (by decide) (fun c224 => ?_) (fun c224 => ?_)
                        · exact J274 (by first | omega | grind) ls_ H_ lo_ W_ (lv_sub hl [0, 1, 2, 3, 4] rfl)
                        · refine lv_iload F_.1 F_.2.1 dX8_lookAt_227 (lv_at hl 0 rfl) ?_
                          refine z_iconst F_ dX8_lookAt_229 ?_
                          refine z_icmp_ge (tgt := 274) F_ (by omega) dX8_lookAt_230 (by decide) (fun c230 => ?_) (fun c230 => ?_)
                          · exact J274 (by first | omega | grind) ls_ H_ lo_ W_ (lv_sub hl [0, 1, 2, 3, 4] rfl)
                          · refine lv_aload_n F_.1 F_.2.1 dX8_lookAt_233 rfl (lv_at hl 3 rfl) ?_
                            refine z_get F_ K_ W_ 0 0 15 rfl rfl rfl (C := RX8) (T := TX8) (N := 19) rfl (by decide) hinX8 (List.mem_of_getElem? (i := 5) rfl) dX8_lookAt_234 ?_
                            refine z_iconst F_ dX8_lookAt_237 ?_
                            refine z_icmp_ne (tgt := 274) F_ (by omega) dX8_lookAt_238 (by decide) (fun c238 => ?_) (fun c238 => ?_)
                            · exact J274 (by first | omega | grind) ls_ H_ lo_ W_ (lv_sub hl [0, 1, 2, 3, 4] rfl)
                            · have hdg : 48 ≤ yb (a + i) ∧ yb (a + i) ≤ 57 := (ck_f (yb (a + i))).2.2.1.mp ((hrun (a + i) (by omega) (by omega)).trans (hk.2.2.1.mp c238))
                              have hdg0 : 48 ≤ yb a ∧ yb a ≤ 57 := (ck_f (yb a)).2.2.1.mp (hk.2.2.1.mp c238)
                              refine lv_aload_n F_.1 F_.2.1 dX8_lookAt_241 rfl (lv_at hl 3 rfl) ?_
                              refine z_bipush F_ (by decide) dX8_lookAt_242 ?_
                              refine lv_aload_n F_.1 F_.2.1 dX8_lookAt_244 rfl (lv_at hl 3 rfl) ?_
                              refine z_get F_ K_ W_ 0 0 16 rfl rfl rfl (C := RX8) (T := TX8) (N := 19) rfl (by decide) hinX8 (List.mem_of_getElem? (i := 6) rfl) dX8_lookAt_245 ?_
                              refine z_imul F_ dX8_lookAt_248 ?_
                              refine lv_aload_n F_.1 F_.2.1 dX8_lookAt_249 rfl (lv_at hl 3 rfl) ?_
                              refine z_get F_ K_ W_ 0 0 11 rfl rfl rfl (C := RX8) (T := TX8) (N := 19) rfl (by decide) hinX8 (List.mem_of_getElem? (i := 3) rfl) dX8_lookAt_250 ?_
                              refine lv_aload_n F_.1 F_.2.1 dX8_lookAt_253 rfl (lv_at hl 3 rfl) ?_
                              refine z_get F_ K_ W_ 0 0 13 rfl rfl rfl (C := RX8) (T := TX8) (N := 19) rfl (by decide) hinX8 (List.mem_of_getElem? (i := 1) rfl) dX8_lookAt_254 ?_
                              refine lv_iload F_.1 F_.2.1 dX8_lookAt_257 (lv_at hl 0 rfl) ?_
                              refine z_iadd F_ dX8_lookAt_259 ?_
                              refine z_iald F_ K_ W_ 1 0 rfl rfl (by omega) (by decide) dX8_lookAt_260 ?_
                              have b_3 := byb (a + i)
                              refine z_iadd F_ dX8_lookAt_261 ?_
                              refine z_bipush F_ (by decide) dX8_lookAt_262 ?_
                              refine z_isub F_ dX8_lookAt_264 ?_
                              refine z_put (sg' := [wO cy o ab be bl a n1 k114 (((10 * v1) + (yb (a + i))) - 48), wB cy (o 10) yb]) F_ K_ W_ 0 0 16 rfl rfl rfl (C := RX8) (T := TX8) (N := 19) rfl ⟨Nat.le_of_ble_eq_true rfl, Nat.le_of_ble_eq_true rfl⟩ tyX8 tyX8_ok nmX8 rfl rfl rfl hinX8 (List.mem_of_getElem? (i := 6) rfl) dX8_lookAt_265 (fun H_ lo_ W_ => ?_)
                              refine z_iinc (lv' := [(4, .int (zi (i + 1))), (3, .int (zi go)), (2, .int (zi (yb a))), (0, .ref (o 0)), (1, .int (zi s))]) F_ dX8_lookAt_268 hl (k := 0) rfl (by decide) rfl (fun ls_ hl => ?_)
                              refine z_goto (tgt := 218) F_ dX8_lookAt_271 (by decide) ?_
                              exact ih218 (i + 1) (((10 * v1) + (yb (a + i))) - 48) (by first | omega | assumption) (by refine ⟨fun _ => ?_, fun q => by omega⟩; rcases hv1.1 c238 with q | q | q; (refine Or.inr (Or.inl ⟨by omega, ?_⟩); rw [q.1, q.2, Int.add_zero]; first | done | omega); (refine Or.inr (Or.inr ⟨by omega, ?_⟩); rw [q.1, q.2]; first | done | omega); all_goals omega) (by rcases hv1.1 c238 with q | q | q; (have e0 : a + i = a := by omega); (rw [e0]; omega); omega; omega) (by omega) ls_ H_ lo_ W_ (lv_sub hl [0, 1, 2, 3, 4] rfl)
                    exact L218 ((n1 - 0 : Int).toNat + 1) 0 0 (by first | omega | assumption) (by first | omega | assumption) (by first | omega | assumption) (by have := Int.self_le_toNat (n1 - 0 : Int); omega) ls_ H_ lo_ W_ (lv_sub hl [0, 1, 2, 3, 4] rfl)
                  refine z_if_eq (tgt := 215) F_ (by omega) dX8_lookAt_137 (by decide) (fun c137 => ?_) (fun c137 => ?_)
                  · exact J215 (by first | exact Or.inr ⟨hst.1 (by omega), fun q => by omega⟩ | exact (hst.2 (by omega)).imp id (fun q => ⟨q.1, fun _ => q.2.2⟩)) ls_ H_ lo_ W_ (lv_sub hl [0, 1, 2, 3] rfl)
                  · refine lv_aload_n F_.1 F_.2.1 dX8_lookAt_140 rfl (lv_at hl 2 rfl) ?_
                    refine z_get F_ K_ W_ 0 0 13 rfl rfl rfl (C := RX8) (T := TX8) (N := 19) rfl (by decide) hinX8 (List.mem_of_getElem? (i := 1) rfl) dX8_lookAt_141 ?_
                    refine lv_aload_n F_.1 F_.2.1 dX8_lookAt_144 rfl (lv_at hl 2 rfl) ?_
                    refine z_get F_ K_ W_ 0 0 14 rfl rfl rfl (C := RX8) (T := TX8) (N := 19) rfl (by decide) hinX8 (List.mem_of_getElem? (i := 4) rfl) dX8_lookAt_145 ?_
                    refine z_iadd F_ dX8_lookAt_148 ?_
                    refine lv_aload_n F_.1 F_.2.1 dX8_lookAt_149 rfl (lv_at hl 2 rfl) ?_
                    refine z_get F_ K_ W_ 0 0 12 rfl rfl rfl (C := RX8) (T := TX8) (N := 19) rfl (by decide) hinX8 (List.mem_of_getElem? (i := 2) rfl) dX8_lookAt_150 ?_
                    refine z_icmp_ge (tgt := 215) F_ (by omega) dX8_lookAt_153 (by decide) (fun c153 => ?_) (fun c153 => ?_)
                    · exact J215 (by first | exact Or.inr ⟨hst.1 (by omega), fun q => by omega⟩ | exact (hst.2 (by omega)).imp id (fun q => ⟨q.1, fun _ => q.2.2⟩)) ls_ H_ lo_ W_ (lv_sub hl [0, 1, 2, 3] rfl)
                    · refine lv_aload_n F_.1 F_.2.1 dX8_lookAt_156 rfl (lv_at hl 2 rfl) ?_
                      refine z_get F_ K_ W_ 0 0 11 rfl rfl rfl (C := RX8) (T := TX8) (N := 19) rfl (by decide) hinX8 (List.mem_of_getElem? (i := 3) rfl) dX8_lookAt_157 ?_
                      refine lv_aload_n F_.1 F_.2.1 dX8_lookAt_160 rfl (lv_at hl 2 rfl) ?_
                      refine z_get F_ K_ W_ 0 0 13 rfl rfl rfl (C := RX8) (T := TX8) (N := 19) rfl (by decide) hinX8 (List.mem_of_getElem? (i := 1) rfl) dX8_lookAt_161 ?_
                      refine lv_aload_n F_.1 F_.2.1 dX8_lookAt_164 rfl (lv_at hl 2 rfl) ?_
                      refine z_get F_ K_ W_ 0 0 14 rfl rfl rfl (C := RX8) (T := TX8) (N := 19) rfl (by decide) hinX8 (List.mem_of_getElem? (i := 4) rfl) dX8_lookAt_165 ?_
                      refine z_iadd F_ dX8_lookAt_168 ?_
                      refine z_iald F_ K_ W_ 1 0 rfl rfl (by omega) (by decide) dX8_lookAt_169 ?_
                      have b_4 := byb (a + n1)
                      refine lv_istore (lv' := [(4, .int (zi (yb (a + n1)))), (3, .int (zi go)), (2, .int (zi (yb a))), (0, .ref (o 0)), (1, .int (zi s))]) F_.1 F_.2.1 dX8_lookAt_170 hl (by decide) rfl (fun ls_ hl => ?_)
                      have hck1 := ck_f (yb (a + n1))
                      have hck1a := ck_f (yb a)
                      have hkx := hk.2
                      unfold kkP at hkx
                      refine lv_aload_n F_.1 F_.2.1 dX8_lookAt_172 rfl (lv_at hl 3 rfl) ?_
                      refine z_get F_ K_ W_ 0 0 15 rfl rfl rfl (C := RX8) (T := TX8) (N := 19) rfl (by decide) hinX8 (List.mem_of_getElem? (i := 5) rfl) dX8_lookAt_173 ?_
                      refine z_iconst F_ dX8_lookAt_176 ?_
                      have J193 : ∀ (k193 : Int) (g193 : (k193 = 1 ∧ ckZ (yb (a + n1)) = ckZ (yb a)) ∨ (k193 = 0 ∧ ckZ (yb (a + n1)) ≠ ckZ (yb a))) (ls_ : Array Slot) (H_ : Heap) (lo_ : List Loc), WD D A_ s_.heap ([wO cy o ab be bl a n1 k114 0, wB cy (o 10) yb]) H_ lo_ → lv_has ls_ 5 [(4, .int (zi (yb (a + n1)))), (3, .int (zi go)), (2, .int (zi (yb a))), (0, .ref (o 0)), (1, .int (zi s))] → W p_ l_ e_ rX8_lookAt s_ m_ ar_ be_ me_ c_ H_ lo_ 0 0 Q_ (F0 m_ 193 ls_ [.int (zi k193)]) := by
                        intro k193 g193 ls_ H_ lo_ W_ hl
                        clear hck1 hck1a hkx
                        refine lv_istore_n (lv' := [(3, .int (zi k193)), (4, .int (zi (yb (a + n1)))), (2, .int (zi (yb a))), (0, .ref (o 0)), (1, .int (zi s))]) F_.1 F_.2.1 dX8_lookAt_193 rfl hl (by decide) rfl (fun ls_ hl => ?_)
                        refine lv_aload_n F_.1 F_.2.1 dX8_lookAt_194 rfl (lv_at hl 3 rfl) ?_
                        refine lv_dup F_.1 F_.2.1 dX8_lookAt_195 rfl ?_
                        refine z_get F_ K_ W_ 0 0 14 rfl rfl rfl (C := RX8) (T := TX8) (N := 19) rfl (by decide) hinX8 (List.mem_of_getElem? (i := 4) rfl) dX8_lookAt_196 ?_
                        refine lv_iload_n F_.1 F_.2.1 dX8_lookAt_199 rfl (lv_at hl 0 rfl) ?_
                        refine z_if_eq (tgt := 207) F_ (by omega) dX8_lookAt_200 (by decide) (fun c200 => ?_) (fun c200 => ?_)
                        · refine z_iconst F_ dX8_lookAt_207 ?_
                          refine z_iadd F_ dX8_lookAt_208 ?_
                          refine z_put (sg' := [wO cy o ab be bl a (n1 + 0) k114 0, wB cy (o 10) yb]) F_ K_ W_ 0 0 14 rfl rfl rfl (C := RX8) (T := TX8) (N := 19) rfl ⟨Nat.le_of_ble_eq_true rfl, Nat.le_of_ble_eq_true rfl⟩ tyX8 tyX8_ok nmX8 rfl rfl rfl hinX8 (List.mem_of_getElem? (i := 4) rfl) dX8_lookAt_209 (fun H_ lo_ W_ => ?_)
                          refine z_goto (tgt := 136) F_ dX8_lookAt_212 (by decide) ?_
                          exact ih136 k193 (n1 + 0) (by first | omega | assumption) (by first | omega | assumption) (by intro j q1 q2; first | exact hrun j q1 (by omega) | (rcases Int.lt_or_eq_of_le (show j ≤ a + n1 by omega) with q | q; exact hrun j q1 (by omega); (rw [q]; exact (g193.resolve_right (fun w_ => by omega)).2))) (by first | omega | exact ⟨fun q => by omega, fun q => Or.inr ⟨by omega, by omega, by rw [Int.add_zero]; exact (g193.resolve_left (fun w_ => by omega)).2⟩⟩) (by omega) ls_ H_ lo_ W_ (lv_sub hl [0, 2, 3, 4] rfl)
                        · refine z_iconst F_ dX8_lookAt_203 ?_
                          refine z_goto (tgt := 208) F_ dX8_lookAt_204 (by decide) ?_
                          refine z_iadd F_ dX8_lookAt_208 ?_
                          refine z_put (sg' := [wO cy o ab be bl a (n1 + 1) k114 0, wB cy (o 10) yb]) F_ K_ W_ 0 0 14 rfl rfl rfl (C := RX8) (T := TX8) (N := 19) rfl ⟨Nat.le_of_ble_eq_true rfl, Nat.le_of_ble_eq_true rfl⟩ tyX8 tyX8_ok nmX8 rfl rfl rfl hinX8 (List.mem_of_getElem? (i := 4) rfl) dX8_lookAt_209 (fun H_ lo_ W_ => ?_)
                          refine z_goto (tgt := 136) F_ dX8_lookAt_212 (by decide) ?_
                          exact ih136 k193 (n1 + 1) (by first | omega | assumption) (by first | omega | assumption) (by intro j q1 q2; first | exact hrun j q1 (by omega) | (rcases Int.lt_or_eq_of_le (show j ≤ a + n1 by omega) with q | q; exact hrun j q1 (by omega); (rw [q]; exact (g193.resolve_right (fun w_ => by omega)).2))) (by first | omega | exact ⟨fun q => by omega, fun q => Or.inr ⟨by omega, by omega, by rw [Int.add_zero]; exact (g193.resolve_left (fun w_ => by omega)).2⟩⟩) (by omega) ls_ H_ lo_ W_ (lv_sub hl [0, 2, 3, 4] rfl)
                      refine z_icmp_ne (tgt := 188) F_ (by omega) dX8_lookAt_177 (by decide) (fun c177 => ?_) (fun c177 => ?_)
                      · refine lv_iload F_.1 F_.2.1 dX8_lookAt_188 (lv_at hl 0 rfl) ?_
                        refine z_callSip F_ K_ W_ [.int (zi (yb (a + n1)))] (c_X8_isFigure l_ D cy (yb (a + n1)) (by first | omega | assumption)) 1 rfl gX8_lookAt_X8_isFigure rfl (by decide +kernel) ⟨⟨Nat.le_of_ble_eq_true rfl, Nat.le_of_ble_eq_true rfl⟩, rfl, rfl, Nat.zero_le _, Nat.zero_le _⟩ hl.1 rfl (Nat.le_of_ble_eq_true rfl) ([] : List Nat) [0, 1] [wO cy o ab be bl a n1 k114 0, wB cy (o 10) yb] 2 (by decide +kernel) rfl rfl rfl dX8_lookAt_190 (fun z_5 _ H_ lo_ hw_ W_ => ?_)
                        replace hw_ : ((z_5 = 1 ∧ (48 ≤ (yb (a + n1)) ∧ (yb (a + n1)) ≤ 57)) ∨ (z_5 = 0 ∧ ¬ (48 ≤ (yb (a + n1)) ∧ (yb (a + n1)) ≤ 57))) := hw_
                        have f190_v := hw_
                        clear hw_
                        exact J193 z_5 (by first | omega | assumption) ls_ H_ lo_ W_ (lv_sub hl [0, 1, 2, 3, 4] rfl)
                      · refine lv_iload F_.1 F_.2.1 dX8_lookAt_180 (lv_at hl 0 rfl) ?_
                        refine z_callSip F_ K_ W_ [.int (zi (yb (a + n1)))] (c_X8_isSmall l_ D cy (yb (a + n1)) (by first | omega | assumption)) 1 rfl gX8_lookAt_X8_isSmall rfl (by decide +kernel) ⟨⟨Nat.le_of_ble_eq_true rfl, Nat.le_of_ble_eq_true rfl⟩, rfl, rfl, Nat.zero_le _, Nat.zero_le _⟩ hl.1 rfl (Nat.le_of_ble_eq_true rfl) ([] : List Nat) [0, 1] [wO cy o ab be bl a n1 k114 0, wB cy (o 10) yb] 2 (by decide +kernel) rfl rfl rfl dX8_lookAt_182 (fun z_6 _ H_ lo_ hw_ W_ => ?_)
                        replace hw_ : ((z_6 = 1 ∧ (97 ≤ (yb (a + n1)) ∧ (yb (a + n1)) ≤ 122)) ∨ (z_6 = 0 ∧ ¬ (97 ≤ (yb (a + n1)) ∧ (yb (a + n1)) ≤ 122))) := hw_
                        have f182_v := hw_
                        clear hw_
                        refine z_goto (tgt := 193) F_ dX8_lookAt_185 (by decide) ?_
                        exact J193 z_6 (by first | omega | assumption) ls_ H_ lo_ W_ (lv_sub hl [0, 1, 2, 3, 4] rfl)
              exact L136 ((bl - a - 1 + k135 : Int).toNat + 1) k135 1 (by first | omega | assumption) (by first | omega | assumption) (by intro j q1 q2; rw [show j = a by omega]) (by first | omega | assumption) (by have := Int.self_le_toNat (bl - a - 1 + k135 : Int); omega) ls_ H_ lo_ W_ (lv_sub hl [0, 1, 2, 3] rfl)
            refine z_icmp_ge (tgt := 134) F_ (by omega) dX8_lookAt_127 (by decide) (fun c127 => ?_) (fun c127 => ?_)
            · refine z_iconst F_ dX8_lookAt_134 ?_
              exact J135 0 (by first | omega | assumption) ls_ H_ lo_ W_ (lv_sub hl [0, 1, 2] rfl)
            · refine z_iconst F_ dX8_lookAt_130 ?_
              refine z_goto (tgt := 135) F_ dX8_lookAt_131 (by decide) ?_
              exact J135 1 (by first | omega | assumption) ls_ H_ lo_ W_ (lv_sub hl [0, 1, 2] rfl)
          refine z_if_eq (tgt := 92) F_ (by omega) dX8_lookAt_85 (by decide) (fun c85 => ?_) (fun c85 => ?_)
          · refine lv_iload_n F_.1 F_.2.1 dX8_lookAt_92 rfl (lv_at hl 0 rfl) ?_
            refine z_callSip F_ K_ W_ [.int (zi (yb a))] (c_X8_isFigure l_ D cy (yb a) (by first | omega | assumption)) 1 rfl gX8_lookAt_X8_isFigure rfl (by decide +kernel) ⟨⟨Nat.le_of_ble_eq_true rfl, Nat.le_of_ble_eq_true rfl⟩, rfl, rfl, Nat.zero_le _, Nat.zero_le _⟩ hl.1 rfl (Nat.le_of_ble_eq_true rfl) ([] : List Nat) [0, 1] [wO cy o ab be bl a 0 0 0, wB cy (o 10) yb] 2 (by decide +kernel) rfl rfl rfl dX8_lookAt_93 (fun z_7 _ H_ lo_ hw_ W_ => ?_)
            replace hw_ : ((z_7 = 1 ∧ (48 ≤ (yb a) ∧ (yb a) ≤ 57)) ∨ (z_7 = 0 ∧ ¬ (48 ≤ (yb a) ∧ (yb a) ≤ 57))) := hw_
            have f93_v := hw_
            clear hw_
            refine z_if_eq (tgt := 103) F_ (by omega) dX8_lookAt_96 (by decide) (fun c96 => ?_) (fun c96 => ?_)
            · refine lv_iload_n F_.1 F_.2.1 dX8_lookAt_103 rfl (lv_at hl 0 rfl) ?_
              refine z_bipush F_ (by decide) dX8_lookAt_104 ?_
              refine z_icmp_ne (tgt := 113) F_ (by omega) dX8_lookAt_106 (by decide) (fun c106 => ?_) (fun c106 => ?_)
              · refine z_iconst F_ dX8_lookAt_113 ?_
                exact J114 4 (by refine ⟨by omega, ?_⟩; unfold kkP; omega) ls_ H_ lo_ W_ (lv_sub hl [0, 1, 2] rfl)
              · refine z_iconst F_ dX8_lookAt_109 ?_
                refine z_goto (tgt := 114) F_ dX8_lookAt_110 (by decide) ?_
                exact J114 3 (by refine ⟨by omega, ?_⟩; unfold kkP; omega) ls_ H_ lo_ W_ (lv_sub hl [0, 1, 2] rfl)
            · refine z_iconst F_ dX8_lookAt_99 ?_
              refine z_goto (tgt := 114) F_ dX8_lookAt_100 (by decide) ?_
              exact J114 2 (by refine ⟨by omega, ?_⟩; unfold kkP; omega) ls_ H_ lo_ W_ (lv_sub hl [0, 1, 2] rfl)
          · refine z_iconst F_ dX8_lookAt_88 ?_
            refine z_goto (tgt := 114) F_ dX8_lookAt_89 (by decide) ?_
            exact J114 1 (by refine ⟨by omega, ?_⟩; unfold kkP; omega) ls_ H_ lo_ W_ (lv_sub hl [0, 1, 2] rfl)
        · exact hret _ _ _ _ (a, 0, 0, 0) dX8_lookAt_69 (by show TS yb bl s 0 a 0 0; exact TS_0 ha.1 (by omega) hsp) W_
      refine z_icmp_ge (tgt := 43) F_ (by omega) dX8_lookAt_13 (by decide) (fun c13 => ?_) (fun c13 => ?_)
      · exact J43 (by first | omega | grind) ls_ H_ lo_ W_ (lv_sub hl [0, 1] rfl)
      · refine lv_aload_n F_.1 F_.2.1 dX8_lookAt_16 rfl (lv_at hl 0 rfl) ?_
        refine z_get F_ K_ W_ 0 0 11 rfl rfl rfl (C := RX8) (T := TX8) (N := 19) rfl (by decide) hinX8 (List.mem_of_getElem? (i := 3) rfl) dX8_lookAt_17 ?_
        refine lv_aload_n F_.1 F_.2.1 dX8_lookAt_20 rfl (lv_at hl 0 rfl) ?_
        refine z_get F_ K_ W_ 0 0 13 rfl rfl rfl (C := RX8) (T := TX8) (N := 19) rfl (by decide) hinX8 (List.mem_of_getElem? (i := 1) rfl) dX8_lookAt_21 ?_
        refine z_iald F_ K_ W_ 1 0 rfl rfl (by omega) (by decide) dX8_lookAt_24 ?_
        have b_8 := byb a
        refine z_bipush F_ (by decide) dX8_lookAt_25 ?_
        refine z_icmp_ne (tgt := 43) F_ (by omega) dX8_lookAt_27 (by decide) (fun c27 => ?_) (fun c27 => ?_)
        · exact J43 (by first | omega | grind) ls_ H_ lo_ W_ (lv_sub hl [0, 1] rfl)
        · refine lv_aload_n F_.1 F_.2.1 dX8_lookAt_30 rfl (lv_at hl 0 rfl) ?_
          refine lv_dup F_.1 F_.2.1 dX8_lookAt_31 rfl ?_
          refine z_get F_ K_ W_ 0 0 13 rfl rfl rfl (C := RX8) (T := TX8) (N := 19) rfl (by decide) hinX8 (List.mem_of_getElem? (i := 1) rfl) dX8_lookAt_32 ?_
          refine z_iconst F_ dX8_lookAt_35 ?_
          refine z_iadd F_ dX8_lookAt_36 ?_
          refine z_put (sg' := [wO cy o ab be bl (a + 1) tl tk vl, wB cy (o 10) yb]) F_ K_ W_ 0 0 13 rfl rfl rfl (C := RX8) (T := TX8) (N := 19) rfl ⟨Nat.le_of_ble_eq_true rfl, Nat.le_of_ble_eq_true rfl⟩ tyX8 tyX8_ok nmX8 rfl rfl rfl hinX8 (List.mem_of_getElem? (i := 1) rfl) dX8_lookAt_37 (fun H_ lo_ W_ => ?_)
          refine z_goto (tgt := 5) F_ dX8_lookAt_40 (by decide) ?_
          exact ih5 (a + 1) (by first | omega | assumption) (by intro j q1 q2; rcases Int.lt_or_eq_of_le (show j ≤ a by omega) with q | q; exact hsp j q1 q; (rw [q]; assumption)) (by omega) ls_ H_ lo_ W_ (lv_sub hl [0, 1] rfl)
  exact L5 ((bl - s : Int).toNat + 1) s (by first | omega | assumption) (by intro j q1 q2; omega) (by have := Int.self_le_toNat (bl - s : Int); omega) ls_ H_ lo_ W_ (lv_sub hl [0, 1] rfl)
abbrev rX8_goBehind : Room := { frames := 3, cells := 0, slots := 0, locals := 69 }
set_option maxHeartbeats 1000000 in
set_option maxRecDepth 100000 in
theorem c_X8_goBehind (l_ : Launch) (D : va_G) (cy : Nat → ClassId) (o : Nat → Nat) (ab : Int) (be : Int) (bl : Int) (ta : Int) (tl : Int) (tk : Int) (vl : Int) (yb : Int → Int) (byb : ∀ j : Int, 0 ≤ yb j ∧ yb j ≤ 127) (hbl : 0 ≤ bl ∧ bl ≤ 150) (hs : 0 ≤ ta + tl ∧ ta + tl ≤ bl) : CTv l_ D cy yX8_goBehind wsX8_goBehind rX8_goBehind [.ref (o 0)] ([wO cy o ab be bl ta tl tk vl, wB cy (o 10) yb]) (fun (u : (Int) × (Int) × (Int) × (Int)) => (TS yb bl (ta + tl) u.2.2.1 u.1 u.2.1 u.2.2.2)) (fun (u : (Int) × (Int) × (Int) × (Int)) => [wO cy o ab be bl u.1 u.2.1 u.2.2.1 u.2.2.2, wB cy (o 10) yb]) := by
  refine CTv.of RX8 cX8_goBehind 1 rfl (by decide) rfl (Nat.le_of_ble_eq_true rfl) ?_
  intro p_ e_ s_ m_ ar_ be_ me_ c_ Q_ A_ ls_ F_ K_ W_ hl hret
  have hl : lv_has ls_ 1 [(0, .ref (o 0))] := hl
  obtain ⟨H_, hH_⟩ : ∃ x, x = s_.heap := ⟨_, rfl⟩
  obtain ⟨lo_, hlo_⟩ : ∃ x : List Loc, x = [] := ⟨_, rfl⟩
  have W_ : WD D A_ s_.heap ([wO cy o ab be bl ta tl tk vl, wB cy (o 10) yb]) H_ lo_ := by rw [hH_, hlo_]; exact W_
  rw [← hlo_]
  suffices hg_ : W p_ l_ e_ rX8_goBehind s_ m_ ar_ be_ me_ c_ H_ lo_ 0 0 Q_ (F0 m_ 0 ls_ []) by rw [hH_] at hg_; exact hg_
  clear hH_ hlo_
  have hinX8 : ∀ w ∈ u_ws RX8 TX8 19, w ∈ wsX8_goBehind := fun w h => List.mem_cons_of_mem _ (List.mem_append_right _ h)
  refine lv_aload_n F_.1 F_.2.1 dX8_goBehind_0 rfl (lv_at hl 0 rfl) ?_
  refine lv_aload_n F_.1 F_.2.1 dX8_goBehind_1 rfl (lv_at hl 0 rfl) ?_
  refine z_get F_ K_ W_ 0 0 13 rfl rfl rfl (C := RX8) (T := TX8) (N := 19) rfl (by decide) hinX8 (List.mem_of_getElem? (i := 1) rfl) dX8_goBehind_2 ?_
  refine lv_aload_n F_.1 F_.2.1 dX8_goBehind_5 rfl (lv_at hl 0 rfl) ?_
  refine z_get F_ K_ W_ 0 0 14 rfl rfl rfl (C := RX8) (T := TX8) (N := 19) rfl (by decide) hinX8 (List.mem_of_getElem? (i := 2) rfl) dX8_goBehind_6 ?_
  refine z_iadd F_ dX8_goBehind_9 ?_
  refine z_callVv F_ K_ W_ [.int (zi (ta + tl))] (c_X8_lookAt l_ D cy o ab be bl ta tl tk vl yb (ta + tl) byb (by first | omega | assumption) (by first | omega | assumption) (by first | omega | assumption)) 1 rfl gX8_goBehind_X8_lookAt rfl (by decide +kernel) ⟨⟨Nat.le_of_ble_eq_true rfl, Nat.le_of_ble_eq_true rfl⟩, rfl, rfl, Nat.zero_le _, Nat.zero_le _⟩ 0 0 7 rfl rfl rfl rfl hl.1 rfl (Nat.le_of_ble_eq_true rfl) [0, 1] ([] : List Nat) ([] : List va_W) (fun (u_ : (Int) × (Int) × (Int) × (Int)) => [wO cy o ab be bl u_.1 u_.2.1 u_.2.2.1 u_.2.2.2, wB cy (o 10) yb]) 2 (by decide +kernel) rfl rfl rfl (fun _ => rfl) (fun _ => rfl) (fun _ => rfl) dX8_goBehind_10 (fun u_ H_ lo_ hw_ W_ => ?_)
  obtain ⟨ta2_2, tl2_3, tk2_4, vl2_5⟩ := u_
  have W_ : WD D A_ s_.heap ([wO cy o ab be bl ta2_2 tl2_3 tk2_4 vl2_5, wB cy (o 10) yb]) H_ lo_ := W_
  replace hw_ : (TS yb bl (ta + tl) tk2_4 ta2_2 tl2_3 vl2_5) := hw_
  have f10_v := hw_
  clear hw_
  exact hret _ _ _ _ (ta2_2, tl2_3, tk2_4, vl2_5) dX8_goBehind_13 (by first | omega | assumption) W_
abbrev rX8_spells : Room := { frames := 0, cells := 0, slots := 0, locals := 0 }
set_option maxHeartbeats 1000000 in
set_option maxRecDepth 100000 in
theorem c_X8_spells (l_ : Launch) (D : va_G) (cy : Nat → ClassId) (o : Nat → Nat) (ab : Int) (be : Int) (bl : Int) (ta : Int) (tl : Int) (tk : Int) (vl : Int) (yb : Int → Int) (n : Int) (c0 : Int) (c1 : Int) (c2 : Int) (c3 : Int) (c4 : Int) (c5 : Int) (byb : ∀ j : Int, 0 ≤ yb j ∧ yb j ≤ 127) (rn : -2147483648 ≤ n ∧ n < 2147483648) (rc0 : -2147483648 ≤ c0 ∧ c0 < 2147483648) (rc1 : -2147483648 ≤ c1 ∧ c1 < 2147483648) (rc2 : -2147483648 ≤ c2 ∧ c2 < 2147483648) (rc3 : -2147483648 ≤ c3 ∧ c3 < 2147483648) (rc4 : -2147483648 ≤ c4 ∧ c4 < 2147483648) (rc5 : -2147483648 ≤ c5 ∧ c5 < 2147483648) (hbl : 0 ≤ bl ∧ bl ≤ 150) (hnn : 0 ≤ n ∧ n ≤ 6) (hta : 0 ≤ ta ∧ 0 ≤ tl ∧ ta + tl ≤ bl ∧ 0 ≤ tk ∧ tk ≤ 4) : CTi l_ D cy yX8_spells wsX8_spells rX8_spells [.ref (o 0), .int (zi n), .int (zi c0), .int (zi c1), .int (zi c2), .int (zi c3), .int (zi c4), .int (zi c5)] ([wO cy o ab be bl ta tl tk vl, wB cy (o 10) yb]) (fun (z : Int) (u : Unit) => ((z = 1 ∧ (wdP yb tk ta tl n (cwZ c0 c1 c2 c3 c4 c5))) ∨ (z = 0 ∧ ¬ (wdP yb tk ta tl n (cwZ c0 c1 c2 c3 c4 c5))))) (fun (_ : Unit) => [wO cy o ab be bl ta tl tk vl, wB cy (o 10) yb]) := by
  refine CTi.of RX8 cX8_spells 10 rfl (by decide) rfl (fun z u hz => z_bl hz) (Nat.le_of_ble_eq_true rfl) ?_
  intro p_ e_ s_ m_ ar_ be_ me_ c_ Q_ A_ ls_ F_ K_ W_ hl hret
  have hl : lv_has ls_ 10 [(0, .ref (o 0)), (1, .int (zi n)), (2, .int (zi c0)), (3, .int (zi c1)), (4, .int (zi c2)), (5, .int (zi c3)), (6, .int (zi c4)), (7, .int (zi c5))] := hl
  obtain ⟨H_, hH_⟩ : ∃ x, x = s_.heap := ⟨_, rfl⟩
  obtain ⟨lo_, hlo_⟩ : ∃ x : List Loc, x = [] := ⟨_, rfl⟩
  have W_ : WD D A_ s_.heap ([wO cy o ab be bl ta tl tk vl, wB cy (o 10) yb]) H_ lo_ := by rw [hH_, hlo_]; exact W_
  rw [← hlo_]
  suffices hg_ : W p_ l_ e_ rX8_spells s_ m_ ar_ be_ me_ c_ H_ lo_ 0 0 Q_ (F0 m_ 0 ls_ []) by rw [hH_] at hg_; exact hg_
  clear hH_ hlo_
  have hinX8 : ∀ w ∈ u_ws RX8 TX8 19, w ∈ wsX8_spells := fun w h => List.mem_cons_of_mem _ (List.mem_append_right _ h)
  have hokx : True := trivial
  refine lv_aload_n F_.1 F_.2.1 dX8_spells_0 rfl (lv_at hl 0 rfl) ?_
  refine z_get F_ K_ W_ 0 0 15 rfl rfl rfl (C := RX8) (T := TX8) (N := 19) rfl (by decide) hinX8 (List.mem_of_getElem? (i := 1) rfl) dX8_spells_1 ?_
  refine z_iconst F_ dX8_spells_4 ?_
  have J21 : ∀ (k21 : Int) (g21 : (k21 = 1 ∧ tk = 1 ∧ tl = n) ∨ (k21 = 0 ∧ ¬ (tk = 1 ∧ tl = n))) (ls_ : Array Slot) (H_ : Heap) (lo_ : List Loc), WD D A_ s_.heap ([wO cy o ab be bl ta tl tk vl, wB cy (o 10) yb]) H_ lo_ → lv_has ls_ 10 [(0, .ref (o 0)), (1, .int (zi n)), (2, .int (zi c0)), (3, .int (zi c1)), (4, .int (zi c2)), (5, .int (zi c3)), (6, .int (zi c4)), (7, .int (zi c5))] → W p_ l_ e_ rX8_spells s_ m_ ar_ be_ me_ c_ H_ lo_ 0 0 Q_ (F0 m_ 21 ls_ [.int (zi k21)]) := by
    intro k21 g21 ls_ H_ lo_ W_ hl
    refine lv_istore (lv' := [(8, .int (zi k21)), (0, .ref (o 0)), (1, .int (zi n)), (2, .int (zi c0)), (3, .int (zi c1)), (4, .int (zi c2)), (5, .int (zi c3)), (6, .int (zi c4)), (7, .int (zi c5))]) F_.1 F_.2.1 dX8_spells_21 hl (by decide) rfl (fun ls_ hl => ?_)
    refine z_iconst F_ dX8_spells_23 ?_
    refine lv_istore (lv' := [(9, .int (zi 0)), (8, .int (zi k21)), (0, .ref (o 0)), (1, .int (zi n)), (2, .int (zi c0)), (3, .int (zi c1)), (4, .int (zi c2)), (5, .int (zi c3)), (6, .int (zi c4)), (7, .int (zi c5))]) F_.1 F_.2.1 dX8_spells_24 hl (by decide) rfl (fun ls_ hl => ?_)
    have L26 : ∀ (n_ : Nat) (ok : Int) (i : Int) (hi : 0 ≤ i ∧ i ≤ n) (hok : (ok = 1 ∧ tk = 1 ∧ tl = n ∧ ∀ j, 0 ≤ j → j < i → yb (ta + j) = (cwZ c0 c1 c2 c3 c4 c5) j) ∨ (ok = 0 ∧ ¬ wdP yb tk ta tl n (cwZ c0 c1 c2 c3 c4 c5))) (hm_ : (n - i : Int) < (n_ : Int)) (ls_ : Array Slot) (H_ : Heap) (lo_ : List Loc), WD D A_ s_.heap ([wO cy o ab be bl ta tl tk vl, wB cy (o 10) yb]) H_ lo_ → lv_has ls_ 10 [(9, .int (zi i)), (8, .int (zi ok)), (0, .ref (o 0)), (1, .int (zi n)), (2, .int (zi c0)), (3, .int (zi c1)), (4, .int (zi c2)), (5, .int (zi c3)), (6, .int (zi c4)), (7, .int (zi c5))] → W p_ l_ e_ rX8_spells s_ m_ ar_ be_ me_ c_ H_ lo_ 0 0 Q_ (F0 m_ 26 ls_ []) := by
      intro n_
      induction n_ with
      | zero =>
        intro ok i hi hok hm_ ls_ H_ lo_ _ _
        exact absurd hm_ (by omega)
      | succ n_ ih_ =>
        intro ok i hi hok hm_ ls_ H_ lo_ W_ hl
        have ih26 := ih_
        refine lv_iload F_.1 F_.2.1 dX8_spells_26 (lv_at hl 0 rfl) ?_
        refine lv_iload_n F_.1 F_.2.1 dX8_spells_28 rfl (lv_at hl 3 rfl) ?_
        refine z_icmp_ge (tgt := 119) F_ (by omega) dX8_spells_29 (by decide) (fun c29 => ?_) (fun c29 => ?_)
        · refine lv_iload F_.1 F_.2.1 dX8_spells_119 (lv_at hl 1 rfl) ?_
          exact hret _ _ _ _ ok () dX8_spells_121 (by rcases hok with q | q; (first | exact Or.inl ⟨q.1, q.2.1, q.2.2.1, fun j q1 q2 => q.2.2.2 j q1 (by omega)⟩ | omega); exact Or.inr q) W_
        · have hokb : ok = 0 ∨ ok = 1 := hok.elim (fun q => Or.inr q.1) (fun q => Or.inl q.1)
          refine lv_iload F_.1 F_.2.1 dX8_spells_32 (lv_at hl 1 rfl) ?_
          refine z_if_eq (tgt := 119) F_ (by omega) dX8_spells_34 (by decide) (fun c34 => ?_) (fun c34 => ?_)
          · refine lv_iload F_.1 F_.2.1 dX8_spells_119 (lv_at hl 1 rfl) ?_
            exact hret _ _ _ _ ok () dX8_spells_121 (by rcases hok with q | q; (first | exact Or.inl ⟨q.1, q.2.1, q.2.2.1, fun j q1 q2 => q.2.2.2 j q1 (by omega)⟩ | omega); exact Or.inr q) W_
          · refine lv_aload_n F_.1 F_.2.1 dX8_spells_37 rfl (lv_at hl 2 rfl) ?_
            refine z_get F_ K_ W_ 0 0 11 rfl rfl rfl (C := RX8) (T := TX8) (N := 19) rfl (by decide) hinX8 (List.mem_of_getElem? (i := 3) rfl) dX8_spells_38 ?_
            refine lv_aload_n F_.1 F_.2.1 dX8_spells_41 rfl (lv_at hl 2 rfl) ?_
            refine z_get F_ K_ W_ 0 0 13 rfl rfl rfl (C := RX8) (T := TX8) (N := 19) rfl (by decide) hinX8 (List.mem_of_getElem? (i := 4) rfl) dX8_spells_42 ?_
            refine lv_iload F_.1 F_.2.1 dX8_spells_45 (lv_at hl 0 rfl) ?_
            refine z_iadd F_ dX8_spells_47 ?_
            refine z_iald F_ K_ W_ 1 0 rfl rfl (by omega) (by decide) dX8_spells_48 ?_
            have b_1 := byb (ta + i)
            refine lv_iload F_.1 F_.2.1 dX8_spells_49 (lv_at hl 0 rfl) ?_
            have J103 : ∀ (k103 : Int) (hk103 : k103 = (cwZ c0 c1 c2 c3 c4 c5) i) (hkb : -2147483648 ≤ k103 ∧ k103 < 2147483648) (ls_ : Array Slot) (H_ : Heap) (lo_ : List Loc), WD D A_ s_.heap ([wO cy o ab be bl ta tl tk vl, wB cy (o 10) yb]) H_ lo_ → lv_has ls_ 10 [(9, .int (zi i)), (8, .int (zi ok)), (0, .ref (o 0)), (1, .int (zi n)), (2, .int (zi c0)), (3, .int (zi c1)), (4, .int (zi c2)), (5, .int (zi c3)), (6, .int (zi c4)), (7, .int (zi c5))] → W p_ l_ e_ rX8_spells s_ m_ ar_ be_ me_ c_ H_ lo_ 0 0 Q_ (F0 m_ 103 ls_ [.int (zi k103), .int (zi (yb (ta + i)))]) := by
              intro k103 hk103 hkb ls_ H_ lo_ W_ hl
              refine z_icmp_ne (tgt := 110) F_ (by omega) dX8_spells_103 (by decide) (fun c103 => ?_) (fun c103 => ?_)
              · refine z_iconst F_ dX8_spells_110 ?_
                refine lv_istore (lv' := [(8, .int (zi 0)), (9, .int (zi i)), (0, .ref (o 0)), (1, .int (zi n)), (2, .int (zi c0)), (3, .int (zi c1)), (4, .int (zi c2)), (5, .int (zi c3)), (6, .int (zi c4)), (7, .int (zi c5))]) F_.1 F_.2.1 dX8_spells_111 hl (by decide) rfl (fun ls_ hl => ?_)
                refine z_iinc (lv' := [(9, .int (zi (i + 1))), (8, .int (zi 0)), (0, .ref (o 0)), (1, .int (zi n)), (2, .int (zi c0)), (3, .int (zi c1)), (4, .int (zi c2)), (5, .int (zi c3)), (6, .int (zi c4)), (7, .int (zi c5))]) F_ dX8_spells_113 hl (k := 1) rfl (by decide) rfl (fun ls_ hl => ?_)
                refine z_goto (tgt := 26) F_ dX8_spells_116 (by decide) ?_
                exact ih26 0 (i + 1) (by first | omega | assumption) (by rcases hok with q | q; (first | exact Or.inl ⟨rfl, q.2.1, q.2.2.1, fun j q1 q2 => by rcases Int.lt_or_eq_of_le (show j ≤ i by omega) with w_ | w_; exact q.2.2.2 j q1 w_; (rw [w_, ← hk103]; omega)⟩ | exact Or.inr ⟨rfl, fun w_ => c103 (by have h3 := w_.2.2 i hi.1 (by omega); omega)⟩); omega) (by omega) ls_ H_ lo_ W_ (lv_sub hl [0, 1, 2, 3, 4, 5, 6, 7, 8, 9] rfl)
              · refine z_iconst F_ dX8_spells_106 ?_
                refine z_goto (tgt := 111) F_ dX8_spells_107 (by decide) ?_
                refine lv_istore (lv' := [(8, .int (zi 1)), (9, .int (zi i)), (0, .ref (o 0)), (1, .int (zi n)), (2, .int (zi c0)), (3, .int (zi c1)), (4, .int (zi c2)), (5, .int (zi c3)), (6, .int (zi c4)), (7, .int (zi c5))]) F_.1 F_.2.1 dX8_spells_111 hl (by decide) rfl (fun ls_ hl => ?_)
                refine z_iinc (lv' := [(9, .int (zi (i + 1))), (8, .int (zi 1)), (0, .ref (o 0)), (1, .int (zi n)), (2, .int (zi c0)), (3, .int (zi c1)), (4, .int (zi c2)), (5, .int (zi c3)), (6, .int (zi c4)), (7, .int (zi c5))]) F_ dX8_spells_113 hl (k := 1) rfl (by decide) rfl (fun ls_ hl => ?_)
                refine z_goto (tgt := 26) F_ dX8_spells_116 (by decide) ?_
                exact ih26 1 (i + 1) (by first | omega | assumption) (by rcases hok with q | q; (first | exact Or.inl ⟨rfl, q.2.1, q.2.2.1, fun j q1 q2 => by rcases Int.lt_or_eq_of_le (show j ≤ i by omega) with w_ | w_; exact q.2.2.2 j q1 w_; (rw [w_, ← hk103]; omega)⟩ | exact Or.inr ⟨rfl, fun w_ => c103 (by have h3 := w_.2.2 i hi.1 (by omega); omega)⟩); omega) (by omega) ls_ H_ lo_ W_ (lv_sub hl [0, 1, 2, 3, 4, 5, 6, 7, 8, 9] rfl)
            refine z_if_ne (tgt := 58) F_ (by omega) dX8_spells_51 (by decide) (fun c51 => ?_) (fun c51 => ?_)
            · refine lv_iload F_.1 F_.2.1 dX8_spells_58 (lv_at hl 0 rfl) ?_
              refine z_iconst F_ dX8_spells_60 ?_
              refine z_icmp_ne (tgt := 68) F_ (by omega) dX8_spells_61 (by decide) (fun c61 => ?_) (fun c61 => ?_)
              · refine lv_iload F_.1 F_.2.1 dX8_spells_68 (lv_at hl 0 rfl) ?_
                refine z_iconst F_ dX8_spells_70 ?_
                refine z_icmp_ne (tgt := 79) F_ (by omega) dX8_spells_71 (by decide) (fun c71 => ?_) (fun c71 => ?_)
                · refine lv_iload F_.1 F_.2.1 dX8_spells_79 (lv_at hl 0 rfl) ?_
                  refine z_iconst F_ dX8_spells_81 ?_
                  refine z_icmp_ne (tgt := 90) F_ (by omega) dX8_spells_82 (by decide) (fun c82 => ?_) (fun c82 => ?_)
                  · refine lv_iload F_.1 F_.2.1 dX8_spells_90 (lv_at hl 0 rfl) ?_
                    refine z_iconst F_ dX8_spells_92 ?_
                    refine z_icmp_ne (tgt := 101) F_ (by omega) dX8_spells_93 (by decide) (fun c93 => ?_) (fun c93 => ?_)
                    · refine lv_iload F_.1 F_.2.1 dX8_spells_101 (lv_at hl 9 rfl) ?_
                      exact J103 c5 (by unfold cwZ; repeat (first | omega | (rw [if_pos (by omega)]; done) | (rw [if_neg (by omega)]))) (by first | omega | assumption) ls_ H_ lo_ W_ (lv_sub hl [0, 1, 2, 3, 4, 5, 6, 7, 8, 9] rfl)
                    · refine lv_iload F_.1 F_.2.1 dX8_spells_96 (lv_at hl 8 rfl) ?_
                      refine z_goto (tgt := 103) F_ dX8_spells_98 (by decide) ?_
                      exact J103 c4 (by unfold cwZ; repeat (first | omega | (rw [if_pos (by omega)]; done) | (rw [if_neg (by omega)]))) (by first | omega | assumption) ls_ H_ lo_ W_ (lv_sub hl [0, 1, 2, 3, 4, 5, 6, 7, 8, 9] rfl)
                  · refine lv_iload F_.1 F_.2.1 dX8_spells_85 (lv_at hl 7 rfl) ?_
                    refine z_goto (tgt := 103) F_ dX8_spells_87 (by decide) ?_
                    exact J103 c3 (by unfold cwZ; repeat (first | omega | (rw [if_pos (by omega)]; done) | (rw [if_neg (by omega)]))) (by first | omega | assumption) ls_ H_ lo_ W_ (lv_sub hl [0, 1, 2, 3, 4, 5, 6, 7, 8, 9] rfl)
                · refine lv_iload F_.1 F_.2.1 dX8_spells_74 (lv_at hl 6 rfl) ?_
                  refine z_goto (tgt := 103) F_ dX8_spells_76 (by decide) ?_
                  exact J103 c2 (by unfold cwZ; repeat (first | omega | (rw [if_pos (by omega)]; done) | (rw [if_neg (by omega)]))) (by first | omega | assumption) ls_ H_ lo_ W_ (lv_sub hl [0, 1, 2, 3, 4, 5, 6, 7, 8, 9] rfl)
              · refine lv_iload_n F_.1 F_.2.1 dX8_spells_64 rfl (lv_at hl 5 rfl) ?_
                refine z_goto (tgt := 103) F_ dX8_spells_65 (by decide) ?_
                exact J103 c1 (by unfold cwZ; repeat (first | omega | (rw [if_pos (by omega)]; done) | (rw [if_neg (by omega)]))) (by first | omega | assumption) ls_ H_ lo_ W_ (lv_sub hl [0, 1, 2, 3, 4, 5, 6, 7, 8, 9] rfl)
            · refine lv_iload_n F_.1 F_.2.1 dX8_spells_54 rfl (lv_at hl 4 rfl) ?_
              refine z_goto (tgt := 103) F_ dX8_spells_55 (by decide) ?_
              exact J103 c0 (by unfold cwZ; repeat (first | omega | (rw [if_pos (by omega)]; done) | (rw [if_neg (by omega)]))) (by first | omega | assumption) ls_ H_ lo_ W_ (lv_sub hl [0, 1, 2, 3, 4, 5, 6, 7, 8, 9] rfl)
    exact L26 ((n - 0 : Int).toNat + 1) k21 0 (by first | omega | assumption) (by exact g21.elim (fun w_ => Or.inl ⟨w_.1, w_.2.1, w_.2.2, fun j q1 q2 => by omega⟩) (fun w_ => Or.inr ⟨w_.1, fun q => w_.2 ⟨q.1, q.2.1⟩⟩)) (by have := Int.self_le_toNat (n - 0 : Int); omega) ls_ H_ lo_ W_ (lv_sub hl [0, 1, 2, 3, 4, 5, 6, 7, 8, 9] rfl)
  refine z_icmp_ne (tgt := 20) F_ (by omega) dX8_spells_5 (by decide) (fun c5 => ?_) (fun c5 => ?_)
  · refine z_iconst F_ dX8_spells_20 ?_
    exact J21 0 (by first | omega | assumption) ls_ H_ lo_ W_ (lv_sub hl [0, 1, 2, 3, 4, 5, 6, 7] rfl)
  · refine lv_aload_n F_.1 F_.2.1 dX8_spells_8 rfl (lv_at hl 0 rfl) ?_
    refine z_get F_ K_ W_ 0 0 14 rfl rfl rfl (C := RX8) (T := TX8) (N := 19) rfl (by decide) hinX8 (List.mem_of_getElem? (i := 2) rfl) dX8_spells_9 ?_
    refine lv_iload_n F_.1 F_.2.1 dX8_spells_12 rfl (lv_at hl 1 rfl) ?_
    refine z_icmp_ne (tgt := 20) F_ (by omega) dX8_spells_13 (by decide) (fun c13 => ?_) (fun c13 => ?_)
    · refine z_iconst F_ dX8_spells_20 ?_
      exact J21 0 (by first | omega | assumption) ls_ H_ lo_ W_ (lv_sub hl [0, 1, 2, 3, 4, 5, 6, 7] rfl)
    · refine z_iconst F_ dX8_spells_16 ?_
      refine z_goto (tgt := 21) F_ dX8_spells_17 (by decide) ?_
      exact J21 1 (by first | omega | assumption) ls_ H_ lo_ W_ (lv_sub hl [0, 1, 2, 3, 4, 5, 6, 7] rfl)
abbrev rX8_takes : Room := { frames := 4, cells := 0, slots := 0, locals := 89 }
set_option maxHeartbeats 1000000 in
set_option maxRecDepth 100000 in
theorem c_X8_takes (l_ : Launch) (D : va_G) (cy : Nat → ClassId) (o : Nat → Nat) (ab : Int) (be : Int) (bl : Int) (ta : Int) (tl : Int) (tk : Int) (vl : Int) (yb : Int → Int) (va : Int → Int) (s : Int) (i : Int) (lo : Int) (hi : Int) (byb : ∀ j : Int, 0 ≤ yb j ∧ yb j ≤ 127) (bva : ∀ j : Int, 0 ≤ va j ∧ va j ≤ 99) (ri : -2147483648 ≤ i ∧ i < 2147483648) (rlo : -2147483648 ≤ lo ∧ lo < 2147483648) (rhi : -2147483648 ≤ hi ∧ hi < 2147483648) (hbl : 0 ≤ bl ∧ bl ≤ 150) (hts : TS yb bl s tk ta tl vl) (hs0 : 0 ≤ s) (hii : 0 ≤ i ∧ i ≤ 2) (hlh : -100 ≤ lo ∧ lo ≤ 100 ∧ -100 ≤ hi ∧ hi ≤ 100) : CTi l_ D cy yX8_takes wsX8_takes rX8_takes [.ref (o 0), .int (zi i), .int (zi lo), .int (zi hi)] ([wO cy o ab be bl ta tl tk vl, wB cy (o 10) yb, wA cy (o 12) 3 va]) (fun (z : Int) (u : (Int) × (Int) × (Int) × (Int) × (Int → Int)) => ((z = 1 ∧ (nmP yb bl lo hi s) ∧ u.2.2.2.2 = zu va i (tV yb bl s) ∧ TS yb bl (tE yb bl s) u.2.2.1 u.1 u.2.1 u.2.2.2.1) ∨ (z = 0 ∧ ¬ (nmP yb bl lo hi s) ∧ u.2.2.2.2 = va ∧ u.1 = ta ∧ u.2.1 = tl ∧ u.2.2.1 = tk ∧ u.2.2.2.1 = vl)) ∧ (∀ j : Int, 0 ≤ u.2.2.2.2 j ∧ u.2.2.2.2 j ≤ 99)) (fun (u : (Int) × (Int) × (Int) × (Int) × (Int → Int)) => [wO cy o ab be bl u.1 u.2.1 u.2.2.1 u.2.2.2.1, wB cy (o 10) yb, wA cy (o 12) 3 u.2.2.2.2]) := by
  refine CTi.of RX8 cX8_takes 4 rfl (by decide) rfl (fun z u hz => z_bl hz.1) (Nat.le_of_ble_eq_true rfl) ?_
  intro p_ e_ s_ m_ ar_ be_ me_ c_ Q_ A_ ls_ F_ K_ W_ hl hret
  have hl : lv_has ls_ 4 [(0, .ref (o 0)), (1, .int (zi i)), (2, .int (zi lo)), (3, .int (zi hi))] := hl
  obtain ⟨H_, hH_⟩ : ∃ x, x = s_.heap := ⟨_, rfl⟩
  obtain ⟨lo_, hlo_⟩ : ∃ x : List Loc, x = [] := ⟨_, rfl⟩
  have W_ : WD D A_ s_.heap ([wO cy o ab be bl ta tl tk vl, wB cy (o 10) yb, wA cy (o 12) 3 va]) H_ lo_ := by rw [hH_, hlo_]; exact W_
  rw [← hlo_]
  suffices hg_ : W p_ l_ e_ rX8_takes s_ m_ ar_ be_ me_ c_ H_ lo_ 0 0 Q_ (F0 m_ 0 ls_ []) by rw [hH_] at hg_; exact hg_
  clear hH_ hlo_
  have hinX8 : ∀ w ∈ u_ws RX8 TX8 19, w ∈ wsX8_takes := fun w h => List.mem_cons_of_mem _ (List.mem_append_right _ h)
  obtain ⟨tf1, tf2, tf3, tf4, tf5⟩ := TS_f hts
  refine lv_aload_n F_.1 F_.2.1 dX8_takes_0 rfl (lv_at hl 0 rfl) ?_
  refine z_get F_ K_ W_ 0 0 15 rfl rfl rfl (C := RX8) (T := TX8) (N := 19) rfl (by decide) hinX8 (List.mem_of_getElem? (i := 1) rfl) dX8_takes_1 ?_
  refine z_iconst F_ dX8_takes_4 ?_
  refine z_icmp_ne (tgt := 23) F_ (by omega) dX8_takes_5 (by decide) (fun c5 => ?_) (fun c5 => ?_)
  · refine z_iconst F_ dX8_takes_23 ?_
    exact hret _ _ _ _ 0 (ta, tl, tk, vl, va) dX8_takes_24 ⟨(by exact Or.inr ⟨rfl, fun q => by have h1 := q.1; have h2 := q.2; omega, rfl, rfl, rfl, rfl, rfl⟩), bva⟩ W_
  · refine lv_aload_n F_.1 F_.2.1 dX8_takes_8 rfl (lv_at hl 0 rfl) ?_
    refine z_get F_ K_ W_ 0 0 16 rfl rfl rfl (C := RX8) (T := TX8) (N := 19) rfl (by decide) hinX8 (List.mem_of_getElem? (i := 2) rfl) dX8_takes_9 ?_
    refine z_i2l F_ (by omega) dX8_takes_12 ?_
    refine lv_iload_n F_.1 F_.2.1 dX8_takes_13 rfl (lv_at hl 2 rfl) ?_
    refine z_i2l F_ (by omega) dX8_takes_14 ?_
    refine lv_iload_n F_.1 F_.2.1 dX8_takes_15 rfl (lv_at hl 3 rfl) ?_
    refine z_i2l F_ (by omega) dX8_takes_16 ?_
    refine z_callSip F_ K_ W_ [.long (zl vl), .long (zl lo), .long (zl hi)] (c_X8_in l_ D cy vl lo hi (by first | omega | assumption)) 3 rfl gX8_takes_X8_in rfl (by decide +kernel) ⟨⟨Nat.le_of_ble_eq_true rfl, Nat.le_of_ble_eq_true rfl⟩, rfl, rfl, Nat.zero_le _, Nat.zero_le _⟩ hl.1 rfl (Nat.le_of_ble_eq_true rfl) ([] : List Nat) [0, 1, 2] [wO cy o ab be bl ta tl tk vl, wB cy (o 10) yb, wA cy (o 12) 3 va] 3 (by decide +kernel) rfl rfl rfl dX8_takes_17 (fun z_1 _ H_ lo_ hw_ W_ => ?_)
    replace hw_ : ((z_1 = 1 ∧ (lo ≤ vl ∧ vl ≤ hi)) ∨ (z_1 = 0 ∧ ¬ (lo ≤ vl ∧ vl ≤ hi))) := hw_
    have f17_v := hw_
    clear hw_
    refine z_if_ne (tgt := 25) F_ (by omega) dX8_takes_20 (by decide) (fun c20 => ?_) (fun c20 => ?_)
    · refine lv_aload_n F_.1 F_.2.1 dX8_takes_25 rfl (lv_at hl 0 rfl) ?_
      refine z_get F_ K_ W_ 0 0 18 rfl rfl rfl (C := RX8) (T := TX8) (N := 19) rfl (by decide) hinX8 (List.mem_of_getElem? (i := 3) rfl) dX8_takes_26 ?_
      refine lv_iload_n F_.1 F_.2.1 dX8_takes_29 rfl (lv_at hl 1 rfl) ?_
      refine lv_aload_n F_.1 F_.2.1 dX8_takes_30 rfl (lv_at hl 0 rfl) ?_
      refine z_get F_ K_ W_ 0 0 16 rfl rfl rfl (C := RX8) (T := TX8) (N := 19) rfl (by decide) hinX8 (List.mem_of_getElem? (i := 2) rfl) dX8_takes_31 ?_
      refine z_iast (sg' := [wO cy o ab be bl ta tl tk vl, wB cy (o 10) yb, wA cy (o 12) 3 (zu va i vl)]) F_ K_ W_ 2 0 rfl rfl rfl (by omega) (by decide) dX8_takes_34 (fun H_ lo_ W_ => ?_)
      obtain ⟨g_2, eg_2⟩ : ∃ x_ : Int → Int, x_ = zu va i vl := ⟨_, rfl⟩
      rw [← eg_2] at W_
      have bg_2 : ∀ j : Int, 0 ≤ g_2 j ∧ g_2 j ≤ 99 := by rw [eg_2]; exact zu_b bva (by omega)
      refine lv_aload_n F_.1 F_.2.1 dX8_takes_35 rfl (lv_at hl 0 rfl) ?_
      refine z_callVv F_ K_ W_ [] (c_X8_goBehind l_ D cy o ab be bl ta tl tk vl yb byb (by first | omega | assumption) (by first | omega | assumption)) 0 rfl gX8_takes_X8_goBehind rfl (by decide +kernel) ⟨⟨Nat.le_of_ble_eq_true rfl, Nat.le_of_ble_eq_true rfl⟩, rfl, rfl, Nat.zero_le _, Nat.zero_le _⟩ 0 0 7 rfl rfl rfl rfl hl.1 rfl (Nat.le_of_ble_eq_true rfl) [0, 1] [2] [wA cy (o 12) 3 g_2] (fun (u_ : (Int) × (Int) × (Int) × (Int)) => [wO cy o ab be bl u_.1 u_.2.1 u_.2.2.1 u_.2.2.2, wB cy (o 10) yb, wA cy (o 12) 3 g_2]) 3 (by decide +kernel) rfl rfl rfl (fun _ => rfl) (fun _ => rfl) (fun _ => rfl) dX8_takes_36 (fun u_ H_ lo_ hw_ W_ => ?_)
      obtain ⟨ta2_4, tl2_5, tk2_6, vl2_7⟩ := u_
      have W_ : WD D A_ s_.heap ([wO cy o ab be bl ta2_4 tl2_5 tk2_6 vl2_7, wB cy (o 10) yb, wA cy (o 12) 3 g_2]) H_ lo_ := W_
      replace hw_ : (TS yb bl (ta + tl) tk2_6 ta2_4 tl2_5 vl2_7) := hw_
      have f36_v := hw_
      clear hw_
      refine z_iconst F_ dX8_takes_39 ?_
      exact hret _ _ _ _ 1 (ta2_4, tl2_5, tk2_6, vl2_7, g_2) dX8_takes_40 ⟨(by have htk2 : tk = 2 := (by omega); have htv := tf4 htk2; exact Or.inl ⟨rfl, ⟨by omega, by omega, by omega⟩, by rw [htv]; assumption, by rw [tf3]; assumption⟩), bg_2⟩ W_
    · refine z_iconst F_ dX8_takes_23 ?_
      exact hret _ _ _ _ 0 (ta, tl, tk, vl, va) dX8_takes_24 ⟨(by exact Or.inr ⟨rfl, fun q => by have h1 := q.1; have h2 := q.2; omega, rfl, rfl, rfl, rfl, rfl⟩), bva⟩ W_
