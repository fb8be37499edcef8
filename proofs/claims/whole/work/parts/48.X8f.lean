def mkZ (x h : Int) : Int := if h = 0 then x / 81 else if h = 1 then x / 9 % 9 else x % 9
theorem mkZ_b {x : Int} (h : Int) (hx : 0 ≤ x ∧ x < 729) : 0 ≤ mkZ x h ∧ mkZ x h ≤ 8 := by
  unfold mkZ
  repeat (first | omega | split)
def mksG (g m : Int → Int) (n : Int) : Int → Int := fZ (fun h s => (callsG s h (m h)).2) g n
theorem mksG_0 (g m : Int → Int) : mksG g m 0 = g := rfl
theorem mksG_s (g m : Int → Int) {n : Int} (h : 0 ≤ n) : mksG g m (n + 1) = (callsG (mksG g m n) n (m n)).2 := fZ_s _ _ h
def mokG (g m : Int → Int) (n : Int) : Prop := ∀ h, 0 ≤ h → h < n → 0 < m h → h < g 1 ∧ m h ≤ cntG g (h + 1)
def totM (x : Int) : Int := mkZ x 0 + mkZ x 1 + mkZ x 2
theorem totM_b {x : Int} (hx : 0 ≤ x ∧ x < 729) : 0 ≤ totM x ∧ totM x ≤ 24 := by
  have h0 := mkZ_b 0 hx
  have h1 := mkZ_b 1 hx
  have h2 := mkZ_b 2 hx
  unfold totM
  omega
def QG (g : Int → Int) (s x : Int) : Prop := mokG g (mkZ x) 3 ∧ s ≤ sumG (mksG g (mkZ x) 3) 0
def BF (g : Int → Int) (s x bt : Int) (bb : Int → Int) : Prop := (bt = 1000000 ∧ ∀ y, 0 ≤ y → y < x → ¬ QG g s y) ∨ (∃ y, (0 ≤ y ∧ y < x) ∧ QG g s y ∧ bt = totM y ∧ (∀ h, 0 ≤ h → h < 3 → bb h = mkZ y h) ∧ ∀ v, 0 ≤ v → v < x → QG g s v → totM y ≤ totM v ∧ (v < y → totM y < totM v))
theorem BF_n {g bb : Int → Int} {s x bt : Int} (hx : 0 ≤ x ∧ x < 729) (hb : BF g s x bt bb) (hq : QG g s x → bt ≤ totM x) : BF g s (x + 1) bt bb := by
  have ht := totM_b hx
  rcases hb with ⟨h1, h2⟩ | ⟨y, h1, h2, h3, h4, h5⟩
  · refine Or.inl ⟨h1, fun y q1 q2 q3 => ?_⟩
    rcases Int.lt_or_eq_of_le (show y ≤ x by omega) with q | q
    · exact h2 y q1 q q3
    · subst q
      have := hq q3
      omega
  · refine Or.inr ⟨y, by omega, h2, h3, h4, fun v q1 q2 q3 => ?_⟩
    rcases Int.lt_or_eq_of_le (show v ≤ x by omega) with q | q
    · exact h5 v q1 q q3
    · subst q
      have := hq q3
      exact ⟨by omega, fun w => by omega⟩
theorem BF_y {g bb b2 : Int → Int} {s x bt t2 : Int} (hx : 0 ≤ x ∧ x < 729) (hb : BF g s x bt bb) (hq : QG g s x) (ht : totM x < bt) (hc : ∀ h, 0 ≤ h → h < 3 → b2 h = mkZ x h) (e : t2 = totM x) : BF g s (x + 1) t2 b2 := by
  refine Or.inr ⟨x, by omega, hq, e, hc, fun v q1 q2 q3 => ?_⟩
  rcases Int.lt_or_eq_of_le (show v ≤ x by omega) with q | q
  · rcases hb with ⟨h1, h2⟩ | ⟨y, h1, h2, h3, h4, h5⟩
    · exact absurd q3 (h2 v q1 q)
    · have := (h5 v q1 q q3).1
      exact ⟨by omega, fun _ => by omega⟩
  · subst q
    exact ⟨by omega, fun w => by omega⟩
def FewG (g : Int → Int) (s w z : Int) : Prop := (z = -6 ∧ ∀ y, 0 ≤ y → y < 729 → ¬ QG g s y) ∨ (∃ y, (0 ≤ y ∧ y < 729) ∧ QG g s y ∧ z = (if w = -1 then totM y else mkZ y w) ∧ ∀ v, 0 ≤ v → v < 729 → QG g s v → totM y ≤ totM v ∧ (v < y → totM y < totM v))
theorem BF_e1 {g bb : Int → Int} {s w bt : Int} (hb : BF g s 729 bt bb) (h : bt = 1000000) : FewG g s w (-6) := by
  rcases hb with ⟨h1, h2⟩ | ⟨y, h1, h2, h3, h4, h5⟩
  · exact Or.inl ⟨rfl, h2⟩
  · have := totM_b h1
    omega
theorem BF_e2 {g bb : Int → Int} {s w bt z : Int} (hb : BF g s 729 bt bb) (h : ¬ bt = 1000000) (hw : w = -1 ∨ (0 ≤ w ∧ w < 3)) (hz : (w = -1 ∧ z = bt) ∨ (¬ w = -1 ∧ z = bb w)) : FewG g s w z := by
  rcases hb with ⟨h1, h2⟩ | ⟨y, h1, h2, h3, h4, h5⟩
  · exact absurd h1 h
  · refine Or.inr ⟨y, h1, h2, ?_, h5⟩
    rcases hz with q | q
    · rw [if_pos q.1, q.2, h3]
    · rw [if_neg q.1, q.2, h4 w (by omega) (by omega)]
def dgZ (w k : Int) : Int := w / zpw (2 * k) % 4
def eG (m w : Int) : Int → Int := fun i => dgZ w (m - 1 - i)
def wayL (g e : Int → Int) (i : Int) : Int → Int := fun j => if 6 + i < j ∧ j < 6 + g 0 ∧ 0 < e (j - 6) then e (j - 6) else g j
def wokG (g e : Int → Int) : Prop := ∀ i, 0 ≤ i → i < g 0 → 0 < e i → g (6 + i) = 0 ∧ e i ≤ g 1
def cncG (g e : Int → Int) (d : Int) : Int := cntZ (fun h => canZ (wayL g e (-1)) h d) 1 (g 1)
theorem wayL_t {g e : Int → Int} {i : Int} (h : i = g 0 - 1) : wayL g e i = g := by
  funext j
  simp only [wayL]
  rw [if_neg (by omega)]
theorem wayL_at {g e : Int → Int} (i : Int) : wayL g e i (6 + i) = g (6 + i) := by
  simp only [wayL]
  rw [if_neg (by omega)]
theorem wayL_s {g e : Int → Int} {i v : Int} (hi : i < g 0) (h : (0 < e i ∧ v = e i) ∨ (¬ 0 < e i ∧ v = g (6 + i))) : zu (wayL g e i) (6 + i) v = wayL g e (i + -1) := by
  funext j
  simp only [wayL, zu_at]
  by_cases q : j = 6 + i
  · subst q
    rw [if_pos rfl, show 6 + i - 6 = i by omega]
    rcases h with w | w
    · rw [if_pos ⟨by omega, by omega, w.1⟩, w.2]
    · rw [if_neg (fun y => w.1 y.2.2), w.2]
  · rw [if_neg q]
    by_cases w : 6 + i < j ∧ j < 6 + g 0 ∧ 0 < e (j - 6)
    · rw [if_pos w, if_pos ⟨by omega, w.2⟩]
    · rw [if_neg w, if_neg (fun y => w ⟨by omega, y.2⟩)]
theorem dg_step (w : Int) {k : Int} (h : 0 ≤ k) : w / zpw (2 * k) / 4 = w / zpw (2 * (k + 1)) := by
  rw [Int.ediv_ediv_of_nonneg (by have := zpw_pos (2 * k); omega), show 2 * (k + 1) = 2 * k + 1 + 1 by omega, zpw_s (by omega), zpw_s (by omega)]
  congr 1
  omega
theorem zpw_dbl {k : Int} (h : 0 ≤ k) : zpw (2 * (k + 1)) = zpw (2 * k) * 4 := by
  rw [show 2 * (k + 1) = 2 * k + 1 + 1 by omega, zpw_s (by omega), zpw_s (by omega)]
  omega
theorem wok_0 (g : Int → Int) : wokG g (eG (g 0) 0) := by
  intro i h1 h2 h3
  have : eG (g 0) 0 i = 0 := by
    show 0 / zpw (2 * (g 0 - 1 - i)) % 4 = 0
    rw [Int.zero_ediv]
    rfl
  omega
theorem cnc_b {g : Int → Int} (e : Int → Int) (d : Int) (h : 0 ≤ g 1) : 0 ≤ cncG g e d ∧ cncG g e d ≤ g 1 := cntZ_b _ 1 h
def BC (g : Int → Int) (d u bt bw : Int) : Prop := (bt = -1 ∧ bw = 0 ∧ u = 0) ∨ ((0 ≤ bw ∧ bw < u) ∧ wokG g (eG (g 0) bw) ∧ bt = cncG g (eG (g 0) bw) d ∧ ∀ v, 0 ≤ v → v < u → wokG g (eG (g 0) v) → cncG g (eG (g 0) v) d ≤ bt ∧ (v < bw → cncG g (eG (g 0) v) d < bt))
theorem BC_n {g : Int → Int} {d u bt bw : Int} (h1 : 0 ≤ g 1) (hu : 0 ≤ u) (hb : BC g d u bt bw) (hq : wokG g (eG (g 0) u) → cncG g (eG (g 0) u) d ≤ bt) : BC g d (u + 1) bt bw := by
  rcases hb with ⟨a1, a2, a3⟩ | ⟨a1, a2, a3, a4⟩
  · subst a3
    have := hq (wok_0 g)
    have := cnc_b (g := g) (eG (g 0) 0) d h1
    omega
  · refine Or.inr ⟨by omega, a2, a3, fun v q1 q2 q3 => ?_⟩
    rcases Int.lt_or_eq_of_le (show v ≤ u by omega) with q | q
    · exact a4 v q1 q q3
    · subst q
      exact ⟨hq q3, fun w => by omega⟩
theorem BC_y {g : Int → Int} {d u bt bw z : Int} (hu : 0 ≤ u) (hb : BC g d u bt bw) (hq : wokG g (eG (g 0) u)) (hz : z = cncG g (eG (g 0) u) d) (hlt : bt < z) : BC g d (u + 1) z u := by
  refine Or.inr ⟨by omega, hq, hz, fun v q1 q2 q3 => ?_⟩
  rcases Int.lt_or_eq_of_le (show v ≤ u by omega) with q | q
  · rcases hb with ⟨a1, a2, a3⟩ | ⟨a1, a2, a3, a4⟩
    · omega
    · have := (a4 v q1 q q3).1
      exact ⟨by omega, fun _ => by omega⟩
  · subst q
    exact ⟨by omega, fun w => by omega⟩
def CrewG (g : Int → Int) (d i z : Int) : Prop := ∃ bw, (0 ≤ bw ∧ bw < zpw (2 * g 0)) ∧ wokG g (eG (g 0) bw) ∧ (∀ v, 0 ≤ v → v < zpw (2 * g 0) → wokG g (eG (g 0) v) → cncG g (eG (g 0) v) d ≤ cncG g (eG (g 0) bw) d ∧ (v < bw → cncG g (eG (g 0) v) d < cncG g (eG (g 0) bw) d)) ∧ z = if i = -1 then cncG g (eG (g 0) bw) d else eG (g 0) bw i - 1
theorem BC_e {g : Int → Int} {d bt bw i z : Int} (hb : BC g d (zpw (2 * g 0)) bt bw) (hz : (i = -1 ∧ z = bt) ∨ (¬ i = -1 ∧ z = eG (g 0) bw i - 1)) : CrewG g d i z := by
  rcases hb with ⟨a1, a2, a3⟩ | ⟨a1, a2, a3, a4⟩
  · have := zpw_pos (2 * g 0)
    omega
  · refine ⟨bw, a1, a2, ?_, ?_⟩
    · intro v q1 q2 q3
      rw [← a3]
      exact a4 v q1 q2 q3
    · rcases hz with q | q
      · rw [if_pos q.1, q.2, a3]
      · rw [if_neg q.1, q.2]
theorem BC_w {g : Int → Int} {d u bt bw : Int} (h : 0 < u) (hb : BC g d u bt bw) : (0 ≤ bw ∧ bw < u) ∧ wokG g (eG (g 0) bw) := by
  rcases hb with ⟨a1, a2, a3⟩ | ⟨a1, a2, a3, a4⟩
  · omega
  · exact ⟨a1, a2⟩

theorem goG_n {g : Int → Int} {h z j : Int} (hh : 0 ≤ h ∧ h ≤ 2) (hz : z = -1 ∨ (0 ≤ z ∧ z < 8)) (hj : j < 6 ∨ 17 ≤ j) : goG g h z j = g j := by
  unfold goG
  split
  · rfl
  · rw [zu_n _ _ (by omega), zu_n _ _ (by omega)]
theorem callsG_n {g : Int → Int} {h : Int} (hh : 0 ≤ h ∧ h ≤ 2) (h0 : 0 ≤ g 0 ∧ g 0 ≤ 8) (k : Int) : ∀ j, (j < 6 ∨ 17 ≤ j) → (callsG g h k).2 j = g j := by
  rcases Int.lt_or_le k 0 with q | q
  · intro j hj
    rw [callsG, fZ, show k.toNat = 0 by omega]
    rfl
  · have key : ∀ i, 0 ≤ i → i ≤ k → (∀ j, (j < 6 ∨ 17 ≤ j) → (callsG g h i).2 j = g j) :=
      fZ_ind (P := fun i (x : Int × (Int → Int)) => ∀ j, (j < 6 ∨ 17 ≤ j) → x.2 j = g j) (fun _ _ => rfl) (M := k) (fun i x q1 q2 e j hj => by
        show goG x.2 h (lstG x.2 h) j = g j
        have h1 := e 0 (by omega)
        have hb := lstG_b (g := x.2) h (by omega)
        rw [goG_n hh (hb.imp id (fun q => ⟨q.1, by omega⟩)) hj]
        exact e j hj)
    exact key k q (Int.le_refl k)
theorem mksG_n {g : Int → Int} (m : Int → Int) (h0 : 0 ≤ g 0 ∧ g 0 ≤ 8) {n : Int} (hn : 0 ≤ n ∧ n ≤ 3) : ∀ j, (j < 6 ∨ 17 ≤ j) → mksG g m n j = g j := by
  have key : ∀ i, 0 ≤ i → i ≤ n → (∀ j, (j < 6 ∨ 17 ≤ j) → mksG g m i j = g j) :=
    fZ_ind (P := fun i (x : Int → Int) => ∀ j, (j < 6 ∨ 17 ≤ j) → x j = g j) (fun _ _ => rfl) (M := n) (fun i x q1 q2 e j hj => by
      show (callsG x i (m i)).2 j = g j
      have h1 := e 0 (by omega)
      rw [callsG_n (by omega) (by omega) (m i) j hj]
      exact e j hj)
  exact key n hn.1 (Int.le_refl n)
theorem sum_mks {g m : Int → Int} (h0 : 0 ≤ g 0 ∧ g 0 ≤ 8) (bg : ∀ j, 0 ≤ g j ∧ g j ≤ 99) : -1 ≤ sumG (mksG g m 3) 0 ∧ sumG (mksG g m 3) 0 ≤ 1000 := by
  have hn := mksG_n (g := g) m h0 (n := 3) (by omega)
  have e0 := hn 0 (by omega)
  have key : ∀ i, 0 ≤ i → i ≤ mksG g m 3 0 → (0 ≤ sumZ (shZ (mksG g m 3) 6) (shZ (mksG g m 3) 28) 0 i ∧ sumZ (shZ (mksG g m 3) 6) (shZ (mksG g m 3) 28) 0 i ≤ 99 * i) := by
    refine fZ_ind (P := fun i x => 0 ≤ x ∧ x ≤ 99 * i) (by omega) (M := mksG g m 3 0) (fun i x q1 q2 e => ?_)
    have b := bg (28 + i)
    have e1 : shZ (mksG g m 3) 28 i = g (28 + i) := hn (28 + i) (by omega)
    split <;> omega
  have := key (mksG g m 3 0) (by omega) (Int.le_refl _)
  unfold sumG
  omega

abbrev rX8_ashoreBy : Room := { frames := 4, cells := 0, slots := 0, locals := 91 }
set_option maxHeartbeats 1000000 in
set_option maxRecDepth 100000 in
theorem c_X8_ashoreBy (l_ : Launch) (D : va_G) (cy : Nat → ClassId) (o : Nat → Nat) (ab : Int) (be : Int) (bl : Int) (ta : Int) (tl : Int) (tk : Int) (vl : Int) (g : Int → Int) (hd : Int → Int) (mk : Int → Int) (x : Int) (bg : ∀ j : Int, 0 ≤ g j ∧ g j ≤ 99) (bhd : ∀ j : Int, 0 ≤ hd j ∧ hd j ≤ 99) (bmk : ∀ j : Int, 0 ≤ mk j ∧ mk j ≤ 99) (rx : -2147483648 ≤ x ∧ x < 2147483648) (hg0 : 0 ≤ g 0 ∧ g 0 ≤ 8) (hg1 : 0 ≤ g 1 ∧ g 1 ≤ 3) (hx : 0 ≤ x ∧ x < 729) : CTi l_ D cy yX8_ashoreBy wsX8_ashoreBy rX8_ashoreBy [.ref (o 0), .int (zi x)] ([wO cy o ab be bl ta tl tk vl, wA cy (o 1) 192 g, wA cy (o 5) 36 hd, wA cy (o 6) 3 mk]) (fun (z : Int) (u : (Int → Int) × (Int → Int)) => (∀ h, 0 ≤ h → h < 3 → u.2 h = mkZ x h) ∧ ((z = -1 ∧ ¬ mokG g (mkZ x) 3) ∨ (z = sumG (mksG g (mkZ x) 3) 0 ∧ mokG g (mkZ x) 3)) ∧ (∀ j : Int, 0 ≤ u.1 j ∧ u.1 j ≤ 99) ∧ (∀ j : Int, 0 ≤ u.2 j ∧ u.2 j ≤ 99)) (fun (u : (Int → Int) × (Int → Int)) => [wO cy o ab be bl ta tl tk vl, wA cy (o 1) 192 g, wA cy (o 5) 36 u.1, wA cy (o 6) 3 u.2]) := by
  refine CTi.of RX8 cX8_ashoreBy 5 rfl (by decide) rfl (fun z u hz => rfl) (Nat.le_of_ble_eq_true rfl) ?_
  intro p_ e_ s_ m_ ar_ be_ me_ c_ Q_ A_ ls_ F_ K_ W_ hl hret
  have hl : lv_has ls_ 5 [(0, .ref (o 0)), (1, .int (zi x))] := hl
  obtain ⟨H_, hH_⟩ : ∃ x, x = s_.heap := ⟨_, rfl⟩
  obtain ⟨lo_, hlo_⟩ : ∃ x : List Loc, x = [] := ⟨_, rfl⟩
  have W_ : WD D A_ s_.heap ([wO cy o ab be bl ta tl tk vl, wA cy (o 1) 192 g, wA cy (o 5) 36 hd, wA cy (o 6) 3 mk]) H_ lo_ := by rw [hH_, hlo_]; exact W_
  rw [← hlo_]
  suffices hg_ : W p_ l_ e_ rX8_ashoreBy s_ m_ ar_ be_ me_ c_ H_ lo_ 0 0 Q_ (F0 m_ 0 ls_ []) by rw [hH_] at hg_; exact hg_
  clear hH_ hlo_
  have hinX8 : ∀ w ∈ u_ws RX8 TX8 19, w ∈ wsX8_ashoreBy := fun w h => List.mem_cons_of_mem _ (List.mem_append_right _ h)
  refine lv_aload_n F_.1 F_.2.1 dX8_ashoreBy_0 rfl (lv_at hl 0 rfl) ?_
  refine z_callVv F_ K_ W_ [] (c_X8_layHand l_ D cy o ab be bl ta tl tk vl g hd bg bhd) 0 rfl gX8_ashoreBy_X8_layHand rfl (by decide +kernel) ⟨⟨Nat.le_of_ble_eq_true rfl, Nat.le_of_ble_eq_true rfl⟩, rfl, rfl, Nat.zero_le _, Nat.zero_le _⟩ 0 0 7 rfl rfl rfl rfl hl.1 rfl (Nat.le_of_ble_eq_true rfl) [0, 1, 2] [3] [wA cy (o 6) 3 mk] (fun (u_ : Unit) => [wO cy o ab be bl ta tl tk vl, wA cy (o 1) 192 g, wA cy (o 5) 36 g, wA cy (o 6) 3 mk]) 4 (by decide +kernel) rfl rfl rfl (fun _ => rfl) (fun _ => rfl) (fun _ => rfl) dX8_ashoreBy_1 (fun u_ H_ lo_ hw_ W_ => ?_)
  have W_ : WD D A_ s_.heap ([wO cy o ab be bl ta tl tk vl, wA cy (o 1) 192 g, wA cy (o 5) 36 g, wA cy (o 6) 3 mk]) H_ lo_ := W_
  replace hw_ : (∀ j : Int, 0 ≤ g j ∧ g j ≤ 99) := hw_
  have f1_B_H_g := hw_
  clear hw_
  refine lv_aload_n F_.1 F_.2.1 dX8_ashoreBy_4 rfl (lv_at hl 0 rfl) ?_
  refine z_get F_ K_ W_ 0 0 7 rfl rfl rfl (C := RX8) (T := TX8) (N := 19) rfl (by decide) hinX8 (List.mem_of_getElem? (i := 1) rfl) dX8_ashoreBy_5 ?_
  refine z_iconst F_ dX8_ashoreBy_8 ?_
  refine lv_iload_n F_.1 F_.2.1 dX8_ashoreBy_9 rfl (lv_at hl 1 rfl) ?_
  refine z_bipush F_ (by decide) dX8_ashoreBy_10 ?_
  refine z_idiv F_ (by omega) dX8_ashoreBy_12 ?_
  refine z_iast (sg' := [wO cy o ab be bl ta tl tk vl, wA cy (o 1) 192 g, wA cy (o 5) 36 g, wA cy (o 6) 3 (zu mk 0 (x / 81))]) F_ K_ W_ 3 0 rfl rfl rfl (by omega) (by decide) dX8_ashoreBy_13 (fun H_ lo_ W_ => ?_)
  obtain ⟨g_2, eg_2⟩ : ∃ x_ : Int → Int, x_ = zu mk 0 (x / 81) := ⟨_, rfl⟩
  rw [← eg_2] at W_
  have bg_2 : ∀ j : Int, 0 ≤ g_2 j ∧ g_2 j ≤ 99 := by rw [eg_2]; exact zu_b bmk (by omega)
  refine lv_aload_n F_.1 F_.2.1 dX8_ashoreBy_14 rfl (lv_at hl 0 rfl) ?_
  refine z_get F_ K_ W_ 0 0 7 rfl rfl rfl (C := RX8) (T := TX8) (N := 19) rfl (by decide) hinX8 (List.mem_of_getElem? (i := 1) rfl) dX8_ashoreBy_15 ?_
  refine z_iconst F_ dX8_ashoreBy_18 ?_
  refine lv_iload_n F_.1 F_.2.1 dX8_ashoreBy_19 rfl (lv_at hl 1 rfl) ?_
  refine z_bipush F_ (by decide) dX8_ashoreBy_20 ?_
  refine z_idiv F_ (by omega) dX8_ashoreBy_22 ?_
  refine z_bipush F_ (by decide) dX8_ashoreBy_23 ?_
  refine z_irem F_ (by omega) dX8_ashoreBy_25 ?_
  refine z_iast (sg' := [wO cy o ab be bl ta tl tk vl, wA cy (o 1) 192 g, wA cy (o 5) 36 g, wA cy (o 6) 3 (zu g_2 1 ((x / 9) % 9))]) F_ K_ W_ 3 0 rfl rfl rfl (by omega) (by decide) dX8_ashoreBy_26 (fun H_ lo_ W_ => ?_)
  obtain ⟨g_3, eg_3⟩ : ∃ x_ : Int → Int, x_ = zu g_2 1 ((x / 9) % 9) := ⟨_, rfl⟩
  rw [← eg_3] at W_
  have bg_3 : ∀ j : Int, 0 ≤ g_3 j ∧ g_3 j ≤ 99 := by rw [eg_3]; exact zu_b bg_2 (by omega)
  refine lv_aload_n F_.1 F_.2.1 dX8_ashoreBy_27 rfl (lv_at hl 0 rfl) ?_
  refine z_get F_ K_ W_ 0 0 7 rfl rfl rfl (C := RX8) (T := TX8) (N := 19) rfl (by decide) hinX8 (List.mem_of_getElem? (i := 1) rfl) dX8_ashoreBy_28 ?_
  refine z_iconst F_ dX8_ashoreBy_31 ?_
  refine lv_iload_n F_.1 F_.2.1 dX8_ashoreBy_32 rfl (lv_at hl 1 rfl) ?_
  refine z_bipush F_ (by decide) dX8_ashoreBy_33 ?_
  refine z_irem F_ (by omega) dX8_ashoreBy_35 ?_
  refine z_iast (sg' := [wO cy o ab be bl ta tl tk vl, wA cy (o 1) 192 g, wA cy (o 5) 36 g, wA cy (o 6) 3 (zu g_3 2 (x % 9))]) F_ K_ W_ 3 0 rfl rfl rfl (by omega) (by decide) dX8_ashoreBy_36 (fun H_ lo_ W_ => ?_)
  obtain ⟨g_4, eg_4⟩ : ∃ x_ : Int → Int, x_ = zu g_3 2 (x % 9) := ⟨_, rfl⟩
  rw [← eg_4] at W_
  have bg_4 : ∀ j : Int, 0 ≤ g_4 j ∧ g_4 j ≤ 99 := by rw [eg_4]; exact zu_b bg_3 (by omega)
  have hmk : ∀ h_, 0 ≤ h_ → h_ < 3 → g_4 h_ = mkZ x h_ := by
    intro h_ q1 q2
    simp only [*, zu_at, mkZ]
    rcases (show h_ = 0 ∨ h_ = 1 ∨ h_ = 2 by omega) with q | q | q <;> subst q <;> rfl
  refine z_iconst F_ dX8_ashoreBy_37 ?_
  refine lv_istore_n (lv' := [(2, .int (zi 0)), (0, .ref (o 0)), (1, .int (zi x))]) F_.1 F_.2.1 dX8_ashoreBy_38 rfl hl (by decide) rfl (fun ls_ hl => ?_)
  have L39 : ∀ (n_ : Nat) (h : Int) (X : Int → Int) (bX : ∀ j : Int, 0 ≤ X j ∧ X j ≤ 99) (hh : 0 ≤ h ∧ h ≤ 3) (hX : X = mksG g (mkZ x) h) (hX0 : X 0 = g 0) (hok : mokG g (mkZ x) h) (hm_ : (3 - h : Int) < (n_ : Int)) (ls_ : Array Slot) (H_ : Heap) (lo_ : List Loc), WD D A_ s_.heap ([wO cy o ab be bl ta tl tk vl, wA cy (o 1) 192 g, wA cy (o 5) 36 X, wA cy (o 6) 3 g_4]) H_ lo_ → lv_has ls_ 5 [(2, .int (zi h)), (0, .ref (o 0)), (1, .int (zi x))] → W p_ l_ e_ rX8_ashoreBy s_ m_ ar_ be_ me_ c_ H_ lo_ 0 0 Q_ (F0 m_ 39 ls_ []) := by
    intro n_
    induction n_ with
    | zero =>
      intro h X bX hh hX hX0 hok hm_ ls_ H_ lo_ _ _
      exact absurd hm_ (by omega)
    | succ n_ ih_ =>
      intro h X bX hh hX hX0 hok hm_ ls_ H_ lo_ W_ hl
      have ih39 := ih_
      refine lv_iload_n F_.1 F_.2.1 dX8_ashoreBy_39 rfl (lv_at hl 0 rfl) ?_
      refine z_iconst F_ dX8_ashoreBy_40 ?_
      refine z_icmp_ge (tgt := 116) F_ (by omega) dX8_ashoreBy_41 (by decide) (fun c41 => ?_) (fun c41 => ?_)
      · refine lv_aload_n F_.1 F_.2.1 dX8_ashoreBy_116 rfl (lv_at hl 1 rfl) ?_
        refine z_get F_ K_ W_ 0 0 6 rfl rfl rfl (C := RX8) (T := TX8) (N := 19) rfl (by decide) hinX8 (List.mem_of_getElem? (i := 3) rfl) dX8_ashoreBy_117 ?_
        refine z_iconst F_ dX8_ashoreBy_120 ?_
        refine z_callSip F_ K_ W_ [.ref (o 5), .int (zi 0)] (c_X8_skillsIn l_ D cy (o 5) 36 X 0 bX (by first | omega | assumption) (by first | omega | assumption) (by first | omega | assumption)) 2 rfl gX8_ashoreBy_X8_skillsIn rfl (by decide +kernel) ⟨⟨Nat.le_of_ble_eq_true rfl, Nat.le_of_ble_eq_true rfl⟩, rfl, rfl, Nat.zero_le _, Nat.zero_le _⟩ hl.1 rfl (Nat.le_of_ble_eq_true rfl) [2] [0, 1, 3] [wO cy o ab be bl ta tl tk vl, wA cy (o 1) 192 g, wA cy (o 6) 3 g_4] 4 (by decide +kernel) rfl rfl rfl dX8_ashoreBy_121 (fun z_5 _ H_ lo_ hw_ W_ => ?_)
        replace hw_ : (z_5 = sumG X 0) := hw_
        have f121_v := hw_
        clear hw_
        exact hret _ _ _ _ z_5 (X, g_4) dX8_ashoreBy_124 ⟨(by exact hmk), (by exact Or.inr ⟨by rw [f121_v, hX, show h = 3 by omega], by rw [show (3 : Int) = h by omega]; exact hok⟩), bX, bg_4⟩ W_
      · have mb44 := mkZ_b h hx
        refine lv_aload_n F_.1 F_.2.1 dX8_ashoreBy_44 rfl (lv_at hl 1 rfl) ?_
        refine z_get F_ K_ W_ 0 0 7 rfl rfl rfl (C := RX8) (T := TX8) (N := 19) rfl (by decide) hinX8 (List.mem_of_getElem? (i := 1) rfl) dX8_ashoreBy_45 ?_
        refine lv_iload_n F_.1 F_.2.1 dX8_ashoreBy_48 rfl (lv_at hl 0 rfl) ?_
        refine z_iald F_ K_ W_ 3 0 rfl rfl (by omega) (by decide) dX8_ashoreBy_49 ?_
        have b_6 := bg_4 h
        have e50 := hmk h (by omega) (by omega)
        have J82 : ∀ (hc82 : 0 < mkZ x h → h < g 1 ∧ mkZ x h ≤ cntG g (h + 1)) (ls_ : Array Slot) (H_ : Heap) (lo_ : List Loc), WD D A_ s_.heap ([wO cy o ab be bl ta tl tk vl, wA cy (o 1) 192 g, wA cy (o 5) 36 X, wA cy (o 6) 3 g_4]) H_ lo_ → lv_has ls_ 5 [(2, .int (zi h)), (0, .ref (o 0)), (1, .int (zi x))] → W p_ l_ e_ rX8_ashoreBy s_ m_ ar_ be_ me_ c_ H_ lo_ 0 0 Q_ (F0 m_ 82 ls_ []) := by
          intro hc82 ls_ H_ lo_ W_ hl
          refine z_iconst F_ dX8_ashoreBy_82 ?_
          refine lv_istore_n (lv' := [(3, .int (zi 0)), (2, .int (zi h)), (0, .ref (o 0)), (1, .int (zi x))]) F_.1 F_.2.1 dX8_ashoreBy_83 rfl hl (by decide) rfl (fun ls_ hl => ?_)
          have L84 : ∀ (n_ : Nat) (k : Int) (Y : Int → Int) (bY : ∀ j : Int, 0 ≤ Y j ∧ Y j ≤ 99) (hk : 0 ≤ k ∧ k ≤ mkZ x h) (hY : Y = (callsG X h k).2) (hY0 : Y 0 = g 0) (hm_ : (mkZ x h - k : Int) < (n_ : Int)) (ls_ : Array Slot) (H_ : Heap) (lo_ : List Loc), WD D A_ s_.heap ([wO cy o ab be bl ta tl tk vl, wA cy (o 1) 192 g, wA cy (o 5) 36 Y, wA cy (o 6) 3 g_4]) H_ lo_ → lv_has ls_ 5 [(3, .int (zi k)), (2, .int (zi h)), (0, .ref (o 0)), (1, .int (zi x))] → W p_ l_ e_ rX8_ashoreBy s_ m_ ar_ be_ me_ c_ H_ lo_ 0 0 Q_ (F0 m_ 84 ls_ []) := by
            intro n_
            induction n_ with
            | zero =>
              intro k Y bY hk hY hY0 hm_ ls_ H_ lo_ _ _
              exact absurd hm_ (by omega)
            | succ n_ ih_ =>
              intro k Y bY hk hY hY0 hm_ ls_ H_ lo_ W_ hl
              have ih84 := ih_
              refine lv_iload_n F_.1 F_.2.1 dX8_ashoreBy_84 rfl (lv_at hl 0 rfl) ?_
              refine lv_aload_n F_.1 F_.2.1 dX8_ashoreBy_85 rfl (lv_at hl 2 rfl) ?_
              refine z_get F_ K_ W_ 0 0 7 rfl rfl rfl (C := RX8) (T := TX8) (N := 19) rfl (by decide) hinX8 (List.mem_of_getElem? (i := 1) rfl) dX8_ashoreBy_86 ?_
              refine lv_iload_n F_.1 F_.2.1 dX8_ashoreBy_89 rfl (lv_at hl 1 rfl) ?_
              refine z_iald F_ K_ W_ 3 0 rfl rfl (by omega) (by decide) dX8_ashoreBy_90 ?_
              have e91 := hmk h (by omega) (by omega)
              have mb91 := mkZ_b h hx
              refine z_icmp_ge (tgt := 110) F_ (by omega) dX8_ashoreBy_91 (by decide) (fun c91 => ?_) (fun c91 => ?_)
              · refine z_iinc (lv' := [(2, .int (zi (h + 1))), (3, .int (zi k)), (0, .ref (o 0)), (1, .int (zi x))]) F_ dX8_ashoreBy_110 hl (k := 1) rfl (by decide) rfl (fun ls_ hl => ?_)
                refine z_goto (tgt := 39) F_ dX8_ashoreBy_113 (by decide) ?_
                exact ih39 (h + 1) Y bY (by first | omega | assumption) (by rw [mksG_s _ _ hh.1, ← hX, hY]; congr 2; omega) (by first | omega | assumption) (by intro h_ q1 q2 q3; rcases Int.lt_or_eq_of_le (show h_ ≤ h by omega) with q | q; exact hok h_ q1 q q3; (subst q; exact hc82 q3)) (by omega) ls_ H_ lo_ W_ (lv_sub hl [0, 2, 3] rfl)
              · refine lv_aload_n F_.1 F_.2.1 dX8_ashoreBy_94 rfl (lv_at hl 2 rfl) ?_
                refine z_get F_ K_ W_ 0 0 6 rfl rfl rfl (C := RX8) (T := TX8) (N := 19) rfl (by decide) hinX8 (List.mem_of_getElem? (i := 3) rfl) dX8_ashoreBy_95 ?_
                refine lv_iload_n F_.1 F_.2.1 dX8_ashoreBy_98 rfl (lv_at hl 1 rfl) ?_
                refine z_callSi F_ K_ W_ [.ref (o 5), .int (zi h)] (c_X8_goCall l_ D cy (o 5) 36 Y h bY (by first | omega | assumption) (by first | omega | assumption) (by first | omega | assumption) (by first | omega | assumption)) 2 rfl gX8_ashoreBy_X8_goCall rfl (by decide +kernel) ⟨⟨Nat.le_of_ble_eq_true rfl, Nat.le_of_ble_eq_true rfl⟩, rfl, rfl, Nat.zero_le _, Nat.zero_le _⟩ hl.1 rfl (Nat.le_of_ble_eq_true rfl) [2] [0, 1, 3] [wO cy o ab be bl ta tl tk vl, wA cy (o 1) 192 g, wA cy (o 6) 3 g_4] (fun (u_ : (Int → Int)) => [wO cy o ab be bl ta tl tk vl, wA cy (o 1) 192 g, wA cy (o 5) 36 u_, wA cy (o 6) 3 g_4]) 4 (by decide +kernel) rfl rfl rfl (fun _ => rfl) (fun _ => rfl) (fun _ => rfl) dX8_ashoreBy_99 (fun z_7 u_ H_ lo_ hw_ W_ => ?_)
                obtain ⟨g2_8, rfl⟩ : ∃ x, x = u_ := ⟨_, rfl⟩
                have W_ : WD D A_ s_.heap ([wO cy o ab be bl ta tl tk vl, wA cy (o 1) 192 g, wA cy (o 5) 36 g2_8, wA cy (o 6) 3 g_4]) H_ lo_ := W_
                replace hw_ : (z_7 = lstG Y h) ∧ (g2_8 = goG Y h (lstG Y h)) ∧ ((z_7 = -1 ∨ (0 ≤ z_7 ∧ z_7 < Y 0)) ∧ g2_8 0 = Y 0 ∧ g2_8 1 = Y 1) ∧ (∀ j : Int, 0 ≤ g2_8 j ∧ g2_8 j ≤ 99) := hw_
                obtain ⟨f99_v, f99_c, f99_k, f99_B_A_g⟩ := hw_
                refine lv_istore (lv' := [(4, .int (zi z_7)), (3, .int (zi k)), (2, .int (zi h)), (0, .ref (o 0)), (1, .int (zi x))]) F_.1 F_.2.1 dX8_ashoreBy_102 hl (by decide) rfl (fun ls_ hl => ?_)
                refine z_iinc (lv' := [(3, .int (zi (k + 1))), (4, .int (zi z_7)), (2, .int (zi h)), (0, .ref (o 0)), (1, .int (zi x))]) F_ dX8_ashoreBy_104 hl (k := 1) rfl (by decide) rfl (fun ls_ hl => ?_)
                refine z_goto (tgt := 84) F_ dX8_ashoreBy_107 (by decide) ?_
                exact ih84 (k + 1) g2_8 f99_B_A_g (by first | omega | assumption) (by rw [callsG_s _ _ hk.1, f99_c, hY]) (by omega) (by omega) ls_ H_ lo_ W_ (lv_sub hl [0, 2, 3, 4] rfl)
          exact L84 ((mkZ x h - 0 : Int).toNat + 1) 0 X bX (by first | omega | assumption) (by rfl) (by first | omega | assumption) (by have := Int.self_le_toNat (mkZ x h - 0 : Int); omega) ls_ H_ lo_ W_ (lv_sub hl [0, 1, 2, 3] rfl)
        refine z_if_le (tgt := 82) F_ (by omega) dX8_ashoreBy_50 (by decide) (fun c50 => ?_) (fun c50 => ?_)
        · exact J82 (by intro q; omega) ls_ H_ lo_ W_ (lv_sub hl [0, 1, 2] rfl)
        · refine lv_iload_n F_.1 F_.2.1 dX8_ashoreBy_53 rfl (lv_at hl 0 rfl) ?_
          refine lv_aload_n F_.1 F_.2.1 dX8_ashoreBy_54 rfl (lv_at hl 1 rfl) ?_
          refine z_get F_ K_ W_ 0 0 0 rfl rfl rfl (C := RX8) (T := TX8) (N := 19) rfl (by decide) hinX8 (List.mem_of_getElem? (i := 2) rfl) dX8_ashoreBy_55 ?_
          refine z_iconst F_ dX8_ashoreBy_58 ?_
          refine z_iald F_ K_ W_ 1 0 rfl rfl (by omega) (by decide) dX8_ashoreBy_59 ?_
          have b_9 := bg 1
          refine z_icmp_ge (tgt := 80) F_ (by omega) dX8_ashoreBy_60 (by decide) (fun c60 => ?_) (fun c60 => ?_)
          · refine z_iconst F_ dX8_ashoreBy_80 ?_
            exact hret _ _ _ _ (-1) (X, g_4) dX8_ashoreBy_81 ⟨(by exact hmk), (by exact Or.inl ⟨rfl, fun q => by have w := q h (by omega) (by omega) (by omega); omega⟩), bX, bg_4⟩ W_
          · refine lv_aload_n F_.1 F_.2.1 dX8_ashoreBy_63 rfl (lv_at hl 1 rfl) ?_
            refine z_get F_ K_ W_ 0 0 7 rfl rfl rfl (C := RX8) (T := TX8) (N := 19) rfl (by decide) hinX8 (List.mem_of_getElem? (i := 1) rfl) dX8_ashoreBy_64 ?_
            refine lv_iload_n F_.1 F_.2.1 dX8_ashoreBy_67 rfl (lv_at hl 0 rfl) ?_
            refine z_iald F_ K_ W_ 3 0 rfl rfl (by omega) (by decide) dX8_ashoreBy_68 ?_
            refine lv_aload_n F_.1 F_.2.1 dX8_ashoreBy_69 rfl (lv_at hl 1 rfl) ?_
            refine z_get F_ K_ W_ 0 0 0 rfl rfl rfl (C := RX8) (T := TX8) (N := 19) rfl (by decide) hinX8 (List.mem_of_getElem? (i := 2) rfl) dX8_ashoreBy_70 ?_
            refine lv_iload_n F_.1 F_.2.1 dX8_ashoreBy_73 rfl (lv_at hl 0 rfl) ?_
            refine z_callSip F_ K_ W_ [.ref (o 1), .int (zi h)] (c_X8_aboard l_ D cy (o 1) 192 g h bg (by first | omega | assumption) (by first | omega | assumption) (by first | omega | assumption) (by first | omega | assumption)) 2 rfl gX8_ashoreBy_X8_aboard rfl (by decide +kernel) ⟨⟨Nat.le_of_ble_eq_true rfl, Nat.le_of_ble_eq_true rfl⟩, rfl, rfl, Nat.zero_le _, Nat.zero_le _⟩ hl.1 rfl (Nat.le_of_ble_eq_true rfl) [1] [0, 2, 3] [wO cy o ab be bl ta tl tk vl, wA cy (o 5) 36 X, wA cy (o 6) 3 g_4] 4 (by decide +kernel) rfl rfl rfl dX8_ashoreBy_74 (fun z_10 _ H_ lo_ hw_ W_ => ?_)
            replace hw_ : (z_10 = cntG g (h + 1)) := hw_
            have f74_v := hw_
            clear hw_
            have hcb : 0 ≤ cntG g (h + 1) ∧ cntG g (h + 1) ≤ g 0 := cntZ_b (shZ g 6) (h + 1) (m := g 0) hg0.1
            refine z_icmp_le (tgt := 82) F_ (by omega) dX8_ashoreBy_77 (by decide) (fun c77 => ?_) (fun c77 => ?_)
            · exact J82 (by intro q; omega) ls_ H_ lo_ W_ (lv_sub hl [0, 1, 2] rfl)
            · refine z_iconst F_ dX8_ashoreBy_80 ?_
              exact hret _ _ _ _ (-1) (X, g_4) dX8_ashoreBy_81 ⟨(by exact hmk), (by exact Or.inl ⟨rfl, fun q => by have w := q h (by omega) (by omega) (by omega); omega⟩), bX, bg_4⟩ W_
  exact L39 ((3 - 0 : Int).toNat + 1) 0 g f1_B_H_g (by first | omega | assumption) (by rfl) (by rfl) (by intro h_ q1 q2; omega) (by have := Int.self_le_toNat (3 - 0 : Int); omega) ls_ H_ lo_ W_ (lv_sub hl [0, 1, 2] rfl)
abbrev rX8_few : Room := { frames := 5, cells := 0, slots := 0, locals := 115 }
set_option maxHeartbeats 1000000 in
set_option maxRecDepth 100000 in
theorem c_X8_few (l_ : Launch) (D : va_G) (cy : Nat → ClassId) (o : Nat → Nat) (ab : Int) (be : Int) (bl : Int) (ta : Int) (tl : Int) (tk : Int) (vl : Int) (g : Int → Int) (rf : Int → Int) (hd : Int → Int) (mk : Int → Int) (bm : Int → Int) (sm : Int) (w : Int) (bg : ∀ j : Int, 0 ≤ g j ∧ g j ≤ 99) (bhd : ∀ j : Int, 0 ≤ hd j ∧ hd j ≤ 99) (bmk : ∀ j : Int, 0 ≤ mk j ∧ mk j ≤ 99) (bbm : ∀ j : Int, 0 ≤ bm j ∧ bm j ≤ 99) (rsm : -2147483648 ≤ sm ∧ sm < 2147483648) (rw : -2147483648 ≤ w ∧ w < 2147483648) (hg0 : 0 ≤ g 0 ∧ g 0 ≤ 8) (hg1 : 0 ≤ g 1 ∧ g 1 ≤ 3) : CTi l_ D cy yX8_few wsX8_few rX8_few [.ref (o 0), .int (zi sm), .int (zi w)] ([wO cy o ab be bl ta tl tk vl, wA cy (o 1) 192 g, wR cy (o 4) 3 rf, wA cy (o 5) 36 hd, wA cy (o 6) 3 mk, wA cy (o 7) 3 bm]) (fun (z : Int) (u : (Int → Int) × (Int → Int) × (Int → Int) × (Int → Int)) => ((¬ ((1 ≤ sm ∧ sm ≤ 72) ∧ (w = -1 ∨ (0 ≤ w ∧ w < g 1))) ∧ z = -10 ∧ u.1 = rfZ rf 0) ∨ (((1 ≤ sm ∧ sm ≤ 72) ∧ (w = -1 ∨ (0 ≤ w ∧ w < g 1))) ∧ FewG g sm w z ∧ u.1 = rf)) ∧ (∀ j : Int, 0 ≤ u.2.1 j ∧ u.2.1 j ≤ 99) ∧ (∀ j : Int, 0 ≤ u.2.2.1 j ∧ u.2.2.1 j ≤ 99) ∧ (∀ j : Int, 0 ≤ u.2.2.2 j ∧ u.2.2.2 j ≤ 99)) (fun (u : (Int → Int) × (Int → Int) × (Int → Int) × (Int → Int)) => [wO cy o ab be bl ta tl tk vl, wA cy (o 1) 192 g, wR cy (o 4) 3 u.1, wA cy (o 5) 36 u.2.1, wA cy (o 6) 3 u.2.2.1, wA cy (o 7) 3 u.2.2.2]) := by
  refine CTi.of RX8 cX8_few 8 rfl (by decide) rfl (fun z u hz => rfl) (Nat.le_of_ble_eq_true rfl) ?_
  intro p_ e_ s_ m_ ar_ be_ me_ c_ Q_ A_ ls_ F_ K_ W_ hl hret
  have hl : lv_has ls_ 8 [(0, .ref (o 0)), (1, .int (zi sm)), (2, .int (zi w))] := hl
  obtain ⟨H_, hH_⟩ : ∃ x, x = s_.heap := ⟨_, rfl⟩
  obtain ⟨lo_, hlo_⟩ : ∃ x : List Loc, x = [] := ⟨_, rfl⟩
  have W_ : WD D A_ s_.heap ([wO cy o ab be bl ta tl tk vl, wA cy (o 1) 192 g, wR cy (o 4) 3 rf, wA cy (o 5) 36 hd, wA cy (o 6) 3 mk, wA cy (o 7) 3 bm]) H_ lo_ := by rw [hH_, hlo_]; exact W_
  rw [← hlo_]
  suffices hg_ : W p_ l_ e_ rX8_few s_ m_ ar_ be_ me_ c_ H_ lo_ 0 0 Q_ (F0 m_ 0 ls_ []) by rw [hH_] at hg_; exact hg_
  clear hH_ hlo_
  have hinX8 : ∀ w ∈ u_ws RX8 TX8 19, w ∈ wsX8_few := fun w h => List.mem_cons_of_mem _ (List.mem_append_right _ h)
  refine lv_iload_n F_.1 F_.2.1 dX8_few_0 rfl (lv_at hl 1 rfl) ?_
  refine z_i2l F_ (by omega) dX8_few_1 ?_
  refine z_lconst (z := 1) F_ rfl dX8_few_2 ?_
  refine z_ldc2 (z := 72) F_ (F_.2.2.2.2 _ (List.mem_of_getElem? (i := 1) rfl)) rfl dX8_few_3 ?_
  refine z_callSip F_ K_ W_ [.long (zl sm), .long (zl 1), .long (zl 72)] (c_X8_in l_ D cy sm 1 72 (by first | omega | assumption)) 3 rfl gX8_few_X8_in rfl (by decide +kernel) ⟨⟨Nat.le_of_ble_eq_true rfl, Nat.le_of_ble_eq_true rfl⟩, rfl, rfl, Nat.zero_le _, Nat.zero_le _⟩ hl.1 rfl (Nat.le_of_ble_eq_true rfl) ([] : List Nat) [0, 1, 2, 3, 4, 5] [wO cy o ab be bl ta tl tk vl, wA cy (o 1) 192 g, wR cy (o 4) 3 rf, wA cy (o 5) 36 hd, wA cy (o 6) 3 mk, wA cy (o 7) 3 bm] 6 (by decide +kernel) rfl rfl rfl dX8_few_6 (fun z_1 _ H_ lo_ hw_ W_ => ?_)
  replace hw_ : ((z_1 = 1 ∧ (1 ≤ sm ∧ sm ≤ 72)) ∨ (z_1 = 0 ∧ ¬ (1 ≤ sm ∧ sm ≤ 72))) := hw_
  have f6_v := hw_
  clear hw_
  refine z_if_eq (tgt := 25) F_ (by omega) dX8_few_9 (by decide) (fun c9 => ?_) (fun c9 => ?_)
  · refine lv_aload_n F_.1 F_.2.1 dX8_few_25 rfl (lv_at hl 0 rfl) ?_
    refine z_bipush F_ (by decide) dX8_few_26 ?_
    refine z_callVi F_ K_ W_ [.int (zi (-10))] (c_X8_bad l_ D cy o ab be bl ta tl tk vl rf (-10) (by first | omega | assumption)) 1 rfl gX8_few_X8_bad rfl (by decide +kernel) ⟨⟨Nat.le_of_ble_eq_true rfl, Nat.le_of_ble_eq_true rfl⟩, rfl, rfl, Nat.zero_le _, Nat.zero_le _⟩ 0 0 7 rfl rfl rfl rfl hl.1 rfl (Nat.le_of_ble_eq_true rfl) [0, 2] [1, 3, 4, 5] [wA cy (o 1) 192 g, wA cy (o 5) 36 hd, wA cy (o 6) 3 mk, wA cy (o 7) 3 bm] (fun (u_ : (Int → Int)) => [wO cy o ab be bl ta tl tk vl, wA cy (o 1) 192 g, wR cy (o 4) 3 u_, wA cy (o 5) 36 hd, wA cy (o 6) 3 mk, wA cy (o 7) 3 bm]) 6 (by decide +kernel) rfl rfl rfl (fun _ => rfl) (fun _ => rfl) (fun _ => rfl) dX8_few_28 (fun z_2 u_ H_ lo_ hw_ W_ => ?_)
    obtain ⟨rf2_3, rfl⟩ : ∃ x, x = u_ := ⟨_, rfl⟩
    have W_ : WD D A_ s_.heap ([wO cy o ab be bl ta tl tk vl, wA cy (o 1) 192 g, wR cy (o 4) 3 rf2_3, wA cy (o 5) 36 hd, wA cy (o 6) 3 mk, wA cy (o 7) 3 bm]) H_ lo_ := W_
    replace hw_ : (z_2 = (-10)) ∧ (rf2_3 = rfZ rf 0) := hw_
    obtain ⟨f28_v, f28_r⟩ := hw_
    exact hret _ _ _ _ z_2 (rf2_3, hd, mk, bm) dX8_few_31 ⟨(by exact Or.inl ⟨by omega, by omega, by assumption⟩), bhd, bmk, bbm⟩ W_
  · refine lv_iload_n F_.1 F_.2.1 dX8_few_12 rfl (lv_at hl 2 rfl) ?_
    refine z_iconst F_ dX8_few_13 ?_
    have J32 : ∀ (hok : ((1 ≤ sm ∧ sm ≤ 72) ∧ (w = -1 ∨ (0 ≤ w ∧ w < g 1)))) (ls_ : Array Slot) (H_ : Heap) (lo_ : List Loc), WD D A_ s_.heap ([wO cy o ab be bl ta tl tk vl, wA cy (o 1) 192 g, wR cy (o 4) 3 rf, wA cy (o 5) 36 hd, wA cy (o 6) 3 mk, wA cy (o 7) 3 bm]) H_ lo_ → lv_has ls_ 8 [(0, .ref (o 0)), (1, .int (zi sm)), (2, .int (zi w))] → W p_ l_ e_ rX8_few s_ m_ ar_ be_ me_ c_ H_ lo_ 0 0 Q_ (F0 m_ 32 ls_ []) := by
      intro hok ls_ H_ lo_ W_ hl
      refine z_ldc (z := 1000000) F_ (F_.2.2.2.2 _ (List.mem_of_getElem? (i := 2) rfl)) rfl dX8_few_32 ?_
      refine lv_istore_n (lv' := [(3, .int (zi 1000000)), (0, .ref (o 0)), (1, .int (zi sm)), (2, .int (zi w))]) F_.1 F_.2.1 dX8_few_34 rfl hl (by decide) rfl (fun ls_ hl => ?_)
      refine z_iconst F_ dX8_few_35 ?_
      refine lv_istore (lv' := [(4, .int (zi 0)), (3, .int (zi 1000000)), (0, .ref (o 0)), (1, .int (zi sm)), (2, .int (zi w))]) F_.1 F_.2.1 dX8_few_36 hl (by decide) rfl (fun ls_ hl => ?_)
      have L38 : ∀ (n_ : Nat) (bt : Int) (x : Int) (X : Int → Int) (mm : Int → Int) (bb : Int → Int) (bX : ∀ j : Int, 0 ≤ X j ∧ X j ≤ 99) (bmm : ∀ j : Int, 0 ≤ mm j ∧ mm j ≤ 99) (bbb : ∀ j : Int, 0 ≤ bb j ∧ bb j ≤ 99) (hx : 0 ≤ x ∧ x ≤ 729) (hb : BF g sm x bt bb) (hbt : 0 ≤ bt ∧ bt ≤ 1000000) (hm_ : (729 - x : Int) < (n_ : Int)) (ls_ : Array Slot) (H_ : Heap) (lo_ : List Loc), WD D A_ s_.heap ([wO cy o ab be bl ta tl tk vl, wA cy (o 1) 192 g, wR cy (o 4) 3 rf, wA cy (o 5) 36 X, wA cy (o 6) 3 mm, wA cy (o 7) 3 bb]) H_ lo_ → lv_has ls_ 8 [(4, .int (zi x)), (3, .int (zi bt)), (0, .ref (o 0)), (1, .int (zi sm)), (2, .int (zi w))] → W p_ l_ e_ rX8_few s_ m_ ar_ be_ me_ c_ H_ lo_ 0 0 Q_ (F0 m_ 38 ls_ []) := by
        intro n_
        induction n_ with
        | zero =>
          intro bt x X mm bb bX bmm bbb hx hb hbt hm_ ls_ H_ lo_ _ _
          exact absurd hm_ (by omega)
        | succ n_ ih_ =>
          intro bt x X mm bb bX bmm bbb hx hb hbt hm_ ls_ H_ lo_ W_ hl
          have ih38 := ih_
          refine lv_iload F_.1 F_.2.1 dX8_few_38 (lv_at hl 0 rfl) ?_
          refine z_sipush F_ (by decide) dX8_few_40 ?_
          refine z_icmp_ge (tgt := 134) F_ (by omega) dX8_few_43 (by decide) (fun c43 => ?_) (fun c43 => ?_)
          · refine lv_iload_n F_.1 F_.2.1 dX8_few_134 rfl (lv_at hl 1 rfl) ?_
            refine z_ldc (z := 1000000) F_ (F_.2.2.2.2 _ (List.mem_of_getElem? (i := 2) rfl)) rfl dX8_few_135 ?_
            refine z_icmp_ne (tgt := 145) F_ (by omega) dX8_few_137 (by decide) (fun c137 => ?_) (fun c137 => ?_)
            · refine lv_iload_n F_.1 F_.2.1 dX8_few_145 rfl (lv_at hl 4 rfl) ?_
              refine z_iconst F_ dX8_few_146 ?_
              refine z_icmp_ne (tgt := 154) F_ (by omega) dX8_few_147 (by decide) (fun c147 => ?_) (fun c147 => ?_)
              · refine lv_aload_n F_.1 F_.2.1 dX8_few_154 rfl (lv_at hl 2 rfl) ?_
                refine z_get F_ K_ W_ 0 0 8 rfl rfl rfl (C := RX8) (T := TX8) (N := 19) rfl (by decide) hinX8 (List.mem_of_getElem? (i := 4) rfl) dX8_few_155 ?_
                refine lv_iload_n F_.1 F_.2.1 dX8_few_158 rfl (lv_at hl 4 rfl) ?_
                refine z_iald F_ K_ W_ 5 0 rfl rfl (by omega) (by decide) dX8_few_159 ?_
                have b_4 := bbb w
                exact hret _ _ _ _ (bb w) (rf, X, mm, bb) dX8_few_160 ⟨(by first | exact Or.inr ⟨hok, BF_e1 (by rw [show (729 : Int) = x by omega]; exact hb) (by omega), rfl⟩ | exact Or.inr ⟨hok, BF_e2 (by rw [show (729 : Int) = x by omega]; exact hb) (by omega) (by omega) (by first | exact Or.inl ⟨by omega, rfl⟩ | exact Or.inr ⟨by omega, rfl⟩), rfl⟩), bX, bmm, bbb⟩ W_
              · refine lv_iload_n F_.1 F_.2.1 dX8_few_150 rfl (lv_at hl 1 rfl) ?_
                refine z_goto (tgt := 160) F_ dX8_few_151 (by decide) ?_
                exact hret _ _ _ _ bt (rf, X, mm, bb) dX8_few_160 ⟨(by first | exact Or.inr ⟨hok, BF_e1 (by rw [show (729 : Int) = x by omega]; exact hb) (by omega), rfl⟩ | exact Or.inr ⟨hok, BF_e2 (by rw [show (729 : Int) = x by omega]; exact hb) (by omega) (by omega) (by first | exact Or.inl ⟨by omega, rfl⟩ | exact Or.inr ⟨by omega, rfl⟩), rfl⟩), bX, bmm, bbb⟩ W_
            · refine z_bipush F_ (by decide) dX8_few_140 ?_
              refine z_goto (tgt := 160) F_ dX8_few_142 (by decide) ?_
              exact hret _ _ _ _ (-6) (rf, X, mm, bb) dX8_few_160 ⟨(by first | exact Or.inr ⟨hok, BF_e1 (by rw [show (729 : Int) = x by omega]; exact hb) (by omega), rfl⟩ | exact Or.inr ⟨hok, BF_e2 (by rw [show (729 : Int) = x by omega]; exact hb) (by omega) (by omega) (by first | exact Or.inl ⟨by omega, rfl⟩ | exact Or.inr ⟨by omega, rfl⟩), rfl⟩), bX, bmm, bbb⟩ W_
          · refine lv_aload_n F_.1 F_.2.1 dX8_few_46 rfl (lv_at hl 2 rfl) ?_
            refine lv_iload F_.1 F_.2.1 dX8_few_47 (lv_at hl 0 rfl) ?_
            refine z_callVi F_ K_ W_ [.int (zi x)] (c_X8_ashoreBy l_ D cy o ab be bl ta tl tk vl g X mm x bg bX bmm (by first | omega | assumption) (by first | omega | assumption) (by first | omega | assumption) (by first | omega | assumption)) 1 rfl gX8_few_X8_ashoreBy rfl (by decide +kernel) ⟨⟨Nat.le_of_ble_eq_true rfl, Nat.le_of_ble_eq_true rfl⟩, rfl, rfl, Nat.zero_le _, Nat.zero_le _⟩ 0 0 7 rfl rfl rfl rfl hl.1 rfl (Nat.le_of_ble_eq_true rfl) [0, 1, 3, 4] [2, 5] [wR cy (o 4) 3 rf, wA cy (o 7) 3 bb] (fun (u_ : (Int → Int) × (Int → Int)) => [wO cy o ab be bl ta tl tk vl, wA cy (o 1) 192 g, wR cy (o 4) 3 rf, wA cy (o 5) 36 u_.1, wA cy (o 6) 3 u_.2, wA cy (o 7) 3 bb]) 6 (by decide +kernel) rfl rfl rfl (fun _ => rfl) (fun _ => rfl) (fun _ => rfl) dX8_few_49 (fun z_5 u_ H_ lo_ hw_ W_ => ?_)
            obtain ⟨h2_6, mk2_7⟩ := u_
            have W_ : WD D A_ s_.heap ([wO cy o ab be bl ta tl tk vl, wA cy (o 1) 192 g, wR cy (o 4) 3 rf, wA cy (o 5) 36 h2_6, wA cy (o 6) 3 mk2_7, wA cy (o 7) 3 bb]) H_ lo_ := W_
            replace hw_ : (∀ h, 0 ≤ h → h < 3 → mk2_7 h = mkZ x h) ∧ ((z_5 = -1 ∧ ¬ mokG g (mkZ x) 3) ∨ (z_5 = sumG (mksG g (mkZ x) 3) 0 ∧ mokG g (mkZ x) 3)) ∧ (∀ j : Int, 0 ≤ h2_6 j ∧ h2_6 j ≤ 99) ∧ (∀ j : Int, 0 ≤ mk2_7 j ∧ mk2_7 j ≤ 99) := hw_
            obtain ⟨f49_k, f49_v, f49_B_H_g, f49_B_M_g⟩ := hw_
            have hQ : QG g sm x ↔ sm ≤ z_5 := ⟨fun q => f49_v.elim (fun w_ => absurd q.1 w_.2) (fun w_ => by rw [w_.1]; exact q.2), fun q => f49_v.elim (fun w_ => absurd w_.1 (by omega)) (fun w_ => ⟨w_.2, by rw [← w_.1]; exact q⟩)⟩
            have hT0 := f49_k 0 (by omega) (by omega)
            have hT1 := f49_k 1 (by omega) (by omega)
            have hT2 := f49_k 2 (by omega) (by omega)
            have hTe : totM x = mkZ x 0 + mkZ x 1 + mkZ x 2 := rfl
            have hTb := totM_b (x := x) (by omega)
            have hzr : -1 ≤ z_5 ∧ z_5 ≤ 1000 := f49_v.elim (fun w_ => by have := w_.1; omega) (fun w_ => by rw [w_.1]; exact sum_mks hg0 bg)
            clear f49_v
            refine lv_iload_n F_.1 F_.2.1 dX8_few_52 rfl (lv_at hl 3 rfl) ?_
            have J61 : ∀ (k61_0 : Int) (g61 : ((z_5 < sm) ∧ (k61_0 = 0)) ∨ ((sm ≤ z_5) ∧ (k61_0 = 1))) (ls_ : Array Slot) (H_ : Heap) (lo_ : List Loc), WD D A_ s_.heap ([wO cy o ab be bl ta tl tk vl, wA cy (o 1) 192 g, wR cy (o 4) 3 rf, wA cy (o 5) 36 h2_6, wA cy (o 6) 3 mk2_7, wA cy (o 7) 3 bb]) H_ lo_ → lv_has ls_ 8 [(4, .int (zi x)), (3, .int (zi bt)), (0, .ref (o 0)), (1, .int (zi sm)), (2, .int (zi w))] → W p_ l_ e_ rX8_few s_ m_ ar_ be_ me_ c_ H_ lo_ 0 0 Q_ (F0 m_ 61 ls_ [.int (zi k61_0)]) := by
              intro k61_0 g61 ls_ H_ lo_ W_ hl
              refine lv_istore (lv' := [(5, .int (zi k61_0)), (4, .int (zi x)), (3, .int (zi bt)), (0, .ref (o 0)), (1, .int (zi sm)), (2, .int (zi w))]) F_.1 F_.2.1 dX8_few_61 hl (by decide) rfl (fun ls_ hl => ?_)
              refine lv_aload_n F_.1 F_.2.1 dX8_few_63 rfl (lv_at hl 3 rfl) ?_
              refine z_get F_ K_ W_ 0 0 7 rfl rfl rfl (C := RX8) (T := TX8) (N := 19) rfl (by decide) hinX8 (List.mem_of_getElem? (i := 3) rfl) dX8_few_64 ?_
              refine z_iconst F_ dX8_few_67 ?_
              refine z_iald F_ K_ W_ 4 0 rfl rfl (by omega) (by decide) dX8_few_68 ?_
              have b_8 := f49_B_M_g 0
              refine lv_aload_n F_.1 F_.2.1 dX8_few_69 rfl (lv_at hl 3 rfl) ?_
              refine z_get F_ K_ W_ 0 0 7 rfl rfl rfl (C := RX8) (T := TX8) (N := 19) rfl (by decide) hinX8 (List.mem_of_getElem? (i := 3) rfl) dX8_few_70 ?_
              refine z_iconst F_ dX8_few_73 ?_
              refine z_iald F_ K_ W_ 4 0 rfl rfl (by omega) (by decide) dX8_few_74 ?_
              have b_9 := f49_B_M_g 1
              refine z_iadd F_ dX8_few_75 ?_
              refine lv_aload_n F_.1 F_.2.1 dX8_few_76 rfl (lv_at hl 3 rfl) ?_
              refine z_get F_ K_ W_ 0 0 7 rfl rfl rfl (C := RX8) (T := TX8) (N := 19) rfl (by decide) hinX8 (List.mem_of_getElem? (i := 3) rfl) dX8_few_77 ?_
              refine z_iconst F_ dX8_few_80 ?_
              refine z_iald F_ K_ W_ 4 0 rfl rfl (by omega) (by decide) dX8_few_81 ?_
              have b_10 := f49_B_M_g 2
              refine z_iadd F_ dX8_few_82 ?_
              refine lv_istore (lv' := [(6, .int (zi (((mk2_7 0) + (mk2_7 1)) + (mk2_7 2)))), (5, .int (zi k61_0)), (4, .int (zi x)), (3, .int (zi bt)), (0, .ref (o 0)), (1, .int (zi sm)), (2, .int (zi w))]) F_.1 F_.2.1 dX8_few_83 hl (by decide) rfl (fun ls_ hl => ?_)
              refine lv_iload F_.1 F_.2.1 dX8_few_85 (lv_at hl 1 rfl) ?_
              refine z_if_eq (tgt := 128) F_ (by omega) dX8_few_87 (by decide) (fun c87 => ?_) (fun c87 => ?_)
              · refine z_iinc (lv' := [(4, .int (zi (x + 1))), (6, .int (zi (((mk2_7 0) + (mk2_7 1)) + (mk2_7 2)))), (5, .int (zi k61_0)), (3, .int (zi bt)), (0, .ref (o 0)), (1, .int (zi sm)), (2, .int (zi w))]) F_ dX8_few_128 hl (k := 2) rfl (by decide) rfl (fun ls_ hl => ?_)
                refine z_goto (tgt := 38) F_ dX8_few_131 (by decide) ?_
                exact ih38 bt (x + 1) h2_6 mk2_7 bb f49_B_H_g f49_B_M_g bbb (by first | omega | assumption) (by first | exact BF_n (by omega) hb (fun q => by have w_ := hQ.mp q; omega) | exact BF_y (by omega) hb (hQ.mpr (by omega)) (by omega) (fun h_ q1 q2 => (hcp h_ q1 (by omega)).trans (f49_k h_ q1 q2)) (by omega)) (by first | omega | assumption) (by omega) ls_ H_ lo_ W_ (lv_sub hl [0, 3, 4, 5, 6] rfl)
              · refine lv_iload F_.1 F_.2.1 dX8_few_90 (lv_at hl 0 rfl) ?_
                refine lv_iload_n F_.1 F_.2.1 dX8_few_92 rfl (lv_at hl 3 rfl) ?_
                refine z_icmp_ge (tgt := 128) F_ (by omega) dX8_few_93 (by decide) (fun c93 => ?_) (fun c93 => ?_)
                · refine z_iinc (lv' := [(4, .int (zi (x + 1))), (6, .int (zi (((mk2_7 0) + (mk2_7 1)) + (mk2_7 2)))), (5, .int (zi k61_0)), (3, .int (zi bt)), (0, .ref (o 0)), (1, .int (zi sm)), (2, .int (zi w))]) F_ dX8_few_128 hl (k := 2) rfl (by decide) rfl (fun ls_ hl => ?_)
                  refine z_goto (tgt := 38) F_ dX8_few_131 (by decide) ?_
                  exact ih38 bt (x + 1) h2_6 mk2_7 bb f49_B_H_g f49_B_M_g bbb (by first | omega | assumption) (by first | exact BF_n (by omega) hb (fun q => by have w_ := hQ.mp q; omega) | exact BF_y (by omega) hb (hQ.mpr (by omega)) (by omega) (fun h_ q1 q2 => (hcp h_ q1 (by omega)).trans (f49_k h_ q1 q2)) (by omega)) (by first | omega | assumption) (by omega) ls_ H_ lo_ W_ (lv_sub hl [0, 3, 4, 5, 6] rfl)
                · refine lv_iload F_.1 F_.2.1 dX8_few_96 (lv_at hl 0 rfl) ?_
                  refine lv_istore_n (lv' := [(3, .int (zi (((mk2_7 0) + (mk2_7 1)) + (mk2_7 2)))), (6, .int (zi (((mk2_7 0) + (mk2_7 1)) + (mk2_7 2)))), (5, .int (zi k61_0)), (4, .int (zi x)), (0, .ref (o 0)), (1, .int (zi sm)), (2, .int (zi w))]) F_.1 F_.2.1 dX8_few_98 rfl hl (by decide) rfl (fun ls_ hl => ?_)
                  refine z_iconst F_ dX8_few_99 ?_
                  refine lv_istore (lv' := [(7, .int (zi 0)), (3, .int (zi (((mk2_7 0) + (mk2_7 1)) + (mk2_7 2)))), (6, .int (zi (((mk2_7 0) + (mk2_7 1)) + (mk2_7 2)))), (5, .int (zi k61_0)), (4, .int (zi x)), (0, .ref (o 0)), (1, .int (zi sm)), (2, .int (zi w))]) F_.1 F_.2.1 dX8_few_100 hl (by decide) rfl (fun ls_ hl => ?_)
                  have L102 : ∀ (n_ : Nat) (k : Int) (b2 : Int → Int) (bb2 : ∀ j : Int, 0 ≤ b2 j ∧ b2 j ≤ 99) (hk : 0 ≤ k ∧ k ≤ 3) (hcp : ∀ h_, 0 ≤ h_ → h_ < k → b2 h_ = mk2_7 h_) (hm_ : (3 - k : Int) < (n_ : Int)) (ls_ : Array Slot) (H_ : Heap) (lo_ : List Loc), WD D A_ s_.heap ([wO cy o ab be bl ta tl tk vl, wA cy (o 1) 192 g, wR cy (o 4) 3 rf, wA cy (o 5) 36 h2_6, wA cy (o 6) 3 mk2_7, wA cy (o 7) 3 b2]) H_ lo_ → lv_has ls_ 8 [(7, .int (zi k)), (3, .int (zi (((mk2_7 0) + (mk2_7 1)) + (mk2_7 2)))), (6, .int (zi (((mk2_7 0) + (mk2_7 1)) + (mk2_7 2)))), (5, .int (zi k61_0)), (4, .int (zi x)), (0, .ref (o 0)), (1, .int (zi sm)), (2, .int (zi w))] → W p_ l_ e_ rX8_few s_ m_ ar_ be_ me_ c_ H_ lo_ 0 0 Q_ (F0 m_ 102 ls_ []) := by
                    intro n_
                    induction n_ with
                    | zero =>
                      intro k b2 bb2 hk hcp hm_ ls_ H_ lo_ _ _
                      exact absurd hm_ (by omega)
                    | succ n_ ih_ =>
                      intro k b2 bb2 hk hcp hm_ ls_ H_ lo_ W_ hl
                      have ih102 := ih_
                      refine lv_iload F_.1 F_.2.1 dX8_few_102 (lv_at hl 0 rfl) ?_
                      refine z_iconst F_ dX8_few_104 ?_
                      refine z_icmp_ge (tgt := 128) F_ (by omega) dX8_few_105 (by decide) (fun c105 => ?_) (fun c105 => ?_)
                      · refine z_iinc (lv' := [(4, .int (zi (x + 1))), (7, .int (zi k)), (3, .int (zi (((mk2_7 0) + (mk2_7 1)) + (mk2_7 2)))), (6, .int (zi (((mk2_7 0) + (mk2_7 1)) + (mk2_7 2)))), (5, .int (zi k61_0)), (0, .ref (o 0)), (1, .int (zi sm)), (2, .int (zi w))]) F_ dX8_few_128 hl (k := 4) rfl (by decide) rfl (fun ls_ hl => ?_)
                        refine z_goto (tgt := 38) F_ dX8_few_131 (by decide) ?_
                        exact ih38 (((mk2_7 0) + (mk2_7 1)) + (mk2_7 2)) (x + 1) h2_6 mk2_7 b2 f49_B_H_g f49_B_M_g bb2 (by first | omega | assumption) (by first | exact BF_n (by omega) hb (fun q => by have w_ := hQ.mp q; omega) | exact BF_y (by omega) hb (hQ.mpr (by omega)) (by omega) (fun h_ q1 q2 => (hcp h_ q1 (by omega)).trans (f49_k h_ q1 q2)) (by omega)) (by first | omega | assumption) (by omega) ls_ H_ lo_ W_ (lv_sub hl [0, 2, 5, 6, 7] rfl)
                      · refine lv_aload_n F_.1 F_.2.1 dX8_few_108 rfl (lv_at hl 5 rfl) ?_
                        refine z_get F_ K_ W_ 0 0 8 rfl rfl rfl (C := RX8) (T := TX8) (N := 19) rfl (by decide) hinX8 (List.mem_of_getElem? (i := 4) rfl) dX8_few_109 ?_
                        refine lv_iload F_.1 F_.2.1 dX8_few_112 (lv_at hl 0 rfl) ?_
                        refine lv_aload_n F_.1 F_.2.1 dX8_few_114 rfl (lv_at hl 5 rfl) ?_
                        refine z_get F_ K_ W_ 0 0 7 rfl rfl rfl (C := RX8) (T := TX8) (N := 19) rfl (by decide) hinX8 (List.mem_of_getElem? (i := 3) rfl) dX8_few_115 ?_
                        refine lv_iload F_.1 F_.2.1 dX8_few_118 (lv_at hl 0 rfl) ?_
                        refine z_iald F_ K_ W_ 4 0 rfl rfl (by omega) (by decide) dX8_few_120 ?_
                        have b_11 := f49_B_M_g k
                        refine z_iast (sg' := [wO cy o ab be bl ta tl tk vl, wA cy (o 1) 192 g, wR cy (o 4) 3 rf, wA cy (o 5) 36 h2_6, wA cy (o 6) 3 mk2_7, wA cy (o 7) 3 (zu b2 k (mk2_7 k))]) F_ K_ W_ 5 0 rfl rfl rfl (by omega) (by decide) dX8_few_121 (fun H_ lo_ W_ => ?_)
                        obtain ⟨g_12, eg_12⟩ : ∃ x_ : Int → Int, x_ = zu b2 k (mk2_7 k) := ⟨_, rfl⟩
                        rw [← eg_12] at W_
                        have bg_12 : ∀ j : Int, 0 ≤ g_12 j ∧ g_12 j ≤ 99 := by rw [eg_12]; exact zu_b bb2 (by omega)
                        refine z_iinc (lv' := [(7, .int (zi (k + 1))), (3, .int (zi (((mk2_7 0) + (mk2_7 1)) + (mk2_7 2)))), (6, .int (zi (((mk2_7 0) + (mk2_7 1)) + (mk2_7 2)))), (5, .int (zi k61_0)), (4, .int (zi x)), (0, .ref (o 0)), (1, .int (zi sm)), (2, .int (zi w))]) F_ dX8_few_122 hl (k := 0) rfl (by decide) rfl (fun ls_ hl => ?_)
                        refine z_goto (tgt := 102) F_ dX8_few_125 (by decide) ?_
                        exact ih102 (k + 1) g_12 bg_12 (by first | omega | assumption) (by intro h_ q1 q2; rw [eg_12, zu_at]; split; (rename_i q; rw [q]); exact hcp h_ q1 (by omega)) (by omega) ls_ H_ lo_ W_ (lv_sub hl [0, 1, 2, 3, 4, 5, 6, 7] rfl)
                  exact L102 ((3 - 0 : Int).toNat + 1) 0 bb bbb (by first | omega | assumption) (by intro h_ q1 q2; omega) (by have := Int.self_le_toNat (3 - 0 : Int); omega) ls_ H_ lo_ W_ (lv_sub hl [0, 1, 2, 3, 4, 5, 6, 7] rfl)
            refine z_icmp_lt (tgt := 60) F_ (by omega) dX8_few_53 (by decide) (fun c53 => ?_) (fun c53 => ?_)
            · refine z_iconst F_ dX8_few_60 ?_
              exact J61 0 (by first | omega | grind) ls_ H_ lo_ W_ (lv_sub hl [0, 1, 2, 3, 4] rfl)
            · refine z_iconst F_ dX8_few_56 ?_
              refine z_goto (tgt := 61) F_ dX8_few_57 (by decide) ?_
              exact J61 1 (by first | omega | grind) ls_ H_ lo_ W_ (lv_sub hl [0, 1, 2, 3, 4] rfl)
      exact L38 ((729 - 0 : Int).toNat + 1) 1000000 0 hd mk bm bhd bmk bbm (by first | omega | assumption) (by exact Or.inl ⟨rfl, fun y q1 q2 => by omega⟩) (by first | omega | assumption) (by have := Int.self_le_toNat (729 - 0 : Int); omega) ls_ H_ lo_ W_ (lv_sub hl [0, 1, 2, 3, 4] rfl)
    refine z_icmp_eq (tgt := 32) F_ (by omega) dX8_few_14 (by decide) (fun c14 => ?_) (fun c14 => ?_)
    · exact J32 (by first | omega | assumption) ls_ H_ lo_ W_ (lv_sub hl [0, 1, 2] rfl)
    · refine lv_aload_n F_.1 F_.2.1 dX8_few_17 rfl (lv_at hl 0 rfl) ?_
      refine lv_iload_n F_.1 F_.2.1 dX8_few_18 rfl (lv_at hl 2 rfl) ?_
      refine z_callVip F_ K_ W_ [.int (zi w)] (c_X8_isShip l_ D cy o ab be bl ta tl tk vl g w bg (by first | omega | assumption) (by first | omega | assumption)) 1 rfl gX8_few_X8_isShip rfl (by decide +kernel) ⟨⟨Nat.le_of_ble_eq_true rfl, Nat.le_of_ble_eq_true rfl⟩, rfl, rfl, Nat.zero_le _, Nat.zero_le _⟩ 0 0 7 rfl rfl rfl rfl hl.1 rfl (Nat.le_of_ble_eq_true rfl) [0, 1] [2, 3, 4, 5] [wR cy (o 4) 3 rf, wA cy (o 5) 36 hd, wA cy (o 6) 3 mk, wA cy (o 7) 3 bm] 6 (by decide +kernel) rfl rfl rfl dX8_few_19 (fun z_13 _ H_ lo_ hw_ W_ => ?_)
      replace hw_ : ((z_13 = 1 ∧ (0 ≤ w ∧ w < g 1)) ∨ (z_13 = 0 ∧ ¬ (0 ≤ w ∧ w < g 1))) := hw_
      have f19_v := hw_
      clear hw_
      refine z_if_ne (tgt := 32) F_ (by omega) dX8_few_22 (by decide) (fun c22 => ?_) (fun c22 => ?_)
      · exact J32 (by first | omega | assumption) ls_ H_ lo_ W_ (lv_sub hl [0, 1, 2] rfl)
      · refine lv_aload_n F_.1 F_.2.1 dX8_few_25 rfl (lv_at hl 0 rfl) ?_
        refine z_bipush F_ (by decide) dX8_few_26 ?_
        refine z_callVi F_ K_ W_ [.int (zi (-10))] (c_X8_bad l_ D cy o ab be bl ta tl tk vl rf (-10) (by first | omega | assumption)) 1 rfl gX8_few_X8_bad rfl (by decide +kernel) ⟨⟨Nat.le_of_ble_eq_true rfl, Nat.le_of_ble_eq_true rfl⟩, rfl, rfl, Nat.zero_le _, Nat.zero_le _⟩ 0 0 7 rfl rfl rfl rfl hl.1 rfl (Nat.le_of_ble_eq_true rfl) [0, 2] [1, 3, 4, 5] [wA cy (o 1) 192 g, wA cy (o 5) 36 hd, wA cy (o 6) 3 mk, wA cy (o 7) 3 bm] (fun (u_ : (Int → Int)) => [wO cy o ab be bl ta tl tk vl, wA cy (o 1) 192 g, wR cy (o 4) 3 u_, wA cy (o 5) 36 hd, wA cy (o 6) 3 mk, wA cy (o 7) 3 bm]) 6 (by decide +kernel) rfl rfl rfl (fun _ => rfl) (fun _ => rfl) (fun _ => rfl) dX8_few_28 (fun z_14 u_ H_ lo_ hw_ W_ => ?_)
        obtain ⟨rf2_15, rfl⟩ : ∃ x, x = u_ := ⟨_, rfl⟩
        have W_ : WD D A_ s_.heap ([wO cy o ab be bl ta tl tk vl, wA cy (o 1) 192 g, wR cy (o 4) 3 rf2_15, wA cy (o 5) 36 hd, wA cy (o 6) 3 mk, wA cy (o 7) 3 bm]) H_ lo_ := W_
        replace hw_ : (z_14 = (-10)) ∧ (rf2_15 = rfZ rf 0) := hw_
        obtain ⟨f28_v, f28_r⟩ := hw_
        exact hret _ _ _ _ z_14 (rf2_15, hd, mk, bm) dX8_few_31 ⟨(by exact Or.inl ⟨by omega, by omega, by assumption⟩), bhd, bmk, bbm⟩ W_
abbrev rX8_crewBy : Room := { frames := 2, cells := 0, slots := 0, locals := 46 }
set_option maxHeartbeats 1000000 in
set_option maxRecDepth 100000 in
theorem c_X8_crewBy (l_ : Launch) (D : va_G) (cy : Nat → ClassId) (o : Nat → Nat) (ab : Int) (be : Int) (bl : Int) (ta : Int) (tl : Int) (tk : Int) (vl : Int) (g : Int → Int) (hd : Int → Int) (gt : Int → Int) (w : Int) (d : Int) (bg : ∀ j : Int, 0 ≤ g j ∧ g j ≤ 99) (bhd : ∀ j : Int, 0 ≤ hd j ∧ hd j ≤ 99) (bgt : ∀ j : Int, 0 ≤ gt j ∧ gt j ≤ 99) (rw : -2147483648 ≤ w ∧ w < 2147483648) (rd : -2147483648 ≤ d ∧ d < 2147483648) (hg0 : 0 ≤ g 0 ∧ g 0 ≤ 8) (hg1 : 0 ≤ g 1 ∧ g 1 ≤ 3) (hw : 0 ≤ w ∧ w ≤ 65536) (hdd : 1 ≤ d ∧ d ≤ 30) : CTi l_ D cy yX8_crewBy wsX8_crewBy rX8_crewBy [.ref (o 0), .int (zi w), .int (zi d)] ([wO cy o ab be bl ta tl tk vl, wA cy (o 1) 192 g, wA cy (o 5) 36 hd, wA cy (o 8) 8 gt]) (fun (z : Int) (u : (Int → Int) × (Int → Int)) => (wokG g (eG (g 0) w) → ∀ j, 0 ≤ j → j < g 0 → u.2 j = eG (g 0) w j) ∧ ((z = -1 ∧ ¬ wokG g (eG (g 0) w)) ∨ (z = cncG g (eG (g 0) w) d ∧ wokG g (eG (g 0) w))) ∧ (∀ j : Int, 0 ≤ u.1 j ∧ u.1 j ≤ 99) ∧ (∀ j : Int, 0 ≤ u.2 j ∧ u.2 j ≤ 99)) (fun (u : (Int → Int) × (Int → Int)) => [wO cy o ab be bl ta tl tk vl, wA cy (o 1) 192 g, wA cy (o 5) 36 u.1, wA cy (o 8) 8 u.2]) := by
  refine CTi.of RX8 cX8_crewBy 6 rfl (by decide) rfl (fun z u hz => rfl) (Nat.le_of_ble_eq_true rfl) ?_
  intro p_ e_ s_ m_ ar_ be_ me_ c_ Q_ A_ ls_ F_ K_ W_ hl hret
  have hl : lv_has ls_ 6 [(0, .ref (o 0)), (1, .int (zi w)), (2, .int (zi d))] := hl
  obtain ⟨H_, hH_⟩ : ∃ x, x = s_.heap := ⟨_, rfl⟩
  obtain ⟨lo_, hlo_⟩ : ∃ x : List Loc, x = [] := ⟨_, rfl⟩
  have W_ : WD D A_ s_.heap ([wO cy o ab be bl ta tl tk vl, wA cy (o 1) 192 g, wA cy (o 5) 36 hd, wA cy (o 8) 8 gt]) H_ lo_ := by rw [hH_, hlo_]; exact W_
  rw [← hlo_]
  suffices hg_ : W p_ l_ e_ rX8_crewBy s_ m_ ar_ be_ me_ c_ H_ lo_ 0 0 Q_ (F0 m_ 0 ls_ []) by rw [hH_] at hg_; exact hg_
  clear hH_ hlo_
  have hinX8 : ∀ w ∈ u_ws RX8 TX8 19, w ∈ wsX8_crewBy := fun w h => List.mem_cons_of_mem _ (List.mem_append_right _ h)
  refine lv_iload_n F_.1 F_.2.1 dX8_crewBy_0 rfl (lv_at hl 1 rfl) ?_
  refine lv_istore_n (lv' := [(3, .int (zi w)), (0, .ref (o 0)), (1, .int (zi w)), (2, .int (zi d))]) F_.1 F_.2.1 dX8_crewBy_1 rfl hl (by decide) rfl (fun ls_ hl => ?_)
  refine lv_aload_n F_.1 F_.2.1 dX8_crewBy_2 rfl (lv_at hl 1 rfl) ?_
  refine z_callVv F_ K_ W_ [] (c_X8_layHand l_ D cy o ab be bl ta tl tk vl g hd bg bhd) 0 rfl gX8_crewBy_X8_layHand rfl (by decide +kernel) ⟨⟨Nat.le_of_ble_eq_true rfl, Nat.le_of_ble_eq_true rfl⟩, rfl, rfl, Nat.zero_le _, Nat.zero_le _⟩ 0 0 7 rfl rfl rfl rfl hl.1 rfl (Nat.le_of_ble_eq_true rfl) [0, 1, 2] [3] [wA cy (o 8) 8 gt] (fun (u_ : Unit) => [wO cy o ab be bl ta tl tk vl, wA cy (o 1) 192 g, wA cy (o 5) 36 g, wA cy (o 8) 8 gt]) 4 (by decide +kernel) rfl rfl rfl (fun _ => rfl) (fun _ => rfl) (fun _ => rfl) dX8_crewBy_3 (fun u_ H_ lo_ hw_ W_ => ?_)
  have W_ : WD D A_ s_.heap ([wO cy o ab be bl ta tl tk vl, wA cy (o 1) 192 g, wA cy (o 5) 36 g, wA cy (o 8) 8 gt]) H_ lo_ := W_
  replace hw_ : (∀ j : Int, 0 ≤ g j ∧ g j ≤ 99) := hw_
  have f3_B_H_g := hw_
  clear hw_
  refine lv_aload_n F_.1 F_.2.1 dX8_crewBy_6 rfl (lv_at hl 1 rfl) ?_
  refine z_callVip F_ K_ W_ [] (c_X8_many l_ D cy o ab be bl ta tl tk vl g bg) 0 rfl gX8_crewBy_X8_many rfl (by decide +kernel) ⟨⟨Nat.le_of_ble_eq_true rfl, Nat.le_of_ble_eq_true rfl⟩, rfl, rfl, Nat.zero_le _, Nat.zero_le _⟩ 0 0 7 rfl rfl rfl rfl hl.1 rfl (Nat.le_of_ble_eq_true rfl) [0, 1] [2, 3] [wA cy (o 5) 36 g, wA cy (o 8) 8 gt] 4 (by decide +kernel) rfl rfl rfl dX8_crewBy_7 (fun z_2 _ H_ lo_ hw_ W_ => ?_)
  replace hw_ : (z_2 = g 0) := hw_
  have f7_v := hw_
  clear hw_
  have f7_v := f7_v.symm
  subst f7_v
  refine z_iconst F_ dX8_crewBy_10 ?_
  refine z_isub F_ dX8_crewBy_11 ?_
  refine lv_istore (lv' := [(4, .int (zi ((g 0) - 1))), (3, .int (zi w)), (0, .ref (o 0)), (1, .int (zi w)), (2, .int (zi d))]) F_.1 F_.2.1 dX8_crewBy_12 hl (by decide) rfl (fun ls_ hl => ?_)
  have L14 : ∀ (n_ : Nat) (xw : Int) (i : Int) (gt1 : Int → Int) (X : Int → Int) (bgt1 : ∀ j : Int, 0 ≤ gt1 j ∧ gt1 j ≤ 99) (bX : ∀ j : Int, 0 ≤ X j ∧ X j ≤ 99) (hi : -1 ≤ i ∧ i < g 0) (hxw : xw = w / zpw (2 * (g 0 - 1 - i))) (hxb : 0 ≤ xw ∧ xw ≤ w) (hgt : ∀ j, i < j → j < g 0 → gt1 j = eG (g 0) w j) (hX : X = wayL g (eG (g 0) w) i) (hX0 : X 0 = g 0) (hwk : ∀ j, i < j → j < g 0 → 0 < eG (g 0) w j → g (6 + j) = 0 ∧ eG (g 0) w j ≤ g 1) (hm_ : (i + 1 : Int) < (n_ : Int)) (ls_ : Array Slot) (H_ : Heap) (lo_ : List Loc), WD D A_ s_.heap ([wO cy o ab be bl ta tl tk vl, wA cy (o 1) 192 g, wA cy (o 5) 36 X, wA cy (o 8) 8 gt1]) H_ lo_ → lv_has ls_ 6 [(4, .int (zi i)), (3, .int (zi xw)), (0, .ref (o 0)), (1, .int (zi w)), (2, .int (zi d))] → W p_ l_ e_ rX8_crewBy s_ m_ ar_ be_ me_ c_ H_ lo_ 0 0 Q_ (F0 m_ 14 ls_ []) := by
    intro n_
    induction n_ with
    | zero =>
      intro xw i gt1 X bgt1 bX hi hxw hxb hgt hX hX0 hwk hm_ ls_ H_ lo_ _ _
      exact absurd hm_ (by omega)
    | succ n_ ih_ =>
      intro xw i gt1 X bgt1 bX hi hxw hxb hgt hX hX0 hwk hm_ ls_ H_ lo_ W_ hl
      have ih14 := ih_
      refine lv_iload F_.1 F_.2.1 dX8_crewBy_14 (lv_at hl 0 rfl) ?_
      refine z_if_lt (tgt := 120) F_ (by omega) dX8_crewBy_16 (by decide) (fun c16 => ?_) (fun c16 => ?_)
      · have hi1 : i = -1 := by omega
        refine z_iconst F_ dX8_crewBy_120 ?_
        refine lv_istore (lv' := [(4, .int (zi 0)), (3, .int (zi xw)), (0, .ref (o 0)), (1, .int (zi w)), (2, .int (zi d))]) F_.1 F_.2.1 dX8_crewBy_121 hl (by decide) rfl (fun ls_ hl => ?_)
        refine z_iconst F_ dX8_crewBy_123 ?_
        refine lv_istore (lv' := [(5, .int (zi 0)), (4, .int (zi 0)), (3, .int (zi xw)), (0, .ref (o 0)), (1, .int (zi w)), (2, .int (zi d))]) F_.1 F_.2.1 dX8_crewBy_124 hl (by decide) rfl (fun ls_ hl => ?_)
        have L126 : ∀ (n_ : Nat) (ct : Int) (k : Int) (hk : 0 ≤ k ∧ k ≤ g 1) (hct : ct = cntZ (fun h_ => canZ X h_ d) 1 k) (hm_ : (g 1 - k : Int) < (n_ : Int)) (ls_ : Array Slot) (H_ : Heap) (lo_ : List Loc), WD D A_ s_.heap ([wO cy o ab be bl ta tl tk vl, wA cy (o 1) 192 g, wA cy (o 5) 36 X, wA cy (o 8) 8 gt1]) H_ lo_ → lv_has ls_ 6 [(5, .int (zi k)), (4, .int (zi ct)), (3, .int (zi xw)), (0, .ref (o 0)), (1, .int (zi w)), (2, .int (zi d))] → W p_ l_ e_ rX8_crewBy s_ m_ ar_ be_ me_ c_ H_ lo_ 0 0 Q_ (F0 m_ 126 ls_ []) := by
          intro n_
          induction n_ with
          | zero =>
            intro ct k hk hct hm_ ls_ H_ lo_ _ _
            exact absurd hm_ (by omega)
          | succ n_ ih_ =>
            intro ct k hk hct hm_ ls_ H_ lo_ W_ hl
            have ih126 := ih_
            refine lv_iload F_.1 F_.2.1 dX8_crewBy_126 (lv_at hl 0 rfl) ?_
            refine lv_aload_n F_.1 F_.2.1 dX8_crewBy_128 rfl (lv_at hl 3 rfl) ?_
            refine z_get F_ K_ W_ 0 0 0 rfl rfl rfl (C := RX8) (T := TX8) (N := 19) rfl (by decide) hinX8 (List.mem_of_getElem? (i := 2) rfl) dX8_crewBy_129 ?_
            refine z_iconst F_ dX8_crewBy_132 ?_
            refine z_iald F_ K_ W_ 1 0 rfl rfl (by omega) (by decide) dX8_crewBy_133 ?_
            have b_3 := bg 1
            refine z_icmp_ge (tgt := 166) F_ (by omega) dX8_crewBy_134 (by decide) (fun c134 => ?_) (fun c134 => ?_)
            · refine lv_iload F_.1 F_.2.1 dX8_crewBy_166 (lv_at hl 1 rfl) ?_
              exact hret _ _ _ _ ct (X, gt1) dX8_crewBy_168 ⟨(by intro _ j q1 q2; exact hgt j (by omega) q2), (by exact Or.inr ⟨by rw [hct, hX, hi1, show k = g 1 by omega]; rfl, fun j q1 q2 q3 => hwk j (by omega) q2 q3⟩), bX, bgt1⟩ W_
            · refine lv_iload F_.1 F_.2.1 dX8_crewBy_137 (lv_at hl 1 rfl) ?_
              refine lv_aload_n F_.1 F_.2.1 dX8_crewBy_139 rfl (lv_at hl 3 rfl) ?_
              refine z_get F_ K_ W_ 0 0 6 rfl rfl rfl (C := RX8) (T := TX8) (N := 19) rfl (by decide) hinX8 (List.mem_of_getElem? (i := 3) rfl) dX8_crewBy_140 ?_
              refine lv_iload F_.1 F_.2.1 dX8_crewBy_143 (lv_at hl 0 rfl) ?_
              refine lv_iload_n F_.1 F_.2.1 dX8_crewBy_145 rfl (lv_at hl 5 rfl) ?_
              refine z_callSip F_ K_ W_ [.ref (o 5), .int (zi k), .int (zi d)] (c_X8_canSail l_ D cy (o 5) 36 X k d bX (by first | omega | assumption) (by first | omega | assumption) (by first | omega | assumption) (by first | omega | assumption) (by first | omega | assumption) (by first | omega | assumption)) 3 rfl gX8_crewBy_X8_canSail rfl (by decide +kernel) ⟨⟨Nat.le_of_ble_eq_true rfl, Nat.le_of_ble_eq_true rfl⟩, rfl, rfl, Nat.zero_le _, Nat.zero_le _⟩ hl.1 rfl (Nat.le_of_ble_eq_true rfl) [2] [0, 1, 3] [wO cy o ab be bl ta tl tk vl, wA cy (o 1) 192 g, wA cy (o 8) 8 gt1] 4 (by decide +kernel) rfl rfl rfl dX8_crewBy_146 (fun z_4 _ H_ lo_ hw_ W_ => ?_)
              replace hw_ : ((z_4 = 1 ∧ canG X k d) ∨ (z_4 = 0 ∧ ¬ canG X k d)) := hw_
              have f146_v := hw_
              clear hw_
              have hcz := canZ_of f146_v
              have hc01 : z_4 = 0 ∨ z_4 = 1 := f146_v.elim (fun q => Or.inr q.1) (fun q => Or.inl q.1)
              clear f146_v
              refine z_if_eq (tgt := 156) F_ (by omega) dX8_crewBy_149 (by decide) (fun c149 => ?_) (fun c149 => ?_)
              · refine z_iconst F_ dX8_crewBy_156 ?_
                refine z_iadd F_ dX8_crewBy_157 ?_
                refine lv_istore (lv' := [(4, .int (zi (ct + 0))), (5, .int (zi k)), (3, .int (zi xw)), (0, .ref (o 0)), (1, .int (zi w)), (2, .int (zi d))]) F_.1 F_.2.1 dX8_crewBy_158 hl (by decide) rfl (fun ls_ hl => ?_)
                refine z_iinc (lv' := [(5, .int (zi (k + 1))), (4, .int (zi (ct + 0))), (3, .int (zi xw)), (0, .ref (o 0)), (1, .int (zi w)), (2, .int (zi d))]) F_ dX8_crewBy_160 hl (k := 1) rfl (by decide) rfl (fun ls_ hl => ?_)
                refine z_goto (tgt := 126) F_ dX8_crewBy_163 (by decide) ?_
                exact ih126 (ct + 0) (k + 1) (by first | omega | assumption) (by rw [cntZ_s _ _ hk.1, ← hct, ← hcz]; split <;> omega) (by omega) ls_ H_ lo_ W_ (lv_sub hl [0, 1, 2, 3, 4, 5] rfl)
              · refine z_iconst F_ dX8_crewBy_152 ?_
                refine z_goto (tgt := 157) F_ dX8_crewBy_153 (by decide) ?_
                refine z_iadd F_ dX8_crewBy_157 ?_
                refine lv_istore (lv' := [(4, .int (zi (ct + 1))), (5, .int (zi k)), (3, .int (zi xw)), (0, .ref (o 0)), (1, .int (zi w)), (2, .int (zi d))]) F_.1 F_.2.1 dX8_crewBy_158 hl (by decide) rfl (fun ls_ hl => ?_)
                refine z_iinc (lv' := [(5, .int (zi (k + 1))), (4, .int (zi (ct + 1))), (3, .int (zi xw)), (0, .ref (o 0)), (1, .int (zi w)), (2, .int (zi d))]) F_ dX8_crewBy_160 hl (k := 1) rfl (by decide) rfl (fun ls_ hl => ?_)
                refine z_goto (tgt := 126) F_ dX8_crewBy_163 (by decide) ?_
                exact ih126 (ct + 1) (k + 1) (by first | omega | assumption) (by rw [cntZ_s _ _ hk.1, ← hct, ← hcz]; split <;> omega) (by omega) ls_ H_ lo_ W_ (lv_sub hl [0, 1, 2, 3, 4, 5] rfl)
        exact L126 ((g 1 - 0 : Int).toNat + 1) 0 0 (by first | omega | assumption) (by rfl) (by have := Int.self_le_toNat (g 1 - 0 : Int); omega) ls_ H_ lo_ W_ (lv_sub hl [0, 1, 2, 3, 4, 5] rfl)
      · have hei : eG (g 0) w i = xw % 4 := by rw [hxw]; rfl
        refine lv_aload_n F_.1 F_.2.1 dX8_crewBy_19 rfl (lv_at hl 2 rfl) ?_
        refine z_get F_ K_ W_ 0 0 9 rfl rfl rfl (C := RX8) (T := TX8) (N := 19) rfl (by decide) hinX8 (List.mem_of_getElem? (i := 1) rfl) dX8_crewBy_20 ?_
        refine lv_iload F_.1 F_.2.1 dX8_crewBy_23 (lv_at hl 0 rfl) ?_
        refine lv_iload_n F_.1 F_.2.1 dX8_crewBy_25 rfl (lv_at hl 1 rfl) ?_
        refine z_iconst F_ dX8_crewBy_26 ?_
        refine z_irem F_ (by omega) dX8_crewBy_27 ?_
        refine z_iast (sg' := [wO cy o ab be bl ta tl tk vl, wA cy (o 1) 192 g, wA cy (o 5) 36 X, wA cy (o 8) 8 (zu gt1 i (xw % 4))]) F_ K_ W_ 3 0 rfl rfl rfl (by omega) (by decide) dX8_crewBy_28 (fun H_ lo_ W_ => ?_)
        obtain ⟨g_5, eg_5⟩ : ∃ x_ : Int → Int, x_ = zu gt1 i (xw % 4) := ⟨_, rfl⟩
        rw [← eg_5] at W_
        have bg_5 : ∀ j : Int, 0 ≤ g_5 j ∧ g_5 j ≤ 99 := by rw [eg_5]; exact zu_b bgt1 (by omega)
        refine lv_iload_n F_.1 F_.2.1 dX8_crewBy_29 rfl (lv_at hl 1 rfl) ?_
        refine z_iconst F_ dX8_crewBy_30 ?_
        refine z_idiv F_ (by omega) dX8_crewBy_31 ?_
        refine lv_istore_n (lv' := [(3, .int (zi (xw / 4))), (4, .int (zi i)), (0, .ref (o 0)), (1, .int (zi w)), (2, .int (zi d))]) F_.1 F_.2.1 dX8_crewBy_32 rfl hl (by decide) rfl (fun ls_ hl => ?_)
        have hgi : g_5 i = xw % 4 := by rw [eg_5, zu_s]
        have hgt2 : ∀ j, i - 1 < j → j < g 0 → g_5 j = eG (g 0) w j := by
          intro j h1 h2
          rw [eg_5, zu_at]
          split
          · rename_i q; rw [q]; exact hei.symm
          · exact hgt j (by omega) h2
        refine lv_aload_n F_.1 F_.2.1 dX8_crewBy_33 rfl (lv_at hl 2 rfl) ?_
        refine z_get F_ K_ W_ 0 0 9 rfl rfl rfl (C := RX8) (T := TX8) (N := 19) rfl (by decide) hinX8 (List.mem_of_getElem? (i := 1) rfl) dX8_crewBy_34 ?_
        refine lv_iload F_.1 F_.2.1 dX8_crewBy_37 (lv_at hl 1 rfl) ?_
        refine z_iald F_ K_ W_ 3 0 rfl rfl (by omega) (by decide) dX8_crewBy_39 ?_
        have b_6 := bg_5 i
        have J74 : ∀ (hc74 : 0 < xw % 4 → g (6 + i) = 0 ∧ xw % 4 ≤ g 1) (ls_ : Array Slot) (H_ : Heap) (lo_ : List Loc), WD D A_ s_.heap ([wO cy o ab be bl ta tl tk vl, wA cy (o 1) 192 g, wA cy (o 5) 36 X, wA cy (o 8) 8 g_5]) H_ lo_ → lv_has ls_ 6 [(3, .int (zi (xw / 4))), (4, .int (zi i)), (0, .ref (o 0)), (1, .int (zi w)), (2, .int (zi d))] → W p_ l_ e_ rX8_crewBy s_ m_ ar_ be_ me_ c_ H_ lo_ 0 0 Q_ (F0 m_ 74 ls_ []) := by
          intro hc74 ls_ H_ lo_ W_ hl
          refine lv_aload_n F_.1 F_.2.1 dX8_crewBy_74 rfl (lv_at hl 2 rfl) ?_
          refine z_get F_ K_ W_ 0 0 6 rfl rfl rfl (C := RX8) (T := TX8) (N := 19) rfl (by decide) hinX8 (List.mem_of_getElem? (i := 3) rfl) dX8_crewBy_75 ?_
          refine z_bipush F_ (by decide) dX8_crewBy_78 ?_
          refine lv_iload F_.1 F_.2.1 dX8_crewBy_80 (lv_at hl 1 rfl) ?_
          refine z_iadd F_ dX8_crewBy_82 ?_
          refine lv_aload_n F_.1 F_.2.1 dX8_crewBy_83 rfl (lv_at hl 2 rfl) ?_
          refine z_get F_ K_ W_ 0 0 9 rfl rfl rfl (C := RX8) (T := TX8) (N := 19) rfl (by decide) hinX8 (List.mem_of_getElem? (i := 1) rfl) dX8_crewBy_84 ?_
          refine lv_iload F_.1 F_.2.1 dX8_crewBy_87 (lv_at hl 1 rfl) ?_
          refine z_iald F_ K_ W_ 3 0 rfl rfl (by omega) (by decide) dX8_crewBy_89 ?_
          refine z_if_le (tgt := 103) F_ (by omega) dX8_crewBy_90 (by decide) (fun c90 => ?_) (fun c90 => ?_)
          · refine lv_aload_n F_.1 F_.2.1 dX8_crewBy_103 rfl (lv_at hl 2 rfl) ?_
            refine z_get F_ K_ W_ 0 0 6 rfl rfl rfl (C := RX8) (T := TX8) (N := 19) rfl (by decide) hinX8 (List.mem_of_getElem? (i := 3) rfl) dX8_crewBy_104 ?_
            refine z_bipush F_ (by decide) dX8_crewBy_107 ?_
            refine lv_iload F_.1 F_.2.1 dX8_crewBy_109 (lv_at hl 1 rfl) ?_
            refine z_iadd F_ dX8_crewBy_111 ?_
            refine z_iald F_ K_ W_ 2 0 rfl rfl (by omega) (by decide) dX8_crewBy_112 ?_
            have b_7 := bX (6 + i)
            refine z_iast (sg' := [wO cy o ab be bl ta tl tk vl, wA cy (o 1) 192 g, wA cy (o 5) 36 (zu X (6 + i) (X (6 + i))), wA cy (o 8) 8 g_5]) F_ K_ W_ 2 0 rfl rfl rfl (by omega) (by decide) dX8_crewBy_113 (fun H_ lo_ W_ => ?_)
            obtain ⟨g_8, eg_8⟩ : ∃ x_ : Int → Int, x_ = zu X (6 + i) (X (6 + i)) := ⟨_, rfl⟩
            rw [← eg_8] at W_
            have bg_8 : ∀ j : Int, 0 ≤ g_8 j ∧ g_8 j ≤ 99 := by rw [eg_8]; exact zu_b bX (by omega)
            refine z_iinc (lv' := [(4, .int (zi (i + (-1)))), (3, .int (zi (xw / 4))), (0, .ref (o 0)), (1, .int (zi w)), (2, .int (zi d))]) F_ dX8_crewBy_114 hl (k := 1) rfl (by decide) rfl (fun ls_ hl => ?_)
            refine z_goto (tgt := 14) F_ dX8_crewBy_117 (by decide) ?_
            exact ih14 (xw / 4) (i + (-1)) g_5 g_8 bg_5 bg_8 (by first | omega | assumption) (by rw [hxw, dg_step _ (by omega)]; congr 3; omega) (by first | omega | assumption) (by intro j h1 h2; exact hgt2 j (by omega) h2) (by rw [eg_8, hX]; exact wayL_s (by omega) (by first | exact Or.inl ⟨by omega, by omega⟩ | exact Or.inr ⟨by omega, wayL_at _⟩)) (by rw [eg_8, zu_n _ _ (by omega)]; exact hX0) (by intro j h1 h2 h3; rcases Int.lt_or_eq_of_le (show i ≤ j by omega) with q | q; exact hwk j q h2 h3; (subst q; exact hc74 (by omega) |> fun w_ => ⟨w_.1, by omega⟩)) (by omega) ls_ H_ lo_ W_ (lv_sub hl [0, 1, 2, 3, 4] rfl)
          · refine lv_aload_n F_.1 F_.2.1 dX8_crewBy_93 rfl (lv_at hl 2 rfl) ?_
            refine z_get F_ K_ W_ 0 0 9 rfl rfl rfl (C := RX8) (T := TX8) (N := 19) rfl (by decide) hinX8 (List.mem_of_getElem? (i := 1) rfl) dX8_crewBy_94 ?_
            refine lv_iload F_.1 F_.2.1 dX8_crewBy_97 (lv_at hl 1 rfl) ?_
            refine z_iald F_ K_ W_ 3 0 rfl rfl (by omega) (by decide) dX8_crewBy_99 ?_
            refine z_goto (tgt := 113) F_ dX8_crewBy_100 (by decide) ?_
            refine z_iast (sg' := [wO cy o ab be bl ta tl tk vl, wA cy (o 1) 192 g, wA cy (o 5) 36 (zu X (6 + i) (g_5 i)), wA cy (o 8) 8 g_5]) F_ K_ W_ 2 0 rfl rfl rfl (by omega) (by decide) dX8_crewBy_113 (fun H_ lo_ W_ => ?_)
            obtain ⟨g_9, eg_9⟩ : ∃ x_ : Int → Int, x_ = zu X (6 + i) (g_5 i) := ⟨_, rfl⟩
            rw [← eg_9] at W_
            have bg_9 : ∀ j : Int, 0 ≤ g_9 j ∧ g_9 j ≤ 99 := by rw [eg_9]; exact zu_b bX (by omega)
            refine z_iinc (lv' := [(4, .int (zi (i + (-1)))), (3, .int (zi (xw / 4))), (0, .ref (o 0)), (1, .int (zi w)), (2, .int (zi d))]) F_ dX8_crewBy_114 hl (k := 1) rfl (by decide) rfl (fun ls_ hl => ?_)
            refine z_goto (tgt := 14) F_ dX8_crewBy_117 (by decide) ?_
            exact ih14 (xw / 4) (i + (-1)) g_5 g_9 bg_5 bg_9 (by first | omega | assumption) (by rw [hxw, dg_step _ (by omega)]; congr 3; omega) (by first | omega | assumption) (by intro j h1 h2; exact hgt2 j (by omega) h2) (by rw [eg_9, hX]; exact wayL_s (by omega) (by first | exact Or.inl ⟨by omega, by omega⟩ | exact Or.inr ⟨by omega, wayL_at _⟩)) (by rw [eg_9, zu_n _ _ (by omega)]; exact hX0) (by intro j h1 h2 h3; rcases Int.lt_or_eq_of_le (show i ≤ j by omega) with q | q; exact hwk j q h2 h3; (subst q; exact hc74 (by omega) |> fun w_ => ⟨w_.1, by omega⟩)) (by omega) ls_ H_ lo_ W_ (lv_sub hl [0, 1, 2, 3, 4] rfl)
        refine z_if_le (tgt := 74) F_ (by omega) dX8_crewBy_40 (by decide) (fun c40 => ?_) (fun c40 => ?_)
        · exact J74 (by intro q; omega) ls_ H_ lo_ W_ (lv_sub hl [0, 1, 2, 3, 4] rfl)
        · refine lv_aload_n F_.1 F_.2.1 dX8_crewBy_43 rfl (lv_at hl 2 rfl) ?_
          refine z_get F_ K_ W_ 0 0 0 rfl rfl rfl (C := RX8) (T := TX8) (N := 19) rfl (by decide) hinX8 (List.mem_of_getElem? (i := 2) rfl) dX8_crewBy_44 ?_
          refine z_bipush F_ (by decide) dX8_crewBy_47 ?_
          refine lv_iload F_.1 F_.2.1 dX8_crewBy_49 (lv_at hl 1 rfl) ?_
          refine z_iadd F_ dX8_crewBy_51 ?_
          refine z_iald F_ K_ W_ 1 0 rfl rfl (by omega) (by decide) dX8_crewBy_52 ?_
          have b_10 := bg (6 + i)
          refine z_if_ne (tgt := 72) F_ (by omega) dX8_crewBy_53 (by decide) (fun c53 => ?_) (fun c53 => ?_)
          · refine z_iconst F_ dX8_crewBy_72 ?_
            exact hret _ _ _ _ (-1) (X, g_5) dX8_crewBy_73 ⟨(by intro q; have w_ := q i (by omega) (by omega) (by omega); omega), (by exact Or.inl ⟨rfl, fun q => by have w_ := q i (by omega) (by omega) (by omega); omega⟩), bX, bg_5⟩ W_
          · refine lv_aload_n F_.1 F_.2.1 dX8_crewBy_56 rfl (lv_at hl 2 rfl) ?_
            refine z_get F_ K_ W_ 0 0 9 rfl rfl rfl (C := RX8) (T := TX8) (N := 19) rfl (by decide) hinX8 (List.mem_of_getElem? (i := 1) rfl) dX8_crewBy_57 ?_
            refine lv_iload F_.1 F_.2.1 dX8_crewBy_60 (lv_at hl 1 rfl) ?_
            refine z_iald F_ K_ W_ 3 0 rfl rfl (by omega) (by decide) dX8_crewBy_62 ?_
            refine lv_aload_n F_.1 F_.2.1 dX8_crewBy_63 rfl (lv_at hl 2 rfl) ?_
            refine z_get F_ K_ W_ 0 0 0 rfl rfl rfl (C := RX8) (T := TX8) (N := 19) rfl (by decide) hinX8 (List.mem_of_getElem? (i := 2) rfl) dX8_crewBy_64 ?_
            refine z_iconst F_ dX8_crewBy_67 ?_
            refine z_iald F_ K_ W_ 1 0 rfl rfl (by omega) (by decide) dX8_crewBy_68 ?_
            have b_11 := bg 1
            refine z_icmp_le (tgt := 74) F_ (by omega) dX8_crewBy_69 (by decide) (fun c69 => ?_) (fun c69 => ?_)
            · exact J74 (by intro q; omega) ls_ H_ lo_ W_ (lv_sub hl [0, 1, 2, 3, 4] rfl)
            · refine z_iconst F_ dX8_crewBy_72 ?_
              exact hret _ _ _ _ (-1) (X, g_5) dX8_crewBy_73 ⟨(by intro q; have w_ := q i (by omega) (by omega) (by omega); omega), (by exact Or.inl ⟨rfl, fun q => by have w_ := q i (by omega) (by omega) (by omega); omega⟩), bX, bg_5⟩ W_
  exact L14 ((((g 0) - 1) + 1 : Int).toNat + 1) w ((g 0) - 1) gt g bgt f3_B_H_g (by first | omega | assumption) (by rw [show 2 * (g 0 - 1 - (g 0 - 1)) = 0 by omega, zpw_0, Int.ediv_one]) (by first | omega | assumption) (by intro j h1 h2; omega) (by exact (wayL_t rfl).symm) (by rfl) (by intro j h1 h2; omega) (by have := Int.self_le_toNat (((g 0) - 1) + 1 : Int); omega) ls_ H_ lo_ W_ (lv_sub hl [0, 1, 2, 3, 4] rfl)
abbrev rX8_crew : Room := { frames := 3, cells := 0, slots := 0, locals := 71 }
set_option maxHeartbeats 1000000 in
set_option maxRecDepth 100000 in
theorem c_X8_crew (l_ : Launch) (D : va_G) (cy : Nat → ClassId) (o : Nat → Nat) (ab : Int) (be : Int) (bl : Int) (ta : Int) (tl : Int) (tk : Int) (vl : Int) (g : Int → Int) (rf : Int → Int) (hd : Int → Int) (gt : Int → Int) (d : Int) (i : Int) (bg : ∀ j : Int, 0 ≤ g j ∧ g j ≤ 99) (bhd : ∀ j : Int, 0 ≤ hd j ∧ hd j ≤ 99) (bgt : ∀ j : Int, 0 ≤ gt j ∧ gt j ≤ 99) (rd : -2147483648 ≤ d ∧ d < 2147483648) (ri : -2147483648 ≤ i ∧ i < 2147483648) (hg0 : 0 ≤ g 0 ∧ g 0 ≤ 8) (hg1 : 0 ≤ g 1 ∧ g 1 ≤ 3) : CTi l_ D cy yX8_crew wsX8_crew rX8_crew [.ref (o 0), .int (zi d), .int (zi i)] ([wO cy o ab be bl ta tl tk vl, wA cy (o 1) 192 g, wR cy (o 4) 3 rf, wA cy (o 5) 36 hd, wA cy (o 8) 8 gt]) (fun (z : Int) (u : (Int → Int) × (Int → Int) × (Int → Int)) => ((¬ ((1 ≤ d ∧ d ≤ 30) ∧ (i = -1 ∨ (0 ≤ i ∧ i < g 0))) ∧ z = -10 ∧ u.1 = rfZ rf 0) ∨ (((1 ≤ d ∧ d ≤ 30) ∧ (i = -1 ∨ (0 ≤ i ∧ i < g 0))) ∧ CrewG g d i z ∧ u.1 = rf)) ∧ (∀ j : Int, 0 ≤ u.2.1 j ∧ u.2.1 j ≤ 99) ∧ (∀ j : Int, 0 ≤ u.2.2 j ∧ u.2.2 j ≤ 99)) (fun (u : (Int → Int) × (Int → Int) × (Int → Int)) => [wO cy o ab be bl ta tl tk vl, wA cy (o 1) 192 g, wR cy (o 4) 3 u.1, wA cy (o 5) 36 u.2.1, wA cy (o 8) 8 u.2.2]) := by
  refine CTi.of RX8 cX8_crew 8 rfl (by decide) rfl (fun z u hz => rfl) (Nat.le_of_ble_eq_true rfl) ?_
  intro p_ e_ s_ m_ ar_ be_ me_ c_ Q_ A_ ls_ F_ K_ W_ hl hret
  have hl : lv_has ls_ 8 [(0, .ref (o 0)), (1, .int (zi d)), (2, .int (zi i))] := hl
  obtain ⟨H_, hH_⟩ : ∃ x, x = s_.heap := ⟨_, rfl⟩
  obtain ⟨lo_, hlo_⟩ : ∃ x : List Loc, x = [] := ⟨_, rfl⟩
  have W_ : WD D A_ s_.heap ([wO cy o ab be bl ta tl tk vl, wA cy (o 1) 192 g, wR cy (o 4) 3 rf, wA cy (o 5) 36 hd, wA cy (o 8) 8 gt]) H_ lo_ := by rw [hH_, hlo_]; exact W_
  rw [← hlo_]
  suffices hg_ : W p_ l_ e_ rX8_crew s_ m_ ar_ be_ me_ c_ H_ lo_ 0 0 Q_ (F0 m_ 0 ls_ []) by rw [hH_] at hg_; exact hg_
  clear hH_ hlo_
  have hinX8 : ∀ w ∈ u_ws RX8 TX8 19, w ∈ wsX8_crew := fun w h => List.mem_cons_of_mem _ (List.mem_append_right _ h)
  refine lv_iload_n F_.1 F_.2.1 dX8_crew_0 rfl (lv_at hl 1 rfl) ?_
  refine z_callSip F_ K_ W_ [.int (zi d)] (c_X8_isFar l_ D cy d (by first | omega | assumption)) 1 rfl gX8_crew_X8_isFar rfl (by decide +kernel) ⟨⟨Nat.le_of_ble_eq_true rfl, Nat.le_of_ble_eq_true rfl⟩, rfl, rfl, Nat.zero_le _, Nat.zero_le _⟩ hl.1 rfl (Nat.le_of_ble_eq_true rfl) ([] : List Nat) [0, 1, 2, 3, 4] [wO cy o ab be bl ta tl tk vl, wA cy (o 1) 192 g, wR cy (o 4) 3 rf, wA cy (o 5) 36 hd, wA cy (o 8) 8 gt] 5 (by decide +kernel) rfl rfl rfl dX8_crew_1 (fun z_1 _ H_ lo_ hw_ W_ => ?_)
  replace hw_ : ((z_1 = 1 ∧ (1 ≤ d ∧ d ≤ 30)) ∨ (z_1 = 0 ∧ ¬ (1 ≤ d ∧ d ≤ 30))) := hw_
  have f1_v := hw_
  clear hw_
  refine z_if_eq (tgt := 20) F_ (by omega) dX8_crew_4 (by decide) (fun c4 => ?_) (fun c4 => ?_)
  · refine lv_aload_n F_.1 F_.2.1 dX8_crew_20 rfl (lv_at hl 0 rfl) ?_
    refine z_bipush F_ (by decide) dX8_crew_21 ?_
    refine z_callVi F_ K_ W_ [.int (zi (-10))] (c_X8_bad l_ D cy o ab be bl ta tl tk vl rf (-10) (by first | omega | assumption)) 1 rfl gX8_crew_X8_bad rfl (by decide +kernel) ⟨⟨Nat.le_of_ble_eq_true rfl, Nat.le_of_ble_eq_true rfl⟩, rfl, rfl, Nat.zero_le _, Nat.zero_le _⟩ 0 0 7 rfl rfl rfl rfl hl.1 rfl (Nat.le_of_ble_eq_true rfl) [0, 2] [1, 3, 4] [wA cy (o 1) 192 g, wA cy (o 5) 36 hd, wA cy (o 8) 8 gt] (fun (u_ : (Int → Int)) => [wO cy o ab be bl ta tl tk vl, wA cy (o 1) 192 g, wR cy (o 4) 3 u_, wA cy (o 5) 36 hd, wA cy (o 8) 8 gt]) 5 (by decide +kernel) rfl rfl rfl (fun _ => rfl) (fun _ => rfl) (fun _ => rfl) dX8_crew_23 (fun z_2 u_ H_ lo_ hw_ W_ => ?_)
    obtain ⟨rf2_3, rfl⟩ : ∃ x, x = u_ := ⟨_, rfl⟩
    have W_ : WD D A_ s_.heap ([wO cy o ab be bl ta tl tk vl, wA cy (o 1) 192 g, wR cy (o 4) 3 rf2_3, wA cy (o 5) 36 hd, wA cy (o 8) 8 gt]) H_ lo_ := W_
    replace hw_ : (z_2 = (-10)) ∧ (rf2_3 = rfZ rf 0) := hw_
    obtain ⟨f23_v, f23_r⟩ := hw_
    exact hret _ _ _ _ z_2 (rf2_3, hd, gt) dX8_crew_26 ⟨(by exact Or.inl ⟨by omega, by omega, by assumption⟩), bhd, bgt⟩ W_
  · refine lv_iload_n F_.1 F_.2.1 dX8_crew_7 rfl (lv_at hl 2 rfl) ?_
    refine z_iconst F_ dX8_crew_8 ?_
    have J27 : ∀ (hok : ((1 ≤ d ∧ d ≤ 30) ∧ (i = -1 ∨ (0 ≤ i ∧ i < g 0)))) (ls_ : Array Slot) (H_ : Heap) (lo_ : List Loc), WD D A_ s_.heap ([wO cy o ab be bl ta tl tk vl, wA cy (o 1) 192 g, wR cy (o 4) 3 rf, wA cy (o 5) 36 hd, wA cy (o 8) 8 gt]) H_ lo_ → lv_has ls_ 8 [(0, .ref (o 0)), (1, .int (zi d)), (2, .int (zi i))] → W p_ l_ e_ rX8_crew s_ m_ ar_ be_ me_ c_ H_ lo_ 0 0 Q_ (F0 m_ 27 ls_ []) := by
      intro hok ls_ H_ lo_ W_ hl
      refine z_iconst F_ dX8_crew_27 ?_
      refine lv_istore_n (lv' := [(3, .int (zi 1)), (0, .ref (o 0)), (1, .int (zi d)), (2, .int (zi i))]) F_.1 F_.2.1 dX8_crew_28 rfl hl (by decide) rfl (fun ls_ hl => ?_)
      refine z_iconst F_ dX8_crew_29 ?_
      refine lv_istore (lv' := [(4, .int (zi (-1))), (3, .int (zi 1)), (0, .ref (o 0)), (1, .int (zi d)), (2, .int (zi i))]) F_.1 F_.2.1 dX8_crew_30 hl (by decide) rfl (fun ls_ hl => ?_)
      refine z_iconst F_ dX8_crew_32 ?_
      refine lv_istore (lv' := [(5, .int (zi 0)), (4, .int (zi (-1))), (3, .int (zi 1)), (0, .ref (o 0)), (1, .int (zi d)), (2, .int (zi i))]) F_.1 F_.2.1 dX8_crew_33 hl (by decide) rfl (fun ls_ hl => ?_)
      refine z_iconst F_ dX8_crew_35 ?_
      refine lv_istore (lv' := [(6, .int (zi 0)), (5, .int (zi 0)), (4, .int (zi (-1))), (3, .int (zi 1)), (0, .ref (o 0)), (1, .int (zi d)), (2, .int (zi i))]) F_.1 F_.2.1 dX8_crew_36 hl (by decide) rfl (fun ls_ hl => ?_)
      have L38 : ∀ (n_ : Nat) (y1 : Int) (k : Int) (hk : 0 ≤ k ∧ k ≤ g 0) (hy : y1 = zpw (2 * k)) (hm_ : (g 0 - k : Int) < (n_ : Int)) (ls_ : Array Slot) (H_ : Heap) (lo_ : List Loc), WD D A_ s_.heap ([wO cy o ab be bl ta tl tk vl, wA cy (o 1) 192 g, wR cy (o 4) 3 rf, wA cy (o 5) 36 hd, wA cy (o 8) 8 gt]) H_ lo_ → lv_has ls_ 8 [(6, .int (zi k)), (5, .int (zi 0)), (4, .int (zi (-1))), (3, .int (zi y1)), (0, .ref (o 0)), (1, .int (zi d)), (2, .int (zi i))] → W p_ l_ e_ rX8_crew s_ m_ ar_ be_ me_ c_ H_ lo_ 0 0 Q_ (F0 m_ 38 ls_ []) := by
        intro n_
        induction n_ with
        | zero =>
          intro y1 k hk hy hm_ ls_ H_ lo_ _ _
          exact absurd hm_ (by omega)
        | succ n_ ih_ =>
          intro y1 k hk hy hm_ ls_ H_ lo_ W_ hl
          have ih38 := ih_
          refine lv_iload F_.1 F_.2.1 dX8_crew_38 (lv_at hl 0 rfl) ?_
          refine lv_aload_n F_.1 F_.2.1 dX8_crew_40 rfl (lv_at hl 4 rfl) ?_
          refine z_callVip F_ K_ W_ [] (c_X8_many l_ D cy o ab be bl ta tl tk vl g bg) 0 rfl gX8_crew_X8_many rfl (by decide +kernel) ⟨⟨Nat.le_of_ble_eq_true rfl, Nat.le_of_ble_eq_true rfl⟩, rfl, rfl, Nat.zero_le _, Nat.zero_le _⟩ 0 0 7 rfl rfl rfl rfl hl.1 rfl (Nat.le_of_ble_eq_true rfl) [0, 1] [2, 3, 4] [wR cy (o 4) 3 rf, wA cy (o 5) 36 hd, wA cy (o 8) 8 gt] 5 (by decide +kernel) rfl rfl rfl dX8_crew_41 (fun z_4 _ H_ lo_ hw_ W_ => ?_)
          replace hw_ : (z_4 = g 0) := hw_
          have f41_v := hw_
          clear hw_
          have f41_v := f41_v.symm
          subst f41_v
          refine z_icmp_ge (tgt := 57) F_ (by omega) dX8_crew_44 (by decide) (fun c44 => ?_) (fun c44 => ?_)
          · have hy16 := zpw_le (show 2 * k ≤ 16 by omega)
            have hp16 : zpw 16 = 65536 := rfl
            have hpp := zpw_pos (2 * k)
            have hye : y1 = zpw (2 * g 0) := by rw [hy]; congr 2; omega
            refine z_iconst F_ dX8_crew_57 ?_
            refine lv_istore (lv' := [(6, .int (zi 0)), (5, .int (zi 0)), (4, .int (zi (-1))), (3, .int (zi y1)), (0, .ref (o 0)), (1, .int (zi d)), (2, .int (zi i))]) F_.1 F_.2.1 dX8_crew_58 hl (by decide) rfl (fun ls_ hl => ?_)
            have L60 : ∀ (n_ : Nat) (bt : Int) (bw : Int) (u : Int) (X : Int → Int) (gt1 : Int → Int) (bX : ∀ j : Int, 0 ≤ X j ∧ X j ≤ 99) (bgt1 : ∀ j : Int, 0 ≤ gt1 j ∧ gt1 j ≤ 99) (hu : 0 ≤ u ∧ u ≤ y1) (hb : BC g d u bt bw) (hbt : -1 ≤ bt ∧ bt ≤ 3) (hm_ : (y1 - u : Int) < (n_ : Int)) (ls_ : Array Slot) (H_ : Heap) (lo_ : List Loc), WD D A_ s_.heap ([wO cy o ab be bl ta tl tk vl, wA cy (o 1) 192 g, wR cy (o 4) 3 rf, wA cy (o 5) 36 X, wA cy (o 8) 8 gt1]) H_ lo_ → lv_has ls_ 8 [(6, .int (zi u)), (5, .int (zi bw)), (4, .int (zi bt)), (3, .int (zi y1)), (0, .ref (o 0)), (1, .int (zi d)), (2, .int (zi i))] → W p_ l_ e_ rX8_crew s_ m_ ar_ be_ me_ c_ H_ lo_ 0 0 Q_ (F0 m_ 60 ls_ []) := by
              intro n_
              induction n_ with
              | zero =>
                intro bt bw u X gt1 bX bgt1 hu hb hbt hm_ ls_ H_ lo_ _ _
                exact absurd hm_ (by omega)
              | succ n_ ih_ =>
                intro bt bw u X gt1 bX bgt1 hu hb hbt hm_ ls_ H_ lo_ W_ hl
                have ih60 := ih_
                
                refine lv_iload F_.1 F_.2.1 dX8_crew_60 (lv_at hl 0 rfl) ?_
                refine lv_iload_n F_.1 F_.2.1 dX8_crew_62 rfl (lv_at hl 3 rfl) ?_
                refine z_icmp_ge (tgt := 113) F_ (by omega) dX8_crew_63 (by decide) (fun c63 => ?_) (fun c63 => ?_)
                · have hbw := BC_w (by omega) hb
                  refine lv_aload_n F_.1 F_.2.1 dX8_crew_113 rfl (lv_at hl 4 rfl) ?_
                  refine lv_iload F_.1 F_.2.1 dX8_crew_114 (lv_at hl 1 rfl) ?_
                  refine lv_iload_n F_.1 F_.2.1 dX8_crew_116 rfl (lv_at hl 5 rfl) ?_
                  refine z_callVi F_ K_ W_ [.int (zi bw), .int (zi d)] (c_X8_crewBy l_ D cy o ab be bl ta tl tk vl g X gt1 bw d bg bX bgt1 (by first | omega | assumption) (by first | omega | assumption) (by first | omega | assumption) (by first | omega | assumption) (by first | omega | assumption) (by first | omega | assumption)) 2 rfl gX8_crew_X8_crewBy rfl (by decide +kernel) ⟨⟨Nat.le_of_ble_eq_true rfl, Nat.le_of_ble_eq_true rfl⟩, rfl, rfl, Nat.zero_le _, Nat.zero_le _⟩ 0 0 7 rfl rfl rfl rfl hl.1 rfl (Nat.le_of_ble_eq_true rfl) [0, 1, 3, 4] [2] [wR cy (o 4) 3 rf] (fun (u_ : (Int → Int) × (Int → Int)) => [wO cy o ab be bl ta tl tk vl, wA cy (o 1) 192 g, wR cy (o 4) 3 rf, wA cy (o 5) 36 u_.1, wA cy (o 8) 8 u_.2]) 5 (by decide +kernel) rfl rfl rfl (fun _ => rfl) (fun _ => rfl) (fun _ => rfl) dX8_crew_117 (fun z_5 u_ H_ lo_ hw_ W_ => ?_)
                  obtain ⟨h2_6, gt2_7⟩ := u_
                  have W_ : WD D A_ s_.heap ([wO cy o ab be bl ta tl tk vl, wA cy (o 1) 192 g, wR cy (o 4) 3 rf, wA cy (o 5) 36 h2_6, wA cy (o 8) 8 gt2_7]) H_ lo_ := W_
                  replace hw_ : (wokG g (eG (g 0) bw) → ∀ j, 0 ≤ j → j < g 0 → gt2_7 j = eG (g 0) bw j) ∧ ((z_5 = -1 ∧ ¬ wokG g (eG (g 0) bw)) ∨ (z_5 = cncG g (eG (g 0) bw) d ∧ wokG g (eG (g 0) bw))) ∧ (∀ j : Int, 0 ≤ h2_6 j ∧ h2_6 j ≤ 99) ∧ (∀ j : Int, 0 ≤ gt2_7 j ∧ gt2_7 j ≤ 99) := hw_
                  obtain ⟨f117_k, f117_v, f117_B_H_g, f117_B_G_g⟩ := hw_
                  refine lv_istore (lv' := [(6, .int (zi z_5)), (5, .int (zi bw)), (4, .int (zi bt)), (3, .int (zi y1)), (0, .ref (o 0)), (1, .int (zi d)), (2, .int (zi i))]) F_.1 F_.2.1 dX8_crew_120 hl (by decide) rfl (fun ls_ hl => ?_)
                  refine lv_iload_n F_.1 F_.2.1 dX8_crew_122 rfl (lv_at hl 6 rfl) ?_
                  refine z_iconst F_ dX8_crew_123 ?_
                  have hgt2 := fun j q1 q2 => f117_k hbw.2 j q1 q2
                  refine z_icmp_ne (tgt := 132) F_ (by omega) dX8_crew_124 (by decide) (fun c124 => ?_) (fun c124 => ?_)
                  · refine lv_aload_n F_.1 F_.2.1 dX8_crew_132 rfl (lv_at hl 4 rfl) ?_
                    refine z_get F_ K_ W_ 0 0 9 rfl rfl rfl (C := RX8) (T := TX8) (N := 19) rfl (by decide) hinX8 (List.mem_of_getElem? (i := 1) rfl) dX8_crew_133 ?_
                    refine lv_iload_n F_.1 F_.2.1 dX8_crew_136 rfl (lv_at hl 6 rfl) ?_
                    refine z_iald F_ K_ W_ 4 0 rfl rfl (by omega) (by decide) dX8_crew_137 ?_
                    have b_8 := f117_B_G_g i
                    refine z_iconst F_ dX8_crew_138 ?_
                    refine z_isub F_ dX8_crew_139 ?_
                    exact hret _ _ _ _ ((gt2_7 i) - 1) (rf, h2_6, gt2_7) dX8_crew_140 ⟨(by exact Or.inr ⟨hok, BC_e (by rw [← hye, show y1 = u by omega]; exact hb) (by first | exact Or.inl ⟨by omega, rfl⟩ | exact Or.inr ⟨by omega, by rw [hgt2 i (by omega) (by omega)]⟩), rfl⟩), f117_B_H_g, f117_B_G_g⟩ W_
                  · refine lv_iload F_.1 F_.2.1 dX8_crew_127 (lv_at hl 2 rfl) ?_
                    refine z_goto (tgt := 140) F_ dX8_crew_129 (by decide) ?_
                    exact hret _ _ _ _ bt (rf, h2_6, gt2_7) dX8_crew_140 ⟨(by exact Or.inr ⟨hok, BC_e (by rw [← hye, show y1 = u by omega]; exact hb) (by first | exact Or.inl ⟨by omega, rfl⟩ | exact Or.inr ⟨by omega, by rw [hgt2 i (by omega) (by omega)]⟩), rfl⟩), f117_B_H_g, f117_B_G_g⟩ W_
                · refine lv_aload_n F_.1 F_.2.1 dX8_crew_66 rfl (lv_at hl 4 rfl) ?_
                  refine lv_iload F_.1 F_.2.1 dX8_crew_67 (lv_at hl 0 rfl) ?_
                  refine lv_iload_n F_.1 F_.2.1 dX8_crew_69 rfl (lv_at hl 5 rfl) ?_
                  refine z_callVi F_ K_ W_ [.int (zi u), .int (zi d)] (c_X8_crewBy l_ D cy o ab be bl ta tl tk vl g X gt1 u d bg bX bgt1 (by first | omega | assumption) (by first | omega | assumption) (by first | omega | assumption) (by first | omega | assumption) (by first | omega | assumption) (by first | omega | assumption)) 2 rfl gX8_crew_X8_crewBy rfl (by decide +kernel) ⟨⟨Nat.le_of_ble_eq_true rfl, Nat.le_of_ble_eq_true rfl⟩, rfl, rfl, Nat.zero_le _, Nat.zero_le _⟩ 0 0 7 rfl rfl rfl rfl hl.1 rfl (Nat.le_of_ble_eq_true rfl) [0, 1, 3, 4] [2] [wR cy (o 4) 3 rf] (fun (u_ : (Int → Int) × (Int → Int)) => [wO cy o ab be bl ta tl tk vl, wA cy (o 1) 192 g, wR cy (o 4) 3 rf, wA cy (o 5) 36 u_.1, wA cy (o 8) 8 u_.2]) 5 (by decide +kernel) rfl rfl rfl (fun _ => rfl) (fun _ => rfl) (fun _ => rfl) dX8_crew_70 (fun z_9 u_ H_ lo_ hw_ W_ => ?_)
                  obtain ⟨h2_10, gt2_11⟩ := u_
                  have W_ : WD D A_ s_.heap ([wO cy o ab be bl ta tl tk vl, wA cy (o 1) 192 g, wR cy (o 4) 3 rf, wA cy (o 5) 36 h2_10, wA cy (o 8) 8 gt2_11]) H_ lo_ := W_
                  replace hw_ : (wokG g (eG (g 0) u) → ∀ j, 0 ≤ j → j < g 0 → gt2_11 j = eG (g 0) u j) ∧ ((z_9 = -1 ∧ ¬ wokG g (eG (g 0) u)) ∨ (z_9 = cncG g (eG (g 0) u) d ∧ wokG g (eG (g 0) u))) ∧ (∀ j : Int, 0 ≤ h2_10 j ∧ h2_10 j ≤ 99) ∧ (∀ j : Int, 0 ≤ gt2_11 j ∧ gt2_11 j ≤ 99) := hw_
                  obtain ⟨f70_k, f70_v, f70_B_H_g, f70_B_G_g⟩ := hw_
                  have hzr : -1 ≤ z_9 ∧ z_9 ≤ 3 := f70_v.elim (fun w_ => by have := w_.1; omega) (fun w_ => by have := cnc_b (g := g) (eG (g 0) u) d (by omega); have := w_.1; omega)
                  refine lv_istore (lv' := [(7, .int (zi z_9)), (6, .int (zi u)), (5, .int (zi bw)), (4, .int (zi bt)), (3, .int (zi y1)), (0, .ref (o 0)), (1, .int (zi d)), (2, .int (zi i))]) F_.1 F_.2.1 dX8_crew_73 hl (by decide) rfl (fun ls_ hl => ?_)
                  refine lv_iload F_.1 F_.2.1 dX8_crew_75 (lv_at hl 0 rfl) ?_
                  refine lv_iload F_.1 F_.2.1 dX8_crew_77 (lv_at hl 3 rfl) ?_
                  have J89 : ∀ (k89_0 : Int) (g89 : ((z_9 ≤ bt) ∧ (k89_0 = bw)) ∨ ((bt < z_9) ∧ (k89_0 = u))) (ls_ : Array Slot) (H_ : Heap) (lo_ : List Loc), WD D A_ s_.heap ([wO cy o ab be bl ta tl tk vl, wA cy (o 1) 192 g, wR cy (o 4) 3 rf, wA cy (o 5) 36 h2_10, wA cy (o 8) 8 gt2_11]) H_ lo_ → lv_has ls_ 8 [(7, .int (zi z_9)), (6, .int (zi u)), (5, .int (zi bw)), (4, .int (zi bt)), (3, .int (zi y1)), (0, .ref (o 0)), (1, .int (zi d)), (2, .int (zi i))] → W p_ l_ e_ rX8_crew s_ m_ ar_ be_ me_ c_ H_ lo_ 0 0 Q_ (F0 m_ 89 ls_ [.int (zi k89_0)]) := by
                    intro k89_0 g89 ls_ H_ lo_ W_ hl
                    refine lv_istore (lv' := [(5, .int (zi k89_0)), (7, .int (zi z_9)), (6, .int (zi u)), (4, .int (zi bt)), (3, .int (zi y1)), (0, .ref (o 0)), (1, .int (zi d)), (2, .int (zi i))]) F_.1 F_.2.1 dX8_crew_89 hl (by decide) rfl (fun ls_ hl => ?_)
                    refine lv_iload F_.1 F_.2.1 dX8_crew_91 (lv_at hl 1 rfl) ?_
                    refine lv_iload F_.1 F_.2.1 dX8_crew_93 (lv_at hl 3 rfl) ?_
                    refine z_icmp_le (tgt := 103) F_ (by omega) dX8_crew_95 (by decide) (fun c95 => ?_) (fun c95 => ?_)
                    · refine lv_iload F_.1 F_.2.1 dX8_crew_103 (lv_at hl 3 rfl) ?_
                      refine lv_istore (lv' := [(4, .int (zi bt)), (5, .int (zi k89_0)), (7, .int (zi z_9)), (6, .int (zi u)), (3, .int (zi y1)), (0, .ref (o 0)), (1, .int (zi d)), (2, .int (zi i))]) F_.1 F_.2.1 dX8_crew_105 hl (by decide) rfl (fun ls_ hl => ?_)
                      refine z_iinc (lv' := [(6, .int (zi (u + 1))), (4, .int (zi bt)), (5, .int (zi k89_0)), (7, .int (zi z_9)), (3, .int (zi y1)), (0, .ref (o 0)), (1, .int (zi d)), (2, .int (zi i))]) F_ dX8_crew_107 hl (k := 3) rfl (by decide) rfl (fun ls_ hl => ?_)
                      refine z_goto (tgt := 60) F_ dX8_crew_110 (by decide) ?_
                      exact ih60 bt k89_0 (u + 1) h2_10 gt2_11 f70_B_H_g f70_B_G_g (by first | omega | assumption) (by first | (rw [show k89_0 = bw by omega]; exact BC_n (by omega) hu.1 hb (fun q => f70_v.elim (fun w_ => absurd q w_.2) (fun w_ => by rw [← w_.1]; omega))) | (rw [show k89_0 = u by omega]; have hq70 := f70_v.resolve_left (fun w_ => by have := w_.1; omega); exact BC_y hu.1 hb hq70.2 hq70.1 (by omega))) (by first | omega | assumption) (by omega) ls_ H_ lo_ W_ (lv_sub hl [0, 2, 1, 4, 5, 6, 7] rfl)
                    · refine lv_iload F_.1 F_.2.1 dX8_crew_98 (lv_at hl 1 rfl) ?_
                      refine z_goto (tgt := 105) F_ dX8_crew_100 (by decide) ?_
                      refine lv_istore (lv' := [(4, .int (zi z_9)), (5, .int (zi k89_0)), (7, .int (zi z_9)), (6, .int (zi u)), (3, .int (zi y1)), (0, .ref (o 0)), (1, .int (zi d)), (2, .int (zi i))]) F_.1 F_.2.1 dX8_crew_105 hl (by decide) rfl (fun ls_ hl => ?_)
                      refine z_iinc (lv' := [(6, .int (zi (u + 1))), (4, .int (zi z_9)), (5, .int (zi k89_0)), (7, .int (zi z_9)), (3, .int (zi y1)), (0, .ref (o 0)), (1, .int (zi d)), (2, .int (zi i))]) F_ dX8_crew_107 hl (k := 3) rfl (by decide) rfl (fun ls_ hl => ?_)
                      refine z_goto (tgt := 60) F_ dX8_crew_110 (by decide) ?_
                      exact ih60 z_9 k89_0 (u + 1) h2_10 gt2_11 f70_B_H_g f70_B_G_g (by first | omega | assumption) (by first | (rw [show k89_0 = bw by omega]; exact BC_n (by omega) hu.1 hb (fun q => f70_v.elim (fun w_ => absurd q w_.2) (fun w_ => by rw [← w_.1]; omega))) | (rw [show k89_0 = u by omega]; have hq70 := f70_v.resolve_left (fun w_ => by have := w_.1; omega); exact BC_y hu.1 hb hq70.2 hq70.1 (by omega))) (by first | omega | assumption) (by omega) ls_ H_ lo_ W_ (lv_sub hl [0, 2, 1, 4, 5, 6, 7] rfl)
                  refine z_icmp_le (tgt := 87) F_ (by omega) dX8_crew_79 (by decide) (fun c79 => ?_) (fun c79 => ?_)
                  · refine lv_iload F_.1 F_.2.1 dX8_crew_87 (lv_at hl 2 rfl) ?_
                    exact J89 bw (by first | omega | grind) ls_ H_ lo_ W_ (lv_sub hl [0, 1, 2, 3, 4, 5, 6, 7] rfl)
                  · refine lv_iload F_.1 F_.2.1 dX8_crew_82 (lv_at hl 1 rfl) ?_
                    refine z_goto (tgt := 89) F_ dX8_crew_84 (by decide) ?_
                    exact J89 u (by first | omega | grind) ls_ H_ lo_ W_ (lv_sub hl [0, 1, 2, 3, 4, 5, 6, 7] rfl)
            exact L60 ((y1 - 0 : Int).toNat + 1) (-1) 0 0 hd gt bhd bgt (by first | omega | assumption) (by exact Or.inl ⟨rfl, rfl, rfl⟩) (by first | omega | assumption) (by have := Int.self_le_toNat (y1 - 0 : Int); omega) ls_ H_ lo_ W_ (lv_sub hl [0, 1, 2, 3, 4, 5, 6] rfl)
          · refine lv_iload_n F_.1 F_.2.1 dX8_crew_47 rfl (lv_at hl 3 rfl) ?_
            refine z_iconst F_ dX8_crew_48 ?_
            refine z_imul F_ dX8_crew_49 ?_
            refine lv_istore_n (lv' := [(3, .int (zi (y1 * 4))), (6, .int (zi k)), (5, .int (zi 0)), (4, .int (zi (-1))), (0, .ref (o 0)), (1, .int (zi d)), (2, .int (zi i))]) F_.1 F_.2.1 dX8_crew_50 rfl hl (by decide) rfl (fun ls_ hl => ?_)
            refine z_iinc (lv' := [(6, .int (zi (k + 1))), (3, .int (zi (y1 * 4))), (5, .int (zi 0)), (4, .int (zi (-1))), (0, .ref (o 0)), (1, .int (zi d)), (2, .int (zi i))]) F_ dX8_crew_51 hl (k := 1) rfl (by decide) rfl (fun ls_ hl => ?_)
            refine z_goto (tgt := 38) F_ dX8_crew_54 (by decide) ?_
            exact ih38 (y1 * 4) (k + 1) (by first | omega | assumption) (by rw [hy, zpw_dbl hk.1]) (by omega) ls_ H_ lo_ W_ (lv_sub hl [0, 2, 3, 1, 4, 5, 6] rfl)
      exact L38 ((g 0 - 0 : Int).toNat + 1) 1 0 (by first | omega | assumption) (by rfl) (by have := Int.self_le_toNat (g 0 - 0 : Int); omega) ls_ H_ lo_ W_ (lv_sub hl [0, 1, 2, 3, 4, 5, 6] rfl)
    refine z_icmp_eq (tgt := 27) F_ (by omega) dX8_crew_9 (by decide) (fun c9 => ?_) (fun c9 => ?_)
    · exact J27 (by first | omega | assumption) ls_ H_ lo_ W_ (lv_sub hl [0, 1, 2] rfl)
    · refine lv_aload_n F_.1 F_.2.1 dX8_crew_12 rfl (lv_at hl 0 rfl) ?_
      refine lv_iload_n F_.1 F_.2.1 dX8_crew_13 rfl (lv_at hl 2 rfl) ?_
      refine z_callVip F_ K_ W_ [.int (zi i)] (c_X8_isMan l_ D cy o ab be bl ta tl tk vl g i bg (by first | omega | assumption) (by first | omega | assumption)) 1 rfl gX8_crew_X8_isMan rfl (by decide +kernel) ⟨⟨Nat.le_of_ble_eq_true rfl, Nat.le_of_ble_eq_true rfl⟩, rfl, rfl, Nat.zero_le _, Nat.zero_le _⟩ 0 0 7 rfl rfl rfl rfl hl.1 rfl (Nat.le_of_ble_eq_true rfl) [0, 1] [2, 3, 4] [wR cy (o 4) 3 rf, wA cy (o 5) 36 hd, wA cy (o 8) 8 gt] 5 (by decide +kernel) rfl rfl rfl dX8_crew_14 (fun z_12 _ H_ lo_ hw_ W_ => ?_)
      replace hw_ : ((z_12 = 1 ∧ (0 ≤ i ∧ i < g 0)) ∨ (z_12 = 0 ∧ ¬ (0 ≤ i ∧ i < g 0))) := hw_
      have f14_v := hw_
      clear hw_
      refine z_if_ne (tgt := 27) F_ (by omega) dX8_crew_17 (by decide) (fun c17 => ?_) (fun c17 => ?_)
      · exact J27 (by first | omega | assumption) ls_ H_ lo_ W_ (lv_sub hl [0, 1, 2] rfl)
      · refine lv_aload_n F_.1 F_.2.1 dX8_crew_20 rfl (lv_at hl 0 rfl) ?_
        refine z_bipush F_ (by decide) dX8_crew_21 ?_
        refine z_callVi F_ K_ W_ [.int (zi (-10))] (c_X8_bad l_ D cy o ab be bl ta tl tk vl rf (-10) (by first | omega | assumption)) 1 rfl gX8_crew_X8_bad rfl (by decide +kernel) ⟨⟨Nat.le_of_ble_eq_true rfl, Nat.le_of_ble_eq_true rfl⟩, rfl, rfl, Nat.zero_le _, Nat.zero_le _⟩ 0 0 7 rfl rfl rfl rfl hl.1 rfl (Nat.le_of_ble_eq_true rfl) [0, 2] [1, 3, 4] [wA cy (o 1) 192 g, wA cy (o 5) 36 hd, wA cy (o 8) 8 gt] (fun (u_ : (Int → Int)) => [wO cy o ab be bl ta tl tk vl, wA cy (o 1) 192 g, wR cy (o 4) 3 u_, wA cy (o 5) 36 hd, wA cy (o 8) 8 gt]) 5 (by decide +kernel) rfl rfl rfl (fun _ => rfl) (fun _ => rfl) (fun _ => rfl) dX8_crew_23 (fun z_13 u_ H_ lo_ hw_ W_ => ?_)
        obtain ⟨rf2_14, rfl⟩ : ∃ x, x = u_ := ⟨_, rfl⟩
        have W_ : WD D A_ s_.heap ([wO cy o ab be bl ta tl tk vl, wA cy (o 1) 192 g, wR cy (o 4) 3 rf2_14, wA cy (o 5) 36 hd, wA cy (o 8) 8 gt]) H_ lo_ := W_
        replace hw_ : (z_13 = (-10)) ∧ (rf2_14 = rfZ rf 0) := hw_
        obtain ⟨f23_v, f23_r⟩ := hw_
        exact hret _ _ _ _ z_13 (rf2_14, hd, gt) dX8_crew_26 ⟨(by exact Or.inl ⟨by omega, by omega, by assumption⟩), bhd, bgt⟩ W_
