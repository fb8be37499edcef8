/-! calls of one ship one behind another: who was left last, her calls, the places -/
def callsI (S M : Int) (sc mk ms mp : Int → Int) (h k : Int) : Int × (Int → Int) × (Int → Int) := fZ (fun _ x => (lstI S M x.2.1 mk ms x.2.2 h, goSc x.2.1 h (lstI S M x.2.1 mk ms x.2.2 h), goMp x.2.2 (lstI S M x.2.1 mk ms x.2.2 h))) (-1, sc, mp) k
theorem callsI_s (S M : Int) (sc mk ms mp : Int → Int) (h : Int) {k : Int} (q : 0 ≤ k) : callsI S M sc mk ms mp h (k + 1) = (lstI S M (callsI S M sc mk ms mp h k).2.1 mk ms (callsI S M sc mk ms mp h k).2.2 h, goSc (callsI S M sc mk ms mp h k).2.1 h (lstI S M (callsI S M sc mk ms mp h k).2.1 mk ms (callsI S M sc mk ms mp h k).2.2 h), goMp (callsI S M sc mk ms mp h k).2.2 (lstI S M (callsI S M sc mk ms mp h k).2.1 mk ms (callsI S M sc mk ms mp h k).2.2 h)) := fZ_s _ _ q
theorem fst_at {f : Int → Int} {i m : Int} (hi : 0 ≤ i ∧ i < m) (h0 : fstZ f i = -1) (h1 : f i = 1) : fstZ f m = i := by
  have e : fstZ f (i + 1) = i := by rw [fstZ_s _ hi.1, if_pos ⟨h0, h1⟩]
  exact fZ_stay (fun k => by rw [if_neg (fun q => by have := q.1; omega)]) (by omega) e (by omega)
theorem las_at {f : Int → Int} {i m : Int} (hi : 0 ≤ i ∧ i < m) (h1 : f i = 1) (h : ∀ j, i < j → j < m → ¬ f j = 1) : lasZ f m = i := by
  have e : lasZ f (i + 1) = i := by rw [lasZ_s _ hi.1, if_pos h1]
  have key : ∀ k, 0 ≤ k → k ≤ m → (i < k → lasZ f k = i) := by
    refine fZ_ind (P := fun k x => i < k → x = i) (fun q => by omega) (M := m) (fun k x q1 q2 q3 q4 => ?_)
    by_cases w : k = i
    · subst w
      rw [if_pos h1]
    · rw [if_neg (h k (by omega) q2)]
      exact q3 (by omega)
  exact key m (by omega) (Int.le_refl m) hi.2
theorem las_no {f : Int → Int} {m : Int} (hm : 0 ≤ m) (h : ∀ j, 0 ≤ j → j < m → ¬ f j = 1) : lasZ f m = -1 :=
  fZ_ind (P := fun _ x => x = -1) rfl (M := m) (fun k x q1 q2 q3 => by rw [if_neg (h k q1 q2)]; exact q3) m hm (Int.le_refl m)
/-- few: what the calls of all ships give -/
def FndI (S M : Int) (sc mk ms mp : Int → Int) (x z : Int) (fm2 : Int → Int) : Prop := (z = -6 ∧ (∀ a1 b1 c1, 0 ≤ a1 → 0 ≤ b1 → 0 ≤ c1 → a1 + b1 + c1 ≤ 8 → ¬ lvsP (rowsS S M sc mk ms mp 3).1 a1 b1 c1 (x - sumZ mp ms (-1) M))) ∨ ((0 ≤ z ∧ z ≤ 8) ∧ (∃ a b c, 0 ≤ a ∧ 0 ≤ b ∧ 0 ≤ c ∧ a + b + c = z ∧ lvsP (rowsS S M sc mk ms mp 3).1 a b c (x - sumZ mp ms (-1) M) ∧ fm2 0 = a ∧ fm2 1 = b ∧ fm2 2 = c ∧ (∀ a1 b1 c1, 0 ≤ a1 → 0 ≤ b1 → 0 ≤ c1 → a1 + b1 + c1 < z → ¬ lvsP (rowsS S M sc mk ms mp 3).1 a1 b1 c1 (x - sumZ mp ms (-1) M)) ∧ ∀ a1 b1 c1, 0 ≤ a1 → 0 ≤ b1 → 0 ≤ c1 → a1 + b1 + c1 = z → (a1 < a ∨ a1 = a ∧ b1 < b) → ¬ lvsP (rowsS S M sc mk ms mp 3).1 a1 b1 c1 (x - sumZ mp ms (-1) M)))
def FewI (S M : Int) (sc mk ms mp : Int → Int) (x w z : Int) : Prop := ∃ (t : Int) (fm : Int → Int), FndI S M sc mk ms mp x t fm ∧ ((t = -6 ∧ z = -6) ∨ (0 ≤ t ∧ z = if w = -1 then t else fm w))
def gnI (a b : Int) : Int := (if a = 1 then 6 else -4) - (if b = 1 then 2 else -2)
noncomputable def cnI (S M : Int) (sk ms mp : Int → Int) (h d : Int) : Int := isP (canI S M sk ms mp h d)
def watI (x y : Int) : Int := (if x ≤ 0 ∧ y ≤ 0 then 1 else 0) + (if 0 ≤ x ∧ y ≤ 3 then 2 else 0) + (if 0 ≤ y ∧ x ≤ 3 then 4 else 0) + (if 3 ≤ x ∧ 3 ≤ y then 8 else 0)
theorem zor_k {x k : Int} (h : (k = 1 ∧ x = 0) ∨ (k = 2 ∧ 0 ≤ x ∧ x < 2) ∨ (k = 4 ∧ 0 ≤ x ∧ x < 4) ∨ (k = 8 ∧ 0 ≤ x ∧ x < 8)) : zor x k = x + k := by
  rcases h with ⟨rfl, q⟩ | ⟨rfl, q⟩ | ⟨rfl, q⟩ | ⟨rfl, q⟩
  · exact zor_pw (k := 0) ⟨by omega, by rw [zpw_0]; omega⟩
  · exact zor_pw (k := 1) ⟨by omega, by show x < 2; omega⟩
  · exact zor_pw (k := 2) ⟨by omega, by show x < 4; omega⟩
  · exact zor_pw (k := 3) ⟨by omega, by show x < 8; omega⟩
theorem gcd_d {o u d : Int} (ho : 0 ≤ o ∧ o ≤ 8) (hu : 1 ≤ u ∧ u ≤ 8) (hd : 1 ≤ d ∧ d ≤ u) (h1 : d = 1 ∨ (o % d = 0 ∧ u % d = 0)) (h2 : ∀ v, d < v → v ≤ u → ¬ (o % v = 0 ∧ u % v = 0)) : gcdZ o u = d := by
  obtain ⟨o', rfl⟩ := Int.eq_ofNat_of_zero_le ho.1
  obtain ⟨u', rfl⟩ := Int.eq_ofNat_of_zero_le (show 0 ≤ u by omega)
  obtain ⟨d', rfl⟩ := Int.eq_ofNat_of_zero_le (show 0 ≤ d by omega)
  have d1 := Nat.gcd_dvd_left o' u'
  have d2 := Nat.gcd_dvd_right o' u'
  have hg0 : 0 < Nat.gcd o' u' := Nat.gcd_pos_of_pos_right _ (by omega)
  have hgl : Nat.gcd o' u' ≤ u' := Nat.le_of_dvd (by omega) d2
  have hle : Nat.gcd o' u' ≤ d' := by
    rcases Nat.lt_or_ge d' (Nat.gcd o' u') with q | q
    · exfalso
      refine h2 ((Nat.gcd o' u' : Nat) : Int) (by omega) (by omega) ⟨?_, ?_⟩
      · rw [← Int.natCast_emod, Nat.mod_eq_zero_of_dvd d1]; rfl
      · rw [← Int.natCast_emod, Nat.mod_eq_zero_of_dvd d2]; rfl
    · exact q
  have hge : d' ≤ Nat.gcd o' u' := by
    rcases h1 with q | q
    · omega
    · obtain ⟨q1, q2⟩ := q
      rw [← Int.natCast_emod] at q1 q2
      exact Nat.le_of_dvd hg0 (Nat.dvd_gcd (Nat.dvd_of_mod_eq_zero (by omega)) (Nat.dvd_of_mod_eq_zero (by omega)))
  unfold gcdZ
  rw [Int.toNat_natCast, Int.toNat_natCast]
  omega
theorem wth_u (c s kd d : Int) (ms : Int → Int) {h : Int} (hh : 0 ≤ h) (x : Int) : wthZ c s kd d ms h x ≤ 65536 := by
  have h1 := onB_b x
  have h2 : 0 ≤ (h + 1) * onB x 8 := Int.mul_nonneg (by omega) h1.1
  unfold wthZ
  split <;> omega
theorem bestW_b {f : Int → Int → Int} {n s z : Int} (hn : 0 ≤ n ∧ n ≤ 3) (hu : ∀ h x, 0 ≤ h → f h x ≤ 65536) (h0 : ∀ h, 0 ≤ h → 0 ≤ f h 0) (h : bestP f n s z) : 0 ≤ z ∧ z ≤ 200000 := by
  obtain ⟨⟨e, he, hz⟩, hm⟩ := h
  have up : valE f n e ≤ 65536 * n := by
    refine fZ_ind (P := fun k v => v ≤ 65536 * k) (by omega) (M := n) (fun k v q1 q2 q3 => ?_) n hn.1 (Int.le_refl n)
    have := hu k (bitZ e (k + 1) 8) q1
    omega
  have lo : 0 ≤ valE f n (fun _ => 0) := by
    refine fZ_ind (P := fun k v => 0 ≤ v) (by omega) (M := n) (fun k v q1 q2 q3 => ?_) n hn.1 (Int.le_refl n)
    have e0 : bitZ (fun _ => (0 : Int)) (k + 1) 8 = 0 := by
      refine fZ_ind (P := fun _ x => x = 0) rfl (M := 8) (fun i x w1 w2 w3 => ?_) 8 (by omega) (by omega)
      rw [if_neg (show ¬ (0 : Int) = k + 1 by omega)]
      omega
    rw [e0]
    have := h0 k q1
    omega
  have := hm (fun _ => 0) (fun m q1 q2 => ⟨show (0 : Int) ≤ 0 by omega, show (0 : Int) ≤ n by omega, fun q => absurd (show (0 : Int) < 0 from q) (by omega)⟩)
  omega
theorem wth_0 (c s kd d : Int) (ms : Int → Int) (h : Int) : 0 ≤ wthZ c s kd d ms h 0 := by
  have e : onB 0 8 = 0 := by decide +kernel
  unfold wthZ
  rw [e, Int.mul_zero]
  split <;> omega
def ctI (S M : Int) (sc ms mp : Int → Int) (r1 r2 r3 r4 ln w : Int) : Int := if w = 0 then M else if w = 1 then S else if w = 2 then cntZ mp (-1) M else if w = 3 then sumZ mp ms (-1) M else if w = 4 then totZ sc S else if w = 5 then r1 else if w = 6 then r2 else if w = 7 then r3 else if w = 8 then r4 else ln
theorem totZ_b {f : Int → Int} {b m : Int} (h : 0 ≤ m) (hf : ∀ j, 0 ≤ f j ∧ f j ≤ b) : 0 ≤ totZ f m ∧ totZ f m ≤ b * m := by
  refine fZ_ind (P := fun k n => 0 ≤ n ∧ n ≤ b * k) ⟨by omega, by simp⟩ (M := m) (fun k x h1 h2 h3 => ?_) m h (Int.le_refl m)
  have hb := hf k
  rw [Int.mul_add, Int.mul_one]
  omega
theorem ctI_b {S M : Int} {sc ms mp : Int → Int} {r1 r2 r3 r4 ln : Int} (w : Int) (hS : 0 ≤ S ∧ S ≤ 3) (hM : 0 ≤ M ∧ M ≤ 8) (hsc : ∀ j, 0 ≤ sc j ∧ sc j ≤ 99) (hms : ∀ j, 0 ≤ ms j ∧ ms j ≤ 9) (hr : 0 ≤ r1 ∧ r1 ≤ 5 ∧ 0 ≤ r2 ∧ r2 ≤ 6 ∧ 0 ≤ r3 ∧ r3 ≤ 6 ∧ 0 ≤ r4 ∧ r4 ≤ 8) (hln : 0 ≤ ln ∧ ln ≤ 150) : 0 ≤ ctI S M sc ms mp r1 r2 r3 r4 ln w ∧ ctI S M sc ms mp r1 r2 r3 r4 ln w ≤ 400 := by
  have h1 := cntZ_b mp (-1) (m := M) hM.1
  have h2 := sumZ_b mp ms (-1) (m := M) hM.1 (b := 9) hms
  have h3 := totZ_b (f := sc) (b := 99) (m := S) hS.1 hsc
  unfold ctI
  repeat' split
  all_goals omega
def cpI (S M : Int) (sk sc mk ms mp : Int → Int) (r1 : Int) (f1 : Int → Int) (r2 : Int) (f2 : Int → Int) (r3 : Int) (f3 : Int → Int) (r4 : Int) (f4 : Int → Int) (S' M' : Int) (sk' sc' mk' ms' mp' : Int → Int) (r1' : Int) (f1' : Int → Int) (r2' : Int) (f2' : Int → Int) (r3' : Int) (f3' : Int → Int) (r4' : Int) (f4' : Int → Int) : Prop :=
  (S' = S ∧ M' = M ∧ r1' = r1 ∧ r2' = r2 ∧ r3' = r3 ∧ r4' = r4) ∧ (∀ j, 0 ≤ j → j < 3 → sk' j = sk j ∧ sc' j = sc j) ∧ (∀ j, 0 ≤ j → j < 8 → mk' j = mk j ∧ ms' j = ms j ∧ mp' j = mp j) ∧ (∀ j, 0 ≤ j → j < 4 * r1 → f1' j = f1 j) ∧ (∀ j, 0 ≤ j → j < 4 * r2 → f2' j = f2 j) ∧ (∀ j, 0 ≤ j → j < 4 * r3 → f3' j = f3 j) ∧ (∀ j, 0 ≤ j → j < 4 * r4 → f4' j = f4 j)
theorem zcp_0 {f g f' : Int → Int} {n j : Int} (h : f' = zcp f g 0 0 n) (hj : 0 ≤ j ∧ j < n) : f' j = f j := by
  rw [h, zcp_in _ _ (by omega)]
  congr 1
  omega
theorem cpI_of {S M : Int} {sk sc mk ms mp : Int → Int} {r1 : Int} {f1 : Int → Int} {r2 : Int} {f2 : Int → Int} {r3 : Int} {f3 : Int → Int} {r4 : Int} {f4 : Int → Int} {g0 g1 g2 g3 g4 g5 g6 g7 g8 sk' sc' mk' ms' mp' f1' f2' f3' f4' : Int → Int} (h0 : sk' = zcp sk g0 0 0 3) (h1 : sc' = zcp sc g1 0 0 3) (h2 : mk' = zcp mk g2 0 0 8) (h3 : ms' = zcp ms g3 0 0 8) (h4 : mp' = zcp mp g4 0 0 8) (h5 : f1' = zcp f1 g5 0 0 (4 * r1)) (h6 : f2' = zcp f2 g6 0 0 (4 * r2)) (h7 : f3' = zcp f3 g7 0 0 (4 * r3)) (h8 : f4' = zcp f4 g8 0 0 (4 * r4)) : cpI S M sk sc mk ms mp r1 f1 r2 f2 r3 f3 r4 f4 S M sk' sc' mk' ms' mp' r1 f1' r2 f2' r3 f3' r4 f4' :=
  ⟨⟨rfl, rfl, rfl, rfl, rfl, rfl⟩, fun j q1 q2 => ⟨zcp_0 h0 ⟨q1, q2⟩, zcp_0 h1 ⟨q1, q2⟩⟩, fun j q1 q2 => ⟨zcp_0 h2 ⟨q1, q2⟩, zcp_0 h3 ⟨q1, q2⟩, zcp_0 h4 ⟨q1, q2⟩⟩, fun j q1 q2 => zcp_0 h5 ⟨q1, q2⟩, fun j q1 q2 => zcp_0 h6 ⟨q1, q2⟩, fun j q1 q2 => zcp_0 h7 ⟨q1, q2⟩, fun j q1 q2 => zcp_0 h8 ⟨q1, q2⟩⟩

abbrev rX7_behind : Room := { frames := 3, cells := 0, slots := 0, locals := 72 }
set_option maxHeartbeats 1000000 in
set_option maxRecDepth 100000 in
theorem c_X7_behind (l_ : Launch) (D : va_G) (cy : Nat → ClassId) (b : Nat → Nat) (q : Nat → Nat) (p : Nat → Nat) (x : Nat → Nat) (e : Nat → Nat) (cr : Nat → Nat) (t0 : Nat) (ab : Int) (be : Int) (rb : Int) (rn : Int) (ru : Int) (S : Int) (M : Int) (sk : Int → Int) (sc : Int → Int) (mk : Int → Int) (ms : Int → Int) (mp : Int → Int) (SJ : Int) (MJ : Int) (skJ : Int → Int) (scJ : Int → Int) (mkJ : Int → Int) (msJ : Int → Int) (mpJ : Int → Int) (h : Int) (k : Int) (bS : 0 ≤ S ∧ S ≤ 3) (bM : 0 ≤ M ∧ M ≤ 8) (bsk : ∀ j : Int, 0 ≤ sk j ∧ sk j ≤ 5) (bsc : ∀ j : Int, 0 ≤ sc j ∧ sc j ≤ 99) (bmk : ∀ j : Int, 0 ≤ mk j ∧ mk j ≤ 5) (bms : ∀ j : Int, 0 ≤ ms j ∧ ms j ≤ 9) (bmp : ∀ j : Int, (-1) ≤ mp j ∧ mp j ≤ 2) (bSJ : 0 ≤ SJ ∧ SJ ≤ 3) (bMJ : 0 ≤ MJ ∧ MJ ≤ 8) (bskJ : ∀ j : Int, 0 ≤ skJ j ∧ skJ j ≤ 5) (bscJ : ∀ j : Int, 0 ≤ scJ j ∧ scJ j ≤ 99) (bmkJ : ∀ j : Int, 0 ≤ mkJ j ∧ mkJ j ≤ 5) (bmsJ : ∀ j : Int, 0 ≤ msJ j ∧ msJ j ≤ 9) (bmpJ : ∀ j : Int, (-1) ≤ mpJ j ∧ mpJ j ≤ 2) (rh : -2147483648 ≤ h ∧ h < 2147483648) (rk : -2147483648 ≤ k ∧ k < 2147483648) : CTi l_ D cy yX7_behind wsX7_behind rX7_behind [.ref (b 0), .int (zi h), .int (zi k)] ([wV cy b q p x e cr t0 ab be rb rn ru, wI cy q S M sk sc mk ms mp, wI cy p SJ MJ skJ scJ mkJ msJ mpJ]) (fun (z : Int) (u : (Int) × (Int) × (Int) × (Int) × (Int) × (Int → Int) × (Int → Int) × (Int → Int) × (Int → Int) × (Int → Int)) => ((((0 ≤ h ∧ h < S) ∧ (1 ≤ k ∧ k ≤ 8)) ∧ z = (callsI S M sc mk ms mp h k).1 ∧ u.1 = rb ∧ u.2.1 = rn ∧ u.2.2.1 = ru) ∨ (¬ ((0 ≤ h ∧ h < S) ∧ (1 ≤ k ∧ k ≤ 8)) ∧ z = -2 ∧ u.1 = rb + 1 ∧ u.2.1 = rn ∧ u.2.2.1 = ru)) ∧ (0 ≤ u.2.2.2.1 ∧ u.2.2.2.1 ≤ 3) ∧ (0 ≤ u.2.2.2.2.1 ∧ u.2.2.2.2.1 ≤ 8) ∧ (∀ j : Int, 0 ≤ u.2.2.2.2.2.1 j ∧ u.2.2.2.2.2.1 j ≤ 5) ∧ (∀ j : Int, 0 ≤ u.2.2.2.2.2.2.1 j ∧ u.2.2.2.2.2.2.1 j ≤ 99) ∧ (∀ j : Int, 0 ≤ u.2.2.2.2.2.2.2.1 j ∧ u.2.2.2.2.2.2.2.1 j ≤ 5) ∧ (∀ j : Int, 0 ≤ u.2.2.2.2.2.2.2.2.1 j ∧ u.2.2.2.2.2.2.2.2.1 j ≤ 9) ∧ (∀ j : Int, (-1) ≤ u.2.2.2.2.2.2.2.2.2 j ∧ u.2.2.2.2.2.2.2.2.2 j ≤ 2)) (fun (u : (Int) × (Int) × (Int) × (Int) × (Int) × (Int → Int) × (Int → Int) × (Int → Int) × (Int → Int) × (Int → Int)) => [wV cy b q p x e cr t0 ab be u.1 u.2.1 u.2.2.1, wI cy q S M sk sc mk ms mp, wI cy p u.2.2.2.1 u.2.2.2.2.1 u.2.2.2.2.2.1 u.2.2.2.2.2.2.1 u.2.2.2.2.2.2.2.1 u.2.2.2.2.2.2.2.2.1 u.2.2.2.2.2.2.2.2.2]) := by
  refine CTi.of RX7 cX7_behind 5 rfl (by decide) rfl (fun z u hz => rfl) (Nat.le_of_ble_eq_true rfl) ?_
  intro p_ e_ s_ m_ ar_ be_ me_ c_ Q_ A_ ls_ F_ K_ W_ hl hret
  have hl : lv_has ls_ 5 [(0, .ref (b 0)), (1, .int (zi h)), (2, .int (zi k))] := hl
  obtain ⟨H_, hH_⟩ : ∃ x, x = s_.heap := ⟨_, rfl⟩
  obtain ⟨lo_, hlo_⟩ : ∃ x : List Loc, x = [] := ⟨_, rfl⟩
  have W_ : WD D A_ s_.heap ([wV cy b q p x e cr t0 ab be rb rn ru, wI cy q S M sk sc mk ms mp, wI cy p SJ MJ skJ scJ mkJ msJ mpJ]) H_ lo_ := by rw [hH_, hlo_]; exact W_
  rw [← hlo_]
  suffices hg_ : W p_ l_ e_ rX7_behind s_ m_ ar_ be_ me_ c_ H_ lo_ 0 0 Q_ (F0 m_ 0 ls_ []) by rw [hH_] at hg_; exact hg_
  clear hH_ hlo_
  have hinX7 : ∀ w ∈ u_ws RX7 TX7 13, w ∈ wsX7_behind := fun w h => List.mem_cons_of_mem _ (List.mem_append_left _ (List.mem_append_right _ h))
  refine lv_aload_n F_.1 F_.2.1 dX7_behind_0 rfl (lv_at hl 0 rfl) ?_
  refine z_get F_ K_ W_ 0 0 0 rfl rfl rfl (C := RX7) (T := TX7) (N := 13) rfl (by decide) hinX7 (List.mem_of_getElem? (i := 1) rfl) dX7_behind_1 ?_
  refine lv_iload_n F_.1 F_.2.1 dX7_behind_4 rfl (lv_at hl 1 rfl) ?_
  refine z_callVip F_ K_ W_ [.int (zi h)] (c_X4_hasShip l_ D cy q S M sk sc mk ms mp h (by omega) (by omega) bsk bsc bmk bms bmp (by first | omega | assumption)) 1 rfl gX7_behind_X4_hasShip rfl (by decide +kernel) ⟨⟨Nat.le_of_ble_eq_true rfl, Nat.le_of_ble_eq_true rfl⟩, rfl, rfl, Nat.zero_le _, Nat.zero_le _⟩ 0 0 4 rfl rfl rfl rfl hl.1 rfl (Nat.le_of_ble_eq_true rfl) [1] [0, 2] [wV cy b q p x e cr t0 ab be rb rn ru, wI cy p SJ MJ skJ scJ mkJ msJ mpJ] 3 (by decide +kernel) rfl rfl rfl dX7_behind_5 (fun z_1 _ H_ lo_ hw_ W_ => ?_)
  replace hw_ : ((z_1 = 1 ∧ (0 ≤ h ∧ h < S)) ∨ (z_1 = 0 ∧ ¬ (0 ≤ h ∧ h < S))) := hw_
  have f5_v := hw_
  clear hw_
  refine z_if_eq (tgt := 21) F_ (by omega) dX7_behind_8 (by decide) (fun c8 => ?_) (fun c8 => ?_)
  · refine lv_aload_n F_.1 F_.2.1 dX7_behind_21 rfl (lv_at hl 0 rfl) ?_
    refine z_bipush F_ (by decide) dX7_behind_22 ?_
    refine z_callVi F_ K_ W_ [.int (zi (-2))] (c_X7_refuse l_ D cy b q p x e cr t0 ab be rb rn ru (-2) (by first | omega | assumption)) 1 rfl gX7_behind_X7_refuse rfl (by decide +kernel) ⟨⟨Nat.le_of_ble_eq_true rfl, Nat.le_of_ble_eq_true rfl⟩, rfl, rfl, Nat.zero_le _, Nat.zero_le _⟩ 0 0 6 rfl rfl rfl rfl hl.1 rfl (Nat.le_of_ble_eq_true rfl) [0] [1, 2] [wI cy q S M sk sc mk ms mp, wI cy p SJ MJ skJ scJ mkJ msJ mpJ] (fun (u_ : (Int) × (Int) × (Int)) => [wV cy b q p x e cr t0 ab be u_.1 u_.2.1 u_.2.2, wI cy q S M sk sc mk ms mp, wI cy p SJ MJ skJ scJ mkJ msJ mpJ]) 3 (by decide +kernel) rfl rfl rfl (fun _ => rfl) (fun _ => rfl) (fun _ => rfl) dX7_behind_24 (fun z_2 u_ H_ lo_ hw_ W_ => ?_)
    obtain ⟨rb2_3, rn2_4, ru2_5⟩ := u_
    have W_ : WD D A_ s_.heap ([wV cy b q p x e cr t0 ab be rb2_3 rn2_4 ru2_5, wI cy q S M sk sc mk ms mp, wI cy p SJ MJ skJ scJ mkJ msJ mpJ]) H_ lo_ := W_
    replace hw_ : (z_2 = (-2)) ∧ (((-2) = -2 ∧ rb2_3 = rb + 1 ∧ rn2_4 = rn ∧ ru2_5 = ru) ∨ ((-2) = -3 ∧ rb2_3 = rb ∧ rn2_4 = rn + 1 ∧ ru2_5 = ru) ∨ (¬ (-2) = -2 ∧ ¬ (-2) = -3 ∧ rb2_3 = rb ∧ rn2_4 = rn ∧ ru2_5 = ru + 1)) := hw_
    obtain ⟨f24_v, f24_k⟩ := hw_
    exact hret _ _ _ _ z_2 (rb2_3, rn2_4, ru2_5, SJ, MJ, skJ, scJ, mkJ, msJ, mpJ) dX7_behind_27 ⟨(by (try dsimp only) <;> (refine Or.inr (⟨?_, ?_, ?_, ?_, ?_⟩) <;> (first | omega | rfl | assumption))), (by (try dsimp only) <;> (omega)), (by (try dsimp only) <;> (omega)), bskJ, bscJ, bmkJ, bmsJ, bmpJ⟩ W_
  · refine lv_iload_n F_.1 F_.2.1 dX7_behind_11 rfl (lv_at hl 2 rfl) ?_
    refine z_iconst F_ dX7_behind_12 ?_
    refine z_bipush F_ (by decide) dX7_behind_13 ?_
    refine z_callSip F_ K_ W_ [.int (zi k), .int (zi 1), .int (zi 8)] (c_X7_within l_ D cy k 1 8 (by first | omega | assumption) (by first | omega | assumption) (by first | omega | assumption)) 3 rfl gX7_behind_X7_within rfl (by decide +kernel) ⟨⟨Nat.le_of_ble_eq_true rfl, Nat.le_of_ble_eq_true rfl⟩, rfl, rfl, Nat.zero_le _, Nat.zero_le _⟩ hl.1 rfl (Nat.le_of_ble_eq_true rfl) ([] : List Nat) [0, 1, 2] [wV cy b q p x e cr t0 ab be rb rn ru, wI cy q S M sk sc mk ms mp, wI cy p SJ MJ skJ scJ mkJ msJ mpJ] 3 (by decide +kernel) rfl rfl rfl dX7_behind_15 (fun z_6 _ H_ lo_ hw_ W_ => ?_)
    replace hw_ : ((z_6 = 1 ∧ (1 ≤ k ∧ k ≤ 8)) ∨ (z_6 = 0 ∧ ¬ (1 ≤ k ∧ k ≤ 8))) := hw_
    have f15_v := hw_
    clear hw_
    refine z_if_ne (tgt := 28) F_ (by omega) dX7_behind_18 (by decide) (fun c18 => ?_) (fun c18 => ?_)
    · refine lv_aload_n F_.1 F_.2.1 dX7_behind_28 rfl (lv_at hl 0 rfl) ?_
      refine z_get F_ K_ W_ 0 0 1 rfl rfl rfl (C := RX7) (T := TX7) (N := 13) rfl (by decide) hinX7 (List.mem_of_getElem? (i := 2) rfl) dX7_behind_29 ?_
      refine lv_aload_n F_.1 F_.2.1 dX7_behind_32 rfl (lv_at hl 0 rfl) ?_
      refine z_get F_ K_ W_ 0 0 0 rfl rfl rfl (C := RX7) (T := TX7) (N := 13) rfl (by decide) hinX7 (List.mem_of_getElem? (i := 1) rfl) dX7_behind_33 ?_
      refine z_callVv F_ K_ W_ [.ref (q 0)] (c_X4_takePlaces l_ D cy p SJ MJ skJ scJ mkJ msJ mpJ q S M sk sc mk ms mp (by omega) (by omega) bskJ bscJ bmkJ bmsJ bmpJ (by omega) (by omega) bsk bsc bmk bms bmp) 1 rfl gX7_behind_X4_takePlaces rfl (by decide +kernel) ⟨⟨Nat.le_of_ble_eq_true rfl, Nat.le_of_ble_eq_true rfl⟩, rfl, rfl, Nat.zero_le _, Nat.zero_le _⟩ 0 0 4 rfl rfl rfl rfl hl.1 rfl (Nat.le_of_ble_eq_true rfl) [2, 1] [0] [wV cy b q p x e cr t0 ab be rb rn ru] (fun (u_ : (Int → Int) × (Int → Int) × (Int → Int) × (Int → Int) × (Int → Int)) => [wV cy b q p x e cr t0 ab be rb rn ru, wI cy q S M sk sc mk ms mp, wI cy p S M u_.1 u_.2.1 u_.2.2.1 u_.2.2.2.1 u_.2.2.2.2]) 3 (by decide +kernel) rfl rfl rfl (fun _ => rfl) (fun _ => rfl) (fun _ => rfl) dX7_behind_36 (fun u_ H_ lo_ hw_ W_ => ?_)
      obtain ⟨nk_8, nc_9, n1_10, n2_11, n3_12⟩ := u_
      have W_ : WD D A_ s_.heap ([wV cy b q p x e cr t0 ab be rb rn ru, wI cy q S M sk sc mk ms mp, wI cy p S M nk_8 nc_9 n1_10 n2_11 n3_12]) H_ lo_ := W_
      replace hw_ : (nk_8 = zcp sk skJ 0 0 3) ∧ (nc_9 = zcp sc scJ 0 0 3) ∧ (n1_10 = zcp mk mkJ 0 0 8) ∧ (n2_11 = zcp ms msJ 0 0 8) ∧ (n3_12 = zcp mp mpJ 0 0 8) ∧ (0 ≤ S ∧ S ≤ 3) ∧ (0 ≤ M ∧ M ≤ 8) ∧ (∀ j : Int, 0 ≤ nk_8 j ∧ nk_8 j ≤ 5) ∧ (∀ j : Int, 0 ≤ nc_9 j ∧ nc_9 j ≤ 99) ∧ (∀ j : Int, 0 ≤ n1_10 j ∧ n1_10 j ≤ 5) ∧ (∀ j : Int, 0 ≤ n2_11 j ∧ n2_11 j ≤ 9) ∧ (∀ j : Int, (-1) ≤ n3_12 j ∧ n3_12 j ≤ 2) := hw_
      obtain ⟨f36_k, f36_c, f36_a1, f36_a2, f36_a3, f36_B_I_S, f36_B_I_M, f36_B_I_sk, f36_B_I_sc, f36_B_I_mk, f36_B_I_ms, f36_B_I_mp⟩ := hw_
      have W_ : WD D A_ s_.heap ([wV cy b q p x e cr t0 ab be rb rn ru, wI cy q S M sk sc mk ms mp, wI cy p S M sk nc_9 n1_10 n2_11 n3_12]) H_ lo_ := wd_cell W_ 2 1 rfl rfl rfl (by intro k_ h1_ h2_; rw [f36_k, zcp_in _ _ (by omega)]; congr 1; omega)
      have W_ : WD D A_ s_.heap ([wV cy b q p x e cr t0 ab be rb rn ru, wI cy q S M sk sc mk ms mp, wI cy p S M sk sc n1_10 n2_11 n3_12]) H_ lo_ := wd_cell W_ 2 2 rfl rfl rfl (by intro k_ h1_ h2_; rw [f36_c, zcp_in _ _ (by omega)]; congr 1; omega)
      have W_ : WD D A_ s_.heap ([wV cy b q p x e cr t0 ab be rb rn ru, wI cy q S M sk sc mk ms mp, wI cy p S M sk sc mk n2_11 n3_12]) H_ lo_ := wd_cell W_ 2 3 rfl rfl rfl (by intro k_ h1_ h2_; rw [f36_a1, zcp_in _ _ (by omega)]; congr 1; omega)
      have W_ : WD D A_ s_.heap ([wV cy b q p x e cr t0 ab be rb rn ru, wI cy q S M sk sc mk ms mp, wI cy p S M sk sc mk ms n3_12]) H_ lo_ := wd_cell W_ 2 4 rfl rfl rfl (by intro k_ h1_ h2_; rw [f36_a2, zcp_in _ _ (by omega)]; congr 1; omega)
      have W_ : WD D A_ s_.heap ([wV cy b q p x e cr t0 ab be rb rn ru, wI cy q S M sk sc mk ms mp, wI cy p S M sk sc mk ms mp]) H_ lo_ := wd_cell W_ 2 5 rfl rfl rfl (by intro k_ h1_ h2_; rw [f36_a3, zcp_in _ _ (by omega)]; congr 1; omega)
      refine z_iconst F_ dX7_behind_39 ?_
      refine lv_istore_n (lv' := [(3, .int (zi (-1))), (0, .ref (b 0)), (1, .int (zi h)), (2, .int (zi k))]) F_.1 F_.2.1 dX7_behind_40 rfl hl (by decide) rfl (fun ls_ hl => ?_)
      refine z_iconst F_ dX7_behind_41 ?_
      refine lv_istore (lv' := [(4, .int (zi 0)), (3, .int (zi (-1))), (0, .ref (b 0)), (1, .int (zi h)), (2, .int (zi k))]) F_.1 F_.2.1 dX7_behind_42 hl (by decide) rfl (fun ls_ hl => ?_)
      have L44 : ∀ (n_ : Nat) (m : Int) (i : Int) (c : Int → Int) (pp : Int → Int) (bc : ∀ j : Int, 0 ≤ c j ∧ c j ≤ 99) (bpp : ∀ j : Int, (-1) ≤ pp j ∧ pp j ≤ 2) (hi : 0 ≤ i ∧ i ≤ k) (hm : m = (callsI S M sc mk ms mp h i).1) (hc : c = (callsI S M sc mk ms mp h i).2.1) (hp : pp = (callsI S M sc mk ms mp h i).2.2) (hm_ : (k - i : Int) < (n_ : Int)) (ls_ : Array Slot) (H_ : Heap) (lo_ : List Loc), WD D A_ s_.heap ([wV cy b q p x e cr t0 ab be rb rn ru, wI cy q S M sk sc mk ms mp, wI cy p S M sk c mk ms pp]) H_ lo_ → lv_has ls_ 5 [(4, .int (zi i)), (3, .int (zi m)), (0, .ref (b 0)), (1, .int (zi h)), (2, .int (zi k))] → W p_ l_ e_ rX7_behind s_ m_ ar_ be_ me_ c_ H_ lo_ 0 0 Q_ (F0 m_ 44 ls_ []) := by
        intro n_
        induction n_ with
        | zero =>
          intro m i c pp bc bpp hi hm hc hp hm_ ls_ H_ lo_ _ _
          exact absurd hm_ (by omega)
        | succ n_ ih_ =>
          intro m i c pp bc bpp hi hm hc hp hm_ ls_ H_ lo_ W_ hl
          have ih44 := ih_
          refine lv_iload F_.1 F_.2.1 dX7_behind_44 (lv_at hl 0 rfl) ?_
          refine lv_iload_n F_.1 F_.2.1 dX7_behind_46 rfl (lv_at hl 4 rfl) ?_
          refine z_icmp_ge (tgt := 65) F_ (by omega) dX7_behind_47 (by decide) (fun c47 => ?_) (fun c47 => ?_)
          · refine lv_iload_n F_.1 F_.2.1 dX7_behind_65 rfl (lv_at hl 1 rfl) ?_
            exact hret _ _ _ _ m (rb, rn, ru, S, M, sk, c, mk, ms, pp) dX7_behind_66 ⟨(by (try dsimp only) <;> (exact Or.inl ⟨by omega, by rw [hm, show i = k by omega], rfl, rfl, rfl⟩)), (by (try dsimp only) <;> (omega)), (by (try dsimp only) <;> (omega)), bsk, bc, bmk, bms, bpp⟩ W_
          · refine lv_aload_n F_.1 F_.2.1 dX7_behind_50 rfl (lv_at hl 2 rfl) ?_
            refine z_get F_ K_ W_ 0 0 1 rfl rfl rfl (C := RX7) (T := TX7) (N := 13) rfl (by decide) hinX7 (List.mem_of_getElem? (i := 2) rfl) dX7_behind_51 ?_
            refine lv_iload_n F_.1 F_.2.1 dX7_behind_54 rfl (lv_at hl 3 rfl) ?_
            refine z_callVi F_ K_ W_ [.int (zi h)] (c_X4_leaveOne l_ D cy p S M sk c mk ms pp h (by omega) (by omega) bsk bc bmk bms bpp (by first | omega | assumption)) 1 rfl gX7_behind_X4_leaveOne rfl (by decide +kernel) ⟨⟨Nat.le_of_ble_eq_true rfl, Nat.le_of_ble_eq_true rfl⟩, rfl, rfl, Nat.zero_le _, Nat.zero_le _⟩ 0 0 4 rfl rfl rfl rfl hl.1 rfl (Nat.le_of_ble_eq_true rfl) [2] [0, 1] [wV cy b q p x e cr t0 ab be rb rn ru, wI cy q S M sk sc mk ms mp] (fun (u_ : (Int → Int) × (Int → Int)) => [wV cy b q p x e cr t0 ab be rb rn ru, wI cy q S M sk sc mk ms mp, wI cy p S M sk u_.1 mk ms u_.2]) 3 (by decide +kernel) rfl rfl rfl (fun _ => rfl) (fun _ => rfl) (fun _ => rfl) dX7_behind_55 (fun z_13 u_ H_ lo_ hw_ W_ => ?_)
            obtain ⟨sc2_14, mp2_15⟩ := u_
            have W_ : WD D A_ s_.heap ([wV cy b q p x e cr t0 ab be rb rn ru, wI cy q S M sk sc mk ms mp, wI cy p S M sk sc2_14 mk ms mp2_15]) H_ lo_ := W_
            replace hw_ : (z_13 = lstI S M c mk ms pp h) ∧ (mp2_15 = goMp pp z_13) ∧ (sc2_14 = goSc c h z_13) ∧ (∀ j : Int, 0 ≤ sc2_14 j ∧ sc2_14 j ≤ 99) ∧ (∀ j : Int, (-1) ≤ mp2_15 j ∧ mp2_15 j ≤ 2) := hw_
            obtain ⟨f55_v, f55_p, f55_c, f55_B_I_sc, f55_B_I_mp⟩ := hw_
            refine lv_istore_n (lv' := [(3, .int (zi z_13)), (4, .int (zi i)), (0, .ref (b 0)), (1, .int (zi h)), (2, .int (zi k))]) F_.1 F_.2.1 dX7_behind_58 rfl hl (by decide) rfl (fun ls_ hl => ?_)
            refine z_iinc (lv' := [(4, .int (zi (i + 1))), (3, .int (zi z_13)), (0, .ref (b 0)), (1, .int (zi h)), (2, .int (zi k))]) F_ dX7_behind_59 hl (k := 1) rfl (by decide) rfl (fun ls_ hl => ?_)
            refine z_goto (tgt := 44) F_ dX7_behind_62 (by decide) ?_
            exact ih44 z_13 (i + 1) sc2_14 mp2_15 f55_B_I_sc f55_B_I_mp (by first | omega | assumption) (by rw [callsI_s _ _ _ _ _ _ _ hi.1, ← hc, ← hp]; exact f55_v) (by rw [callsI_s _ _ _ _ _ _ _ hi.1, ← hc, ← hp]; rw [f55_c, f55_v]) (by rw [callsI_s _ _ _ _ _ _ _ hi.1, ← hc, ← hp]; rw [f55_p, f55_v]) (by omega) ls_ H_ lo_ W_ (lv_sub hl [0, 1, 2, 3, 4] rfl)
      exact L44 ((k - 0 : Int).toNat + 1) (-1) 0 sc mp bsc bmp (by first | omega | assumption) (by rfl) (by rfl) (by rfl) (by have := Int.self_le_toNat (k - 0 : Int); omega) ls_ H_ lo_ W_ (lv_sub hl [0, 1, 2, 3, 4] rfl)
    · refine lv_aload_n F_.1 F_.2.1 dX7_behind_21 rfl (lv_at hl 0 rfl) ?_
      refine z_bipush F_ (by decide) dX7_behind_22 ?_
      refine z_callVi F_ K_ W_ [.int (zi (-2))] (c_X7_refuse l_ D cy b q p x e cr t0 ab be rb rn ru (-2) (by first | omega | assumption)) 1 rfl gX7_behind_X7_refuse rfl (by decide +kernel) ⟨⟨Nat.le_of_ble_eq_true rfl, Nat.le_of_ble_eq_true rfl⟩, rfl, rfl, Nat.zero_le _, Nat.zero_le _⟩ 0 0 6 rfl rfl rfl rfl hl.1 rfl (Nat.le_of_ble_eq_true rfl) [0] [1, 2] [wI cy q S M sk sc mk ms mp, wI cy p SJ MJ skJ scJ mkJ msJ mpJ] (fun (u_ : (Int) × (Int) × (Int)) => [wV cy b q p x e cr t0 ab be u_.1 u_.2.1 u_.2.2, wI cy q S M sk sc mk ms mp, wI cy p SJ MJ skJ scJ mkJ msJ mpJ]) 3 (by decide +kernel) rfl rfl rfl (fun _ => rfl) (fun _ => rfl) (fun _ => rfl) dX7_behind_24 (fun z_16 u_ H_ lo_ hw_ W_ => ?_)
      obtain ⟨rb2_17, rn2_18, ru2_19⟩ := u_
      have W_ : WD D A_ s_.heap ([wV cy b q p x e cr t0 ab be rb2_17 rn2_18 ru2_19, wI cy q S M sk sc mk ms mp, wI cy p SJ MJ skJ scJ mkJ msJ mpJ]) H_ lo_ := W_
      replace hw_ : (z_16 = (-2)) ∧ (((-2) = -2 ∧ rb2_17 = rb + 1 ∧ rn2_18 = rn ∧ ru2_19 = ru) ∨ ((-2) = -3 ∧ rb2_17 = rb ∧ rn2_18 = rn + 1 ∧ ru2_19 = ru) ∨ (¬ (-2) = -2 ∧ ¬ (-2) = -3 ∧ rb2_17 = rb ∧ rn2_18 = rn ∧ ru2_19 = ru + 1)) := hw_
      obtain ⟨f24_v, f24_k⟩ := hw_
      exact hret _ _ _ _ z_16 (rb2_17, rn2_18, ru2_19, SJ, MJ, skJ, scJ, mkJ, msJ, mpJ) dX7_behind_27 ⟨(by (try dsimp only) <;> (refine Or.inr (⟨?_, ?_, ?_, ?_, ?_⟩) <;> (first | omega | rfl | assumption))), (by (try dsimp only) <;> (omega)), (by (try dsimp only) <;> (omega)), bskJ, bscJ, bmkJ, bmsJ, bmpJ⟩ W_
abbrev rX7_lasts : Room := { frames := 3, cells := 0, slots := 0, locals := 72 }
set_option maxHeartbeats 1000000 in
set_option maxRecDepth 100000 in
theorem c_X7_lasts (l_ : Launch) (D : va_G) (cy : Nat → ClassId) (b : Nat → Nat) (q : Nat → Nat) (p : Nat → Nat) (x : Nat → Nat) (e : Nat → Nat) (cr : Nat → Nat) (t0 : Nat) (ab : Int) (be : Int) (rb : Int) (rn : Int) (ru : Int) (S : Int) (M : Int) (sk : Int → Int) (sc : Int → Int) (mk : Int → Int) (ms : Int → Int) (mp : Int → Int) (SJ : Int) (MJ : Int) (skJ : Int → Int) (scJ : Int → Int) (mkJ : Int → Int) (msJ : Int → Int) (mpJ : Int → Int) (h : Int) (d : Int) (bS : 0 ≤ S ∧ S ≤ 3) (bM : 0 ≤ M ∧ M ≤ 8) (bsk : ∀ j : Int, 0 ≤ sk j ∧ sk j ≤ 5) (bsc : ∀ j : Int, 0 ≤ sc j ∧ sc j ≤ 99) (bmk : ∀ j : Int, 0 ≤ mk j ∧ mk j ≤ 5) (bms : ∀ j : Int, 0 ≤ ms j ∧ ms j ≤ 9) (bmp : ∀ j : Int, (-1) ≤ mp j ∧ mp j ≤ 2) (bSJ : 0 ≤ SJ ∧ SJ ≤ 3) (bMJ : 0 ≤ MJ ∧ MJ ≤ 8) (bskJ : ∀ j : Int, 0 ≤ skJ j ∧ skJ j ≤ 5) (bscJ : ∀ j : Int, 0 ≤ scJ j ∧ scJ j ≤ 99) (bmkJ : ∀ j : Int, 0 ≤ mkJ j ∧ mkJ j ≤ 5) (bmsJ : ∀ j : Int, 0 ≤ msJ j ∧ msJ j ≤ 9) (bmpJ : ∀ j : Int, (-1) ≤ mpJ j ∧ mpJ j ≤ 2) (rh : -2147483648 ≤ h ∧ h < 2147483648) (rd : -2147483648 ≤ d ∧ d < 2147483648) : CTi l_ D cy yX7_lasts wsX7_lasts rX7_lasts [.ref (b 0), .int (zi h), .int (zi d)] ([wV cy b q p x e cr t0 ab be rb rn ru, wI cy q S M sk sc mk ms mp, wI cy p SJ MJ skJ scJ mkJ msJ mpJ]) (fun (z : Int) (u : (Int) × (Int) × (Int) × (Int) × (Int) × (Int → Int) × (Int → Int) × (Int → Int) × (Int → Int) × (Int → Int)) => ((((0 ≤ h ∧ h < S) ∧ (1 ≤ d ∧ d ≤ 30)) ∧ (0 ≤ z ∧ z ≤ 8) ∧ (z = 8 ∨ ¬ canI S M sk ms (callsI S M sc mk ms mp h z).2.2 h d) ∧ (∀ j, 0 ≤ j → j < z → canI S M sk ms (callsI S M sc mk ms mp h j).2.2 h d) ∧ u.1 = rb ∧ u.2.1 = rn ∧ u.2.2.1 = ru) ∨ (¬ ((0 ≤ h ∧ h < S) ∧ (1 ≤ d ∧ d ≤ 30)) ∧ z = -2 ∧ u.1 = rb + 1 ∧ u.2.1 = rn ∧ u.2.2.1 = ru)) ∧ (0 ≤ u.2.2.2.1 ∧ u.2.2.2.1 ≤ 3) ∧ (0 ≤ u.2.2.2.2.1 ∧ u.2.2.2.2.1 ≤ 8) ∧ (∀ j : Int, 0 ≤ u.2.2.2.2.2.1 j ∧ u.2.2.2.2.2.1 j ≤ 5) ∧ (∀ j : Int, 0 ≤ u.2.2.2.2.2.2.1 j ∧ u.2.2.2.2.2.2.1 j ≤ 99) ∧ (∀ j : Int, 0 ≤ u.2.2.2.2.2.2.2.1 j ∧ u.2.2.2.2.2.2.2.1 j ≤ 5) ∧ (∀ j : Int, 0 ≤ u.2.2.2.2.2.2.2.2.1 j ∧ u.2.2.2.2.2.2.2.2.1 j ≤ 9) ∧ (∀ j : Int, (-1) ≤ u.2.2.2.2.2.2.2.2.2 j ∧ u.2.2.2.2.2.2.2.2.2 j ≤ 2)) (fun (u : (Int) × (Int) × (Int) × (Int) × (Int) × (Int → Int) × (Int → Int) × (Int → Int) × (Int → Int) × (Int → Int)) => [wV cy b q p x e cr t0 ab be u.1 u.2.1 u.2.2.1, wI cy q S M sk sc mk ms mp, wI cy p u.2.2.2.1 u.2.2.2.2.1 u.2.2.2.2.2.1 u.2.2.2.2.2.2.1 u.2.2.2.2.2.2.2.1 u.2.2.2.2.2.2.2.2.1 u.2.2.2.2.2.2.2.2.2]) := by
  refine CTi.of RX7 cX7_lasts 4 rfl (by decide) rfl (fun z u hz => rfl) (Nat.le_of_ble_eq_true rfl) ?_
  intro p_ e_ s_ m_ ar_ be_ me_ c_ Q_ A_ ls_ F_ K_ W_ hl hret
  have hl : lv_has ls_ 4 [(0, .ref (b 0)), (1, .int (zi h)), (2, .int (zi d))] := hl
  obtain ⟨H_, hH_⟩ : ∃ x, x = s_.heap := ⟨_, rfl⟩
  obtain ⟨lo_, hlo_⟩ : ∃ x : List Loc, x = [] := ⟨_, rfl⟩
  have W_ : WD D A_ s_.heap ([wV cy b q p x e cr t0 ab be rb rn ru, wI cy q S M sk sc mk ms mp, wI cy p SJ MJ skJ scJ mkJ msJ mpJ]) H_ lo_ := by rw [hH_, hlo_]; exact W_
  rw [← hlo_]
  suffices hg_ : W p_ l_ e_ rX7_lasts s_ m_ ar_ be_ me_ c_ H_ lo_ 0 0 Q_ (F0 m_ 0 ls_ []) by rw [hH_] at hg_; exact hg_
  clear hH_ hlo_
  have hinX7 : ∀ w ∈ u_ws RX7 TX7 13, w ∈ wsX7_lasts := fun w h => List.mem_cons_of_mem _ (List.mem_append_left _ (List.mem_append_right _ h))
  refine lv_aload_n F_.1 F_.2.1 dX7_lasts_0 rfl (lv_at hl 0 rfl) ?_
  refine z_get F_ K_ W_ 0 0 0 rfl rfl rfl (C := RX7) (T := TX7) (N := 13) rfl (by decide) hinX7 (List.mem_of_getElem? (i := 1) rfl) dX7_lasts_1 ?_
  refine lv_iload_n F_.1 F_.2.1 dX7_lasts_4 rfl (lv_at hl 1 rfl) ?_
  refine z_callVip F_ K_ W_ [.int (zi h)] (c_X4_hasShip l_ D cy q S M sk sc mk ms mp h (by omega) (by omega) bsk bsc bmk bms bmp (by first | omega | assumption)) 1 rfl gX7_lasts_X4_hasShip rfl (by decide +kernel) ⟨⟨Nat.le_of_ble_eq_true rfl, Nat.le_of_ble_eq_true rfl⟩, rfl, rfl, Nat.zero_le _, Nat.zero_le _⟩ 0 0 4 rfl rfl rfl rfl hl.1 rfl (Nat.le_of_ble_eq_true rfl) [1] [0, 2] [wV cy b q p x e cr t0 ab be rb rn ru, wI cy p SJ MJ skJ scJ mkJ msJ mpJ] 3 (by decide +kernel) rfl rfl rfl dX7_lasts_5 (fun z_1 _ H_ lo_ hw_ W_ => ?_)
  replace hw_ : ((z_1 = 1 ∧ (0 ≤ h ∧ h < S)) ∨ (z_1 = 0 ∧ ¬ (0 ≤ h ∧ h < S))) := hw_
  have f5_v := hw_
  clear hw_
  refine z_if_eq (tgt := 18) F_ (by omega) dX7_lasts_8 (by decide) (fun c8 => ?_) (fun c8 => ?_)
  · refine lv_aload_n F_.1 F_.2.1 dX7_lasts_18 rfl (lv_at hl 0 rfl) ?_
    refine z_bipush F_ (by decide) dX7_lasts_19 ?_
    refine z_callVi F_ K_ W_ [.int (zi (-2))] (c_X7_refuse l_ D cy b q p x e cr t0 ab be rb rn ru (-2) (by first | omega | assumption)) 1 rfl gX7_lasts_X7_refuse rfl (by decide +kernel) ⟨⟨Nat.le_of_ble_eq_true rfl, Nat.le_of_ble_eq_true rfl⟩, rfl, rfl, Nat.zero_le _, Nat.zero_le _⟩ 0 0 6 rfl rfl rfl rfl hl.1 rfl (Nat.le_of_ble_eq_true rfl) [0] [1, 2] [wI cy q S M sk sc mk ms mp, wI cy p SJ MJ skJ scJ mkJ msJ mpJ] (fun (u_ : (Int) × (Int) × (Int)) => [wV cy b q p x e cr t0 ab be u_.1 u_.2.1 u_.2.2, wI cy q S M sk sc mk ms mp, wI cy p SJ MJ skJ scJ mkJ msJ mpJ]) 3 (by decide +kernel) rfl rfl rfl (fun _ => rfl) (fun _ => rfl) (fun _ => rfl) dX7_lasts_21 (fun z_2 u_ H_ lo_ hw_ W_ => ?_)
    obtain ⟨rb2_3, rn2_4, ru2_5⟩ := u_
    have W_ : WD D A_ s_.heap ([wV cy b q p x e cr t0 ab be rb2_3 rn2_4 ru2_5, wI cy q S M sk sc mk ms mp, wI cy p SJ MJ skJ scJ mkJ msJ mpJ]) H_ lo_ := W_
    replace hw_ : (z_2 = (-2)) ∧ (((-2) = -2 ∧ rb2_3 = rb + 1 ∧ rn2_4 = rn ∧ ru2_5 = ru) ∨ ((-2) = -3 ∧ rb2_3 = rb ∧ rn2_4 = rn + 1 ∧ ru2_5 = ru) ∨ (¬ (-2) = -2 ∧ ¬ (-2) = -3 ∧ rb2_3 = rb ∧ rn2_4 = rn ∧ ru2_5 = ru + 1)) := hw_
    obtain ⟨f21_v, f21_k⟩ := hw_
    exact hret _ _ _ _ z_2 (rb2_3, rn2_4, ru2_5, SJ, MJ, skJ, scJ, mkJ, msJ, mpJ) dX7_lasts_24 ⟨(by (try dsimp only) <;> (refine Or.inr (⟨?_, ?_, ?_, ?_, ?_⟩) <;> (first | omega | rfl | assumption))), (by (try dsimp only) <;> (omega)), (by (try dsimp only) <;> (omega)), bskJ, bscJ, bmkJ, bmsJ, bmpJ⟩ W_
  · refine lv_iload_n F_.1 F_.2.1 dX7_lasts_11 rfl (lv_at hl 2 rfl) ?_
    refine z_callSip F_ K_ W_ [.int (zi d)] (c_X7_isDistance l_ D cy d (by first | omega | assumption)) 1 rfl gX7_lasts_X7_isDistance rfl (by decide +kernel) ⟨⟨Nat.le_of_ble_eq_true rfl, Nat.le_of_ble_eq_true rfl⟩, rfl, rfl, Nat.zero_le _, Nat.zero_le _⟩ hl.1 rfl (Nat.le_of_ble_eq_true rfl) ([] : List Nat) [0, 1, 2] [wV cy b q p x e cr t0 ab be rb rn ru, wI cy q S M sk sc mk ms mp, wI cy p SJ MJ skJ scJ mkJ msJ mpJ] 3 (by decide +kernel) rfl rfl rfl dX7_lasts_12 (fun z_6 _ H_ lo_ hw_ W_ => ?_)
    replace hw_ : ((z_6 = 1 ∧ (1 ≤ d ∧ d ≤ 30)) ∨ (z_6 = 0 ∧ ¬ (1 ≤ d ∧ d ≤ 30))) := hw_
    have f12_v := hw_
    clear hw_
    refine z_if_ne (tgt := 25) F_ (by omega) dX7_lasts_15 (by decide) (fun c15 => ?_) (fun c15 => ?_)
    · refine lv_aload_n F_.1 F_.2.1 dX7_lasts_25 rfl (lv_at hl 0 rfl) ?_
      refine z_get F_ K_ W_ 0 0 1 rfl rfl rfl (C := RX7) (T := TX7) (N := 13) rfl (by decide) hinX7 (List.mem_of_getElem? (i := 2) rfl) dX7_lasts_26 ?_
      refine lv_aload_n F_.1 F_.2.1 dX7_lasts_29 rfl (lv_at hl 0 rfl) ?_
      refine z_get F_ K_ W_ 0 0 0 rfl rfl rfl (C := RX7) (T := TX7) (N := 13) rfl (by decide) hinX7 (List.mem_of_getElem? (i := 1) rfl) dX7_lasts_30 ?_
      refine z_callVv F_ K_ W_ [.ref (q 0)] (c_X4_takePlaces l_ D cy p SJ MJ skJ scJ mkJ msJ mpJ q S M sk sc mk ms mp (by omega) (by omega) bskJ bscJ bmkJ bmsJ bmpJ (by omega) (by omega) bsk bsc bmk bms bmp) 1 rfl gX7_lasts_X4_takePlaces rfl (by decide +kernel) ⟨⟨Nat.le_of_ble_eq_true rfl, Nat.le_of_ble_eq_true rfl⟩, rfl, rfl, Nat.zero_le _, Nat.zero_le _⟩ 0 0 4 rfl rfl rfl rfl hl.1 rfl (Nat.le_of_ble_eq_true rfl) [2, 1] [0] [wV cy b q p x e cr t0 ab be rb rn ru] (fun (u_ : (Int → Int) × (Int → Int) × (Int → Int) × (Int → Int) × (Int → Int)) => [wV cy b q p x e cr t0 ab be rb rn ru, wI cy q S M sk sc mk ms mp, wI cy p S M u_.1 u_.2.1 u_.2.2.1 u_.2.2.2.1 u_.2.2.2.2]) 3 (by decide +kernel) rfl rfl rfl (fun _ => rfl) (fun _ => rfl) (fun _ => rfl) dX7_lasts_33 (fun u_ H_ lo_ hw_ W_ => ?_)
      obtain ⟨nk_8, nc_9, n1_10, n2_11, n3_12⟩ := u_
      have W_ : WD D A_ s_.heap ([wV cy b q p x e cr t0 ab be rb rn ru, wI cy q S M sk sc mk ms mp, wI cy p S M nk_8 nc_9 n1_10 n2_11 n3_12]) H_ lo_ := W_
      replace hw_ : (nk_8 = zcp sk skJ 0 0 3) ∧ (nc_9 = zcp sc scJ 0 0 3) ∧ (n1_10 = zcp mk mkJ 0 0 8) ∧ (n2_11 = zcp ms msJ 0 0 8) ∧ (n3_12 = zcp mp mpJ 0 0 8) ∧ (0 ≤ S ∧ S ≤ 3) ∧ (0 ≤ M ∧ M ≤ 8) ∧ (∀ j : Int, 0 ≤ nk_8 j ∧ nk_8 j ≤ 5) ∧ (∀ j : Int, 0 ≤ nc_9 j ∧ nc_9 j ≤ 99) ∧ (∀ j : Int, 0 ≤ n1_10 j ∧ n1_10 j ≤ 5) ∧ (∀ j : Int, 0 ≤ n2_11 j ∧ n2_11 j ≤ 9) ∧ (∀ j : Int, (-1) ≤ n3_12 j ∧ n3_12 j ≤ 2) := hw_
      obtain ⟨f33_k, f33_c, f33_a1, f33_a2, f33_a3, f33_B_I_S, f33_B_I_M, f33_B_I_sk, f33_B_I_sc, f33_B_I_mk, f33_B_I_ms, f33_B_I_mp⟩ := hw_
      have W_ : WD D A_ s_.heap ([wV cy b q p x e cr t0 ab be rb rn ru, wI cy q S M sk sc mk ms mp, wI cy p S M sk nc_9 n1_10 n2_11 n3_12]) H_ lo_ := wd_cell W_ 2 1 rfl rfl rfl (by intro k_ h1_ h2_; rw [f33_k, zcp_in _ _ (by omega)]; congr 1; omega)
      have W_ : WD D A_ s_.heap ([wV cy b q p x e cr t0 ab be rb rn ru, wI cy q S M sk sc mk ms mp, wI cy p S M sk sc n1_10 n2_11 n3_12]) H_ lo_ := wd_cell W_ 2 2 rfl rfl rfl (by intro k_ h1_ h2_; rw [f33_c, zcp_in _ _ (by omega)]; congr 1; omega)
      have W_ : WD D A_ s_.heap ([wV cy b q p x e cr t0 ab be rb rn ru, wI cy q S M sk sc mk ms mp, wI cy p S M sk sc mk n2_11 n3_12]) H_ lo_ := wd_cell W_ 2 3 rfl rfl rfl (by intro k_ h1_ h2_; rw [f33_a1, zcp_in _ _ (by omega)]; congr 1; omega)
      have W_ : WD D A_ s_.heap ([wV cy b q p x e cr t0 ab be rb rn ru, wI cy q S M sk sc mk ms mp, wI cy p S M sk sc mk ms n3_12]) H_ lo_ := wd_cell W_ 2 4 rfl rfl rfl (by intro k_ h1_ h2_; rw [f33_a2, zcp_in _ _ (by omega)]; congr 1; omega)
      have W_ : WD D A_ s_.heap ([wV cy b q p x e cr t0 ab be rb rn ru, wI cy q S M sk sc mk ms mp, wI cy p S M sk sc mk ms mp]) H_ lo_ := wd_cell W_ 2 5 rfl rfl rfl (by intro k_ h1_ h2_; rw [f33_a3, zcp_in _ _ (by omega)]; congr 1; omega)
      refine z_iconst F_ dX7_lasts_36 ?_
      refine lv_istore_n (lv' := [(3, .int (zi 0)), (0, .ref (b 0)), (1, .int (zi h)), (2, .int (zi d))]) F_.1 F_.2.1 dX7_lasts_37 rfl hl (by decide) rfl (fun ls_ hl => ?_)
      have L38 : ∀ (n_ : Nat) (n : Int) (c : Int → Int) (pp : Int → Int) (bc : ∀ j : Int, 0 ≤ c j ∧ c j ≤ 99) (bpp : ∀ j : Int, (-1) ≤ pp j ∧ pp j ≤ 2) (hn : 0 ≤ n ∧ n ≤ 8) (hc : c = (callsI S M sc mk ms mp h n).2.1) (hp : pp = (callsI S M sc mk ms mp h n).2.2) (ha : ∀ j, 0 ≤ j → j < n → canI S M sk ms (callsI S M sc mk ms mp h j).2.2 h d) (hm_ : (8 - n : Int) < (n_ : Int)) (ls_ : Array Slot) (H_ : Heap) (lo_ : List Loc), WD D A_ s_.heap ([wV cy b q p x e cr t0 ab be rb rn ru, wI cy q S M sk sc mk ms mp, wI cy p S M sk c mk ms pp]) H_ lo_ → lv_has ls_ 4 [(3, .int (zi n)), (0, .ref (b 0)), (1, .int (zi h)), (2, .int (zi d))] → W p_ l_ e_ rX7_lasts s_ m_ ar_ be_ me_ c_ H_ lo_ 0 0 Q_ (F0 m_ 38 ls_ []) := by
        intro n_
        induction n_ with
        | zero =>
          intro n c pp bc bpp hn hc hp ha hm_ ls_ H_ lo_ _ _
          exact absurd hm_ (by omega)
        | succ n_ ih_ =>
          intro n c pp bc bpp hn hc hp ha hm_ ls_ H_ lo_ W_ hl
          have ih38 := ih_
          refine lv_iload_n F_.1 F_.2.1 dX7_lasts_38 rfl (lv_at hl 0 rfl) ?_
          refine z_bipush F_ (by decide) dX7_lasts_39 ?_
          refine z_icmp_ge (tgt := 71) F_ (by omega) dX7_lasts_41 (by decide) (fun c41 => ?_) (fun c41 => ?_)
          · refine lv_iload_n F_.1 F_.2.1 dX7_lasts_71 rfl (lv_at hl 0 rfl) ?_
            exact hret _ _ _ _ n (rb, rn, ru, S, M, sk, c, mk, ms, pp) dX7_lasts_72 ⟨(by (try dsimp only) <;> (first | exact Or.inl ⟨by omega, hn, Or.inl (by omega), ha, rfl, rfl, rfl⟩ | exact Or.inl ⟨by omega, hn, Or.inr (by rw [← hp]; exact (f50_v.resolve_left (fun w_ => absurd w_.1 (by omega))).2), ha, rfl, rfl, rfl⟩)), (by (try dsimp only) <;> (omega)), (by (try dsimp only) <;> (omega)), bsk, bc, bmk, bms, bpp⟩ W_
          · refine lv_aload_n F_.1 F_.2.1 dX7_lasts_44 rfl (lv_at hl 1 rfl) ?_
            refine z_get F_ K_ W_ 0 0 1 rfl rfl rfl (C := RX7) (T := TX7) (N := 13) rfl (by decide) hinX7 (List.mem_of_getElem? (i := 2) rfl) dX7_lasts_45 ?_
            refine lv_iload_n F_.1 F_.2.1 dX7_lasts_48 rfl (lv_at hl 2 rfl) ?_
            refine lv_iload_n F_.1 F_.2.1 dX7_lasts_49 rfl (lv_at hl 3 rfl) ?_
            refine z_callVip F_ K_ W_ [.int (zi h), .int (zi d)] (c_X4_canSail l_ D cy p S M sk c mk ms pp h d (by omega) (by omega) bsk bc bmk bms bpp (by first | omega | assumption) (by first | omega | assumption) (by first | omega | assumption)) 2 rfl gX7_lasts_X4_canSail rfl (by decide +kernel) ⟨⟨Nat.le_of_ble_eq_true rfl, Nat.le_of_ble_eq_true rfl⟩, rfl, rfl, Nat.zero_le _, Nat.zero_le _⟩ 0 0 4 rfl rfl rfl rfl hl.1 rfl (Nat.le_of_ble_eq_true rfl) [2] [0, 1] [wV cy b q p x e cr t0 ab be rb rn ru, wI cy q S M sk sc mk ms mp] 3 (by decide +kernel) rfl rfl rfl dX7_lasts_50 (fun z_13 _ H_ lo_ hw_ W_ => ?_)
            replace hw_ : ((z_13 = 1 ∧ ((0 ≤ h ∧ h < S) ∧ 0 < cntZ pp h M ∧ needZ (sk h) d (cntZ pp h M) ≤ sumZ pp ms h M)) ∨ (z_13 = 0 ∧ ¬ ((0 ≤ h ∧ h < S) ∧ 0 < cntZ pp h M ∧ needZ (sk h) d (cntZ pp h M) ≤ sumZ pp ms h M))) := hw_
            have f50_v := hw_
            clear hw_
            refine z_if_eq (tgt := 71) F_ (by omega) dX7_lasts_53 (by decide) (fun c53 => ?_) (fun c53 => ?_)
            · refine lv_iload_n F_.1 F_.2.1 dX7_lasts_71 rfl (lv_at hl 0 rfl) ?_
              exact hret _ _ _ _ n (rb, rn, ru, S, M, sk, c, mk, ms, pp) dX7_lasts_72 ⟨(by (try dsimp only) <;> (first | exact Or.inl ⟨by omega, hn, Or.inl (by omega), ha, rfl, rfl, rfl⟩ | exact Or.inl ⟨by omega, hn, Or.inr (by rw [← hp]; exact (f50_v.resolve_left (fun w_ => absurd w_.1 (by omega))).2), ha, rfl, rfl, rfl⟩)), (by (try dsimp only) <;> (omega)), (by (try dsimp only) <;> (omega)), bsk, bc, bmk, bms, bpp⟩ W_
            · refine lv_aload_n F_.1 F_.2.1 dX7_lasts_56 rfl (lv_at hl 1 rfl) ?_
              refine z_get F_ K_ W_ 0 0 1 rfl rfl rfl (C := RX7) (T := TX7) (N := 13) rfl (by decide) hinX7 (List.mem_of_getElem? (i := 2) rfl) dX7_lasts_57 ?_
              refine lv_iload_n F_.1 F_.2.1 dX7_lasts_60 rfl (lv_at hl 2 rfl) ?_
              refine z_callVi F_ K_ W_ [.int (zi h)] (c_X4_leaveOne l_ D cy p S M sk c mk ms pp h (by omega) (by omega) bsk bc bmk bms bpp (by first | omega | assumption)) 1 rfl gX7_lasts_X4_leaveOne rfl (by decide +kernel) ⟨⟨Nat.le_of_ble_eq_true rfl, Nat.le_of_ble_eq_true rfl⟩, rfl, rfl, Nat.zero_le _, Nat.zero_le _⟩ 0 0 4 rfl rfl rfl rfl hl.1 rfl (Nat.le_of_ble_eq_true rfl) [2] [0, 1] [wV cy b q p x e cr t0 ab be rb rn ru, wI cy q S M sk sc mk ms mp] (fun (u_ : (Int → Int) × (Int → Int)) => [wV cy b q p x e cr t0 ab be rb rn ru, wI cy q S M sk sc mk ms mp, wI cy p S M sk u_.1 mk ms u_.2]) 3 (by decide +kernel) rfl rfl rfl (fun _ => rfl) (fun _ => rfl) (fun _ => rfl) dX7_lasts_61 (fun z_14 u_ H_ lo_ hw_ W_ => ?_)
              obtain ⟨sc2_15, mp2_16⟩ := u_
              have W_ : WD D A_ s_.heap ([wV cy b q p x e cr t0 ab be rb rn ru, wI cy q S M sk sc mk ms mp, wI cy p S M sk sc2_15 mk ms mp2_16]) H_ lo_ := W_
              replace hw_ : (z_14 = lstI S M c mk ms pp h) ∧ (mp2_16 = goMp pp z_14) ∧ (sc2_15 = goSc c h z_14) ∧ (∀ j : Int, 0 ≤ sc2_15 j ∧ sc2_15 j ≤ 99) ∧ (∀ j : Int, (-1) ≤ mp2_16 j ∧ mp2_16 j ≤ 2) := hw_
              obtain ⟨f61_v, f61_p, f61_c, f61_B_I_sc, f61_B_I_mp⟩ := hw_
              refine lv_pop F_.1 F_.2.1 dX7_lasts_64 rfl ?_
              refine z_iinc (lv' := [(3, .int (zi (n + 1))), (0, .ref (b 0)), (1, .int (zi h)), (2, .int (zi d))]) F_ dX7_lasts_65 hl (k := 0) rfl (by decide) rfl (fun ls_ hl => ?_)
              refine z_goto (tgt := 38) F_ dX7_lasts_68 (by decide) ?_
              exact ih38 (n + 1) sc2_15 mp2_16 f61_B_I_sc f61_B_I_mp (by first | omega | assumption) (by rw [callsI_s _ _ _ _ _ _ _ hn.1, ← hc, ← hp]; rw [f61_c, f61_v]) (by rw [callsI_s _ _ _ _ _ _ _ hn.1, ← hc, ← hp]; rw [f61_p, f61_v]) (by intro j q1 q2; rcases Int.lt_or_eq_of_le (show j ≤ n by omega) with q_ | q_; exact ha j q1 q_; (rw [q_, ← hp]; exact (f50_v.resolve_right (fun w_ => absurd w_.1 (by omega))).2)) (by omega) ls_ H_ lo_ W_ (lv_sub hl [0, 1, 2, 3] rfl)
      exact L38 ((8 - 0 : Int).toNat + 1) 0 sc mp bsc bmp (by first | omega | assumption) (by rfl) (by rfl) (by intro j q1 q2; omega) (by have := Int.self_le_toNat (8 - 0 : Int); omega) ls_ H_ lo_ W_ (lv_sub hl [0, 1, 2, 3] rfl)
    · refine lv_aload_n F_.1 F_.2.1 dX7_lasts_18 rfl (lv_at hl 0 rfl) ?_
      refine z_bipush F_ (by decide) dX7_lasts_19 ?_
      refine z_callVi F_ K_ W_ [.int (zi (-2))] (c_X7_refuse l_ D cy b q p x e cr t0 ab be rb rn ru (-2) (by first | omega | assumption)) 1 rfl gX7_lasts_X7_refuse rfl (by decide +kernel) ⟨⟨Nat.le_of_ble_eq_true rfl, Nat.le_of_ble_eq_true rfl⟩, rfl, rfl, Nat.zero_le _, Nat.zero_le _⟩ 0 0 6 rfl rfl rfl rfl hl.1 rfl (Nat.le_of_ble_eq_true rfl) [0] [1, 2] [wI cy q S M sk sc mk ms mp, wI cy p SJ MJ skJ scJ mkJ msJ mpJ] (fun (u_ : (Int) × (Int) × (Int)) => [wV cy b q p x e cr t0 ab be u_.1 u_.2.1 u_.2.2, wI cy q S M sk sc mk ms mp, wI cy p SJ MJ skJ scJ mkJ msJ mpJ]) 3 (by decide +kernel) rfl rfl rfl (fun _ => rfl) (fun _ => rfl) (fun _ => rfl) dX7_lasts_21 (fun z_17 u_ H_ lo_ hw_ W_ => ?_)
      obtain ⟨rb2_18, rn2_19, ru2_20⟩ := u_
      have W_ : WD D A_ s_.heap ([wV cy b q p x e cr t0 ab be rb2_18 rn2_19 ru2_20, wI cy q S M sk sc mk ms mp, wI cy p SJ MJ skJ scJ mkJ msJ mpJ]) H_ lo_ := W_
      replace hw_ : (z_17 = (-2)) ∧ (((-2) = -2 ∧ rb2_18 = rb + 1 ∧ rn2_19 = rn ∧ ru2_20 = ru) ∨ ((-2) = -3 ∧ rb2_18 = rb ∧ rn2_19 = rn + 1 ∧ ru2_20 = ru) ∨ (¬ (-2) = -2 ∧ ¬ (-2) = -3 ∧ rb2_18 = rb ∧ rn2_19 = rn ∧ ru2_20 = ru + 1)) := hw_
      obtain ⟨f21_v, f21_k⟩ := hw_
      exact hret _ _ _ _ z_17 (rb2_18, rn2_19, ru2_20, SJ, MJ, skJ, scJ, mkJ, msJ, mpJ) dX7_lasts_24 ⟨(by (try dsimp only) <;> (refine Or.inr (⟨?_, ?_, ?_, ?_, ?_⟩) <;> (first | omega | rfl | assumption))), (by (try dsimp only) <;> (omega)), (by (try dsimp only) <;> (omega)), bskJ, bscJ, bmkJ, bmsJ, bmpJ⟩ W_
abbrev rX7_few : Room := { frames := 5, cells := 0, slots := 0, locals := 121 }
set_option maxHeartbeats 1000000 in
set_option maxRecDepth 100000 in
theorem c_X7_few (l_ : Launch) (D : va_G) (cy : Nat → ClassId) (b : Nat → Nat) (q : Nat → Nat) (p : Nat → Nat) (x : Nat → Nat) (e : Nat → Nat) (cr : Nat → Nat) (t0 : Nat) (ab : Int) (be : Int) (rb : Int) (rn : Int) (ru : Int) (S : Int) (M : Int) (sk : Int → Int) (sc : Int → Int) (mk : Int → Int) (ms : Int → Int) (mp : Int → Int) (SJ : Int) (MJ : Int) (skJ : Int → Int) (scJ : Int → Int) (mkJ : Int → Int) (msJ : Int → Int) (mpJ : Int → Int) (fk : Int → Int) (fm : Int → Int) (y : Int) (w : Int) (bS : 0 ≤ S ∧ S ≤ 3) (bM : 0 ≤ M ∧ M ≤ 8) (bsk : ∀ j : Int, 0 ≤ sk j ∧ sk j ≤ 5) (bsc : ∀ j : Int, 0 ≤ sc j ∧ sc j ≤ 99) (bmk : ∀ j : Int, 0 ≤ mk j ∧ mk j ≤ 5) (bms : ∀ j : Int, 0 ≤ ms j ∧ ms j ≤ 9) (bmp : ∀ j : Int, (-1) ≤ mp j ∧ mp j ≤ 2) (bSJ : 0 ≤ SJ ∧ SJ ≤ 3) (bMJ : 0 ≤ MJ ∧ MJ ≤ 8) (bskJ : ∀ j : Int, 0 ≤ skJ j ∧ skJ j ≤ 5) (bscJ : ∀ j : Int, 0 ≤ scJ j ∧ scJ j ≤ 99) (bmkJ : ∀ j : Int, 0 ≤ mkJ j ∧ mkJ j ≤ 5) (bmsJ : ∀ j : Int, 0 ≤ msJ j ∧ msJ j ≤ 9) (bmpJ : ∀ j : Int, (-1) ≤ mpJ j ∧ mpJ j ≤ 2) (bfk : ∀ j : Int, (-1) ≤ fk j ∧ fk j ≤ 99) (bfm : ∀ j : Int, 0 ≤ fm j ∧ fm j ≤ 8) (ry : -2147483648 ≤ y ∧ y < 2147483648) (rw : -2147483648 ≤ w ∧ w < 2147483648) : CTi l_ D cy yX7_few wsX7_few rX7_few [.ref (b 0), .int (zi y), .int (zi w)] ([wV cy b q p x e cr t0 ab be rb rn ru, wI cy q S M sk sc mk ms mp, wI cy p SJ MJ skJ scJ mkJ msJ mpJ, wE cy e fk fm]) (fun (z : Int) (u : (Int) × (Int) × (Int) × (Int) × (Int) × (Int → Int) × (Int → Int) × (Int → Int) × (Int → Int) × (Int → Int) × (Int → Int) × (Int → Int)) => ((((1 ≤ y ∧ y ≤ 72) ∧ -1 ≤ w ∧ w < S) ∧ FewI S M sc mk ms mp y w z ∧ u.1 = rb ∧ u.2.1 = rn ∧ u.2.2.1 = ru) ∨ (¬ ((1 ≤ y ∧ y ≤ 72) ∧ -1 ≤ w ∧ w < S) ∧ z = -10 ∧ u.1 = rb + 1 ∧ u.2.1 = rn ∧ u.2.2.1 = ru)) ∧ (0 ≤ u.2.2.2.1 ∧ u.2.2.2.1 ≤ 3) ∧ (0 ≤ u.2.2.2.2.1 ∧ u.2.2.2.2.1 ≤ 8) ∧ (∀ j : Int, 0 ≤ u.2.2.2.2.2.1 j ∧ u.2.2.2.2.2.1 j ≤ 5) ∧ (∀ j : Int, 0 ≤ u.2.2.2.2.2.2.1 j ∧ u.2.2.2.2.2.2.1 j ≤ 99) ∧ (∀ j : Int, 0 ≤ u.2.2.2.2.2.2.2.1 j ∧ u.2.2.2.2.2.2.2.1 j ≤ 5) ∧ (∀ j : Int, 0 ≤ u.2.2.2.2.2.2.2.2.1 j ∧ u.2.2.2.2.2.2.2.2.1 j ≤ 9) ∧ (∀ j : Int, (-1) ≤ u.2.2.2.2.2.2.2.2.2.1 j ∧ u.2.2.2.2.2.2.2.2.2.1 j ≤ 2) ∧ (∀ j : Int, (-1) ≤ u.2.2.2.2.2.2.2.2.2.2.1 j ∧ u.2.2.2.2.2.2.2.2.2.2.1 j ≤ 99) ∧ (∀ j : Int, 0 ≤ u.2.2.2.2.2.2.2.2.2.2.2 j ∧ u.2.2.2.2.2.2.2.2.2.2.2 j ≤ 8)) (fun (u : (Int) × (Int) × (Int) × (Int) × (Int) × (Int → Int) × (Int → Int) × (Int → Int) × (Int → Int) × (Int → Int) × (Int → Int) × (Int → Int)) => [wV cy b q p x e cr t0 ab be u.1 u.2.1 u.2.2.1, wI cy q S M sk sc mk ms mp, wI cy p u.2.2.2.1 u.2.2.2.2.1 u.2.2.2.2.2.1 u.2.2.2.2.2.2.1 u.2.2.2.2.2.2.2.1 u.2.2.2.2.2.2.2.2.1 u.2.2.2.2.2.2.2.2.2.1, wE cy e u.2.2.2.2.2.2.2.2.2.2.1 u.2.2.2.2.2.2.2.2.2.2.2]) := by
  refine CTi.of RX7 cX7_few 4 rfl (by decide) rfl (fun z u hz => rfl) (Nat.le_of_ble_eq_true rfl) ?_
  intro p_ e_ s_ m_ ar_ be_ me_ c_ Q_ A_ ls_ F_ K_ W_ hl hret
  have hl : lv_has ls_ 4 [(0, .ref (b 0)), (1, .int (zi y)), (2, .int (zi w))] := hl
  obtain ⟨H_, hH_⟩ : ∃ x, x = s_.heap := ⟨_, rfl⟩
  obtain ⟨lo_, hlo_⟩ : ∃ x : List Loc, x = [] := ⟨_, rfl⟩
  have W_ : WD D A_ s_.heap ([wV cy b q p x e cr t0 ab be rb rn ru, wI cy q S M sk sc mk ms mp, wI cy p SJ MJ skJ scJ mkJ msJ mpJ, wE cy e fk fm]) H_ lo_ := by rw [hH_, hlo_]; exact W_
  rw [← hlo_]
  suffices hg_ : W p_ l_ e_ rX7_few s_ m_ ar_ be_ me_ c_ H_ lo_ 0 0 Q_ (F0 m_ 0 ls_ []) by rw [hH_] at hg_; exact hg_
  clear hH_ hlo_
  have hinX7 : ∀ w ∈ u_ws RX7 TX7 13, w ∈ wsX7_few := fun w h => List.mem_cons_of_mem _ (List.mem_append_left _ (List.mem_append_left _ (List.mem_append_right _ h)))
  refine lv_iload_n F_.1 F_.2.1 dX7_few_0 rfl (lv_at hl 1 rfl) ?_
  refine z_iconst F_ dX7_few_1 ?_
  refine z_bipush F_ (by decide) dX7_few_2 ?_
  refine z_callSip F_ K_ W_ [.int (zi y), .int (zi 1), .int (zi 72)] (c_X7_within l_ D cy y 1 72 (by first | omega | assumption) (by first | omega | assumption) (by first | omega | assumption)) 3 rfl gX7_few_X7_within rfl (by decide +kernel) ⟨⟨Nat.le_of_ble_eq_true rfl, Nat.le_of_ble_eq_true rfl⟩, rfl, rfl, Nat.zero_le _, Nat.zero_le _⟩ hl.1 rfl (Nat.le_of_ble_eq_true rfl) ([] : List Nat) [0, 1, 2, 3] [wV cy b q p x e cr t0 ab be rb rn ru, wI cy q S M sk sc mk ms mp, wI cy p SJ MJ skJ scJ mkJ msJ mpJ, wE cy e fk fm] 4 (by decide +kernel) rfl rfl rfl dX7_few_4 (fun z_1 _ H_ lo_ hw_ W_ => ?_)
  replace hw_ : ((z_1 = 1 ∧ (1 ≤ y ∧ y ≤ 72)) ∨ (z_1 = 0 ∧ ¬ (1 ≤ y ∧ y ≤ 72))) := hw_
  have f4_v := hw_
  clear hw_
  have J18 : ∀ (h18 : ¬ ((1 ≤ y ∧ y ≤ 72) ∧ -1 ≤ w ∧ w < S)) (ls_ : Array Slot) (H_ : Heap) (lo_ : List Loc), WD D A_ s_.heap ([wV cy b q p x e cr t0 ab be rb rn ru, wI cy q S M sk sc mk ms mp, wI cy p SJ MJ skJ scJ mkJ msJ mpJ, wE cy e fk fm]) H_ lo_ → lv_has ls_ 4 [(0, .ref (b 0)), (1, .int (zi y)), (2, .int (zi w))] → W p_ l_ e_ rX7_few s_ m_ ar_ be_ me_ c_ H_ lo_ 0 0 Q_ (F0 m_ 18 ls_ []) := by
    intro h18 ls_ H_ lo_ W_ hl
    refine lv_aload_n F_.1 F_.2.1 dX7_few_18 rfl (lv_at hl 0 rfl) ?_
    refine z_bipush F_ (by decide) dX7_few_19 ?_
    refine z_callVi F_ K_ W_ [.int (zi (-2))] (c_X7_refuse l_ D cy b q p x e cr t0 ab be rb rn ru (-2) (by first | omega | assumption)) 1 rfl gX7_few_X7_refuse rfl (by decide +kernel) ⟨⟨Nat.le_of_ble_eq_true rfl, Nat.le_of_ble_eq_true rfl⟩, rfl, rfl, Nat.zero_le _, Nat.zero_le _⟩ 0 0 6 rfl rfl rfl rfl hl.1 rfl (Nat.le_of_ble_eq_true rfl) [0] [1, 2, 3] [wI cy q S M sk sc mk ms mp, wI cy p SJ MJ skJ scJ mkJ msJ mpJ, wE cy e fk fm] (fun (u_ : (Int) × (Int) × (Int)) => [wV cy b q p x e cr t0 ab be u_.1 u_.2.1 u_.2.2, wI cy q S M sk sc mk ms mp, wI cy p SJ MJ skJ scJ mkJ msJ mpJ, wE cy e fk fm]) 4 (by decide +kernel) rfl rfl rfl (fun _ => rfl) (fun _ => rfl) (fun _ => rfl) dX7_few_21 (fun z_2 u_ H_ lo_ hw_ W_ => ?_)
    obtain ⟨rb2_3, rn2_4, ru2_5⟩ := u_
    have W_ : WD D A_ s_.heap ([wV cy b q p x e cr t0 ab be rb2_3 rn2_4 ru2_5, wI cy q S M sk sc mk ms mp, wI cy p SJ MJ skJ scJ mkJ msJ mpJ, wE cy e fk fm]) H_ lo_ := W_
    replace hw_ : (z_2 = (-2)) ∧ (((-2) = -2 ∧ rb2_3 = rb + 1 ∧ rn2_4 = rn ∧ ru2_5 = ru) ∨ ((-2) = -3 ∧ rb2_3 = rb ∧ rn2_4 = rn + 1 ∧ ru2_5 = ru) ∨ (¬ (-2) = -2 ∧ ¬ (-2) = -3 ∧ rb2_3 = rb ∧ rn2_4 = rn ∧ ru2_5 = ru + 1)) := hw_
    obtain ⟨f21_v, f21_k⟩ := hw_
    refine lv_pop F_.1 F_.2.1 dX7_few_24 rfl ?_
    refine z_bipush F_ (by decide) dX7_few_25 ?_
    exact hret _ _ _ _ (-10) (rb2_3, rn2_4, ru2_5, SJ, MJ, skJ, scJ, mkJ, msJ, mpJ, fk, fm) dX7_few_27 ⟨(by (try dsimp only) <;> (refine Or.inr (⟨?_, ?_, ?_, ?_, ?_⟩) <;> (first | omega | rfl | assumption))), (by (try dsimp only) <;> (omega)), (by (try dsimp only) <;> (omega)), bskJ, bscJ, bmkJ, bmsJ, bmpJ, bfk, bfm⟩ W_
  refine z_if_eq (tgt := 18) F_ (by omega) dX7_few_7 (by decide) (fun c7 => ?_) (fun c7 => ?_)
  · exact J18 (by first | omega | assumption) ls_ H_ lo_ W_ (lv_sub hl [0, 1, 2] rfl)
  · refine lv_aload_n F_.1 F_.2.1 dX7_few_10 rfl (lv_at hl 0 rfl) ?_
    refine lv_iload_n F_.1 F_.2.1 dX7_few_11 rfl (lv_at hl 2 rfl) ?_
    refine z_callVip F_ K_ W_ [.int (zi w)] (c_X7_isShipOrNone l_ D cy b q p x e cr t0 ab be rb rn ru S M sk sc mk ms mp w (by omega) (by omega) bsk bsc bmk bms bmp (by first | omega | assumption)) 1 rfl gX7_few_X7_isShipOrNone rfl (by decide +kernel) ⟨⟨Nat.le_of_ble_eq_true rfl, Nat.le_of_ble_eq_true rfl⟩, rfl, rfl, Nat.zero_le _, Nat.zero_le _⟩ 0 0 6 rfl rfl rfl rfl hl.1 rfl (Nat.le_of_ble_eq_true rfl) [0, 1] [2, 3] [wI cy p SJ MJ skJ scJ mkJ msJ mpJ, wE cy e fk fm] 4 (by decide +kernel) rfl rfl rfl dX7_few_12 (fun z_6 _ H_ lo_ hw_ W_ => ?_)
    replace hw_ : ((z_6 = 1 ∧ (-1 ≤ w ∧ w < S)) ∨ (z_6 = 0 ∧ ¬ (-1 ≤ w ∧ w < S))) := hw_
    have f12_v := hw_
    clear hw_
    refine z_if_ne (tgt := 28) F_ (by omega) dX7_few_15 (by decide) (fun c15 => ?_) (fun c15 => ?_)
    · refine lv_aload_n F_.1 F_.2.1 dX7_few_28 rfl (lv_at hl 0 rfl) ?_
      refine z_get F_ K_ W_ 0 0 1 rfl rfl rfl (C := RX7) (T := TX7) (N := 13) rfl (by decide) hinX7 (List.mem_of_getElem? (i := 1) rfl) dX7_few_29 ?_
      refine lv_aload_n F_.1 F_.2.1 dX7_few_32 rfl (lv_at hl 0 rfl) ?_
      refine z_get F_ K_ W_ 0 0 0 rfl rfl rfl (C := RX7) (T := TX7) (N := 13) rfl (by decide) hinX7 (List.mem_of_getElem? (i := 2) rfl) dX7_few_33 ?_
      refine z_callVv F_ K_ W_ [.ref (q 0)] (c_X4_takePlaces l_ D cy p SJ MJ skJ scJ mkJ msJ mpJ q S M sk sc mk ms mp (by omega) (by omega) bskJ bscJ bmkJ bmsJ bmpJ (by omega) (by omega) bsk bsc bmk bms bmp) 1 rfl gX7_few_X4_takePlaces rfl (by decide +kernel) ⟨⟨Nat.le_of_ble_eq_true rfl, Nat.le_of_ble_eq_true rfl⟩, rfl, rfl, Nat.zero_le _, Nat.zero_le _⟩ 0 0 4 rfl rfl rfl rfl hl.1 rfl (Nat.le_of_ble_eq_true rfl) [2, 1] [0, 3] [wV cy b q p x e cr t0 ab be rb rn ru, wE cy e fk fm] (fun (u_ : (Int → Int) × (Int → Int) × (Int → Int) × (Int → Int) × (Int → Int)) => [wV cy b q p x e cr t0 ab be rb rn ru, wI cy q S M sk sc mk ms mp, wI cy p S M u_.1 u_.2.1 u_.2.2.1 u_.2.2.2.1 u_.2.2.2.2, wE cy e fk fm]) 4 (by decide +kernel) rfl rfl rfl (fun _ => rfl) (fun _ => rfl) (fun _ => rfl) dX7_few_36 (fun u_ H_ lo_ hw_ W_ => ?_)
      obtain ⟨nk_8, nc_9, n1_10, n2_11, n3_12⟩ := u_
      have W_ : WD D A_ s_.heap ([wV cy b q p x e cr t0 ab be rb rn ru, wI cy q S M sk sc mk ms mp, wI cy p S M nk_8 nc_9 n1_10 n2_11 n3_12, wE cy e fk fm]) H_ lo_ := W_
      replace hw_ : (nk_8 = zcp sk skJ 0 0 3) ∧ (nc_9 = zcp sc scJ 0 0 3) ∧ (n1_10 = zcp mk mkJ 0 0 8) ∧ (n2_11 = zcp ms msJ 0 0 8) ∧ (n3_12 = zcp mp mpJ 0 0 8) ∧ (0 ≤ S ∧ S ≤ 3) ∧ (0 ≤ M ∧ M ≤ 8) ∧ (∀ j : Int, 0 ≤ nk_8 j ∧ nk_8 j ≤ 5) ∧ (∀ j : Int, 0 ≤ nc_9 j ∧ nc_9 j ≤ 99) ∧ (∀ j : Int, 0 ≤ n1_10 j ∧ n1_10 j ≤ 5) ∧ (∀ j : Int, 0 ≤ n2_11 j ∧ n2_11 j ≤ 9) ∧ (∀ j : Int, (-1) ≤ n3_12 j ∧ n3_12 j ≤ 2) := hw_
      obtain ⟨f36_k, f36_c, f36_a1, f36_a2, f36_a3, f36_B_I_S, f36_B_I_M, f36_B_I_sk, f36_B_I_sc, f36_B_I_mk, f36_B_I_ms, f36_B_I_mp⟩ := hw_
      have W_ : WD D A_ s_.heap ([wV cy b q p x e cr t0 ab be rb rn ru, wI cy q S M sk sc mk ms mp, wI cy p S M sk nc_9 n1_10 n2_11 n3_12, wE cy e fk fm]) H_ lo_ := wd_cell W_ 2 1 rfl rfl rfl (by intro k_ h1_ h2_; rw [f36_k, zcp_in _ _ (by omega)]; congr 1; omega)
      have W_ : WD D A_ s_.heap ([wV cy b q p x e cr t0 ab be rb rn ru, wI cy q S M sk sc mk ms mp, wI cy p S M sk sc n1_10 n2_11 n3_12, wE cy e fk fm]) H_ lo_ := wd_cell W_ 2 2 rfl rfl rfl (by intro k_ h1_ h2_; rw [f36_c, zcp_in _ _ (by omega)]; congr 1; omega)
      have W_ : WD D A_ s_.heap ([wV cy b q p x e cr t0 ab be rb rn ru, wI cy q S M sk sc mk ms mp, wI cy p S M sk sc mk n2_11 n3_12, wE cy e fk fm]) H_ lo_ := wd_cell W_ 2 3 rfl rfl rfl (by intro k_ h1_ h2_; rw [f36_a1, zcp_in _ _ (by omega)]; congr 1; omega)
      have W_ : WD D A_ s_.heap ([wV cy b q p x e cr t0 ab be rb rn ru, wI cy q S M sk sc mk ms mp, wI cy p S M sk sc mk ms n3_12, wE cy e fk fm]) H_ lo_ := wd_cell W_ 2 4 rfl rfl rfl (by intro k_ h1_ h2_; rw [f36_a2, zcp_in _ _ (by omega)]; congr 1; omega)
      have W_ : WD D A_ s_.heap ([wV cy b q p x e cr t0 ab be rb rn ru, wI cy q S M sk sc mk ms mp, wI cy p S M sk sc mk ms mp, wE cy e fk fm]) H_ lo_ := wd_cell W_ 2 5 rfl rfl rfl (by intro k_ h1_ h2_; rw [f36_a3, zcp_in _ _ (by omega)]; congr 1; omega)
      refine lv_aload_n F_.1 F_.2.1 dX7_few_39 rfl (lv_at hl 0 rfl) ?_
      refine z_get F_ K_ W_ 0 0 5 rfl rfl rfl (C := RX7) (T := TX7) (N := 13) rfl (by decide) hinX7 (List.mem_of_getElem? (i := 3) rfl) dX7_few_40 ?_
      refine lv_aload_n F_.1 F_.2.1 dX7_few_43 rfl (lv_at hl 0 rfl) ?_
      refine z_get F_ K_ W_ 0 0 1 rfl rfl rfl (C := RX7) (T := TX7) (N := 13) rfl (by decide) hinX7 (List.mem_of_getElem? (i := 1) rfl) dX7_few_44 ?_
      refine lv_iload_n F_.1 F_.2.1 dX7_few_47 rfl (lv_at hl 1 rfl) ?_
      refine z_callVi F_ K_ W_ [.ref (p 0), .int (zi y)] (c_X1_find l_ D cy e fk fm p S M sk sc mk ms mp y bfk bfm (by omega) (by omega) bsk bsc bmk bms bmp (by first | omega | assumption) (by first | omega | assumption)) 2 rfl gX7_few_X1_find rfl (by decide +kernel) ⟨⟨Nat.le_of_ble_eq_true rfl, Nat.le_of_ble_eq_true rfl⟩, rfl, rfl, Nat.zero_le _, Nat.zero_le _⟩ 0 0 1 rfl rfl rfl rfl hl.1 rfl (Nat.le_of_ble_eq_true rfl) [3, 2] [0, 1] [wV cy b q p x e cr t0 ab be rb rn ru, wI cy q S M sk sc mk ms mp] (fun (u_ : (Int → Int) × (Int → Int) × (Int → Int) × (Int → Int)) => [wV cy b q p x e cr t0 ab be rb rn ru, wI cy q S M sk sc mk ms mp, wI cy p S M sk u_.2.2.1 mk ms u_.2.2.2, wE cy e u_.1 u_.2.1]) 4 (by decide +kernel) rfl rfl rfl (fun _ => rfl) (fun _ => rfl) (fun _ => rfl) dX7_few_48 (fun z_13 u_ H_ lo_ hw_ W_ => ?_)
      obtain ⟨fk2_14, fm2_15, sc2_16, mp2_17⟩ := u_
      have W_ : WD D A_ s_.heap ([wV cy b q p x e cr t0 ab be rb rn ru, wI cy q S M sk sc mk ms mp, wI cy p S M sk sc2_16 mk ms mp2_17, wE cy e fk2_14 fm2_15]) H_ lo_ := W_
      replace hw_ : ((z_13 = -6 ∧ (∀ a1 b1 c1, 0 ≤ a1 → 0 ≤ b1 → 0 ≤ c1 → a1 + b1 + c1 ≤ 8 → ¬ lvsP (rowsS S M sc mk ms mp 3).1 a1 b1 c1 (y - sumZ mp ms (-1) M))) ∨ ((0 ≤ z_13 ∧ z_13 ≤ 8) ∧ (∃ a b c, 0 ≤ a ∧ 0 ≤ b ∧ 0 ≤ c ∧ a + b + c = z_13 ∧ lvsP (rowsS S M sc mk ms mp 3).1 a b c (y - sumZ mp ms (-1) M) ∧ fm2_15 0 = a ∧ fm2_15 1 = b ∧ fm2_15 2 = c ∧ (∀ a1 b1 c1, 0 ≤ a1 → 0 ≤ b1 → 0 ≤ c1 → a1 + b1 + c1 < z_13 → ¬ lvsP (rowsS S M sc mk ms mp 3).1 a1 b1 c1 (y - sumZ mp ms (-1) M)) ∧ ∀ a1 b1 c1, 0 ≤ a1 → 0 ≤ b1 → 0 ≤ c1 → a1 + b1 + c1 = z_13 → (a1 < a ∨ a1 = a ∧ b1 < b) → ¬ lvsP (rowsS S M sc mk ms mp 3).1 a1 b1 c1 (y - sumZ mp ms (-1) M)))) ∧ (∀ j : Int, (-1) ≤ fk2_14 j ∧ fk2_14 j ≤ 99) ∧ (∀ j : Int, 0 ≤ fm2_15 j ∧ fm2_15 j ≤ 8) ∧ (∀ j : Int, 0 ≤ sc2_16 j ∧ sc2_16 j ≤ 99) ∧ (∀ j : Int, (-1) ≤ mp2_17 j ∧ mp2_17 j ≤ 2) := hw_
      obtain ⟨f48_v, f48_B_E_fk, f48_B_E_fm, f48_B_I_sc, f48_B_I_mp⟩ := hw_
      have hzb : z_13 = -6 ∨ (0 ≤ z_13 ∧ z_13 ≤ 8) := by
        rcases f48_v with q_ | q_
        · exact Or.inl q_.1
        · exact Or.inr q_.1
      have hfnd : FndI S M sc mk ms mp y z_13 fm2_15 := f48_v
      clear f48_v
      refine lv_istore_n (lv' := [(3, .int (zi z_13)), (0, .ref (b 0)), (1, .int (zi y)), (2, .int (zi w))]) F_.1 F_.2.1 dX7_few_51 rfl hl (by decide) rfl (fun ls_ hl => ?_)
      refine lv_iload_n F_.1 F_.2.1 dX7_few_52 rfl (lv_at hl 0 rfl) ?_
      refine z_if_lt (tgt := 61) F_ (by omega) dX7_few_53 (by decide) (fun c53 => ?_) (fun c53 => ?_)
      · refine lv_iload_n F_.1 F_.2.1 dX7_few_61 rfl (lv_at hl 0 rfl) ?_
        refine z_goto (tgt := 73) F_ dX7_few_62 (by decide) ?_
        exact hret _ _ _ _ z_13 (rb, rn, ru, S, M, sk, sc2_16, mk, ms, mp2_17, fk2_14, fm2_15) dX7_few_73 ⟨(by (try dsimp only) <;> (first | exact Or.inl ⟨by omega, ⟨z_13, fm2_15, hfnd, Or.inl ⟨by omega, by omega⟩⟩, rfl, rfl, rfl⟩ | exact Or.inl ⟨by omega, ⟨z_13, fm2_15, hfnd, Or.inr ⟨by omega, by rw [if_pos (by omega)]⟩⟩, rfl, rfl, rfl⟩ | exact Or.inl ⟨by omega, ⟨z_13, fm2_15, hfnd, Or.inr ⟨by omega, by rw [if_neg (by omega)]; exact f70_v⟩⟩, rfl, rfl, rfl⟩)), (by (try dsimp only) <;> (omega)), (by (try dsimp only) <;> (omega)), bsk, f48_B_I_sc, bmk, bms, f48_B_I_mp, f48_B_E_fk, f48_B_E_fm⟩ W_
      · refine lv_iload_n F_.1 F_.2.1 dX7_few_56 rfl (lv_at hl 3 rfl) ?_
        refine z_iconst F_ dX7_few_57 ?_
        refine z_icmp_ne (tgt := 65) F_ (by omega) dX7_few_58 (by decide) (fun c58 => ?_) (fun c58 => ?_)
        · refine lv_aload_n F_.1 F_.2.1 dX7_few_65 rfl (lv_at hl 1 rfl) ?_
          refine z_get F_ K_ W_ 0 0 5 rfl rfl rfl (C := RX7) (T := TX7) (N := 13) rfl (by decide) hinX7 (List.mem_of_getElem? (i := 3) rfl) dX7_few_66 ?_
          refine lv_iload_n F_.1 F_.2.1 dX7_few_69 rfl (lv_at hl 3 rfl) ?_
          refine z_callVip F_ K_ W_ [.int (zi w)] (c_X1_madeBy l_ D cy e fk2_14 fm2_15 w f48_B_E_fk f48_B_E_fm (by first | omega | assumption) (by first | omega | assumption)) 1 rfl gX7_few_X1_madeBy rfl (by decide +kernel) ⟨⟨Nat.le_of_ble_eq_true rfl, Nat.le_of_ble_eq_true rfl⟩, rfl, rfl, Nat.zero_le _, Nat.zero_le _⟩ 0 0 1 rfl rfl rfl rfl hl.1 rfl (Nat.le_of_ble_eq_true rfl) [3] [0, 1, 2] [wV cy b q p x e cr t0 ab be rb rn ru, wI cy q S M sk sc mk ms mp, wI cy p S M sk sc2_16 mk ms mp2_17] 4 (by decide +kernel) rfl rfl rfl dX7_few_70 (fun z_18 _ H_ lo_ hw_ W_ => ?_)
          replace hw_ : (z_18 = fm2_15 w) := hw_
          have f70_v := hw_
          clear hw_
          exact hret _ _ _ _ z_18 (rb, rn, ru, S, M, sk, sc2_16, mk, ms, mp2_17, fk2_14, fm2_15) dX7_few_73 ⟨(by (try dsimp only) <;> (first | exact Or.inl ⟨by omega, ⟨z_13, fm2_15, hfnd, Or.inl ⟨by omega, by omega⟩⟩, rfl, rfl, rfl⟩ | exact Or.inl ⟨by omega, ⟨z_13, fm2_15, hfnd, Or.inr ⟨by omega, by rw [if_pos (by omega)]⟩⟩, rfl, rfl, rfl⟩ | exact Or.inl ⟨by omega, ⟨z_13, fm2_15, hfnd, Or.inr ⟨by omega, by rw [if_neg (by omega)]; exact f70_v⟩⟩, rfl, rfl, rfl⟩)), (by (try dsimp only) <;> (omega)), (by (try dsimp only) <;> (omega)), bsk, f48_B_I_sc, bmk, bms, f48_B_I_mp, f48_B_E_fk, f48_B_E_fm⟩ W_
        · refine lv_iload_n F_.1 F_.2.1 dX7_few_61 rfl (lv_at hl 0 rfl) ?_
          refine z_goto (tgt := 73) F_ dX7_few_62 (by decide) ?_
          exact hret _ _ _ _ z_13 (rb, rn, ru, S, M, sk, sc2_16, mk, ms, mp2_17, fk2_14, fm2_15) dX7_few_73 ⟨(by (try dsimp only) <;> (first | exact Or.inl ⟨by omega, ⟨z_13, fm2_15, hfnd, Or.inl ⟨by omega, by omega⟩⟩, rfl, rfl, rfl⟩ | exact Or.inl ⟨by omega, ⟨z_13, fm2_15, hfnd, Or.inr ⟨by omega, by rw [if_pos (by omega)]⟩⟩, rfl, rfl, rfl⟩ | exact Or.inl ⟨by omega, ⟨z_13, fm2_15, hfnd, Or.inr ⟨by omega, by rw [if_neg (by omega)]; exact f70_v⟩⟩, rfl, rfl, rfl⟩)), (by (try dsimp only) <;> (omega)), (by (try dsimp only) <;> (omega)), bsk, f48_B_I_sc, bmk, bms, f48_B_I_mp, f48_B_E_fk, f48_B_E_fm⟩ W_
    · exact J18 (by first | omega | assumption) ls_ H_ lo_ W_ (lv_sub hl [0, 1, 2] rfl)
abbrev rX7_crew : Room := { frames := 4, cells := 0, slots := 0, locals := 99 }
set_option maxHeartbeats 1000000 in
set_option maxRecDepth 100000 in
theorem c_X7_crew (l_ : Launch) (D : va_G) (cy : Nat → ClassId) (b : Nat → Nat) (q : Nat → Nat) (p : Nat → Nat) (x : Nat → Nat) (e : Nat → Nat) (cr : Nat → Nat) (t0 : Nat) (ab : Int) (be : Int) (rb : Int) (rn : Int) (ru : Int) (S : Int) (M : Int) (sk : Int → Int) (sc : Int → Int) (mk : Int → Int) (ms : Int → Int) (mp : Int → Int) (fo : Int) (wo : Int → Int) (cb : Int → Int) (d : Int) (m : Int) (bS : 0 ≤ S ∧ S ≤ 3) (bM : 0 ≤ M ∧ M ≤ 8) (bsk : ∀ j : Int, 0 ≤ sk j ∧ sk j ≤ 5) (bsc : ∀ j : Int, 0 ≤ sc j ∧ sc j ≤ 99) (bmk : ∀ j : Int, 0 ≤ mk j ∧ mk j ≤ 5) (bms : ∀ j : Int, 0 ≤ ms j ∧ ms j ≤ 9) (bmp : ∀ j : Int, (-1) ≤ mp j ∧ mp j ≤ 2) (bwo : ∀ j : Int, (-70000) ≤ wo j ∧ wo j ≤ 70000) (bcb : ∀ j : Int, (-300000) ≤ cb j ∧ cb j ≤ 300000) (rd : -2147483648 ≤ d ∧ d < 2147483648) (rm : -2147483648 ≤ m ∧ m < 2147483648) : CTi l_ D cy yX7_crew wsX7_crew rX7_crew [.ref (b 0), .int (zi d), .int (zi m)] ([wV cy b q p x e cr t0 ab be rb rn ru, wI cy q S M sk sc mk ms mp, wC cy cr fo wo cb]) (fun (z : Int) (u : (Int) × (Int) × (Int) × (Int) × (Int → Int) × (Int → Int)) => ((((1 ≤ d ∧ d ≤ 30) ∧ (m = -1 ∨ (0 ≤ m ∧ m < M))) ∧ (∃ fo1, (0 ≤ fo1 ∧ fo1 ≤ 200000) ∧ bestP (fun h_ x_ => wthZ (cntZ mp h_ M) (sumZ mp ms h_ M) (sk h_) d ms h_ x_) S (bitZ mp (-1) M) fo1 ∧ z = (if m = -1 then (fo1 + 65536 - 1) / 65536 else (((fo1 + 65536 - 1) / 65536 * 65536 - fo1) / zpw (2 * (7 - m))) % 4 - 1)) ∧ u.1 = rb ∧ u.2.1 = rn ∧ u.2.2.1 = ru) ∨ (¬ ((1 ≤ d ∧ d ≤ 30) ∧ (m = -1 ∨ (0 ≤ m ∧ m < M))) ∧ z = -10 ∧ u.1 = rb + 1 ∧ u.2.1 = rn ∧ u.2.2.1 = ru)) ∧ (∀ j : Int, (-70000) ≤ u.2.2.2.2.1 j ∧ u.2.2.2.2.1 j ≤ 70000) ∧ (∀ j : Int, (-300000) ≤ u.2.2.2.2.2 j ∧ u.2.2.2.2.2 j ≤ 300000)) (fun (u : (Int) × (Int) × (Int) × (Int) × (Int → Int) × (Int → Int)) => [wV cy b q p x e cr t0 ab be u.1 u.2.1 u.2.2.1, wI cy q S M sk sc mk ms mp, wC cy cr u.2.2.2.1 u.2.2.2.2.1 u.2.2.2.2.2]) := by
  refine CTi.of RX7 cX7_crew 3 rfl (by decide) rfl (fun z u hz => rfl) (Nat.le_of_ble_eq_true rfl) ?_
  intro p_ e_ s_ m_ ar_ be_ me_ c_ Q_ A_ ls_ F_ K_ W_ hl hret
  have hl : lv_has ls_ 3 [(0, .ref (b 0)), (1, .int (zi d)), (2, .int (zi m))] := hl
  obtain ⟨H_, hH_⟩ : ∃ x, x = s_.heap := ⟨_, rfl⟩
  obtain ⟨lo_, hlo_⟩ : ∃ x : List Loc, x = [] := ⟨_, rfl⟩
  have W_ : WD D A_ s_.heap ([wV cy b q p x e cr t0 ab be rb rn ru, wI cy q S M sk sc mk ms mp, wC cy cr fo wo cb]) H_ lo_ := by rw [hH_, hlo_]; exact W_
  rw [← hlo_]
  suffices hg_ : W p_ l_ e_ rX7_crew s_ m_ ar_ be_ me_ c_ H_ lo_ 0 0 Q_ (F0 m_ 0 ls_ []) by rw [hH_] at hg_; exact hg_
  clear hH_ hlo_
  have hinX7 : ∀ w ∈ u_ws RX7 TX7 13, w ∈ wsX7_crew := fun w h => List.mem_cons_of_mem _ (List.mem_append_left _ (List.mem_append_left _ (List.mem_append_right _ h)))
  refine lv_iload_n F_.1 F_.2.1 dX7_crew_0 rfl (lv_at hl 1 rfl) ?_
  refine z_callSip F_ K_ W_ [.int (zi d)] (c_X7_isDistance l_ D cy d (by first | omega | assumption)) 1 rfl gX7_crew_X7_isDistance rfl (by decide +kernel) ⟨⟨Nat.le_of_ble_eq_true rfl, Nat.le_of_ble_eq_true rfl⟩, rfl, rfl, Nat.zero_le _, Nat.zero_le _⟩ hl.1 rfl (Nat.le_of_ble_eq_true rfl) ([] : List Nat) [0, 1, 2] [wV cy b q p x e cr t0 ab be rb rn ru, wI cy q S M sk sc mk ms mp, wC cy cr fo wo cb] 3 (by decide +kernel) rfl rfl rfl dX7_crew_1 (fun z_1 _ H_ lo_ hw_ W_ => ?_)
  replace hw_ : ((z_1 = 1 ∧ (1 ≤ d ∧ d ≤ 30)) ∨ (z_1 = 0 ∧ ¬ (1 ≤ d ∧ d ≤ 30))) := hw_
  have f1_v := hw_
  clear hw_
  have J23 : ∀ (h23 : ¬ ((1 ≤ d ∧ d ≤ 30) ∧ (m = -1 ∨ (0 ≤ m ∧ m < M)))) (ls_ : Array Slot) (H_ : Heap) (lo_ : List Loc), WD D A_ s_.heap ([wV cy b q p x e cr t0 ab be rb rn ru, wI cy q S M sk sc mk ms mp, wC cy cr fo wo cb]) H_ lo_ → lv_has ls_ 3 [(0, .ref (b 0)), (1, .int (zi d)), (2, .int (zi m))] → W p_ l_ e_ rX7_crew s_ m_ ar_ be_ me_ c_ H_ lo_ 0 0 Q_ (F0 m_ 23 ls_ []) := by
    intro h23 ls_ H_ lo_ W_ hl
    refine lv_aload_n F_.1 F_.2.1 dX7_crew_23 rfl (lv_at hl 0 rfl) ?_
    refine z_bipush F_ (by decide) dX7_crew_24 ?_
    refine z_callVi F_ K_ W_ [.int (zi (-2))] (c_X7_refuse l_ D cy b q p x e cr t0 ab be rb rn ru (-2) (by first | omega | assumption)) 1 rfl gX7_crew_X7_refuse rfl (by decide +kernel) ⟨⟨Nat.le_of_ble_eq_true rfl, Nat.le_of_ble_eq_true rfl⟩, rfl, rfl, Nat.zero_le _, Nat.zero_le _⟩ 0 0 6 rfl rfl rfl rfl hl.1 rfl (Nat.le_of_ble_eq_true rfl) [0] [1, 2] [wI cy q S M sk sc mk ms mp, wC cy cr fo wo cb] (fun (u_ : (Int) × (Int) × (Int)) => [wV cy b q p x e cr t0 ab be u_.1 u_.2.1 u_.2.2, wI cy q S M sk sc mk ms mp, wC cy cr fo wo cb]) 3 (by decide +kernel) rfl rfl rfl (fun _ => rfl) (fun _ => rfl) (fun _ => rfl) dX7_crew_26 (fun z_2 u_ H_ lo_ hw_ W_ => ?_)
    obtain ⟨rb2_3, rn2_4, ru2_5⟩ := u_
    have W_ : WD D A_ s_.heap ([wV cy b q p x e cr t0 ab be rb2_3 rn2_4 ru2_5, wI cy q S M sk sc mk ms mp, wC cy cr fo wo cb]) H_ lo_ := W_
    replace hw_ : (z_2 = (-2)) ∧ (((-2) = -2 ∧ rb2_3 = rb + 1 ∧ rn2_4 = rn ∧ ru2_5 = ru) ∨ ((-2) = -3 ∧ rb2_3 = rb ∧ rn2_4 = rn + 1 ∧ ru2_5 = ru) ∨ (¬ (-2) = -2 ∧ ¬ (-2) = -3 ∧ rb2_3 = rb ∧ rn2_4 = rn ∧ ru2_5 = ru + 1)) := hw_
    obtain ⟨f26_v, f26_k⟩ := hw_
    refine lv_pop F_.1 F_.2.1 dX7_crew_29 rfl ?_
    refine z_bipush F_ (by decide) dX7_crew_30 ?_
    exact hret _ _ _ _ (-10) (rb2_3, rn2_4, ru2_5, fo, wo, cb) dX7_crew_32 ⟨(by (try dsimp only) <;> (refine Or.inr (⟨?_, ?_, ?_, ?_, ?_⟩) <;> (first | omega | rfl | assumption))), bwo, bcb⟩ W_
  refine z_if_eq (tgt := 23) F_ (by omega) dX7_crew_4 (by decide) (fun c4 => ?_) (fun c4 => ?_)
  · exact J23 (by first | omega | assumption) ls_ H_ lo_ W_ (lv_sub hl [0, 1, 2] rfl)
  · refine lv_iload_n F_.1 F_.2.1 dX7_crew_7 rfl (lv_at hl 2 rfl) ?_
    refine z_iconst F_ dX7_crew_8 ?_
    have J33 : ∀ (h33 : ((1 ≤ d ∧ d ≤ 30) ∧ (m = -1 ∨ (0 ≤ m ∧ m < M)))) (ls_ : Array Slot) (H_ : Heap) (lo_ : List Loc), WD D A_ s_.heap ([wV cy b q p x e cr t0 ab be rb rn ru, wI cy q S M sk sc mk ms mp, wC cy cr fo wo cb]) H_ lo_ → lv_has ls_ 3 [(0, .ref (b 0)), (1, .int (zi d)), (2, .int (zi m))] → W p_ l_ e_ rX7_crew s_ m_ ar_ be_ me_ c_ H_ lo_ 0 0 Q_ (F0 m_ 33 ls_ []) := by
      intro h33 ls_ H_ lo_ W_ hl
      refine lv_aload_n F_.1 F_.2.1 dX7_crew_33 rfl (lv_at hl 0 rfl) ?_
      refine z_get F_ K_ W_ 0 0 6 rfl rfl rfl (C := RX7) (T := TX7) (N := 13) rfl (by decide) hinX7 (List.mem_of_getElem? (i := 2) rfl) dX7_crew_34 ?_
      refine lv_aload_n F_.1 F_.2.1 dX7_crew_37 rfl (lv_at hl 0 rfl) ?_
      refine z_get F_ K_ W_ 0 0 0 rfl rfl rfl (C := RX7) (T := TX7) (N := 13) rfl (by decide) hinX7 (List.mem_of_getElem? (i := 1) rfl) dX7_crew_38 ?_
      refine lv_iload_n F_.1 F_.2.1 dX7_crew_41 rfl (lv_at hl 1 rfl) ?_
      refine z_callVv F_ K_ W_ [.ref (q 0), .int (zi d)] (c_X0_find l_ D cy cr fo wo cb q S M sk sc mk ms mp d bwo bcb (by omega) (by omega) bsk bsc bmk bms bmp (by first | omega | assumption) (by first | omega | assumption)) 2 rfl gX7_crew_X0_find rfl (by decide +kernel) ⟨⟨Nat.le_of_ble_eq_true rfl, Nat.le_of_ble_eq_true rfl⟩, rfl, rfl, Nat.zero_le _, Nat.zero_le _⟩ 0 0 0 rfl rfl rfl rfl hl.1 rfl (Nat.le_of_ble_eq_true rfl) [2, 1] [0] [wV cy b q p x e cr t0 ab be rb rn ru] (fun (u_ : (Int) × (Int → Int) × (Int → Int)) => [wV cy b q p x e cr t0 ab be rb rn ru, wI cy q S M sk sc mk ms mp, wC cy cr u_.1 u_.2.1 u_.2.2]) 3 (by decide +kernel) rfl rfl rfl (fun _ => rfl) (fun _ => rfl) (fun _ => rfl) dX7_crew_42 (fun u_ H_ lo_ hw_ W_ => ?_)
      obtain ⟨fo2_7, wo2_8, be2_9⟩ := u_
      have W_ : WD D A_ s_.heap ([wV cy b q p x e cr t0 ab be rb rn ru, wI cy q S M sk sc mk ms mp, wC cy cr fo2_7 wo2_8 be2_9]) H_ lo_ := W_
      replace hw_ : (bestP (fun h_ x_ => wthZ (cntZ mp h_ M) (sumZ mp ms h_ M) (sk h_) d ms h_ x_) S (bitZ mp (-1) M) fo2_7) ∧ (∀ j : Int, (-70000) ≤ wo2_8 j ∧ wo2_8 j ≤ 70000) ∧ (∀ j : Int, (-300000) ≤ be2_9 j ∧ be2_9 j ≤ 300000) := hw_
      obtain ⟨f42_v, f42_B_C_wo, f42_B_C_be⟩ := hw_
      have hfb := bestW_b (f := (fun h_ x_ => wthZ (cntZ mp h_ M) (sumZ mp ms h_ M) (sk h_) d ms h_ x_)) (by omega) (fun h_ x_ q_ => wth_u _ _ _ _ _ q_ _) (fun h_ q_ => wth_0 _ _ _ _ _ _) f42_v
      refine lv_iload_n F_.1 F_.2.1 dX7_crew_45 rfl (lv_at hl 2 rfl) ?_
      refine z_iconst F_ dX7_crew_46 ?_
      refine z_icmp_ne (tgt := 60) F_ (by omega) dX7_crew_47 (by decide) (fun c47 => ?_) (fun c47 => ?_)
      · refine lv_aload_n F_.1 F_.2.1 dX7_crew_60 rfl (lv_at hl 0 rfl) ?_
        refine z_get F_ K_ W_ 0 0 6 rfl rfl rfl (C := RX7) (T := TX7) (N := 13) rfl (by decide) hinX7 (List.mem_of_getElem? (i := 2) rfl) dX7_crew_61 ?_
        refine lv_iload_n F_.1 F_.2.1 dX7_crew_64 rfl (lv_at hl 2 rfl) ?_
        refine z_callVip F_ K_ W_ [.int (zi m)] (c_X0_placeOf l_ D cy cr fo2_7 wo2_8 be2_9 m f42_B_C_wo f42_B_C_be (by first | omega | assumption) (by first | omega | assumption) (by first | omega | assumption)) 1 rfl gX7_crew_X0_placeOf rfl (by decide +kernel) ⟨⟨Nat.le_of_ble_eq_true rfl, Nat.le_of_ble_eq_true rfl⟩, rfl, rfl, Nat.zero_le _, Nat.zero_le _⟩ 0 0 0 rfl rfl rfl rfl hl.1 rfl (Nat.le_of_ble_eq_true rfl) [2] [0, 1] [wV cy b q p x e cr t0 ab be rb rn ru, wI cy q S M sk sc mk ms mp] 3 (by decide +kernel) rfl rfl rfl dX7_crew_65 (fun z_10 _ H_ lo_ hw_ W_ => ?_)
        replace hw_ : (z_10 = ((((fo2_7 + 65536 - 1) / 65536) * 65536 - fo2_7) / zpw (2 * (7 - m))) % 4 - 1) := hw_
        have f65_v := hw_
        clear hw_
        exact hret _ _ _ _ z_10 (rb, rn, ru, fo2_7, wo2_8, be2_9) dX7_crew_68 ⟨(by (try dsimp only) <;> (first | exact Or.inl ⟨by omega, ⟨fo2_7, hfb, f42_v, by rw [if_pos (by omega)]; assumption⟩, rfl, rfl, rfl⟩ | exact Or.inl ⟨by omega, ⟨fo2_7, hfb, f42_v, by rw [if_neg (by omega)]; assumption⟩, rfl, rfl, rfl⟩)), f42_B_C_wo, f42_B_C_be⟩ W_
      · refine lv_aload_n F_.1 F_.2.1 dX7_crew_50 rfl (lv_at hl 0 rfl) ?_
        refine z_get F_ K_ W_ 0 0 6 rfl rfl rfl (C := RX7) (T := TX7) (N := 13) rfl (by decide) hinX7 (List.mem_of_getElem? (i := 2) rfl) dX7_crew_51 ?_
        refine z_callVip F_ K_ W_ [] (c_X0_sailing l_ D cy cr fo2_7 wo2_8 be2_9 f42_B_C_wo f42_B_C_be (by first | omega | assumption)) 0 rfl gX7_crew_X0_sailing rfl (by decide +kernel) ⟨⟨Nat.le_of_ble_eq_true rfl, Nat.le_of_ble_eq_true rfl⟩, rfl, rfl, Nat.zero_le _, Nat.zero_le _⟩ 0 0 0 rfl rfl rfl rfl hl.1 rfl (Nat.le_of_ble_eq_true rfl) [2] [0, 1] [wV cy b q p x e cr t0 ab be rb rn ru, wI cy q S M sk sc mk ms mp] 3 (by decide +kernel) rfl rfl rfl dX7_crew_54 (fun z_11 _ H_ lo_ hw_ W_ => ?_)
        replace hw_ : (z_11 = (fo2_7 + 65536 - 1) / 65536) := hw_
        have f54_v := hw_
        clear hw_
        refine z_goto (tgt := 68) F_ dX7_crew_57 (by decide) ?_
        exact hret _ _ _ _ z_11 (rb, rn, ru, fo2_7, wo2_8, be2_9) dX7_crew_68 ⟨(by (try dsimp only) <;> (first | exact Or.inl ⟨by omega, ⟨fo2_7, hfb, f42_v, by rw [if_pos (by omega)]; assumption⟩, rfl, rfl, rfl⟩ | exact Or.inl ⟨by omega, ⟨fo2_7, hfb, f42_v, by rw [if_neg (by omega)]; assumption⟩, rfl, rfl, rfl⟩)), f42_B_C_wo, f42_B_C_be⟩ W_
    refine z_icmp_eq (tgt := 33) F_ (by omega) dX7_crew_9 (by decide) (fun c9 => ?_) (fun c9 => ?_)
    · exact J33 (by first | omega | assumption) ls_ H_ lo_ W_ (lv_sub hl [0, 1, 2] rfl)
    · refine lv_aload_n F_.1 F_.2.1 dX7_crew_12 rfl (lv_at hl 0 rfl) ?_
      refine z_get F_ K_ W_ 0 0 0 rfl rfl rfl (C := RX7) (T := TX7) (N := 13) rfl (by decide) hinX7 (List.mem_of_getElem? (i := 1) rfl) dX7_crew_13 ?_
      refine lv_iload_n F_.1 F_.2.1 dX7_crew_16 rfl (lv_at hl 2 rfl) ?_
      refine z_callVip F_ K_ W_ [.int (zi m)] (c_X4_hasMan l_ D cy q S M sk sc mk ms mp m (by omega) (by omega) bsk bsc bmk bms bmp (by first | omega | assumption)) 1 rfl gX7_crew_X4_hasMan rfl (by decide +kernel) ⟨⟨Nat.le_of_ble_eq_true rfl, Nat.le_of_ble_eq_true rfl⟩, rfl, rfl, Nat.zero_le _, Nat.zero_le _⟩ 0 0 4 rfl rfl rfl rfl hl.1 rfl (Nat.le_of_ble_eq_true rfl) [1] [0, 2] [wV cy b q p x e cr t0 ab be rb rn ru, wC cy cr fo wo cb] 3 (by decide +kernel) rfl rfl rfl dX7_crew_17 (fun z_12 _ H_ lo_ hw_ W_ => ?_)
      replace hw_ : ((z_12 = 1 ∧ (0 ≤ m ∧ m < M)) ∨ (z_12 = 0 ∧ ¬ (0 ≤ m ∧ m < M))) := hw_
      have f17_v := hw_
      clear hw_
      refine z_if_ne (tgt := 33) F_ (by omega) dX7_crew_20 (by decide) (fun c20 => ?_) (fun c20 => ?_)
      · exact J33 (by first | omega | assumption) ls_ H_ lo_ W_ (lv_sub hl [0, 1, 2] rfl)
      · exact J23 (by first | omega | assumption) ls_ H_ lo_ W_ (lv_sub hl [0, 1, 2] rfl)
abbrev rX7_seen : Room := { frames := 3, cells := 0, slots := 0, locals := 70 }
set_option maxHeartbeats 1000000 in
set_option maxRecDepth 100000 in
theorem c_X7_seen (l_ : Launch) (D : va_G) (cy : Nat → ClassId) (b : Nat → Nat) (q : Nat → Nat) (p : Nat → Nat) (x : Nat → Nat) (e : Nat → Nat) (cr : Nat → Nat) (t0 : Nat) (ab : Int) (be : Int) (rb : Int) (rn : Int) (ru : Int) (S : Int) (M : Int) (sk : Int → Int) (sc : Int → Int) (mk : Int → Int) (ms : Int → Int) (mp : Int → Int) (r1 : Int) (f1 : Int → Int) (a0 : Int) (a1 : Int) (a2 : Int) (a3 : Int) (bS : 0 ≤ S ∧ S ≤ 3) (bM : 0 ≤ M ∧ M ≤ 8) (bsk : ∀ j : Int, 0 ≤ sk j ∧ sk j ≤ 5) (bsc : ∀ j : Int, 0 ≤ sc j ∧ sc j ≤ 99) (bmk : ∀ j : Int, 0 ≤ mk j ∧ mk j ≤ 5) (bms : ∀ j : Int, 0 ≤ ms j ∧ ms j ≤ 9) (bmp : ∀ j : Int, (-1) ≤ mp j ∧ mp j ≤ 2) (bf1 : ∀ j : Int, (-1) ≤ f1 j ∧ f1 j ≤ 99) (ra0 : -2147483648 ≤ a0 ∧ a0 < 2147483648) (ra1 : -2147483648 ≤ a1 ∧ a1 < 2147483648) (ra2 : -2147483648 ≤ a2 ∧ a2 < 2147483648) (ra3 : -2147483648 ≤ a3 ∧ a3 < 2147483648) (hr : 0 ≤ r1 ∧ r1 ≤ 5) : CTi l_ D cy yX7_seen wsX7_seen rX7_seen [.ref (b 0), .int (zi a0), .int (zi a1), .int (zi a2), .int (zi a3)] ([wV cy b q p x e cr t0 ab be rb rn ru, wI cy q S M sk sc mk ms mp, wF cy (q 6) (q 7) 20 5 r1 f1]) (fun (z : Int) (u : (Int) × (Int) × (Int) × (Int) × (Int → Int)) => ((¬ ((0 ≤ a0 ∧ a0 < M) ∧ (0 ≤ a1 ∧ a1 ≤ 99) ∧ (0 ≤ a2 ∧ a2 ≤ 30) ∧ (0 ≤ a3 ∧ a3 ≤ 1)) ∧ z = -2 ∧ u.1 = rb + 1 ∧ u.2.1 = rn ∧ u.2.2.1 = ru ∧ u.2.2.2.1 = r1 ∧ u.2.2.2.2 = f1) ∨ (((0 ≤ a0 ∧ a0 < M) ∧ (0 ≤ a1 ∧ a1 ≤ 99) ∧ (0 ≤ a2 ∧ a2 ≤ 30) ∧ (0 ≤ a3 ∧ a3 ≤ 1)) ∧ r1 = 5 ∧ z = -4 ∧ u.1 = rb ∧ u.2.1 = rn ∧ u.2.2.1 = ru + 1 ∧ u.2.2.2.1 = r1 ∧ u.2.2.2.2 = f1) ∨ (((0 ≤ a0 ∧ a0 < M) ∧ (0 ≤ a1 ∧ a1 ≤ 99) ∧ (0 ≤ a2 ∧ a2 ≤ 30) ∧ (0 ≤ a3 ∧ a3 ≤ 1)) ∧ r1 < 5 ∧ z = r1 + 1 ∧ u.1 = rb ∧ u.2.1 = rn ∧ u.2.2.1 = ru ∧ u.2.2.2.1 = r1 + 1 ∧ u.2.2.2.2 = putZ f1 (4 * r1) a0 a1 a2 a3)) ∧ (∀ j : Int, (-1) ≤ u.2.2.2.2 j ∧ u.2.2.2.2 j ≤ 99)) (fun (u : (Int) × (Int) × (Int) × (Int) × (Int → Int)) => [wV cy b q p x e cr t0 ab be u.1 u.2.1 u.2.2.1, wI cy q S M sk sc mk ms mp, wF cy (q 6) (q 7) 20 5 u.2.2.2.1 u.2.2.2.2]) := by
  refine CTi.of RX7 cX7_seen 5 rfl (by decide) rfl (fun z u hz => rfl) (Nat.le_of_ble_eq_true rfl) ?_
  intro p_ e_ s_ m_ ar_ be_ me_ c_ Q_ A_ ls_ F_ K_ W_ hl hret
  have hl : lv_has ls_ 5 [(0, .ref (b 0)), (1, .int (zi a0)), (2, .int (zi a1)), (3, .int (zi a2)), (4, .int (zi a3))] := hl
  obtain ⟨H_, hH_⟩ : ∃ x, x = s_.heap := ⟨_, rfl⟩
  obtain ⟨lo_, hlo_⟩ : ∃ x : List Loc, x = [] := ⟨_, rfl⟩
  have W_ : WD D A_ s_.heap ([wV cy b q p x e cr t0 ab be rb rn ru, wI cy q S M sk sc mk ms mp, wF cy (q 6) (q 7) 20 5 r1 f1]) H_ lo_ := by rw [hH_, hlo_]; exact W_
  rw [← hlo_]
  suffices hg_ : W p_ l_ e_ rX7_seen s_ m_ ar_ be_ me_ c_ H_ lo_ 0 0 Q_ (F0 m_ 0 ls_ []) by rw [hH_] at hg_; exact hg_
  clear hH_ hlo_
  have hinX4 : ∀ w ∈ u_ws RX4 TX4 11, w ∈ wsX7_seen := fun w h => List.mem_cons_of_mem _ (List.mem_append_left _ (List.mem_append_right _ h))
  have hinX7 : ∀ w ∈ u_ws RX7 TX7 13, w ∈ wsX7_seen := fun w h => List.mem_cons_of_mem _ (List.mem_append_left _ (List.mem_append_left _ (List.mem_append_right _ h)))
  refine lv_aload_n F_.1 F_.2.1 dX7_seen_0 rfl (lv_at hl 0 rfl) ?_
  refine z_get F_ K_ W_ 0 0 0 rfl rfl rfl (C := RX7) (T := TX7) (N := 13) rfl (by decide) hinX7 (List.mem_of_getElem? (i := 1) rfl) dX7_seen_1 ?_
  refine lv_iload_n F_.1 F_.2.1 dX7_seen_4 rfl (lv_at hl 1 rfl) ?_
  refine z_callVip F_ K_ W_ [.int (zi a0)] (c_X4_hasMan l_ D cy q S M sk sc mk ms mp a0 (by omega) (by omega) bsk bsc bmk bms bmp (by first | omega | assumption)) 1 rfl gX7_seen_X4_hasMan rfl (by decide +kernel) ⟨⟨Nat.le_of_ble_eq_true rfl, Nat.le_of_ble_eq_true rfl⟩, rfl, rfl, Nat.zero_le _, Nat.zero_le _⟩ 0 0 4 rfl rfl rfl rfl hl.1 rfl (Nat.le_of_ble_eq_true rfl) [1] [0, 2] [wV cy b q p x e cr t0 ab be rb rn ru, wF cy (q 6) (q 7) 20 5 r1 f1] 3 (by decide +kernel) rfl rfl rfl dX7_seen_5 (fun z_1 _ H_ lo_ hw_ W_ => ?_)
  replace hw_ : ((z_1 = 1 ∧ (0 ≤ a0 ∧ a0 < M)) ∨ (z_1 = 0 ∧ ¬ (0 ≤ a0 ∧ a0 < M))) := hw_
  have f5_v := hw_
  clear hw_
  refine z_if_eq (tgt := 41) F_ (by omega) dX7_seen_8 (by decide) (fun c8 => ?_) (fun c8 => ?_)
  · refine lv_aload_n F_.1 F_.2.1 dX7_seen_41 rfl (lv_at hl 0 rfl) ?_
    refine z_bipush F_ (by decide) dX7_seen_42 ?_
    refine z_callVi F_ K_ W_ [.int (zi (-2))] (c_X7_refuse l_ D cy b q p x e cr t0 ab be rb rn ru (-2) (by first | omega | assumption)) 1 rfl gX7_seen_X7_refuse rfl (by decide +kernel) ⟨⟨Nat.le_of_ble_eq_true rfl, Nat.le_of_ble_eq_true rfl⟩, rfl, rfl, Nat.zero_le _, Nat.zero_le _⟩ 0 0 6 rfl rfl rfl rfl hl.1 rfl (Nat.le_of_ble_eq_true rfl) [0] [1, 2] [wI cy q S M sk sc mk ms mp, wF cy (q 6) (q 7) 20 5 r1 f1] (fun (u_ : (Int) × (Int) × (Int)) => [wV cy b q p x e cr t0 ab be u_.1 u_.2.1 u_.2.2, wI cy q S M sk sc mk ms mp, wF cy (q 6) (q 7) 20 5 r1 f1]) 3 (by decide +kernel) rfl rfl rfl (fun _ => rfl) (fun _ => rfl) (fun _ => rfl) dX7_seen_44 (fun z_2 u_ H_ lo_ hw_ W_ => ?_)
    obtain ⟨rb2_3, rn2_4, ru2_5⟩ := u_
    have W_ : WD D A_ s_.heap ([wV cy b q p x e cr t0 ab be rb2_3 rn2_4 ru2_5, wI cy q S M sk sc mk ms mp, wF cy (q 6) (q 7) 20 5 r1 f1]) H_ lo_ := W_
    replace hw_ : (z_2 = (-2)) ∧ (((-2) = -2 ∧ rb2_3 = rb + 1 ∧ rn2_4 = rn ∧ ru2_5 = ru) ∨ ((-2) = -3 ∧ rb2_3 = rb ∧ rn2_4 = rn + 1 ∧ ru2_5 = ru) ∨ (¬ (-2) = -2 ∧ ¬ (-2) = -3 ∧ rb2_3 = rb ∧ rn2_4 = rn ∧ ru2_5 = ru + 1)) := hw_
    obtain ⟨f44_v, f44_k⟩ := hw_
    exact hret _ _ _ _ z_2 (rb2_3, rn2_4, ru2_5, r1, f1) dX7_seen_47 ⟨(by (try dsimp only) <;> (refine Or.inl (⟨?_, ?_, ?_, ?_, ?_, ?_, ?_⟩) <;> (first | omega | rfl | assumption))), bf1⟩ W_
  · refine lv_iload_n F_.1 F_.2.1 dX7_seen_11 rfl (lv_at hl 2 rfl) ?_
    refine z_iconst F_ dX7_seen_12 ?_
    refine z_bipush F_ (by decide) dX7_seen_13 ?_
    refine z_callSip F_ K_ W_ [.int (zi a1), .int (zi 0), .int (zi 99)] (c_X7_within l_ D cy a1 0 99 (by first | omega | assumption) (by first | omega | assumption) (by first | omega | assumption)) 3 rfl gX7_seen_X7_within rfl (by decide +kernel) ⟨⟨Nat.le_of_ble_eq_true rfl, Nat.le_of_ble_eq_true rfl⟩, rfl, rfl, Nat.zero_le _, Nat.zero_le _⟩ hl.1 rfl (Nat.le_of_ble_eq_true rfl) ([] : List Nat) [0, 1, 2] [wV cy b q p x e cr t0 ab be rb rn ru, wI cy q S M sk sc mk ms mp, wF cy (q 6) (q 7) 20 5 r1 f1] 3 (by decide +kernel) rfl rfl rfl dX7_seen_15 (fun z_6 _ H_ lo_ hw_ W_ => ?_)
    replace hw_ : ((z_6 = 1 ∧ (0 ≤ a1 ∧ a1 ≤ 99)) ∨ (z_6 = 0 ∧ ¬ (0 ≤ a1 ∧ a1 ≤ 99))) := hw_
    have f15_v := hw_
    clear hw_
    refine z_if_eq (tgt := 41) F_ (by omega) dX7_seen_18 (by decide) (fun c18 => ?_) (fun c18 => ?_)
    · refine lv_aload_n F_.1 F_.2.1 dX7_seen_41 rfl (lv_at hl 0 rfl) ?_
      refine z_bipush F_ (by decide) dX7_seen_42 ?_
      refine z_callVi F_ K_ W_ [.int (zi (-2))] (c_X7_refuse l_ D cy b q p x e cr t0 ab be rb rn ru (-2) (by first | omega | assumption)) 1 rfl gX7_seen_X7_refuse rfl (by decide +kernel) ⟨⟨Nat.le_of_ble_eq_true rfl, Nat.le_of_ble_eq_true rfl⟩, rfl, rfl, Nat.zero_le _, Nat.zero_le _⟩ 0 0 6 rfl rfl rfl rfl hl.1 rfl (Nat.le_of_ble_eq_true rfl) [0] [1, 2] [wI cy q S M sk sc mk ms mp, wF cy (q 6) (q 7) 20 5 r1 f1] (fun (u_ : (Int) × (Int) × (Int)) => [wV cy b q p x e cr t0 ab be u_.1 u_.2.1 u_.2.2, wI cy q S M sk sc mk ms mp, wF cy (q 6) (q 7) 20 5 r1 f1]) 3 (by decide +kernel) rfl rfl rfl (fun _ => rfl) (fun _ => rfl) (fun _ => rfl) dX7_seen_44 (fun z_7 u_ H_ lo_ hw_ W_ => ?_)
      obtain ⟨rb2_8, rn2_9, ru2_10⟩ := u_
      have W_ : WD D A_ s_.heap ([wV cy b q p x e cr t0 ab be rb2_8 rn2_9 ru2_10, wI cy q S M sk sc mk ms mp, wF cy (q 6) (q 7) 20 5 r1 f1]) H_ lo_ := W_
      replace hw_ : (z_7 = (-2)) ∧ (((-2) = -2 ∧ rb2_8 = rb + 1 ∧ rn2_9 = rn ∧ ru2_10 = ru) ∨ ((-2) = -3 ∧ rb2_8 = rb ∧ rn2_9 = rn + 1 ∧ ru2_10 = ru) ∨ (¬ (-2) = -2 ∧ ¬ (-2) = -3 ∧ rb2_8 = rb ∧ rn2_9 = rn ∧ ru2_10 = ru + 1)) := hw_
      obtain ⟨f44_v, f44_k⟩ := hw_
      exact hret _ _ _ _ z_7 (rb2_8, rn2_9, ru2_10, r1, f1) dX7_seen_47 ⟨(by (try dsimp only) <;> (refine Or.inl (⟨?_, ?_, ?_, ?_, ?_, ?_, ?_⟩) <;> (first | omega | rfl | assumption))), bf1⟩ W_
    · refine lv_iload_n F_.1 F_.2.1 dX7_seen_21 rfl (lv_at hl 3 rfl) ?_
      refine z_iconst F_ dX7_seen_22 ?_
      refine z_bipush F_ (by decide) dX7_seen_23 ?_
      refine z_callSip F_ K_ W_ [.int (zi a2), .int (zi 0), .int (zi 30)] (c_X7_within l_ D cy a2 0 30 (by first | omega | assumption) (by first | omega | assumption) (by first | omega | assumption)) 3 rfl gX7_seen_X7_within rfl (by decide +kernel) ⟨⟨Nat.le_of_ble_eq_true rfl, Nat.le_of_ble_eq_true rfl⟩, rfl, rfl, Nat.zero_le _, Nat.zero_le _⟩ hl.1 rfl (Nat.le_of_ble_eq_true rfl) ([] : List Nat) [0, 1, 2] [wV cy b q p x e cr t0 ab be rb rn ru, wI cy q S M sk sc mk ms mp, wF cy (q 6) (q 7) 20 5 r1 f1] 3 (by decide +kernel) rfl rfl rfl dX7_seen_25 (fun z_11 _ H_ lo_ hw_ W_ => ?_)
      replace hw_ : ((z_11 = 1 ∧ (0 ≤ a2 ∧ a2 ≤ 30)) ∨ (z_11 = 0 ∧ ¬ (0 ≤ a2 ∧ a2 ≤ 30))) := hw_
      have f25_v := hw_
      clear hw_
      refine z_if_eq (tgt := 41) F_ (by omega) dX7_seen_28 (by decide) (fun c28 => ?_) (fun c28 => ?_)
      · refine lv_aload_n F_.1 F_.2.1 dX7_seen_41 rfl (lv_at hl 0 rfl) ?_
        refine z_bipush F_ (by decide) dX7_seen_42 ?_
        refine z_callVi F_ K_ W_ [.int (zi (-2))] (c_X7_refuse l_ D cy b q p x e cr t0 ab be rb rn ru (-2) (by first | omega | assumption)) 1 rfl gX7_seen_X7_refuse rfl (by decide +kernel) ⟨⟨Nat.le_of_ble_eq_true rfl, Nat.le_of_ble_eq_true rfl⟩, rfl, rfl, Nat.zero_le _, Nat.zero_le _⟩ 0 0 6 rfl rfl rfl rfl hl.1 rfl (Nat.le_of_ble_eq_true rfl) [0] [1, 2] [wI cy q S M sk sc mk ms mp, wF cy (q 6) (q 7) 20 5 r1 f1] (fun (u_ : (Int) × (Int) × (Int)) => [wV cy b q p x e cr t0 ab be u_.1 u_.2.1 u_.2.2, wI cy q S M sk sc mk ms mp, wF cy (q 6) (q 7) 20 5 r1 f1]) 3 (by decide +kernel) rfl rfl rfl (fun _ => rfl) (fun _ => rfl) (fun _ => rfl) dX7_seen_44 (fun z_12 u_ H_ lo_ hw_ W_ => ?_)
        obtain ⟨rb2_13, rn2_14, ru2_15⟩ := u_
        have W_ : WD D A_ s_.heap ([wV cy b q p x e cr t0 ab be rb2_13 rn2_14 ru2_15, wI cy q S M sk sc mk ms mp, wF cy (q 6) (q 7) 20 5 r1 f1]) H_ lo_ := W_
        replace hw_ : (z_12 = (-2)) ∧ (((-2) = -2 ∧ rb2_13 = rb + 1 ∧ rn2_14 = rn ∧ ru2_15 = ru) ∨ ((-2) = -3 ∧ rb2_13 = rb ∧ rn2_14 = rn + 1 ∧ ru2_15 = ru) ∨ (¬ (-2) = -2 ∧ ¬ (-2) = -3 ∧ rb2_13 = rb ∧ rn2_14 = rn ∧ ru2_15 = ru + 1)) := hw_
        obtain ⟨f44_v, f44_k⟩ := hw_
        exact hret _ _ _ _ z_12 (rb2_13, rn2_14, ru2_15, r1, f1) dX7_seen_47 ⟨(by (try dsimp only) <;> (refine Or.inl (⟨?_, ?_, ?_, ?_, ?_, ?_, ?_⟩) <;> (first | omega | rfl | assumption))), bf1⟩ W_
      · refine lv_iload F_.1 F_.2.1 dX7_seen_31 (lv_at hl 4 rfl) ?_
        refine z_iconst F_ dX7_seen_33 ?_
        refine z_iconst F_ dX7_seen_34 ?_
        refine z_callSip F_ K_ W_ [.int (zi a3), .int (zi 0), .int (zi 1)] (c_X7_within l_ D cy a3 0 1 (by first | omega | assumption) (by first | omega | assumption) (by first | omega | assumption)) 3 rfl gX7_seen_X7_within rfl (by decide +kernel) ⟨⟨Nat.le_of_ble_eq_true rfl, Nat.le_of_ble_eq_true rfl⟩, rfl, rfl, Nat.zero_le _, Nat.zero_le _⟩ hl.1 rfl (Nat.le_of_ble_eq_true rfl) ([] : List Nat) [0, 1, 2] [wV cy b q p x e cr t0 ab be rb rn ru, wI cy q S M sk sc mk ms mp, wF cy (q 6) (q 7) 20 5 r1 f1] 3 (by decide +kernel) rfl rfl rfl dX7_seen_35 (fun z_16 _ H_ lo_ hw_ W_ => ?_)
        replace hw_ : ((z_16 = 1 ∧ (0 ≤ a3 ∧ a3 ≤ 1)) ∨ (z_16 = 0 ∧ ¬ (0 ≤ a3 ∧ a3 ≤ 1))) := hw_
        have f35_v := hw_
        clear hw_
        refine z_if_ne (tgt := 48) F_ (by omega) dX7_seen_38 (by decide) (fun c38 => ?_) (fun c38 => ?_)
        · refine lv_aload_n F_.1 F_.2.1 dX7_seen_48 rfl (lv_at hl 0 rfl) ?_
          refine lv_aload_n F_.1 F_.2.1 dX7_seen_49 rfl (lv_at hl 0 rfl) ?_
          refine z_get F_ K_ W_ 0 0 0 rfl rfl rfl (C := RX7) (T := TX7) (N := 13) rfl (by decide) hinX7 (List.mem_of_getElem? (i := 1) rfl) dX7_seen_50 ?_
          refine z_get F_ K_ W_ 1 0 7 rfl rfl rfl (C := RX4) (T := TX4) (N := 11) rfl (by decide) hinX4 (List.mem_of_getElem? (i := 2) rfl) dX7_seen_53 ?_
          refine lv_iload_n F_.1 F_.2.1 dX7_seen_56 rfl (lv_at hl 1 rfl) ?_
          refine lv_iload_n F_.1 F_.2.1 dX7_seen_57 rfl (lv_at hl 2 rfl) ?_
          refine lv_iload_n F_.1 F_.2.1 dX7_seen_58 rfl (lv_at hl 3 rfl) ?_
          refine lv_iload F_.1 F_.2.1 dX7_seen_59 (lv_at hl 4 rfl) ?_
          refine z_callVi F_ K_ W_ [.ref (q 6), .int (zi a0), .int (zi a1), .int (zi a2), .int (zi a3)] (c_X7_addTo l_ D cy b q p x e cr t0 ab be rb rn ru (q 6) (q 7) 20 5 r1 f1 a0 a1 a2 a3 bf1 (by first | omega | assumption) (by first | omega | assumption) (by first | omega | assumption) (by first | omega | assumption) (by first | omega | assumption) (by first | omega | assumption) (by first | omega | assumption)) 5 rfl gX7_seen_X7_addTo rfl (by decide +kernel) ⟨⟨Nat.le_of_ble_eq_true rfl, Nat.le_of_ble_eq_true rfl⟩, rfl, rfl, Nat.zero_le _, Nat.zero_le _⟩ 0 0 6 rfl rfl rfl rfl hl.1 rfl (Nat.le_of_ble_eq_true rfl) [0, 2] [1] [wI cy q S M sk sc mk ms mp] (fun (u_ : (Int) × (Int) × (Int) × (Int) × (Int → Int)) => [wV cy b q p x e cr t0 ab be u_.1 u_.2.1 u_.2.2.1, wI cy q S M sk sc mk ms mp, wF cy (q 6) (q 7) 20 5 u_.2.2.2.1 u_.2.2.2.2]) 3 (by decide +kernel) rfl rfl rfl (fun _ => rfl) (fun _ => rfl) (fun _ => rfl) dX7_seen_61 (fun z_17 u_ H_ lo_ hw_ W_ => ?_)
          obtain ⟨rb2_18, rn2_19, ru2_20, r2_21, g_22⟩ := u_
          have W_ : WD D A_ s_.heap ([wV cy b q p x e cr t0 ab be rb2_18 rn2_19 ru2_20, wI cy q S M sk sc mk ms mp, wF cy (q 6) (q 7) 20 5 r2_21 g_22]) H_ lo_ := W_
          replace hw_ : ((5 ≤ r1 ∧ z_17 = -4 ∧ r2_21 = r1 ∧ g_22 = f1 ∧ rb2_18 = rb ∧ rn2_19 = rn ∧ ru2_20 = ru + 1) ∨ (r1 < 5 ∧ z_17 = r1 + 1 ∧ r2_21 = r1 + 1 ∧ g_22 = putZ f1 (4 * r1) a0 a1 a2 a3 ∧ rb2_18 = rb ∧ rn2_19 = rn ∧ ru2_20 = ru)) ∧ (∀ j : Int, (-1) ≤ g_22 j ∧ g_22 j ≤ 99) := hw_
          obtain ⟨f61_k, f61_B_F_f⟩ := hw_
          exact hret _ _ _ _ z_17 (rb2_18, rn2_19, ru2_20, r2_21, g_22) dX7_seen_64 ⟨(by (try dsimp only) <;> (rcases f61_k with ⟨q1_, q2_, q3_, q4_, q5_, q6_, q7_⟩ | ⟨q1_, q2_, q3_, q4_, q5_, q6_, q7_⟩ <;> (first | (refine Or.inr (Or.inl (⟨?_, ?_, ?_, ?_, ?_, ?_, ?_, ?_⟩)) <;> (first | omega | rfl | assumption)) | (refine Or.inr (Or.inr (⟨?_, ?_, ?_, ?_, ?_, ?_, ?_, ?_⟩)) <;> (first | omega | rfl | assumption))))), f61_B_F_f⟩ W_
        · refine lv_aload_n F_.1 F_.2.1 dX7_seen_41 rfl (lv_at hl 0 rfl) ?_
          refine z_bipush F_ (by decide) dX7_seen_42 ?_
          refine z_callVi F_ K_ W_ [.int (zi (-2))] (c_X7_refuse l_ D cy b q p x e cr t0 ab be rb rn ru (-2) (by first | omega | assumption)) 1 rfl gX7_seen_X7_refuse rfl (by decide +kernel) ⟨⟨Nat.le_of_ble_eq_true rfl, Nat.le_of_ble_eq_true rfl⟩, rfl, rfl, Nat.zero_le _, Nat.zero_le _⟩ 0 0 6 rfl rfl rfl rfl hl.1 rfl (Nat.le_of_ble_eq_true rfl) [0] [1, 2] [wI cy q S M sk sc mk ms mp, wF cy (q 6) (q 7) 20 5 r1 f1] (fun (u_ : (Int) × (Int) × (Int)) => [wV cy b q p x e cr t0 ab be u_.1 u_.2.1 u_.2.2, wI cy q S M sk sc mk ms mp, wF cy (q 6) (q 7) 20 5 r1 f1]) 3 (by decide +kernel) rfl rfl rfl (fun _ => rfl) (fun _ => rfl) (fun _ => rfl) dX7_seen_44 (fun z_23 u_ H_ lo_ hw_ W_ => ?_)
          obtain ⟨rb2_24, rn2_25, ru2_26⟩ := u_
          have W_ : WD D A_ s_.heap ([wV cy b q p x e cr t0 ab be rb2_24 rn2_25 ru2_26, wI cy q S M sk sc mk ms mp, wF cy (q 6) (q 7) 20 5 r1 f1]) H_ lo_ := W_
          replace hw_ : (z_23 = (-2)) ∧ (((-2) = -2 ∧ rb2_24 = rb + 1 ∧ rn2_25 = rn ∧ ru2_26 = ru) ∨ ((-2) = -3 ∧ rb2_24 = rb ∧ rn2_25 = rn + 1 ∧ ru2_26 = ru) ∨ (¬ (-2) = -2 ∧ ¬ (-2) = -3 ∧ rb2_24 = rb ∧ rn2_25 = rn ∧ ru2_26 = ru + 1)) := hw_
          obtain ⟨f44_v, f44_k⟩ := hw_
          exact hret _ _ _ _ z_23 (rb2_24, rn2_25, ru2_26, r1, f1) dX7_seen_47 ⟨(by (try dsimp only) <;> (refine Or.inl (⟨?_, ?_, ?_, ?_, ?_, ?_, ?_⟩) <;> (first | omega | rfl | assumption))), bf1⟩ W_
abbrev rX7_note : Room := { frames := 3, cells := 0, slots := 0, locals := 70 }
set_option maxHeartbeats 1000000 in
set_option maxRecDepth 100000 in
theorem c_X7_note (l_ : Launch) (D : va_G) (cy : Nat → ClassId) (b : Nat → Nat) (q : Nat → Nat) (p : Nat → Nat) (x : Nat → Nat) (e : Nat → Nat) (cr : Nat → Nat) (t0 : Nat) (ab : Int) (be : Int) (rb : Int) (rn : Int) (ru : Int) (S : Int) (M : Int) (sk : Int → Int) (sc : Int → Int) (mk : Int → Int) (ms : Int → Int) (mp : Int → Int) (r2 : Int) (f2 : Int → Int) (a0 : Int) (a1 : Int) (a2 : Int) (a3 : Int) (bS : 0 ≤ S ∧ S ≤ 3) (bM : 0 ≤ M ∧ M ≤ 8) (bsk : ∀ j : Int, 0 ≤ sk j ∧ sk j ≤ 5) (bsc : ∀ j : Int, 0 ≤ sc j ∧ sc j ≤ 99) (bmk : ∀ j : Int, 0 ≤ mk j ∧ mk j ≤ 5) (bms : ∀ j : Int, 0 ≤ ms j ∧ ms j ≤ 9) (bmp : ∀ j : Int, (-1) ≤ mp j ∧ mp j ≤ 2) (bf2 : ∀ j : Int, (-1) ≤ f2 j ∧ f2 j ≤ 99) (ra0 : -2147483648 ≤ a0 ∧ a0 < 2147483648) (ra1 : -2147483648 ≤ a1 ∧ a1 < 2147483648) (ra2 : -2147483648 ≤ a2 ∧ a2 < 2147483648) (ra3 : -2147483648 ≤ a3 ∧ a3 < 2147483648) (hr : 0 ≤ r2 ∧ r2 ≤ 6) : CTi l_ D cy yX7_note wsX7_note rX7_note [.ref (b 0), .int (zi a0), .int (zi a1), .int (zi a2), .int (zi a3)] ([wV cy b q p x e cr t0 ab be rb rn ru, wI cy q S M sk sc mk ms mp, wF cy (q 8) (q 9) 24 6 r2 f2]) (fun (z : Int) (u : (Int) × (Int) × (Int) × (Int) × (Int → Int)) => ((¬ ((0 ≤ a0 ∧ a0 < S) ∧ (1 ≤ a1 ∧ a1 ≤ 30) ∧ (0 ≤ a2 ∧ a2 ≤ 8) ∧ (0 ≤ a3 ∧ a3 ≤ 99)) ∧ z = -2 ∧ u.1 = rb + 1 ∧ u.2.1 = rn ∧ u.2.2.1 = ru ∧ u.2.2.2.1 = r2 ∧ u.2.2.2.2 = f2) ∨ (((0 ≤ a0 ∧ a0 < S) ∧ (1 ≤ a1 ∧ a1 ≤ 30) ∧ (0 ≤ a2 ∧ a2 ≤ 8) ∧ (0 ≤ a3 ∧ a3 ≤ 99)) ∧ r2 = 6 ∧ z = -4 ∧ u.1 = rb ∧ u.2.1 = rn ∧ u.2.2.1 = ru + 1 ∧ u.2.2.2.1 = r2 ∧ u.2.2.2.2 = f2) ∨ (((0 ≤ a0 ∧ a0 < S) ∧ (1 ≤ a1 ∧ a1 ≤ 30) ∧ (0 ≤ a2 ∧ a2 ≤ 8) ∧ (0 ≤ a3 ∧ a3 ≤ 99)) ∧ r2 < 6 ∧ z = r2 + 1 ∧ u.1 = rb ∧ u.2.1 = rn ∧ u.2.2.1 = ru ∧ u.2.2.2.1 = r2 + 1 ∧ u.2.2.2.2 = putZ f2 (4 * r2) a0 a1 a2 a3)) ∧ (∀ j : Int, (-1) ≤ u.2.2.2.2 j ∧ u.2.2.2.2 j ≤ 99)) (fun (u : (Int) × (Int) × (Int) × (Int) × (Int → Int)) => [wV cy b q p x e cr t0 ab be u.1 u.2.1 u.2.2.1, wI cy q S M sk sc mk ms mp, wF cy (q 8) (q 9) 24 6 u.2.2.2.1 u.2.2.2.2]) := by
  refine CTi.of RX7 cX7_note 5 rfl (by decide) rfl (fun z u hz => rfl) (Nat.le_of_ble_eq_true rfl) ?_
  intro p_ e_ s_ m_ ar_ be_ me_ c_ Q_ A_ ls_ F_ K_ W_ hl hret
  have hl : lv_has ls_ 5 [(0, .ref (b 0)), (1, .int (zi a0)), (2, .int (zi a1)), (3, .int (zi a2)), (4, .int (zi a3))] := hl
  obtain ⟨H_, hH_⟩ : ∃ x, x = s_.heap := ⟨_, rfl⟩
  obtain ⟨lo_, hlo_⟩ : ∃ x : List Loc, x = [] := ⟨_, rfl⟩
  have W_ : WD D A_ s_.heap ([wV cy b q p x e cr t0 ab be rb rn ru, wI cy q S M sk sc mk ms mp, wF cy (q 8) (q 9) 24 6 r2 f2]) H_ lo_ := by rw [hH_, hlo_]; exact W_
  rw [← hlo_]
  suffices hg_ : W p_ l_ e_ rX7_note s_ m_ ar_ be_ me_ c_ H_ lo_ 0 0 Q_ (F0 m_ 0 ls_ []) by rw [hH_] at hg_; exact hg_
  clear hH_ hlo_
  have hinX4 : ∀ w ∈ u_ws RX4 TX4 11, w ∈ wsX7_note := fun w h => List.mem_cons_of_mem _ (List.mem_append_left _ (List.mem_append_right _ h))
  have hinX7 : ∀ w ∈ u_ws RX7 TX7 13, w ∈ wsX7_note := fun w h => List.mem_cons_of_mem _ (List.mem_append_left _ (List.mem_append_left _ (List.mem_append_right _ h)))
  refine lv_aload_n F_.1 F_.2.1 dX7_note_0 rfl (lv_at hl 0 rfl) ?_
  refine z_get F_ K_ W_ 0 0 0 rfl rfl rfl (C := RX7) (T := TX7) (N := 13) rfl (by decide) hinX7 (List.mem_of_getElem? (i := 1) rfl) dX7_note_1 ?_
  refine lv_iload_n F_.1 F_.2.1 dX7_note_4 rfl (lv_at hl 1 rfl) ?_
  refine z_callVip F_ K_ W_ [.int (zi a0)] (c_X4_hasShip l_ D cy q S M sk sc mk ms mp a0 (by omega) (by omega) bsk bsc bmk bms bmp (by first | omega | assumption)) 1 rfl gX7_note_X4_hasShip rfl (by decide +kernel) ⟨⟨Nat.le_of_ble_eq_true rfl, Nat.le_of_ble_eq_true rfl⟩, rfl, rfl, Nat.zero_le _, Nat.zero_le _⟩ 0 0 4 rfl rfl rfl rfl hl.1 rfl (Nat.le_of_ble_eq_true rfl) [1] [0, 2] [wV cy b q p x e cr t0 ab be rb rn ru, wF cy (q 8) (q 9) 24 6 r2 f2] 3 (by decide +kernel) rfl rfl rfl dX7_note_5 (fun z_1 _ H_ lo_ hw_ W_ => ?_)
  replace hw_ : ((z_1 = 1 ∧ (0 ≤ a0 ∧ a0 < S)) ∨ (z_1 = 0 ∧ ¬ (0 ≤ a0 ∧ a0 < S))) := hw_
  have f5_v := hw_
  clear hw_
  refine z_if_eq (tgt := 39) F_ (by omega) dX7_note_8 (by decide) (fun c8 => ?_) (fun c8 => ?_)
  · refine lv_aload_n F_.1 F_.2.1 dX7_note_39 rfl (lv_at hl 0 rfl) ?_
    refine z_bipush F_ (by decide) dX7_note_40 ?_
    refine z_callVi F_ K_ W_ [.int (zi (-2))] (c_X7_refuse l_ D cy b q p x e cr t0 ab be rb rn ru (-2) (by first | omega | assumption)) 1 rfl gX7_note_X7_refuse rfl (by decide +kernel) ⟨⟨Nat.le_of_ble_eq_true rfl, Nat.le_of_ble_eq_true rfl⟩, rfl, rfl, Nat.zero_le _, Nat.zero_le _⟩ 0 0 6 rfl rfl rfl rfl hl.1 rfl (Nat.le_of_ble_eq_true rfl) [0] [1, 2] [wI cy q S M sk sc mk ms mp, wF cy (q 8) (q 9) 24 6 r2 f2] (fun (u_ : (Int) × (Int) × (Int)) => [wV cy b q p x e cr t0 ab be u_.1 u_.2.1 u_.2.2, wI cy q S M sk sc mk ms mp, wF cy (q 8) (q 9) 24 6 r2 f2]) 3 (by decide +kernel) rfl rfl rfl (fun _ => rfl) (fun _ => rfl) (fun _ => rfl) dX7_note_42 (fun z_2 u_ H_ lo_ hw_ W_ => ?_)
    obtain ⟨rb2_3, rn2_4, ru2_5⟩ := u_
    have W_ : WD D A_ s_.heap ([wV cy b q p x e cr t0 ab be rb2_3 rn2_4 ru2_5, wI cy q S M sk sc mk ms mp, wF cy (q 8) (q 9) 24 6 r2 f2]) H_ lo_ := W_
    replace hw_ : (z_2 = (-2)) ∧ (((-2) = -2 ∧ rb2_3 = rb + 1 ∧ rn2_4 = rn ∧ ru2_5 = ru) ∨ ((-2) = -3 ∧ rb2_3 = rb ∧ rn2_4 = rn + 1 ∧ ru2_5 = ru) ∨ (¬ (-2) = -2 ∧ ¬ (-2) = -3 ∧ rb2_3 = rb ∧ rn2_4 = rn ∧ ru2_5 = ru + 1)) := hw_
    obtain ⟨f42_v, f42_k⟩ := hw_
    exact hret _ _ _ _ z_2 (rb2_3, rn2_4, ru2_5, r2, f2) dX7_note_45 ⟨(by (try dsimp only) <;> (refine Or.inl (⟨?_, ?_, ?_, ?_, ?_, ?_, ?_⟩) <;> (first | omega | rfl | assumption))), bf2⟩ W_
  · refine lv_iload_n F_.1 F_.2.1 dX7_note_11 rfl (lv_at hl 2 rfl) ?_
    refine z_callSip F_ K_ W_ [.int (zi a1)] (c_X7_isDistance l_ D cy a1 (by first | omega | assumption)) 1 rfl gX7_note_X7_isDistance rfl (by decide +kernel) ⟨⟨Nat.le_of_ble_eq_true rfl, Nat.le_of_ble_eq_true rfl⟩, rfl, rfl, Nat.zero_le _, Nat.zero_le _⟩ hl.1 rfl (Nat.le_of_ble_eq_true rfl) ([] : List Nat) [0, 1, 2] [wV cy b q p x e cr t0 ab be rb rn ru, wI cy q S M sk sc mk ms mp, wF cy (q 8) (q 9) 24 6 r2 f2] 3 (by decide +kernel) rfl rfl rfl dX7_note_12 (fun z_6 _ H_ lo_ hw_ W_ => ?_)
    replace hw_ : ((z_6 = 1 ∧ (1 ≤ a1 ∧ a1 ≤ 30)) ∨ (z_6 = 0 ∧ ¬ (1 ≤ a1 ∧ a1 ≤ 30))) := hw_
    have f12_v := hw_
    clear hw_
    refine z_if_eq (tgt := 39) F_ (by omega) dX7_note_15 (by decide) (fun c15 => ?_) (fun c15 => ?_)
    · refine lv_aload_n F_.1 F_.2.1 dX7_note_39 rfl (lv_at hl 0 rfl) ?_
      refine z_bipush F_ (by decide) dX7_note_40 ?_
      refine z_callVi F_ K_ W_ [.int (zi (-2))] (c_X7_refuse l_ D cy b q p x e cr t0 ab be rb rn ru (-2) (by first | omega | assumption)) 1 rfl gX7_note_X7_refuse rfl (by decide +kernel) ⟨⟨Nat.le_of_ble_eq_true rfl, Nat.le_of_ble_eq_true rfl⟩, rfl, rfl, Nat.zero_le _, Nat.zero_le _⟩ 0 0 6 rfl rfl rfl rfl hl.1 rfl (Nat.le_of_ble_eq_true rfl) [0] [1, 2] [wI cy q S M sk sc mk ms mp, wF cy (q 8) (q 9) 24 6 r2 f2] (fun (u_ : (Int) × (Int) × (Int)) => [wV cy b q p x e cr t0 ab be u_.1 u_.2.1 u_.2.2, wI cy q S M sk sc mk ms mp, wF cy (q 8) (q 9) 24 6 r2 f2]) 3 (by decide +kernel) rfl rfl rfl (fun _ => rfl) (fun _ => rfl) (fun _ => rfl) dX7_note_42 (fun z_7 u_ H_ lo_ hw_ W_ => ?_)
      obtain ⟨rb2_8, rn2_9, ru2_10⟩ := u_
      have W_ : WD D A_ s_.heap ([wV cy b q p x e cr t0 ab be rb2_8 rn2_9 ru2_10, wI cy q S M sk sc mk ms mp, wF cy (q 8) (q 9) 24 6 r2 f2]) H_ lo_ := W_
      replace hw_ : (z_7 = (-2)) ∧ (((-2) = -2 ∧ rb2_8 = rb + 1 ∧ rn2_9 = rn ∧ ru2_10 = ru) ∨ ((-2) = -3 ∧ rb2_8 = rb ∧ rn2_9 = rn + 1 ∧ ru2_10 = ru) ∨ (¬ (-2) = -2 ∧ ¬ (-2) = -3 ∧ rb2_8 = rb ∧ rn2_9 = rn ∧ ru2_10 = ru + 1)) := hw_
      obtain ⟨f42_v, f42_k⟩ := hw_
      exact hret _ _ _ _ z_7 (rb2_8, rn2_9, ru2_10, r2, f2) dX7_note_45 ⟨(by (try dsimp only) <;> (refine Or.inl (⟨?_, ?_, ?_, ?_, ?_, ?_, ?_⟩) <;> (first | omega | rfl | assumption))), bf2⟩ W_
    · refine lv_iload_n F_.1 F_.2.1 dX7_note_18 rfl (lv_at hl 3 rfl) ?_
      refine z_iconst F_ dX7_note_19 ?_
      refine z_bipush F_ (by decide) dX7_note_20 ?_
      refine z_callSip F_ K_ W_ [.int (zi a2), .int (zi 0), .int (zi 8)] (c_X7_within l_ D cy a2 0 8 (by first | omega | assumption) (by first | omega | assumption) (by first | omega | assumption)) 3 rfl gX7_note_X7_within rfl (by decide +kernel) ⟨⟨Nat.le_of_ble_eq_true rfl, Nat.le_of_ble_eq_true rfl⟩, rfl, rfl, Nat.zero_le _, Nat.zero_le _⟩ hl.1 rfl (Nat.le_of_ble_eq_true rfl) ([] : List Nat) [0, 1, 2] [wV cy b q p x e cr t0 ab be rb rn ru, wI cy q S M sk sc mk ms mp, wF cy (q 8) (q 9) 24 6 r2 f2] 3 (by decide +kernel) rfl rfl rfl dX7_note_22 (fun z_11 _ H_ lo_ hw_ W_ => ?_)
      replace hw_ : ((z_11 = 1 ∧ (0 ≤ a2 ∧ a2 ≤ 8)) ∨ (z_11 = 0 ∧ ¬ (0 ≤ a2 ∧ a2 ≤ 8))) := hw_
      have f22_v := hw_
      clear hw_
      refine z_if_eq (tgt := 39) F_ (by omega) dX7_note_25 (by decide) (fun c25 => ?_) (fun c25 => ?_)
      · refine lv_aload_n F_.1 F_.2.1 dX7_note_39 rfl (lv_at hl 0 rfl) ?_
        refine z_bipush F_ (by decide) dX7_note_40 ?_
        refine z_callVi F_ K_ W_ [.int (zi (-2))] (c_X7_refuse l_ D cy b q p x e cr t0 ab be rb rn ru (-2) (by first | omega | assumption)) 1 rfl gX7_note_X7_refuse rfl (by decide +kernel) ⟨⟨Nat.le_of_ble_eq_true rfl, Nat.le_of_ble_eq_true rfl⟩, rfl, rfl, Nat.zero_le _, Nat.zero_le _⟩ 0 0 6 rfl rfl rfl rfl hl.1 rfl (Nat.le_of_ble_eq_true rfl) [0] [1, 2] [wI cy q S M sk sc mk ms mp, wF cy (q 8) (q 9) 24 6 r2 f2] (fun (u_ : (Int) × (Int) × (Int)) => [wV cy b q p x e cr t0 ab be u_.1 u_.2.1 u_.2.2, wI cy q S M sk sc mk ms mp, wF cy (q 8) (q 9) 24 6 r2 f2]) 3 (by decide +kernel) rfl rfl rfl (fun _ => rfl) (fun _ => rfl) (fun _ => rfl) dX7_note_42 (fun z_12 u_ H_ lo_ hw_ W_ => ?_)
        obtain ⟨rb2_13, rn2_14, ru2_15⟩ := u_
        have W_ : WD D A_ s_.heap ([wV cy b q p x e cr t0 ab be rb2_13 rn2_14 ru2_15, wI cy q S M sk sc mk ms mp, wF cy (q 8) (q 9) 24 6 r2 f2]) H_ lo_ := W_
        replace hw_ : (z_12 = (-2)) ∧ (((-2) = -2 ∧ rb2_13 = rb + 1 ∧ rn2_14 = rn ∧ ru2_15 = ru) ∨ ((-2) = -3 ∧ rb2_13 = rb ∧ rn2_14 = rn + 1 ∧ ru2_15 = ru) ∨ (¬ (-2) = -2 ∧ ¬ (-2) = -3 ∧ rb2_13 = rb ∧ rn2_14 = rn ∧ ru2_15 = ru + 1)) := hw_
        obtain ⟨f42_v, f42_k⟩ := hw_
        exact hret _ _ _ _ z_12 (rb2_13, rn2_14, ru2_15, r2, f2) dX7_note_45 ⟨(by (try dsimp only) <;> (refine Or.inl (⟨?_, ?_, ?_, ?_, ?_, ?_, ?_⟩) <;> (first | omega | rfl | assumption))), bf2⟩ W_
      · refine lv_iload F_.1 F_.2.1 dX7_note_28 (lv_at hl 4 rfl) ?_
        refine z_iconst F_ dX7_note_30 ?_
        refine z_bipush F_ (by decide) dX7_note_31 ?_
        refine z_callSip F_ K_ W_ [.int (zi a3), .int (zi 0), .int (zi 99)] (c_X7_within l_ D cy a3 0 99 (by first | omega | assumption) (by first | omega | assumption) (by first | omega | assumption)) 3 rfl gX7_note_X7_within rfl (by decide +kernel) ⟨⟨Nat.le_of_ble_eq_true rfl, Nat.le_of_ble_eq_true rfl⟩, rfl, rfl, Nat.zero_le _, Nat.zero_le _⟩ hl.1 rfl (Nat.le_of_ble_eq_true rfl) ([] : List Nat) [0, 1, 2] [wV cy b q p x e cr t0 ab be rb rn ru, wI cy q S M sk sc mk ms mp, wF cy (q 8) (q 9) 24 6 r2 f2] 3 (by decide +kernel) rfl rfl rfl dX7_note_33 (fun z_16 _ H_ lo_ hw_ W_ => ?_)
        replace hw_ : ((z_16 = 1 ∧ (0 ≤ a3 ∧ a3 ≤ 99)) ∨ (z_16 = 0 ∧ ¬ (0 ≤ a3 ∧ a3 ≤ 99))) := hw_
        have f33_v := hw_
        clear hw_
        refine z_if_ne (tgt := 46) F_ (by omega) dX7_note_36 (by decide) (fun c36 => ?_) (fun c36 => ?_)
        · refine lv_aload_n F_.1 F_.2.1 dX7_note_46 rfl (lv_at hl 0 rfl) ?_
          refine lv_aload_n F_.1 F_.2.1 dX7_note_47 rfl (lv_at hl 0 rfl) ?_
          refine z_get F_ K_ W_ 0 0 0 rfl rfl rfl (C := RX7) (T := TX7) (N := 13) rfl (by decide) hinX7 (List.mem_of_getElem? (i := 1) rfl) dX7_note_48 ?_
          refine z_get F_ K_ W_ 1 0 8 rfl rfl rfl (C := RX4) (T := TX4) (N := 11) rfl (by decide) hinX4 (List.mem_of_getElem? (i := 2) rfl) dX7_note_51 ?_
          refine lv_iload_n F_.1 F_.2.1 dX7_note_54 rfl (lv_at hl 1 rfl) ?_
          refine lv_iload_n F_.1 F_.2.1 dX7_note_55 rfl (lv_at hl 2 rfl) ?_
          refine lv_iload_n F_.1 F_.2.1 dX7_note_56 rfl (lv_at hl 3 rfl) ?_
          refine lv_iload F_.1 F_.2.1 dX7_note_57 (lv_at hl 4 rfl) ?_
          refine z_callVi F_ K_ W_ [.ref (q 8), .int (zi a0), .int (zi a1), .int (zi a2), .int (zi a3)] (c_X7_addTo l_ D cy b q p x e cr t0 ab be rb rn ru (q 8) (q 9) 24 6 r2 f2 a0 a1 a2 a3 bf2 (by first | omega | assumption) (by first | omega | assumption) (by first | omega | assumption) (by first | omega | assumption) (by first | omega | assumption) (by first | omega | assumption) (by first | omega | assumption)) 5 rfl gX7_note_X7_addTo rfl (by decide +kernel) ⟨⟨Nat.le_of_ble_eq_true rfl, Nat.le_of_ble_eq_true rfl⟩, rfl, rfl, Nat.zero_le _, Nat.zero_le _⟩ 0 0 6 rfl rfl rfl rfl hl.1 rfl (Nat.le_of_ble_eq_true rfl) [0, 2] [1] [wI cy q S M sk sc mk ms mp] (fun (u_ : (Int) × (Int) × (Int) × (Int) × (Int → Int)) => [wV cy b q p x e cr t0 ab be u_.1 u_.2.1 u_.2.2.1, wI cy q S M sk sc mk ms mp, wF cy (q 8) (q 9) 24 6 u_.2.2.2.1 u_.2.2.2.2]) 3 (by decide +kernel) rfl rfl rfl (fun _ => rfl) (fun _ => rfl) (fun _ => rfl) dX7_note_59 (fun z_17 u_ H_ lo_ hw_ W_ => ?_)
          obtain ⟨rb2_18, rn2_19, ru2_20, r2_21, g_22⟩ := u_
          have W_ : WD D A_ s_.heap ([wV cy b q p x e cr t0 ab be rb2_18 rn2_19 ru2_20, wI cy q S M sk sc mk ms mp, wF cy (q 8) (q 9) 24 6 r2_21 g_22]) H_ lo_ := W_
          replace hw_ : ((6 ≤ r2 ∧ z_17 = -4 ∧ r2_21 = r2 ∧ g_22 = f2 ∧ rb2_18 = rb ∧ rn2_19 = rn ∧ ru2_20 = ru + 1) ∨ (r2 < 6 ∧ z_17 = r2 + 1 ∧ r2_21 = r2 + 1 ∧ g_22 = putZ f2 (4 * r2) a0 a1 a2 a3 ∧ rb2_18 = rb ∧ rn2_19 = rn ∧ ru2_20 = ru)) ∧ (∀ j : Int, (-1) ≤ g_22 j ∧ g_22 j ≤ 99) := hw_
          obtain ⟨f59_k, f59_B_F_f⟩ := hw_
          exact hret _ _ _ _ z_17 (rb2_18, rn2_19, ru2_20, r2_21, g_22) dX7_note_62 ⟨(by (try dsimp only) <;> (rcases f59_k with ⟨q1_, q2_, q3_, q4_, q5_, q6_, q7_⟩ | ⟨q1_, q2_, q3_, q4_, q5_, q6_, q7_⟩ <;> (first | (refine Or.inr (Or.inl (⟨?_, ?_, ?_, ?_, ?_, ?_, ?_, ?_⟩)) <;> (first | omega | rfl | assumption)) | (refine Or.inr (Or.inr (⟨?_, ?_, ?_, ?_, ?_, ?_, ?_, ?_⟩)) <;> (first | omega | rfl | assumption))))), f59_B_F_f⟩ W_
        · refine lv_aload_n F_.1 F_.2.1 dX7_note_39 rfl (lv_at hl 0 rfl) ?_
          refine z_bipush F_ (by decide) dX7_note_40 ?_
          refine z_callVi F_ K_ W_ [.int (zi (-2))] (c_X7_refuse l_ D cy b q p x e cr t0 ab be rb rn ru (-2) (by first | omega | assumption)) 1 rfl gX7_note_X7_refuse rfl (by decide +kernel) ⟨⟨Nat.le_of_ble_eq_true rfl, Nat.le_of_ble_eq_true rfl⟩, rfl, rfl, Nat.zero_le _, Nat.zero_le _⟩ 0 0 6 rfl rfl rfl rfl hl.1 rfl (Nat.le_of_ble_eq_true rfl) [0] [1, 2] [wI cy q S M sk sc mk ms mp, wF cy (q 8) (q 9) 24 6 r2 f2] (fun (u_ : (Int) × (Int) × (Int)) => [wV cy b q p x e cr t0 ab be u_.1 u_.2.1 u_.2.2, wI cy q S M sk sc mk ms mp, wF cy (q 8) (q 9) 24 6 r2 f2]) 3 (by decide +kernel) rfl rfl rfl (fun _ => rfl) (fun _ => rfl) (fun _ => rfl) dX7_note_42 (fun z_23 u_ H_ lo_ hw_ W_ => ?_)
          obtain ⟨rb2_24, rn2_25, ru2_26⟩ := u_
          have W_ : WD D A_ s_.heap ([wV cy b q p x e cr t0 ab be rb2_24 rn2_25 ru2_26, wI cy q S M sk sc mk ms mp, wF cy (q 8) (q 9) 24 6 r2 f2]) H_ lo_ := W_
          replace hw_ : (z_23 = (-2)) ∧ (((-2) = -2 ∧ rb2_24 = rb + 1 ∧ rn2_25 = rn ∧ ru2_26 = ru) ∨ ((-2) = -3 ∧ rb2_24 = rb ∧ rn2_25 = rn + 1 ∧ ru2_26 = ru) ∨ (¬ (-2) = -2 ∧ ¬ (-2) = -3 ∧ rb2_24 = rb ∧ rn2_25 = rn ∧ ru2_26 = ru + 1)) := hw_
          obtain ⟨f42_v, f42_k⟩ := hw_
          exact hret _ _ _ _ z_23 (rb2_24, rn2_25, ru2_26, r2, f2) dX7_note_45 ⟨(by (try dsimp only) <;> (refine Or.inl (⟨?_, ?_, ?_, ?_, ?_, ?_, ?_⟩) <;> (first | omega | rfl | assumption))), bf2⟩ W_
abbrev rX7_mark : Room := { frames := 3, cells := 0, slots := 0, locals := 70 }
set_option maxHeartbeats 1000000 in
set_option maxRecDepth 100000 in
theorem c_X7_mark (l_ : Launch) (D : va_G) (cy : Nat → ClassId) (b : Nat → Nat) (q : Nat → Nat) (p : Nat → Nat) (x : Nat → Nat) (e : Nat → Nat) (cr : Nat → Nat) (t0 : Nat) (ab : Int) (be : Int) (rb : Int) (rn : Int) (ru : Int) (S : Int) (M : Int) (sk : Int → Int) (sc : Int → Int) (mk : Int → Int) (ms : Int → Int) (mp : Int → Int) (r3 : Int) (f3 : Int → Int) (a0 : Int) (a1 : Int) (a2 : Int) (a3 : Int) (bS : 0 ≤ S ∧ S ≤ 3) (bM : 0 ≤ M ∧ M ≤ 8) (bsk : ∀ j : Int, 0 ≤ sk j ∧ sk j ≤ 5) (bsc : ∀ j : Int, 0 ≤ sc j ∧ sc j ≤ 99) (bmk : ∀ j : Int, 0 ≤ mk j ∧ mk j ≤ 5) (bms : ∀ j : Int, 0 ≤ ms j ∧ ms j ≤ 9) (bmp : ∀ j : Int, (-1) ≤ mp j ∧ mp j ≤ 2) (bf3 : ∀ j : Int, (-1) ≤ f3 j ∧ f3 j ≤ 99) (ra0 : -2147483648 ≤ a0 ∧ a0 < 2147483648) (ra1 : -2147483648 ≤ a1 ∧ a1 < 2147483648) (ra2 : -2147483648 ≤ a2 ∧ a2 < 2147483648) (ra3 : -2147483648 ≤ a3 ∧ a3 < 2147483648) (hr : 0 ≤ r3 ∧ r3 ≤ 6) : CTi l_ D cy yX7_mark wsX7_mark rX7_mark [.ref (b 0), .int (zi a0), .int (zi a1), .int (zi a2), .int (zi a3)] ([wV cy b q p x e cr t0 ab be rb rn ru, wI cy q S M sk sc mk ms mp, wF cy (q 10) (q 11) 24 6 r3 f3]) (fun (z : Int) (u : (Int) × (Int) × (Int) × (Int) × (Int → Int)) => ((¬ ((0 ≤ a0 ∧ a0 < M) ∧ (1 ≤ a1 ∧ a1 ≤ 9) ∧ (0 ≤ a2 ∧ a2 ≤ 99) ∧ (0 ≤ a3 ∧ a3 ≤ 40)) ∧ z = -2 ∧ u.1 = rb + 1 ∧ u.2.1 = rn ∧ u.2.2.1 = ru ∧ u.2.2.2.1 = r3 ∧ u.2.2.2.2 = f3) ∨ (((0 ≤ a0 ∧ a0 < M) ∧ (1 ≤ a1 ∧ a1 ≤ 9) ∧ (0 ≤ a2 ∧ a2 ≤ 99) ∧ (0 ≤ a3 ∧ a3 ≤ 40)) ∧ r3 = 6 ∧ z = -4 ∧ u.1 = rb ∧ u.2.1 = rn ∧ u.2.2.1 = ru + 1 ∧ u.2.2.2.1 = r3 ∧ u.2.2.2.2 = f3) ∨ (((0 ≤ a0 ∧ a0 < M) ∧ (1 ≤ a1 ∧ a1 ≤ 9) ∧ (0 ≤ a2 ∧ a2 ≤ 99) ∧ (0 ≤ a3 ∧ a3 ≤ 40)) ∧ r3 < 6 ∧ z = r3 + 1 ∧ u.1 = rb ∧ u.2.1 = rn ∧ u.2.2.1 = ru ∧ u.2.2.2.1 = r3 + 1 ∧ u.2.2.2.2 = putZ f3 (4 * r3) a0 a1 a2 a3)) ∧ (∀ j : Int, (-1) ≤ u.2.2.2.2 j ∧ u.2.2.2.2 j ≤ 99)) (fun (u : (Int) × (Int) × (Int) × (Int) × (Int → Int)) => [wV cy b q p x e cr t0 ab be u.1 u.2.1 u.2.2.1, wI cy q S M sk sc mk ms mp, wF cy (q 10) (q 11) 24 6 u.2.2.2.1 u.2.2.2.2]) := by
  refine CTi.of RX7 cX7_mark 5 rfl (by decide) rfl (fun z u hz => rfl) (Nat.le_of_ble_eq_true rfl) ?_
  intro p_ e_ s_ m_ ar_ be_ me_ c_ Q_ A_ ls_ F_ K_ W_ hl hret
  have hl : lv_has ls_ 5 [(0, .ref (b 0)), (1, .int (zi a0)), (2, .int (zi a1)), (3, .int (zi a2)), (4, .int (zi a3))] := hl
  obtain ⟨H_, hH_⟩ : ∃ x, x = s_.heap := ⟨_, rfl⟩
  obtain ⟨lo_, hlo_⟩ : ∃ x : List Loc, x = [] := ⟨_, rfl⟩
  have W_ : WD D A_ s_.heap ([wV cy b q p x e cr t0 ab be rb rn ru, wI cy q S M sk sc mk ms mp, wF cy (q 10) (q 11) 24 6 r3 f3]) H_ lo_ := by rw [hH_, hlo_]; exact W_
  rw [← hlo_]
  suffices hg_ : W p_ l_ e_ rX7_mark s_ m_ ar_ be_ me_ c_ H_ lo_ 0 0 Q_ (F0 m_ 0 ls_ []) by rw [hH_] at hg_; exact hg_
  clear hH_ hlo_
  have hinX4 : ∀ w ∈ u_ws RX4 TX4 11, w ∈ wsX7_mark := fun w h => List.mem_cons_of_mem _ (List.mem_append_left _ (List.mem_append_right _ h))
  have hinX7 : ∀ w ∈ u_ws RX7 TX7 13, w ∈ wsX7_mark := fun w h => List.mem_cons_of_mem _ (List.mem_append_left _ (List.mem_append_left _ (List.mem_append_right _ h)))
  refine lv_aload_n F_.1 F_.2.1 dX7_mark_0 rfl (lv_at hl 0 rfl) ?_
  refine z_get F_ K_ W_ 0 0 0 rfl rfl rfl (C := RX7) (T := TX7) (N := 13) rfl (by decide) hinX7 (List.mem_of_getElem? (i := 1) rfl) dX7_mark_1 ?_
  refine lv_iload_n F_.1 F_.2.1 dX7_mark_4 rfl (lv_at hl 1 rfl) ?_
  refine z_callVip F_ K_ W_ [.int (zi a0)] (c_X4_hasMan l_ D cy q S M sk sc mk ms mp a0 (by omega) (by omega) bsk bsc bmk bms bmp (by first | omega | assumption)) 1 rfl gX7_mark_X4_hasMan rfl (by decide +kernel) ⟨⟨Nat.le_of_ble_eq_true rfl, Nat.le_of_ble_eq_true rfl⟩, rfl, rfl, Nat.zero_le _, Nat.zero_le _⟩ 0 0 4 rfl rfl rfl rfl hl.1 rfl (Nat.le_of_ble_eq_true rfl) [1] [0, 2] [wV cy b q p x e cr t0 ab be rb rn ru, wF cy (q 10) (q 11) 24 6 r3 f3] 3 (by decide +kernel) rfl rfl rfl dX7_mark_5 (fun z_1 _ H_ lo_ hw_ W_ => ?_)
  replace hw_ : ((z_1 = 1 ∧ (0 ≤ a0 ∧ a0 < M)) ∨ (z_1 = 0 ∧ ¬ (0 ≤ a0 ∧ a0 < M))) := hw_
  have f5_v := hw_
  clear hw_
  refine z_if_eq (tgt := 42) F_ (by omega) dX7_mark_8 (by decide) (fun c8 => ?_) (fun c8 => ?_)
  · refine lv_aload_n F_.1 F_.2.1 dX7_mark_42 rfl (lv_at hl 0 rfl) ?_
    refine z_bipush F_ (by decide) dX7_mark_43 ?_
    refine z_callVi F_ K_ W_ [.int (zi (-2))] (c_X7_refuse l_ D cy b q p x e cr t0 ab be rb rn ru (-2) (by first | omega | assumption)) 1 rfl gX7_mark_X7_refuse rfl (by decide +kernel) ⟨⟨Nat.le_of_ble_eq_true rfl, Nat.le_of_ble_eq_true rfl⟩, rfl, rfl, Nat.zero_le _, Nat.zero_le _⟩ 0 0 6 rfl rfl rfl rfl hl.1 rfl (Nat.le_of_ble_eq_true rfl) [0] [1, 2] [wI cy q S M sk sc mk ms mp, wF cy (q 10) (q 11) 24 6 r3 f3] (fun (u_ : (Int) × (Int) × (Int)) => [wV cy b q p x e cr t0 ab be u_.1 u_.2.1 u_.2.2, wI cy q S M sk sc mk ms mp, wF cy (q 10) (q 11) 24 6 r3 f3]) 3 (by decide +kernel) rfl rfl rfl (fun _ => rfl) (fun _ => rfl) (fun _ => rfl) dX7_mark_45 (fun z_2 u_ H_ lo_ hw_ W_ => ?_)
    obtain ⟨rb2_3, rn2_4, ru2_5⟩ := u_
    have W_ : WD D A_ s_.heap ([wV cy b q p x e cr t0 ab be rb2_3 rn2_4 ru2_5, wI cy q S M sk sc mk ms mp, wF cy (q 10) (q 11) 24 6 r3 f3]) H_ lo_ := W_
    replace hw_ : (z_2 = (-2)) ∧ (((-2) = -2 ∧ rb2_3 = rb + 1 ∧ rn2_4 = rn ∧ ru2_5 = ru) ∨ ((-2) = -3 ∧ rb2_3 = rb ∧ rn2_4 = rn + 1 ∧ ru2_5 = ru) ∨ (¬ (-2) = -2 ∧ ¬ (-2) = -3 ∧ rb2_3 = rb ∧ rn2_4 = rn ∧ ru2_5 = ru + 1)) := hw_
    obtain ⟨f45_v, f45_k⟩ := hw_
    exact hret _ _ _ _ z_2 (rb2_3, rn2_4, ru2_5, r3, f3) dX7_mark_48 ⟨(by (try dsimp only) <;> (refine Or.inl (⟨?_, ?_, ?_, ?_, ?_, ?_, ?_⟩) <;> (first | omega | rfl | assumption))), bf3⟩ W_
  · refine lv_iload_n F_.1 F_.2.1 dX7_mark_11 rfl (lv_at hl 2 rfl) ?_
    refine z_iconst F_ dX7_mark_12 ?_
    refine z_bipush F_ (by decide) dX7_mark_13 ?_
    refine z_callSip F_ K_ W_ [.int (zi a1), .int (zi 1), .int (zi 9)] (c_X7_within l_ D cy a1 1 9 (by first | omega | assumption) (by first | omega | assumption) (by first | omega | assumption)) 3 rfl gX7_mark_X7_within rfl (by decide +kernel) ⟨⟨Nat.le_of_ble_eq_true rfl, Nat.le_of_ble_eq_true rfl⟩, rfl, rfl, Nat.zero_le _, Nat.zero_le _⟩ hl.1 rfl (Nat.le_of_ble_eq_true rfl) ([] : List Nat) [0, 1, 2] [wV cy b q p x e cr t0 ab be rb rn ru, wI cy q S M sk sc mk ms mp, wF cy (q 10) (q 11) 24 6 r3 f3] 3 (by decide +kernel) rfl rfl rfl dX7_mark_15 (fun z_6 _ H_ lo_ hw_ W_ => ?_)
    replace hw_ : ((z_6 = 1 ∧ (1 ≤ a1 ∧ a1 ≤ 9)) ∨ (z_6 = 0 ∧ ¬ (1 ≤ a1 ∧ a1 ≤ 9))) := hw_
    have f15_v := hw_
    clear hw_
    refine z_if_eq (tgt := 42) F_ (by omega) dX7_mark_18 (by decide) (fun c18 => ?_) (fun c18 => ?_)
    · refine lv_aload_n F_.1 F_.2.1 dX7_mark_42 rfl (lv_at hl 0 rfl) ?_
      refine z_bipush F_ (by decide) dX7_mark_43 ?_
      refine z_callVi F_ K_ W_ [.int (zi (-2))] (c_X7_refuse l_ D cy b q p x e cr t0 ab be rb rn ru (-2) (by first | omega | assumption)) 1 rfl gX7_mark_X7_refuse rfl (by decide +kernel) ⟨⟨Nat.le_of_ble_eq_true rfl, Nat.le_of_ble_eq_true rfl⟩, rfl, rfl, Nat.zero_le _, Nat.zero_le _⟩ 0 0 6 rfl rfl rfl rfl hl.1 rfl (Nat.le_of_ble_eq_true rfl) [0] [1, 2] [wI cy q S M sk sc mk ms mp, wF cy (q 10) (q 11) 24 6 r3 f3] (fun (u_ : (Int) × (Int) × (Int)) => [wV cy b q p x e cr t0 ab be u_.1 u_.2.1 u_.2.2, wI cy q S M sk sc mk ms mp, wF cy (q 10) (q 11) 24 6 r3 f3]) 3 (by decide +kernel) rfl rfl rfl (fun _ => rfl) (fun _ => rfl) (fun _ => rfl) dX7_mark_45 (fun z_7 u_ H_ lo_ hw_ W_ => ?_)
      obtain ⟨rb2_8, rn2_9, ru2_10⟩ := u_
      have W_ : WD D A_ s_.heap ([wV cy b q p x e cr t0 ab be rb2_8 rn2_9 ru2_10, wI cy q S M sk sc mk ms mp, wF cy (q 10) (q 11) 24 6 r3 f3]) H_ lo_ := W_
      replace hw_ : (z_7 = (-2)) ∧ (((-2) = -2 ∧ rb2_8 = rb + 1 ∧ rn2_9 = rn ∧ ru2_10 = ru) ∨ ((-2) = -3 ∧ rb2_8 = rb ∧ rn2_9 = rn + 1 ∧ ru2_10 = ru) ∨ (¬ (-2) = -2 ∧ ¬ (-2) = -3 ∧ rb2_8 = rb ∧ rn2_9 = rn ∧ ru2_10 = ru + 1)) := hw_
      obtain ⟨f45_v, f45_k⟩ := hw_
      exact hret _ _ _ _ z_7 (rb2_8, rn2_9, ru2_10, r3, f3) dX7_mark_48 ⟨(by (try dsimp only) <;> (refine Or.inl (⟨?_, ?_, ?_, ?_, ?_, ?_, ?_⟩) <;> (first | omega | rfl | assumption))), bf3⟩ W_
    · refine lv_iload_n F_.1 F_.2.1 dX7_mark_21 rfl (lv_at hl 3 rfl) ?_
      refine z_iconst F_ dX7_mark_22 ?_
      refine z_bipush F_ (by decide) dX7_mark_23 ?_
      refine z_callSip F_ K_ W_ [.int (zi a2), .int (zi 0), .int (zi 99)] (c_X7_within l_ D cy a2 0 99 (by first | omega | assumption) (by first | omega | assumption) (by first | omega | assumption)) 3 rfl gX7_mark_X7_within rfl (by decide +kernel) ⟨⟨Nat.le_of_ble_eq_true rfl, Nat.le_of_ble_eq_true rfl⟩, rfl, rfl, Nat.zero_le _, Nat.zero_le _⟩ hl.1 rfl (Nat.le_of_ble_eq_true rfl) ([] : List Nat) [0, 1, 2] [wV cy b q p x e cr t0 ab be rb rn ru, wI cy q S M sk sc mk ms mp, wF cy (q 10) (q 11) 24 6 r3 f3] 3 (by decide +kernel) rfl rfl rfl dX7_mark_25 (fun z_11 _ H_ lo_ hw_ W_ => ?_)
      replace hw_ : ((z_11 = 1 ∧ (0 ≤ a2 ∧ a2 ≤ 99)) ∨ (z_11 = 0 ∧ ¬ (0 ≤ a2 ∧ a2 ≤ 99))) := hw_
      have f25_v := hw_
      clear hw_
      refine z_if_eq (tgt := 42) F_ (by omega) dX7_mark_28 (by decide) (fun c28 => ?_) (fun c28 => ?_)
      · refine lv_aload_n F_.1 F_.2.1 dX7_mark_42 rfl (lv_at hl 0 rfl) ?_
        refine z_bipush F_ (by decide) dX7_mark_43 ?_
        refine z_callVi F_ K_ W_ [.int (zi (-2))] (c_X7_refuse l_ D cy b q p x e cr t0 ab be rb rn ru (-2) (by first | omega | assumption)) 1 rfl gX7_mark_X7_refuse rfl (by decide +kernel) ⟨⟨Nat.le_of_ble_eq_true rfl, Nat.le_of_ble_eq_true rfl⟩, rfl, rfl, Nat.zero_le _, Nat.zero_le _⟩ 0 0 6 rfl rfl rfl rfl hl.1 rfl (Nat.le_of_ble_eq_true rfl) [0] [1, 2] [wI cy q S M sk sc mk ms mp, wF cy (q 10) (q 11) 24 6 r3 f3] (fun (u_ : (Int) × (Int) × (Int)) => [wV cy b q p x e cr t0 ab be u_.1 u_.2.1 u_.2.2, wI cy q S M sk sc mk ms mp, wF cy (q 10) (q 11) 24 6 r3 f3]) 3 (by decide +kernel) rfl rfl rfl (fun _ => rfl) (fun _ => rfl) (fun _ => rfl) dX7_mark_45 (fun z_12 u_ H_ lo_ hw_ W_ => ?_)
        obtain ⟨rb2_13, rn2_14, ru2_15⟩ := u_
        have W_ : WD D A_ s_.heap ([wV cy b q p x e cr t0 ab be rb2_13 rn2_14 ru2_15, wI cy q S M sk sc mk ms mp, wF cy (q 10) (q 11) 24 6 r3 f3]) H_ lo_ := W_
        replace hw_ : (z_12 = (-2)) ∧ (((-2) = -2 ∧ rb2_13 = rb + 1 ∧ rn2_14 = rn ∧ ru2_15 = ru) ∨ ((-2) = -3 ∧ rb2_13 = rb ∧ rn2_14 = rn + 1 ∧ ru2_15 = ru) ∨ (¬ (-2) = -2 ∧ ¬ (-2) = -3 ∧ rb2_13 = rb ∧ rn2_14 = rn ∧ ru2_15 = ru + 1)) := hw_
        obtain ⟨f45_v, f45_k⟩ := hw_
        exact hret _ _ _ _ z_12 (rb2_13, rn2_14, ru2_15, r3, f3) dX7_mark_48 ⟨(by (try dsimp only) <;> (refine Or.inl (⟨?_, ?_, ?_, ?_, ?_, ?_, ?_⟩) <;> (first | omega | rfl | assumption))), bf3⟩ W_
      · refine lv_iload F_.1 F_.2.1 dX7_mark_31 (lv_at hl 4 rfl) ?_
        refine z_iconst F_ dX7_mark_33 ?_
        refine z_bipush F_ (by decide) dX7_mark_34 ?_
        refine z_callSip F_ K_ W_ [.int (zi a3), .int (zi 0), .int (zi 40)] (c_X7_within l_ D cy a3 0 40 (by first | omega | assumption) (by first | omega | assumption) (by first | omega | assumption)) 3 rfl gX7_mark_X7_within rfl (by decide +kernel) ⟨⟨Nat.le_of_ble_eq_true rfl, Nat.le_of_ble_eq_true rfl⟩, rfl, rfl, Nat.zero_le _, Nat.zero_le _⟩ hl.1 rfl (Nat.le_of_ble_eq_true rfl) ([] : List Nat) [0, 1, 2] [wV cy b q p x e cr t0 ab be rb rn ru, wI cy q S M sk sc mk ms mp, wF cy (q 10) (q 11) 24 6 r3 f3] 3 (by decide +kernel) rfl rfl rfl dX7_mark_36 (fun z_16 _ H_ lo_ hw_ W_ => ?_)
        replace hw_ : ((z_16 = 1 ∧ (0 ≤ a3 ∧ a3 ≤ 40)) ∨ (z_16 = 0 ∧ ¬ (0 ≤ a3 ∧ a3 ≤ 40))) := hw_
        have f36_v := hw_
        clear hw_
        refine z_if_ne (tgt := 49) F_ (by omega) dX7_mark_39 (by decide) (fun c39 => ?_) (fun c39 => ?_)
        · refine lv_aload_n F_.1 F_.2.1 dX7_mark_49 rfl (lv_at hl 0 rfl) ?_
          refine lv_aload_n F_.1 F_.2.1 dX7_mark_50 rfl (lv_at hl 0 rfl) ?_
          refine z_get F_ K_ W_ 0 0 0 rfl rfl rfl (C := RX7) (T := TX7) (N := 13) rfl (by decide) hinX7 (List.mem_of_getElem? (i := 1) rfl) dX7_mark_51 ?_
          refine z_get F_ K_ W_ 1 0 9 rfl rfl rfl (C := RX4) (T := TX4) (N := 11) rfl (by decide) hinX4 (List.mem_of_getElem? (i := 2) rfl) dX7_mark_54 ?_
          refine lv_iload_n F_.1 F_.2.1 dX7_mark_57 rfl (lv_at hl 1 rfl) ?_
          refine lv_iload_n F_.1 F_.2.1 dX7_mark_58 rfl (lv_at hl 2 rfl) ?_
          refine lv_iload_n F_.1 F_.2.1 dX7_mark_59 rfl (lv_at hl 3 rfl) ?_
          refine lv_iload F_.1 F_.2.1 dX7_mark_60 (lv_at hl 4 rfl) ?_
          refine z_callVi F_ K_ W_ [.ref (q 10), .int (zi a0), .int (zi a1), .int (zi a2), .int (zi a3)] (c_X7_addTo l_ D cy b q p x e cr t0 ab be rb rn ru (q 10) (q 11) 24 6 r3 f3 a0 a1 a2 a3 bf3 (by first | omega | assumption) (by first | omega | assumption) (by first | omega | assumption) (by first | omega | assumption) (by first | omega | assumption) (by first | omega | assumption) (by first | omega | assumption)) 5 rfl gX7_mark_X7_addTo rfl (by decide +kernel) ⟨⟨Nat.le_of_ble_eq_true rfl, Nat.le_of_ble_eq_true rfl⟩, rfl, rfl, Nat.zero_le _, Nat.zero_le _⟩ 0 0 6 rfl rfl rfl rfl hl.1 rfl (Nat.le_of_ble_eq_true rfl) [0, 2] [1] [wI cy q S M sk sc mk ms mp] (fun (u_ : (Int) × (Int) × (Int) × (Int) × (Int → Int)) => [wV cy b q p x e cr t0 ab be u_.1 u_.2.1 u_.2.2.1, wI cy q S M sk sc mk ms mp, wF cy (q 10) (q 11) 24 6 u_.2.2.2.1 u_.2.2.2.2]) 3 (by decide +kernel) rfl rfl rfl (fun _ => rfl) (fun _ => rfl) (fun _ => rfl) dX7_mark_62 (fun z_17 u_ H_ lo_ hw_ W_ => ?_)
          obtain ⟨rb2_18, rn2_19, ru2_20, r2_21, g_22⟩ := u_
          have W_ : WD D A_ s_.heap ([wV cy b q p x e cr t0 ab be rb2_18 rn2_19 ru2_20, wI cy q S M sk sc mk ms mp, wF cy (q 10) (q 11) 24 6 r2_21 g_22]) H_ lo_ := W_
          replace hw_ : ((6 ≤ r3 ∧ z_17 = -4 ∧ r2_21 = r3 ∧ g_22 = f3 ∧ rb2_18 = rb ∧ rn2_19 = rn ∧ ru2_20 = ru + 1) ∨ (r3 < 6 ∧ z_17 = r3 + 1 ∧ r2_21 = r3 + 1 ∧ g_22 = putZ f3 (4 * r3) a0 a1 a2 a3 ∧ rb2_18 = rb ∧ rn2_19 = rn ∧ ru2_20 = ru)) ∧ (∀ j : Int, (-1) ≤ g_22 j ∧ g_22 j ≤ 99) := hw_
          obtain ⟨f62_k, f62_B_F_f⟩ := hw_
          exact hret _ _ _ _ z_17 (rb2_18, rn2_19, ru2_20, r2_21, g_22) dX7_mark_65 ⟨(by (try dsimp only) <;> (rcases f62_k with ⟨q1_, q2_, q3_, q4_, q5_, q6_, q7_⟩ | ⟨q1_, q2_, q3_, q4_, q5_, q6_, q7_⟩ <;> (first | (refine Or.inr (Or.inl (⟨?_, ?_, ?_, ?_, ?_, ?_, ?_, ?_⟩)) <;> (first | omega | rfl | assumption)) | (refine Or.inr (Or.inr (⟨?_, ?_, ?_, ?_, ?_, ?_, ?_, ?_⟩)) <;> (first | omega | rfl | assumption))))), f62_B_F_f⟩ W_
        · refine lv_aload_n F_.1 F_.2.1 dX7_mark_42 rfl (lv_at hl 0 rfl) ?_
          refine z_bipush F_ (by decide) dX7_mark_43 ?_
          refine z_callVi F_ K_ W_ [.int (zi (-2))] (c_X7_refuse l_ D cy b q p x e cr t0 ab be rb rn ru (-2) (by first | omega | assumption)) 1 rfl gX7_mark_X7_refuse rfl (by decide +kernel) ⟨⟨Nat.le_of_ble_eq_true rfl, Nat.le_of_ble_eq_true rfl⟩, rfl, rfl, Nat.zero_le _, Nat.zero_le _⟩ 0 0 6 rfl rfl rfl rfl hl.1 rfl (Nat.le_of_ble_eq_true rfl) [0] [1, 2] [wI cy q S M sk sc mk ms mp, wF cy (q 10) (q 11) 24 6 r3 f3] (fun (u_ : (Int) × (Int) × (Int)) => [wV cy b q p x e cr t0 ab be u_.1 u_.2.1 u_.2.2, wI cy q S M sk sc mk ms mp, wF cy (q 10) (q 11) 24 6 r3 f3]) 3 (by decide +kernel) rfl rfl rfl (fun _ => rfl) (fun _ => rfl) (fun _ => rfl) dX7_mark_45 (fun z_23 u_ H_ lo_ hw_ W_ => ?_)
          obtain ⟨rb2_24, rn2_25, ru2_26⟩ := u_
          have W_ : WD D A_ s_.heap ([wV cy b q p x e cr t0 ab be rb2_24 rn2_25 ru2_26, wI cy q S M sk sc mk ms mp, wF cy (q 10) (q 11) 24 6 r3 f3]) H_ lo_ := W_
          replace hw_ : (z_23 = (-2)) ∧ (((-2) = -2 ∧ rb2_24 = rb + 1 ∧ rn2_25 = rn ∧ ru2_26 = ru) ∨ ((-2) = -3 ∧ rb2_24 = rb ∧ rn2_25 = rn + 1 ∧ ru2_26 = ru) ∨ (¬ (-2) = -2 ∧ ¬ (-2) = -3 ∧ rb2_24 = rb ∧ rn2_25 = rn ∧ ru2_26 = ru + 1)) := hw_
          obtain ⟨f45_v, f45_k⟩ := hw_
          exact hret _ _ _ _ z_23 (rb2_24, rn2_25, ru2_26, r3, f3) dX7_mark_48 ⟨(by (try dsimp only) <;> (refine Or.inl (⟨?_, ?_, ?_, ?_, ?_, ?_, ?_⟩) <;> (first | omega | rfl | assumption))), bf3⟩ W_
abbrev rX7_leastBit : Room := { frames := 0, cells := 0, slots := 0, locals := 0 }
set_option maxHeartbeats 1000000 in
set_option maxRecDepth 100000 in
theorem c_X7_leastBit (l_ : Launch) (D : va_G) (cy : Nat → ClassId) (f : Int → Int) (t : Int) (rt : -2147483648 ≤ t ∧ t < 2147483648) (hx : t = bitZ f 1 10) : CTi l_ D cy yX7_leastBit wsX7_leastBit rX7_leastBit [.int (zi t)] (([] : List va_W)) (fun (z : Int) (u : Unit) => (z = fstZ f 10)) (fun (_ : Unit) => ([] : List va_W)) := by
  refine CTi.of RX7 cX7_leastBit 2 rfl (by decide) rfl (fun z u hz => rfl) (Nat.le_of_ble_eq_true rfl) ?_
  intro p_ e_ s_ m_ ar_ be_ me_ c_ Q_ A_ ls_ F_ K_ W_ hl hret
  have hl : lv_has ls_ 2 [(0, .int (zi t))] := hl
  obtain ⟨H_, hH_⟩ : ∃ x, x = s_.heap := ⟨_, rfl⟩
  obtain ⟨lo_, hlo_⟩ : ∃ x : List Loc, x = [] := ⟨_, rfl⟩
  have W_ : WD D A_ s_.heap (([] : List va_W)) H_ lo_ := by rw [hH_, hlo_]; exact W_
  rw [← hlo_]
  suffices hg_ : W p_ l_ e_ rX7_leastBit s_ m_ ar_ be_ me_ c_ H_ lo_ 0 0 Q_ (F0 m_ 0 ls_ []) by rw [hH_] at hg_; exact hg_
  clear hH_ hlo_
  have hzb := bitZ_b f 1 (m := 10) (by omega)
  rw [← hx] at hzb
  have hp10 : zpw 10 = 1024 := rfl
  refine z_iconst F_ dX7_leastBit_0 ?_
  refine lv_istore_n (lv' := [(1, .int (zi 0)), (0, .int (zi t))]) F_.1 F_.2.1 dX7_leastBit_1 rfl hl (by decide) rfl (fun ls_ hl => ?_)
  have L2 : ∀ (n_ : Nat) (i : Int) (hi : 0 ≤ i ∧ i ≤ 10) (hf : fstZ f i = -1) (hm_ : (10 - i : Int) < (n_ : Int)) (ls_ : Array Slot) (H_ : Heap) (lo_ : List Loc), WD D A_ s_.heap (([] : List va_W)) H_ lo_ → lv_has ls_ 2 [(1, .int (zi i)), (0, .int (zi t))] → W p_ l_ e_ rX7_leastBit s_ m_ ar_ be_ me_ c_ H_ lo_ 0 0 Q_ (F0 m_ 2 ls_ []) := by
    intro n_
    induction n_ with
    | zero =>
      intro i hi hf hm_ ls_ H_ lo_ _ _
      exact absurd hm_ (by omega)
    | succ n_ ih_ =>
      intro i hi hf hm_ ls_ H_ lo_ W_ hl
      have ih2 := ih_
      refine lv_iload_n F_.1 F_.2.1 dX7_leastBit_2 rfl (lv_at hl 0 rfl) ?_
      refine z_bipush F_ (by decide) dX7_leastBit_3 ?_
      refine z_icmp_gt (tgt := 25) F_ (by omega) dX7_leastBit_5 (by decide) (fun c5 => ?_) (fun c5 => ?_)
      · refine z_iconst F_ dX7_leastBit_25 ?_
        exact hret _ _ _ _ (-1) () dX7_leastBit_26 (by rw [show (10 : Int) = i by omega]; exact hf.symm) W_
      · have hsh := zshr_b i (x := t) (by omega)
        have hbt : zbt t i = if i < 10 ∧ f i = 1 then 1 else 0 := by rw [hx]; exact zbt_bitZ f 1 (by omega) (by omega)
        refine lv_iload_n F_.1 F_.2.1 dX7_leastBit_8 rfl (lv_at hl 1 rfl) ?_
        refine lv_iload_n F_.1 F_.2.1 dX7_leastBit_9 rfl (lv_at hl 0 rfl) ?_
        refine z_ishr F_ (by omega) dX7_leastBit_10 ?_
        refine z_iconst F_ dX7_leastBit_11 ?_
        refine z_iand F_ (by omega) dX7_leastBit_12 ?_
        have i_1 : zand (t / zpw i) 1 = zbt t i := by rw [zand_1 (by omega)]; rfl
        rw [i_1]
        refine z_iconst F_ dX7_leastBit_13 ?_
        refine z_icmp_ne (tgt := 19) F_ (by rw [hbt]; split <;> omega) dX7_leastBit_14 (by decide) (fun c14 => ?_) (fun c14 => ?_)
        · refine z_iinc (lv' := [(1, .int (zi (i + 1))), (0, .int (zi t))]) F_ dX7_leastBit_19 hl (k := 0) rfl (by decide) rfl (fun ls_ hl => ?_)
          refine z_goto (tgt := 2) F_ dX7_leastBit_22 (by decide) ?_
          exact ih2 (i + 1) (by first | omega | assumption) (by rw [fstZ_s _ hi.1, if_neg (fun q => by rw [if_pos ⟨by omega, q.2⟩] at hbt; omega)]; exact hf) (by omega) ls_ H_ lo_ W_ (lv_sub hl [0, 1] rfl)
        · refine lv_iload_n F_.1 F_.2.1 dX7_leastBit_17 rfl (lv_at hl 0 rfl) ?_
          exact hret _ _ _ _ i () dX7_leastBit_18 (by symm; refine fst_at (by omega) hf ?_; by_cases q : f i = 1; exact q; (rw [if_neg (fun w => q w.2)] at hbt; omega)) W_
  exact L2 ((10 - 0 : Int).toNat + 1) 0 (by first | omega | assumption) (by rfl) (by have := Int.self_le_toNat (10 - 0 : Int); omega) ls_ H_ lo_ W_ (lv_sub hl [0, 1] rfl)
abbrev rX7_greatestBit : Room := { frames := 0, cells := 0, slots := 0, locals := 0 }
set_option maxHeartbeats 1000000 in
set_option maxRecDepth 100000 in
theorem c_X7_greatestBit (l_ : Launch) (D : va_G) (cy : Nat → ClassId) (f : Int → Int) (t : Int) (rt : -2147483648 ≤ t ∧ t < 2147483648) (hx : t = bitZ f 1 10) : CTi l_ D cy yX7_greatestBit wsX7_greatestBit rX7_greatestBit [.int (zi t)] (([] : List va_W)) (fun (z : Int) (u : Unit) => (z = lasZ f 10)) (fun (_ : Unit) => ([] : List va_W)) := by
  refine CTi.of RX7 cX7_greatestBit 2 rfl (by decide) rfl (fun z u hz => rfl) (Nat.le_of_ble_eq_true rfl) ?_
  intro p_ e_ s_ m_ ar_ be_ me_ c_ Q_ A_ ls_ F_ K_ W_ hl hret
  have hl : lv_has ls_ 2 [(0, .int (zi t))] := hl
  obtain ⟨H_, hH_⟩ : ∃ x, x = s_.heap := ⟨_, rfl⟩
  obtain ⟨lo_, hlo_⟩ : ∃ x : List Loc, x = [] := ⟨_, rfl⟩
  have W_ : WD D A_ s_.heap (([] : List va_W)) H_ lo_ := by rw [hH_, hlo_]; exact W_
  rw [← hlo_]
  suffices hg_ : W p_ l_ e_ rX7_greatestBit s_ m_ ar_ be_ me_ c_ H_ lo_ 0 0 Q_ (F0 m_ 0 ls_ []) by rw [hH_] at hg_; exact hg_
  clear hH_ hlo_
  have hzb := bitZ_b f 1 (m := 10) (by omega)
  rw [← hx] at hzb
  have hp10 : zpw 10 = 1024 := rfl
  refine z_bipush F_ (by decide) dX7_greatestBit_0 ?_
  refine lv_istore_n (lv' := [(1, .int (zi 9)), (0, .int (zi t))]) F_.1 F_.2.1 dX7_greatestBit_2 rfl hl (by decide) rfl (fun ls_ hl => ?_)
  have L3 : ∀ (n_ : Nat) (i : Int) (hi : -1 ≤ i ∧ i ≤ 9) (hf : ∀ j, i < j → j < 10 → ¬ f j = 1) (hm_ : (i + 1 : Int) < (n_ : Int)) (ls_ : Array Slot) (H_ : Heap) (lo_ : List Loc), WD D A_ s_.heap (([] : List va_W)) H_ lo_ → lv_has ls_ 2 [(1, .int (zi i)), (0, .int (zi t))] → W p_ l_ e_ rX7_greatestBit s_ m_ ar_ be_ me_ c_ H_ lo_ 0 0 Q_ (F0 m_ 3 ls_ []) := by
    intro n_
    induction n_ with
    | zero =>
      intro i hi hf hm_ ls_ H_ lo_ _ _
      exact absurd hm_ (by omega)
    | succ n_ ih_ =>
      intro i hi hf hm_ ls_ H_ lo_ W_ hl
      have ih3 := ih_
      refine lv_iload_n F_.1 F_.2.1 dX7_greatestBit_3 rfl (lv_at hl 0 rfl) ?_
      refine z_if_lt (tgt := 24) F_ (by omega) dX7_greatestBit_4 (by decide) (fun c4 => ?_) (fun c4 => ?_)
      · refine z_iconst F_ dX7_greatestBit_24 ?_
        exact hret _ _ _ _ (-1) () dX7_greatestBit_25 (by exact (las_no (by omega) (fun j q1 q2 => hf j (by omega) q2)).symm) W_
      · have hsh := zshr_b i (x := t) (by omega)
        have hbt : zbt t i = if i < 10 ∧ f i = 1 then 1 else 0 := by rw [hx]; exact zbt_bitZ f 1 (by omega) (by omega)
        refine lv_iload_n F_.1 F_.2.1 dX7_greatestBit_7 rfl (lv_at hl 1 rfl) ?_
        refine lv_iload_n F_.1 F_.2.1 dX7_greatestBit_8 rfl (lv_at hl 0 rfl) ?_
        refine z_ishr F_ (by omega) dX7_greatestBit_9 ?_
        refine z_iconst F_ dX7_greatestBit_10 ?_
        refine z_iand F_ (by omega) dX7_greatestBit_11 ?_
        have i_1 : zand (t / zpw i) 1 = zbt t i := by rw [zand_1 (by omega)]; rfl
        rw [i_1]
        refine z_iconst F_ dX7_greatestBit_12 ?_
        refine z_icmp_ne (tgt := 18) F_ (by rw [hbt]; split <;> omega) dX7_greatestBit_13 (by decide) (fun c13 => ?_) (fun c13 => ?_)
        · refine z_iinc (lv' := [(1, .int (zi (i + (-1)))), (0, .int (zi t))]) F_ dX7_greatestBit_18 hl (k := 0) rfl (by decide) rfl (fun ls_ hl => ?_)
          refine z_goto (tgt := 3) F_ dX7_greatestBit_21 (by decide) ?_
          exact ih3 (i + (-1)) (by first | omega | assumption) (by intro j q1 q2; rcases Int.lt_or_eq_of_le (show i ≤ j by omega) with q | q; exact hf j q q2; (subst q; intro w; rw [if_pos ⟨by omega, w⟩] at hbt; omega)) (by omega) ls_ H_ lo_ W_ (lv_sub hl [0, 1] rfl)
        · refine lv_iload_n F_.1 F_.2.1 dX7_greatestBit_16 rfl (lv_at hl 0 rfl) ?_
          exact hret _ _ _ _ i () dX7_greatestBit_17 (by symm; refine las_at (by omega) ?_ hf; by_cases q : f i = 1; exact q; (rw [if_neg (fun w => q w.2)] at hbt; omega)) W_
  exact L3 ((9 + 1 : Int).toNat + 1) 9 (by first | omega | assumption) (by intro j q1 q2; omega) (by have := Int.self_le_toNat (9 + 1 : Int); omega) ls_ H_ lo_ W_ (lv_sub hl [0, 1] rfl)
abbrev rX7_skilled : Room := { frames := 3, cells := 0, slots := 0, locals := 75 }
set_option maxHeartbeats 1000000 in
set_option maxRecDepth 100000 in
theorem c_X7_skilled (l_ : Launch) (D : va_G) (cy : Nat → ClassId) (b : Nat → Nat) (q : Nat → Nat) (p : Nat → Nat) (x : Nat → Nat) (e : Nat → Nat) (cr : Nat → Nat) (t0 : Nat) (ab : Int) (be : Int) (rb : Int) (rn : Int) (ru : Int) (S : Int) (M : Int) (sk : Int → Int) (sc : Int → Int) (mk : Int → Int) (ms : Int → Int) (mp : Int → Int) (r1 : Int) (f1 : Int → Int) (t1 : Nat) (te : Int → Int) (i : Int) (w : Int) (bS : 0 ≤ S ∧ S ≤ 3) (bM : 0 ≤ M ∧ M ≤ 8) (bsk : ∀ j : Int, 0 ≤ sk j ∧ sk j ≤ 5) (bsc : ∀ j : Int, 0 ≤ sc j ∧ sc j ≤ 99) (bmk : ∀ j : Int, 0 ≤ mk j ∧ mk j ≤ 5) (bms : ∀ j : Int, 0 ≤ ms j ∧ ms j ≤ 9) (bmp : ∀ j : Int, (-1) ≤ mp j ∧ mp j ≤ 2) (bf1 : ∀ j : Int, (-1) ≤ f1 j ∧ f1 j ≤ 99) (bte : ∀ j : Int, 0 ≤ te j ∧ te j ≤ 300) (ri : -2147483648 ≤ i ∧ i < 2147483648) (rw : -2147483648 ≤ w ∧ w < 2147483648) (hr : 0 ≤ r1 ∧ r1 ≤ 5) (hrow : ∀ k, 0 ≤ k → k < r1 → 0 ≤ f1 (4 * k + 1)) : CTi l_ D cy yX7_skilled wsX7_skilled rX7_skilled [.ref (b 0), .int (zi i), .int (zi w)] ([wV cy b q p x e cr t0 ab be rb rn ru, wI cy q S M sk sc mk ms mp, wF cy (q 6) (q 7) 20 5 r1 f1, wQ cy t0 t1 te]) (fun (z : Int) (u : (Int) × (Int) × (Int)) => ((((0 ≤ i ∧ i < M) ∧ (0 ≤ w ∧ w ≤ 2)) ∧ z = (if w = 0 then cntZ (okS f1 (mk i) i r1) 1 10 else if w = 1 then fstZ (okS f1 (mk i) i r1) 10 else lasZ (okS f1 (mk i) i r1) 10) ∧ u.1 = rb ∧ u.2.1 = rn ∧ u.2.2 = ru) ∨ (¬ ((0 ≤ i ∧ i < M) ∧ (0 ≤ w ∧ w ≤ 2)) ∧ z = -2 ∧ u.1 = rb + 1 ∧ u.2.1 = rn ∧ u.2.2 = ru))) (fun (u : (Int) × (Int) × (Int)) => [wV cy b q p x e cr t0 ab be u.1 u.2.1 u.2.2, wI cy q S M sk sc mk ms mp, wF cy (q 6) (q 7) 20 5 r1 f1, wQ cy t0 t1 te]) := by
  refine CTi.of RX7 cX7_skilled 4 rfl (by decide) rfl (fun z u hz => rfl) (Nat.le_of_ble_eq_true rfl) ?_
  intro p_ e_ s_ m_ ar_ be_ me_ c_ Q_ A_ ls_ F_ K_ W_ hl hret
  have hl : lv_has ls_ 4 [(0, .ref (b 0)), (1, .int (zi i)), (2, .int (zi w))] := hl
  obtain ⟨H_, hH_⟩ : ∃ x, x = s_.heap := ⟨_, rfl⟩
  obtain ⟨lo_, hlo_⟩ : ∃ x : List Loc, x = [] := ⟨_, rfl⟩
  have W_ : WD D A_ s_.heap ([wV cy b q p x e cr t0 ab be rb rn ru, wI cy q S M sk sc mk ms mp, wF cy (q 6) (q 7) 20 5 r1 f1, wQ cy t0 t1 te]) H_ lo_ := by rw [hH_, hlo_]; exact W_
  rw [← hlo_]
  suffices hg_ : W p_ l_ e_ rX7_skilled s_ m_ ar_ be_ me_ c_ H_ lo_ 0 0 Q_ (F0 m_ 0 ls_ []) by rw [hH_] at hg_; exact hg_
  clear hH_ hlo_
  have hinX7 : ∀ w ∈ u_ws RX7 TX7 13, w ∈ wsX7_skilled := fun w h => List.mem_cons_of_mem _ (List.mem_append_left _ (List.mem_append_left _ (List.mem_append_right _ h)))
  refine lv_aload_n F_.1 F_.2.1 dX7_skilled_0 rfl (lv_at hl 0 rfl) ?_
  refine z_get F_ K_ W_ 0 0 0 rfl rfl rfl (C := RX7) (T := TX7) (N := 13) rfl (by decide) hinX7 (List.mem_of_getElem? (i := 1) rfl) dX7_skilled_1 ?_
  refine lv_iload_n F_.1 F_.2.1 dX7_skilled_4 rfl (lv_at hl 1 rfl) ?_
  refine z_callVip F_ K_ W_ [.int (zi i)] (c_X4_hasMan l_ D cy q S M sk sc mk ms mp i (by omega) (by omega) bsk bsc bmk bms bmp (by first | omega | assumption)) 1 rfl gX7_skilled_X4_hasMan rfl (by decide +kernel) ⟨⟨Nat.le_of_ble_eq_true rfl, Nat.le_of_ble_eq_true rfl⟩, rfl, rfl, Nat.zero_le _, Nat.zero_le _⟩ 0 0 4 rfl rfl rfl rfl hl.1 rfl (Nat.le_of_ble_eq_true rfl) [1] [0, 2, 3] [wV cy b q p x e cr t0 ab be rb rn ru, wF cy (q 6) (q 7) 20 5 r1 f1, wQ cy t0 t1 te] 4 (by decide +kernel) rfl rfl rfl dX7_skilled_5 (fun z_1 _ H_ lo_ hw_ W_ => ?_)
  replace hw_ : ((z_1 = 1 ∧ (0 ≤ i ∧ i < M)) ∨ (z_1 = 0 ∧ ¬ (0 ≤ i ∧ i < M))) := hw_
  have f5_v := hw_
  clear hw_
  refine z_if_eq (tgt := 20) F_ (by omega) dX7_skilled_8 (by decide) (fun c8 => ?_) (fun c8 => ?_)
  · refine lv_aload_n F_.1 F_.2.1 dX7_skilled_20 rfl (lv_at hl 0 rfl) ?_
    refine z_bipush F_ (by decide) dX7_skilled_21 ?_
    refine z_callVi F_ K_ W_ [.int (zi (-2))] (c_X7_refuse l_ D cy b q p x e cr t0 ab be rb rn ru (-2) (by first | omega | assumption)) 1 rfl gX7_skilled_X7_refuse rfl (by decide +kernel) ⟨⟨Nat.le_of_ble_eq_true rfl, Nat.le_of_ble_eq_true rfl⟩, rfl, rfl, Nat.zero_le _, Nat.zero_le _⟩ 0 0 6 rfl rfl rfl rfl hl.1 rfl (Nat.le_of_ble_eq_true rfl) [0] [1, 2, 3] [wI cy q S M sk sc mk ms mp, wF cy (q 6) (q 7) 20 5 r1 f1, wQ cy t0 t1 te] (fun (u_ : (Int) × (Int) × (Int)) => [wV cy b q p x e cr t0 ab be u_.1 u_.2.1 u_.2.2, wI cy q S M sk sc mk ms mp, wF cy (q 6) (q 7) 20 5 r1 f1, wQ cy t0 t1 te]) 4 (by decide +kernel) rfl rfl rfl (fun _ => rfl) (fun _ => rfl) (fun _ => rfl) dX7_skilled_23 (fun z_2 u_ H_ lo_ hw_ W_ => ?_)
    obtain ⟨rb2_3, rn2_4, ru2_5⟩ := u_
    have W_ : WD D A_ s_.heap ([wV cy b q p x e cr t0 ab be rb2_3 rn2_4 ru2_5, wI cy q S M sk sc mk ms mp, wF cy (q 6) (q 7) 20 5 r1 f1, wQ cy t0 t1 te]) H_ lo_ := W_
    replace hw_ : (z_2 = (-2)) ∧ (((-2) = -2 ∧ rb2_3 = rb + 1 ∧ rn2_4 = rn ∧ ru2_5 = ru) ∨ ((-2) = -3 ∧ rb2_3 = rb ∧ rn2_4 = rn + 1 ∧ ru2_5 = ru) ∨ (¬ (-2) = -2 ∧ ¬ (-2) = -3 ∧ rb2_3 = rb ∧ rn2_4 = rn ∧ ru2_5 = ru + 1)) := hw_
    obtain ⟨f23_v, f23_k⟩ := hw_
    exact hret _ _ _ _ z_2 (rb2_3, rn2_4, ru2_5) dX7_skilled_26 (by (try dsimp only) <;> (refine Or.inr (⟨?_, ?_, ?_, ?_, ?_⟩) <;> (first | omega | rfl | assumption))) W_
  · refine lv_iload_n F_.1 F_.2.1 dX7_skilled_11 rfl (lv_at hl 2 rfl) ?_
    refine z_iconst F_ dX7_skilled_12 ?_
    refine z_iconst F_ dX7_skilled_13 ?_
    refine z_callSip F_ K_ W_ [.int (zi w), .int (zi 0), .int (zi 2)] (c_X7_within l_ D cy w 0 2 (by first | omega | assumption) (by first | omega | assumption) (by first | omega | assumption)) 3 rfl gX7_skilled_X7_within rfl (by decide +kernel) ⟨⟨Nat.le_of_ble_eq_true rfl, Nat.le_of_ble_eq_true rfl⟩, rfl, rfl, Nat.zero_le _, Nat.zero_le _⟩ hl.1 rfl (Nat.le_of_ble_eq_true rfl) ([] : List Nat) [0, 1, 2, 3] [wV cy b q p x e cr t0 ab be rb rn ru, wI cy q S M sk sc mk ms mp, wF cy (q 6) (q 7) 20 5 r1 f1, wQ cy t0 t1 te] 4 (by decide +kernel) rfl rfl rfl dX7_skilled_14 (fun z_6 _ H_ lo_ hw_ W_ => ?_)
    replace hw_ : ((z_6 = 1 ∧ (0 ≤ w ∧ w ≤ 2)) ∨ (z_6 = 0 ∧ ¬ (0 ≤ w ∧ w ≤ 2))) := hw_
    have f14_v := hw_
    clear hw_
    refine z_if_ne (tgt := 27) F_ (by omega) dX7_skilled_17 (by decide) (fun c17 => ?_) (fun c17 => ?_)
    · refine lv_aload_n F_.1 F_.2.1 dX7_skilled_27 rfl (lv_at hl 0 rfl) ?_
      refine z_get F_ K_ W_ 0 0 7 rfl rfl rfl (C := RX7) (T := TX7) (N := 13) rfl (by decide) hinX7 (List.mem_of_getElem? (i := 2) rfl) dX7_skilled_28 ?_
      refine lv_aload_n F_.1 F_.2.1 dX7_skilled_31 rfl (lv_at hl 0 rfl) ?_
      refine z_get F_ K_ W_ 0 0 0 rfl rfl rfl (C := RX7) (T := TX7) (N := 13) rfl (by decide) hinX7 (List.mem_of_getElem? (i := 1) rfl) dX7_skilled_32 ?_
      refine lv_iload_n F_.1 F_.2.1 dX7_skilled_35 rfl (lv_at hl 1 rfl) ?_
      refine z_callVip F_ K_ W_ [.ref (q 0), .int (zi i)] (c_X3_skillsOf l_ D cy t0 t1 te q S M sk sc mk ms mp r1 f1 i bte (by omega) (by omega) bsk bsc bmk bms bmp bf1 (by first | omega | assumption) (by first | omega | assumption) (by first | omega | assumption) (by exact hrow)) 2 rfl gX7_skilled_X3_skillsOf rfl (by decide +kernel) ⟨⟨Nat.le_of_ble_eq_true rfl, Nat.le_of_ble_eq_true rfl⟩, rfl, rfl, Nat.zero_le _, Nat.zero_le _⟩ 0 0 3 rfl rfl rfl rfl hl.1 rfl (Nat.le_of_ble_eq_true rfl) [3, 1, 2] [0] [wV cy b q p x e cr t0 ab be rb rn ru] 4 (by decide +kernel) rfl rfl rfl dX7_skilled_36 (fun z_7 _ H_ lo_ hw_ W_ => ?_)
      replace hw_ : (z_7 = bitZ (okS f1 (mk i) i r1) 1 10) := hw_
      have f36_v := hw_
      clear hw_
      have hzb := bitZ_b (okS f1 (mk i) i r1) 1 (m := 10) (by omega)
      rw [← f36_v] at hzb
      have hp10 : zpw 10 = 1024 := rfl
      refine lv_istore_n (lv' := [(3, .int (zi z_7)), (0, .ref (b 0)), (1, .int (zi i)), (2, .int (zi w))]) F_.1 F_.2.1 dX7_skilled_39 rfl hl (by decide) rfl (fun ls_ hl => ?_)
      refine lv_iload_n F_.1 F_.2.1 dX7_skilled_40 rfl (lv_at hl 3 rfl) ?_
      rcases (show w = 0 ∨ w = 1 ∨ (¬ w = 0 ∧ ¬ w = 1) by omega) with c41 | c41 | c41
      · refine lv_lookup (off := 27) (tgt := 68) F_.1 F_.2.1 dX7_skilled_41 (by decide) (by rw [zi_toInt (by omega)]; rw [c41]; rfl) (by decide) ?_
        refine lv_iload_n F_.1 F_.2.1 dX7_skilled_68 rfl (lv_at hl 0 rfl) ?_
        refine z_callSip F_ K_ W_ [.int (zi z_7)] (c_J6_bitCount_0f7a4 l_ D cy z_7 (by first | omega | assumption)) 1 rfl gX7_skilled_J6_bitCount_0f7a4 rfl (by decide +kernel) ⟨⟨Nat.le_of_ble_eq_true rfl, Nat.le_of_ble_eq_true rfl⟩, rfl, rfl, Nat.zero_le _, Nat.zero_le _⟩ hl.1 rfl (Nat.le_of_ble_eq_true rfl) ([] : List Nat) [0, 1, 2, 3] [wV cy b q p x e cr t0 ab be rb rn ru, wI cy q S M sk sc mk ms mp, wF cy (q 6) (q 7) 20 5 r1 f1, wQ cy t0 t1 te] 4 (by decide +kernel) rfl rfl rfl dX7_skilled_69 (fun z_8 _ H_ lo_ hw_ W_ => ?_)
        replace hw_ : (z_8 = popZ z_7 10) := hw_
        have f69_v := hw_
        clear hw_
        exact hret _ _ _ _ z_8 (rb, rn, ru) dX7_skilled_72 (by (try dsimp only) <;> (exact Or.inl ⟨by omega, by rw [if_pos (by omega), f69_v, f36_v]; exact popZ_bitZ _ _ ⟨by omega, by omega⟩, rfl, rfl, rfl⟩)) W_
      · refine lv_lookup (off := 32) (tgt := 73) F_.1 F_.2.1 dX7_skilled_41 (by decide) (by rw [zi_toInt (by omega)]; rw [c41]; rfl) (by decide) ?_
        refine lv_iload_n F_.1 F_.2.1 dX7_skilled_73 rfl (lv_at hl 0 rfl) ?_
        refine z_callSip F_ K_ W_ [.int (zi z_7)] (c_X7_leastBit l_ D cy (okS f1 (mk i) i r1) z_7 (by first | omega | assumption) (by first | omega | assumption)) 1 rfl gX7_skilled_X7_leastBit rfl (by decide +kernel) ⟨⟨Nat.le_of_ble_eq_true rfl, Nat.le_of_ble_eq_true rfl⟩, rfl, rfl, Nat.zero_le _, Nat.zero_le _⟩ hl.1 rfl (Nat.le_of_ble_eq_true rfl) ([] : List Nat) [0, 1, 2, 3] [wV cy b q p x e cr t0 ab be rb rn ru, wI cy q S M sk sc mk ms mp, wF cy (q 6) (q 7) 20 5 r1 f1, wQ cy t0 t1 te] 4 (by decide +kernel) rfl rfl rfl dX7_skilled_74 (fun z_9 _ H_ lo_ hw_ W_ => ?_)
        replace hw_ : (z_9 = fstZ (okS f1 (mk i) i r1) 10) := hw_
        have f74_v := hw_
        clear hw_
        exact hret _ _ _ _ z_9 (rb, rn, ru) dX7_skilled_77 (by (try dsimp only) <;> (exact Or.inl ⟨by omega, by rw [if_neg (by omega), if_pos (by omega)]; exact f74_v, rfl, rfl, rfl⟩)) W_
      · refine lv_lookup (off := 37) (tgt := 78) F_.1 F_.2.1 dX7_skilled_41 (by decide) (by rw [zi_toInt (by omega)]; exact lk2_out (by omega) (by omega)) (by decide) ?_
        refine lv_iload_n F_.1 F_.2.1 dX7_skilled_78 rfl (lv_at hl 0 rfl) ?_
        refine z_callSip F_ K_ W_ [.int (zi z_7)] (c_X7_greatestBit l_ D cy (okS f1 (mk i) i r1) z_7 (by first | omega | assumption) (by first | omega | assumption)) 1 rfl gX7_skilled_X7_greatestBit rfl (by decide +kernel) ⟨⟨Nat.le_of_ble_eq_true rfl, Nat.le_of_ble_eq_true rfl⟩, rfl, rfl, Nat.zero_le _, Nat.zero_le _⟩ hl.1 rfl (Nat.le_of_ble_eq_true rfl) ([] : List Nat) [0, 1, 2, 3] [wV cy b q p x e cr t0 ab be rb rn ru, wI cy q S M sk sc mk ms mp, wF cy (q 6) (q 7) 20 5 r1 f1, wQ cy t0 t1 te] 4 (by decide +kernel) rfl rfl rfl dX7_skilled_79 (fun z_10 _ H_ lo_ hw_ W_ => ?_)
        replace hw_ : (z_10 = lasZ (okS f1 (mk i) i r1) 10) := hw_
        have f79_v := hw_
        clear hw_
        exact hret _ _ _ _ z_10 (rb, rn, ru) dX7_skilled_82 (by (try dsimp only) <;> (exact Or.inl ⟨by omega, by rw [if_neg (by omega), if_neg (by omega)]; exact f79_v, rfl, rfl, rfl⟩)) W_
    · refine lv_aload_n F_.1 F_.2.1 dX7_skilled_20 rfl (lv_at hl 0 rfl) ?_
      refine z_bipush F_ (by decide) dX7_skilled_21 ?_
      refine z_callVi F_ K_ W_ [.int (zi (-2))] (c_X7_refuse l_ D cy b q p x e cr t0 ab be rb rn ru (-2) (by first | omega | assumption)) 1 rfl gX7_skilled_X7_refuse rfl (by decide +kernel) ⟨⟨Nat.le_of_ble_eq_true rfl, Nat.le_of_ble_eq_true rfl⟩, rfl, rfl, Nat.zero_le _, Nat.zero_le _⟩ 0 0 6 rfl rfl rfl rfl hl.1 rfl (Nat.le_of_ble_eq_true rfl) [0] [1, 2, 3] [wI cy q S M sk sc mk ms mp, wF cy (q 6) (q 7) 20 5 r1 f1, wQ cy t0 t1 te] (fun (u_ : (Int) × (Int) × (Int)) => [wV cy b q p x e cr t0 ab be u_.1 u_.2.1 u_.2.2, wI cy q S M sk sc mk ms mp, wF cy (q 6) (q 7) 20 5 r1 f1, wQ cy t0 t1 te]) 4 (by decide +kernel) rfl rfl rfl (fun _ => rfl) (fun _ => rfl) (fun _ => rfl) dX7_skilled_23 (fun z_11 u_ H_ lo_ hw_ W_ => ?_)
      obtain ⟨rb2_12, rn2_13, ru2_14⟩ := u_
      have W_ : WD D A_ s_.heap ([wV cy b q p x e cr t0 ab be rb2_12 rn2_13 ru2_14, wI cy q S M sk sc mk ms mp, wF cy (q 6) (q 7) 20 5 r1 f1, wQ cy t0 t1 te]) H_ lo_ := W_
      replace hw_ : (z_11 = (-2)) ∧ (((-2) = -2 ∧ rb2_12 = rb + 1 ∧ rn2_13 = rn ∧ ru2_14 = ru) ∨ ((-2) = -3 ∧ rb2_12 = rb ∧ rn2_13 = rn + 1 ∧ ru2_14 = ru) ∨ (¬ (-2) = -2 ∧ ¬ (-2) = -3 ∧ rb2_12 = rb ∧ rn2_13 = rn ∧ ru2_14 = ru + 1)) := hw_
      obtain ⟨f23_v, f23_k⟩ := hw_
      exact hret _ _ _ _ z_11 (rb2_12, rn2_13, ru2_14) dX7_skilled_26 (by (try dsimp only) <;> (refine Or.inr (⟨?_, ?_, ?_, ?_, ?_⟩) <;> (first | omega | rfl | assumption))) W_
abbrev rX7_tell : Room := { frames := 3, cells := 0, slots := 0, locals := 78 }
set_option maxHeartbeats 1000000 in
set_option maxRecDepth 100000 in
theorem c_X7_tell (l_ : Launch) (D : va_G) (cy : Nat → ClassId) (b : Nat → Nat) (q : Nat → Nat) (p : Nat → Nat) (x : Nat → Nat) (e : Nat → Nat) (cr : Nat → Nat) (t0 : Nat) (ab : Int) (be : Int) (rb : Int) (rn : Int) (ru : Int) (S : Int) (M : Int) (sk : Int → Int) (sc : Int → Int) (mk : Int → Int) (ms : Int → Int) (mp : Int → Int) (r1 : Int) (f1 : Int → Int) (t1 : Nat) (te : Int → Int) (i : Int) (bS : 0 ≤ S ∧ S ≤ 3) (bM : 0 ≤ M ∧ M ≤ 8) (bsk : ∀ j : Int, 0 ≤ sk j ∧ sk j ≤ 5) (bsc : ∀ j : Int, 0 ≤ sc j ∧ sc j ≤ 99) (bmk : ∀ j : Int, 0 ≤ mk j ∧ mk j ≤ 5) (bms : ∀ j : Int, 0 ≤ ms j ∧ ms j ≤ 9) (bmp : ∀ j : Int, (-1) ≤ mp j ∧ mp j ≤ 2) (bf1 : ∀ j : Int, (-1) ≤ f1 j ∧ f1 j ≤ 99) (bte : ∀ j : Int, 0 ≤ te j ∧ te j ≤ 300) (ri : -2147483648 ≤ i ∧ i < 2147483648) (hr : 0 ≤ r1 ∧ r1 ≤ 5) (hrow : ∀ k, 0 ≤ k → k < r1 → 0 ≤ f1 (4 * k + 1)) : CTi l_ D cy yX7_tell wsX7_tell rX7_tell [.ref (b 0), .int (zi i)] ([wV cy b q p x e cr t0 ab be rb rn ru, wI cy q S M sk sc mk ms mp, wF cy (q 6) (q 7) 20 5 r1 f1, wQ cy t0 t1 te]) (fun (z : Int) (u : (Int) × (Int) × (Int)) => (((0 ≤ i ∧ i < M) ∧ z = (if bitZ (okS f1 (mk i) i r1) 1 10 = 0 then -1 else (bstZ (tellK (okS f1 (mk i) i r1) (mk i)) tellE 10 186).1) ∧ u.1 = rb ∧ u.2.1 = rn ∧ u.2.2 = ru) ∨ (¬ (0 ≤ i ∧ i < M) ∧ z = -2 ∧ u.1 = rb + 1 ∧ u.2.1 = rn ∧ u.2.2 = ru))) (fun (u : (Int) × (Int) × (Int)) => [wV cy b q p x e cr t0 ab be u.1 u.2.1 u.2.2, wI cy q S M sk sc mk ms mp, wF cy (q 6) (q 7) 20 5 r1 f1, wQ cy t0 t1 te]) := by
  refine CTi.of RX7 cX7_tell 2 rfl (by decide) rfl (fun z u hz => rfl) (Nat.le_of_ble_eq_true rfl) ?_
  intro p_ e_ s_ m_ ar_ be_ me_ c_ Q_ A_ ls_ F_ K_ W_ hl hret
  have hl : lv_has ls_ 2 [(0, .ref (b 0)), (1, .int (zi i))] := hl
  obtain ⟨H_, hH_⟩ : ∃ x, x = s_.heap := ⟨_, rfl⟩
  obtain ⟨lo_, hlo_⟩ : ∃ x : List Loc, x = [] := ⟨_, rfl⟩
  have W_ : WD D A_ s_.heap ([wV cy b q p x e cr t0 ab be rb rn ru, wI cy q S M sk sc mk ms mp, wF cy (q 6) (q 7) 20 5 r1 f1, wQ cy t0 t1 te]) H_ lo_ := by rw [hH_, hlo_]; exact W_
  rw [← hlo_]
  suffices hg_ : W p_ l_ e_ rX7_tell s_ m_ ar_ be_ me_ c_ H_ lo_ 0 0 Q_ (F0 m_ 0 ls_ []) by rw [hH_] at hg_; exact hg_
  clear hH_ hlo_
  have hinX4 : ∀ w ∈ u_ws RX4 TX4 11, w ∈ wsX7_tell := fun w h => List.mem_cons_of_mem _ (List.mem_append_left _ (List.mem_append_right _ h))
  have hinX7 : ∀ w ∈ u_ws RX7 TX7 13, w ∈ wsX7_tell := fun w h => List.mem_cons_of_mem _ (List.mem_append_left _ (List.mem_append_left _ (List.mem_append_right _ h)))
  refine lv_aload_n F_.1 F_.2.1 dX7_tell_0 rfl (lv_at hl 0 rfl) ?_
  refine z_get F_ K_ W_ 0 0 0 rfl rfl rfl (C := RX7) (T := TX7) (N := 13) rfl (by decide) hinX7 (List.mem_of_getElem? (i := 1) rfl) dX7_tell_1 ?_
  refine lv_iload_n F_.1 F_.2.1 dX7_tell_4 rfl (lv_at hl 1 rfl) ?_
  refine z_callVip F_ K_ W_ [.int (zi i)] (c_X4_hasMan l_ D cy q S M sk sc mk ms mp i (by omega) (by omega) bsk bsc bmk bms bmp (by first | omega | assumption)) 1 rfl gX7_tell_X4_hasMan rfl (by decide +kernel) ⟨⟨Nat.le_of_ble_eq_true rfl, Nat.le_of_ble_eq_true rfl⟩, rfl, rfl, Nat.zero_le _, Nat.zero_le _⟩ 0 0 4 rfl rfl rfl rfl hl.1 rfl (Nat.le_of_ble_eq_true rfl) [1] [0, 2, 3] [wV cy b q p x e cr t0 ab be rb rn ru, wF cy (q 6) (q 7) 20 5 r1 f1, wQ cy t0 t1 te] 4 (by decide +kernel) rfl rfl rfl dX7_tell_5 (fun z_1 _ H_ lo_ hw_ W_ => ?_)
  replace hw_ : ((z_1 = 1 ∧ (0 ≤ i ∧ i < M)) ∨ (z_1 = 0 ∧ ¬ (0 ≤ i ∧ i < M))) := hw_
  have f5_v := hw_
  clear hw_
  refine z_if_ne (tgt := 18) F_ (by omega) dX7_tell_8 (by decide) (fun c8 => ?_) (fun c8 => ?_)
  · refine lv_aload_n F_.1 F_.2.1 dX7_tell_18 rfl (lv_at hl 0 rfl) ?_
    refine z_get F_ K_ W_ 0 0 7 rfl rfl rfl (C := RX7) (T := TX7) (N := 13) rfl (by decide) hinX7 (List.mem_of_getElem? (i := 2) rfl) dX7_tell_19 ?_
    refine lv_aload_n F_.1 F_.2.1 dX7_tell_22 rfl (lv_at hl 0 rfl) ?_
    refine z_get F_ K_ W_ 0 0 0 rfl rfl rfl (C := RX7) (T := TX7) (N := 13) rfl (by decide) hinX7 (List.mem_of_getElem? (i := 1) rfl) dX7_tell_23 ?_
    refine z_get F_ K_ W_ 1 0 4 rfl rfl rfl (C := RX4) (T := TX4) (N := 11) rfl (by decide) hinX4 (List.mem_of_getElem? (i := 3) rfl) dX7_tell_26 ?_
    refine lv_iload_n F_.1 F_.2.1 dX7_tell_29 rfl (lv_at hl 1 rfl) ?_
    refine z_iald F_ K_ W_ 1 3 rfl rfl (by omega) (by decide) dX7_tell_30 ?_
    have b_2 := bmk i
    refine lv_aload_n F_.1 F_.2.1 dX7_tell_31 rfl (lv_at hl 0 rfl) ?_
    refine z_get F_ K_ W_ 0 0 7 rfl rfl rfl (C := RX7) (T := TX7) (N := 13) rfl (by decide) hinX7 (List.mem_of_getElem? (i := 2) rfl) dX7_tell_32 ?_
    refine lv_aload_n F_.1 F_.2.1 dX7_tell_35 rfl (lv_at hl 0 rfl) ?_
    refine z_get F_ K_ W_ 0 0 0 rfl rfl rfl (C := RX7) (T := TX7) (N := 13) rfl (by decide) hinX7 (List.mem_of_getElem? (i := 1) rfl) dX7_tell_36 ?_
    refine lv_iload_n F_.1 F_.2.1 dX7_tell_39 rfl (lv_at hl 1 rfl) ?_
    refine z_callVip F_ K_ W_ [.ref (q 0), .int (zi i)] (c_X3_skillsOf l_ D cy t0 t1 te q S M sk sc mk ms mp r1 f1 i bte (by omega) (by omega) bsk bsc bmk bms bmp bf1 (by first | omega | assumption) (by first | omega | assumption) (by first | omega | assumption) (by exact hrow)) 2 rfl gX7_tell_X3_skillsOf rfl (by decide +kernel) ⟨⟨Nat.le_of_ble_eq_true rfl, Nat.le_of_ble_eq_true rfl⟩, rfl, rfl, Nat.zero_le _, Nat.zero_le _⟩ 0 0 3 rfl rfl rfl rfl hl.1 rfl (Nat.le_of_ble_eq_true rfl) [3, 1, 2] [0] [wV cy b q p x e cr t0 ab be rb rn ru] 4 (by decide +kernel) rfl rfl rfl dX7_tell_40 (fun z_3 _ H_ lo_ hw_ W_ => ?_)
    replace hw_ : (z_3 = bitZ (okS f1 (mk i) i r1) 1 10) := hw_
    have f40_v := hw_
    clear hw_
    have hzb := bitZ_b (okS f1 (mk i) i r1) 1 (m := 10) (by omega)
    rw [← f40_v] at hzb
    have hp10 : zpw 10 = 1024 := rfl
    refine z_callVip F_ K_ W_ [.int (zi (mk i)), .int (zi z_3)] (c_X3_bestSight l_ D cy t0 t1 te (okS f1 (mk i) i r1) (mk i) z_3 bte (by first | omega | assumption) (by first | omega | assumption) (by first | omega | assumption) (by exact okS_0 _ _ _ _)) 2 rfl gX7_tell_X3_bestSight rfl (by decide +kernel) ⟨⟨Nat.le_of_ble_eq_true rfl, Nat.le_of_ble_eq_true rfl⟩, rfl, rfl, Nat.zero_le _, Nat.zero_le _⟩ 0 0 3 rfl rfl rfl rfl hl.1 rfl (Nat.le_of_ble_eq_true rfl) [3] [0, 1, 2] [wV cy b q p x e cr t0 ab be rb rn ru, wI cy q S M sk sc mk ms mp, wF cy (q 6) (q 7) 20 5 r1 f1] 4 (by decide +kernel) rfl rfl rfl dX7_tell_43 (fun z_4 _ H_ lo_ hw_ W_ => ?_)
    replace hw_ : (z_4 = if z_3 = 0 then -1 else (bstZ (tellK (okS f1 (mk i) i r1) (mk i)) tellE 10 (186)).1) := hw_
    have f43_v := hw_
    clear hw_
    exact hret _ _ _ _ z_4 (rb, rn, ru) dX7_tell_46 (by (try dsimp only) <;> (exact Or.inl ⟨by omega, by rw [f43_v, f40_v], rfl, rfl, rfl⟩)) W_
  · refine lv_aload_n F_.1 F_.2.1 dX7_tell_11 rfl (lv_at hl 0 rfl) ?_
    refine z_bipush F_ (by decide) dX7_tell_12 ?_
    refine z_callVi F_ K_ W_ [.int (zi (-2))] (c_X7_refuse l_ D cy b q p x e cr t0 ab be rb rn ru (-2) (by first | omega | assumption)) 1 rfl gX7_tell_X7_refuse rfl (by decide +kernel) ⟨⟨Nat.le_of_ble_eq_true rfl, Nat.le_of_ble_eq_true rfl⟩, rfl, rfl, Nat.zero_le _, Nat.zero_le _⟩ 0 0 6 rfl rfl rfl rfl hl.1 rfl (Nat.le_of_ble_eq_true rfl) [0] [1, 2, 3] [wI cy q S M sk sc mk ms mp, wF cy (q 6) (q 7) 20 5 r1 f1, wQ cy t0 t1 te] (fun (u_ : (Int) × (Int) × (Int)) => [wV cy b q p x e cr t0 ab be u_.1 u_.2.1 u_.2.2, wI cy q S M sk sc mk ms mp, wF cy (q 6) (q 7) 20 5 r1 f1, wQ cy t0 t1 te]) 4 (by decide +kernel) rfl rfl rfl (fun _ => rfl) (fun _ => rfl) (fun _ => rfl) dX7_tell_14 (fun z_5 u_ H_ lo_ hw_ W_ => ?_)
    obtain ⟨rb2_6, rn2_7, ru2_8⟩ := u_
    have W_ : WD D A_ s_.heap ([wV cy b q p x e cr t0 ab be rb2_6 rn2_7 ru2_8, wI cy q S M sk sc mk ms mp, wF cy (q 6) (q 7) 20 5 r1 f1, wQ cy t0 t1 te]) H_ lo_ := W_
    replace hw_ : (z_5 = (-2)) ∧ (((-2) = -2 ∧ rb2_6 = rb + 1 ∧ rn2_7 = rn ∧ ru2_8 = ru) ∨ ((-2) = -3 ∧ rb2_6 = rb ∧ rn2_7 = rn + 1 ∧ ru2_8 = ru) ∨ (¬ (-2) = -2 ∧ ¬ (-2) = -3 ∧ rb2_6 = rb ∧ rn2_7 = rn ∧ ru2_8 = ru + 1)) := hw_
    obtain ⟨f14_v, f14_k⟩ := hw_
    exact hret _ _ _ _ z_5 (rb2_6, rn2_7, ru2_8) dX7_tell_17 (by (try dsimp only) <;> (refine Or.inr (⟨?_, ?_, ?_, ?_, ?_⟩) <;> (first | omega | rfl | assumption))) W_
abbrev rX7_forget : Room := { frames := 1, cells := 0, slots := 0, locals := 21 }
set_option maxHeartbeats 1000000 in
set_option maxRecDepth 100000 in
theorem c_X7_forget (l_ : Launch) (D : va_G) (cy : Nat → ClassId) (b : Nat → Nat) (q : Nat → Nat) (p : Nat → Nat) (x : Nat → Nat) (e : Nat → Nat) (cr : Nat → Nat) (t0 : Nat) (ab : Int) (be : Int) (rb : Int) (rn : Int) (ru : Int) (S : Int) (M : Int) (sk : Int → Int) (sc : Int → Int) (mk : Int → Int) (ms : Int → Int) (mp : Int → Int) (r1 : Int) (f1 : Int → Int) (r2 : Int) (f2 : Int → Int) (r3 : Int) (f3 : Int → Int) (w : Int) (bS : 0 ≤ S ∧ S ≤ 3) (bM : 0 ≤ M ∧ M ≤ 8) (bsk : ∀ j : Int, 0 ≤ sk j ∧ sk j ≤ 5) (bsc : ∀ j : Int, 0 ≤ sc j ∧ sc j ≤ 99) (bmk : ∀ j : Int, 0 ≤ mk j ∧ mk j ≤ 5) (bms : ∀ j : Int, 0 ≤ ms j ∧ ms j ≤ 9) (bmp : ∀ j : Int, (-1) ≤ mp j ∧ mp j ≤ 2) (bf1 : ∀ j : Int, (-1) ≤ f1 j ∧ f1 j ≤ 99) (bf2 : ∀ j : Int, (-1) ≤ f2 j ∧ f2 j ≤ 99) (bf3 : ∀ j : Int, (-1) ≤ f3 j ∧ f3 j ≤ 99) (rw : -2147483648 ≤ w ∧ w < 2147483648) : CTi l_ D cy yX7_forget wsX7_forget rX7_forget [.ref (b 0), .int (zi w)] ([wV cy b q p x e cr t0 ab be rb rn ru, wI cy q S M sk sc mk ms mp, wF cy (q 6) (q 7) 20 5 r1 f1, wF cy (q 8) (q 9) 24 6 r2 f2, wF cy (q 10) (q 11) 24 6 r3 f3]) (fun (z : Int) (u : (Int) × (Int) × (Int) × (Int) × (Int) × (Int)) => ((w = 0 ∧ z = r1 ∧ u.2.2.2.1 = 0 ∧ u.2.2.2.2.1 = r2 ∧ u.2.2.2.2.2 = r3 ∧ u.1 = rb ∧ u.2.1 = rn ∧ u.2.2.1 = ru) ∨ (w = 1 ∧ z = r2 ∧ u.2.2.2.1 = r1 ∧ u.2.2.2.2.1 = 0 ∧ u.2.2.2.2.2 = r3 ∧ u.1 = rb ∧ u.2.1 = rn ∧ u.2.2.1 = ru) ∨ (w = 2 ∧ z = r3 ∧ u.2.2.2.1 = r1 ∧ u.2.2.2.2.1 = r2 ∧ u.2.2.2.2.2 = 0 ∧ u.1 = rb ∧ u.2.1 = rn ∧ u.2.2.1 = ru) ∨ (¬ (0 ≤ w ∧ w ≤ 2) ∧ z = -2 ∧ u.2.2.2.1 = r1 ∧ u.2.2.2.2.1 = r2 ∧ u.2.2.2.2.2 = r3 ∧ u.1 = rb + 1 ∧ u.2.1 = rn ∧ u.2.2.1 = ru))) (fun (u : (Int) × (Int) × (Int) × (Int) × (Int) × (Int)) => [wV cy b q p x e cr t0 ab be u.1 u.2.1 u.2.2.1, wI cy q S M sk sc mk ms mp, wF cy (q 6) (q 7) 20 5 u.2.2.2.1 f1, wF cy (q 8) (q 9) 24 6 u.2.2.2.2.1 f2, wF cy (q 10) (q 11) 24 6 u.2.2.2.2.2 f3]) := by
  refine CTi.of RX7 cX7_forget 2 rfl (by decide) rfl (fun z u hz => rfl) (Nat.le_of_ble_eq_true rfl) ?_
  intro p_ e_ s_ m_ ar_ be_ me_ c_ Q_ A_ ls_ F_ K_ W_ hl hret
  have hl : lv_has ls_ 2 [(0, .ref (b 0)), (1, .int (zi w))] := hl
  obtain ⟨H_, hH_⟩ : ∃ x, x = s_.heap := ⟨_, rfl⟩
  obtain ⟨lo_, hlo_⟩ : ∃ x : List Loc, x = [] := ⟨_, rfl⟩
  have W_ : WD D A_ s_.heap ([wV cy b q p x e cr t0 ab be rb rn ru, wI cy q S M sk sc mk ms mp, wF cy (q 6) (q 7) 20 5 r1 f1, wF cy (q 8) (q 9) 24 6 r2 f2, wF cy (q 10) (q 11) 24 6 r3 f3]) H_ lo_ := by rw [hH_, hlo_]; exact W_
  rw [← hlo_]
  suffices hg_ : W p_ l_ e_ rX7_forget s_ m_ ar_ be_ me_ c_ H_ lo_ 0 0 Q_ (F0 m_ 0 ls_ []) by rw [hH_] at hg_; exact hg_
  clear hH_ hlo_
  have hinX4 : ∀ w ∈ u_ws RX4 TX4 11, w ∈ wsX7_forget := fun w h => List.mem_cons_of_mem _ (List.mem_append_left _ (List.mem_append_right _ h))
  have hinX7 : ∀ w ∈ u_ws RX7 TX7 13, w ∈ wsX7_forget := fun w h => List.mem_cons_of_mem _ (List.mem_append_left _ (List.mem_append_left _ (List.mem_append_right _ h)))
  refine lv_iload_n F_.1 F_.2.1 dX7_forget_0 rfl (lv_at hl 1 rfl) ?_
  rcases (show w = 0 ∨ w = 1 ∨ w = 2 ∨ (w < 0 ∨ 2 < w) by omega) with c1 | c1 | c1 | c1
  · refine z_tabIn (tgt := 28) F_ 0 c1 ⟨by omega, by decide, by decide⟩ dX7_forget_1 rfl (by decide) ?_
    refine lv_aload_n F_.1 F_.2.1 dX7_forget_28 rfl (lv_at hl 0 rfl) ?_
    refine z_get F_ K_ W_ 0 0 0 rfl rfl rfl (C := RX7) (T := TX7) (N := 13) rfl (by decide) hinX7 (List.mem_of_getElem? (i := 1) rfl) dX7_forget_29 ?_
    refine z_get F_ K_ W_ 1 0 7 rfl rfl rfl (C := RX4) (T := TX4) (N := 11) rfl (by decide) hinX4 (List.mem_of_getElem? (i := 2) rfl) dX7_forget_32 ?_
    refine z_callVi F_ K_ W_ [] (c_X2_empty l_ D cy (q 6) (q 7) 20 5 r1 f1 bf1) 0 rfl gX7_forget_X2_empty rfl (by decide +kernel) ⟨⟨Nat.le_of_ble_eq_true rfl, Nat.le_of_ble_eq_true rfl⟩, rfl, rfl, Nat.zero_le _, Nat.zero_le _⟩ 0 0 2 rfl rfl rfl rfl hl.1 rfl (Nat.le_of_ble_eq_true rfl) [2] [0, 1, 3, 4] [wV cy b q p x e cr t0 ab be rb rn ru, wI cy q S M sk sc mk ms mp, wF cy (q 8) (q 9) 24 6 r2 f2, wF cy (q 10) (q 11) 24 6 r3 f3] (fun (u_ : Unit) => [wV cy b q p x e cr t0 ab be rb rn ru, wI cy q S M sk sc mk ms mp, wF cy (q 6) (q 7) 20 5 0 f1, wF cy (q 8) (q 9) 24 6 r2 f2, wF cy (q 10) (q 11) 24 6 r3 f3]) 5 (by decide +kernel) rfl rfl rfl (fun _ => rfl) (fun _ => rfl) (fun _ => rfl) dX7_forget_35 (fun z_1 u_ H_ lo_ hw_ W_ => ?_)
    have W_ : WD D A_ s_.heap ([wV cy b q p x e cr t0 ab be rb rn ru, wI cy q S M sk sc mk ms mp, wF cy (q 6) (q 7) 20 5 0 f1, wF cy (q 8) (q 9) 24 6 r2 f2, wF cy (q 10) (q 11) 24 6 r3 f3]) H_ lo_ := W_
    replace hw_ : (z_1 = r1) := hw_
    have f35_v := hw_
    clear hw_
    exact hret _ _ _ _ z_1 (rb, rn, ru, 0, r2, r3) dX7_forget_38 (by (try dsimp only) <;> (first | (refine Or.inl (⟨?_, ?_, ?_, ?_, ?_, ?_, ?_, ?_⟩) <;> (first | omega | rfl | assumption)) | (refine Or.inr (Or.inl (⟨?_, ?_, ?_, ?_, ?_, ?_, ?_, ?_⟩)) <;> (first | omega | rfl | assumption)) | (refine Or.inr (Or.inr (Or.inl (⟨?_, ?_, ?_, ?_, ?_, ?_, ?_, ?_⟩))) <;> (first | omega | rfl | assumption)) | (refine Or.inr (Or.inr (Or.inr (⟨?_, ?_, ?_, ?_, ?_, ?_, ?_, ?_⟩))) <;> (first | omega | rfl | assumption)))) W_
  · refine z_tabIn (tgt := 39) F_ 1 c1 ⟨by omega, by decide, by decide⟩ dX7_forget_1 rfl (by decide) ?_
    refine lv_aload_n F_.1 F_.2.1 dX7_forget_39 rfl (lv_at hl 0 rfl) ?_
    refine z_get F_ K_ W_ 0 0 0 rfl rfl rfl (C := RX7) (T := TX7) (N := 13) rfl (by decide) hinX7 (List.mem_of_getElem? (i := 1) rfl) dX7_forget_40 ?_
    refine z_get F_ K_ W_ 1 0 8 rfl rfl rfl (C := RX4) (T := TX4) (N := 11) rfl (by decide) hinX4 (List.mem_of_getElem? (i := 3) rfl) dX7_forget_43 ?_
    refine z_callVi F_ K_ W_ [] (c_X2_empty l_ D cy (q 8) (q 9) 24 6 r2 f2 bf2) 0 rfl gX7_forget_X2_empty rfl (by decide +kernel) ⟨⟨Nat.le_of_ble_eq_true rfl, Nat.le_of_ble_eq_true rfl⟩, rfl, rfl, Nat.zero_le _, Nat.zero_le _⟩ 0 0 2 rfl rfl rfl rfl hl.1 rfl (Nat.le_of_ble_eq_true rfl) [3] [0, 1, 2, 4] [wV cy b q p x e cr t0 ab be rb rn ru, wI cy q S M sk sc mk ms mp, wF cy (q 6) (q 7) 20 5 r1 f1, wF cy (q 10) (q 11) 24 6 r3 f3] (fun (u_ : Unit) => [wV cy b q p x e cr t0 ab be rb rn ru, wI cy q S M sk sc mk ms mp, wF cy (q 6) (q 7) 20 5 r1 f1, wF cy (q 8) (q 9) 24 6 0 f2, wF cy (q 10) (q 11) 24 6 r3 f3]) 5 (by decide +kernel) rfl rfl rfl (fun _ => rfl) (fun _ => rfl) (fun _ => rfl) dX7_forget_46 (fun z_2 u_ H_ lo_ hw_ W_ => ?_)
    have W_ : WD D A_ s_.heap ([wV cy b q p x e cr t0 ab be rb rn ru, wI cy q S M sk sc mk ms mp, wF cy (q 6) (q 7) 20 5 r1 f1, wF cy (q 8) (q 9) 24 6 0 f2, wF cy (q 10) (q 11) 24 6 r3 f3]) H_ lo_ := W_
    replace hw_ : (z_2 = r2) := hw_
    have f46_v := hw_
    clear hw_
    exact hret _ _ _ _ z_2 (rb, rn, ru, r1, 0, r3) dX7_forget_49 (by (try dsimp only) <;> (first | (refine Or.inl (⟨?_, ?_, ?_, ?_, ?_, ?_, ?_, ?_⟩) <;> (first | omega | rfl | assumption)) | (refine Or.inr (Or.inl (⟨?_, ?_, ?_, ?_, ?_, ?_, ?_, ?_⟩)) <;> (first | omega | rfl | assumption)) | (refine Or.inr (Or.inr (Or.inl (⟨?_, ?_, ?_, ?_, ?_, ?_, ?_, ?_⟩))) <;> (first | omega | rfl | assumption)) | (refine Or.inr (Or.inr (Or.inr (⟨?_, ?_, ?_, ?_, ?_, ?_, ?_, ?_⟩))) <;> (first | omega | rfl | assumption)))) W_
  · refine z_tabIn (tgt := 50) F_ 2 c1 ⟨by omega, by decide, by decide⟩ dX7_forget_1 rfl (by decide) ?_
    refine lv_aload_n F_.1 F_.2.1 dX7_forget_50 rfl (lv_at hl 0 rfl) ?_
    refine z_get F_ K_ W_ 0 0 0 rfl rfl rfl (C := RX7) (T := TX7) (N := 13) rfl (by decide) hinX7 (List.mem_of_getElem? (i := 1) rfl) dX7_forget_51 ?_
    refine z_get F_ K_ W_ 1 0 9 rfl rfl rfl (C := RX4) (T := TX4) (N := 11) rfl (by decide) hinX4 (List.mem_of_getElem? (i := 4) rfl) dX7_forget_54 ?_
    refine z_callVi F_ K_ W_ [] (c_X2_empty l_ D cy (q 10) (q 11) 24 6 r3 f3 bf3) 0 rfl gX7_forget_X2_empty rfl (by decide +kernel) ⟨⟨Nat.le_of_ble_eq_true rfl, Nat.le_of_ble_eq_true rfl⟩, rfl, rfl, Nat.zero_le _, Nat.zero_le _⟩ 0 0 2 rfl rfl rfl rfl hl.1 rfl (Nat.le_of_ble_eq_true rfl) [4] [0, 1, 2, 3] [wV cy b q p x e cr t0 ab be rb rn ru, wI cy q S M sk sc mk ms mp, wF cy (q 6) (q 7) 20 5 r1 f1, wF cy (q 8) (q 9) 24 6 r2 f2] (fun (u_ : Unit) => [wV cy b q p x e cr t0 ab be rb rn ru, wI cy q S M sk sc mk ms mp, wF cy (q 6) (q 7) 20 5 r1 f1, wF cy (q 8) (q 9) 24 6 r2 f2, wF cy (q 10) (q 11) 24 6 0 f3]) 5 (by decide +kernel) rfl rfl rfl (fun _ => rfl) (fun _ => rfl) (fun _ => rfl) dX7_forget_57 (fun z_3 u_ H_ lo_ hw_ W_ => ?_)
    have W_ : WD D A_ s_.heap ([wV cy b q p x e cr t0 ab be rb rn ru, wI cy q S M sk sc mk ms mp, wF cy (q 6) (q 7) 20 5 r1 f1, wF cy (q 8) (q 9) 24 6 r2 f2, wF cy (q 10) (q 11) 24 6 0 f3]) H_ lo_ := W_
    replace hw_ : (z_3 = r3) := hw_
    have f57_v := hw_
    clear hw_
    exact hret _ _ _ _ z_3 (rb, rn, ru, r1, r2, 0) dX7_forget_60 (by (try dsimp only) <;> (first | (refine Or.inl (⟨?_, ?_, ?_, ?_, ?_, ?_, ?_, ?_⟩) <;> (first | omega | rfl | assumption)) | (refine Or.inr (Or.inl (⟨?_, ?_, ?_, ?_, ?_, ?_, ?_, ?_⟩)) <;> (first | omega | rfl | assumption)) | (refine Or.inr (Or.inr (Or.inl (⟨?_, ?_, ?_, ?_, ?_, ?_, ?_, ?_⟩))) <;> (first | omega | rfl | assumption)) | (refine Or.inr (Or.inr (Or.inr (⟨?_, ?_, ?_, ?_, ?_, ?_, ?_, ?_⟩))) <;> (first | omega | rfl | assumption)))) W_
  · refine z_tabOut (tgt := 61) F_ ⟨by omega, c1⟩ dX7_forget_1 (by decide) ?_
    refine lv_aload_n F_.1 F_.2.1 dX7_forget_61 rfl (lv_at hl 0 rfl) ?_
    refine z_bipush F_ (by decide) dX7_forget_62 ?_
    refine z_callVi F_ K_ W_ [.int (zi (-2))] (c_X7_refuse l_ D cy b q p x e cr t0 ab be rb rn ru (-2) (by first | omega | assumption)) 1 rfl gX7_forget_X7_refuse rfl (by decide +kernel) ⟨⟨Nat.le_of_ble_eq_true rfl, Nat.le_of_ble_eq_true rfl⟩, rfl, rfl, Nat.zero_le _, Nat.zero_le _⟩ 0 0 6 rfl rfl rfl rfl hl.1 rfl (Nat.le_of_ble_eq_true rfl) [0] [1, 2, 3, 4] [wI cy q S M sk sc mk ms mp, wF cy (q 6) (q 7) 20 5 r1 f1, wF cy (q 8) (q 9) 24 6 r2 f2, wF cy (q 10) (q 11) 24 6 r3 f3] (fun (u_ : (Int) × (Int) × (Int)) => [wV cy b q p x e cr t0 ab be u_.1 u_.2.1 u_.2.2, wI cy q S M sk sc mk ms mp, wF cy (q 6) (q 7) 20 5 r1 f1, wF cy (q 8) (q 9) 24 6 r2 f2, wF cy (q 10) (q 11) 24 6 r3 f3]) 5 (by decide +kernel) rfl rfl rfl (fun _ => rfl) (fun _ => rfl) (fun _ => rfl) dX7_forget_64 (fun z_4 u_ H_ lo_ hw_ W_ => ?_)
    obtain ⟨rb2_5, rn2_6, ru2_7⟩ := u_
    have W_ : WD D A_ s_.heap ([wV cy b q p x e cr t0 ab be rb2_5 rn2_6 ru2_7, wI cy q S M sk sc mk ms mp, wF cy (q 6) (q 7) 20 5 r1 f1, wF cy (q 8) (q 9) 24 6 r2 f2, wF cy (q 10) (q 11) 24 6 r3 f3]) H_ lo_ := W_
    replace hw_ : (z_4 = (-2)) ∧ (((-2) = -2 ∧ rb2_5 = rb + 1 ∧ rn2_6 = rn ∧ ru2_7 = ru) ∨ ((-2) = -3 ∧ rb2_5 = rb ∧ rn2_6 = rn + 1 ∧ ru2_7 = ru) ∨ (¬ (-2) = -2 ∧ ¬ (-2) = -3 ∧ rb2_5 = rb ∧ rn2_6 = rn ∧ ru2_7 = ru + 1)) := hw_
    obtain ⟨f64_v, f64_k⟩ := hw_
    exact hret _ _ _ _ z_4 (rb2_5, rn2_6, ru2_7, r1, r2, r3) dX7_forget_67 (by (try dsimp only) <;> (first | (refine Or.inl (⟨?_, ?_, ?_, ?_, ?_, ?_, ?_, ?_⟩) <;> (first | omega | rfl | assumption)) | (refine Or.inr (Or.inl (⟨?_, ?_, ?_, ?_, ?_, ?_, ?_, ?_⟩)) <;> (first | omega | rfl | assumption)) | (refine Or.inr (Or.inr (Or.inl (⟨?_, ?_, ?_, ?_, ?_, ?_, ?_, ?_⟩))) <;> (first | omega | rfl | assumption)) | (refine Or.inr (Or.inr (Or.inr (⟨?_, ?_, ?_, ?_, ?_, ?_, ?_, ?_⟩))) <;> (first | omega | rfl | assumption)))) W_
abbrev rX7_is : Room := { frames := 3, cells := 0, slots := 0, locals := 72 }
set_option maxHeartbeats 1000000 in
set_option maxRecDepth 100000 in
theorem c_X7_is (l_ : Launch) (D : va_G) (cy : Nat → ClassId) (b : Nat → Nat) (q : Nat → Nat) (p : Nat → Nat) (x : Nat → Nat) (e : Nat → Nat) (cr : Nat → Nat) (t0 : Nat) (ab : Int) (be : Int) (rb : Int) (rn : Int) (ru : Int) (S : Int) (M : Int) (sk : Int → Int) (sc : Int → Int) (mk : Int → Int) (ms : Int → Int) (mp : Int → Int) (r2 : Int) (f2 : Int → Int) (t1 : Nat) (te : Int → Int) (h : Int) (bS : 0 ≤ S ∧ S ≤ 3) (bM : 0 ≤ M ∧ M ≤ 8) (bsk : ∀ j : Int, 0 ≤ sk j ∧ sk j ≤ 5) (bsc : ∀ j : Int, 0 ≤ sc j ∧ sc j ≤ 99) (bmk : ∀ j : Int, 0 ≤ mk j ∧ mk j ≤ 5) (bms : ∀ j : Int, 0 ≤ ms j ∧ ms j ≤ 9) (bmp : ∀ j : Int, (-1) ≤ mp j ∧ mp j ≤ 2) (bf2 : ∀ j : Int, (-1) ≤ f2 j ∧ f2 j ≤ 99) (bte : ∀ j : Int, 0 ≤ te j ∧ te j ≤ 300) (rh : -2147483648 ≤ h ∧ h < 2147483648) (hr : 0 ≤ r2 ∧ r2 ≤ 6) (hrow : ∀ k, 0 ≤ k → k < r2 → 1 ≤ f2 (4 * k + 1) ∧ f2 (4 * k + 1) ≤ 30 ∧ 0 ≤ f2 (4 * k + 2) ∧ f2 (4 * k + 2) ≤ 8) : CTi l_ D cy yX7_is wsX7_is rX7_is [.ref (b 0), .int (zi h)] ([wV cy b q p x e cr t0 ab be rb rn ru, wI cy q S M sk sc mk ms mp, wF cy (q 8) (q 9) 24 6 r2 f2, wQ cy t0 t1 te]) (fun (z : Int) (u : (Int) × (Int) × (Int)) => (((0 ≤ h ∧ h < S) ∧ z = (kbZ f2 1 h r2 6) ∧ u.1 = rb ∧ u.2.1 = rn ∧ u.2.2 = ru) ∨ (¬ (0 ≤ h ∧ h < S) ∧ z = -2 ∧ u.1 = rb + 1 ∧ u.2.1 = rn ∧ u.2.2 = ru))) (fun (u : (Int) × (Int) × (Int)) => [wV cy b q p x e cr t0 ab be u.1 u.2.1 u.2.2, wI cy q S M sk sc mk ms mp, wF cy (q 8) (q 9) 24 6 r2 f2, wQ cy t0 t1 te]) := by
  refine CTi.of RX7 cX7_is 2 rfl (by decide) rfl (fun z u hz => rfl) (Nat.le_of_ble_eq_true rfl) ?_
  intro p_ e_ s_ m_ ar_ be_ me_ c_ Q_ A_ ls_ F_ K_ W_ hl hret
  have hl : lv_has ls_ 2 [(0, .ref (b 0)), (1, .int (zi h))] := hl
  obtain ⟨H_, hH_⟩ : ∃ x, x = s_.heap := ⟨_, rfl⟩
  obtain ⟨lo_, hlo_⟩ : ∃ x : List Loc, x = [] := ⟨_, rfl⟩
  have W_ : WD D A_ s_.heap ([wV cy b q p x e cr t0 ab be rb rn ru, wI cy q S M sk sc mk ms mp, wF cy (q 8) (q 9) 24 6 r2 f2, wQ cy t0 t1 te]) H_ lo_ := by rw [hH_, hlo_]; exact W_
  rw [← hlo_]
  suffices hg_ : W p_ l_ e_ rX7_is s_ m_ ar_ be_ me_ c_ H_ lo_ 0 0 Q_ (F0 m_ 0 ls_ []) by rw [hH_] at hg_; exact hg_
  clear hH_ hlo_
  have hinX7 : ∀ w ∈ u_ws RX7 TX7 13, w ∈ wsX7_is := fun w h => List.mem_cons_of_mem _ (List.mem_append_left _ (List.mem_append_left _ (List.mem_append_right _ h)))
  refine lv_aload_n F_.1 F_.2.1 dX7_is_0 rfl (lv_at hl 0 rfl) ?_
  refine z_get F_ K_ W_ 0 0 0 rfl rfl rfl (C := RX7) (T := TX7) (N := 13) rfl (by decide) hinX7 (List.mem_of_getElem? (i := 1) rfl) dX7_is_1 ?_
  refine lv_iload_n F_.1 F_.2.1 dX7_is_4 rfl (lv_at hl 1 rfl) ?_
  refine z_callVip F_ K_ W_ [.int (zi h)] (c_X4_hasShip l_ D cy q S M sk sc mk ms mp h (by omega) (by omega) bsk bsc bmk bms bmp (by first | omega | assumption)) 1 rfl gX7_is_X4_hasShip rfl (by decide +kernel) ⟨⟨Nat.le_of_ble_eq_true rfl, Nat.le_of_ble_eq_true rfl⟩, rfl, rfl, Nat.zero_le _, Nat.zero_le _⟩ 0 0 4 rfl rfl rfl rfl hl.1 rfl (Nat.le_of_ble_eq_true rfl) [1] [0, 2, 3] [wV cy b q p x e cr t0 ab be rb rn ru, wF cy (q 8) (q 9) 24 6 r2 f2, wQ cy t0 t1 te] 4 (by decide +kernel) rfl rfl rfl dX7_is_5 (fun z_1 _ H_ lo_ hw_ W_ => ?_)
  replace hw_ : ((z_1 = 1 ∧ (0 ≤ h ∧ h < S)) ∨ (z_1 = 0 ∧ ¬ (0 ≤ h ∧ h < S))) := hw_
  have f5_v := hw_
  clear hw_
  refine z_if_eq (tgt := 26) F_ (by omega) dX7_is_8 (by decide) (fun c8 => ?_) (fun c8 => ?_)
  · refine lv_aload_n F_.1 F_.2.1 dX7_is_26 rfl (lv_at hl 0 rfl) ?_
    refine z_bipush F_ (by decide) dX7_is_27 ?_
    refine z_callVi F_ K_ W_ [.int (zi (-2))] (c_X7_refuse l_ D cy b q p x e cr t0 ab be rb rn ru (-2) (by first | omega | assumption)) 1 rfl gX7_is_X7_refuse rfl (by decide +kernel) ⟨⟨Nat.le_of_ble_eq_true rfl, Nat.le_of_ble_eq_true rfl⟩, rfl, rfl, Nat.zero_le _, Nat.zero_le _⟩ 0 0 6 rfl rfl rfl rfl hl.1 rfl (Nat.le_of_ble_eq_true rfl) [0] [1, 2, 3] [wI cy q S M sk sc mk ms mp, wF cy (q 8) (q 9) 24 6 r2 f2, wQ cy t0 t1 te] (fun (u_ : (Int) × (Int) × (Int)) => [wV cy b q p x e cr t0 ab be u_.1 u_.2.1 u_.2.2, wI cy q S M sk sc mk ms mp, wF cy (q 8) (q 9) 24 6 r2 f2, wQ cy t0 t1 te]) 4 (by decide +kernel) rfl rfl rfl (fun _ => rfl) (fun _ => rfl) (fun _ => rfl) dX7_is_29 (fun z_2 u_ H_ lo_ hw_ W_ => ?_)
    obtain ⟨rb2_3, rn2_4, ru2_5⟩ := u_
    have W_ : WD D A_ s_.heap ([wV cy b q p x e cr t0 ab be rb2_3 rn2_4 ru2_5, wI cy q S M sk sc mk ms mp, wF cy (q 8) (q 9) 24 6 r2 f2, wQ cy t0 t1 te]) H_ lo_ := W_
    replace hw_ : (z_2 = (-2)) ∧ (((-2) = -2 ∧ rb2_3 = rb + 1 ∧ rn2_4 = rn ∧ ru2_5 = ru) ∨ ((-2) = -3 ∧ rb2_3 = rb ∧ rn2_4 = rn + 1 ∧ ru2_5 = ru) ∨ (¬ (-2) = -2 ∧ ¬ (-2) = -3 ∧ rb2_3 = rb ∧ rn2_4 = rn ∧ ru2_5 = ru + 1)) := hw_
    obtain ⟨f29_v, f29_k⟩ := hw_
    exact hret _ _ _ _ z_2 (rb2_3, rn2_4, ru2_5) dX7_is_32 (by (try dsimp only) <;> (first | (refine Or.inl (⟨?_, ?_, ?_, ?_, ?_⟩) <;> (first | omega | rfl | assumption)) | (refine Or.inr (⟨?_, ?_, ?_, ?_, ?_⟩) <;> (first | omega | rfl | assumption)))) W_
  · refine lv_aload_n F_.1 F_.2.1 dX7_is_11 rfl (lv_at hl 0 rfl) ?_
    refine z_get F_ K_ W_ 0 0 7 rfl rfl rfl (C := RX7) (T := TX7) (N := 13) rfl (by decide) hinX7 (List.mem_of_getElem? (i := 2) rfl) dX7_is_12 ?_
    refine lv_aload_n F_.1 F_.2.1 dX7_is_15 rfl (lv_at hl 0 rfl) ?_
    refine z_get F_ K_ W_ 0 0 0 rfl rfl rfl (C := RX7) (T := TX7) (N := 13) rfl (by decide) hinX7 (List.mem_of_getElem? (i := 1) rfl) dX7_is_16 ?_
    refine lv_iload_n F_.1 F_.2.1 dX7_is_19 rfl (lv_at hl 1 rfl) ?_
    refine z_callVip F_ K_ W_ [.ref (q 0), .int (zi h)] (c_X3_shipKindsOf l_ D cy t0 t1 te q S M sk sc mk ms mp r2 f2 h bte (by omega) (by omega) bsk bsc bmk bms bmp bf2 (by first | omega | assumption) (by first | omega | assumption) (by exact hrow)) 2 rfl gX7_is_X3_shipKindsOf rfl (by decide +kernel) ⟨⟨Nat.le_of_ble_eq_true rfl, Nat.le_of_ble_eq_true rfl⟩, rfl, rfl, Nat.zero_le _, Nat.zero_le _⟩ 0 0 3 rfl rfl rfl rfl hl.1 rfl (Nat.le_of_ble_eq_true rfl) [3, 1, 2] [0] [wV cy b q p x e cr t0 ab be rb rn ru] 4 (by decide +kernel) rfl rfl rfl dX7_is_20 (fun z_6 _ H_ lo_ hw_ W_ => ?_)
    replace hw_ : (z_6 = kbZ f2 1 h r2 6) := hw_
    have f20_v := hw_
    clear hw_
    refine z_goto (tgt := 32) F_ dX7_is_23 (by decide) ?_
    exact hret _ _ _ _ z_6 (rb, rn, ru) dX7_is_32 (by (try dsimp only) <;> (first | (refine Or.inl (⟨?_, ?_, ?_, ?_, ?_⟩) <;> (first | omega | rfl | assumption)) | (refine Or.inr (⟨?_, ?_, ?_, ?_, ?_⟩) <;> (first | omega | rfl | assumption)))) W_
abbrev rX7_look : Room := { frames := 3, cells := 0, slots := 0, locals := 72 }
set_option maxHeartbeats 1000000 in
set_option maxRecDepth 100000 in
theorem c_X7_look (l_ : Launch) (D : va_G) (cy : Nat → ClassId) (b : Nat → Nat) (q : Nat → Nat) (p : Nat → Nat) (x : Nat → Nat) (e : Nat → Nat) (cr : Nat → Nat) (t0 : Nat) (ab : Int) (be : Int) (rb : Int) (rn : Int) (ru : Int) (S : Int) (M : Int) (sk : Int → Int) (sc : Int → Int) (mk : Int → Int) (ms : Int → Int) (mp : Int → Int) (r2 : Int) (f2 : Int → Int) (t1 : Nat) (te : Int → Int) (h : Int) (bS : 0 ≤ S ∧ S ≤ 3) (bM : 0 ≤ M ∧ M ≤ 8) (bsk : ∀ j : Int, 0 ≤ sk j ∧ sk j ≤ 5) (bsc : ∀ j : Int, 0 ≤ sc j ∧ sc j ≤ 99) (bmk : ∀ j : Int, 0 ≤ mk j ∧ mk j ≤ 5) (bms : ∀ j : Int, 0 ≤ ms j ∧ ms j ≤ 9) (bmp : ∀ j : Int, (-1) ≤ mp j ∧ mp j ≤ 2) (bf2 : ∀ j : Int, (-1) ≤ f2 j ∧ f2 j ≤ 99) (bte : ∀ j : Int, 0 ≤ te j ∧ te j ≤ 300) (rh : -2147483648 ≤ h ∧ h < 2147483648) (hr : 0 ≤ r2 ∧ r2 ≤ 6) (hrow : ∀ k, 0 ≤ k → k < r2 → 1 ≤ f2 (4 * k + 1) ∧ f2 (4 * k + 1) ≤ 30 ∧ 0 ≤ f2 (4 * k + 2) ∧ f2 (4 * k + 2) ≤ 8) : CTi l_ D cy yX7_look wsX7_look rX7_look [.ref (b 0), .int (zi h)] ([wV cy b q p x e cr t0 ab be rb rn ru, wI cy q S M sk sc mk ms mp, wF cy (q 8) (q 9) 24 6 r2 f2, wQ cy t0 t1 te]) (fun (z : Int) (u : (Int) × (Int) × (Int) × (Int → Int)) => (((0 ≤ h ∧ h < S) ∧ z = (if (kbZ f2 1 h r2 6) = 0 then -1 else (bstY (lookK (kbZ f2 1 h r2 6)) lookE 7 270).1) ∧ u.1 = rb ∧ u.2.1 = rn ∧ u.2.2.1 = ru) ∨ (¬ (0 ≤ h ∧ h < S) ∧ z = -2 ∧ u.1 = rb + 1 ∧ u.2.1 = rn ∧ u.2.2.1 = ru)) ∧ (∀ j : Int, 0 ≤ u.2.2.2 j ∧ u.2.2.2 j ≤ 300)) (fun (u : (Int) × (Int) × (Int) × (Int → Int)) => [wV cy b q p x e cr t0 ab be u.1 u.2.1 u.2.2.1, wI cy q S M sk sc mk ms mp, wF cy (q 8) (q 9) 24 6 r2 f2, wQ cy t0 t1 u.2.2.2]) := by
  refine CTi.of RX7 cX7_look 2 rfl (by decide) rfl (fun z u hz => rfl) (Nat.le_of_ble_eq_true rfl) ?_
  intro p_ e_ s_ m_ ar_ be_ me_ c_ Q_ A_ ls_ F_ K_ W_ hl hret
  have hl : lv_has ls_ 2 [(0, .ref (b 0)), (1, .int (zi h))] := hl
  obtain ⟨H_, hH_⟩ : ∃ x, x = s_.heap := ⟨_, rfl⟩
  obtain ⟨lo_, hlo_⟩ : ∃ x : List Loc, x = [] := ⟨_, rfl⟩
  have W_ : WD D A_ s_.heap ([wV cy b q p x e cr t0 ab be rb rn ru, wI cy q S M sk sc mk ms mp, wF cy (q 8) (q 9) 24 6 r2 f2, wQ cy t0 t1 te]) H_ lo_ := by rw [hH_, hlo_]; exact W_
  rw [← hlo_]
  suffices hg_ : W p_ l_ e_ rX7_look s_ m_ ar_ be_ me_ c_ H_ lo_ 0 0 Q_ (F0 m_ 0 ls_ []) by rw [hH_] at hg_; exact hg_
  clear hH_ hlo_
  have hinX7 : ∀ w ∈ u_ws RX7 TX7 13, w ∈ wsX7_look := fun w h => List.mem_cons_of_mem _ (List.mem_append_left _ (List.mem_append_left _ (List.mem_append_left _ (List.mem_append_right _ h))))
  refine lv_aload_n F_.1 F_.2.1 dX7_look_0 rfl (lv_at hl 0 rfl) ?_
  refine z_get F_ K_ W_ 0 0 0 rfl rfl rfl (C := RX7) (T := TX7) (N := 13) rfl (by decide) hinX7 (List.mem_of_getElem? (i := 1) rfl) dX7_look_1 ?_
  refine lv_iload_n F_.1 F_.2.1 dX7_look_4 rfl (lv_at hl 1 rfl) ?_
  refine z_callVip F_ K_ W_ [.int (zi h)] (c_X4_hasShip l_ D cy q S M sk sc mk ms mp h (by omega) (by omega) bsk bsc bmk bms bmp (by first | omega | assumption)) 1 rfl gX7_look_X4_hasShip rfl (by decide +kernel) ⟨⟨Nat.le_of_ble_eq_true rfl, Nat.le_of_ble_eq_true rfl⟩, rfl, rfl, Nat.zero_le _, Nat.zero_le _⟩ 0 0 4 rfl rfl rfl rfl hl.1 rfl (Nat.le_of_ble_eq_true rfl) [1] [0, 2, 3] [wV cy b q p x e cr t0 ab be rb rn ru, wF cy (q 8) (q 9) 24 6 r2 f2, wQ cy t0 t1 te] 4 (by decide +kernel) rfl rfl rfl dX7_look_5 (fun z_1 _ H_ lo_ hw_ W_ => ?_)
  replace hw_ : ((z_1 = 1 ∧ (0 ≤ h ∧ h < S)) ∨ (z_1 = 0 ∧ ¬ (0 ≤ h ∧ h < S))) := hw_
  have f5_v := hw_
  clear hw_
  refine z_if_eq (tgt := 33) F_ (by omega) dX7_look_8 (by decide) (fun c8 => ?_) (fun c8 => ?_)
  · refine lv_aload_n F_.1 F_.2.1 dX7_look_33 rfl (lv_at hl 0 rfl) ?_
    refine z_bipush F_ (by decide) dX7_look_34 ?_
    refine z_callVi F_ K_ W_ [.int (zi (-2))] (c_X7_refuse l_ D cy b q p x e cr t0 ab be rb rn ru (-2) (by first | omega | assumption)) 1 rfl gX7_look_X7_refuse rfl (by decide +kernel) ⟨⟨Nat.le_of_ble_eq_true rfl, Nat.le_of_ble_eq_true rfl⟩, rfl, rfl, Nat.zero_le _, Nat.zero_le _⟩ 0 0 6 rfl rfl rfl rfl hl.1 rfl (Nat.le_of_ble_eq_true rfl) [0] [1, 2, 3] [wI cy q S M sk sc mk ms mp, wF cy (q 8) (q 9) 24 6 r2 f2, wQ cy t0 t1 te] (fun (u_ : (Int) × (Int) × (Int)) => [wV cy b q p x e cr t0 ab be u_.1 u_.2.1 u_.2.2, wI cy q S M sk sc mk ms mp, wF cy (q 8) (q 9) 24 6 r2 f2, wQ cy t0 t1 te]) 4 (by decide +kernel) rfl rfl rfl (fun _ => rfl) (fun _ => rfl) (fun _ => rfl) dX7_look_36 (fun z_2 u_ H_ lo_ hw_ W_ => ?_)
    obtain ⟨rb2_3, rn2_4, ru2_5⟩ := u_
    have W_ : WD D A_ s_.heap ([wV cy b q p x e cr t0 ab be rb2_3 rn2_4 ru2_5, wI cy q S M sk sc mk ms mp, wF cy (q 8) (q 9) 24 6 r2 f2, wQ cy t0 t1 te]) H_ lo_ := W_
    replace hw_ : (z_2 = (-2)) ∧ (((-2) = -2 ∧ rb2_3 = rb + 1 ∧ rn2_4 = rn ∧ ru2_5 = ru) ∨ ((-2) = -3 ∧ rb2_3 = rb ∧ rn2_4 = rn + 1 ∧ ru2_5 = ru) ∨ (¬ (-2) = -2 ∧ ¬ (-2) = -3 ∧ rb2_3 = rb ∧ rn2_4 = rn ∧ ru2_5 = ru + 1)) := hw_
    obtain ⟨f36_v, f36_k⟩ := hw_
    exact hret _ _ _ _ z_2 (rb2_3, rn2_4, ru2_5, te) dX7_look_39 ⟨(by (try dsimp only) <;> (first | exact Or.inl ⟨by omega, by rw [f27_v, f24_v], rfl, rfl, rfl⟩ | (refine Or.inr (⟨?_, ?_, ?_, ?_, ?_⟩) <;> (first | omega | rfl | assumption)))), bte⟩ W_
  · refine lv_aload_n F_.1 F_.2.1 dX7_look_11 rfl (lv_at hl 0 rfl) ?_
    refine z_get F_ K_ W_ 0 0 7 rfl rfl rfl (C := RX7) (T := TX7) (N := 13) rfl (by decide) hinX7 (List.mem_of_getElem? (i := 2) rfl) dX7_look_12 ?_
    refine lv_aload_n F_.1 F_.2.1 dX7_look_15 rfl (lv_at hl 0 rfl) ?_
    refine z_get F_ K_ W_ 0 0 7 rfl rfl rfl (C := RX7) (T := TX7) (N := 13) rfl (by decide) hinX7 (List.mem_of_getElem? (i := 2) rfl) dX7_look_16 ?_
    refine lv_aload_n F_.1 F_.2.1 dX7_look_19 rfl (lv_at hl 0 rfl) ?_
    refine z_get F_ K_ W_ 0 0 0 rfl rfl rfl (C := RX7) (T := TX7) (N := 13) rfl (by decide) hinX7 (List.mem_of_getElem? (i := 1) rfl) dX7_look_20 ?_
    refine lv_iload_n F_.1 F_.2.1 dX7_look_23 rfl (lv_at hl 1 rfl) ?_
    refine z_callVip F_ K_ W_ [.ref (q 0), .int (zi h)] (c_X3_shipKindsOf l_ D cy t0 t1 te q S M sk sc mk ms mp r2 f2 h bte (by omega) (by omega) bsk bsc bmk bms bmp bf2 (by first | omega | assumption) (by first | omega | assumption) (by exact hrow)) 2 rfl gX7_look_X3_shipKindsOf rfl (by decide +kernel) ⟨⟨Nat.le_of_ble_eq_true rfl, Nat.le_of_ble_eq_true rfl⟩, rfl, rfl, Nat.zero_le _, Nat.zero_le _⟩ 0 0 3 rfl rfl rfl rfl hl.1 rfl (Nat.le_of_ble_eq_true rfl) [3, 1, 2] [0] [wV cy b q p x e cr t0 ab be rb rn ru] 4 (by decide +kernel) rfl rfl rfl dX7_look_24 (fun z_6 _ H_ lo_ hw_ W_ => ?_)
    replace hw_ : (z_6 = kbZ f2 1 h r2 6) := hw_
    have f24_v := hw_
    clear hw_
    have hkb := kbZ_b f2 1 h r2 (m := 6) (by omega)
    have hp6 : zpw 6 = 64 := rfl
    rw [← f24_v] at hkb
    refine z_callVi F_ K_ W_ [.int (zi z_6)] (c_X3_bestNote l_ D cy t0 t1 te z_6 bte (by first | omega | assumption) (by first | omega | assumption)) 1 rfl gX7_look_X3_bestNote rfl (by decide +kernel) ⟨⟨Nat.le_of_ble_eq_true rfl, Nat.le_of_ble_eq_true rfl⟩, rfl, rfl, Nat.zero_le _, Nat.zero_le _⟩ 0 0 3 rfl rfl rfl rfl hl.1 rfl (Nat.le_of_ble_eq_true rfl) [3] [0, 1, 2] [wV cy b q p x e cr t0 ab be rb rn ru, wI cy q S M sk sc mk ms mp, wF cy (q 8) (q 9) 24 6 r2 f2] (fun (u_ : (Int → Int)) => [wV cy b q p x e cr t0 ab be rb rn ru, wI cy q S M sk sc mk ms mp, wF cy (q 8) (q 9) 24 6 r2 f2, wQ cy t0 t1 u_]) 4 (by decide +kernel) rfl rfl rfl (fun _ => rfl) (fun _ => rfl) (fun _ => rfl) dX7_look_27 (fun z_7 u_ H_ lo_ hw_ W_ => ?_)
    obtain ⟨te2_8, rfl⟩ : ∃ x, x = u_ := ⟨_, rfl⟩
    have W_ : WD D A_ s_.heap ([wV cy b q p x e cr t0 ab be rb rn ru, wI cy q S M sk sc mk ms mp, wF cy (q 8) (q 9) 24 6 r2 f2, wQ cy t0 t1 te2_8]) H_ lo_ := W_
    replace hw_ : (z_7 = if z_6 = 0 then -1 else (bstY (lookK z_6) lookE 7 (270)).1) ∧ (∀ j : Int, 0 ≤ te2_8 j ∧ te2_8 j ≤ 300) := hw_
    obtain ⟨f27_v, f27_B_Q_te⟩ := hw_
    refine z_goto (tgt := 39) F_ dX7_look_30 (by decide) ?_
    exact hret _ _ _ _ z_7 (rb, rn, ru, te2_8) dX7_look_39 ⟨(by (try dsimp only) <;> (first | exact Or.inl ⟨by omega, by rw [f27_v, f24_v], rfl, rfl, rfl⟩ | (refine Or.inr (⟨?_, ?_, ?_, ?_, ?_⟩) <;> (first | omega | rfl | assumption)))), f27_B_Q_te⟩ W_
abbrev rX7_kinds : Room := { frames := 3, cells := 0, slots := 0, locals := 72 }
set_option maxHeartbeats 1000000 in
set_option maxRecDepth 100000 in
theorem c_X7_kinds (l_ : Launch) (D : va_G) (cy : Nat → ClassId) (b : Nat → Nat) (q : Nat → Nat) (p : Nat → Nat) (x : Nat → Nat) (e : Nat → Nat) (cr : Nat → Nat) (t0 : Nat) (ab : Int) (be : Int) (rb : Int) (rn : Int) (ru : Int) (S : Int) (M : Int) (sk : Int → Int) (sc : Int → Int) (mk : Int → Int) (ms : Int → Int) (mp : Int → Int) (r3 : Int) (f3 : Int → Int) (t1 : Nat) (te : Int → Int) (i : Int) (bS : 0 ≤ S ∧ S ≤ 3) (bM : 0 ≤ M ∧ M ≤ 8) (bsk : ∀ j : Int, 0 ≤ sk j ∧ sk j ≤ 5) (bsc : ∀ j : Int, 0 ≤ sc j ∧ sc j ≤ 99) (bmk : ∀ j : Int, 0 ≤ mk j ∧ mk j ≤ 5) (bms : ∀ j : Int, 0 ≤ ms j ∧ ms j ≤ 9) (bmp : ∀ j : Int, (-1) ≤ mp j ∧ mp j ≤ 2) (bf3 : ∀ j : Int, (-1) ≤ f3 j ∧ f3 j ≤ 99) (bte : ∀ j : Int, 0 ≤ te j ∧ te j ≤ 300) (ri : -2147483648 ≤ i ∧ i < 2147483648) (hr : 0 ≤ r3 ∧ r3 ≤ 6) (hrow : ∀ k, 0 ≤ k → k < r3 → 0 ≤ f3 (4 * k + 1) ∧ f3 (4 * k + 1) ≤ 9 ∧ 0 ≤ f3 (4 * k + 2)) : CTi l_ D cy yX7_kinds wsX7_kinds rX7_kinds [.ref (b 0), .int (zi i)] ([wV cy b q p x e cr t0 ab be rb rn ru, wI cy q S M sk sc mk ms mp, wF cy (q 10) (q 11) 24 6 r3 f3, wQ cy t0 t1 te]) (fun (z : Int) (u : (Int) × (Int) × (Int)) => (((0 ≤ i ∧ i < M) ∧ z = (kbZ f3 0 i r3 6) ∧ u.1 = rb ∧ u.2.1 = rn ∧ u.2.2 = ru) ∨ (¬ (0 ≤ i ∧ i < M) ∧ z = -2 ∧ u.1 = rb + 1 ∧ u.2.1 = rn ∧ u.2.2 = ru))) (fun (u : (Int) × (Int) × (Int)) => [wV cy b q p x e cr t0 ab be u.1 u.2.1 u.2.2, wI cy q S M sk sc mk ms mp, wF cy (q 10) (q 11) 24 6 r3 f3, wQ cy t0 t1 te]) := by
  refine CTi.of RX7 cX7_kinds 2 rfl (by decide) rfl (fun z u hz => rfl) (Nat.le_of_ble_eq_true rfl) ?_
  intro p_ e_ s_ m_ ar_ be_ me_ c_ Q_ A_ ls_ F_ K_ W_ hl hret
  have hl : lv_has ls_ 2 [(0, .ref (b 0)), (1, .int (zi i))] := hl
  obtain ⟨H_, hH_⟩ : ∃ x, x = s_.heap := ⟨_, rfl⟩
  obtain ⟨lo_, hlo_⟩ : ∃ x : List Loc, x = [] := ⟨_, rfl⟩
  have W_ : WD D A_ s_.heap ([wV cy b q p x e cr t0 ab be rb rn ru, wI cy q S M sk sc mk ms mp, wF cy (q 10) (q 11) 24 6 r3 f3, wQ cy t0 t1 te]) H_ lo_ := by rw [hH_, hlo_]; exact W_
  rw [← hlo_]
  suffices hg_ : W p_ l_ e_ rX7_kinds s_ m_ ar_ be_ me_ c_ H_ lo_ 0 0 Q_ (F0 m_ 0 ls_ []) by rw [hH_] at hg_; exact hg_
  clear hH_ hlo_
  have hinX7 : ∀ w ∈ u_ws RX7 TX7 13, w ∈ wsX7_kinds := fun w h => List.mem_cons_of_mem _ (List.mem_append_left _ (List.mem_append_left _ (List.mem_append_right _ h)))
  refine lv_aload_n F_.1 F_.2.1 dX7_kinds_0 rfl (lv_at hl 0 rfl) ?_
  refine z_get F_ K_ W_ 0 0 0 rfl rfl rfl (C := RX7) (T := TX7) (N := 13) rfl (by decide) hinX7 (List.mem_of_getElem? (i := 1) rfl) dX7_kinds_1 ?_
  refine lv_iload_n F_.1 F_.2.1 dX7_kinds_4 rfl (lv_at hl 1 rfl) ?_
  refine z_callVip F_ K_ W_ [.int (zi i)] (c_X4_hasMan l_ D cy q S M sk sc mk ms mp i (by omega) (by omega) bsk bsc bmk bms bmp (by first | omega | assumption)) 1 rfl gX7_kinds_X4_hasMan rfl (by decide +kernel) ⟨⟨Nat.le_of_ble_eq_true rfl, Nat.le_of_ble_eq_true rfl⟩, rfl, rfl, Nat.zero_le _, Nat.zero_le _⟩ 0 0 4 rfl rfl rfl rfl hl.1 rfl (Nat.le_of_ble_eq_true rfl) [1] [0, 2, 3] [wV cy b q p x e cr t0 ab be rb rn ru, wF cy (q 10) (q 11) 24 6 r3 f3, wQ cy t0 t1 te] 4 (by decide +kernel) rfl rfl rfl dX7_kinds_5 (fun z_1 _ H_ lo_ hw_ W_ => ?_)
  replace hw_ : ((z_1 = 1 ∧ (0 ≤ i ∧ i < M)) ∨ (z_1 = 0 ∧ ¬ (0 ≤ i ∧ i < M))) := hw_
  have f5_v := hw_
  clear hw_
  refine z_if_eq (tgt := 26) F_ (by omega) dX7_kinds_8 (by decide) (fun c8 => ?_) (fun c8 => ?_)
  · refine lv_aload_n F_.1 F_.2.1 dX7_kinds_26 rfl (lv_at hl 0 rfl) ?_
    refine z_bipush F_ (by decide) dX7_kinds_27 ?_
    refine z_callVi F_ K_ W_ [.int (zi (-2))] (c_X7_refuse l_ D cy b q p x e cr t0 ab be rb rn ru (-2) (by first | omega | assumption)) 1 rfl gX7_kinds_X7_refuse rfl (by decide +kernel) ⟨⟨Nat.le_of_ble_eq_true rfl, Nat.le_of_ble_eq_true rfl⟩, rfl, rfl, Nat.zero_le _, Nat.zero_le _⟩ 0 0 6 rfl rfl rfl rfl hl.1 rfl (Nat.le_of_ble_eq_true rfl) [0] [1, 2, 3] [wI cy q S M sk sc mk ms mp, wF cy (q 10) (q 11) 24 6 r3 f3, wQ cy t0 t1 te] (fun (u_ : (Int) × (Int) × (Int)) => [wV cy b q p x e cr t0 ab be u_.1 u_.2.1 u_.2.2, wI cy q S M sk sc mk ms mp, wF cy (q 10) (q 11) 24 6 r3 f3, wQ cy t0 t1 te]) 4 (by decide +kernel) rfl rfl rfl (fun _ => rfl) (fun _ => rfl) (fun _ => rfl) dX7_kinds_29 (fun z_2 u_ H_ lo_ hw_ W_ => ?_)
    obtain ⟨rb2_3, rn2_4, ru2_5⟩ := u_
    have W_ : WD D A_ s_.heap ([wV cy b q p x e cr t0 ab be rb2_3 rn2_4 ru2_5, wI cy q S M sk sc mk ms mp, wF cy (q 10) (q 11) 24 6 r3 f3, wQ cy t0 t1 te]) H_ lo_ := W_
    replace hw_ : (z_2 = (-2)) ∧ (((-2) = -2 ∧ rb2_3 = rb + 1 ∧ rn2_4 = rn ∧ ru2_5 = ru) ∨ ((-2) = -3 ∧ rb2_3 = rb ∧ rn2_4 = rn + 1 ∧ ru2_5 = ru) ∨ (¬ (-2) = -2 ∧ ¬ (-2) = -3 ∧ rb2_3 = rb ∧ rn2_4 = rn ∧ ru2_5 = ru + 1)) := hw_
    obtain ⟨f29_v, f29_k⟩ := hw_
    exact hret _ _ _ _ z_2 (rb2_3, rn2_4, ru2_5) dX7_kinds_32 (by (try dsimp only) <;> (first | (refine Or.inl (⟨?_, ?_, ?_, ?_, ?_⟩) <;> (first | omega | rfl | assumption)) | (refine Or.inr (⟨?_, ?_, ?_, ?_, ?_⟩) <;> (first | omega | rfl | assumption)))) W_
  · refine lv_aload_n F_.1 F_.2.1 dX7_kinds_11 rfl (lv_at hl 0 rfl) ?_
    refine z_get F_ K_ W_ 0 0 7 rfl rfl rfl (C := RX7) (T := TX7) (N := 13) rfl (by decide) hinX7 (List.mem_of_getElem? (i := 2) rfl) dX7_kinds_12 ?_
    refine lv_aload_n F_.1 F_.2.1 dX7_kinds_15 rfl (lv_at hl 0 rfl) ?_
    refine z_get F_ K_ W_ 0 0 0 rfl rfl rfl (C := RX7) (T := TX7) (N := 13) rfl (by decide) hinX7 (List.mem_of_getElem? (i := 1) rfl) dX7_kinds_16 ?_
    refine lv_iload_n F_.1 F_.2.1 dX7_kinds_19 rfl (lv_at hl 1 rfl) ?_
    refine z_callVip F_ K_ W_ [.ref (q 0), .int (zi i)] (c_X3_manKindsOf l_ D cy t0 t1 te q S M sk sc mk ms mp r3 f3 i bte (by omega) (by omega) bsk bsc bmk bms bmp bf3 (by first | omega | assumption) (by first | omega | assumption) (by exact hrow)) 2 rfl gX7_kinds_X3_manKindsOf rfl (by decide +kernel) ⟨⟨Nat.le_of_ble_eq_true rfl, Nat.le_of_ble_eq_true rfl⟩, rfl, rfl, Nat.zero_le _, Nat.zero_le _⟩ 0 0 3 rfl rfl rfl rfl hl.1 rfl (Nat.le_of_ble_eq_true rfl) [3, 1, 2] [0] [wV cy b q p x e cr t0 ab be rb rn ru] 4 (by decide +kernel) rfl rfl rfl dX7_kinds_20 (fun z_6 _ H_ lo_ hw_ W_ => ?_)
    replace hw_ : (z_6 = kbZ f3 0 i r3 6) := hw_
    have f20_v := hw_
    clear hw_
    refine z_goto (tgt := 32) F_ dX7_kinds_23 (by decide) ?_
    exact hret _ _ _ _ z_6 (rb, rn, ru) dX7_kinds_32 (by (try dsimp only) <;> (first | (refine Or.inl (⟨?_, ?_, ?_, ?_, ?_⟩) <;> (first | omega | rfl | assumption)) | (refine Or.inr (⟨?_, ?_, ?_, ?_, ?_⟩) <;> (first | omega | rfl | assumption)))) W_
abbrev rX7_ask : Room := { frames := 3, cells := 0, slots := 0, locals := 72 }
set_option maxHeartbeats 1000000 in
set_option maxRecDepth 100000 in
theorem c_X7_ask (l_ : Launch) (D : va_G) (cy : Nat → ClassId) (b : Nat → Nat) (q : Nat → Nat) (p : Nat → Nat) (x : Nat → Nat) (e : Nat → Nat) (cr : Nat → Nat) (t0 : Nat) (ab : Int) (be : Int) (rb : Int) (rn : Int) (ru : Int) (S : Int) (M : Int) (sk : Int → Int) (sc : Int → Int) (mk : Int → Int) (ms : Int → Int) (mp : Int → Int) (r3 : Int) (f3 : Int → Int) (t1 : Nat) (te : Int → Int) (i : Int) (bS : 0 ≤ S ∧ S ≤ 3) (bM : 0 ≤ M ∧ M ≤ 8) (bsk : ∀ j : Int, 0 ≤ sk j ∧ sk j ≤ 5) (bsc : ∀ j : Int, 0 ≤ sc j ∧ sc j ≤ 99) (bmk : ∀ j : Int, 0 ≤ mk j ∧ mk j ≤ 5) (bms : ∀ j : Int, 0 ≤ ms j ∧ ms j ≤ 9) (bmp : ∀ j : Int, (-1) ≤ mp j ∧ mp j ≤ 2) (bf3 : ∀ j : Int, (-1) ≤ f3 j ∧ f3 j ≤ 99) (bte : ∀ j : Int, 0 ≤ te j ∧ te j ≤ 300) (ri : -2147483648 ≤ i ∧ i < 2147483648) (hr : 0 ≤ r3 ∧ r3 ≤ 6) (hrow : ∀ k, 0 ≤ k → k < r3 → 0 ≤ f3 (4 * k + 1) ∧ f3 (4 * k + 1) ≤ 9 ∧ 0 ≤ f3 (4 * k + 2)) : CTi l_ D cy yX7_ask wsX7_ask rX7_ask [.ref (b 0), .int (zi i)] ([wV cy b q p x e cr t0 ab be rb rn ru, wI cy q S M sk sc mk ms mp, wF cy (q 10) (q 11) 24 6 r3 f3, wQ cy t0 t1 te]) (fun (z : Int) (u : (Int) × (Int) × (Int) × (Int → Int)) => (((0 ≤ i ∧ i < M) ∧ z = (if (kbZ f3 0 i r3 6) = 0 then -1 else (bstY (askK (ms i) (kbZ f3 0 i r3 6)) (fun j => j) 7 10).1) ∧ u.1 = rb ∧ u.2.1 = rn ∧ u.2.2.1 = ru) ∨ (¬ (0 ≤ i ∧ i < M) ∧ z = -2 ∧ u.1 = rb + 1 ∧ u.2.1 = rn ∧ u.2.2.1 = ru)) ∧ (∀ j : Int, 0 ≤ u.2.2.2 j ∧ u.2.2.2 j ≤ 300)) (fun (u : (Int) × (Int) × (Int) × (Int → Int)) => [wV cy b q p x e cr t0 ab be u.1 u.2.1 u.2.2.1, wI cy q S M sk sc mk ms mp, wF cy (q 10) (q 11) 24 6 r3 f3, wQ cy t0 t1 u.2.2.2]) := by
  refine CTi.of RX7 cX7_ask 2 rfl (by decide) rfl (fun z u hz => rfl) (Nat.le_of_ble_eq_true rfl) ?_
  intro p_ e_ s_ m_ ar_ be_ me_ c_ Q_ A_ ls_ F_ K_ W_ hl hret
  have hl : lv_has ls_ 2 [(0, .ref (b 0)), (1, .int (zi i))] := hl
  obtain ⟨H_, hH_⟩ : ∃ x, x = s_.heap := ⟨_, rfl⟩
  obtain ⟨lo_, hlo_⟩ : ∃ x : List Loc, x = [] := ⟨_, rfl⟩
  have W_ : WD D A_ s_.heap ([wV cy b q p x e cr t0 ab be rb rn ru, wI cy q S M sk sc mk ms mp, wF cy (q 10) (q 11) 24 6 r3 f3, wQ cy t0 t1 te]) H_ lo_ := by rw [hH_, hlo_]; exact W_
  rw [← hlo_]
  suffices hg_ : W p_ l_ e_ rX7_ask s_ m_ ar_ be_ me_ c_ H_ lo_ 0 0 Q_ (F0 m_ 0 ls_ []) by rw [hH_] at hg_; exact hg_
  clear hH_ hlo_
  have hinX4 : ∀ w ∈ u_ws RX4 TX4 11, w ∈ wsX7_ask := fun w h => List.mem_cons_of_mem _ (List.mem_append_left _ (List.mem_append_left _ (List.mem_append_right _ h)))
  have hinX7 : ∀ w ∈ u_ws RX7 TX7 13, w ∈ wsX7_ask := fun w h => List.mem_cons_of_mem _ (List.mem_append_left _ (List.mem_append_left _ (List.mem_append_left _ (List.mem_append_right _ h))))
  refine lv_aload_n F_.1 F_.2.1 dX7_ask_0 rfl (lv_at hl 0 rfl) ?_
  refine z_get F_ K_ W_ 0 0 0 rfl rfl rfl (C := RX7) (T := TX7) (N := 13) rfl (by decide) hinX7 (List.mem_of_getElem? (i := 1) rfl) dX7_ask_1 ?_
  refine lv_iload_n F_.1 F_.2.1 dX7_ask_4 rfl (lv_at hl 1 rfl) ?_
  refine z_callVip F_ K_ W_ [.int (zi i)] (c_X4_hasMan l_ D cy q S M sk sc mk ms mp i (by omega) (by omega) bsk bsc bmk bms bmp (by first | omega | assumption)) 1 rfl gX7_ask_X4_hasMan rfl (by decide +kernel) ⟨⟨Nat.le_of_ble_eq_true rfl, Nat.le_of_ble_eq_true rfl⟩, rfl, rfl, Nat.zero_le _, Nat.zero_le _⟩ 0 0 4 rfl rfl rfl rfl hl.1 rfl (Nat.le_of_ble_eq_true rfl) [1] [0, 2, 3] [wV cy b q p x e cr t0 ab be rb rn ru, wF cy (q 10) (q 11) 24 6 r3 f3, wQ cy t0 t1 te] 4 (by decide +kernel) rfl rfl rfl dX7_ask_5 (fun z_1 _ H_ lo_ hw_ W_ => ?_)
  replace hw_ : ((z_1 = 1 ∧ (0 ≤ i ∧ i < M)) ∨ (z_1 = 0 ∧ ¬ (0 ≤ i ∧ i < M))) := hw_
  have f5_v := hw_
  clear hw_
  refine z_if_ne (tgt := 18) F_ (by omega) dX7_ask_8 (by decide) (fun c8 => ?_) (fun c8 => ?_)
  · refine lv_aload_n F_.1 F_.2.1 dX7_ask_18 rfl (lv_at hl 0 rfl) ?_
    refine z_get F_ K_ W_ 0 0 7 rfl rfl rfl (C := RX7) (T := TX7) (N := 13) rfl (by decide) hinX7 (List.mem_of_getElem? (i := 2) rfl) dX7_ask_19 ?_
    refine lv_aload_n F_.1 F_.2.1 dX7_ask_22 rfl (lv_at hl 0 rfl) ?_
    refine z_get F_ K_ W_ 0 0 0 rfl rfl rfl (C := RX7) (T := TX7) (N := 13) rfl (by decide) hinX7 (List.mem_of_getElem? (i := 1) rfl) dX7_ask_23 ?_
    refine z_get F_ K_ W_ 1 0 5 rfl rfl rfl (C := RX4) (T := TX4) (N := 11) rfl (by decide) hinX4 (List.mem_of_getElem? (i := 3) rfl) dX7_ask_26 ?_
    refine lv_iload_n F_.1 F_.2.1 dX7_ask_29 rfl (lv_at hl 1 rfl) ?_
    refine z_iald F_ K_ W_ 1 4 rfl rfl (by omega) (by decide) dX7_ask_30 ?_
    have b_2 := bms i
    refine lv_aload_n F_.1 F_.2.1 dX7_ask_31 rfl (lv_at hl 0 rfl) ?_
    refine z_get F_ K_ W_ 0 0 7 rfl rfl rfl (C := RX7) (T := TX7) (N := 13) rfl (by decide) hinX7 (List.mem_of_getElem? (i := 2) rfl) dX7_ask_32 ?_
    refine lv_aload_n F_.1 F_.2.1 dX7_ask_35 rfl (lv_at hl 0 rfl) ?_
    refine z_get F_ K_ W_ 0 0 0 rfl rfl rfl (C := RX7) (T := TX7) (N := 13) rfl (by decide) hinX7 (List.mem_of_getElem? (i := 1) rfl) dX7_ask_36 ?_
    refine lv_iload_n F_.1 F_.2.1 dX7_ask_39 rfl (lv_at hl 1 rfl) ?_
    refine z_callVip F_ K_ W_ [.ref (q 0), .int (zi i)] (c_X3_manKindsOf l_ D cy t0 t1 te q S M sk sc mk ms mp r3 f3 i bte (by omega) (by omega) bsk bsc bmk bms bmp bf3 (by first | omega | assumption) (by first | omega | assumption) (by exact hrow)) 2 rfl gX7_ask_X3_manKindsOf rfl (by decide +kernel) ⟨⟨Nat.le_of_ble_eq_true rfl, Nat.le_of_ble_eq_true rfl⟩, rfl, rfl, Nat.zero_le _, Nat.zero_le _⟩ 0 0 3 rfl rfl rfl rfl hl.1 rfl (Nat.le_of_ble_eq_true rfl) [3, 1, 2] [0] [wV cy b q p x e cr t0 ab be rb rn ru] 4 (by decide +kernel) rfl rfl rfl dX7_ask_40 (fun z_3 _ H_ lo_ hw_ W_ => ?_)
    replace hw_ : (z_3 = kbZ f3 0 i r3 6) := hw_
    have f40_v := hw_
    clear hw_
    have hkb := kbZ_b f3 0 i r3 (m := 6) (by omega)
    have hp6 : zpw 6 = 64 := rfl
    rw [← f40_v] at hkb
    refine z_callVi F_ K_ W_ [.int (zi (ms i)), .int (zi z_3)] (c_X3_bestMark l_ D cy t0 t1 te (ms i) z_3 bte (by first | omega | assumption) (by first | omega | assumption) (by first | omega | assumption) (by first | omega | assumption)) 2 rfl gX7_ask_X3_bestMark rfl (by decide +kernel) ⟨⟨Nat.le_of_ble_eq_true rfl, Nat.le_of_ble_eq_true rfl⟩, rfl, rfl, Nat.zero_le _, Nat.zero_le _⟩ 0 0 3 rfl rfl rfl rfl hl.1 rfl (Nat.le_of_ble_eq_true rfl) [3] [0, 1, 2] [wV cy b q p x e cr t0 ab be rb rn ru, wI cy q S M sk sc mk ms mp, wF cy (q 10) (q 11) 24 6 r3 f3] (fun (u_ : (Int → Int)) => [wV cy b q p x e cr t0 ab be rb rn ru, wI cy q S M sk sc mk ms mp, wF cy (q 10) (q 11) 24 6 r3 f3, wQ cy t0 t1 u_]) 4 (by decide +kernel) rfl rfl rfl (fun _ => rfl) (fun _ => rfl) (fun _ => rfl) dX7_ask_43 (fun z_4 u_ H_ lo_ hw_ W_ => ?_)
    obtain ⟨te2_5, rfl⟩ : ∃ x, x = u_ := ⟨_, rfl⟩
    have W_ : WD D A_ s_.heap ([wV cy b q p x e cr t0 ab be rb rn ru, wI cy q S M sk sc mk ms mp, wF cy (q 10) (q 11) 24 6 r3 f3, wQ cy t0 t1 te2_5]) H_ lo_ := W_
    replace hw_ : (z_4 = if z_3 = 0 then -1 else (bstY (askK (ms i) z_3) (fun j => j) 7 (10)).1) ∧ (∀ j : Int, 0 ≤ te2_5 j ∧ te2_5 j ≤ 300) := hw_
    obtain ⟨f43_v, f43_B_Q_te⟩ := hw_
    exact hret _ _ _ _ z_4 (rb, rn, ru, te2_5) dX7_ask_46 ⟨(by (try dsimp only) <;> (exact Or.inl ⟨by omega, by rw [f43_v, f40_v], rfl, rfl, rfl⟩)), f43_B_Q_te⟩ W_
  · refine lv_aload_n F_.1 F_.2.1 dX7_ask_11 rfl (lv_at hl 0 rfl) ?_
    refine z_bipush F_ (by decide) dX7_ask_12 ?_
    refine z_callVi F_ K_ W_ [.int (zi (-2))] (c_X7_refuse l_ D cy b q p x e cr t0 ab be rb rn ru (-2) (by first | omega | assumption)) 1 rfl gX7_ask_X7_refuse rfl (by decide +kernel) ⟨⟨Nat.le_of_ble_eq_true rfl, Nat.le_of_ble_eq_true rfl⟩, rfl, rfl, Nat.zero_le _, Nat.zero_le _⟩ 0 0 6 rfl rfl rfl rfl hl.1 rfl (Nat.le_of_ble_eq_true rfl) [0] [1, 2, 3] [wI cy q S M sk sc mk ms mp, wF cy (q 10) (q 11) 24 6 r3 f3, wQ cy t0 t1 te] (fun (u_ : (Int) × (Int) × (Int)) => [wV cy b q p x e cr t0 ab be u_.1 u_.2.1 u_.2.2, wI cy q S M sk sc mk ms mp, wF cy (q 10) (q 11) 24 6 r3 f3, wQ cy t0 t1 te]) 4 (by decide +kernel) rfl rfl rfl (fun _ => rfl) (fun _ => rfl) (fun _ => rfl) dX7_ask_14 (fun z_6 u_ H_ lo_ hw_ W_ => ?_)
    obtain ⟨rb2_7, rn2_8, ru2_9⟩ := u_
    have W_ : WD D A_ s_.heap ([wV cy b q p x e cr t0 ab be rb2_7 rn2_8 ru2_9, wI cy q S M sk sc mk ms mp, wF cy (q 10) (q 11) 24 6 r3 f3, wQ cy t0 t1 te]) H_ lo_ := W_
    replace hw_ : (z_6 = (-2)) ∧ (((-2) = -2 ∧ rb2_7 = rb + 1 ∧ rn2_8 = rn ∧ ru2_9 = ru) ∨ ((-2) = -3 ∧ rb2_7 = rb ∧ rn2_8 = rn + 1 ∧ ru2_9 = ru) ∨ (¬ (-2) = -2 ∧ ¬ (-2) = -3 ∧ rb2_7 = rb ∧ rn2_8 = rn ∧ ru2_9 = ru + 1)) := hw_
    obtain ⟨f14_v, f14_k⟩ := hw_
    exact hret _ _ _ _ z_6 (rb2_7, rn2_8, ru2_9, te) dX7_ask_17 ⟨(by (try dsimp only) <;> (refine Or.inr (⟨?_, ?_, ?_, ?_, ?_⟩) <;> (first | omega | rfl | assumption))), bte⟩ W_
