/-! sets of men as numbers below 256 -/
def ndZ (s a : Int) : Int := ((s.toNat &&& (a.toNat ^^^ 4294967295) : Nat) : Int)
theorem zi_nd {s a : Int} (h : (0 ≤ s ∧ s < 2147483648) ∧ (0 ≤ a ∧ a < 2147483648)) : zi s &&& (zi a ^^^ zi (-1)) = zi (ndZ s a) := by
  have h1 : a.toNat < 2 ^ 32 := by omega
  have h2 : s.toNat < 2 ^ 32 := by omega
  have h3 : a.toNat ^^^ 4294967295 < 2 ^ 32 := Nat.xor_lt_two_pow h1 (by decide)
  have e : zi a ^^^ zi (-1) = nI (a.toNat ^^^ 4294967295) := by
    rw [zi_bv h.2.1, show zi (-1) = nI 4294967295 by decide +kernel]
    apply Int32.toBitVec_inj.mp
    apply BitVec.eq_of_toNat_eq
    rw [Int32.toBitVec_xor, BitVec.toNat_xor, pk_tn h1, pk_tn (show 4294967295 < 2 ^ 32 by decide), pk_tn h3]
  rw [e, zi_bv h.1.1, ndZ, zi_nat]
  apply Int32.toBitVec_inj.mp
  apply BitVec.eq_of_toNat_eq
  have h4 : s.toNat &&& (a.toNat ^^^ 4294967295) < 2 ^ 32 := Nat.lt_of_le_of_lt Nat.and_le_left h2
  rw [Int32.toBitVec_and, BitVec.toNat_and, pk_tn h2, pk_tn h3, pk_tn h4]
theorem ndZ_b {s : Int} (a : Int) (h : 0 ≤ s) : 0 ≤ ndZ s a ∧ ndZ s a ≤ s := by
  unfold ndZ
  have : s.toNat &&& (a.toNat ^^^ 4294967295) ≤ s.toNat := Nat.and_le_left
  omega
theorem and_sub : ∀ (n : Nat) {s a x : Nat}, s < 2 ^ n → a < 2 ^ n → x < 2 ^ n → a &&& s = a → x &&& s = x → x < a → x ≤ (a - 1) &&& s := by
  intro n
  induction n with
  | zero => intro s a x h1 h2 h3 h4 h5 h6; omega
  | succ n ih =>
    intro s a x h1 h2 h3 h4 h5 h6
    have d1 : a / 2 &&& s / 2 = a / 2 := by rw [← Nat.and_div_two, h4]
    have d2 : x / 2 &&& s / 2 = x / 2 := by rw [← Nat.and_div_two, h5]
    have m2 : x % 2 &&& s % 2 = x % 2 := by have := Nat.and_mod_two_pow (a := x) (b := s) (n := 1); rw [h5] at this; exact this.symm
    have m1 : x % 2 ≤ s % 2 := by rw [← m2]; exact Nat.and_le_right
    have q1 := Nat.and_div_two (a := a - 1) (b := s)
    have q2 := Nat.and_mod_two_pow (a := a - 1) (b := s) (n := 1)
    rw [show 2 ^ 1 = 2 from rfl] at q2
    rw [Nat.pow_succ] at h1 h2 h3
    rcases Nat.mod_two_eq_zero_or_one a with c | c
    · have e1 : (a - 1) / 2 = a / 2 - 1 := by omega
      have e2 : (a - 1) % 2 = 1 := by omega
      have i1 := ih (s := s / 2) (a := a / 2) (x := x / 2) (by omega) (by omega) (by omega) d1 d2 (by omega)
      rw [e1] at q1
      have e3 : ((a - 1) &&& s) % 2 = s % 2 := by
        rw [q2, e2]
        rcases Nat.mod_two_eq_zero_or_one s with w | w <;> rw [w] <;> rfl
      omega
    · have e1 : (a - 1) / 2 = a / 2 := by omega
      rw [e1, d1] at q1
      omega
/-- x is a part of s -/
def sbZ (x s : Int) : Prop := 0 ≤ x ∧ zand x s = x
theorem zand_c {x s : Int} : zand x s = zand s x := by
  unfold zand
  rw [Nat.and_comm]
theorem sbZ_le {x s : Int} (hs : 0 ≤ s) (h : sbZ x s) : x ≤ s := by
  have h1 := (zand_b (y := x) hs).2
  rw [zand_c, h.2] at h1
  exact h1
theorem sbZ_self {s : Int} (h : 0 ≤ s) : sbZ s s := by
  refine ⟨h, ?_⟩
  unfold zand
  rw [Nat.and_self]
  omega
theorem sbZ_0 (s : Int) : sbZ 0 s := ⟨by omega, by unfold zand; rw [show (0 : Int).toNat = 0 from rfl, Nat.zero_and]; rfl⟩
theorem sbZ_and {a s : Int} (ha : 0 ≤ a) : sbZ (zand a s) s := by
  refine ⟨(zand_b ha).1, ?_⟩
  unfold zand
  rw [Int.toNat_natCast, Nat.and_assoc, Nat.and_self]
theorem sbZ_nx {x a s : Int} (hs : 0 ≤ s ∧ s < 256) (ha : sbZ a s) (hx : sbZ x s) (h : x < a) : x ≤ zand (a - 1) s := by
  have la := sbZ_le hs.1 ha
  have ha2 : a.toNat &&& s.toNat = a.toNat := by have := ha.2; unfold zand at this; have := ha.1; omega
  have hx2 : x.toNat &&& s.toNat = x.toNat := by have := hx.2; unfold zand at this; have := hx.1; omega
  have h0 := ha.1
  have h1 := hx.1
  have key := and_sub 8 (s := s.toNat) (a := a.toNat) (x := x.toNat) (by omega) (by omega) (by omega) ha2 hx2 (by omega)
  unfold zand
  rw [show (a - 1).toNat = a.toNat - 1 by omega]
  omega
theorem zxor_b {a s : Int} (ha : 0 ≤ a ∧ a < 256) (hs : 0 ≤ s ∧ s < 256) : 0 ≤ zxor s a ∧ zxor s a < 256 := by
  unfold zxor
  have : s.toNat ^^^ a.toNat < 2 ^ 8 := Nat.xor_lt_two_pow (by omega) (by omega)
  omega
theorem zxor_0 {s : Int} (hs : 0 ≤ s) : zxor s 0 = s := by
  unfold zxor
  rw [show (0 : Int).toNat = 0 from rfl, Nat.xor_zero]
  omega
theorem zand_lo {x : Int} (h : 0 ≤ x ∧ x < 256) : zand x 255 = x := by
  unfold zand
  have : x.toNat &&& 2 ^ 8 - 1 = x.toNat % 2 ^ 8 := Nat.and_two_pow_sub_one_eq_mod x.toNat 8
  rw [show (255 : Int).toNat = 2 ^ 8 - 1 from rfl, this]
  omega
theorem zand_3 {x : Int} (h : 0 ≤ x) : zand x 3 = x % 4 := by
  unfold zand
  have : x.toNat &&& 2 ^ 2 - 1 = x.toNat % 2 ^ 2 := Nat.and_two_pow_sub_one_eq_mod x.toNat 2
  rw [show (3 : Int).toNat = 2 ^ 2 - 1 from rfl, this]
  omega
theorem popZ_b (x : Int) : 0 ≤ popZ x 10 ∧ popZ x 10 ≤ 10 := by
  have key : ∀ i, 0 ≤ i → i ≤ 10 → 0 ≤ popZ x i ∧ popZ x i ≤ i := by
    refine fZ_ind (P := fun i n => 0 ≤ n ∧ n ≤ i) (by omega) (M := 10) (fun i n q1 q2 e => ?_)
    have := zbt_b x i
    omega
  exact key 10 (by omega) (by omega)
theorem zxor_le {x y : Int} (hx : 0 ≤ x) (h : sbZ y x) : zxor x y ≤ x ∧ sbZ (zxor x y) x := by
  have hy2 : y.toNat &&& x.toNat = y.toNat := by have := h.2; unfold zand at this; have := h.1; omega
  have e : (x.toNat ^^^ y.toNat) &&& x.toNat = x.toNat ^^^ y.toNat := by
    apply Nat.eq_of_testBit_eq
    intro i
    have := congrArg (fun n => n.testBit i) hy2
    simp only [Nat.testBit_and, Nat.testBit_xor] at this ⊢
    revert this
    cases x.toNat.testBit i <;> cases y.toNat.testBit i <;> simp
  have q : sbZ (zxor x y) x := by
    refine ⟨by unfold zxor; omega, ?_⟩
    unfold zand zxor
    rw [Int.toNat_natCast, e]
  exact ⟨sbZ_le hx q, q⟩
def skB (ms : Int → Int) (x m : Int) : Int := fZ (fun k n => if zbt x k = 1 then n + ms k else n) 0 m
theorem skB_s (ms : Int → Int) (x : Int) {m : Int} (h : 0 ≤ m) : skB ms x (m + 1) = if zbt x m = 1 then skB ms x m + ms m else skB ms x m := fZ_s _ _ h
def onB (x m : Int) : Int := fZ (fun k n => 4 * n + zbt x k) 0 m
theorem onB_s (x : Int) {m : Int} (h : 0 ≤ m) : onB x (m + 1) = 4 * onB x m + zbt x m := fZ_s _ _ h
theorem onB_b (x : Int) : 0 ≤ onB x 8 ∧ onB x 8 ≤ 21845 := by
  have b := fun k => zbt_b x k
  have e0 := onB_s x (m := 0) (by omega)
  have e1 := onB_s x (m := 0 + 1) (by omega)
  have e2 := onB_s x (m := 0 + 1 + 1) (by omega)
  have e3 := onB_s x (m := 0 + 1 + 1 + 1) (by omega)
  have e4 := onB_s x (m := 0 + 1 + 1 + 1 + 1) (by omega)
  have e5 := onB_s x (m := 0 + 1 + 1 + 1 + 1 + 1) (by omega)
  have e6 := onB_s x (m := 0 + 1 + 1 + 1 + 1 + 1 + 1) (by omega)
  have e7 := onB_s x (m := 0 + 1 + 1 + 1 + 1 + 1 + 1 + 1) (by omega)
  have b0 := b 0
  have b1 := b (0 + 1)
  have b2 := b (0 + 1 + 1)
  have b3 := b (0 + 1 + 1 + 1)
  have b4 := b (0 + 1 + 1 + 1 + 1)
  have b5 := b (0 + 1 + 1 + 1 + 1 + 1)
  have b6 := b (0 + 1 + 1 + 1 + 1 + 1 + 1)
  have b7 := b (0 + 1 + 1 + 1 + 1 + 1 + 1 + 1)
  have z0 : onB x 0 = 0 := rfl
  rw [show (8 : Int) = 0 + 1 + 1 + 1 + 1 + 1 + 1 + 1 + 1 from rfl]
  omega
/-- what the men of the set x are worth going aboard ship h: c men with s skills in all are aboard -/
abbrev wtP (c s kd d : Int) (ms : Int → Int) (x : Int) : Prop := 0 < c + popZ x 10 ∧ needZ kd d (c + popZ x 10) ≤ s + skB ms x 8
def wthZ (c s kd d : Int) (ms : Int → Int) (h x : Int) : Int := (if wtP c s kd d ms x then 65536 else 0) - (h + 1) * onB x 8
theorem wthZ_b (c s kd d : Int) (ms : Int → Int) {h : Int} (x : Int) (hh : 0 ≤ h ∧ h ≤ 2) : -65535 ≤ wthZ c s kd d ms h x ∧ wthZ c s kd d ms h x ≤ 65536 := by
  have b := onB_b x
  unfold wthZ
  rcases (show h = 0 ∨ h = 1 ∨ h = 2 by omega) with e | e | e <;> subst e <;> split <;> omega
theorem ndZ_self {a : Int} (h : 0 ≤ a ∧ a < 256) : ndZ a a = 0 := by
  unfold ndZ
  have e : a.toNat &&& (a.toNat ^^^ 4294967295) = 0 := by
    have key : ∀ n : Nat, n < 256 → n &&& (n ^^^ 4294967295) = 0 := by decide +kernel
    exact key _ (by omega)
  rw [e]
  rfl
def spR (w b : Int → Int) (s z : Int) : Prop := (∃ x, sbZ x s ∧ z = w x + b (zxor s x)) ∧ ∀ x, sbZ x s → w x + b (zxor s x) ≤ z

abbrev rX0_skillsOfSet : Room := { frames := 0, cells := 0, slots := 0, locals := 0 }
set_option maxHeartbeats 1000000 in
set_option maxRecDepth 100000 in
theorem c_X0_skillsOfSet (l_ : Launch) (D : va_G) (cy : Nat → ClassId) (q : Nat → Nat) (S : Int) (M : Int) (sk : Int → Int) (sc : Int → Int) (mk : Int → Int) (ms : Int → Int) (mp : Int → Int) (x : Int) (bS : 0 ≤ S ∧ S ≤ 3) (bM : 0 ≤ M ∧ M ≤ 8) (bsk : ∀ j : Int, 0 ≤ sk j ∧ sk j ≤ 5) (bsc : ∀ j : Int, 0 ≤ sc j ∧ sc j ≤ 99) (bmk : ∀ j : Int, 0 ≤ mk j ∧ mk j ≤ 5) (bms : ∀ j : Int, 0 ≤ ms j ∧ ms j ≤ 9) (bmp : ∀ j : Int, (-1) ≤ mp j ∧ mp j ≤ 2) (rx : -2147483648 ≤ x ∧ x < 2147483648) (hx : 0 ≤ x ∧ x < 256) : CTi l_ D cy yX0_skillsOfSet wsX0_skillsOfSet rX0_skillsOfSet [.ref (q 0), .int (zi x)] ([wI cy q S M sk sc mk ms mp]) (fun (z : Int) (u : Unit) => (z = skB ms x 8) ∧ (0 ≤ z ∧ z ≤ 72)) (fun (_ : Unit) => [wI cy q S M sk sc mk ms mp]) := by
  refine CTi.of RX0 cX0_skillsOfSet 4 rfl (by decide) rfl (fun z u hz => rfl) (Nat.le_of_ble_eq_true rfl) ?_
  intro p_ e_ s_ m_ ar_ be_ me_ c_ Q_ A_ ls_ F_ K_ W_ hl hret
  have hl : lv_has ls_ 4 [(0, .ref (q 0)), (1, .int (zi x))] := hl
  obtain ⟨H_, hH_⟩ : ∃ x, x = s_.heap := ⟨_, rfl⟩
  obtain ⟨lo_, hlo_⟩ : ∃ x : List Loc, x = [] := ⟨_, rfl⟩
  have W_ : WD D A_ s_.heap ([wI cy q S M sk sc mk ms mp]) H_ lo_ := by rw [hH_, hlo_]; exact W_
  rw [← hlo_]
  suffices hg_ : W p_ l_ e_ rX0_skillsOfSet s_ m_ ar_ be_ me_ c_ H_ lo_ 0 0 Q_ (F0 m_ 0 ls_ []) by rw [hH_] at hg_; exact hg_
  clear hH_ hlo_
  have hinX4 : ∀ w ∈ u_ws RX4 TX4 11, w ∈ wsX0_skillsOfSet := fun w h => List.mem_cons_of_mem _ (List.mem_append_right _ h)
  refine z_iconst F_ dX0_skillsOfSet_0 ?_
  refine lv_istore_n (lv' := [(2, .int (zi 0)), (0, .ref (q 0)), (1, .int (zi x))]) F_.1 F_.2.1 dX0_skillsOfSet_1 rfl hl (by decide) rfl (fun ls_ hl => ?_)
  refine z_iconst F_ dX0_skillsOfSet_2 ?_
  refine lv_istore_n (lv' := [(3, .int (zi 0)), (2, .int (zi 0)), (0, .ref (q 0)), (1, .int (zi x))]) F_.1 F_.2.1 dX0_skillsOfSet_3 rfl hl (by decide) rfl (fun ls_ hl => ?_)
  have L4 : ∀ (n_ : Nat) (y : Int) (k : Int) (hk : 0 ≤ k ∧ k ≤ 8) (hy : y = skB ms x k) (hyb : 0 ≤ y ∧ y ≤ 9 * k) (hm_ : (8 - k : Int) < (n_ : Int)) (ls_ : Array Slot) (H_ : Heap) (lo_ : List Loc), WD D A_ s_.heap ([wI cy q S M sk sc mk ms mp]) H_ lo_ → lv_has ls_ 4 [(3, .int (zi k)), (2, .int (zi y)), (0, .ref (q 0)), (1, .int (zi x))] → W p_ l_ e_ rX0_skillsOfSet s_ m_ ar_ be_ me_ c_ H_ lo_ 0 0 Q_ (F0 m_ 4 ls_ []) := by
    intro n_
    induction n_ with
    | zero =>
      intro y k hk hy hyb hm_ ls_ H_ lo_ _ _
      exact absurd hm_ (by omega)
    | succ n_ ih_ =>
      intro y k hk hy hyb hm_ ls_ H_ lo_ W_ hl
      have ih4 := ih_
      refine lv_iload_n F_.1 F_.2.1 dX0_skillsOfSet_4 rfl (lv_at hl 0 rfl) ?_
      refine z_bipush F_ (by decide) dX0_skillsOfSet_5 ?_
      refine z_icmp_ge (tgt := 34) F_ (by omega) dX0_skillsOfSet_7 (by decide) (fun c7 => ?_) (fun c7 => ?_)
      · refine lv_iload_n F_.1 F_.2.1 dX0_skillsOfSet_34 rfl (lv_at hl 1 rfl) ?_
        exact hret _ _ _ _ y () dX0_skillsOfSet_35 ⟨(by rw [hy]; congr 1; omega), (by first | omega | assumption)⟩ W_
      · have hsh := zshr_b k hx.1
        refine lv_iload_n F_.1 F_.2.1 dX0_skillsOfSet_10 rfl (lv_at hl 3 rfl) ?_
        refine lv_iload_n F_.1 F_.2.1 dX0_skillsOfSet_11 rfl (lv_at hl 0 rfl) ?_
        refine z_ishr F_ (by omega) dX0_skillsOfSet_12 ?_
        refine z_iconst F_ dX0_skillsOfSet_13 ?_
        have hzb := zbt_b x k
        refine z_iand F_ (by omega) dX0_skillsOfSet_14 ?_
        have i_1 : zand (x / zpw k) 1 = zbt x k := by exact zand_1 hsh.1
        rw [i_1]
        refine z_iconst F_ dX0_skillsOfSet_15 ?_
        refine z_icmp_ne (tgt := 28) F_ (by omega) dX0_skillsOfSet_16 (by decide) (fun c16 => ?_) (fun c16 => ?_)
        · refine z_iinc (lv' := [(3, .int (zi (k + 1))), (2, .int (zi y)), (0, .ref (q 0)), (1, .int (zi x))]) F_ dX0_skillsOfSet_28 hl (k := 0) rfl (by decide) rfl (fun ls_ hl => ?_)
          refine z_goto (tgt := 4) F_ dX0_skillsOfSet_31 (by decide) ?_
          exact ih4 y (k + 1) (by first | omega | assumption) (by rw [skB_s _ _ hk.1, ← hy]; split <;> omega) (by first | omega | assumption) (by omega) ls_ H_ lo_ W_ (lv_sub hl [0, 1, 2, 3] rfl)
        · refine lv_iload_n F_.1 F_.2.1 dX0_skillsOfSet_19 rfl (lv_at hl 1 rfl) ?_
          refine lv_aload_n F_.1 F_.2.1 dX0_skillsOfSet_20 rfl (lv_at hl 2 rfl) ?_
          refine z_get F_ K_ W_ 0 0 5 rfl rfl rfl (C := RX4) (T := TX4) (N := 11) rfl (by decide) hinX4 (List.mem_of_getElem? (i := 1) rfl) dX0_skillsOfSet_21 ?_
          refine lv_iload_n F_.1 F_.2.1 dX0_skillsOfSet_24 rfl (lv_at hl 0 rfl) ?_
          refine z_iald F_ K_ W_ 0 4 rfl rfl (by omega) (by decide) dX0_skillsOfSet_25 ?_
          have b_2 := bms k
          refine z_iadd F_ dX0_skillsOfSet_26 ?_
          refine lv_istore_n (lv' := [(2, .int (zi (y + (ms k)))), (3, .int (zi k)), (0, .ref (q 0)), (1, .int (zi x))]) F_.1 F_.2.1 dX0_skillsOfSet_27 rfl hl (by decide) rfl (fun ls_ hl => ?_)
          refine z_iinc (lv' := [(3, .int (zi (k + 1))), (2, .int (zi (y + (ms k)))), (0, .ref (q 0)), (1, .int (zi x))]) F_ dX0_skillsOfSet_28 hl (k := 1) rfl (by decide) rfl (fun ls_ hl => ?_)
          refine z_goto (tgt := 4) F_ dX0_skillsOfSet_31 (by decide) ?_
          exact ih4 (y + (ms k)) (k + 1) (by first | omega | assumption) (by rw [skB_s _ _ hk.1, ← hy]; split <;> omega) (by first | omega | assumption) (by omega) ls_ H_ lo_ W_ (lv_sub hl [0, 1, 2, 3] rfl)
  exact L4 ((8 - 0 : Int).toNat + 1) 0 0 (by first | omega | assumption) (by rfl) (by first | omega | assumption) (by have := Int.self_le_toNat (8 - 0 : Int); omega) ls_ H_ lo_ W_ (lv_sub hl [0, 1, 2, 3] rfl)
abbrev rX0_onesOfSet : Room := { frames := 0, cells := 0, slots := 0, locals := 0 }
set_option maxHeartbeats 1000000 in
set_option maxRecDepth 100000 in
theorem c_X0_onesOfSet (l_ : Launch) (D : va_G) (cy : Nat → ClassId) (x : Int) (rx : -2147483648 ≤ x ∧ x < 2147483648) (hx : 0 ≤ x ∧ x < 256) : CTi l_ D cy yX0_onesOfSet wsX0_onesOfSet rX0_onesOfSet [.int (zi x)] (([] : List va_W)) (fun (z : Int) (u : Unit) => (z = onB x 8)) (fun (_ : Unit) => ([] : List va_W)) := by
  refine CTi.of RX0 cX0_onesOfSet 3 rfl (by decide) rfl (fun z u hz => rfl) (Nat.le_of_ble_eq_true rfl) ?_
  intro p_ e_ s_ m_ ar_ be_ me_ c_ Q_ A_ ls_ F_ K_ W_ hl hret
  have hl : lv_has ls_ 3 [(0, .int (zi x))] := hl
  obtain ⟨H_, hH_⟩ : ∃ x, x = s_.heap := ⟨_, rfl⟩
  obtain ⟨lo_, hlo_⟩ : ∃ x : List Loc, x = [] := ⟨_, rfl⟩
  have W_ : WD D A_ s_.heap (([] : List va_W)) H_ lo_ := by rw [hH_, hlo_]; exact W_
  rw [← hlo_]
  suffices hg_ : W p_ l_ e_ rX0_onesOfSet s_ m_ ar_ be_ me_ c_ H_ lo_ 0 0 Q_ (F0 m_ 0 ls_ []) by rw [hH_] at hg_; exact hg_
  clear hH_ hlo_
  refine z_iconst F_ dX0_onesOfSet_0 ?_
  refine lv_istore_n (lv' := [(1, .int (zi 0)), (0, .int (zi x))]) F_.1 F_.2.1 dX0_onesOfSet_1 rfl hl (by decide) rfl (fun ls_ hl => ?_)
  refine z_iconst F_ dX0_onesOfSet_2 ?_
  refine lv_istore_n (lv' := [(2, .int (zi 0)), (1, .int (zi 0)), (0, .int (zi x))]) F_.1 F_.2.1 dX0_onesOfSet_3 rfl hl (by decide) rfl (fun ls_ hl => ?_)
  have L4 : ∀ (n_ : Nat) (y : Int) (k : Int) (hk : 0 ≤ k ∧ k ≤ 8) (hy : y = onB x k) (hm_ : (8 - k : Int) < (n_ : Int)) (ls_ : Array Slot) (H_ : Heap) (lo_ : List Loc), WD D A_ s_.heap (([] : List va_W)) H_ lo_ → lv_has ls_ 3 [(2, .int (zi k)), (1, .int (zi y)), (0, .int (zi x))] → W p_ l_ e_ rX0_onesOfSet s_ m_ ar_ be_ me_ c_ H_ lo_ 0 0 Q_ (F0 m_ 4 ls_ []) := by
    intro n_
    induction n_ with
    | zero =>
      intro y k hk hy hm_ ls_ H_ lo_ _ _
      exact absurd hm_ (by omega)
    | succ n_ ih_ =>
      intro y k hk hy hm_ ls_ H_ lo_ W_ hl
      have ih4 := ih_
      refine lv_iload_n F_.1 F_.2.1 dX0_onesOfSet_4 rfl (lv_at hl 0 rfl) ?_
      refine z_bipush F_ (by decide) dX0_onesOfSet_5 ?_
      refine z_icmp_ge (tgt := 26) F_ (by omega) dX0_onesOfSet_7 (by decide) (fun c7 => ?_) (fun c7 => ?_)
      · refine lv_iload_n F_.1 F_.2.1 dX0_onesOfSet_26 rfl (lv_at hl 1 rfl) ?_
        exact hret _ _ _ _ y () dX0_onesOfSet_27 (by rw [hy]; congr 1; omega) W_
      · refine z_iconst F_ dX0_onesOfSet_10 ?_
        refine lv_iload_n F_.1 F_.2.1 dX0_onesOfSet_11 rfl (lv_at hl 1 rfl) ?_
        refine z_imul F_ dX0_onesOfSet_12 ?_
        have hsh := zshr_b k hx.1
        refine lv_iload_n F_.1 F_.2.1 dX0_onesOfSet_13 rfl (lv_at hl 2 rfl) ?_
        refine lv_iload_n F_.1 F_.2.1 dX0_onesOfSet_14 rfl (lv_at hl 0 rfl) ?_
        refine z_ishr F_ (by omega) dX0_onesOfSet_15 ?_
        refine z_iconst F_ dX0_onesOfSet_16 ?_
        refine z_iand F_ (by omega) dX0_onesOfSet_17 ?_
        have i_1 : zand (x / zpw k) 1 = zbt x k := by exact zand_1 hsh.1
        rw [i_1]
        refine z_iadd F_ dX0_onesOfSet_18 ?_
        refine lv_istore_n (lv' := [(1, .int (zi ((4 * y) + (zbt x k)))), (2, .int (zi k)), (0, .int (zi x))]) F_.1 F_.2.1 dX0_onesOfSet_19 rfl hl (by decide) rfl (fun ls_ hl => ?_)
        refine z_iinc (lv' := [(2, .int (zi (k + 1))), (1, .int (zi ((4 * y) + (zbt x k)))), (0, .int (zi x))]) F_ dX0_onesOfSet_20 hl (k := 1) rfl (by decide) rfl (fun ls_ hl => ?_)
        refine z_goto (tgt := 4) F_ dX0_onesOfSet_23 (by decide) ?_
        exact ih4 ((4 * y) + (zbt x k)) (k + 1) (by first | omega | assumption) (by rw [onB_s _ hk.1, ← hy]) (by omega) ls_ H_ lo_ W_ (lv_sub hl [0, 1, 2] rfl)
  exact L4 ((8 - 0 : Int).toNat + 1) 0 0 (by first | omega | assumption) (by rfl) (by have := Int.self_le_toNat (8 - 0 : Int); omega) ls_ H_ lo_ W_ (lv_sub hl [0, 1, 2] rfl)
abbrev rX0_weighSets : Room := { frames := 2, cells := 0, slots := 0, locals := 44 }
set_option maxHeartbeats 1000000 in
set_option maxRecDepth 100000 in
theorem c_X0_weighSets (l_ : Launch) (D : va_G) (cy : Nat → ClassId) (cr : Nat → Nat) (fo : Int) (wo : Int → Int) (be : Int → Int) (q : Nat → Nat) (S : Int) (M : Int) (sk : Int → Int) (sc : Int → Int) (mk : Int → Int) (ms : Int → Int) (mp : Int → Int) (h : Int) (d : Int) (a : Int) (bwo : ∀ j : Int, (-70000) ≤ wo j ∧ wo j ≤ 70000) (bbe : ∀ j : Int, (-300000) ≤ be j ∧ be j ≤ 300000) (bS : 0 ≤ S ∧ S ≤ 3) (bM : 0 ≤ M ∧ M ≤ 8) (bsk : ∀ j : Int, 0 ≤ sk j ∧ sk j ≤ 5) (bsc : ∀ j : Int, 0 ≤ sc j ∧ sc j ≤ 99) (bmk : ∀ j : Int, 0 ≤ mk j ∧ mk j ≤ 5) (bms : ∀ j : Int, 0 ≤ ms j ∧ ms j ≤ 9) (bmp : ∀ j : Int, (-1) ≤ mp j ∧ mp j ≤ 2) (rh : -2147483648 ≤ h ∧ h < 2147483648) (rd : -2147483648 ≤ d ∧ d < 2147483648) (ra : -2147483648 ≤ a ∧ a < 2147483648) (hh : 0 ≤ h ∧ h < S) (hd : 1 ≤ d ∧ d ≤ 30) (ha : 0 ≤ a ∧ a < 256) : CTv l_ D cy yX0_weighSets wsX0_weighSets rX0_weighSets [.ref (cr 0), .ref (q 0), .int (zi h), .int (zi d), .int (zi a)] ([wC cy cr fo wo be, wI cy q S M sk sc mk ms mp]) (fun (u : (Int → Int)) => (∀ x, 0 ≤ x → x < 256 → ndZ x a = 0 → u x = wthZ (cntZ mp h M) (sumZ mp ms h M) (sk h) d ms h x) ∧ (∀ j : Int, (-70000) ≤ u j ∧ u j ≤ 70000)) (fun (u : (Int → Int)) => [wC cy cr fo u be, wI cy q S M sk sc mk ms mp]) := by
  refine CTv.of RX0 cX0_weighSets 11 rfl (by decide) rfl (Nat.le_of_ble_eq_true rfl) ?_
  intro p_ e_ s_ m_ ar_ be_ me_ c_ Q_ A_ ls_ F_ K_ W_ hl hret
  have hl : lv_has ls_ 11 [(0, .ref (cr 0)), (1, .ref (q 0)), (2, .int (zi h)), (3, .int (zi d)), (4, .int (zi a))] := hl
  obtain ⟨H_, hH_⟩ : ∃ x, x = s_.heap := ⟨_, rfl⟩
  obtain ⟨lo_, hlo_⟩ : ∃ x : List Loc, x = [] := ⟨_, rfl⟩
  have W_ : WD D A_ s_.heap ([wC cy cr fo wo be, wI cy q S M sk sc mk ms mp]) H_ lo_ := by rw [hH_, hlo_]; exact W_
  rw [← hlo_]
  suffices hg_ : W p_ l_ e_ rX0_weighSets s_ m_ ar_ be_ me_ c_ H_ lo_ 0 0 Q_ (F0 m_ 0 ls_ []) by rw [hH_] at hg_; exact hg_
  clear hH_ hlo_
  have hinX0 : ∀ w ∈ u_ws RX0 TX0 3, w ∈ wsX0_weighSets := fun w h => List.mem_cons_of_mem _ (List.mem_append_right _ h)
  have hinX4 : ∀ w ∈ u_ws RX4 TX4 11, w ∈ wsX0_weighSets := fun w h => List.mem_cons_of_mem _ (List.mem_append_left _ (List.mem_append_right _ h))
  refine lv_aload_n F_.1 F_.2.1 dX0_weighSets_0 rfl (lv_at hl 1 rfl) ?_
  refine lv_iload_n F_.1 F_.2.1 dX0_weighSets_1 rfl (lv_at hl 2 rfl) ?_
  refine z_callVip F_ K_ W_ [.int (zi h)] (c_X4_menAt l_ D cy q S M sk sc mk ms mp h (by omega) (by omega) bsk bsc bmk bms bmp (by first | omega | assumption)) 1 rfl gX0_weighSets_X4_menAt rfl (by decide +kernel) ⟨⟨Nat.le_of_ble_eq_true rfl, Nat.le_of_ble_eq_true rfl⟩, rfl, rfl, Nat.zero_le _, Nat.zero_le _⟩ 0 0 4 rfl rfl rfl rfl hl.1 rfl (Nat.le_of_ble_eq_true rfl) [1] [0] [wC cy cr fo wo be] 2 (by decide +kernel) rfl rfl rfl dX0_weighSets_2 (fun z_1 _ H_ lo_ hw_ W_ => ?_)
  replace hw_ : (z_1 = cntZ mp h M) := hw_
  have f2_v := hw_
  clear hw_
  have f2_v := f2_v.symm
  subst f2_v
  have hcb := cntZ_b mp h (m := M) (by omega)
  refine lv_istore (lv' := [(5, .int (zi (cntZ mp h M))), (0, .ref (cr 0)), (1, .ref (q 0)), (2, .int (zi h)), (3, .int (zi d)), (4, .int (zi a))]) F_.1 F_.2.1 dX0_weighSets_5 hl (by decide) rfl (fun ls_ hl => ?_)
  refine lv_aload_n F_.1 F_.2.1 dX0_weighSets_7 rfl (lv_at hl 2 rfl) ?_
  refine lv_iload_n F_.1 F_.2.1 dX0_weighSets_8 rfl (lv_at hl 3 rfl) ?_
  refine z_callVip F_ K_ W_ [.int (zi h)] (c_X4_skillsAt l_ D cy q S M sk sc mk ms mp h (by omega) (by omega) bsk bsc bmk bms bmp (by first | omega | assumption)) 1 rfl gX0_weighSets_X4_skillsAt rfl (by decide +kernel) ⟨⟨Nat.le_of_ble_eq_true rfl, Nat.le_of_ble_eq_true rfl⟩, rfl, rfl, Nat.zero_le _, Nat.zero_le _⟩ 0 0 4 rfl rfl rfl rfl hl.1 rfl (Nat.le_of_ble_eq_true rfl) [1] [0] [wC cy cr fo wo be] 2 (by decide +kernel) rfl rfl rfl dX0_weighSets_9 (fun z_2 _ H_ lo_ hw_ W_ => ?_)
  replace hw_ : (z_2 = sumZ mp ms h M) := hw_
  have f9_v := hw_
  clear hw_
  have f9_v := f9_v.symm
  subst f9_v
  have hsb := sumZ_b mp ms h (m := M) (by omega) (b := 9) (fun j => bms j)
  refine lv_istore (lv' := [(6, .int (zi (sumZ mp ms h M))), (5, .int (zi (cntZ mp h M))), (0, .ref (cr 0)), (1, .ref (q 0)), (2, .int (zi h)), (3, .int (zi d)), (4, .int (zi a))]) F_.1 F_.2.1 dX0_weighSets_12 hl (by decide) rfl (fun ls_ hl => ?_)
  refine z_iconst F_ dX0_weighSets_14 ?_
  refine lv_istore (lv' := [(7, .int (zi 0)), (6, .int (zi (sumZ mp ms h M))), (5, .int (zi (cntZ mp h M))), (0, .ref (cr 0)), (1, .ref (q 0)), (2, .int (zi h)), (3, .int (zi d)), (4, .int (zi a))]) F_.1 F_.2.1 dX0_weighSets_15 hl (by decide) rfl (fun ls_ hl => ?_)
  have L17 : ∀ (n_ : Nat) (x : Int) (f : Int → Int) (bf : ∀ j : Int, (-70000) ≤ f j ∧ f j ≤ 70000) (hx : 0 ≤ x ∧ x ≤ 256) (hf : ∀ y, 0 ≤ y → y < x → ndZ y a = 0 → f y = wthZ (cntZ mp h M) (sumZ mp ms h M) (sk h) d ms h y) (hm_ : (256 - x : Int) < (n_ : Int)) (ls_ : Array Slot) (H_ : Heap) (lo_ : List Loc), WD D A_ s_.heap ([wC cy cr fo f be, wI cy q S M sk sc mk ms mp]) H_ lo_ → lv_has ls_ 11 [(7, .int (zi x)), (6, .int (zi (sumZ mp ms h M))), (5, .int (zi (cntZ mp h M))), (0, .ref (cr 0)), (1, .ref (q 0)), (2, .int (zi h)), (3, .int (zi d)), (4, .int (zi a))] → W p_ l_ e_ rX0_weighSets s_ m_ ar_ be_ me_ c_ H_ lo_ 0 0 Q_ (F0 m_ 17 ls_ []) := by
    intro n_
    induction n_ with
    | zero =>
      intro x f bf hx hf hm_ ls_ H_ lo_ _ _
      exact absurd hm_ (by omega)
    | succ n_ ih_ =>
      intro x f bf hx hf hm_ ls_ H_ lo_ W_ hl
      have ih17 := ih_
      refine lv_iload F_.1 F_.2.1 dX0_weighSets_17 (lv_at hl 0 rfl) ?_
      refine z_sipush F_ (by decide) dX0_weighSets_19 ?_
      refine z_icmp_ge (tgt := 119) F_ (by omega) dX0_weighSets_22 (by decide) (fun c22 => ?_) (fun c22 => ?_)
      · exact hret _ _ _ _ f dX0_weighSets_119 ⟨(by intro y q1 q2 q3; exact hf y q1 (by omega) q3), bf⟩ W_
      · refine lv_iload F_.1 F_.2.1 dX0_weighSets_25 (lv_at hl 0 rfl) ?_
        refine lv_iload F_.1 F_.2.1 dX0_weighSets_27 (lv_at hl 7 rfl) ?_
        refine z_iconst F_ dX0_weighSets_29 ?_
        refine lv_ixor F_.1 F_.2.1 dX0_weighSets_30 ?_
        refine lv_iand F_.1 F_.2.1 dX0_weighSets_31 ?_
        rw [zi_nd (s := x) (a := a) (by omega)]
        have nd31 := ndZ_b (s := x) a (by omega)
        refine z_if_ne (tgt := 113) F_ (by omega) dX0_weighSets_32 (by decide) (fun c32 => ?_) (fun c32 => ?_)
        · refine z_iinc (lv' := [(7, .int (zi (x + 1))), (6, .int (zi (sumZ mp ms h M))), (5, .int (zi (cntZ mp h M))), (0, .ref (cr 0)), (1, .ref (q 0)), (2, .int (zi h)), (3, .int (zi d)), (4, .int (zi a))]) F_ dX0_weighSets_113 hl (k := 0) rfl (by decide) rfl (fun ls_ hl => ?_)
          refine z_goto (tgt := 17) F_ dX0_weighSets_116 (by decide) ?_
          exact ih17 (x + 1) f bf (by first | omega | assumption) (by first | (intro y q1 q2 q3; rcases Int.lt_or_eq_of_le (show y ≤ x by omega) with q | q; exact hf y q1 q q3; (subst q; exact absurd q3 (by omega))) | (intro y q1 q2 q3; rw [eLASTDEF, zu_at]; by_cases q : y = x; (rw [if_pos q, q]; unfold wthZ; rw [← hk102]); (rw [if_neg q]; exact hf y q1 (by omega) q3))) (by omega) ls_ H_ lo_ W_ (lv_sub hl [0, 1, 2, 3, 4, 5, 6, 7] rfl)
        · refine lv_iload F_.1 F_.2.1 dX0_weighSets_35 (lv_at hl 2 rfl) ?_
          refine lv_iload F_.1 F_.2.1 dX0_weighSets_37 (lv_at hl 0 rfl) ?_
          refine z_callSip F_ K_ W_ [.int (zi x)] (c_J6_bitCount_0f7a4 l_ D cy x (by first | omega | assumption)) 1 rfl gX0_weighSets_J6_bitCount_0f7a4 rfl (by decide +kernel) ⟨⟨Nat.le_of_ble_eq_true rfl, Nat.le_of_ble_eq_true rfl⟩, rfl, rfl, Nat.zero_le _, Nat.zero_le _⟩ hl.1 rfl (Nat.le_of_ble_eq_true rfl) ([] : List Nat) [0, 1] [wC cy cr fo f be, wI cy q S M sk sc mk ms mp] 2 (by decide +kernel) rfl rfl rfl dX0_weighSets_39 (fun z_3 _ H_ lo_ hw_ W_ => ?_)
          replace hw_ : (z_3 = popZ x 10) := hw_
          have f39_v := hw_
          clear hw_
          have f39_v := f39_v.symm
          subst f39_v
          have hpb := popZ_b x
          refine z_iadd F_ dX0_weighSets_42 ?_
          refine lv_istore (lv' := [(8, .int (zi ((cntZ mp h M) + (popZ x 10)))), (7, .int (zi x)), (6, .int (zi (sumZ mp ms h M))), (5, .int (zi (cntZ mp h M))), (0, .ref (cr 0)), (1, .ref (q 0)), (2, .int (zi h)), (3, .int (zi d)), (4, .int (zi a))]) F_.1 F_.2.1 dX0_weighSets_43 hl (by decide) rfl (fun ls_ hl => ?_)
          refine lv_iload F_.1 F_.2.1 dX0_weighSets_45 (lv_at hl 2 rfl) ?_
          refine lv_aload_n F_.1 F_.2.1 dX0_weighSets_47 rfl (lv_at hl 5 rfl) ?_
          refine lv_iload F_.1 F_.2.1 dX0_weighSets_48 (lv_at hl 1 rfl) ?_
          refine z_callSip F_ K_ W_ [.ref (q 0), .int (zi x)] (c_X0_skillsOfSet l_ D cy q S M sk sc mk ms mp x (by omega) (by omega) bsk bsc bmk bms bmp (by first | omega | assumption) (by first | omega | assumption)) 2 rfl gX0_weighSets_X0_skillsOfSet rfl (by decide +kernel) ⟨⟨Nat.le_of_ble_eq_true rfl, Nat.le_of_ble_eq_true rfl⟩, rfl, rfl, Nat.zero_le _, Nat.zero_le _⟩ hl.1 rfl (Nat.le_of_ble_eq_true rfl) [1] [0] [wC cy cr fo f be] 2 (by decide +kernel) rfl rfl rfl dX0_weighSets_50 (fun z_4 _ H_ lo_ hw_ W_ => ?_)
          replace hw_ : (z_4 = skB ms x 8) ∧ (0 ≤ z_4 ∧ z_4 ≤ 72) := hw_
          obtain ⟨f50_v, f50_b⟩ := hw_
          have hkb := f50_v
          refine z_iadd F_ dX0_weighSets_53 ?_
          refine lv_istore (lv' := [(9, .int (zi ((sumZ mp ms h M) + z_4))), (8, .int (zi ((cntZ mp h M) + (popZ x 10)))), (7, .int (zi x)), (6, .int (zi (sumZ mp ms h M))), (5, .int (zi (cntZ mp h M))), (0, .ref (cr 0)), (1, .ref (q 0)), (2, .int (zi h)), (3, .int (zi d)), (4, .int (zi a))]) F_.1 F_.2.1 dX0_weighSets_54 hl (by decide) rfl (fun ls_ hl => ?_)
          refine lv_iload F_.1 F_.2.1 dX0_weighSets_56 (lv_at hl 1 rfl) ?_
          have J83 : ∀ (k83 : Int) (hk83 : (k83 = 1 ∧ wtP (cntZ mp h M) (sumZ mp ms h M) (sk h) d ms x) ∨ (k83 = 0 ∧ ¬ wtP (cntZ mp h M) (sumZ mp ms h M) (sk h) d ms x)) (ls_ : Array Slot) (H_ : Heap) (lo_ : List Loc), WD D A_ s_.heap ([wC cy cr fo f be, wI cy q S M sk sc mk ms mp]) H_ lo_ → lv_has ls_ 11 [(9, .int (zi ((sumZ mp ms h M) + z_4))), (8, .int (zi ((cntZ mp h M) + (popZ x 10)))), (7, .int (zi x)), (6, .int (zi (sumZ mp ms h M))), (5, .int (zi (cntZ mp h M))), (0, .ref (cr 0)), (1, .ref (q 0)), (2, .int (zi h)), (3, .int (zi d)), (4, .int (zi a))] → W p_ l_ e_ rX0_weighSets s_ m_ ar_ be_ me_ c_ H_ lo_ 0 0 Q_ (F0 m_ 83 ls_ [.int (zi k83)]) := by
            intro k83 hk83 ls_ H_ lo_ W_ hl
            refine lv_istore (lv' := [(10, .int (zi k83)), (9, .int (zi ((sumZ mp ms h M) + z_4))), (8, .int (zi ((cntZ mp h M) + (popZ x 10)))), (7, .int (zi x)), (6, .int (zi (sumZ mp ms h M))), (5, .int (zi (cntZ mp h M))), (0, .ref (cr 0)), (1, .ref (q 0)), (2, .int (zi h)), (3, .int (zi d)), (4, .int (zi a))]) F_.1 F_.2.1 dX0_weighSets_83 hl (by decide) rfl (fun ls_ hl => ?_)
            refine lv_aload_n F_.1 F_.2.1 dX0_weighSets_85 rfl (lv_at hl 6 rfl) ?_
            refine z_get F_ K_ W_ 0 0 0 rfl rfl rfl (C := RX0) (T := TX0) (N := 3) rfl (by decide) hinX0 (List.mem_of_getElem? (i := 2) rfl) dX0_weighSets_86 ?_
            refine lv_iload F_.1 F_.2.1 dX0_weighSets_89 (lv_at hl 3 rfl) ?_
            refine lv_iload F_.1 F_.2.1 dX0_weighSets_91 (lv_at hl 0 rfl) ?_
            have J102 : ∀ (k102 : Int) (hk102 : k102 = if wtP (cntZ mp h M) (sumZ mp ms h M) (sk h) d ms x then 65536 else 0) (ls_ : Array Slot) (H_ : Heap) (lo_ : List Loc), WD D A_ s_.heap ([wC cy cr fo f be, wI cy q S M sk sc mk ms mp]) H_ lo_ → lv_has ls_ 11 [(10, .int (zi k83)), (9, .int (zi ((sumZ mp ms h M) + z_4))), (8, .int (zi ((cntZ mp h M) + (popZ x 10)))), (7, .int (zi x)), (6, .int (zi (sumZ mp ms h M))), (5, .int (zi (cntZ mp h M))), (0, .ref (cr 0)), (1, .ref (q 0)), (2, .int (zi h)), (3, .int (zi d)), (4, .int (zi a))] → W p_ l_ e_ rX0_weighSets s_ m_ ar_ be_ me_ c_ H_ lo_ 0 0 Q_ (F0 m_ 102 ls_ [.int (zi k102), .int (zi x), .ref (cr 1)]) := by
              intro k102 hk102 ls_ H_ lo_ W_ hl
              refine lv_iload_n F_.1 F_.2.1 dX0_weighSets_102 rfl (lv_at hl 8 rfl) ?_
              refine z_iconst F_ dX0_weighSets_103 ?_
              refine z_iadd F_ dX0_weighSets_104 ?_
              refine lv_iload F_.1 F_.2.1 dX0_weighSets_105 (lv_at hl 3 rfl) ?_
              refine z_callSip F_ K_ W_ [.int (zi x)] (c_X0_onesOfSet l_ D cy x (by first | omega | assumption) (by first | omega | assumption)) 1 rfl gX0_weighSets_X0_onesOfSet rfl (by decide +kernel) ⟨⟨Nat.le_of_ble_eq_true rfl, Nat.le_of_ble_eq_true rfl⟩, rfl, rfl, Nat.zero_le _, Nat.zero_le _⟩ hl.1 rfl (Nat.le_of_ble_eq_true rfl) ([] : List Nat) [0, 1] [wC cy cr fo f be, wI cy q S M sk sc mk ms mp] 2 (by decide +kernel) rfl rfl rfl dX0_weighSets_107 (fun z_5 _ H_ lo_ hw_ W_ => ?_)
              replace hw_ : (z_5 = onB x 8) := hw_
              have f107_v := hw_
              clear hw_
              have f107_v := f107_v.symm
              subst f107_v
              refine z_imul F_ dX0_weighSets_110 ?_
              refine z_isub F_ dX0_weighSets_111 ?_
              refine z_iast (sg' := [wC cy cr fo (zu f x (k102 - ((h + 1) * (onB x 8)))) be, wI cy q S M sk sc mk ms mp]) F_ K_ W_ 0 1 rfl rfl rfl (by omega) (by decide) dX0_weighSets_112 (fun H_ lo_ W_ => ?_)
              obtain ⟨wo_6, ewo_6⟩ : ∃ x_ : Int → Int, x_ = zu f x (k102 - ((h + 1) * (onB x 8))) := ⟨_, rfl⟩
              rw [← ewo_6] at W_
              have bwo_6 : ∀ j : Int, (-70000) ≤ wo_6 j ∧ wo_6 j ≤ 70000 := by rw [ewo_6]; exact zu_b bf (by have hw_ := wthZ_b (cntZ mp h M) (sumZ mp ms h M) (sk h) d ms (h := h) x (by omega); unfold wthZ at hw_; rw [← hk102] at hw_; omega)
              refine z_iinc (lv' := [(7, .int (zi (x + 1))), (10, .int (zi k83)), (9, .int (zi ((sumZ mp ms h M) + z_4))), (8, .int (zi ((cntZ mp h M) + (popZ x 10)))), (6, .int (zi (sumZ mp ms h M))), (5, .int (zi (cntZ mp h M))), (0, .ref (cr 0)), (1, .ref (q 0)), (2, .int (zi h)), (3, .int (zi d)), (4, .int (zi a))]) F_ dX0_weighSets_113 hl (k := 3) rfl (by decide) rfl (fun ls_ hl => ?_)
              refine z_goto (tgt := 17) F_ dX0_weighSets_116 (by decide) ?_
              exact ih17 (x + 1) wo_6 bwo_6 (by first | omega | assumption) (by first | (intro y q1 q2 q3; rcases Int.lt_or_eq_of_le (show y ≤ x by omega) with q | q; exact hf y q1 q q3; (subst q; exact absurd q3 (by omega))) | (intro y q1 q2 q3; rw [ewo_6, zu_at]; by_cases q : y = x; (rw [if_pos q, q]; unfold wthZ; rw [← hk102]); (rw [if_neg q]; exact hf y q1 (by omega) q3))) (by omega) ls_ H_ lo_ W_ (lv_sub hl [0, 4, 5, 6, 7, 8, 9, 10] rfl)
            refine z_if_eq (tgt := 101) F_ (by omega) dX0_weighSets_93 (by decide) (fun c93 => ?_) (fun c93 => ?_)
            · refine z_iconst F_ dX0_weighSets_101 ?_
              exact J102 0 (by first | (rw [if_pos (hk83.elim (fun q => q.2) (fun q => absurd q.1 (by omega)))]) | (rw [if_neg (hk83.elim (fun q => absurd q.1 (by omega)) (fun q => q.2))])) ls_ H_ lo_ W_ (lv_sub hl [0, 1, 2, 3, 4, 5, 6, 7, 8, 9, 10] rfl)
            · refine z_ldc (z := 65536) F_ (F_.2.2.2.2 _ (List.mem_of_getElem? (i := 3) rfl)) rfl dX0_weighSets_96 ?_
              refine z_goto (tgt := 102) F_ dX0_weighSets_98 (by decide) ?_
              exact J102 65536 (by first | (rw [if_pos (hk83.elim (fun q => q.2) (fun q => absurd q.1 (by omega)))]) | (rw [if_neg (hk83.elim (fun q => absurd q.1 (by omega)) (fun q => q.2))])) ls_ H_ lo_ W_ (lv_sub hl [0, 1, 2, 3, 4, 5, 6, 7, 8, 9, 10] rfl)
          refine z_if_le (tgt := 82) F_ (by omega) dX0_weighSets_58 (by decide) (fun c58 => ?_) (fun c58 => ?_)
          · refine z_iconst F_ dX0_weighSets_82 ?_
            exact J83 0 (by first | omega | assumption) ls_ H_ lo_ W_ (lv_sub hl [0, 1, 2, 3, 4, 5, 6, 7, 8, 9] rfl)
          · refine lv_iload F_.1 F_.2.1 dX0_weighSets_61 (lv_at hl 0 rfl) ?_
            refine lv_aload_n F_.1 F_.2.1 dX0_weighSets_63 rfl (lv_at hl 6 rfl) ?_
            refine z_get F_ K_ W_ 1 0 2 rfl rfl rfl (C := RX4) (T := TX4) (N := 11) rfl (by decide) hinX4 (List.mem_of_getElem? (i := 1) rfl) dX0_weighSets_64 ?_
            refine lv_iload_n F_.1 F_.2.1 dX0_weighSets_67 rfl (lv_at hl 7 rfl) ?_
            refine z_iald F_ K_ W_ 1 1 rfl rfl (by omega) (by decide) dX0_weighSets_68 ?_
            have b_7 := bsk h
            refine lv_iload_n F_.1 F_.2.1 dX0_weighSets_69 rfl (lv_at hl 8 rfl) ?_
            refine lv_iload F_.1 F_.2.1 dX0_weighSets_70 (lv_at hl 1 rfl) ?_
            refine z_callSip F_ K_ W_ [.int (zi (sk h)), .int (zi d), .int (zi ((cntZ mp h M) + (popZ x 10)))] (c_X5_need l_ D cy (sk h) d ((cntZ mp h M) + (popZ x 10)) (by first | omega | assumption) (by first | omega | assumption) (by first | omega | assumption) (by first | omega | assumption) (by first | omega | assumption)) 3 rfl gX0_weighSets_X5_need rfl (by decide +kernel) ⟨⟨Nat.le_of_ble_eq_true rfl, Nat.le_of_ble_eq_true rfl⟩, rfl, rfl, Nat.zero_le _, Nat.zero_le _⟩ hl.1 rfl (Nat.le_of_ble_eq_true rfl) ([] : List Nat) [0, 1] [wC cy cr fo f be, wI cy q S M sk sc mk ms mp] 2 (by decide +kernel) rfl rfl rfl dX0_weighSets_72 (fun z_8 _ H_ lo_ hw_ W_ => ?_)
            replace hw_ : (z_8 = needZ (sk h) d ((cntZ mp h M) + (popZ x 10))) := hw_
            have f72_v := hw_
            clear hw_
            have hnb := needZ_b (sk h) hd (n := cntZ mp h M + popZ x 10) (by omega)
            rw [← f72_v] at hnb
            refine z_icmp_lt (tgt := 82) F_ (by omega) dX0_weighSets_75 (by decide) (fun c75 => ?_) (fun c75 => ?_)
            · refine z_iconst F_ dX0_weighSets_82 ?_
              exact J83 0 (by first | omega | assumption) ls_ H_ lo_ W_ (lv_sub hl [0, 1, 2, 3, 4, 5, 6, 7, 8, 9] rfl)
            · refine z_iconst F_ dX0_weighSets_78 ?_
              refine z_goto (tgt := 83) F_ dX0_weighSets_79 (by decide) ?_
              exact J83 1 (by first | omega | assumption) ls_ H_ lo_ W_ (lv_sub hl [0, 1, 2, 3, 4, 5, 6, 7, 8, 9] rfl)
  exact L17 ((256 - 0 : Int).toNat + 1) 0 wo bwo (by first | omega | assumption) (by intro y q1 q2; omega) (by have := Int.self_le_toNat (256 - 0 : Int); omega) ls_ H_ lo_ W_ (lv_sub hl [0, 1, 2, 3, 4, 5, 6, 7] rfl)
abbrev rX0_bestSplit : Room := { frames := 0, cells := 0, slots := 0, locals := 0 }
set_option maxHeartbeats 1000000 in
set_option maxRecDepth 100000 in
theorem c_X0_bestSplit (l_ : Launch) (D : va_G) (cy : Nat → ClassId) (cr : Nat → Nat) (fo : Int) (wo : Int → Int) (be : Int → Int) (s : Int) (bwo : ∀ j : Int, (-70000) ≤ wo j ∧ wo j ≤ 70000) (bbe : ∀ j : Int, (-300000) ≤ be j ∧ be j ≤ 300000) (rs : -2147483648 ≤ s ∧ s < 2147483648) (hs : 0 ≤ s ∧ s < 256) : CTi l_ D cy yX0_bestSplit wsX0_bestSplit rX0_bestSplit [.ref (cr 0), .int (zi s)] ([wC cy cr fo wo be]) (fun (z : Int) (u : Unit) => (spR wo be s z)) (fun (_ : Unit) => [wC cy cr fo wo be]) := by
  refine CTi.of RX0 cX0_bestSplit 6 rfl (by decide) rfl (fun z u hz => rfl) (Nat.le_of_ble_eq_true rfl) ?_
  intro p_ e_ s_ m_ ar_ be_ me_ c_ Q_ A_ ls_ F_ K_ W_ hl hret
  have hl : lv_has ls_ 6 [(0, .ref (cr 0)), (1, .int (zi s))] := hl
  obtain ⟨H_, hH_⟩ : ∃ x, x = s_.heap := ⟨_, rfl⟩
  obtain ⟨lo_, hlo_⟩ : ∃ x : List Loc, x = [] := ⟨_, rfl⟩
  have W_ : WD D A_ s_.heap ([wC cy cr fo wo be]) H_ lo_ := by rw [hH_, hlo_]; exact W_
  rw [← hlo_]
  suffices hg_ : W p_ l_ e_ rX0_bestSplit s_ m_ ar_ be_ me_ c_ H_ lo_ 0 0 Q_ (F0 m_ 0 ls_ []) by rw [hH_] at hg_; exact hg_
  clear hH_ hlo_
  have hinX0 : ∀ w ∈ u_ws RX0 TX0 3, w ∈ wsX0_bestSplit := fun w h => List.mem_cons_of_mem _ (List.mem_append_right _ h)
  refine lv_aload_n F_.1 F_.2.1 dX0_bestSplit_0 rfl (lv_at hl 0 rfl) ?_
  refine z_get F_ K_ W_ 0 0 1 rfl rfl rfl (C := RX0) (T := TX0) (N := 3) rfl (by decide) hinX0 (List.mem_of_getElem? (i := 1) rfl) dX0_bestSplit_1 ?_
  refine lv_iload_n F_.1 F_.2.1 dX0_bestSplit_4 rfl (lv_at hl 1 rfl) ?_
  refine z_iald F_ K_ W_ 0 2 rfl rfl (by omega) (by decide) dX0_bestSplit_5 ?_
  have b_1 := bbe s
  refine lv_aload_n F_.1 F_.2.1 dX0_bestSplit_6 rfl (lv_at hl 0 rfl) ?_
  refine z_get F_ K_ W_ 0 0 0 rfl rfl rfl (C := RX0) (T := TX0) (N := 3) rfl (by decide) hinX0 (List.mem_of_getElem? (i := 2) rfl) dX0_bestSplit_7 ?_
  refine z_iconst F_ dX0_bestSplit_10 ?_
  refine z_iald F_ K_ W_ 0 1 rfl rfl (by omega) (by decide) dX0_bestSplit_11 ?_
  have b_2 := bwo 0
  refine z_iadd F_ dX0_bestSplit_12 ?_
  refine lv_istore_n (lv' := [(2, .int (zi ((be s) + (wo 0)))), (0, .ref (cr 0)), (1, .int (zi s))]) F_.1 F_.2.1 dX0_bestSplit_13 rfl hl (by decide) rfl (fun ls_ hl => ?_)
  refine lv_iload_n F_.1 F_.2.1 dX0_bestSplit_14 rfl (lv_at hl 2 rfl) ?_
  refine lv_istore_n (lv' := [(3, .int (zi s)), (2, .int (zi ((be s) + (wo 0)))), (0, .ref (cr 0)), (1, .int (zi s))]) F_.1 F_.2.1 dX0_bestSplit_15 rfl hl (by decide) rfl (fun ls_ hl => ?_)
  refine z_iconst F_ dX0_bestSplit_16 ?_
  refine lv_istore (lv' := [(4, .int (zi 0)), (3, .int (zi s)), (2, .int (zi ((be s) + (wo 0)))), (0, .ref (cr 0)), (1, .int (zi s))]) F_.1 F_.2.1 dX0_bestSplit_17 hl (by decide) rfl (fun ls_ hl => ?_)
  have L19 : ∀ (n_ : Nat) (mo : Int) (u : Int) (i : Int) (hi : 0 ≤ i ∧ i ≤ 256) (hu : sbZ u s) (hub : 0 ≤ u ∧ u + i ≤ s) (hmo : ∃ x, sbZ x s ∧ mo = wo x + be (zxor s x)) (hal : ∀ x, sbZ x s → (x = 0 ∨ u < x) → wo x + be (zxor s x) ≤ mo) (hmb : -400000 ≤ mo ∧ mo ≤ 400000) (hm_ : (256 - i : Int) < (n_ : Int)) (ls_ : Array Slot) (H_ : Heap) (lo_ : List Loc), WD D A_ s_.heap ([wC cy cr fo wo be]) H_ lo_ → lv_has ls_ 6 [(4, .int (zi i)), (3, .int (zi u)), (2, .int (zi mo)), (0, .ref (cr 0)), (1, .int (zi s))] → W p_ l_ e_ rX0_bestSplit s_ m_ ar_ be_ me_ c_ H_ lo_ 0 0 Q_ (F0 m_ 19 ls_ []) := by
    intro n_
    induction n_ with
    | zero =>
      intro mo u i hi hu hub hmo hal hmb hm_ ls_ H_ lo_ _ _
      exact absurd hm_ (by omega)
    | succ n_ ih_ =>
      intro mo u i hi hu hub hmo hal hmb hm_ ls_ H_ lo_ W_ hl
      have ih19 := ih_
      refine lv_iload F_.1 F_.2.1 dX0_bestSplit_19 (lv_at hl 0 rfl) ?_
      refine z_sipush F_ (by decide) dX0_bestSplit_21 ?_
      refine z_icmp_ge (tgt := 69) F_ (by omega) dX0_bestSplit_24 (by decide) (fun c24 => ?_) (fun c24 => ?_)
      · refine lv_iload_n F_.1 F_.2.1 dX0_bestSplit_69 rfl (lv_at hl 2 rfl) ?_
        exact hret _ _ _ _ mo () dX0_bestSplit_70 (by exact ⟨hmo, fun x q1 => by by_cases w : x = 0; exact hal x q1 (Or.inl w); exact hal x q1 (Or.inr (by have := q1.1; omega))⟩) W_
      · refine lv_iload_n F_.1 F_.2.1 dX0_bestSplit_27 rfl (lv_at hl 1 rfl) ?_
        refine z_if_le (tgt := 69) F_ (by omega) dX0_bestSplit_28 (by decide) (fun c28 => ?_) (fun c28 => ?_)
        · refine lv_iload_n F_.1 F_.2.1 dX0_bestSplit_69 rfl (lv_at hl 2 rfl) ?_
          exact hret _ _ _ _ mo () dX0_bestSplit_70 (by exact ⟨hmo, fun x q1 => by by_cases w : x = 0; exact hal x q1 (Or.inl w); exact hal x q1 (Or.inr (by have := q1.1; omega))⟩) W_
        · refine lv_aload_n F_.1 F_.2.1 dX0_bestSplit_31 rfl (lv_at hl 3 rfl) ?_
          refine z_get F_ K_ W_ 0 0 0 rfl rfl rfl (C := RX0) (T := TX0) (N := 3) rfl (by decide) hinX0 (List.mem_of_getElem? (i := 2) rfl) dX0_bestSplit_32 ?_
          refine lv_iload_n F_.1 F_.2.1 dX0_bestSplit_35 rfl (lv_at hl 1 rfl) ?_
          refine z_iald F_ K_ W_ 0 1 rfl rfl (by omega) (by decide) dX0_bestSplit_36 ?_
          have b_3 := bwo u
          refine lv_aload_n F_.1 F_.2.1 dX0_bestSplit_37 rfl (lv_at hl 3 rfl) ?_
          refine z_get F_ K_ W_ 0 0 1 rfl rfl rfl (C := RX0) (T := TX0) (N := 3) rfl (by decide) hinX0 (List.mem_of_getElem? (i := 1) rfl) dX0_bestSplit_38 ?_
          refine lv_iload_n F_.1 F_.2.1 dX0_bestSplit_41 rfl (lv_at hl 4 rfl) ?_
          refine lv_iload_n F_.1 F_.2.1 dX0_bestSplit_42 rfl (lv_at hl 1 rfl) ?_
          have hxb := zxor_b (a := u) (s := s) (by omega) hs
          refine z_ixor F_ (by omega) dX0_bestSplit_43 ?_
          refine z_iald F_ K_ W_ 0 2 rfl rfl (by omega) (by decide) dX0_bestSplit_44 ?_
          have b_4 := bbe (zxor s u)
          refine z_iadd F_ dX0_bestSplit_45 ?_
          refine lv_istore (lv' := [(5, .int (zi ((wo u) + (be (zxor s u))))), (4, .int (zi i)), (3, .int (zi u)), (2, .int (zi mo)), (0, .ref (cr 0)), (1, .int (zi s))]) F_.1 F_.2.1 dX0_bestSplit_46 hl (by decide) rfl (fun ls_ hl => ?_)
          refine lv_iload F_.1 F_.2.1 dX0_bestSplit_48 (lv_at hl 0 rfl) ?_
          refine lv_iload_n F_.1 F_.2.1 dX0_bestSplit_50 rfl (lv_at hl 3 rfl) ?_
          refine z_icmp_le (tgt := 57) F_ (by omega) dX0_bestSplit_51 (by decide) (fun c51 => ?_) (fun c51 => ?_)
          · refine lv_iload_n F_.1 F_.2.1 dX0_bestSplit_57 rfl (lv_at hl 2 rfl) ?_
            refine z_iconst F_ dX0_bestSplit_58 ?_
            refine z_isub F_ dX0_bestSplit_59 ?_
            refine lv_iload_n F_.1 F_.2.1 dX0_bestSplit_60 rfl (lv_at hl 5 rfl) ?_
            refine z_iand F_ (by omega) dX0_bestSplit_61 ?_
            refine lv_istore_n (lv' := [(3, .int (zi (zand (u - 1) s))), (5, .int (zi ((wo u) + (be (zxor s u))))), (4, .int (zi i)), (2, .int (zi mo)), (0, .ref (cr 0)), (1, .int (zi s))]) F_.1 F_.2.1 dX0_bestSplit_62 rfl hl (by decide) rfl (fun ls_ hl => ?_)
            refine z_iinc (lv' := [(4, .int (zi (i + 1))), (3, .int (zi (zand (u - 1) s))), (5, .int (zi ((wo u) + (be (zxor s u))))), (2, .int (zi mo)), (0, .ref (cr 0)), (1, .int (zi s))]) F_ dX0_bestSplit_63 hl (k := 2) rfl (by decide) rfl (fun ls_ hl => ?_)
            refine z_goto (tgt := 19) F_ dX0_bestSplit_66 (by decide) ?_
            exact ih19 mo (zand (u - 1) s) (i + 1) (by first | omega | assumption) (by exact sbZ_and (by omega)) (by have q1 := zand_b (x := u - 1) (y := s) (by omega); omega) (by first | exact hmo | exact ⟨u, hu, rfl⟩) (by intro x q1 q2; rcases q2 with q | q; (have := hal x q1 (Or.inl q); omega); (by_cases w : u < x; (have := hal x q1 (Or.inr w); omega); (by_cases w2 : x = u; (rw [w2]; omega); (have := sbZ_nx hs hu q1 (by omega); omega)))) (by first | omega | assumption) (by omega) ls_ H_ lo_ W_ (lv_sub hl [0, 1, 3, 4, 5] rfl)
          · refine lv_iload F_.1 F_.2.1 dX0_bestSplit_54 (lv_at hl 0 rfl) ?_
            refine lv_istore_n (lv' := [(2, .int (zi ((wo u) + (be (zxor s u))))), (5, .int (zi ((wo u) + (be (zxor s u))))), (4, .int (zi i)), (3, .int (zi u)), (0, .ref (cr 0)), (1, .int (zi s))]) F_.1 F_.2.1 dX0_bestSplit_56 rfl hl (by decide) rfl (fun ls_ hl => ?_)
            refine lv_iload_n F_.1 F_.2.1 dX0_bestSplit_57 rfl (lv_at hl 3 rfl) ?_
            refine z_iconst F_ dX0_bestSplit_58 ?_
            refine z_isub F_ dX0_bestSplit_59 ?_
            refine lv_iload_n F_.1 F_.2.1 dX0_bestSplit_60 rfl (lv_at hl 5 rfl) ?_
            refine z_iand F_ (by omega) dX0_bestSplit_61 ?_
            refine lv_istore_n (lv' := [(3, .int (zi (zand (u - 1) s))), (2, .int (zi ((wo u) + (be (zxor s u))))), (5, .int (zi ((wo u) + (be (zxor s u))))), (4, .int (zi i)), (0, .ref (cr 0)), (1, .int (zi s))]) F_.1 F_.2.1 dX0_bestSplit_62 rfl hl (by decide) rfl (fun ls_ hl => ?_)
            refine z_iinc (lv' := [(4, .int (zi (i + 1))), (3, .int (zi (zand (u - 1) s))), (2, .int (zi ((wo u) + (be (zxor s u))))), (5, .int (zi ((wo u) + (be (zxor s u))))), (0, .ref (cr 0)), (1, .int (zi s))]) F_ dX0_bestSplit_63 hl (k := 3) rfl (by decide) rfl (fun ls_ hl => ?_)
            refine z_goto (tgt := 19) F_ dX0_bestSplit_66 (by decide) ?_
            exact ih19 ((wo u) + (be (zxor s u))) (zand (u - 1) s) (i + 1) (by first | omega | assumption) (by exact sbZ_and (by omega)) (by have q1 := zand_b (x := u - 1) (y := s) (by omega); omega) (by first | exact hmo | exact ⟨u, hu, rfl⟩) (by intro x q1 q2; rcases q2 with q | q; (have := hal x q1 (Or.inl q); omega); (by_cases w : u < x; (have := hal x q1 (Or.inr w); omega); (by_cases w2 : x = u; (rw [w2]; omega); (have := sbZ_nx hs hu q1 (by omega); omega)))) (by first | omega | assumption) (by omega) ls_ H_ lo_ W_ (lv_sub hl [0, 1, 2, 4, 5] rfl)
  exact L19 ((256 - 0 : Int).toNat + 1) ((be s) + (wo 0)) s 0 (by first | omega | assumption) (by exact sbZ_self hs.1) (by first | omega | assumption) (by exact ⟨0, sbZ_0 s, by rw [zxor_0 hs.1]; omega⟩) (by intro x q1 q2; rcases q2 with q | q; (rw [q, zxor_0 hs.1]; omega); (have := sbZ_le hs.1 q1; omega)) (by first | omega | assumption) (by have := Int.self_le_toNat (256 - 0 : Int); omega) ls_ H_ lo_ W_ (lv_sub hl [0, 1, 2, 3, 4] rfl)
