theorem spR_lo {w b f : Int → Int} {s z : Int} (hs : 0 ≤ s) (hf : ∀ y, y ≤ s → f y = b y) (h : spR w f s z) : spR w b s z := by
  obtain ⟨⟨x, h1, h2⟩, h3⟩ := h
  refine ⟨⟨x, h1, ?_⟩, fun y q => ?_⟩
  · rw [← hf _ (zxor_le hs h1).1]; exact h2
  · rw [← hf _ (zxor_le hs q).1]; exact h3 y q
theorem zbt_iff {x k : Int} (hx : 0 ≤ x) (hk : 0 ≤ k) : zbt x k = 1 ↔ x.toNat.testBit k.toNat = true := by
  obtain ⟨n, rfl⟩ := Int.eq_ofNat_of_zero_le hx
  obtain ⟨j, rfl⟩ := Int.eq_ofNat_of_zero_le hk
  rw [Int.toNat_natCast, Int.toNat_natCast, Nat.testBit_eq_decide_div_mod_eq, decide_eq_true_iff]
  have e : zbt (n : Int) (j : Int) = ((n / 2 ^ j % 2 : Nat) : Int) := by
    unfold zbt zpw
    rw [Int.toNat_natCast, Int.natCast_emod, Int.natCast_ediv]
    rfl
  rw [e]
  omega
theorem zbt_ext {x y : Int} (hx : 0 ≤ x ∧ x < 256) (hy : 0 ≤ y ∧ y < 256) (h : ∀ k, 0 ≤ k → k < 8 → (zbt x k = 1 ↔ zbt y k = 1)) : x = y := by
  have e : x.toNat = y.toNat := by
    apply Nat.eq_of_testBit_eq
    intro i
    by_cases q : i < 8
    · have := h (i : Int) (by omega) (by omega)
      rw [zbt_iff hx.1 (by omega), zbt_iff hy.1 (by omega), Int.toNat_natCast] at this
      exact Bool.eq_iff_iff.mpr this
    · have p : 2 ^ 8 ≤ 2 ^ i := Nat.pow_le_pow_right (by decide) (by omega)
      have p8 : 2 ^ 8 = 256 := rfl
      rw [Nat.testBit_lt_two_pow (show x.toNat < 2 ^ i by omega), Nat.testBit_lt_two_pow (show y.toNat < 2 ^ i by omega)]
  omega
theorem zbt_xor {x y k : Int} (hx : 0 ≤ x) (hy : 0 ≤ y) (hk : 0 ≤ k) : zbt (zxor x y) k = 1 ↔ (zbt x k = 1 ∧ ¬ zbt y k = 1) ∨ (¬ zbt x k = 1 ∧ zbt y k = 1) := by
  rw [zbt_iff hx hk, zbt_iff hy hk, zbt_iff (by unfold zxor; omega) hk]
  unfold zxor
  rw [Int.toNat_natCast, Nat.testBit_xor]
  cases x.toNat.testBit k.toNat <;> cases y.toNat.testBit k.toNat <;> simp
theorem zbt_and {x y k : Int} (hx : 0 ≤ x) (hy : 0 ≤ y) (hk : 0 ≤ k) : zbt (zand x y) k = 1 ↔ (zbt x k = 1 ∧ zbt y k = 1) := by
  rw [zbt_iff hx hk, zbt_iff hy hk, zbt_iff (zand_b hx).1 hk]
  unfold zand
  rw [Int.toNat_natCast, Nat.testBit_and]
  cases x.toNat.testBit k.toNat <;> cases y.toNat.testBit k.toNat <;> simp
theorem sbZ_bit {x s : Int} (hs : 0 ≤ s) (h : sbZ x s) {k : Int} (hk : 0 ≤ k) (q : zbt x k = 1) : zbt s k = 1 := by
  have e := h.2
  rw [← e] at q
  exact ((zbt_and h.1 hs hk).mp q).2
theorem sbZ_of {x s : Int} (hx : 0 ≤ x ∧ x < 256) (hs : 0 ≤ s) (h : ∀ k, 0 ≤ k → k < 8 → zbt x k = 1 → zbt s k = 1) : sbZ x s := by
  have b := zand_b (y := s) hx.1
  refine ⟨hx.1, zbt_ext ⟨b.1, by omega⟩ hx (fun k q1 q2 => ?_)⟩
  rw [zbt_and hx.1 hs q1]
  exact ⟨fun q => q.1, fun q => ⟨q, h k q1 q2 q⟩⟩
theorem ndZ_sub {y s a : Int} (hs : 0 ≤ s) (h : sbZ y s) (hn : ndZ s a = 0) : ndZ y a = 0 := by
  have hy2 : y.toNat &&& s.toNat = y.toNat := by have := h.2; unfold zand at this; have := h.1; omega
  have h1 : s.toNat &&& (a.toNat ^^^ 4294967295) = 0 := by unfold ndZ at hn; omega
  have e : y.toNat &&& (a.toNat ^^^ 4294967295) = 0 := by rw [← hy2, Nat.and_assoc, h1, Nat.and_zero]
  unfold ndZ
  rw [e]
  rfl
def valE (w : Int → Int → Int) (n : Int) (e : Int → Int) : Int := fZ (fun h v => v + w h (bitZ e (h + 1) 8)) 0 n
theorem valE_s (w : Int → Int → Int) {n : Int} (e : Int → Int) (h : 0 ≤ n) : valE w (n + 1) e = valE w n e + w n (bitZ e (n + 1) 8) := fZ_s _ _ h
def asgE (n s : Int) (e : Int → Int) : Prop := ∀ m, 0 ≤ m → m < 8 → 0 ≤ e m ∧ e m ≤ n ∧ (0 < e m → zbt s m = 1)
def bestP (w : Int → Int → Int) (n s z : Int) : Prop := (∃ e, asgE n s e ∧ z = valE w n e) ∧ ∀ e, asgE n s e → valE w n e ≤ z
theorem bestP_0 (w : Int → Int → Int) (s : Int) : bestP w 0 s 0 := ⟨⟨fun _ => 0, fun m _ _ => ⟨Int.le_refl 0, Int.le_refl 0, fun q => (Int.lt_irrefl 0 q).elim⟩, rfl⟩, fun e _ => Int.le_refl 0⟩
theorem bitZ_b8 (e : Int → Int) (v : Int) : 0 ≤ bitZ e v 8 ∧ bitZ e v 8 < 256 := bitZ_b e v (m := 8) (by omega)
theorem bit8 (e : Int → Int) (v : Int) {k : Int} (h0 : 0 ≤ k) (h8 : k < 8) : zbt (bitZ e v 8) k = 1 ↔ e k = v := by
  rw [zbt_bitZ e v h0 (by omega)]
  by_cases q : e k = v
  · rw [if_pos ⟨h8, q⟩]; exact ⟨fun _ => q, fun _ => rfl⟩
  · rw [if_neg (fun w => q w.2)]; exact ⟨fun w => absurd w (by decide), fun w => absurd w q⟩
theorem valE_ext (w : Int → Int → Int) {n : Int} {e f : Int → Int} (hn : 0 ≤ n) (h : ∀ v, 1 ≤ v → v ≤ n → ∀ k, 0 ≤ k → k < 8 → (e k = v ↔ f k = v)) : valE w n e = valE w n f := by
  refine fZ_rel (P := fun i x y => x = y) rfl (M := n) (fun i x y q1 q2 q => ?_) n hn (Int.le_refl n)
  have eb : bitZ e (i + 1) 8 = bitZ f (i + 1) 8 := zbt_ext (bitZ_b8 _ _) (bitZ_b8 _ _) (fun k k1 k2 => by
    rw [bit8 e _ k1 k2, bit8 f _ k1 k2]
    exact h (i + 1) (by omega) (by omega) k k1 k2)
  rw [q, eb]
theorem bestP_s {w : Int → Int → Int} {wo b : Int → Int} {n s a z : Int} (hn : 0 ≤ n) (hs : (0 ≤ s ∧ s ≤ a) ∧ a < 256) (hnd : ndZ s a = 0) (ih : ∀ x, 0 ≤ x → x ≤ a → ndZ x a = 0 → bestP w n x (b x)) (hw : ∀ x, 0 ≤ x → x < 256 → ndZ x a = 0 → wo x = w n x) (hsp : spR wo b s z) : bestP w (n + 1) s z := by
  obtain ⟨⟨x, x1, x2⟩, x3⟩ := hsp
  refine ⟨?_, fun e he => ?_⟩
  · have lx := sbZ_le hs.1.1 x1
    have y1 := zxor_le hs.1.1 x1
    obtain ⟨⟨e', g1, g2⟩, -⟩ := ih (zxor s x) y1.2.1 (by omega) (ndZ_sub hs.1.1 y1.2 hnd)
    have hx := hw x x1.1 (by omega) (ndZ_sub hs.1.1 x1 hnd)
    refine ⟨fun m => if zbt x m = 1 then n + 1 else e' m, fun m m1 m2 => ?_, ?_⟩
    · have g := g1 m m1 m2
      by_cases q : zbt x m = 1
      · show 0 ≤ (if zbt x m = 1 then n + 1 else e' m) ∧ (if zbt x m = 1 then n + 1 else e' m) ≤ n + 1 ∧ (0 < (if zbt x m = 1 then n + 1 else e' m) → zbt s m = 1)
        rw [if_pos q]
        exact ⟨by omega, by omega, fun _ => sbZ_bit hs.1.1 x1 m1 q⟩
      · show 0 ≤ (if zbt x m = 1 then n + 1 else e' m) ∧ (if zbt x m = 1 then n + 1 else e' m) ≤ n + 1 ∧ (0 < (if zbt x m = 1 then n + 1 else e' m) → zbt s m = 1)
        rw [if_neg q]
        exact ⟨by omega, by omega, fun h => sbZ_bit hs.1.1 y1.2 m1 (g.2.2 h)⟩
    · rw [valE_s w _ hn, x2, hx, g2]
      have e1 : bitZ (fun m => if zbt x m = 1 then n + 1 else e' m) (n + 1) 8 = x := zbt_ext (bitZ_b8 _ _) ⟨x1.1, by omega⟩ (fun k k1 k2 => by
        rw [bit8 _ _ k1 k2]
        have g := g1 k k1 k2
        by_cases q : zbt x k = 1
        · exact ⟨fun _ => q, fun _ => if_pos q⟩
        · exact ⟨fun h => by rw [if_neg q] at h; omega, fun h => absurd h q⟩)
      have e2 : valE w n (fun m => if zbt x m = 1 then n + 1 else e' m) = valE w n e' := valE_ext w hn (fun v v1 v2 k k1 k2 => by
        have g := g1 k k1 k2
        by_cases q : zbt x k = 1
        · rw [if_pos q]
          refine ⟨fun h => by omega, fun h => ?_⟩
          have h2 := (zbt_xor hs.1.1 x1.1 k1).mp (g.2.2 (by omega))
          rcases h2 with h3 | h3
          · exact absurd q h3.2
          · exact absurd (sbZ_bit hs.1.1 x1 k1 q) h3.1
        · rw [if_neg q])
      rw [e1, e2]
      omega
  · have bx := bitZ_b8 e (n + 1)
    have sx : sbZ (bitZ e (n + 1) 8) s := sbZ_of bx hs.1.1 (fun k k1 k2 q => (he k k1 k2).2.2 (by have := (bit8 e (n + 1) k1 k2).mp q; omega))
    have y1 := zxor_le hs.1.1 sx
    obtain ⟨-, u⟩ := ih (zxor s (bitZ e (n + 1) 8)) y1.2.1 (by omega) (ndZ_sub hs.1.1 y1.2 hnd)
    have hx := hw _ bx.1 bx.2 (ndZ_sub hs.1.1 sx hnd)
    have a1 : asgE n (zxor s (bitZ e (n + 1) 8)) (fun m => if e m = n + 1 then 0 else e m) := fun m m1 m2 => by
      have g := he m m1 m2
      show 0 ≤ (if e m = n + 1 then 0 else e m) ∧ (if e m = n + 1 then 0 else e m) ≤ n ∧ (0 < (if e m = n + 1 then 0 else e m) → zbt (zxor s (bitZ e (n + 1) 8)) m = 1)
      by_cases q : e m = n + 1
      · rw [if_pos q]
        exact ⟨by omega, hn, fun h => absurd h (by decide)⟩
      · rw [if_neg q]
        refine ⟨g.1, by omega, fun h => (zbt_xor hs.1.1 bx.1 m1).mpr (Or.inl ⟨g.2.2 h, fun c => q ((bit8 e (n + 1) m1 m2).mp c)⟩)⟩
    have l1 := u _ a1
    have e2 : valE w n (fun m => if e m = n + 1 then 0 else e m) = valE w n e := valE_ext w hn (fun v v1 v2 k k1 k2 => by
      by_cases q : e k = n + 1
      · rw [if_pos q]; omega
      · rw [if_neg q])
    have l2 := x3 _ sx
    rw [valE_s w _ hn, ← hx]
    rw [e2] at l1
    omega

abbrev rX0_addShipToBest : Room := { frames := 1, cells := 0, slots := 0, locals := 25 }
set_option maxHeartbeats 1000000 in
set_option maxRecDepth 100000 in
theorem c_X0_addShipToBest (l_ : Launch) (D : va_G) (cy : Nat → ClassId) (cr : Nat → Nat) (fo : Int) (wo : Int → Int) (be : Int → Int) (a : Int) (l : Int) (bwo : ∀ j : Int, (-70000) ≤ wo j ∧ wo j ≤ 70000) (bbe : ∀ j : Int, (-300000) ≤ be j ∧ be j ≤ 300000) (ra : -2147483648 ≤ a ∧ a < 2147483648) (rl : -2147483648 ≤ l ∧ l < 2147483648) (ha : 0 ≤ a ∧ a < 256) (hl0 : 0 ≤ l ∧ l ≤ a) (hbb : ∀ x, 0 ≤ x → x < 256 → -200000 ≤ be x ∧ be x ≤ 200000) : CTv l_ D cy yX0_addShipToBest wsX0_addShipToBest rX0_addShipToBest [.ref (cr 0), .int (zi a), .int (zi l)] ([wC cy cr fo wo be]) (fun (u : (Int → Int)) => (∀ x, l ≤ x → x ≤ a → ndZ x a = 0 → spR wo be x (u x)) ∧ (∀ x, u x = be x ∨ (0 ≤ x ∧ x < 256 ∧ spR wo be x (u x))) ∧ (∀ j : Int, (-300000) ≤ u j ∧ u j ≤ 300000)) (fun (u : (Int → Int)) => [wC cy cr fo wo u]) := by
  refine CTv.of RX0 cX0_addShipToBest 4 rfl (by decide) rfl (Nat.le_of_ble_eq_true rfl) ?_
  intro p_ e_ s_ m_ ar_ be_ me_ c_ Q_ A_ ls_ F_ K_ W_ hl hret
  have hl : lv_has ls_ 4 [(0, .ref (cr 0)), (1, .int (zi a)), (2, .int (zi l))] := hl
  obtain ⟨H_, hH_⟩ : ∃ x, x = s_.heap := ⟨_, rfl⟩
  obtain ⟨lo_, hlo_⟩ : ∃ x : List Loc, x = [] := ⟨_, rfl⟩
  have W_ : WD D A_ s_.heap ([wC cy cr fo wo be]) H_ lo_ := by rw [hH_, hlo_]; exact W_
  rw [← hlo_]
  suffices hg_ : W p_ l_ e_ rX0_addShipToBest s_ m_ ar_ be_ me_ c_ H_ lo_ 0 0 Q_ (F0 m_ 0 ls_ []) by rw [hH_] at hg_; exact hg_
  clear hH_ hlo_
  have hinX0 : ∀ w ∈ u_ws RX0 TX0 3, w ∈ wsX0_addShipToBest := fun w h => List.mem_cons_of_mem _ (List.mem_append_right _ h)
  refine lv_iload_n F_.1 F_.2.1 dX0_addShipToBest_0 rfl (lv_at hl 1 rfl) ?_
  refine lv_istore_n (lv' := [(3, .int (zi a)), (0, .ref (cr 0)), (1, .int (zi a)), (2, .int (zi l))]) F_.1 F_.2.1 dX0_addShipToBest_1 rfl hl (by decide) rfl (fun ls_ hl => ?_)
  have L2 : ∀ (n_ : Nat) (x : Int) (f : Int → Int) (bf : ∀ j : Int, (-300000) ≤ f j ∧ f j ≤ 300000) (hx : l - 1 ≤ x ∧ x ≤ a) (hlo : ∀ y, y ≤ x → f y = be y) (hhi : ∀ y, x < y → y ≤ a → ndZ y a = 0 → spR wo be y (f y)) (hk : ∀ y, f y = be y ∨ (0 ≤ y ∧ y < 256 ∧ spR wo be y (f y))) (hm_ : (x - l + 1 : Int) < (n_ : Int)) (ls_ : Array Slot) (H_ : Heap) (lo_ : List Loc), WD D A_ s_.heap ([wC cy cr fo wo f]) H_ lo_ → lv_has ls_ 4 [(3, .int (zi x)), (0, .ref (cr 0)), (1, .int (zi a)), (2, .int (zi l))] → W p_ l_ e_ rX0_addShipToBest s_ m_ ar_ be_ me_ c_ H_ lo_ 0 0 Q_ (F0 m_ 2 ls_ []) := by
    intro n_
    induction n_ with
    | zero =>
      intro x f bf hx hlo hhi hk hm_ ls_ H_ lo_ _ _
      exact absurd hm_ (by omega)
    | succ n_ ih_ =>
      intro x f bf hx hlo hhi hk hm_ ls_ H_ lo_ W_ hl
      have ih2 := ih_
      refine lv_iload_n F_.1 F_.2.1 dX0_addShipToBest_2 rfl (lv_at hl 0 rfl) ?_
      refine lv_iload_n F_.1 F_.2.1 dX0_addShipToBest_3 rfl (lv_at hl 3 rfl) ?_
      refine z_icmp_lt (tgt := 32) F_ (by omega) dX0_addShipToBest_4 (by decide) (fun c4 => ?_) (fun c4 => ?_)
      · exact hret _ _ _ _ f dX0_addShipToBest_32 ⟨(by intro y q1 q2 q3; exact hhi y (by omega) q2 q3), (by exact hk), bf⟩ W_
      · refine lv_iload_n F_.1 F_.2.1 dX0_addShipToBest_7 rfl (lv_at hl 0 rfl) ?_
        refine lv_iload_n F_.1 F_.2.1 dX0_addShipToBest_8 rfl (lv_at hl 2 rfl) ?_
        refine z_iconst F_ dX0_addShipToBest_9 ?_
        refine lv_ixor F_.1 F_.2.1 dX0_addShipToBest_10 ?_
        refine lv_iand F_.1 F_.2.1 dX0_addShipToBest_11 ?_
        rw [zi_nd (s := x) (a := a) (by omega)]
        have nd11 := ndZ_b (s := x) a (by omega)
        refine z_if_ne (tgt := 26) F_ (by omega) dX0_addShipToBest_12 (by decide) (fun c12 => ?_) (fun c12 => ?_)
        · refine z_iinc (lv' := [(3, .int (zi (x + (-1)))), (0, .ref (cr 0)), (1, .int (zi a)), (2, .int (zi l))]) F_ dX0_addShipToBest_26 hl (k := 0) rfl (by decide) rfl (fun ls_ hl => ?_)
          refine z_goto (tgt := 2) F_ dX0_addShipToBest_29 (by decide) ?_
          exact ih2 (x + (-1)) f bf (by first | omega | assumption) (by first | (intro y q; exact hlo y (by omega)) | (intro y q; rw [eLASTDEF, zu_n _ _ (by omega)]; exact hlo y (by omega))) (by first | (intro y q1 q2 q3; rw [eLASTDEF]; by_cases q : y = x; (rw [q, zu_s]; exact hsp); (rw [zu_n _ _ q]; exact hhi y (by omega) q2 q3)) | (intro y q1 q2 q3; by_cases q : y = x; (rw [q] at q3; exact absurd q3 c12); exact hhi y (by omega) q2 q3)) (by first | (intro y; rw [eLASTDEF]; by_cases q : y = x; (rw [q, zu_s]; exact Or.inr ⟨by omega, by omega, hsp⟩); (rw [zu_n _ _ q]; exact hk y)) | exact hk) (by omega) ls_ H_ lo_ W_ (lv_sub hl [0, 1, 2, 3] rfl)
        · refine lv_aload_n F_.1 F_.2.1 dX0_addShipToBest_15 rfl (lv_at hl 1 rfl) ?_
          refine z_get F_ K_ W_ 0 0 1 rfl rfl rfl (C := RX0) (T := TX0) (N := 3) rfl (by decide) hinX0 (List.mem_of_getElem? (i := 1) rfl) dX0_addShipToBest_16 ?_
          refine lv_iload_n F_.1 F_.2.1 dX0_addShipToBest_19 rfl (lv_at hl 0 rfl) ?_
          refine lv_aload_n F_.1 F_.2.1 dX0_addShipToBest_20 rfl (lv_at hl 1 rfl) ?_
          refine lv_iload_n F_.1 F_.2.1 dX0_addShipToBest_21 rfl (lv_at hl 0 rfl) ?_
          refine z_callVip F_ K_ W_ [.int (zi x)] (c_X0_bestSplit l_ D cy cr fo wo f x bwo bf (by first | omega | assumption) (by first | omega | assumption)) 1 rfl gX0_addShipToBest_X0_bestSplit rfl (by decide +kernel) ⟨⟨Nat.le_of_ble_eq_true rfl, Nat.le_of_ble_eq_true rfl⟩, rfl, rfl, Nat.zero_le _, Nat.zero_le _⟩ 0 0 0 rfl rfl rfl rfl hl.1 rfl (Nat.le_of_ble_eq_true rfl) [0] ([] : List Nat) ([] : List va_W) 1 (by decide +kernel) rfl rfl rfl dX0_addShipToBest_22 (fun z_1 _ H_ lo_ hw_ W_ => ?_)
          replace hw_ : (spR wo f x z_1) := hw_
          have f22_v := hw_
          clear hw_
          have hsp : spR wo be x z_1 := spR_lo (by omega) hlo f22_v
          have hzb : -300000 ≤ z_1 ∧ z_1 ≤ 300000 := by
            obtain ⟨⟨y, y1, y2⟩, -⟩ := hsp
            have w1 := bwo y
            have w2 := zxor_b (a := y) (s := x) ⟨y1.1, by have := sbZ_le (by omega) y1; omega⟩ (by omega)
            have w3 := hbb (zxor x y) w2.1 w2.2
            omega
          refine z_iast (sg' := [wC cy cr fo wo (zu f x z_1)]) F_ K_ W_ 0 2 rfl rfl rfl (by omega) (by decide) dX0_addShipToBest_25 (fun H_ lo_ W_ => ?_)
          obtain ⟨be_2, ebe_2⟩ : ∃ x_ : Int → Int, x_ = zu f x z_1 := ⟨_, rfl⟩
          rw [← ebe_2] at W_
          have bbe_2 : ∀ j : Int, (-300000) ≤ be_2 j ∧ be_2 j ≤ 300000 := by rw [ebe_2]; exact zu_b bf (by omega)
          refine z_iinc (lv' := [(3, .int (zi (x + (-1)))), (0, .ref (cr 0)), (1, .int (zi a)), (2, .int (zi l))]) F_ dX0_addShipToBest_26 hl (k := 0) rfl (by decide) rfl (fun ls_ hl => ?_)
          refine z_goto (tgt := 2) F_ dX0_addShipToBest_29 (by decide) ?_
          exact ih2 (x + (-1)) be_2 bbe_2 (by first | omega | assumption) (by first | (intro y q; exact hlo y (by omega)) | (intro y q; rw [ebe_2, zu_n _ _ (by omega)]; exact hlo y (by omega))) (by first | (intro y q1 q2 q3; rw [ebe_2]; by_cases q : y = x; (rw [q, zu_s]; exact hsp); (rw [zu_n _ _ q]; exact hhi y (by omega) q2 q3)) | (intro y q1 q2 q3; by_cases q : y = x; (rw [q] at q3; exact absurd q3 c12); exact hhi y (by omega) q2 q3)) (by first | (intro y; rw [ebe_2]; by_cases q : y = x; (rw [q, zu_s]; exact Or.inr ⟨by omega, by omega, hsp⟩); (rw [zu_n _ _ q]; exact hk y)) | exact hk) (by omega) ls_ H_ lo_ W_ (lv_sub hl [0, 1, 2, 3] rfl)
  exact L2 ((a - l + 1 : Int).toNat + 1) a be bbe (by first | omega | assumption) (by intro y q; rfl) (by intro y q1 q2; omega) (by intro y; exact Or.inl rfl) (by have := Int.self_le_toNat (a - l + 1 : Int); omega) ls_ H_ lo_ W_ (lv_sub hl [0, 1, 2, 3] rfl)
abbrev rX0_find : Room := { frames := 3, cells := 0, slots := 0, locals := 74 }
set_option maxHeartbeats 1000000 in
set_option maxRecDepth 100000 in
theorem c_X0_find (l_ : Launch) (D : va_G) (cy : Nat → ClassId) (cr : Nat → Nat) (fo : Int) (wo : Int → Int) (be : Int → Int) (q : Nat → Nat) (S : Int) (M : Int) (sk : Int → Int) (sc : Int → Int) (mk : Int → Int) (ms : Int → Int) (mp : Int → Int) (d : Int) (bwo : ∀ j : Int, (-70000) ≤ wo j ∧ wo j ≤ 70000) (bbe : ∀ j : Int, (-300000) ≤ be j ∧ be j ≤ 300000) (bS : 0 ≤ S ∧ S ≤ 3) (bM : 0 ≤ M ∧ M ≤ 8) (bsk : ∀ j : Int, 0 ≤ sk j ∧ sk j ≤ 5) (bsc : ∀ j : Int, 0 ≤ sc j ∧ sc j ≤ 99) (bmk : ∀ j : Int, 0 ≤ mk j ∧ mk j ≤ 5) (bms : ∀ j : Int, 0 ≤ ms j ∧ ms j ≤ 9) (bmp : ∀ j : Int, (-1) ≤ mp j ∧ mp j ≤ 2) (rd : -2147483648 ≤ d ∧ d < 2147483648) (hd : 1 ≤ d ∧ d ≤ 30) : CTv l_ D cy yX0_find wsX0_find rX0_find [.ref (cr 0), .ref (q 0), .int (zi d)] ([wC cy cr fo wo be, wI cy q S M sk sc mk ms mp]) (fun (u : (Int) × (Int → Int) × (Int → Int)) => (bestP (fun h_ x_ => wthZ (cntZ mp h_ M) (sumZ mp ms h_ M) (sk h_) d ms h_ x_) S (bitZ mp (-1) M) u.1) ∧ (∀ j : Int, (-70000) ≤ u.2.1 j ∧ u.2.1 j ≤ 70000) ∧ (∀ j : Int, (-300000) ≤ u.2.2 j ∧ u.2.2 j ≤ 300000)) (fun (u : (Int) × (Int → Int) × (Int → Int)) => [wC cy cr u.1 u.2.1 u.2.2, wI cy q S M sk sc mk ms mp]) := by
  refine CTv.of RX0 cX0_find 6 rfl (by decide) rfl (Nat.le_of_ble_eq_true rfl) ?_
  intro p_ e_ s_ m_ ar_ be_ me_ c_ Q_ A_ ls_ F_ K_ W_ hl hret
  have hl : lv_has ls_ 6 [(0, .ref (cr 0)), (1, .ref (q 0)), (2, .int (zi d))] := hl
  obtain ⟨H_, hH_⟩ : ∃ x, x = s_.heap := ⟨_, rfl⟩
  obtain ⟨lo_, hlo_⟩ : ∃ x : List Loc, x = [] := ⟨_, rfl⟩
  have W_ : WD D A_ s_.heap ([wC cy cr fo wo be, wI cy q S M sk sc mk ms mp]) H_ lo_ := by rw [hH_, hlo_]; exact W_
  rw [← hlo_]
  suffices hg_ : W p_ l_ e_ rX0_find s_ m_ ar_ be_ me_ c_ H_ lo_ 0 0 Q_ (F0 m_ 0 ls_ []) by rw [hH_] at hg_; exact hg_
  clear hH_ hlo_
  have hinX0 : ∀ w ∈ u_ws RX0 TX0 3, w ∈ wsX0_find := fun w h => List.mem_cons_of_mem _ (List.mem_append_left _ (List.mem_append_right _ h))
  have hinX4 : ∀ w ∈ u_ws RX4 TX4 11, w ∈ wsX0_find := fun w h => List.mem_cons_of_mem _ (List.mem_append_right _ h)
  refine lv_aload_n F_.1 F_.2.1 dX0_find_0 rfl (lv_at hl 1 rfl) ?_
  refine z_iconst F_ dX0_find_1 ?_
  refine z_callVip F_ K_ W_ [.int (zi (-1))] (c_X4_bitsAt l_ D cy q S M sk sc mk ms mp (-1) (by omega) (by omega) bsk bsc bmk bms bmp (by first | omega | assumption)) 1 rfl gX0_find_X4_bitsAt rfl (by decide +kernel) ⟨⟨Nat.le_of_ble_eq_true rfl, Nat.le_of_ble_eq_true rfl⟩, rfl, rfl, Nat.zero_le _, Nat.zero_le _⟩ 0 0 4 rfl rfl rfl rfl hl.1 rfl (Nat.le_of_ble_eq_true rfl) [1] [0] [wC cy cr fo wo be] 2 (by decide +kernel) rfl rfl rfl dX0_find_2 (fun z_1 _ H_ lo_ hw_ W_ => ?_)
  replace hw_ : (z_1 = bitZ mp (-1) M) := hw_
  have f2_v := hw_
  clear hw_
  have hab0 := bitZ_b mp (-1) (m := M) (by omega)
  have hp8 := zpw_le (show M ≤ 8 by omega)
  have hp7 : zpw 8 = 256 := rfl
  have hab : 0 ≤ bitZ mp (-1) M ∧ bitZ mp (-1) M < 256 := by omega
  refine z_sipush F_ (by decide) dX0_find_5 ?_
  refine z_iand F_ (by omega) dX0_find_8 ?_
  have i_2 : zand z_1 255 = bitZ mp (-1) M := by rw [f2_v]; exact zand_lo hab
  rw [i_2]
  refine lv_istore_n (lv' := [(3, .int (zi (bitZ mp (-1) M))), (0, .ref (cr 0)), (1, .ref (q 0)), (2, .int (zi d))]) F_.1 F_.2.1 dX0_find_9 rfl hl (by decide) rfl (fun ls_ hl => ?_)
  refine z_iconst F_ dX0_find_10 ?_
  refine lv_istore (lv' := [(4, .int (zi 0)), (3, .int (zi (bitZ mp (-1) M))), (0, .ref (cr 0)), (1, .ref (q 0)), (2, .int (zi d))]) F_.1 F_.2.1 dX0_find_11 hl (by decide) rfl (fun ls_ hl => ?_)
  have L13 : ∀ (n_ : Nat) (k : Int) (f : Int → Int) (bf : ∀ j : Int, (-300000) ≤ f j ∧ f j ≤ 300000) (hk : 0 ≤ k ∧ k ≤ 256) (hf : ∀ x, 0 ≤ x → x < k → f x = 0) (hm_ : (256 - k : Int) < (n_ : Int)) (ls_ : Array Slot) (H_ : Heap) (lo_ : List Loc), WD D A_ s_.heap ([wC cy cr fo wo f, wI cy q S M sk sc mk ms mp]) H_ lo_ → lv_has ls_ 6 [(4, .int (zi k)), (3, .int (zi (bitZ mp (-1) M))), (0, .ref (cr 0)), (1, .ref (q 0)), (2, .int (zi d))] → W p_ l_ e_ rX0_find s_ m_ ar_ be_ me_ c_ H_ lo_ 0 0 Q_ (F0 m_ 13 ls_ []) := by
    intro n_
    induction n_ with
    | zero =>
      intro k f bf hk hf hm_ ls_ H_ lo_ _ _
      exact absurd hm_ (by omega)
    | succ n_ ih_ =>
      intro k f bf hk hf hm_ ls_ H_ lo_ W_ hl
      have ih13 := ih_
      refine lv_iload F_.1 F_.2.1 dX0_find_13 (lv_at hl 0 rfl) ?_
      refine z_sipush F_ (by decide) dX0_find_15 ?_
      refine z_icmp_ge (tgt := 35) F_ (by omega) dX0_find_18 (by decide) (fun c18 => ?_) (fun c18 => ?_)
      · have hnd : ndZ (bitZ mp (-1) M) (bitZ mp (-1) M) = 0 := ndZ_self hab
        refine z_iconst F_ dX0_find_35 ?_
        refine lv_istore (lv' := [(4, .int (zi 0)), (3, .int (zi (bitZ mp (-1) M))), (0, .ref (cr 0)), (1, .ref (q 0)), (2, .int (zi d))]) F_.1 F_.2.1 dX0_find_36 hl (by decide) rfl (fun ls_ hl => ?_)
        have L38 : ∀ (n_ : Nat) (h : Int) (w1 : Int → Int) (b1 : Int → Int) (bw1 : ∀ j : Int, (-70000) ≤ w1 j ∧ w1 j ≤ 70000) (bb1 : ∀ j : Int, (-300000) ≤ b1 j ∧ b1 j ≤ 300000) (hh : 0 ≤ h ∧ h ≤ S) (hB1 : h < S → ∀ x, 0 ≤ x → x ≤ (bitZ mp (-1) M) → ndZ x (bitZ mp (-1) M) = 0 → bestP (fun h_ x_ => wthZ (cntZ mp h_ M) (sumZ mp ms h_ M) (sk h_) d ms h_ x_) h x (b1 x)) (hB2 : h = S → bestP (fun h_ x_ => wthZ (cntZ mp h_ M) (sumZ mp ms h_ M) (sk h_) d ms h_ x_) S (bitZ mp (-1) M) (b1 (bitZ mp (-1) M))) (hbb : ∀ x, 0 ≤ x → x < 256 → -(70000 * h) ≤ b1 x ∧ b1 x ≤ 70000 * h) (hm_ : (S - h : Int) < (n_ : Int)) (ls_ : Array Slot) (H_ : Heap) (lo_ : List Loc), WD D A_ s_.heap ([wC cy cr fo w1 b1, wI cy q S M sk sc mk ms mp]) H_ lo_ → lv_has ls_ 6 [(4, .int (zi h)), (3, .int (zi (bitZ mp (-1) M))), (0, .ref (cr 0)), (1, .ref (q 0)), (2, .int (zi d))] → W p_ l_ e_ rX0_find s_ m_ ar_ be_ me_ c_ H_ lo_ 0 0 Q_ (F0 m_ 38 ls_ []) := by
          intro n_
          induction n_ with
          | zero =>
            intro h w1 b1 bw1 bb1 hh hB1 hB2 hbb hm_ ls_ H_ lo_ _ _
            exact absurd hm_ (by omega)
          | succ n_ ih_ =>
            intro h w1 b1 bw1 bb1 hh hB1 hB2 hbb hm_ ls_ H_ lo_ W_ hl
            have ih38 := ih_
            refine lv_iload F_.1 F_.2.1 dX0_find_38 (lv_at hl 0 rfl) ?_
            refine lv_aload_n F_.1 F_.2.1 dX0_find_40 rfl (lv_at hl 3 rfl) ?_
            refine z_get F_ K_ W_ 1 0 0 rfl rfl rfl (C := RX4) (T := TX4) (N := 11) rfl (by decide) hinX4 (List.mem_of_getElem? (i := 2) rfl) dX0_find_41 ?_
            refine z_icmp_ge (tgt := 95) F_ (by omega) dX0_find_44 (by decide) (fun c44 => ?_) (fun c44 => ?_)
            · 
              refine lv_aload_n F_.1 F_.2.1 dX0_find_95 rfl (lv_at hl 2 rfl) ?_
              refine lv_aload_n F_.1 F_.2.1 dX0_find_96 rfl (lv_at hl 2 rfl) ?_
              refine z_get F_ K_ W_ 0 0 1 rfl rfl rfl (C := RX0) (T := TX0) (N := 3) rfl (by decide) hinX0 (List.mem_of_getElem? (i := 1) rfl) dX0_find_97 ?_
              refine lv_iload_n F_.1 F_.2.1 dX0_find_100 rfl (lv_at hl 1 rfl) ?_
              refine z_iald F_ K_ W_ 0 2 rfl rfl (by omega) (by decide) dX0_find_101 ?_
              have b_3 := bb1 (bitZ mp (-1) M)
              refine z_put (sg' := [wC cy cr (b1 (bitZ mp (-1) M)) w1 b1, wI cy q S M sk sc mk ms mp]) F_ K_ W_ 0 0 2 rfl rfl rfl (C := RX0) (T := TX0) (N := 3) rfl ⟨Nat.le_of_ble_eq_true rfl, Nat.le_of_ble_eq_true rfl⟩ tyX0 tyX0_ok nmX0 rfl rfl rfl hinX0 (List.mem_of_getElem? (i := 3) rfl) dX0_find_102 (fun H_ lo_ W_ => ?_)
              exact hret _ _ _ _ (b1 (bitZ mp (-1) M), w1, b1) dX0_find_105 ⟨(by exact hB2 (by omega)), bw1, bb1⟩ W_
            · refine lv_aload_n F_.1 F_.2.1 dX0_find_47 rfl (lv_at hl 2 rfl) ?_
              refine lv_aload_n F_.1 F_.2.1 dX0_find_48 rfl (lv_at hl 3 rfl) ?_
              refine lv_iload F_.1 F_.2.1 dX0_find_49 (lv_at hl 0 rfl) ?_
              refine lv_iload_n F_.1 F_.2.1 dX0_find_51 rfl (lv_at hl 4 rfl) ?_
              refine lv_iload_n F_.1 F_.2.1 dX0_find_52 rfl (lv_at hl 1 rfl) ?_
              refine z_callVv F_ K_ W_ [.ref (q 0), .int (zi h), .int (zi d), .int (zi (bitZ mp (-1) M))] (c_X0_weighSets l_ D cy cr fo w1 b1 q S M sk sc mk ms mp h d (bitZ mp (-1) M) bw1 bb1 (by omega) (by omega) bsk bsc bmk bms bmp (by first | omega | assumption) (by first | omega | assumption) (by first | omega | assumption) (by first | omega | assumption) (by first | omega | assumption) (by first | omega | assumption)) 4 rfl gX0_find_X0_weighSets rfl (by decide +kernel) ⟨⟨Nat.le_of_ble_eq_true rfl, Nat.le_of_ble_eq_true rfl⟩, rfl, rfl, Nat.zero_le _, Nat.zero_le _⟩ 0 0 0 rfl rfl rfl rfl hl.1 rfl (Nat.le_of_ble_eq_true rfl) [0, 1] ([] : List Nat) ([] : List va_W) (fun (u_ : (Int → Int)) => [wC cy cr fo u_ b1, wI cy q S M sk sc mk ms mp]) 2 (by decide +kernel) rfl rfl rfl (fun _ => rfl) (fun _ => rfl) (fun _ => rfl) dX0_find_53 (fun u_ H_ lo_ hw_ W_ => ?_)
              obtain ⟨wo2_5, rfl⟩ : ∃ x, x = u_ := ⟨_, rfl⟩
              have W_ : WD D A_ s_.heap ([wC cy cr fo wo2_5 b1, wI cy q S M sk sc mk ms mp]) H_ lo_ := W_
              replace hw_ : (∀ x, 0 ≤ x → x < 256 → ndZ x (bitZ mp (-1) M) = 0 → wo2_5 x = wthZ (cntZ mp h M) (sumZ mp ms h M) (sk h) d ms h x) ∧ (∀ j : Int, (-70000) ≤ wo2_5 j ∧ wo2_5 j ≤ 70000) := hw_
              obtain ⟨f53_v, f53_B_C_wo⟩ := hw_
              refine lv_iload F_.1 F_.2.1 dX0_find_56 (lv_at hl 0 rfl) ?_
              refine lv_aload_n F_.1 F_.2.1 dX0_find_58 rfl (lv_at hl 3 rfl) ?_
              refine z_get F_ K_ W_ 1 0 0 rfl rfl rfl (C := RX4) (T := TX4) (N := 11) rfl (by decide) hinX4 (List.mem_of_getElem? (i := 2) rfl) dX0_find_59 ?_
              refine z_iconst F_ dX0_find_62 ?_
              refine z_isub F_ dX0_find_63 ?_
              have J72 : ∀ (k72_0 : Int) (g72 : ((¬ h = S - 1) ∧ (k72_0 = 0)) ∨ ((h = S - 1) ∧ (k72_0 = 1))) (ls_ : Array Slot) (H_ : Heap) (lo_ : List Loc), WD D A_ s_.heap ([wC cy cr fo wo2_5 b1, wI cy q S M sk sc mk ms mp]) H_ lo_ → lv_has ls_ 6 [(4, .int (zi h)), (3, .int (zi (bitZ mp (-1) M))), (0, .ref (cr 0)), (1, .ref (q 0)), (2, .int (zi d))] → W p_ l_ e_ rX0_find s_ m_ ar_ be_ me_ c_ H_ lo_ 0 0 Q_ (F0 m_ 72 ls_ [.int (zi k72_0)]) := by
                intro k72_0 g72 ls_ H_ lo_ W_ hl
                refine lv_istore (lv' := [(5, .int (zi k72_0)), (4, .int (zi h)), (3, .int (zi (bitZ mp (-1) M))), (0, .ref (cr 0)), (1, .ref (q 0)), (2, .int (zi d))]) F_.1 F_.2.1 dX0_find_72 hl (by decide) rfl (fun ls_ hl => ?_)
                refine lv_aload_n F_.1 F_.2.1 dX0_find_74 rfl (lv_at hl 3 rfl) ?_
                refine lv_iload_n F_.1 F_.2.1 dX0_find_75 rfl (lv_at hl 2 rfl) ?_
                refine lv_iload F_.1 F_.2.1 dX0_find_76 (lv_at hl 0 rfl) ?_
                refine z_if_eq (tgt := 85) F_ (by omega) dX0_find_78 (by decide) (fun c78 => ?_) (fun c78 => ?_)
                · refine z_iconst F_ dX0_find_85 ?_
                  refine z_callVv F_ K_ W_ [.int (zi (bitZ mp (-1) M)), .int (zi 0)] (c_X0_addShipToBest l_ D cy cr fo wo2_5 b1 (bitZ mp (-1) M) 0 f53_B_C_wo bb1 (by first | omega | assumption) (by first | omega | assumption) (by first | omega | assumption) (by first | omega | assumption) (by intro x q1 q2; have := hbb x q1 q2; omega)) 2 rfl gX0_find_X0_addShipToBest rfl (by decide +kernel) ⟨⟨Nat.le_of_ble_eq_true rfl, Nat.le_of_ble_eq_true rfl⟩, rfl, rfl, Nat.zero_le _, Nat.zero_le _⟩ 0 0 0 rfl rfl rfl rfl hl.1 rfl (Nat.le_of_ble_eq_true rfl) [0] [1] [wI cy q S M sk sc mk ms mp] (fun (u_ : (Int → Int)) => [wC cy cr fo wo2_5 u_, wI cy q S M sk sc mk ms mp]) 2 (by decide +kernel) rfl rfl rfl (fun _ => rfl) (fun _ => rfl) (fun _ => rfl) dX0_find_86 (fun u_ H_ lo_ hw_ W_ => ?_)
                  obtain ⟨be2_7, rfl⟩ : ∃ x, x = u_ := ⟨_, rfl⟩
                  have W_ : WD D A_ s_.heap ([wC cy cr fo wo2_5 be2_7, wI cy q S M sk sc mk ms mp]) H_ lo_ := W_
                  replace hw_ : (∀ x, 0 ≤ x → x ≤ (bitZ mp (-1) M) → ndZ x (bitZ mp (-1) M) = 0 → spR wo2_5 b1 x (be2_7 x)) ∧ (∀ x, be2_7 x = b1 x ∨ (0 ≤ x ∧ x < 256 ∧ spR wo2_5 b1 x (be2_7 x))) ∧ (∀ j : Int, (-300000) ≤ be2_7 j ∧ be2_7 j ≤ 300000) := hw_
                  obtain ⟨f86_v, f86_k, f86_B_C_be⟩ := hw_
                  refine z_iinc (lv' := [(4, .int (zi (h + 1))), (5, .int (zi k72_0)), (3, .int (zi (bitZ mp (-1) M))), (0, .ref (cr 0)), (1, .ref (q 0)), (2, .int (zi d))]) F_ dX0_find_89 hl (k := 1) rfl (by decide) rfl (fun ls_ hl => ?_)
                  refine z_goto (tgt := 38) F_ dX0_find_92 (by decide) ?_
                  exact ih38 (h + 1) wo2_5 be2_7 f53_B_C_wo f86_B_C_be (by first | omega | assumption) (by intro q x q1 q2 q3; exact bestP_s (by omega) (by omega) q3 (hB1 (by omega)) (f53_v) (f86_v x (by omega) q2 q3)) (by intro q; exact q ▸ bestP_s (by omega) (by omega) hnd (hB1 (by omega)) (f53_v) (f86_v (bitZ mp (-1) M) (by omega) (by omega) hnd)) (by intro x q1 q2; rcases f86_k x with q | q; (rw [q]; have := hbb x q1 q2; omega); (obtain ⟨-, -, ⟨y, y1, y2⟩, -⟩ := q; have w1_ := f53_B_C_wo y; have w2_ := zxor_b (a := y) (s := x) ⟨y1.1, by have := sbZ_le (by omega) y1; omega⟩ ⟨q1, q2⟩; have w3_ := hbb (zxor x y) w2_.1 w2_.2; omega)) (by omega) ls_ H_ lo_ W_ (lv_sub hl [0, 2, 3, 4, 5] rfl)
                · refine lv_iload_n F_.1 F_.2.1 dX0_find_81 rfl (lv_at hl 2 rfl) ?_
                  refine z_goto (tgt := 86) F_ dX0_find_82 (by decide) ?_
                  refine z_callVv F_ K_ W_ [.int (zi (bitZ mp (-1) M)), .int (zi (bitZ mp (-1) M))] (c_X0_addShipToBest l_ D cy cr fo wo2_5 b1 (bitZ mp (-1) M) (bitZ mp (-1) M) f53_B_C_wo bb1 (by first | omega | assumption) (by first | omega | assumption) (by first | omega | assumption) (by first | omega | assumption) (by intro x q1 q2; have := hbb x q1 q2; omega)) 2 rfl gX0_find_X0_addShipToBest rfl (by decide +kernel) ⟨⟨Nat.le_of_ble_eq_true rfl, Nat.le_of_ble_eq_true rfl⟩, rfl, rfl, Nat.zero_le _, Nat.zero_le _⟩ 0 0 0 rfl rfl rfl rfl hl.1 rfl (Nat.le_of_ble_eq_true rfl) [0] [1] [wI cy q S M sk sc mk ms mp] (fun (u_ : (Int → Int)) => [wC cy cr fo wo2_5 u_, wI cy q S M sk sc mk ms mp]) 2 (by decide +kernel) rfl rfl rfl (fun _ => rfl) (fun _ => rfl) (fun _ => rfl) dX0_find_86 (fun u_ H_ lo_ hw_ W_ => ?_)
                  obtain ⟨be2_9, rfl⟩ : ∃ x, x = u_ := ⟨_, rfl⟩
                  have W_ : WD D A_ s_.heap ([wC cy cr fo wo2_5 be2_9, wI cy q S M sk sc mk ms mp]) H_ lo_ := W_
                  replace hw_ : (∀ x, (bitZ mp (-1) M) ≤ x → x ≤ (bitZ mp (-1) M) → ndZ x (bitZ mp (-1) M) = 0 → spR wo2_5 b1 x (be2_9 x)) ∧ (∀ x, be2_9 x = b1 x ∨ (0 ≤ x ∧ x < 256 ∧ spR wo2_5 b1 x (be2_9 x))) ∧ (∀ j : Int, (-300000) ≤ be2_9 j ∧ be2_9 j ≤ 300000) := hw_
                  obtain ⟨f86_v, f86_k, f86_B_C_be⟩ := hw_
                  refine z_iinc (lv' := [(4, .int (zi (h + 1))), (5, .int (zi k72_0)), (3, .int (zi (bitZ mp (-1) M))), (0, .ref (cr 0)), (1, .ref (q 0)), (2, .int (zi d))]) F_ dX0_find_89 hl (k := 1) rfl (by decide) rfl (fun ls_ hl => ?_)
                  refine z_goto (tgt := 38) F_ dX0_find_92 (by decide) ?_
                  exact ih38 (h + 1) wo2_5 be2_9 f53_B_C_wo f86_B_C_be (by first | omega | assumption) (by intro q x q1 q2 q3; exact bestP_s (by omega) (by omega) q3 (hB1 (by omega)) (f53_v) (f86_v x (by omega) q2 q3)) (by intro q; exact q ▸ bestP_s (by omega) (by omega) hnd (hB1 (by omega)) (f53_v) (f86_v (bitZ mp (-1) M) (by omega) (by omega) hnd)) (by intro x q1 q2; rcases f86_k x with q | q; (rw [q]; have := hbb x q1 q2; omega); (obtain ⟨-, -, ⟨y, y1, y2⟩, -⟩ := q; have w1_ := f53_B_C_wo y; have w2_ := zxor_b (a := y) (s := x) ⟨y1.1, by have := sbZ_le (by omega) y1; omega⟩ ⟨q1, q2⟩; have w3_ := hbb (zxor x y) w2_.1 w2_.2; omega)) (by omega) ls_ H_ lo_ W_ (lv_sub hl [0, 2, 3, 4, 5] rfl)
              refine z_icmp_ne (tgt := 71) F_ (by omega) dX0_find_64 (by decide) (fun c64 => ?_) (fun c64 => ?_)
              · refine z_iconst F_ dX0_find_71 ?_
                exact J72 0 (by first | omega | grind) ls_ H_ lo_ W_ (lv_sub hl [0, 1, 2, 3, 4] rfl)
              · refine z_iconst F_ dX0_find_67 ?_
                refine z_goto (tgt := 72) F_ dX0_find_68 (by decide) ?_
                exact J72 1 (by first | omega | grind) ls_ H_ lo_ W_ (lv_sub hl [0, 1, 2, 3, 4] rfl)
        exact L38 ((S - 0 : Int).toNat + 1) 0 wo f bwo bf (by first | omega | assumption) (by intro _ x q1 q2 q3; rw [hf x q1 (by omega)]; exact bestP_0 _ _) (by intro q; rw [hf (bitZ mp (-1) M) (by omega) (by omega), ← q]; exact bestP_0 _ _) (by intro x q1 q2; rw [hf x q1 (by omega)]; omega) (by have := Int.self_le_toNat (S - 0 : Int); omega) ls_ H_ lo_ W_ (lv_sub hl [0, 1, 2, 3, 4] rfl)
      · refine lv_aload_n F_.1 F_.2.1 dX0_find_21 rfl (lv_at hl 2 rfl) ?_
        refine z_get F_ K_ W_ 0 0 1 rfl rfl rfl (C := RX0) (T := TX0) (N := 3) rfl (by decide) hinX0 (List.mem_of_getElem? (i := 1) rfl) dX0_find_22 ?_
        refine lv_iload F_.1 F_.2.1 dX0_find_25 (lv_at hl 0 rfl) ?_
        refine z_iconst F_ dX0_find_27 ?_
        refine z_iast (sg' := [wC cy cr fo wo (zu f k 0), wI cy q S M sk sc mk ms mp]) F_ K_ W_ 0 2 rfl rfl rfl (by omega) (by decide) dX0_find_28 (fun H_ lo_ W_ => ?_)
        obtain ⟨be_10, ebe_10⟩ : ∃ x_ : Int → Int, x_ = zu f k 0 := ⟨_, rfl⟩
        rw [← ebe_10] at W_
        have bbe_10 : ∀ j : Int, (-300000) ≤ be_10 j ∧ be_10 j ≤ 300000 := by rw [ebe_10]; exact zu_b bf (by omega)
        refine z_iinc (lv' := [(4, .int (zi (k + 1))), (3, .int (zi (bitZ mp (-1) M))), (0, .ref (cr 0)), (1, .ref (q 0)), (2, .int (zi d))]) F_ dX0_find_29 hl (k := 0) rfl (by decide) rfl (fun ls_ hl => ?_)
        refine z_goto (tgt := 13) F_ dX0_find_32 (by decide) ?_
        exact ih13 (k + 1) be_10 bbe_10 (by first | omega | assumption) (by intro x q1 q2; rw [ebe_10, zu_at]; split; rfl; exact hf x q1 (by omega)) (by omega) ls_ H_ lo_ W_ (lv_sub hl [0, 1, 2, 3, 4] rfl)
  exact L13 ((256 - 0 : Int).toNat + 1) 0 be bbe (by first | omega | assumption) (by intro x q1 q2; omega) (by have := Int.self_le_toNat (256 - 0 : Int); omega) ls_ H_ lo_ W_ (lv_sub hl [0, 1, 2, 3, 4] rfl)
