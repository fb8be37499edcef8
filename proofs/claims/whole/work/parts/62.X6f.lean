/-- the token from st to en spells the k-th constant -/
def isW (xb : Int → Int) (st en : Int) (k : Nat) : Prop := en - st = ceL k ∧ ∀ j, 0 ≤ j → j < ceL k → xb (st + j) = ceC k j
theorem wW_all : (∀ j, j < 6 → ((se_byt.getD 0 []).getD j 0).toInt = cwZ 105 115 108 97 110 100 (j : Int)) ∧ (∀ j, j < 4 → ((se_byt.getD 1 []).getD j 0).toInt = cwZ 115 104 105 112 0 0 (j : Int)) ∧ (∀ j, j < 3 → ((se_byt.getD 2 []).getD j 0).toInt = cwZ 109 97 110 0 0 0 (j : Int)) ∧ (∀ j, j < 4 → ((se_byt.getD 3 []).getD j 0).toInt = cwZ 99 97 108 108 0 0 (j : Int)) ∧ (∀ j, j < 5 → ((se_byt.getD 4 []).getD j 0).toInt = cwZ 98 111 97 114 100 0 (j : Int)) := by decide +kernel
theorem isW_wd {yb : Int → Int} {bl s : Int} {k n : Nat} {c : Int → Int} (ht : tK yb bl s = 1) (hn : ceL k = (n : Int)) (hc : ∀ j : Nat, j < n → ((se_byt.getD k []).getD j 0).toInt = c (j : Int)) : wdS yb bl s n c ↔ isW yb (tA yb bl s) (tE yb bl s) k := by
  have e : ∀ j : Int, 0 ≤ j → j < (n : Int) → ceC k j = c j := fun j h1 h2 => by
    have := hc j.toNat (by omega)
    rw [Int.toNat_of_nonneg h1] at this
    exact this
  constructor
  · intro q
    exact ⟨by rw [hn]; exact q.2.1, fun j h1 h2 => by rw [hn] at h2; rw [e j h1 h2]; exact q.2.2 j h1 h2⟩
  · intro q
    exact ⟨ht, by rw [← hn]; exact q.1, fun j h1 h2 => by rw [← e j h1 h2]; exact q.2 j h1 (by rw [hn]; exact h2)⟩
noncomputable def itmR (yb : Int → Int) (bl s f : Int) (g : Int → Int) : Int × Int × (Int → Int) := if f = 1 then itm0 yb bl s g else itmN yb bl s g
theorem itm_x {yb : Int → Int} {bl s : Int} {g : Int → Int} (f : Int) (ht : ¬ tK yb bl s = 1) : itmR yb bl s f g = (0, tA yb bl s, g) := by
  have e : ∀ (n : Int) (c : Int → Int), ¬ isP (wdS yb bl s n c) = 1 := fun n c => isP_0 (fun q => ht q.1)
  unfold itmR
  split
  · rw [itm0, if_neg (e _ _)]
  · rw [itmN, if_neg (e _ _), if_neg (e _ _), if_neg (e _ _), if_neg (e _ _)]
theorem cls_0 {yb : Int → Int} {bl : Int} {r : Int × Int × (Int → Int)} (h : r.1 = 0) : clsF yb bl r = r := by
  rw [clsF, if_neg (by omega)]
theorem cls_1 {yb : Int → Int} {bl : Int} {r : Int × Int × (Int → Int)} (h : r.1 = 1) (ht : tK yb bl r.2.1 = 3) : clsF yb bl r = (1, tE yb bl r.2.1, r.2.2) := by
  rw [clsF, if_pos h, if_pos ht]
theorem cls_2 {yb : Int → Int} {bl : Int} {r : Int × Int × (Int → Int)} (h : r.1 = 1) (ht : ¬ tK yb bl r.2.1 = 3) : clsF yb bl r = (0, tA yb bl r.2.1, r.2.2) := by
  rw [clsF, if_pos h, if_neg ht]
theorem tok_3 {yb : Int → Int} {bl s a e v : Int} (h : TokR yb bl s 3 a e v) : e = a + 1 := by
  obtain ⟨-, h5, -⟩ := h
  rcases h5 with q | q | q
  · omega
  · exact q.2.2.2
  · have := q.2.2.2
    split at this <;> omega
theorem z_blw {z : Int} {P N B : Prop} (h : ((z = 1 ∧ P) ∨ (z = 0 ∧ N)) ∧ B) : narrow .boolean (.int (zi z)) = .int (zi z) := z_bool (h.1.elim (fun q => Or.inr q.1) (fun q => Or.inl q.1))

abbrev rX6_isWord : Room := { frames := 4, cells := 0, slots := 0, locals := 85 }
set_option maxHeartbeats 1000000 in
set_option maxRecDepth 100000 in
theorem c_X6_isWord (l_ : Launch) (D : va_G) (cy : Nat → ClassId) (sa sv : Nat → Nat) (x : Nat → Nat) (ln : Int) (tok : Int) (st : Int) (en : Int) (va : Int) (xb : Int → Int) (k : Nat) (bxb : ∀ j : Int, 0 ≤ xb j ∧ xb j ≤ 127) (hk : k < 5) (hln : 0 ≤ ln ∧ ln ≤ 150) (hse : 0 ≤ st ∧ st ≤ en ∧ en ≤ ln) : CTis l_ D cy sa sv yX6_isWord wsX6_isWord rX6_isWord [.ref (x 0), .ref (sa k)] ([wX cy x ln tok st en va xb]) (fun (z : Int) (u : Unit) => ((z = 1 ∧ isW xb st en k) ∨ (z = 0 ∧ ¬ isW xb st en k))) (fun (_ : Unit) => [wX cy x ln tok st en va xb]) := by
  refine CTis.of RX6 cX6_isWord 3 rfl (by decide) rfl (fun z u hz => z_bl hz) (Nat.le_of_ble_eq_true rfl) ?_
  intro p_ e_ s_ m_ ar_ be_ me_ c_ Q_ A_ ls_ F_ K_ W_ E_ hl hret
  have hl : lv_has ls_ 3 [(0, .ref (x 0)), (1, .ref (sa k))] := hl
  obtain ⟨H_, hH_⟩ : ∃ x, x = s_.heap := ⟨_, rfl⟩
  obtain ⟨lo_, hlo_⟩ : ∃ x : List Loc, x = [] := ⟨_, rfl⟩
  have W_ : WD D A_ s_.heap ([wX cy x ln tok st en va xb]) H_ lo_ := by rw [hH_, hlo_]; exact W_
  rw [← hlo_]
  suffices hg_ : W p_ l_ e_ rX6_isWord s_ m_ ar_ be_ me_ c_ H_ lo_ 0 0 Q_ (F0 m_ 0 ls_ []) by rw [hH_] at hg_; exact hg_
  clear hH_ hlo_
  have hinX6 : ∀ w ∈ u_ws RX6 TX6 6, w ∈ wsX6_isWord := fun w h => List.mem_cons_of_mem _ (List.mem_append_right _ h)
  have hwl := ceL_b hk
  refine lv_aload_n F_.1 F_.2.1 dX6_isWord_0 rfl (lv_at hl 1 rfl) ?_
  refine z_callVisp F_ K_ W_ E_ [] (c_J0_length_8abf5 l_ D cy sa sv k (by first | omega | assumption)) 0 rfl gX6_isWord_J0_length_8abf5 rfl (by decide +kernel) ⟨⟨Nat.le_of_ble_eq_true rfl, Nat.le_of_ble_eq_true rfl⟩, rfl, rfl, Nat.zero_le _, Nat.zero_le _⟩ (vk_recv E_.1 hk W_.2.1) hl.1 rfl (Nat.le_of_ble_eq_true rfl) ([] : List Nat) [0] [wX cy x ln tok st en va xb] 1 (by decide +kernel) rfl rfl rfl dX6_isWord_1 (fun z_1 _ H_ lo_ hw_ W_ => ?_)
  replace hw_ : (z_1 = ceL k) := hw_
  have f1_v := hw_
  clear hw_
  have f1_v := f1_v.symm
  subst f1_v
  refine lv_aload_n F_.1 F_.2.1 dX6_isWord_4 rfl (lv_at hl 0 rfl) ?_
  refine z_get F_ K_ W_ 0 0 4 rfl rfl rfl (C := RX6) (T := TX6) (N := 6) rfl (by decide) hinX6 (List.mem_of_getElem? (i := 1) rfl) dX6_isWord_5 ?_
  refine lv_aload_n F_.1 F_.2.1 dX6_isWord_8 rfl (lv_at hl 0 rfl) ?_
  refine z_get F_ K_ W_ 0 0 3 rfl rfl rfl (C := RX6) (T := TX6) (N := 6) rfl (by decide) hinX6 (List.mem_of_getElem? (i := 2) rfl) dX6_isWord_9 ?_
  refine z_isub F_ dX6_isWord_12 ?_
  refine z_icmp_ne (tgt := 34) F_ (by omega) dX6_isWord_13 (by decide) (fun c13 => ?_) (fun c13 => ?_)
  · refine z_iconst F_ dX6_isWord_34 ?_
    exact hret _ _ _ _ 0 () dX6_isWord_35 (by exact Or.inr ⟨rfl, fun q => by have h_ := q.1; omega⟩) W_
  · refine lv_aload_n F_.1 F_.2.1 dX6_isWord_16 rfl (lv_at hl 0 rfl) ?_
    refine z_get F_ K_ W_ 0 0 3 rfl rfl rfl (C := RX6) (T := TX6) (N := 6) rfl (by decide) hinX6 (List.mem_of_getElem? (i := 2) rfl) dX6_isWord_17 ?_
    refine z_if_lt (tgt := 34) F_ (by omega) dX6_isWord_20 (by decide) (fun c20 => ?_) (fun c20 => ?_)
    · refine z_iconst F_ dX6_isWord_34 ?_
      exact hret _ _ _ _ 0 () dX6_isWord_35 (by exact Or.inr ⟨rfl, fun q => by have h_ := q.1; omega⟩) W_
    · refine lv_aload_n F_.1 F_.2.1 dX6_isWord_23 rfl (lv_at hl 0 rfl) ?_
      refine z_get F_ K_ W_ 0 0 4 rfl rfl rfl (C := RX6) (T := TX6) (N := 6) rfl (by decide) hinX6 (List.mem_of_getElem? (i := 1) rfl) dX6_isWord_24 ?_
      refine lv_aload_n F_.1 F_.2.1 dX6_isWord_27 rfl (lv_at hl 0 rfl) ?_
      refine z_get F_ K_ W_ 0 0 1 rfl rfl rfl (C := RX6) (T := TX6) (N := 6) rfl (by decide) hinX6 (List.mem_of_getElem? (i := 3) rfl) dX6_isWord_28 ?_
      refine z_icmp_le (tgt := 36) F_ (by omega) dX6_isWord_31 (by decide) (fun c31 => ?_) (fun c31 => ?_)
      · refine z_iconst F_ dX6_isWord_36 ?_
        refine lv_istore_n (lv' := [(2, .int (zi 0)), (0, .ref (x 0)), (1, .ref (sa k))]) F_.1 F_.2.1 dX6_isWord_37 rfl hl (by decide) rfl (fun ls_ hl => ?_)
        have L38 : ∀ (n_ : Nat) (i : Int) (hi : 0 ≤ i ∧ i ≤ ceL k) (hrun : ∀ j, 0 ≤ j → j < i → xb (st + j) = ceC k j) (hm_ : (ceL k - i : Int) < (n_ : Int)) (ls_ : Array Slot) (H_ : Heap) (lo_ : List Loc), WD D A_ s_.heap ([wX cy x ln tok st en va xb]) H_ lo_ → lv_has ls_ 3 [(2, .int (zi i)), (0, .ref (x 0)), (1, .ref (sa k))] → W p_ l_ e_ rX6_isWord s_ m_ ar_ be_ me_ c_ H_ lo_ 0 0 Q_ (F0 m_ 38 ls_ []) := by
          intro n_
          induction n_ with
          | zero =>
            intro i hi hrun hm_ ls_ H_ lo_ _ _
            exact absurd hm_ (by omega)
          | succ n_ ih_ =>
            intro i hi hrun hm_ ls_ H_ lo_ W_ hl
            have ih38 := ih_
            refine lv_iload_n F_.1 F_.2.1 dX6_isWord_38 rfl (lv_at hl 0 rfl) ?_
            refine lv_aload_n F_.1 F_.2.1 dX6_isWord_39 rfl (lv_at hl 2 rfl) ?_
            refine z_callVisp F_ K_ W_ E_ [] (c_J0_length_8abf5 l_ D cy sa sv k (by first | omega | assumption)) 0 rfl gX6_isWord_J0_length_8abf5 rfl (by decide +kernel) ⟨⟨Nat.le_of_ble_eq_true rfl, Nat.le_of_ble_eq_true rfl⟩, rfl, rfl, Nat.zero_le _, Nat.zero_le _⟩ (vk_recv E_.1 hk W_.2.1) hl.1 rfl (Nat.le_of_ble_eq_true rfl) ([] : List Nat) [0] [wX cy x ln tok st en va xb] 1 (by decide +kernel) rfl rfl rfl dX6_isWord_40 (fun z_2 _ H_ lo_ hw_ W_ => ?_)
            replace hw_ : (z_2 = ceL k) := hw_
            have f40_v := hw_
            clear hw_
            have f40_v := f40_v.symm
            subst f40_v
            refine z_icmp_ge (tgt := 73) F_ (by omega) dX6_isWord_43 (by decide) (fun c43 => ?_) (fun c43 => ?_)
            · refine z_iconst F_ dX6_isWord_73 ?_
              exact hret _ _ _ _ 1 () dX6_isWord_74 (by exact Or.inl ⟨rfl, by omega, fun j q1 q2 => hrun j q1 (by omega)⟩) W_
            · refine lv_aload_n F_.1 F_.2.1 dX6_isWord_46 rfl (lv_at hl 2 rfl) ?_
              refine lv_iload_n F_.1 F_.2.1 dX6_isWord_47 rfl (lv_at hl 0 rfl) ?_
              refine z_callVisp F_ K_ W_ E_ [.int (zi i)] (c_J0_charAt_5068e l_ D cy sa sv k i (by first | omega | assumption) (by omega)) 1 rfl gX6_isWord_J0_charAt_5068e rfl (by decide +kernel) ⟨⟨Nat.le_of_ble_eq_true rfl, Nat.le_of_ble_eq_true rfl⟩, rfl, rfl, Nat.zero_le _, Nat.zero_le _⟩ (vk_recv E_.1 hk W_.2.1) hl.1 rfl (Nat.le_of_ble_eq_true rfl) ([] : List Nat) [0] [wX cy x ln tok st en va xb] 1 (by decide +kernel) rfl rfl rfl dX6_isWord_48 (fun z_3 _ H_ lo_ hw_ W_ => ?_)
              replace hw_ : (z_3 = ceC k i) := hw_
              have f48_v := hw_
              clear hw_
              have f48_v := f48_v.symm
              subst f48_v
              have hwc := ceC_b (j := i) hk (by omega)
              refine lv_aload_n F_.1 F_.2.1 dX6_isWord_51 rfl (lv_at hl 1 rfl) ?_
              refine z_get F_ K_ W_ 0 0 0 rfl rfl rfl (C := RX6) (T := TX6) (N := 6) rfl (by decide) hinX6 (List.mem_of_getElem? (i := 4) rfl) dX6_isWord_52 ?_
              refine lv_aload_n F_.1 F_.2.1 dX6_isWord_55 rfl (lv_at hl 1 rfl) ?_
              refine z_get F_ K_ W_ 0 0 3 rfl rfl rfl (C := RX6) (T := TX6) (N := 6) rfl (by decide) hinX6 (List.mem_of_getElem? (i := 2) rfl) dX6_isWord_56 ?_
              refine lv_iload_n F_.1 F_.2.1 dX6_isWord_59 rfl (lv_at hl 0 rfl) ?_
              refine z_iadd F_ dX6_isWord_60 ?_
              refine z_bald F_ K_ W_ 0 1 rfl rfl (by omega) (by decide) dX6_isWord_61 ?_
              have b_4 := bxb (st + i)
              refine z_icmp_eq (tgt := 67) F_ (by omega) dX6_isWord_62 (by decide) (fun c62 => ?_) (fun c62 => ?_)
              · refine z_iinc (lv' := [(2, .int (zi (i + 1))), (0, .ref (x 0)), (1, .ref (sa k))]) F_ dX6_isWord_67 hl (k := 0) rfl (by decide) rfl (fun ls_ hl => ?_)
                refine z_goto (tgt := 38) F_ dX6_isWord_70 (by decide) ?_
                exact ih38 (i + 1) (by first | omega | assumption) (by intro j q1 q2; rcases Int.lt_or_eq_of_le (show j ≤ i by omega) with q | q; exact hrun j q1 q; (rw [q]; exact c62.symm)) (by omega) ls_ H_ lo_ W_ (lv_sub hl [0, 1, 2] rfl)
              · refine z_iconst F_ dX6_isWord_65 ?_
                exact hret _ _ _ _ 0 () dX6_isWord_66 (by exact Or.inr ⟨rfl, fun q => c62 (q.2 i hi.1 (by omega)).symm⟩) W_
        exact L38 ((ceL k - 0 : Int).toNat + 1) 0 (by first | omega | assumption) (by intro j q1 q2; omega) (by have := Int.self_le_toNat (ceL k - 0 : Int); omega) ls_ H_ lo_ W_ (lv_sub hl [0, 1, 2] rfl)
      · refine z_iconst F_ dX6_isWord_34 ?_
        exact hret _ _ _ _ 0 () dX6_isWord_35 (by exact Or.inr ⟨rfl, fun q => by have h_ := q.1; omega⟩) W_
