abbrev rX5_need : Room := { frames := 0, cells := 0, slots := 0, locals := 0 }
set_option maxHeartbeats 1000000 in
set_option maxRecDepth 100000 in
/-- need -/
theorem c_X5_need (l_ : Launch) (D : va_G) (cy : Nat → ClassId) (kd : Int) (d : Int) (k : Int) (rkd : -2147483648 ≤ kd ∧ kd < 2147483648) (rd : -2147483648 ≤ d ∧ d < 2147483648) (rk : -2147483648 ≤ k ∧ k < 2147483648) (hd : 1 ≤ d ∧ d ≤ 30) (hk : 0 ≤ k ∧ k ≤ 99) : CTi l_ D cy yX5_need wsX5_need rX5_need [.int (zi kd), .int (zi d), .int (zi k)] (([] : List va_W)) (fun (z : Int) (u : Unit) => (z = needZ kd d k)) (fun (_ : Unit) => ([] : List va_W)) := by
  refine CTi.of RX5 cX5_need 6 rfl (by decide) rfl (fun z u hz => rfl) (Nat.le_of_ble_eq_true rfl) ?_
  intro p_ e_ s_ m_ ar_ be_ me_ c_ Q_ A_ ls_ F_ K_ W_ hl hret
  have hl : lv_has ls_ 6 [(0, .int (zi kd)), (1, .int (zi d)), (2, .int (zi k))] := hl
  obtain ⟨H_, hH_⟩ : ∃ x, x = s_.heap := ⟨_, rfl⟩
  obtain ⟨lo_, hlo_⟩ : ∃ x : List Loc, x = [] := ⟨_, rfl⟩
  have W_ : WD D A_ s_.heap (([] : List va_W)) H_ lo_ := by rw [hH_, hlo_]; exact W_
  rw [← hlo_]
  suffices hg_ : W p_ l_ e_ rX5_need s_ m_ ar_ be_ me_ c_ H_ lo_ 0 0 Q_ (F0 m_ 0 ls_ []) by rw [hH_] at hg_; exact hg_
  clear hH_ hlo_
  refine z_iconst F_ dX5_need_0 ?_
  refine lv_iload_n F_.1 F_.2.1 dX5_need_1 rfl (lv_at hl 1 rfl) ?_
  refine z_imul F_ dX5_need_2 ?_
  refine lv_istore_n (lv' := [(3, .int (zi (2 * d))), (0, .int (zi kd)), (1, .int (zi d)), (2, .int (zi k))]) F_.1 F_.2.1 dX5_need_3 rfl hl (by decide) rfl (fun ls_ hl => ?_)
  refine lv_iload_n F_.1 F_.2.1 dX5_need_4 rfl (lv_at hl 0 rfl) ?_
  refine z_iconst F_ dX5_need_5 ?_
  refine z_iadd F_ dX5_need_6 ?_
  refine lv_istore (lv' := [(4, .int (zi ((2 * d) + 4))), (3, .int (zi (2 * d))), (0, .int (zi kd)), (1, .int (zi d)), (2, .int (zi k))]) F_.1 F_.2.1 dX5_need_7 hl (by decide) rfl (fun ls_ hl => ?_)
  refine lv_iload_n F_.1 F_.2.1 dX5_need_9 rfl (lv_at hl 1 rfl) ?_
  refine z_iconst F_ dX5_need_10 ?_
  refine z_iadd F_ dX5_need_11 ?_
  refine z_iconst F_ dX5_need_12 ?_
  refine z_idiv F_ (by omega) dX5_need_13 ?_
  refine lv_istore (lv' := [(5, .int (zi (((2 * d) + 1) / 2))), (4, .int (zi ((2 * d) + 4))), (3, .int (zi (2 * d))), (0, .int (zi kd)), (1, .int (zi d)), (2, .int (zi k))]) F_.1 F_.2.1 dX5_need_14 hl (by decide) rfl (fun ls_ hl => ?_)
  refine lv_iload_n F_.1 F_.2.1 dX5_need_16 rfl (lv_at hl 3 rfl) ?_
  rcases (show kd = 1 ∨ kd = 2 ∨ kd = 3 ∨ kd = 4 ∨ kd = 5 ∨ (kd < 1 ∨ 5 < kd) by omega) with c17 | c17 | c17 | c17 | c17 | c17
  · refine z_tabIn (tgt := 52) F_ 1 c17 ⟨by omega, by decide, by decide⟩ dX5_need_17 rfl (by decide) ?_
    refine lv_iload F_.1 F_.2.1 dX5_need_52 (lv_at hl 1 rfl) ?_
    exact hret _ _ _ _ ((2 * d) + 4) () dX5_need_54 (by simp only [needZ]; repeat (first | omega | split)) W_
  · refine z_tabIn (tgt := 55) F_ 2 c17 ⟨by omega, by decide, by decide⟩ dX5_need_17 rfl (by decide) ?_
    refine lv_iload F_.1 F_.2.1 dX5_need_55 (lv_at hl 0 rfl) ?_
    exact hret _ _ _ _ (((2 * d) + 1) / 2) () dX5_need_57 (by simp only [needZ]; repeat (first | omega | split)) W_
  · refine z_tabIn (tgt := 58) F_ 3 c17 ⟨by omega, by decide, by decide⟩ dX5_need_17 rfl (by decide) ?_
    refine lv_iload F_.1 F_.2.1 dX5_need_58 (lv_at hl 1 rfl) ?_
    refine z_iconst F_ dX5_need_60 ?_
    refine lv_iload_n F_.1 F_.2.1 dX5_need_61 rfl (lv_at hl 5 rfl) ?_
    refine z_imul F_ dX5_need_62 ?_
    refine z_isub F_ dX5_need_63 ?_
    refine z_iconst F_ dX5_need_64 ?_
    refine z_icmp_ge (tgt := 72) F_ (by omega) dX5_need_65 (by decide) (fun c65 => ?_) (fun c65 => ?_)
    · refine lv_iload F_.1 F_.2.1 dX5_need_72 (lv_at hl 1 rfl) ?_
      refine z_iconst F_ dX5_need_74 ?_
      refine lv_iload_n F_.1 F_.2.1 dX5_need_75 rfl (lv_at hl 5 rfl) ?_
      refine z_imul F_ dX5_need_76 ?_
      refine z_isub F_ dX5_need_77 ?_
      exact hret _ _ _ _ (((2 * d) + 4) - (2 * k)) () dX5_need_78 (by simp only [needZ]; repeat (first | omega | split)) W_
    · refine z_iconst F_ dX5_need_68 ?_
      refine z_goto (tgt := 78) F_ dX5_need_69 (by decide) ?_
      exact hret _ _ _ _ 1 () dX5_need_78 (by simp only [needZ]; repeat (first | omega | split)) W_
  · refine z_tabIn (tgt := 79) F_ 4 c17 ⟨by omega, by decide, by decide⟩ dX5_need_17 rfl (by decide) ?_
    refine lv_iload_n F_.1 F_.2.1 dX5_need_79 rfl (lv_at hl 5 rfl) ?_
    refine z_iconst F_ dX5_need_80 ?_
    refine z_icmp_lt (tgt := 90) F_ (by omega) dX5_need_81 (by decide) (fun c81 => ?_) (fun c81 => ?_)
    · refine lv_iload_n F_.1 F_.2.1 dX5_need_90 rfl (lv_at hl 2 rfl) ?_
      exact hret _ _ _ _ (2 * d) () dX5_need_91 (by simp only [needZ]; repeat (first | omega | split)) W_
    · refine lv_iload_n F_.1 F_.2.1 dX5_need_84 rfl (lv_at hl 2 rfl) ?_
      refine z_iconst F_ dX5_need_85 ?_
      refine z_iadd F_ dX5_need_86 ?_
      refine z_goto (tgt := 91) F_ dX5_need_87 (by decide) ?_
      exact hret _ _ _ _ ((2 * d) + 5) () dX5_need_91 (by simp only [needZ]; repeat (first | omega | split)) W_
  · refine z_tabIn (tgt := 92) F_ 5 c17 ⟨by omega, by decide, by decide⟩ dX5_need_17 rfl (by decide) ?_
    refine lv_iload_n F_.1 F_.2.1 dX5_need_92 rfl (lv_at hl 5 rfl) ?_
    refine z_iconst F_ dX5_need_93 ?_
    refine z_icmp_gt (tgt := 109) F_ (by omega) dX5_need_94 (by decide) (fun c94 => ?_) (fun c94 => ?_)
    · refine lv_iload F_.1 F_.2.1 dX5_need_109 (lv_at hl 0 rfl) ?_
      exact hret _ _ _ _ (((2 * d) + 1) / 2) () dX5_need_111 (by simp only [needZ]; repeat (first | omega | split)) W_
    · refine lv_iload F_.1 F_.2.1 dX5_need_97 (lv_at hl 0 rfl) ?_
      refine z_bipush F_ (by decide) dX5_need_99 ?_
      refine z_icmp_le (tgt := 109) F_ (by omega) dX5_need_101 (by decide) (fun c101 => ?_) (fun c101 => ?_)
      · refine lv_iload F_.1 F_.2.1 dX5_need_109 (lv_at hl 0 rfl) ?_
        exact hret _ _ _ _ (((2 * d) + 1) / 2) () dX5_need_111 (by simp only [needZ]; repeat (first | omega | split)) W_
      · refine z_bipush F_ (by decide) dX5_need_104 ?_
        refine z_goto (tgt := 111) F_ dX5_need_106 (by decide) ?_
        exact hret _ _ _ _ 9 () dX5_need_111 (by simp only [needZ]; repeat (first | omega | split)) W_
  · refine z_tabOut (tgt := 112) F_ ⟨by omega, c17⟩ dX5_need_17 (by decide) ?_
    refine lv_iload_n F_.1 F_.2.1 dX5_need_112 rfl (lv_at hl 2 rfl) ?_
    exact hret _ _ _ _ (2 * d) () dX5_need_113 (by simp only [needZ]; repeat (first | omega | split)) W_
abbrev rX5_liked : Room := { frames := 0, cells := 0, slots := 0, locals := 0 }
set_option maxHeartbeats 1000000 in
set_option maxRecDepth 100000 in
/-- liked -/
theorem c_X5_liked (l_ : Launch) (D : va_G) (cy : Nat → ClassId) (kd : Int) (t : Int) (g : Int) (rkd : -2147483648 ≤ kd ∧ kd < 2147483648) (rt : -2147483648 ≤ t ∧ t < 2147483648) (rg : -2147483648 ≤ g ∧ g < 2147483648) (ht : 0 ≤ t ∧ t ≤ 9) (hg : 0 ≤ g ∧ g ≤ 99) : CTi l_ D cy yX5_liked wsX5_liked rX5_liked [.int (zi kd), .int (zi t), .int (zi g)] (([] : List va_W)) (fun (z : Int) (u : Unit) => (z = likedZ kd t g)) (fun (_ : Unit) => ([] : List va_W)) := by
  refine CTi.of RX5 cX5_liked 6 rfl (by decide) rfl (fun z u hz => rfl) (Nat.le_of_ble_eq_true rfl) ?_
  intro p_ e_ s_ m_ ar_ be_ me_ c_ Q_ A_ ls_ F_ K_ W_ hl hret
  have hl : lv_has ls_ 6 [(0, .int (zi kd)), (1, .int (zi t)), (2, .int (zi g))] := hl
  obtain ⟨H_, hH_⟩ : ∃ x, x = s_.heap := ⟨_, rfl⟩
  obtain ⟨lo_, hlo_⟩ : ∃ x : List Loc, x = [] := ⟨_, rfl⟩
  have W_ : WD D A_ s_.heap (([] : List va_W)) H_ lo_ := by rw [hH_, hlo_]; exact W_
  rw [← hlo_]
  suffices hg_ : W p_ l_ e_ rX5_liked s_ m_ ar_ be_ me_ c_ H_ lo_ 0 0 Q_ (F0 m_ 0 ls_ []) by rw [hH_] at hg_; exact hg_
  clear hH_ hlo_
  refine lv_iload_n F_.1 F_.2.1 dX5_liked_0 rfl (lv_at hl 1 rfl) ?_
  refine lv_istore_n (lv' := [(3, .int (zi t)), (0, .int (zi kd)), (1, .int (zi t)), (2, .int (zi g))]) F_.1 F_.2.1 dX5_liked_1 rfl hl (by decide) rfl (fun ls_ hl => ?_)
  refine lv_iload_n F_.1 F_.2.1 dX5_liked_2 rfl (lv_at hl 0 rfl) ?_
  refine z_iconst F_ dX5_liked_3 ?_
  refine z_iadd F_ dX5_liked_4 ?_
  refine lv_istore (lv' := [(4, .int (zi (t + 5))), (3, .int (zi t)), (0, .int (zi kd)), (1, .int (zi t)), (2, .int (zi g))]) F_.1 F_.2.1 dX5_liked_5 hl (by decide) rfl (fun ls_ hl => ?_)
  refine lv_iload_n F_.1 F_.2.1 dX5_liked_7 rfl (lv_at hl 1 rfl) ?_
  refine lv_iload_n F_.1 F_.2.1 dX5_liked_8 rfl (lv_at hl 4 rfl) ?_
  have J19 : ∀ (k19_0 : Int) (g19 : ((g ≤ t) ∧ (k19_0 = t - g)) ∨ ((t < g) ∧ (k19_0 = 0))) (ls_ : Array Slot) (H_ : Heap) (lo_ : List Loc), WD D A_ s_.heap (([] : List va_W)) H_ lo_ → lv_has ls_ 6 [(4, .int (zi (t + 5))), (3, .int (zi t)), (0, .int (zi kd)), (1, .int (zi t)), (2, .int (zi g))] → W p_ l_ e_ rX5_liked s_ m_ ar_ be_ me_ c_ H_ lo_ 0 0 Q_ (F0 m_ 19 ls_ [.int (zi k19_0)]) := by
    intro k19_0 g19 ls_ H_ lo_ W_ hl
    refine lv_istore (lv' := [(5, .int (zi k19_0)), (4, .int (zi (t + 5))), (3, .int (zi t)), (0, .int (zi kd)), (1, .int (zi t)), (2, .int (zi g))]) F_.1 F_.2.1 dX5_liked_19 hl (by decide) rfl (fun ls_ hl => ?_)
    refine lv_iload_n F_.1 F_.2.1 dX5_liked_21 rfl (lv_at hl 3 rfl) ?_
    rcases (show kd = 1 ∨ kd = 2 ∨ kd = 3 ∨ kd = 4 ∨ kd = 5 ∨ (kd < 1 ∨ 5 < kd) by omega) with c22 | c22 | c22 | c22 | c22 | c22
    · refine z_tabIn (tgt := 56) F_ 1 c22 ⟨by omega, by decide, by decide⟩ dX5_liked_22 rfl (by decide) ?_
      refine lv_iload F_.1 F_.2.1 dX5_liked_56 (lv_at hl 1 rfl) ?_
      exact hret _ _ _ _ (t + 5) () dX5_liked_58 (by simp only [likedZ]; repeat (first | omega | split)) W_
    · refine z_tabIn (tgt := 59) F_ 2 c22 ⟨by omega, by decide, by decide⟩ dX5_liked_22 rfl (by decide) ?_
      refine lv_iload F_.1 F_.2.1 dX5_liked_59 (lv_at hl 0 rfl) ?_
      exact hret _ _ _ _ k19_0 () dX5_liked_61 (by simp only [likedZ]; repeat (first | omega | split)) W_
    · refine z_tabIn (tgt := 62) F_ 3 c22 ⟨by omega, by decide, by decide⟩ dX5_liked_22 rfl (by decide) ?_
      refine lv_iload_n F_.1 F_.2.1 dX5_liked_62 rfl (lv_at hl 5 rfl) ?_
      refine z_iconst F_ dX5_liked_63 ?_
      refine z_icmp_lt (tgt := 74) F_ (by omega) dX5_liked_64 (by decide) (fun c64 => ?_) (fun c64 => ?_)
      · refine lv_iload F_.1 F_.2.1 dX5_liked_74 (lv_at hl 1 rfl) ?_
        exact hret _ _ _ _ (t + 5) () dX5_liked_76 (by simp only [likedZ]; repeat (first | omega | split)) W_
      · refine z_iconst F_ dX5_liked_67 ?_
        refine lv_iload F_.1 F_.2.1 dX5_liked_68 (lv_at hl 1 rfl) ?_
        refine z_imul F_ dX5_liked_70 ?_
        refine z_goto (tgt := 76) F_ dX5_liked_71 (by decide) ?_
        exact hret _ _ _ _ (2 * (t + 5)) () dX5_liked_76 (by simp only [likedZ]; repeat (first | omega | split)) W_
    · refine z_tabIn (tgt := 77) F_ 4 c22 ⟨by omega, by decide, by decide⟩ dX5_liked_22 rfl (by decide) ?_
      refine lv_iload_n F_.1 F_.2.1 dX5_liked_77 rfl (lv_at hl 5 rfl) ?_
      refine z_iconst F_ dX5_liked_78 ?_
      refine z_icmp_ge (tgt := 86) F_ (by omega) dX5_liked_79 (by decide) (fun c79 => ?_) (fun c79 => ?_)
      · refine lv_iload_n F_.1 F_.2.1 dX5_liked_86 rfl (lv_at hl 2 rfl) ?_
        exact hret _ _ _ _ t () dX5_liked_87 (by simp only [likedZ]; repeat (first | omega | split)) W_
      · refine z_iconst F_ dX5_liked_82 ?_
        refine z_goto (tgt := 87) F_ dX5_liked_83 (by decide) ?_
        exact hret _ _ _ _ 0 () dX5_liked_87 (by simp only [likedZ]; repeat (first | omega | split)) W_
    · refine z_tabIn (tgt := 88) F_ 5 c22 ⟨by omega, by decide, by decide⟩ dX5_liked_22 rfl (by decide) ?_
      refine lv_iload_n F_.1 F_.2.1 dX5_liked_88 rfl (lv_at hl 5 rfl) ?_
      refine z_iconst F_ dX5_liked_89 ?_
      refine z_irem F_ (by omega) dX5_liked_90 ?_
      refine z_iconst F_ dX5_liked_91 ?_
      refine z_icmp_ne (tgt := 99) F_ (by omega) dX5_liked_92 (by decide) (fun c92 => ?_) (fun c92 => ?_)
      · refine lv_iload F_.1 F_.2.1 dX5_liked_99 (lv_at hl 0 rfl) ?_
        refine z_bipush F_ (by decide) dX5_liked_101 ?_
        refine z_iadd F_ dX5_liked_103 ?_
        exact hret _ _ _ _ (k19_0 + 9) () dX5_liked_104 (by simp only [likedZ]; repeat (first | omega | split)) W_
      · refine z_iconst F_ dX5_liked_95 ?_
        refine z_goto (tgt := 104) F_ dX5_liked_96 (by decide) ?_
        exact hret _ _ _ _ 0 () dX5_liked_104 (by simp only [likedZ]; repeat (first | omega | split)) W_
    · refine z_tabOut (tgt := 105) F_ ⟨by omega, c22⟩ dX5_liked_22 (by decide) ?_
      refine lv_iload_n F_.1 F_.2.1 dX5_liked_105 rfl (lv_at hl 2 rfl) ?_
      exact hret _ _ _ _ t () dX5_liked_106 (by simp only [likedZ]; repeat (first | omega | split)) W_
  refine z_icmp_ge (tgt := 16) F_ (by omega) dX5_liked_9 (by decide) (fun c9 => ?_) (fun c9 => ?_)
  · refine lv_iload_n F_.1 F_.2.1 dX5_liked_16 rfl (lv_at hl 1 rfl) ?_
    refine lv_iload_n F_.1 F_.2.1 dX5_liked_17 rfl (lv_at hl 4 rfl) ?_
    refine z_isub F_ dX5_liked_18 ?_
    exact J19 (t - g) (by first | omega | grind) ls_ H_ lo_ W_ (lv_sub hl [0, 1, 2, 3, 4] rfl)
  · refine z_iconst F_ dX5_liked_12 ?_
    refine z_goto (tgt := 19) F_ dX5_liked_13 (by decide) ?_
    exact J19 0 (by first | omega | grind) ls_ H_ lo_ W_ (lv_sub hl [0, 1, 2, 3, 4] rfl)
