abbrev rX4_foldInto : Room := { frames := 1, cells := 0, slots := 0, locals := 25 }
set_option maxHeartbeats 1000000 in
set_option maxRecDepth 100000 in
theorem c_X4_foldInto (l_ : Launch) (D : va_G) (cy : Nat → ClassId) (q : Nat → Nat) (S : Int) (M : Int) (sk : Int → Int) (sc : Int → Int) (mk : Int → Int) (ms : Int → Int) (mp : Int → Int) (r1 : Int) (f1 : Int → Int) (r2 : Int) (f2 : Int → Int) (r3 : Int) (f3 : Int → Int) (r4 : Int) (f4 : Int → Int) (h : Int) (bS : 0 ≤ S ∧ S ≤ 3) (bM : 0 ≤ M ∧ M ≤ 8) (bsk : ∀ j : Int, 0 ≤ sk j ∧ sk j ≤ 5) (bsc : ∀ j : Int, 0 ≤ sc j ∧ sc j ≤ 99) (bmk : ∀ j : Int, 0 ≤ mk j ∧ mk j ≤ 5) (bms : ∀ j : Int, 0 ≤ ms j ∧ ms j ≤ 9) (bmp : ∀ j : Int, (-1) ≤ mp j ∧ mp j ≤ 2) (bf1 : ∀ j : Int, (-1) ≤ f1 j ∧ f1 j ≤ 99) (bf2 : ∀ j : Int, (-1) ≤ f2 j ∧ f2 j ≤ 99) (bf3 : ∀ j : Int, (-1) ≤ f3 j ∧ f3 j ≤ 99) (bf4 : ∀ j : Int, (-1) ≤ f4 j ∧ f4 j ≤ 99) (hr : 0 ≤ r1 ∧ r1 ≤ 5 ∧ 0 ≤ r2 ∧ r2 ≤ 6 ∧ 0 ≤ r3 ∧ r3 ≤ 6) : CTl l_ D cy yX4_foldInto wsX4_foldInto rX4_foldInto [.ref (q 0), .long (zl h)] ([wI cy q S M sk sc mk ms mp, wF cy (q 6) (q 7) 20 5 r1 f1, wF cy (q 8) (q 9) 24 6 r2 f2, wF cy (q 10) (q 11) 24 6 r3 f3, wF cy (q 12) (q 13) 32 8 r4 f4]) (fun (z : Int) (u : Unit) => (z = hashZ f3 0 (hashZ f2 0 (hashZ f1 0 (hashM mk ms mp (hashS sk sc h S) M) (4 * r1)) (4 * r2)) (4 * r3))) (fun (_ : Unit) => [wI cy q S M sk sc mk ms mp, wF cy (q 6) (q 7) 20 5 r1 f1, wF cy (q 8) (q 9) 24 6 r2 f2, wF cy (q 10) (q 11) 24 6 r3 f3, wF cy (q 12) (q 13) 32 8 r4 f4]) := by
  refine CTl.of RX4 cX4_foldInto 6 rfl (by decide) rfl (Nat.le_of_ble_eq_true rfl) ?_
  intro p_ e_ s_ m_ ar_ be_ me_ c_ Q_ A_ ls_ F_ K_ W_ hl hret
  have hl : lv_has ls_ 6 [(0, .ref (q 0)), (1, .long (zl h))] := hl
  obtain ⟨H_, hH_⟩ : ∃ x, x = s_.heap := ⟨_, rfl⟩
  obtain ⟨lo_, hlo_⟩ : ∃ x : List Loc, x = [] := ⟨_, rfl⟩
  have W_ : WD D A_ s_.heap ([wI cy q S M sk sc mk ms mp, wF cy (q 6) (q 7) 20 5 r1 f1, wF cy (q 8) (q 9) 24 6 r2 f2, wF cy (q 10) (q 11) 24 6 r3 f3, wF cy (q 12) (q 13) 32 8 r4 f4]) H_ lo_ := by rw [hH_, hlo_]; exact W_
  rw [← hlo_]
  suffices hg_ : W p_ l_ e_ rX4_foldInto s_ m_ ar_ be_ me_ c_ H_ lo_ 0 0 Q_ (F0 m_ 0 ls_ []) by rw [hH_] at hg_; exact hg_
  clear hH_ hlo_
  have hinX4 : ∀ w ∈ u_ws RX4 TX4 11, w ∈ wsX4_foldInto := fun w h => List.mem_cons_of_mem _ (List.mem_append_left _ (List.mem_append_right _ h))
  refine lv_lload_n F_.1 F_.2.1 dX4_foldInto_0 rfl (lv_at hl 1 rfl) ?_
  refine lv_lstore_n (lv' := [(3, .long (zl h)), (0, .ref (q 0)), (1, .long (zl h))]) F_.1 F_.2.1 dX4_foldInto_1 rfl hl (by decide) rfl (fun ls_ hl => ?_)
  refine z_iconst F_ dX4_foldInto_2 ?_
  refine lv_istore (lv' := [(5, .int (zi 0)), (3, .long (zl h)), (0, .ref (q 0)), (1, .long (zl h))]) F_.1 F_.2.1 dX4_foldInto_3 hl (by decide) rfl (fun ls_ hl => ?_)
  have L5 : ∀ (n_ : Nat) (x : Int) (k : Int) (hk : 0 ≤ k ∧ k ≤ S) (hx : x = hashS sk sc h k) (hm_ : (S - k : Int) < (n_ : Int)) (ls_ : Array Slot) (H_ : Heap) (lo_ : List Loc), WD D A_ s_.heap ([wI cy q S M sk sc mk ms mp, wF cy (q 6) (q 7) 20 5 r1 f1, wF cy (q 8) (q 9) 24 6 r2 f2, wF cy (q 10) (q 11) 24 6 r3 f3, wF cy (q 12) (q 13) 32 8 r4 f4]) H_ lo_ → lv_has ls_ 6 [(5, .int (zi k)), (3, .long (zl x)), (0, .ref (q 0)), (1, .long (zl h))] → W p_ l_ e_ rX4_foldInto s_ m_ ar_ be_ me_ c_ H_ lo_ 0 0 Q_ (F0 m_ 5 ls_ []) := by
    intro n_
    induction n_ with
    | zero =>
      intro x k hk hx hm_ ls_ H_ lo_ _ _
      exact absurd hm_ (by omega)
    | succ n_ ih_ =>
      intro x k hk hx hm_ ls_ H_ lo_ W_ hl
      have ih5 := ih_
      refine lv_iload F_.1 F_.2.1 dX4_foldInto_5 (lv_at hl 0 rfl) ?_
      refine lv_aload_n F_.1 F_.2.1 dX4_foldInto_7 rfl (lv_at hl 2 rfl) ?_
      refine z_get F_ K_ W_ 0 0 0 rfl rfl rfl (C := RX4) (T := TX4) (N := 11) rfl (by decide) hinX4 (List.mem_of_getElem? (i := 1) rfl) dX4_foldInto_8 ?_
      refine z_icmp_ge (tgt := 50) F_ (by omega) dX4_foldInto_11 (by decide) (fun c11 => ?_) (fun c11 => ?_)
      · refine z_iconst F_ dX4_foldInto_50 ?_
        refine lv_istore (lv' := [(5, .int (zi 0)), (3, .long (zl x)), (0, .ref (q 0)), (1, .long (zl h))]) F_.1 F_.2.1 dX4_foldInto_51 hl (by decide) rfl (fun ls_ hl => ?_)
        have L53 : ∀ (n_ : Nat) (x2 : Int) (k2 : Int) (hk2 : 0 ≤ k2 ∧ k2 ≤ M) (hx2 : x2 = hashM mk ms mp (hashS sk sc h S) k2) (hm_ : (M - k2 : Int) < (n_ : Int)) (ls_ : Array Slot) (H_ : Heap) (lo_ : List Loc), WD D A_ s_.heap ([wI cy q S M sk sc mk ms mp, wF cy (q 6) (q 7) 20 5 r1 f1, wF cy (q 8) (q 9) 24 6 r2 f2, wF cy (q 10) (q 11) 24 6 r3 f3, wF cy (q 12) (q 13) 32 8 r4 f4]) H_ lo_ → lv_has ls_ 6 [(5, .int (zi k2)), (3, .long (zl x2)), (0, .ref (q 0)), (1, .long (zl h))] → W p_ l_ e_ rX4_foldInto s_ m_ ar_ be_ me_ c_ H_ lo_ 0 0 Q_ (F0 m_ 53 ls_ []) := by
          intro n_
          induction n_ with
          | zero =>
            intro x2 k2 hk2 hx2 hm_ ls_ H_ lo_ _ _
            exact absurd hm_ (by omega)
          | succ n_ ih_ =>
            intro x2 k2 hk2 hx2 hm_ ls_ H_ lo_ W_ hl
            have ih53 := ih_
            refine lv_iload F_.1 F_.2.1 dX4_foldInto_53 (lv_at hl 0 rfl) ?_
            refine lv_aload_n F_.1 F_.2.1 dX4_foldInto_55 rfl (lv_at hl 2 rfl) ?_
            refine z_get F_ K_ W_ 0 0 1 rfl rfl rfl (C := RX4) (T := TX4) (N := 11) rfl (by decide) hinX4 (List.mem_of_getElem? (i := 5) rfl) dX4_foldInto_56 ?_
            refine z_icmp_ge (tgt := 113) F_ (by omega) dX4_foldInto_59 (by decide) (fun c59 => ?_) (fun c59 => ?_)
            · refine lv_aload_n F_.1 F_.2.1 dX4_foldInto_113 rfl (lv_at hl 2 rfl) ?_
              refine z_get F_ K_ W_ 0 0 9 rfl rfl rfl (C := RX4) (T := TX4) (N := 11) rfl (by decide) hinX4 (List.mem_of_getElem? (i := 9) rfl) dX4_foldInto_114 ?_
              refine lv_aload_n F_.1 F_.2.1 dX4_foldInto_117 rfl (lv_at hl 2 rfl) ?_
              refine z_get F_ K_ W_ 0 0 8 rfl rfl rfl (C := RX4) (T := TX4) (N := 11) rfl (by decide) hinX4 (List.mem_of_getElem? (i := 10) rfl) dX4_foldInto_118 ?_
              refine lv_aload_n F_.1 F_.2.1 dX4_foldInto_121 rfl (lv_at hl 2 rfl) ?_
              refine z_get F_ K_ W_ 0 0 7 rfl rfl rfl (C := RX4) (T := TX4) (N := 11) rfl (by decide) hinX4 (List.mem_of_getElem? (i := 11) rfl) dX4_foldInto_122 ?_
              refine lv_lload_n F_.1 F_.2.1 dX4_foldInto_125 rfl (lv_at hl 1 rfl) ?_
              refine z_callVlp F_ K_ W_ [.long (zl x2)] (c_X2_foldInto l_ D cy (q 6) (q 7) 20 5 r1 f1 x2 bf1 (by first | omega | assumption) (by first | omega | assumption)) 1 rfl gX4_foldInto_X2_foldInto rfl (by decide +kernel) ⟨⟨Nat.le_of_ble_eq_true rfl, Nat.le_of_ble_eq_true rfl⟩, rfl, rfl, Nat.zero_le _, Nat.zero_le _⟩ 0 0 2 rfl rfl rfl rfl hl.1 rfl (Nat.le_of_ble_eq_true rfl) [1] [0, 2, 3, 4] [wI cy q S M sk sc mk ms mp, wF cy (q 8) (q 9) 24 6 r2 f2, wF cy (q 10) (q 11) 24 6 r3 f3, wF cy (q 12) (q 13) 32 8 r4 f4] 5 (by decide +kernel) rfl rfl rfl dX4_foldInto_126 (fun z_1 _ H_ lo_ hw_ W_ => ?_)
              have hw_ : (z_1 = hashZ f1 0 x2 (4 * r1)) := hw_
              have f126_v := hw_
              refine z_callVlp F_ K_ W_ [.long (zl z_1)] (c_X2_foldInto l_ D cy (q 8) (q 9) 24 6 r2 f2 z_1 bf2 (by first | omega | assumption) (by first | omega | assumption)) 1 rfl gX4_foldInto_X2_foldInto rfl (by decide +kernel) ⟨⟨Nat.le_of_ble_eq_true rfl, Nat.le_of_ble_eq_true rfl⟩, rfl, rfl, Nat.zero_le _, Nat.zero_le _⟩ 0 0 2 rfl rfl rfl rfl hl.1 rfl (Nat.le_of_ble_eq_true rfl) [2] [0, 1, 3, 4] [wI cy q S M sk sc mk ms mp, wF cy (q 6) (q 7) 20 5 r1 f1, wF cy (q 10) (q 11) 24 6 r3 f3, wF cy (q 12) (q 13) 32 8 r4 f4] 5 (by decide +kernel) rfl rfl rfl dX4_foldInto_129 (fun z_2 _ H_ lo_ hw_ W_ => ?_)
              have hw_ : (z_2 = hashZ f2 0 z_1 (4 * r2)) := hw_
              have f129_v := hw_
              refine z_callVlp F_ K_ W_ [.long (zl z_2)] (c_X2_foldInto l_ D cy (q 10) (q 11) 24 6 r3 f3 z_2 bf3 (by first | omega | assumption) (by first | omega | assumption)) 1 rfl gX4_foldInto_X2_foldInto rfl (by decide +kernel) ⟨⟨Nat.le_of_ble_eq_true rfl, Nat.le_of_ble_eq_true rfl⟩, rfl, rfl, Nat.zero_le _, Nat.zero_le _⟩ 0 0 2 rfl rfl rfl rfl hl.1 rfl (Nat.le_of_ble_eq_true rfl) [3] [0, 1, 2, 4] [wI cy q S M sk sc mk ms mp, wF cy (q 6) (q 7) 20 5 r1 f1, wF cy (q 8) (q 9) 24 6 r2 f2, wF cy (q 12) (q 13) 32 8 r4 f4] 5 (by decide +kernel) rfl rfl rfl dX4_foldInto_132 (fun z_3 _ H_ lo_ hw_ W_ => ?_)
              have hw_ : (z_3 = hashZ f3 0 z_2 (4 * r3)) := hw_
              have f132_v := hw_
              exact hret _ _ _ _ z_3 () dX4_foldInto_135 (by rw [f132_v, f129_v, f126_v, hx2, show k2 = M by omega]) W_
            · refine z_ldc2 (z := 31) F_ (F_.2.2.2.2 _ (List.mem_of_getElem? (i := 2) rfl)) rfl dX4_foldInto_62 ?_
              refine lv_lload_n F_.1 F_.2.1 dX4_foldInto_65 rfl (lv_at hl 1 rfl) ?_
              refine z_lmul F_ dX4_foldInto_66 ?_
              refine lv_aload_n F_.1 F_.2.1 dX4_foldInto_67 rfl (lv_at hl 2 rfl) ?_
              refine z_get F_ K_ W_ 0 0 4 rfl rfl rfl (C := RX4) (T := TX4) (N := 11) rfl (by decide) hinX4 (List.mem_of_getElem? (i := 6) rfl) dX4_foldInto_68 ?_
              refine lv_iload F_.1 F_.2.1 dX4_foldInto_71 (lv_at hl 0 rfl) ?_
              refine z_iald F_ K_ W_ 0 3 rfl rfl (by omega) (by decide) dX4_foldInto_73 ?_
              have b_4 := bmk k2
              refine z_i2l F_ (by omega) dX4_foldInto_74 ?_
              refine z_ladd F_ dX4_foldInto_75 ?_
              refine lv_lstore_n (lv' := [(3, .long (zl ((31 * x2) + (mk k2)))), (5, .int (zi k2)), (0, .ref (q 0)), (1, .long (zl h))]) F_.1 F_.2.1 dX4_foldInto_76 rfl hl (by decide) rfl (fun ls_ hl => ?_)
              refine z_ldc2 (z := 31) F_ (F_.2.2.2.2 _ (List.mem_of_getElem? (i := 2) rfl)) rfl dX4_foldInto_77 ?_
              refine lv_lload_n F_.1 F_.2.1 dX4_foldInto_80 rfl (lv_at hl 0 rfl) ?_
              refine z_lmul F_ dX4_foldInto_81 ?_
              refine lv_aload_n F_.1 F_.2.1 dX4_foldInto_82 rfl (lv_at hl 2 rfl) ?_
              refine z_get F_ K_ W_ 0 0 5 rfl rfl rfl (C := RX4) (T := TX4) (N := 11) rfl (by decide) hinX4 (List.mem_of_getElem? (i := 7) rfl) dX4_foldInto_83 ?_
              refine lv_iload F_.1 F_.2.1 dX4_foldInto_86 (lv_at hl 1 rfl) ?_
              refine z_iald F_ K_ W_ 0 4 rfl rfl (by omega) (by decide) dX4_foldInto_88 ?_
              have b_5 := bms k2
              refine z_i2l F_ (by omega) dX4_foldInto_89 ?_
              refine z_ladd F_ dX4_foldInto_90 ?_
              refine lv_lstore_n (lv' := [(3, .long (zl ((31 * ((31 * x2) + (mk k2))) + (ms k2)))), (5, .int (zi k2)), (0, .ref (q 0)), (1, .long (zl h))]) F_.1 F_.2.1 dX4_foldInto_91 rfl hl (by decide) rfl (fun ls_ hl => ?_)
              refine z_ldc2 (z := 31) F_ (F_.2.2.2.2 _ (List.mem_of_getElem? (i := 2) rfl)) rfl dX4_foldInto_92 ?_
              refine lv_lload_n F_.1 F_.2.1 dX4_foldInto_95 rfl (lv_at hl 0 rfl) ?_
              refine z_lmul F_ dX4_foldInto_96 ?_
              refine lv_aload_n F_.1 F_.2.1 dX4_foldInto_97 rfl (lv_at hl 2 rfl) ?_
              refine z_get F_ K_ W_ 0 0 6 rfl rfl rfl (C := RX4) (T := TX4) (N := 11) rfl (by decide) hinX4 (List.mem_of_getElem? (i := 8) rfl) dX4_foldInto_98 ?_
              refine lv_iload F_.1 F_.2.1 dX4_foldInto_101 (lv_at hl 1 rfl) ?_
              refine z_iald F_ K_ W_ 0 5 rfl rfl (by omega) (by decide) dX4_foldInto_103 ?_
              have b_6 := bmp k2
              refine z_i2l F_ (by omega) dX4_foldInto_104 ?_
              refine z_ladd F_ dX4_foldInto_105 ?_
              refine lv_lstore_n (lv' := [(3, .long (zl ((31 * ((31 * ((31 * x2) + (mk k2))) + (ms k2))) + (mp k2)))), (5, .int (zi k2)), (0, .ref (q 0)), (1, .long (zl h))]) F_.1 F_.2.1 dX4_foldInto_106 rfl hl (by decide) rfl (fun ls_ hl => ?_)
              refine z_iinc (lv' := [(5, .int (zi (k2 + 1))), (3, .long (zl ((31 * ((31 * ((31 * x2) + (mk k2))) + (ms k2))) + (mp k2)))), (0, .ref (q 0)), (1, .long (zl h))]) F_ dX4_foldInto_107 hl (k := 1) rfl (by decide) rfl (fun ls_ hl => ?_)
              refine z_goto (tgt := 53) F_ dX4_foldInto_110 (by decide) ?_
              exact ih53 ((31 * ((31 * ((31 * x2) + (mk k2))) + (ms k2))) + (mp k2)) (k2 + 1) (by first | omega | assumption) (by rw [hashM_s _ _ _ _ hk2.1, hx2]) (by omega) ls_ H_ lo_ W_ (lv_sub hl [0, 1, 2, 3] rfl)
        exact L53 ((M - 0 : Int).toNat + 1) x 0 (by first | omega | assumption) (by rw [hx]; show hashS sk sc h k = hashS sk sc h S; congr 1; omega) (by have := Int.self_le_toNat (M - 0 : Int); omega) ls_ H_ lo_ W_ (lv_sub hl [0, 1, 2, 3] rfl)
      · refine z_ldc2 (z := 31) F_ (F_.2.2.2.2 _ (List.mem_of_getElem? (i := 2) rfl)) rfl dX4_foldInto_14 ?_
        refine lv_lload_n F_.1 F_.2.1 dX4_foldInto_17 rfl (lv_at hl 1 rfl) ?_
        refine z_lmul F_ dX4_foldInto_18 ?_
        refine lv_aload_n F_.1 F_.2.1 dX4_foldInto_19 rfl (lv_at hl 2 rfl) ?_
        refine z_get F_ K_ W_ 0 0 2 rfl rfl rfl (C := RX4) (T := TX4) (N := 11) rfl (by decide) hinX4 (List.mem_of_getElem? (i := 3) rfl) dX4_foldInto_20 ?_
        refine lv_iload F_.1 F_.2.1 dX4_foldInto_23 (lv_at hl 0 rfl) ?_
        refine z_iald F_ K_ W_ 0 1 rfl rfl (by omega) (by decide) dX4_foldInto_25 ?_
        have b_7 := bsk k
        refine z_i2l F_ (by omega) dX4_foldInto_26 ?_
        refine z_ladd F_ dX4_foldInto_27 ?_
        refine lv_lstore_n (lv' := [(3, .long (zl ((31 * x) + (sk k)))), (5, .int (zi k)), (0, .ref (q 0)), (1, .long (zl h))]) F_.1 F_.2.1 dX4_foldInto_28 rfl hl (by decide) rfl (fun ls_ hl => ?_)
        refine z_ldc2 (z := 31) F_ (F_.2.2.2.2 _ (List.mem_of_getElem? (i := 2) rfl)) rfl dX4_foldInto_29 ?_
        refine lv_lload_n F_.1 F_.2.1 dX4_foldInto_32 rfl (lv_at hl 0 rfl) ?_
        refine z_lmul F_ dX4_foldInto_33 ?_
        refine lv_aload_n F_.1 F_.2.1 dX4_foldInto_34 rfl (lv_at hl 2 rfl) ?_
        refine z_get F_ K_ W_ 0 0 3 rfl rfl rfl (C := RX4) (T := TX4) (N := 11) rfl (by decide) hinX4 (List.mem_of_getElem? (i := 4) rfl) dX4_foldInto_35 ?_
        refine lv_iload F_.1 F_.2.1 dX4_foldInto_38 (lv_at hl 1 rfl) ?_
        refine z_iald F_ K_ W_ 0 2 rfl rfl (by omega) (by decide) dX4_foldInto_40 ?_
        have b_8 := bsc k
        refine z_i2l F_ (by omega) dX4_foldInto_41 ?_
        refine z_ladd F_ dX4_foldInto_42 ?_
        refine lv_lstore_n (lv' := [(3, .long (zl ((31 * ((31 * x) + (sk k))) + (sc k)))), (5, .int (zi k)), (0, .ref (q 0)), (1, .long (zl h))]) F_.1 F_.2.1 dX4_foldInto_43 rfl hl (by decide) rfl (fun ls_ hl => ?_)
        refine z_iinc (lv' := [(5, .int (zi (k + 1))), (3, .long (zl ((31 * ((31 * x) + (sk k))) + (sc k)))), (0, .ref (q 0)), (1, .long (zl h))]) F_ dX4_foldInto_44 hl (k := 1) rfl (by decide) rfl (fun ls_ hl => ?_)
        refine z_goto (tgt := 5) F_ dX4_foldInto_47 (by decide) ?_
        exact ih5 ((31 * ((31 * x) + (sk k))) + (sc k)) (k + 1) (by first | omega | assumption) (by rw [hashS_s _ _ _ hk.1, hx]) (by omega) ls_ H_ lo_ W_ (lv_sub hl [0, 1, 2, 3] rfl)
  exact L5 ((S - 0 : Int).toNat + 1) h 0 (by first | omega | assumption) (by rfl) (by have := Int.self_le_toNat (S - 0 : Int); omega) ls_ H_ lo_ W_ (lv_sub hl [0, 1, 2, 3] rfl)
abbrev rX4_takePlaces : Room := { frames := 1, cells := 0, slots := 0, locals := 18 }
set_option maxHeartbeats 1000000 in
set_option maxRecDepth 100000 in
theorem c_X4_takePlaces (l_ : Launch) (D : va_G) (cy : Nat → ClassId) (q : Nat → Nat) (S : Int) (M : Int) (sk : Int → Int) (sc : Int → Int) (mk : Int → Int) (ms : Int → Int) (mp : Int → Int) (p : Nat → Nat) (S2 : Int) (M2 : Int) (sk2 : Int → Int) (sc2 : Int → Int) (mk2 : Int → Int) (ms2 : Int → Int) (mp2 : Int → Int) (bS : 0 ≤ S ∧ S ≤ 3) (bM : 0 ≤ M ∧ M ≤ 8) (bsk : ∀ j : Int, 0 ≤ sk j ∧ sk j ≤ 5) (bsc : ∀ j : Int, 0 ≤ sc j ∧ sc j ≤ 99) (bmk : ∀ j : Int, 0 ≤ mk j ∧ mk j ≤ 5) (bms : ∀ j : Int, 0 ≤ ms j ∧ ms j ≤ 9) (bmp : ∀ j : Int, (-1) ≤ mp j ∧ mp j ≤ 2) (bS2 : 0 ≤ S2 ∧ S2 ≤ 3) (bM2 : 0 ≤ M2 ∧ M2 ≤ 8) (bsk2 : ∀ j : Int, 0 ≤ sk2 j ∧ sk2 j ≤ 5) (bsc2 : ∀ j : Int, 0 ≤ sc2 j ∧ sc2 j ≤ 99) (bmk2 : ∀ j : Int, 0 ≤ mk2 j ∧ mk2 j ≤ 5) (bms2 : ∀ j : Int, 0 ≤ ms2 j ∧ ms2 j ≤ 9) (bmp2 : ∀ j : Int, (-1) ≤ mp2 j ∧ mp2 j ≤ 2) : CTv l_ D cy yX4_takePlaces wsX4_takePlaces rX4_takePlaces [.ref (q 0), .ref (p 0)] ([wI cy q S M sk sc mk ms mp, wI cy p S2 M2 sk2 sc2 mk2 ms2 mp2]) (fun (u : (Int → Int) × (Int → Int) × (Int → Int) × (Int → Int) × (Int → Int)) => (u.1 = zcp sk2 sk 0 0 3) ∧ (u.2.1 = zcp sc2 sc 0 0 3) ∧ (u.2.2.1 = zcp mk2 mk 0 0 8) ∧ (u.2.2.2.1 = zcp ms2 ms 0 0 8) ∧ (u.2.2.2.2 = zcp mp2 mp 0 0 8) ∧ (0 ≤ S2 ∧ S2 ≤ 3) ∧ (0 ≤ M2 ∧ M2 ≤ 8) ∧ (∀ j : Int, 0 ≤ u.1 j ∧ u.1 j ≤ 5) ∧ (∀ j : Int, 0 ≤ u.2.1 j ∧ u.2.1 j ≤ 99) ∧ (∀ j : Int, 0 ≤ u.2.2.1 j ∧ u.2.2.1 j ≤ 5) ∧ (∀ j : Int, 0 ≤ u.2.2.2.1 j ∧ u.2.2.2.1 j ≤ 9) ∧ (∀ j : Int, (-1) ≤ u.2.2.2.2 j ∧ u.2.2.2.2 j ≤ 2)) (fun (u : (Int → Int) × (Int → Int) × (Int → Int) × (Int → Int) × (Int → Int)) => [wI cy q S2 M2 u.1 u.2.1 u.2.2.1 u.2.2.2.1 u.2.2.2.2, wI cy p S2 M2 sk2 sc2 mk2 ms2 mp2]) := by
  refine CTv.of RX4 cX4_takePlaces 2 rfl (by decide) rfl (Nat.le_of_ble_eq_true rfl) ?_
  intro p_ e_ s_ m_ ar_ be_ me_ c_ Q_ A_ ls_ F_ K_ W_ hl hret
  have hl : lv_has ls_ 2 [(0, .ref (q 0)), (1, .ref (p 0))] := hl
  obtain ⟨H_, hH_⟩ : ∃ x, x = s_.heap := ⟨_, rfl⟩
  obtain ⟨lo_, hlo_⟩ : ∃ x : List Loc, x = [] := ⟨_, rfl⟩
  have W_ : WD D A_ s_.heap ([wI cy q S M sk sc mk ms mp, wI cy p S2 M2 sk2 sc2 mk2 ms2 mp2]) H_ lo_ := by rw [hH_, hlo_]; exact W_
  rw [← hlo_]
  suffices hg_ : W p_ l_ e_ rX4_takePlaces s_ m_ ar_ be_ me_ c_ H_ lo_ 0 0 Q_ (F0 m_ 0 ls_ []) by rw [hH_] at hg_; exact hg_
  clear hH_ hlo_
  have hinX4 : ∀ w ∈ u_ws RX4 TX4 11, w ∈ wsX4_takePlaces := fun w h => List.mem_cons_of_mem _ (List.mem_append_right _ h)
  refine lv_aload_n F_.1 F_.2.1 dX4_takePlaces_0 rfl (lv_at hl 0 rfl) ?_
  refine lv_aload_n F_.1 F_.2.1 dX4_takePlaces_1 rfl (lv_at hl 1 rfl) ?_
  refine z_get F_ K_ W_ 1 0 0 rfl rfl rfl (C := RX4) (T := TX4) (N := 11) rfl (by decide) hinX4 (List.mem_of_getElem? (i := 1) rfl) dX4_takePlaces_2 ?_
  refine z_put (sg' := [wI cy q S2 M sk sc mk ms mp, wI cy p S2 M2 sk2 sc2 mk2 ms2 mp2]) F_ K_ W_ 0 0 0 rfl rfl rfl (C := RX4) (T := TX4) (N := 11) rfl ⟨Nat.le_of_ble_eq_true rfl, Nat.le_of_ble_eq_true rfl⟩ tyX4 tyX4_ok nmX4 rfl rfl rfl hinX4 (List.mem_of_getElem? (i := 1) rfl) dX4_takePlaces_5 (fun H_ lo_ W_ => ?_)
  refine lv_aload_n F_.1 F_.2.1 dX4_takePlaces_8 rfl (lv_at hl 0 rfl) ?_
  refine lv_aload_n F_.1 F_.2.1 dX4_takePlaces_9 rfl (lv_at hl 1 rfl) ?_
  refine z_get F_ K_ W_ 1 0 1 rfl rfl rfl (C := RX4) (T := TX4) (N := 11) rfl (by decide) hinX4 (List.mem_of_getElem? (i := 2) rfl) dX4_takePlaces_10 ?_
  refine z_put (sg' := [wI cy q S2 M2 sk sc mk ms mp, wI cy p S2 M2 sk2 sc2 mk2 ms2 mp2]) F_ K_ W_ 0 0 1 rfl rfl rfl (C := RX4) (T := TX4) (N := 11) rfl ⟨Nat.le_of_ble_eq_true rfl, Nat.le_of_ble_eq_true rfl⟩ tyX4 tyX4_ok nmX4 rfl rfl rfl hinX4 (List.mem_of_getElem? (i := 2) rfl) dX4_takePlaces_13 (fun H_ lo_ W_ => ?_)
  refine lv_aload_n F_.1 F_.2.1 dX4_takePlaces_16 rfl (lv_at hl 1 rfl) ?_
  refine z_get F_ K_ W_ 1 0 2 rfl rfl rfl (C := RX4) (T := TX4) (N := 11) rfl (by decide) hinX4 (List.mem_of_getElem? (i := 3) rfl) dX4_takePlaces_17 ?_
  refine z_iconst F_ dX4_takePlaces_20 ?_
  refine lv_aload_n F_.1 F_.2.1 dX4_takePlaces_21 rfl (lv_at hl 0 rfl) ?_
  refine z_get F_ K_ W_ 0 0 2 rfl rfl rfl (C := RX4) (T := TX4) (N := 11) rfl (by decide) hinX4 (List.mem_of_getElem? (i := 3) rfl) dX4_takePlaces_22 ?_
  refine z_iconst F_ dX4_takePlaces_25 ?_
  refine z_iconst F_ dX4_takePlaces_26 ?_
  refine z_acopy (sg' := [wI cy q S2 M2 (zcp sk2 sk 0 0 3) sc mk ms mp, wI cy p S2 M2 sk2 sc2 mk2 ms2 mp2]) F_ K_ W_ hl.1 (F_.2.2.2.2 _ (List.mem_of_getElem? (i := 4) rfl)) (F_.2.2.2.2 _ (List.mem_of_getElem? (i := 5) rfl)) (F_.2.2.2.2 _ (List.mem_of_getElem? (i := 6) rfl)) (F_.2.2.2.2 _ (List.mem_of_getElem? (i := 7) rfl)) 1 1 0 1 rfl rfl rfl rfl rfl (by omega) (by decide) (by decide) (Nat.le_of_ble_eq_true rfl) (Nat.le_of_ble_eq_true rfl) dX4_takePlaces_27 (fun H_ lo_ W_ => ?_)
  obtain ⟨sk_1, esk_1⟩ : ∃ x_ : Int → Int, x_ = zcp sk2 sk 0 0 3 := ⟨_, rfl⟩
  rw [← esk_1] at W_
  have bsk_1 : ∀ j : Int, 0 ≤ sk_1 j ∧ sk_1 j ≤ 5 := by rw [esk_1]; exact zcp_b bsk2 bsk
  refine lv_aload_n F_.1 F_.2.1 dX4_takePlaces_30 rfl (lv_at hl 1 rfl) ?_
  refine z_get F_ K_ W_ 1 0 3 rfl rfl rfl (C := RX4) (T := TX4) (N := 11) rfl (by decide) hinX4 (List.mem_of_getElem? (i := 8) rfl) dX4_takePlaces_31 ?_
  refine z_iconst F_ dX4_takePlaces_34 ?_
  refine lv_aload_n F_.1 F_.2.1 dX4_takePlaces_35 rfl (lv_at hl 0 rfl) ?_
  refine z_get F_ K_ W_ 0 0 3 rfl rfl rfl (C := RX4) (T := TX4) (N := 11) rfl (by decide) hinX4 (List.mem_of_getElem? (i := 8) rfl) dX4_takePlaces_36 ?_
  refine z_iconst F_ dX4_takePlaces_39 ?_
  refine z_iconst F_ dX4_takePlaces_40 ?_
  refine z_acopy (sg' := [wI cy q S2 M2 sk_1 (zcp sc2 sc 0 0 3) mk ms mp, wI cy p S2 M2 sk2 sc2 mk2 ms2 mp2]) F_ K_ W_ hl.1 (F_.2.2.2.2 _ (List.mem_of_getElem? (i := 4) rfl)) (F_.2.2.2.2 _ (List.mem_of_getElem? (i := 5) rfl)) (F_.2.2.2.2 _ (List.mem_of_getElem? (i := 6) rfl)) (F_.2.2.2.2 _ (List.mem_of_getElem? (i := 7) rfl)) 1 2 0 2 rfl rfl rfl rfl rfl (by omega) (by decide) (by decide) (Nat.le_of_ble_eq_true rfl) (Nat.le_of_ble_eq_true rfl) dX4_takePlaces_41 (fun H_ lo_ W_ => ?_)
  obtain ⟨sc_2, esc_2⟩ : ∃ x_ : Int → Int, x_ = zcp sc2 sc 0 0 3 := ⟨_, rfl⟩
  rw [← esc_2] at W_
  have bsc_2 : ∀ j : Int, 0 ≤ sc_2 j ∧ sc_2 j ≤ 99 := by rw [esc_2]; exact zcp_b bsc2 bsc
  refine lv_aload_n F_.1 F_.2.1 dX4_takePlaces_44 rfl (lv_at hl 1 rfl) ?_
  refine z_get F_ K_ W_ 1 0 4 rfl rfl rfl (C := RX4) (T := TX4) (N := 11) rfl (by decide) hinX4 (List.mem_of_getElem? (i := 9) rfl) dX4_takePlaces_45 ?_
  refine z_iconst F_ dX4_takePlaces_48 ?_
  refine lv_aload_n F_.1 F_.2.1 dX4_takePlaces_49 rfl (lv_at hl 0 rfl) ?_
  refine z_get F_ K_ W_ 0 0 4 rfl rfl rfl (C := RX4) (T := TX4) (N := 11) rfl (by decide) hinX4 (List.mem_of_getElem? (i := 9) rfl) dX4_takePlaces_50 ?_
  refine z_iconst F_ dX4_takePlaces_53 ?_
  refine z_bipush F_ (by decide) dX4_takePlaces_54 ?_
  refine z_acopy (sg' := [wI cy q S2 M2 sk_1 sc_2 (zcp mk2 mk 0 0 8) ms mp, wI cy p S2 M2 sk2 sc2 mk2 ms2 mp2]) F_ K_ W_ hl.1 (F_.2.2.2.2 _ (List.mem_of_getElem? (i := 4) rfl)) (F_.2.2.2.2 _ (List.mem_of_getElem? (i := 5) rfl)) (F_.2.2.2.2 _ (List.mem_of_getElem? (i := 6) rfl)) (F_.2.2.2.2 _ (List.mem_of_getElem? (i := 7) rfl)) 1 3 0 3 rfl rfl rfl rfl rfl (by omega) (by decide) (by decide) (Nat.le_of_ble_eq_true rfl) (Nat.le_of_ble_eq_true rfl) dX4_takePlaces_56 (fun H_ lo_ W_ => ?_)
  obtain ⟨mk_3, emk_3⟩ : ∃ x_ : Int → Int, x_ = zcp mk2 mk 0 0 8 := ⟨_, rfl⟩
  rw [← emk_3] at W_
  have bmk_3 : ∀ j : Int, 0 ≤ mk_3 j ∧ mk_3 j ≤ 5 := by rw [emk_3]; exact zcp_b bmk2 bmk
  refine lv_aload_n F_.1 F_.2.1 dX4_takePlaces_59 rfl (lv_at hl 1 rfl) ?_
  refine z_get F_ K_ W_ 1 0 5 rfl rfl rfl (C := RX4) (T := TX4) (N := 11) rfl (by decide) hinX4 (List.mem_of_getElem? (i := 10) rfl) dX4_takePlaces_60 ?_
  refine z_iconst F_ dX4_takePlaces_63 ?_
  refine lv_aload_n F_.1 F_.2.1 dX4_takePlaces_64 rfl (lv_at hl 0 rfl) ?_
  refine z_get F_ K_ W_ 0 0 5 rfl rfl rfl (C := RX4) (T := TX4) (N := 11) rfl (by decide) hinX4 (List.mem_of_getElem? (i := 10) rfl) dX4_takePlaces_65 ?_
  refine z_iconst F_ dX4_takePlaces_68 ?_
  refine z_bipush F_ (by decide) dX4_takePlaces_69 ?_
  refine z_acopy (sg' := [wI cy q S2 M2 sk_1 sc_2 mk_3 (zcp ms2 ms 0 0 8) mp, wI cy p S2 M2 sk2 sc2 mk2 ms2 mp2]) F_ K_ W_ hl.1 (F_.2.2.2.2 _ (List.mem_of_getElem? (i := 4) rfl)) (F_.2.2.2.2 _ (List.mem_of_getElem? (i := 5) rfl)) (F_.2.2.2.2 _ (List.mem_of_getElem? (i := 6) rfl)) (F_.2.2.2.2 _ (List.mem_of_getElem? (i := 7) rfl)) 1 4 0 4 rfl rfl rfl rfl rfl (by omega) (by decide) (by decide) (Nat.le_of_ble_eq_true rfl) (Nat.le_of_ble_eq_true rfl) dX4_takePlaces_71 (fun H_ lo_ W_ => ?_)
  obtain ⟨ms_4, ems_4⟩ : ∃ x_ : Int → Int, x_ = zcp ms2 ms 0 0 8 := ⟨_, rfl⟩
  rw [← ems_4] at W_
  have bms_4 : ∀ j : Int, 0 ≤ ms_4 j ∧ ms_4 j ≤ 9 := by rw [ems_4]; exact zcp_b bms2 bms
  refine lv_aload_n F_.1 F_.2.1 dX4_takePlaces_74 rfl (lv_at hl 1 rfl) ?_
  refine z_get F_ K_ W_ 1 0 6 rfl rfl rfl (C := RX4) (T := TX4) (N := 11) rfl (by decide) hinX4 (List.mem_of_getElem? (i := 11) rfl) dX4_takePlaces_75 ?_
  refine z_iconst F_ dX4_takePlaces_78 ?_
  refine lv_aload_n F_.1 F_.2.1 dX4_takePlaces_79 rfl (lv_at hl 0 rfl) ?_
  refine z_get F_ K_ W_ 0 0 6 rfl rfl rfl (C := RX4) (T := TX4) (N := 11) rfl (by decide) hinX4 (List.mem_of_getElem? (i := 11) rfl) dX4_takePlaces_80 ?_
  refine z_iconst F_ dX4_takePlaces_83 ?_
  refine z_bipush F_ (by decide) dX4_takePlaces_84 ?_
  refine z_acopy (sg' := [wI cy q S2 M2 sk_1 sc_2 mk_3 ms_4 (zcp mp2 mp 0 0 8), wI cy p S2 M2 sk2 sc2 mk2 ms2 mp2]) F_ K_ W_ hl.1 (F_.2.2.2.2 _ (List.mem_of_getElem? (i := 4) rfl)) (F_.2.2.2.2 _ (List.mem_of_getElem? (i := 5) rfl)) (F_.2.2.2.2 _ (List.mem_of_getElem? (i := 6) rfl)) (F_.2.2.2.2 _ (List.mem_of_getElem? (i := 7) rfl)) 1 5 0 5 rfl rfl rfl rfl rfl (by omega) (by decide) (by decide) (Nat.le_of_ble_eq_true rfl) (Nat.le_of_ble_eq_true rfl) dX4_takePlaces_86 (fun H_ lo_ W_ => ?_)
  obtain ⟨mp_5, emp_5⟩ : ∃ x_ : Int → Int, x_ = zcp mp2 mp 0 0 8 := ⟨_, rfl⟩
  rw [← emp_5] at W_
  have bmp_5 : ∀ j : Int, (-1) ≤ mp_5 j ∧ mp_5 j ≤ 2 := by rw [emp_5]; exact zcp_b bmp2 bmp
  exact hret _ _ _ _ (sk_1, sc_2, mk_3, ms_4, mp_5) dX4_takePlaces_89 ⟨(by first | omega | assumption), (by first | omega | assumption), (by first | omega | assumption), (by first | omega | assumption), (by first | omega | assumption), (by omega), (by omega), bsk_1, bsc_2, bmk_3, bms_4, bmp_5⟩ W_
abbrev rX4_take : Room := { frames := 2, cells := 0, slots := 0, locals := 39 }
set_option maxHeartbeats 1000000 in
set_option maxRecDepth 100000 in
theorem c_X4_take (l_ : Launch) (D : va_G) (cy : Nat → ClassId) (q : Nat → Nat) (S : Int) (M : Int) (sk : Int → Int) (sc : Int → Int) (mk : Int → Int) (ms : Int → Int) (mp : Int → Int) (p : Nat → Nat) (S2 : Int) (M2 : Int) (sk2 : Int → Int) (sc2 : Int → Int) (mk2 : Int → Int) (ms2 : Int → Int) (mp2 : Int → Int) (r1 : Int) (f1 : Int → Int) (r2 : Int) (f2 : Int → Int) (r3 : Int) (f3 : Int → Int) (r4 : Int) (f4 : Int → Int) (r1b : Int) (f1b : Int → Int) (r2b : Int) (f2b : Int → Int) (r3b : Int) (f3b : Int → Int) (r4b : Int) (f4b : Int → Int) (bS : 0 ≤ S ∧ S ≤ 3) (bM : 0 ≤ M ∧ M ≤ 8) (bsk : ∀ j : Int, 0 ≤ sk j ∧ sk j ≤ 5) (bsc : ∀ j : Int, 0 ≤ sc j ∧ sc j ≤ 99) (bmk : ∀ j : Int, 0 ≤ mk j ∧ mk j ≤ 5) (bms : ∀ j : Int, 0 ≤ ms j ∧ ms j ≤ 9) (bmp : ∀ j : Int, (-1) ≤ mp j ∧ mp j ≤ 2) (bS2 : 0 ≤ S2 ∧ S2 ≤ 3) (bM2 : 0 ≤ M2 ∧ M2 ≤ 8) (bsk2 : ∀ j : Int, 0 ≤ sk2 j ∧ sk2 j ≤ 5) (bsc2 : ∀ j : Int, 0 ≤ sc2 j ∧ sc2 j ≤ 99) (bmk2 : ∀ j : Int, 0 ≤ mk2 j ∧ mk2 j ≤ 5) (bms2 : ∀ j : Int, 0 ≤ ms2 j ∧ ms2 j ≤ 9) (bmp2 : ∀ j : Int, (-1) ≤ mp2 j ∧ mp2 j ≤ 2) (bf1 : ∀ j : Int, (-1) ≤ f1 j ∧ f1 j ≤ 99) (bf2 : ∀ j : Int, (-1) ≤ f2 j ∧ f2 j ≤ 99) (bf3 : ∀ j : Int, (-1) ≤ f3 j ∧ f3 j ≤ 99) (bf4 : ∀ j : Int, (-1) ≤ f4 j ∧ f4 j ≤ 99) (bf1b : ∀ j : Int, (-1) ≤ f1b j ∧ f1b j ≤ 99) (bf2b : ∀ j : Int, (-1) ≤ f2b j ∧ f2b j ≤ 99) (bf3b : ∀ j : Int, (-1) ≤ f3b j ∧ f3b j ≤ 99) (bf4b : ∀ j : Int, (-1) ≤ f4b j ∧ f4b j ≤ 99) (hr : 0 ≤ r1b ∧ r1b ≤ 5 ∧ 0 ≤ r2b ∧ r2b ≤ 6 ∧ 0 ≤ r3b ∧ r3b ≤ 6 ∧ 0 ≤ r4b ∧ r4b ≤ 8) : CTv l_ D cy yX4_take wsX4_take rX4_take [.ref (q 0), .ref (p 0)] ([wI cy q S M sk sc mk ms mp, wI cy p S2 M2 sk2 sc2 mk2 ms2 mp2, wF cy (q 6) (q 7) 20 5 r1 f1, wF cy (q 8) (q 9) 24 6 r2 f2, wF cy (q 10) (q 11) 24 6 r3 f3, wF cy (q 12) (q 13) 32 8 r4 f4, wF cy (p 6) (p 7) 20 5 r1b f1b, wF cy (p 8) (p 9) 24 6 r2b f2b, wF cy (p 10) (p 11) 24 6 r3b f3b, wF cy (p 12) (p 13) 32 8 r4b f4b]) (fun (u : (Int → Int) × (Int → Int) × (Int → Int) × (Int → Int) × (Int → Int) × (Int → Int) × (Int → Int) × (Int → Int) × (Int → Int)) => (u.1 = zcp sk2 sk 0 0 3) ∧ (u.2.1 = zcp sc2 sc 0 0 3) ∧ (u.2.2.1 = zcp mk2 mk 0 0 8) ∧ (u.2.2.2.1 = zcp ms2 ms 0 0 8) ∧ (u.2.2.2.2.1 = zcp mp2 mp 0 0 8) ∧ (u.2.2.2.2.2.1 = zcp f1b f1 0 0 (4 * r1b)) ∧ (u.2.2.2.2.2.2.1 = zcp f2b f2 0 0 (4 * r2b)) ∧ (u.2.2.2.2.2.2.2.1 = zcp f3b f3 0 0 (4 * r3b)) ∧ (u.2.2.2.2.2.2.2.2 = zcp f4b f4 0 0 (4 * r4b)) ∧ (0 ≤ S2 ∧ S2 ≤ 3) ∧ (0 ≤ M2 ∧ M2 ≤ 8) ∧ (∀ j : Int, 0 ≤ u.1 j ∧ u.1 j ≤ 5) ∧ (∀ j : Int, 0 ≤ u.2.1 j ∧ u.2.1 j ≤ 99) ∧ (∀ j : Int, 0 ≤ u.2.2.1 j ∧ u.2.2.1 j ≤ 5) ∧ (∀ j : Int, 0 ≤ u.2.2.2.1 j ∧ u.2.2.2.1 j ≤ 9) ∧ (∀ j : Int, (-1) ≤ u.2.2.2.2.1 j ∧ u.2.2.2.2.1 j ≤ 2) ∧ (∀ j : Int, (-1) ≤ u.2.2.2.2.2.1 j ∧ u.2.2.2.2.2.1 j ≤ 99) ∧ (∀ j : Int, (-1) ≤ u.2.2.2.2.2.2.1 j ∧ u.2.2.2.2.2.2.1 j ≤ 99) ∧ (∀ j : Int, (-1) ≤ u.2.2.2.2.2.2.2.1 j ∧ u.2.2.2.2.2.2.2.1 j ≤ 99) ∧ (∀ j : Int, (-1) ≤ u.2.2.2.2.2.2.2.2 j ∧ u.2.2.2.2.2.2.2.2 j ≤ 99)) (fun (u : (Int → Int) × (Int → Int) × (Int → Int) × (Int → Int) × (Int → Int) × (Int → Int) × (Int → Int) × (Int → Int) × (Int → Int)) => [wI cy q S2 M2 u.1 u.2.1 u.2.2.1 u.2.2.2.1 u.2.2.2.2.1, wI cy p S2 M2 sk2 sc2 mk2 ms2 mp2, wF cy (q 6) (q 7) 20 5 r1b u.2.2.2.2.2.1, wF cy (q 8) (q 9) 24 6 r2b u.2.2.2.2.2.2.1, wF cy (q 10) (q 11) 24 6 r3b u.2.2.2.2.2.2.2.1, wF cy (q 12) (q 13) 32 8 r4b u.2.2.2.2.2.2.2.2, wF cy (p 6) (p 7) 20 5 r1b f1b, wF cy (p 8) (p 9) 24 6 r2b f2b, wF cy (p 10) (p 11) 24 6 r3b f3b, wF cy (p 12) (p 13) 32 8 r4b f4b]) := by
  refine CTv.of RX4 cX4_take 2 rfl (by decide) rfl (Nat.le_of_ble_eq_true rfl) ?_
  intro p_ e_ s_ m_ ar_ be_ me_ c_ Q_ A_ ls_ F_ K_ W_ hl hret
  have hl : lv_has ls_ 2 [(0, .ref (q 0)), (1, .ref (p 0))] := hl
  obtain ⟨H_, hH_⟩ : ∃ x, x = s_.heap := ⟨_, rfl⟩
  obtain ⟨lo_, hlo_⟩ : ∃ x : List Loc, x = [] := ⟨_, rfl⟩
  have W_ : WD D A_ s_.heap ([wI cy q S M sk sc mk ms mp, wI cy p S2 M2 sk2 sc2 mk2 ms2 mp2, wF cy (q 6) (q 7) 20 5 r1 f1, wF cy (q 8) (q 9) 24 6 r2 f2, wF cy (q 10) (q 11) 24 6 r3 f3, wF cy (q 12) (q 13) 32 8 r4 f4, wF cy (p 6) (p 7) 20 5 r1b f1b, wF cy (p 8) (p 9) 24 6 r2b f2b, wF cy (p 10) (p 11) 24 6 r3b f3b, wF cy (p 12) (p 13) 32 8 r4b f4b]) H_ lo_ := by rw [hH_, hlo_]; exact W_
  rw [← hlo_]
  suffices hg_ : W p_ l_ e_ rX4_take s_ m_ ar_ be_ me_ c_ H_ lo_ 0 0 Q_ (F0 m_ 0 ls_ []) by rw [hH_] at hg_; exact hg_
  clear hH_ hlo_
  have hinX4 : ∀ w ∈ u_ws RX4 TX4 11, w ∈ wsX4_take := fun w h => List.mem_cons_of_mem _ (List.mem_append_left _ (List.mem_append_right _ h))
  refine lv_aload_n F_.1 F_.2.1 dX4_take_0 rfl (lv_at hl 0 rfl) ?_
  refine lv_aload_n F_.1 F_.2.1 dX4_take_1 rfl (lv_at hl 1 rfl) ?_
  refine z_callVv F_ K_ W_ [.ref (p 0)] (c_X4_takePlaces l_ D cy q S M sk sc mk ms mp p S2 M2 sk2 sc2 mk2 ms2 mp2 (by omega) (by omega) bsk bsc bmk bms bmp (by omega) (by omega) bsk2 bsc2 bmk2 bms2 bmp2) 1 rfl gX4_take_X4_takePlaces rfl (by decide +kernel) ⟨⟨Nat.le_of_ble_eq_true rfl, Nat.le_of_ble_eq_true rfl⟩, rfl, rfl, Nat.zero_le _, Nat.zero_le _⟩ 0 0 4 rfl rfl rfl rfl hl.1 rfl (Nat.le_of_ble_eq_true rfl) [0, 1] [2, 3, 4, 5, 6, 7, 8, 9] [wF cy (q 6) (q 7) 20 5 r1 f1, wF cy (q 8) (q 9) 24 6 r2 f2, wF cy (q 10) (q 11) 24 6 r3 f3, wF cy (q 12) (q 13) 32 8 r4 f4, wF cy (p 6) (p 7) 20 5 r1b f1b, wF cy (p 8) (p 9) 24 6 r2b f2b, wF cy (p 10) (p 11) 24 6 r3b f3b, wF cy (p 12) (p 13) 32 8 r4b f4b] (fun (u_ : (Int → Int) × (Int → Int) × (Int → Int) × (Int → Int) × (Int → Int)) => [wI cy q S2 M2 u_.1 u_.2.1 u_.2.2.1 u_.2.2.2.1 u_.2.2.2.2, wI cy p S2 M2 sk2 sc2 mk2 ms2 mp2, wF cy (q 6) (q 7) 20 5 r1 f1, wF cy (q 8) (q 9) 24 6 r2 f2, wF cy (q 10) (q 11) 24 6 r3 f3, wF cy (q 12) (q 13) 32 8 r4 f4, wF cy (p 6) (p 7) 20 5 r1b f1b, wF cy (p 8) (p 9) 24 6 r2b f2b, wF cy (p 10) (p 11) 24 6 r3b f3b, wF cy (p 12) (p 13) 32 8 r4b f4b]) 10 (by decide +kernel) rfl rfl rfl (fun _ => rfl) (fun _ => rfl) (fun _ => rfl) dX4_take_2 (fun u_ H_ lo_ hw_ W_ => ?_)
  obtain ⟨nk_2, nc_3, n1_4, n2_5, n3_6⟩ := u_
  have W_ : WD D A_ s_.heap ([wI cy q S2 M2 nk_2 nc_3 n1_4 n2_5 n3_6, wI cy p S2 M2 sk2 sc2 mk2 ms2 mp2, wF cy (q 6) (q 7) 20 5 r1 f1, wF cy (q 8) (q 9) 24 6 r2 f2, wF cy (q 10) (q 11) 24 6 r3 f3, wF cy (q 12) (q 13) 32 8 r4 f4, wF cy (p 6) (p 7) 20 5 r1b f1b, wF cy (p 8) (p 9) 24 6 r2b f2b, wF cy (p 10) (p 11) 24 6 r3b f3b, wF cy (p 12) (p 13) 32 8 r4b f4b]) H_ lo_ := W_
  have hw_ : (nk_2 = zcp sk2 sk 0 0 3) ∧ (nc_3 = zcp sc2 sc 0 0 3) ∧ (n1_4 = zcp mk2 mk 0 0 8) ∧ (n2_5 = zcp ms2 ms 0 0 8) ∧ (n3_6 = zcp mp2 mp 0 0 8) ∧ (0 ≤ S2 ∧ S2 ≤ 3) ∧ (0 ≤ M2 ∧ M2 ≤ 8) ∧ (∀ j : Int, 0 ≤ nk_2 j ∧ nk_2 j ≤ 5) ∧ (∀ j : Int, 0 ≤ nc_3 j ∧ nc_3 j ≤ 99) ∧ (∀ j : Int, 0 ≤ n1_4 j ∧ n1_4 j ≤ 5) ∧ (∀ j : Int, 0 ≤ n2_5 j ∧ n2_5 j ≤ 9) ∧ (∀ j : Int, (-1) ≤ n3_6 j ∧ n3_6 j ≤ 2) := hw_
  obtain ⟨f2_k, f2_c, f2_a1, f2_a2, f2_a3, f2_B_I_S, f2_B_I_M, f2_B_I_sk, f2_B_I_sc, f2_B_I_mk, f2_B_I_ms, f2_B_I_mp⟩ := hw_
  refine lv_aload_n F_.1 F_.2.1 dX4_take_5 rfl (lv_at hl 0 rfl) ?_
  refine z_get F_ K_ W_ 0 0 7 rfl rfl rfl (C := RX4) (T := TX4) (N := 11) rfl (by decide) hinX4 (List.mem_of_getElem? (i := 1) rfl) dX4_take_6 ?_
  refine lv_aload_n F_.1 F_.2.1 dX4_take_9 rfl (lv_at hl 1 rfl) ?_
  refine z_get F_ K_ W_ 1 0 7 rfl rfl rfl (C := RX4) (T := TX4) (N := 11) rfl (by decide) hinX4 (List.mem_of_getElem? (i := 1) rfl) dX4_take_10 ?_
  refine z_callVv F_ K_ W_ [.ref (p 6)] (c_X2_take l_ D cy (q 6) (q 7) 20 5 r1 f1 (p 6) (p 7) r1b f1b bf1 bf1b (by first | omega | assumption) (by first | omega | assumption)) 1 rfl gX4_take_X2_take rfl (by decide +kernel) ⟨⟨Nat.le_of_ble_eq_true rfl, Nat.le_of_ble_eq_true rfl⟩, rfl, rfl, Nat.zero_le _, Nat.zero_le _⟩ 0 0 2 rfl rfl rfl rfl hl.1 rfl (Nat.le_of_ble_eq_true rfl) [2, 6] [0, 1, 3, 4, 5, 7, 8, 9] [wI cy q S2 M2 nk_2 nc_3 n1_4 n2_5 n3_6, wI cy p S2 M2 sk2 sc2 mk2 ms2 mp2, wF cy (q 8) (q 9) 24 6 r2 f2, wF cy (q 10) (q 11) 24 6 r3 f3, wF cy (q 12) (q 13) 32 8 r4 f4, wF cy (p 8) (p 9) 24 6 r2b f2b, wF cy (p 10) (p 11) 24 6 r3b f3b, wF cy (p 12) (p 13) 32 8 r4b f4b] (fun (u_ : (Int → Int)) => [wI cy q S2 M2 nk_2 nc_3 n1_4 n2_5 n3_6, wI cy p S2 M2 sk2 sc2 mk2 ms2 mp2, wF cy (q 6) (q 7) 20 5 r1b u_, wF cy (q 8) (q 9) 24 6 r2 f2, wF cy (q 10) (q 11) 24 6 r3 f3, wF cy (q 12) (q 13) 32 8 r4 f4, wF cy (p 6) (p 7) 20 5 r1b f1b, wF cy (p 8) (p 9) 24 6 r2b f2b, wF cy (p 10) (p 11) 24 6 r3b f3b, wF cy (p 12) (p 13) 32 8 r4b f4b]) 10 (by decide +kernel) rfl rfl rfl (fun _ => rfl) (fun _ => rfl) (fun _ => rfl) dX4_take_13 (fun u_ H_ lo_ hw_ W_ => ?_)
  obtain ⟨g_8, rfl⟩ : ∃ x, x = u_ := ⟨_, rfl⟩
  have W_ : WD D A_ s_.heap ([wI cy q S2 M2 nk_2 nc_3 n1_4 n2_5 n3_6, wI cy p S2 M2 sk2 sc2 mk2 ms2 mp2, wF cy (q 6) (q 7) 20 5 r1b g_8, wF cy (q 8) (q 9) 24 6 r2 f2, wF cy (q 10) (q 11) 24 6 r3 f3, wF cy (q 12) (q 13) 32 8 r4 f4, wF cy (p 6) (p 7) 20 5 r1b f1b, wF cy (p 8) (p 9) 24 6 r2b f2b, wF cy (p 10) (p 11) 24 6 r3b f3b, wF cy (p 12) (p 13) 32 8 r4b f4b]) H_ lo_ := W_
  have hw_ : (g_8 = zcp f1b f1 0 0 (4 * r1b)) ∧ (∀ j : Int, (-1) ≤ g_8 j ∧ g_8 j ≤ 99) := hw_
  obtain ⟨f13_v, f13_B_F_f⟩ := hw_
  refine lv_aload_n F_.1 F_.2.1 dX4_take_16 rfl (lv_at hl 0 rfl) ?_
  refine z_get F_ K_ W_ 0 0 8 rfl rfl rfl (C := RX4) (T := TX4) (N := 11) rfl (by decide) hinX4 (List.mem_of_getElem? (i := 2) rfl) dX4_take_17 ?_
  refine lv_aload_n F_.1 F_.2.1 dX4_take_20 rfl (lv_at hl 1 rfl) ?_
  refine z_get F_ K_ W_ 1 0 8 rfl rfl rfl (C := RX4) (T := TX4) (N := 11) rfl (by decide) hinX4 (List.mem_of_getElem? (i := 2) rfl) dX4_take_21 ?_
  refine z_callVv F_ K_ W_ [.ref (p 8)] (c_X2_take l_ D cy (q 8) (q 9) 24 6 r2 f2 (p 8) (p 9) r2b f2b bf2 bf2b (by first | omega | assumption) (by first | omega | assumption)) 1 rfl gX4_take_X2_take rfl (by decide +kernel) ⟨⟨Nat.le_of_ble_eq_true rfl, Nat.le_of_ble_eq_true rfl⟩, rfl, rfl, Nat.zero_le _, Nat.zero_le _⟩ 0 0 2 rfl rfl rfl rfl hl.1 rfl (Nat.le_of_ble_eq_true rfl) [3, 7] [0, 1, 2, 4, 5, 6, 8, 9] [wI cy q S2 M2 nk_2 nc_3 n1_4 n2_5 n3_6, wI cy p S2 M2 sk2 sc2 mk2 ms2 mp2, wF cy (q 6) (q 7) 20 5 r1b g_8, wF cy (q 10) (q 11) 24 6 r3 f3, wF cy (q 12) (q 13) 32 8 r4 f4, wF cy (p 6) (p 7) 20 5 r1b f1b, wF cy (p 10) (p 11) 24 6 r3b f3b, wF cy (p 12) (p 13) 32 8 r4b f4b] (fun (u_ : (Int → Int)) => [wI cy q S2 M2 nk_2 nc_3 n1_4 n2_5 n3_6, wI cy p S2 M2 sk2 sc2 mk2 ms2 mp2, wF cy (q 6) (q 7) 20 5 r1b g_8, wF cy (q 8) (q 9) 24 6 r2b u_, wF cy (q 10) (q 11) 24 6 r3 f3, wF cy (q 12) (q 13) 32 8 r4 f4, wF cy (p 6) (p 7) 20 5 r1b f1b, wF cy (p 8) (p 9) 24 6 r2b f2b, wF cy (p 10) (p 11) 24 6 r3b f3b, wF cy (p 12) (p 13) 32 8 r4b f4b]) 10 (by decide +kernel) rfl rfl rfl (fun _ => rfl) (fun _ => rfl) (fun _ => rfl) dX4_take_24 (fun u_ H_ lo_ hw_ W_ => ?_)
  obtain ⟨g_10, rfl⟩ : ∃ x, x = u_ := ⟨_, rfl⟩
  have W_ : WD D A_ s_.heap ([wI cy q S2 M2 nk_2 nc_3 n1_4 n2_5 n3_6, wI cy p S2 M2 sk2 sc2 mk2 ms2 mp2, wF cy (q 6) (q 7) 20 5 r1b g_8, wF cy (q 8) (q 9) 24 6 r2b g_10, wF cy (q 10) (q 11) 24 6 r3 f3, wF cy (q 12) (q 13) 32 8 r4 f4, wF cy (p 6) (p 7) 20 5 r1b f1b, wF cy (p 8) (p 9) 24 6 r2b f2b, wF cy (p 10) (p 11) 24 6 r3b f3b, wF cy (p 12) (p 13) 32 8 r4b f4b]) H_ lo_ := W_
  have hw_ : (g_10 = zcp f2b f2 0 0 (4 * r2b)) ∧ (∀ j : Int, (-1) ≤ g_10 j ∧ g_10 j ≤ 99) := hw_
  obtain ⟨f24_v, f24_B_F_f⟩ := hw_
  refine lv_aload_n F_.1 F_.2.1 dX4_take_27 rfl (lv_at hl 0 rfl) ?_
  refine z_get F_ K_ W_ 0 0 9 rfl rfl rfl (C := RX4) (T := TX4) (N := 11) rfl (by decide) hinX4 (List.mem_of_getElem? (i := 3) rfl) dX4_take_28 ?_
  refine lv_aload_n F_.1 F_.2.1 dX4_take_31 rfl (lv_at hl 1 rfl) ?_
  refine z_get F_ K_ W_ 1 0 9 rfl rfl rfl (C := RX4) (T := TX4) (N := 11) rfl (by decide) hinX4 (List.mem_of_getElem? (i := 3) rfl) dX4_take_32 ?_
  refine z_callVv F_ K_ W_ [.ref (p 10)] (c_X2_take l_ D cy (q 10) (q 11) 24 6 r3 f3 (p 10) (p 11) r3b f3b bf3 bf3b (by first | omega | assumption) (by first | omega | assumption)) 1 rfl gX4_take_X2_take rfl (by decide +kernel) ⟨⟨Nat.le_of_ble_eq_true rfl, Nat.le_of_ble_eq_true rfl⟩, rfl, rfl, Nat.zero_le _, Nat.zero_le _⟩ 0 0 2 rfl rfl rfl rfl hl.1 rfl (Nat.le_of_ble_eq_true rfl) [4, 8] [0, 1, 2, 3, 5, 6, 7, 9] [wI cy q S2 M2 nk_2 nc_3 n1_4 n2_5 n3_6, wI cy p S2 M2 sk2 sc2 mk2 ms2 mp2, wF cy (q 6) (q 7) 20 5 r1b g_8, wF cy (q 8) (q 9) 24 6 r2b g_10, wF cy (q 12) (q 13) 32 8 r4 f4, wF cy (p 6) (p 7) 20 5 r1b f1b, wF cy (p 8) (p 9) 24 6 r2b f2b, wF cy (p 12) (p 13) 32 8 r4b f4b] (fun (u_ : (Int → Int)) => [wI cy q S2 M2 nk_2 nc_3 n1_4 n2_5 n3_6, wI cy p S2 M2 sk2 sc2 mk2 ms2 mp2, wF cy (q 6) (q 7) 20 5 r1b g_8, wF cy (q 8) (q 9) 24 6 r2b g_10, wF cy (q 10) (q 11) 24 6 r3b u_, wF cy (q 12) (q 13) 32 8 r4 f4, wF cy (p 6) (p 7) 20 5 r1b f1b, wF cy (p 8) (p 9) 24 6 r2b f2b, wF cy (p 10) (p 11) 24 6 r3b f3b, wF cy (p 12) (p 13) 32 8 r4b f4b]) 10 (by decide +kernel) rfl rfl rfl (fun _ => rfl) (fun _ => rfl) (fun _ => rfl) dX4_take_35 (fun u_ H_ lo_ hw_ W_ => ?_)
  obtain ⟨g_12, rfl⟩ : ∃ x, x = u_ := ⟨_, rfl⟩
  have W_ : WD D A_ s_.heap ([wI cy q S2 M2 nk_2 nc_3 n1_4 n2_5 n3_6, wI cy p S2 M2 sk2 sc2 mk2 ms2 mp2, wF cy (q 6) (q 7) 20 5 r1b g_8, wF cy (q 8) (q 9) 24 6 r2b g_10, wF cy (q 10) (q 11) 24 6 r3b g_12, wF cy (q 12) (q 13) 32 8 r4 f4, wF cy (p 6) (p 7) 20 5 r1b f1b, wF cy (p 8) (p 9) 24 6 r2b f2b, wF cy (p 10) (p 11) 24 6 r3b f3b, wF cy (p 12) (p 13) 32 8 r4b f4b]) H_ lo_ := W_
  have hw_ : (g_12 = zcp f3b f3 0 0 (4 * r3b)) ∧ (∀ j : Int, (-1) ≤ g_12 j ∧ g_12 j ≤ 99) := hw_
  obtain ⟨f35_v, f35_B_F_f⟩ := hw_
  refine lv_aload_n F_.1 F_.2.1 dX4_take_38 rfl (lv_at hl 0 rfl) ?_
  refine z_get F_ K_ W_ 0 0 10 rfl rfl rfl (C := RX4) (T := TX4) (N := 11) rfl (by decide) hinX4 (List.mem_of_getElem? (i := 4) rfl) dX4_take_39 ?_
  refine lv_aload_n F_.1 F_.2.1 dX4_take_42 rfl (lv_at hl 1 rfl) ?_
  refine z_get F_ K_ W_ 1 0 10 rfl rfl rfl (C := RX4) (T := TX4) (N := 11) rfl (by decide) hinX4 (List.mem_of_getElem? (i := 4) rfl) dX4_take_43 ?_
  refine z_callVv F_ K_ W_ [.ref (p 12)] (c_X2_take l_ D cy (q 12) (q 13) 32 8 r4 f4 (p 12) (p 13) r4b f4b bf4 bf4b (by first | omega | assumption) (by first | omega | assumption)) 1 rfl gX4_take_X2_take rfl (by decide +kernel) ⟨⟨Nat.le_of_ble_eq_true rfl, Nat.le_of_ble_eq_true rfl⟩, rfl, rfl, Nat.zero_le _, Nat.zero_le _⟩ 0 0 2 rfl rfl rfl rfl hl.1 rfl (Nat.le_of_ble_eq_true rfl) [5, 9] [0, 1, 2, 3, 4, 6, 7, 8] [wI cy q S2 M2 nk_2 nc_3 n1_4 n2_5 n3_6, wI cy p S2 M2 sk2 sc2 mk2 ms2 mp2, wF cy (q 6) (q 7) 20 5 r1b g_8, wF cy (q 8) (q 9) 24 6 r2b g_10, wF cy (q 10) (q 11) 24 6 r3b g_12, wF cy (p 6) (p 7) 20 5 r1b f1b, wF cy (p 8) (p 9) 24 6 r2b f2b, wF cy (p 10) (p 11) 24 6 r3b f3b] (fun (u_ : (Int → Int)) => [wI cy q S2 M2 nk_2 nc_3 n1_4 n2_5 n3_6, wI cy p S2 M2 sk2 sc2 mk2 ms2 mp2, wF cy (q 6) (q 7) 20 5 r1b g_8, wF cy (q 8) (q 9) 24 6 r2b g_10, wF cy (q 10) (q 11) 24 6 r3b g_12, wF cy (q 12) (q 13) 32 8 r4b u_, wF cy (p 6) (p 7) 20 5 r1b f1b, wF cy (p 8) (p 9) 24 6 r2b f2b, wF cy (p 10) (p 11) 24 6 r3b f3b, wF cy (p 12) (p 13) 32 8 r4b f4b]) 10 (by decide +kernel) rfl rfl rfl (fun _ => rfl) (fun _ => rfl) (fun _ => rfl) dX4_take_46 (fun u_ H_ lo_ hw_ W_ => ?_)
  obtain ⟨g_14, rfl⟩ : ∃ x, x = u_ := ⟨_, rfl⟩
  have W_ : WD D A_ s_.heap ([wI cy q S2 M2 nk_2 nc_3 n1_4 n2_5 n3_6, wI cy p S2 M2 sk2 sc2 mk2 ms2 mp2, wF cy (q 6) (q 7) 20 5 r1b g_8, wF cy (q 8) (q 9) 24 6 r2b g_10, wF cy (q 10) (q 11) 24 6 r3b g_12, wF cy (q 12) (q 13) 32 8 r4b g_14, wF cy (p 6) (p 7) 20 5 r1b f1b, wF cy (p 8) (p 9) 24 6 r2b f2b, wF cy (p 10) (p 11) 24 6 r3b f3b, wF cy (p 12) (p 13) 32 8 r4b f4b]) H_ lo_ := W_
  have hw_ : (g_14 = zcp f4b f4 0 0 (4 * r4b)) ∧ (∀ j : Int, (-1) ≤ g_14 j ∧ g_14 j ≤ 99) := hw_
  obtain ⟨f46_v, f46_B_F_f⟩ := hw_
  exact hret _ _ _ _ (nk_2, nc_3, n1_4, n2_5, n3_6, g_8, g_10, g_12, g_14) dX4_take_49 ⟨(by first | omega | assumption), (by first | omega | assumption), (by first | omega | assumption), (by first | omega | assumption), (by first | omega | assumption), (by first | omega | assumption), (by first | omega | assumption), (by first | omega | assumption), (by first | omega | assumption), (by omega), (by omega), f2_B_I_sk, f2_B_I_sc, f2_B_I_mk, f2_B_I_ms, f2_B_I_mp, f13_B_F_f, f24_B_F_f, f35_B_F_f, f46_B_F_f⟩ W_
abbrev rX4_empty : Room := { frames := 1, cells := 0, slots := 0, locals := 21 }
set_option maxHeartbeats 1000000 in
set_option maxRecDepth 100000 in
theorem c_X4_empty (l_ : Launch) (D : va_G) (cy : Nat → ClassId) (q : Nat → Nat) (S : Int) (M : Int) (sk : Int → Int) (sc : Int → Int) (mk : Int → Int) (ms : Int → Int) (mp : Int → Int) (r1 : Int) (f1 : Int → Int) (r2 : Int) (f2 : Int → Int) (r3 : Int) (f3 : Int → Int) (r4 : Int) (f4 : Int → Int) (bS : 0 ≤ S ∧ S ≤ 3) (bM : 0 ≤ M ∧ M ≤ 8) (bsk : ∀ j : Int, 0 ≤ sk j ∧ sk j ≤ 5) (bsc : ∀ j : Int, 0 ≤ sc j ∧ sc j ≤ 99) (bmk : ∀ j : Int, 0 ≤ mk j ∧ mk j ≤ 5) (bms : ∀ j : Int, 0 ≤ ms j ∧ ms j ≤ 9) (bmp : ∀ j : Int, (-1) ≤ mp j ∧ mp j ≤ 2) (bf1 : ∀ j : Int, (-1) ≤ f1 j ∧ f1 j ≤ 99) (bf2 : ∀ j : Int, (-1) ≤ f2 j ∧ f2 j ≤ 99) (bf3 : ∀ j : Int, (-1) ≤ f3 j ∧ f3 j ≤ 99) (bf4 : ∀ j : Int, (-1) ≤ f4 j ∧ f4 j ≤ 99) : CTv l_ D cy yX4_empty wsX4_empty rX4_empty [.ref (q 0)] ([wI cy q S M sk sc mk ms mp, wF cy (q 6) (q 7) 20 5 r1 f1, wF cy (q 8) (q 9) 24 6 r2 f2, wF cy (q 10) (q 11) 24 6 r3 f3, wF cy (q 12) (q 13) 32 8 r4 f4]) (fun (u : Unit) => (0 ≤ 0 ∧ 0 ≤ 3) ∧ (0 ≤ 0 ∧ 0 ≤ 8)) (fun (u : Unit) => [wI cy q 0 0 sk sc mk ms mp, wF cy (q 6) (q 7) 20 5 0 f1, wF cy (q 8) (q 9) 24 6 0 f2, wF cy (q 10) (q 11) 24 6 0 f3, wF cy (q 12) (q 13) 32 8 0 f4]) := by
  refine CTv.of RX4 cX4_empty 1 rfl (by decide) rfl (Nat.le_of_ble_eq_true rfl) ?_
  intro p_ e_ s_ m_ ar_ be_ me_ c_ Q_ A_ ls_ F_ K_ W_ hl hret
  have hl : lv_has ls_ 1 [(0, .ref (q 0))] := hl
  obtain ⟨H_, hH_⟩ : ∃ x, x = s_.heap := ⟨_, rfl⟩
  obtain ⟨lo_, hlo_⟩ : ∃ x : List Loc, x = [] := ⟨_, rfl⟩
  have W_ : WD D A_ s_.heap ([wI cy q S M sk sc mk ms mp, wF cy (q 6) (q 7) 20 5 r1 f1, wF cy (q 8) (q 9) 24 6 r2 f2, wF cy (q 10) (q 11) 24 6 r3 f3, wF cy (q 12) (q 13) 32 8 r4 f4]) H_ lo_ := by rw [hH_, hlo_]; exact W_
  rw [← hlo_]
  suffices hg_ : W p_ l_ e_ rX4_empty s_ m_ ar_ be_ me_ c_ H_ lo_ 0 0 Q_ (F0 m_ 0 ls_ []) by rw [hH_] at hg_; exact hg_
  clear hH_ hlo_
  have hinX4 : ∀ w ∈ u_ws RX4 TX4 11, w ∈ wsX4_empty := fun w h => List.mem_cons_of_mem _ (List.mem_append_left _ (List.mem_append_right _ h))
  refine lv_aload_n F_.1 F_.2.1 dX4_empty_0 rfl (lv_at hl 0 rfl) ?_
  refine z_iconst F_ dX4_empty_1 ?_
  refine z_put (sg' := [wI cy q 0 M sk sc mk ms mp, wF cy (q 6) (q 7) 20 5 r1 f1, wF cy (q 8) (q 9) 24 6 r2 f2, wF cy (q 10) (q 11) 24 6 r3 f3, wF cy (q 12) (q 13) 32 8 r4 f4]) F_ K_ W_ 0 0 0 rfl rfl rfl (C := RX4) (T := TX4) (N := 11) rfl ⟨Nat.le_of_ble_eq_true rfl, Nat.le_of_ble_eq_true rfl⟩ tyX4 tyX4_ok nmX4 rfl rfl rfl hinX4 (List.mem_of_getElem? (i := 1) rfl) dX4_empty_2 (fun H_ lo_ W_ => ?_)
  refine lv_aload_n F_.1 F_.2.1 dX4_empty_5 rfl (lv_at hl 0 rfl) ?_
  refine z_iconst F_ dX4_empty_6 ?_
  refine z_put (sg' := [wI cy q 0 0 sk sc mk ms mp, wF cy (q 6) (q 7) 20 5 r1 f1, wF cy (q 8) (q 9) 24 6 r2 f2, wF cy (q 10) (q 11) 24 6 r3 f3, wF cy (q 12) (q 13) 32 8 r4 f4]) F_ K_ W_ 0 0 1 rfl rfl rfl (C := RX4) (T := TX4) (N := 11) rfl ⟨Nat.le_of_ble_eq_true rfl, Nat.le_of_ble_eq_true rfl⟩ tyX4 tyX4_ok nmX4 rfl rfl rfl hinX4 (List.mem_of_getElem? (i := 2) rfl) dX4_empty_7 (fun H_ lo_ W_ => ?_)
  refine lv_aload_n F_.1 F_.2.1 dX4_empty_10 rfl (lv_at hl 0 rfl) ?_
  refine z_get F_ K_ W_ 0 0 7 rfl rfl rfl (C := RX4) (T := TX4) (N := 11) rfl (by decide) hinX4 (List.mem_of_getElem? (i := 3) rfl) dX4_empty_11 ?_
  refine z_callVi F_ K_ W_ [] (c_X2_empty l_ D cy (q 6) (q 7) 20 5 r1 f1 bf1) 0 rfl gX4_empty_X2_empty rfl (by decide +kernel) ⟨⟨Nat.le_of_ble_eq_true rfl, Nat.le_of_ble_eq_true rfl⟩, rfl, rfl, Nat.zero_le _, Nat.zero_le _⟩ 0 0 2 rfl rfl rfl rfl hl.1 rfl (Nat.le_of_ble_eq_true rfl) [1] [0, 2, 3, 4] [wI cy q 0 0 sk sc mk ms mp, wF cy (q 8) (q 9) 24 6 r2 f2, wF cy (q 10) (q 11) 24 6 r3 f3, wF cy (q 12) (q 13) 32 8 r4 f4] (fun (u_ : Unit) => [wI cy q 0 0 sk sc mk ms mp, wF cy (q 6) (q 7) 20 5 0 f1, wF cy (q 8) (q 9) 24 6 r2 f2, wF cy (q 10) (q 11) 24 6 r3 f3, wF cy (q 12) (q 13) 32 8 r4 f4]) 5 (by decide +kernel) rfl rfl rfl (fun _ => rfl) (fun _ => rfl) (fun _ => rfl) dX4_empty_14 (fun z_1 u_ H_ lo_ hw_ W_ => ?_)
  have W_ : WD D A_ s_.heap ([wI cy q 0 0 sk sc mk ms mp, wF cy (q 6) (q 7) 20 5 0 f1, wF cy (q 8) (q 9) 24 6 r2 f2, wF cy (q 10) (q 11) 24 6 r3 f3, wF cy (q 12) (q 13) 32 8 r4 f4]) H_ lo_ := W_
  have hw_ : (z_1 = r1) := hw_
  have f14_v := hw_
  refine lv_pop F_.1 F_.2.1 dX4_empty_17 rfl ?_
  refine lv_aload_n F_.1 F_.2.1 dX4_empty_18 rfl (lv_at hl 0 rfl) ?_
  refine z_get F_ K_ W_ 0 0 8 rfl rfl rfl (C := RX4) (T := TX4) (N := 11) rfl (by decide) hinX4 (List.mem_of_getElem? (i := 4) rfl) dX4_empty_19 ?_
  refine z_callVi F_ K_ W_ [] (c_X2_empty l_ D cy (q 8) (q 9) 24 6 r2 f2 bf2) 0 rfl gX4_empty_X2_empty rfl (by decide +kernel) ⟨⟨Nat.le_of_ble_eq_true rfl, Nat.le_of_ble_eq_true rfl⟩, rfl, rfl, Nat.zero_le _, Nat.zero_le _⟩ 0 0 2 rfl rfl rfl rfl hl.1 rfl (Nat.le_of_ble_eq_true rfl) [2] [0, 1, 3, 4] [wI cy q 0 0 sk sc mk ms mp, wF cy (q 6) (q 7) 20 5 0 f1, wF cy (q 10) (q 11) 24 6 r3 f3, wF cy (q 12) (q 13) 32 8 r4 f4] (fun (u_ : Unit) => [wI cy q 0 0 sk sc mk ms mp, wF cy (q 6) (q 7) 20 5 0 f1, wF cy (q 8) (q 9) 24 6 0 f2, wF cy (q 10) (q 11) 24 6 r3 f3, wF cy (q 12) (q 13) 32 8 r4 f4]) 5 (by decide +kernel) rfl rfl rfl (fun _ => rfl) (fun _ => rfl) (fun _ => rfl) dX4_empty_22 (fun z_2 u_ H_ lo_ hw_ W_ => ?_)
  have W_ : WD D A_ s_.heap ([wI cy q 0 0 sk sc mk ms mp, wF cy (q 6) (q 7) 20 5 0 f1, wF cy (q 8) (q 9) 24 6 0 f2, wF cy (q 10) (q 11) 24 6 r3 f3, wF cy (q 12) (q 13) 32 8 r4 f4]) H_ lo_ := W_
  have hw_ : (z_2 = r2) := hw_
  have f22_v := hw_
  refine lv_pop F_.1 F_.2.1 dX4_empty_25 rfl ?_
  refine lv_aload_n F_.1 F_.2.1 dX4_empty_26 rfl (lv_at hl 0 rfl) ?_
  refine z_get F_ K_ W_ 0 0 9 rfl rfl rfl (C := RX4) (T := TX4) (N := 11) rfl (by decide) hinX4 (List.mem_of_getElem? (i := 5) rfl) dX4_empty_27 ?_
  refine z_callVi F_ K_ W_ [] (c_X2_empty l_ D cy (q 10) (q 11) 24 6 r3 f3 bf3) 0 rfl gX4_empty_X2_empty rfl (by decide +kernel) ⟨⟨Nat.le_of_ble_eq_true rfl, Nat.le_of_ble_eq_true rfl⟩, rfl, rfl, Nat.zero_le _, Nat.zero_le _⟩ 0 0 2 rfl rfl rfl rfl hl.1 rfl (Nat.le_of_ble_eq_true rfl) [3] [0, 1, 2, 4] [wI cy q 0 0 sk sc mk ms mp, wF cy (q 6) (q 7) 20 5 0 f1, wF cy (q 8) (q 9) 24 6 0 f2, wF cy (q 12) (q 13) 32 8 r4 f4] (fun (u_ : Unit) => [wI cy q 0 0 sk sc mk ms mp, wF cy (q 6) (q 7) 20 5 0 f1, wF cy (q 8) (q 9) 24 6 0 f2, wF cy (q 10) (q 11) 24 6 0 f3, wF cy (q 12) (q 13) 32 8 r4 f4]) 5 (by decide +kernel) rfl rfl rfl (fun _ => rfl) (fun _ => rfl) (fun _ => rfl) dX4_empty_30 (fun z_3 u_ H_ lo_ hw_ W_ => ?_)
  have W_ : WD D A_ s_.heap ([wI cy q 0 0 sk sc mk ms mp, wF cy (q 6) (q 7) 20 5 0 f1, wF cy (q 8) (q 9) 24 6 0 f2, wF cy (q 10) (q 11) 24 6 0 f3, wF cy (q 12) (q 13) 32 8 r4 f4]) H_ lo_ := W_
  have hw_ : (z_3 = r3) := hw_
  have f30_v := hw_
  refine lv_pop F_.1 F_.2.1 dX4_empty_33 rfl ?_
  refine lv_aload_n F_.1 F_.2.1 dX4_empty_34 rfl (lv_at hl 0 rfl) ?_
  refine z_get F_ K_ W_ 0 0 10 rfl rfl rfl (C := RX4) (T := TX4) (N := 11) rfl (by decide) hinX4 (List.mem_of_getElem? (i := 6) rfl) dX4_empty_35 ?_
  refine z_callVi F_ K_ W_ [] (c_X2_empty l_ D cy (q 12) (q 13) 32 8 r4 f4 bf4) 0 rfl gX4_empty_X2_empty rfl (by decide +kernel) ⟨⟨Nat.le_of_ble_eq_true rfl, Nat.le_of_ble_eq_true rfl⟩, rfl, rfl, Nat.zero_le _, Nat.zero_le _⟩ 0 0 2 rfl rfl rfl rfl hl.1 rfl (Nat.le_of_ble_eq_true rfl) [4] [0, 1, 2, 3] [wI cy q 0 0 sk sc mk ms mp, wF cy (q 6) (q 7) 20 5 0 f1, wF cy (q 8) (q 9) 24 6 0 f2, wF cy (q 10) (q 11) 24 6 0 f3] (fun (u_ : Unit) => [wI cy q 0 0 sk sc mk ms mp, wF cy (q 6) (q 7) 20 5 0 f1, wF cy (q 8) (q 9) 24 6 0 f2, wF cy (q 10) (q 11) 24 6 0 f3, wF cy (q 12) (q 13) 32 8 0 f4]) 5 (by decide +kernel) rfl rfl rfl (fun _ => rfl) (fun _ => rfl) (fun _ => rfl) dX4_empty_38 (fun z_4 u_ H_ lo_ hw_ W_ => ?_)
  have W_ : WD D A_ s_.heap ([wI cy q 0 0 sk sc mk ms mp, wF cy (q 6) (q 7) 20 5 0 f1, wF cy (q 8) (q 9) 24 6 0 f2, wF cy (q 10) (q 11) 24 6 0 f3, wF cy (q 12) (q 13) 32 8 0 f4]) H_ lo_ := W_
  have hw_ : (z_4 = r4) := hw_
  have f38_v := hw_
  refine lv_pop F_.1 F_.2.1 dX4_empty_41 rfl ?_
  exact hret _ _ _ _ () dX4_empty_42 ⟨(by omega), (by omega)⟩ W_
