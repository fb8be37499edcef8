abbrev rX6_readOnto : Room := { frames := 6, cells := 0, slots := 0, locals := 132 }
set_option maxHeartbeats 1000000 in
set_option maxRecDepth 100000 in
theorem c_X6_readOnto (l_ : Launch) (D : va_G) (cy : Nat → ClassId) (sa sv : Nat → Nat) (x : Nat → Nat) (ln : Int) (tok : Int) (st : Int) (en : Int) (va : Int) (xb : Int → Int) (q : Nat → Nat) (S : Int) (M : Int) (sk : Int → Int) (sc : Int → Int) (mk : Int → Int) (ms : Int → Int) (mp : Int → Int) (r1 : Int) (f1 : Int → Int) (r2 : Int) (f2 : Int → Int) (r3 : Int) (f3 : Int → Int) (r4 : Int) (f4 : Int → Int) (bxb : ∀ j : Int, 0 ≤ xb j ∧ xb j ≤ 127) (bS : 0 ≤ S ∧ S ≤ 3) (bM : 0 ≤ M ∧ M ≤ 8) (bsk : ∀ j : Int, 0 ≤ sk j ∧ sk j ≤ 5) (bsc : ∀ j : Int, 0 ≤ sc j ∧ sc j ≤ 99) (bmk : ∀ j : Int, 0 ≤ mk j ∧ mk j ≤ 5) (bms : ∀ j : Int, 0 ≤ ms j ∧ ms j ≤ 9) (bmp : ∀ j : Int, (-1) ≤ mp j ∧ mp j ≤ 2) (bf1 : ∀ j : Int, (-1) ≤ f1 j ∧ f1 j ≤ 99) (bf2 : ∀ j : Int, (-1) ≤ f2 j ∧ f2 j ≤ 99) (bf3 : ∀ j : Int, (-1) ≤ f3 j ∧ f3 j ≤ 99) (bf4 : ∀ j : Int, (-1) ≤ f4 j ∧ f4 j ≤ 99) (hln : 0 ≤ ln ∧ ln ≤ 150) : CTis l_ D cy sa sv yX6_readOnto wsX6_readOnto rX6_readOnto [.ref (x 0), .ref (q 0)] ([wX cy x ln tok st en va xb, wI cy q S M sk sc mk ms mp, wF cy (q 6) (q 7) 20 5 r1 f1, wF cy (q 8) (q 9) 24 6 r2 f2, wF cy (q 10) (q 11) 24 6 r3 f3, wF cy (q 12) (q 13) 32 8 r4 f4]) (fun (z : Int) (u : (Int) × (Int) × (Int) × (Int) × (Int) × (Int) × (Int → Int) × (Int → Int) × (Int → Int) × (Int → Int) × (Int → Int) × (Int)) => ((0 < z ∧ z = (rdK xb ln 0 0 (fun _ => 0)).1 ∧ relI u.2.2.2.2.1 u.2.2.2.2.2.1 u.2.2.2.2.2.2.1 u.2.2.2.2.2.2.2.1 u.2.2.2.2.2.2.2.2.1 u.2.2.2.2.2.2.2.2.2.1 u.2.2.2.2.2.2.2.2.2.2.1 (rdK xb ln 0 0 (fun _ => 0)).2) ∨ (z ≤ -10 ∧ z = (rdK xb ln 0 0 (fun _ => 0)).1)) ∧ (u.2.2.2.2.2.2.2.2.2.2.2 = 0) ∧ (-400 ≤ z ∧ z ≤ 400) ∧ (0 ≤ u.2.2.2.2.1 ∧ u.2.2.2.2.1 ≤ 3) ∧ (0 ≤ u.2.2.2.2.2.1 ∧ u.2.2.2.2.2.1 ≤ 8) ∧ (∀ j : Int, 0 ≤ u.2.2.2.2.2.2.1 j ∧ u.2.2.2.2.2.2.1 j ≤ 5) ∧ (∀ j : Int, 0 ≤ u.2.2.2.2.2.2.2.1 j ∧ u.2.2.2.2.2.2.2.1 j ≤ 99) ∧ (∀ j : Int, 0 ≤ u.2.2.2.2.2.2.2.2.1 j ∧ u.2.2.2.2.2.2.2.2.1 j ≤ 5) ∧ (∀ j : Int, 0 ≤ u.2.2.2.2.2.2.2.2.2.1 j ∧ u.2.2.2.2.2.2.2.2.2.1 j ≤ 9) ∧ (∀ j : Int, (-1) ≤ u.2.2.2.2.2.2.2.2.2.2.1 j ∧ u.2.2.2.2.2.2.2.2.2.2.1 j ≤ 2)) (fun (u : (Int) × (Int) × (Int) × (Int) × (Int) × (Int) × (Int → Int) × (Int → Int) × (Int → Int) × (Int → Int) × (Int → Int) × (Int)) => [wX cy x ln u.2.2.1 u.1 u.2.1 u.2.2.2.1 xb, wI cy q u.2.2.2.2.1 u.2.2.2.2.2.1 u.2.2.2.2.2.2.1 u.2.2.2.2.2.2.2.1 u.2.2.2.2.2.2.2.2.1 u.2.2.2.2.2.2.2.2.2.1 u.2.2.2.2.2.2.2.2.2.2.1, wF cy (q 6) (q 7) 20 5 0 f1, wF cy (q 8) (q 9) 24 6 0 f2, wF cy (q 10) (q 11) 24 6 0 f3, wF cy (q 12) (q 13) 32 8 u.2.2.2.2.2.2.2.2.2.2.2 f4]) := by
  refine CTis.of RX6 cX6_readOnto 3 rfl (by decide) rfl (fun z u hz => rfl) (Nat.le_of_ble_eq_true rfl) ?_
  intro p_ e_ s_ m_ ar_ be_ me_ c_ Q_ A_ ls_ F_ K_ W_ E_ hl hret
  have hl : lv_has ls_ 3 [(0, .ref (x 0)), (1, .ref (q 0))] := hl
  obtain ⟨H_, hH_⟩ : ∃ x, x = s_.heap := ⟨_, rfl⟩
  obtain ⟨lo_, hlo_⟩ : ∃ x : List Loc, x = [] := ⟨_, rfl⟩
  have W_ : WD D A_ s_.heap ([wX cy x ln tok st en va xb, wI cy q S M sk sc mk ms mp, wF cy (q 6) (q 7) 20 5 r1 f1, wF cy (q 8) (q 9) 24 6 r2 f2, wF cy (q 10) (q 11) 24 6 r3 f3, wF cy (q 12) (q 13) 32 8 r4 f4]) H_ lo_ := by rw [hH_, hlo_]; exact W_
  rw [← hlo_]
  suffices hg_ : W p_ l_ e_ rX6_readOnto s_ m_ ar_ be_ me_ c_ H_ lo_ 0 0 Q_ (F0 m_ 0 ls_ []) by rw [hH_] at hg_; exact hg_
  clear hH_ hlo_
  have hinX6 : ∀ w ∈ u_ws RX6 TX6 6, w ∈ wsX6_readOnto := fun w h => List.mem_cons_of_mem _ (List.mem_append_left _ (List.mem_append_left _ (List.mem_append_right _ h)))
  refine lv_aload_n F_.1 F_.2.1 dX6_readOnto_0 rfl (lv_at hl 1 rfl) ?_
  refine z_callVv F_ K_ W_ [] (c_X4_empty l_ D cy q S M sk sc mk ms mp r1 f1 r2 f2 r3 f3 r4 f4 (by omega) (by omega) bsk bsc bmk bms bmp bf1 bf2 bf3 bf4) 0 rfl gX6_readOnto_X4_empty rfl (by decide +kernel) ⟨⟨Nat.le_of_ble_eq_true rfl, Nat.le_of_ble_eq_true rfl⟩, rfl, rfl, Nat.zero_le _, Nat.zero_le _⟩ 0 0 4 rfl rfl rfl rfl hl.1 rfl (Nat.le_of_ble_eq_true rfl) [1, 2, 3, 4, 5] [0] [wX cy x ln tok st en va xb] (fun (u_ : Unit) => [wX cy x ln tok st en va xb, wI cy q 0 0 sk sc mk ms mp, wF cy (q 6) (q 7) 20 5 0 f1, wF cy (q 8) (q 9) 24 6 0 f2, wF cy (q 10) (q 11) 24 6 0 f3, wF cy (q 12) (q 13) 32 8 0 f4]) 6 (by decide +kernel) rfl rfl rfl (fun _ => rfl) (fun _ => rfl) (fun _ => rfl) dX6_readOnto_1 (fun u_ H_ lo_ hw_ W_ => ?_)
  have W_ : WD D A_ s_.heap ([wX cy x ln tok st en va xb, wI cy q 0 0 sk sc mk ms mp, wF cy (q 6) (q 7) 20 5 0 f1, wF cy (q 8) (q 9) 24 6 0 f2, wF cy (q 10) (q 11) 24 6 0 f3, wF cy (q 12) (q 13) 32 8 0 f4]) H_ lo_ := W_
  replace hw_ : (0 ≤ 0 ∧ 0 ≤ 3) ∧ (0 ≤ 0 ∧ 0 ≤ 8) := hw_
  obtain ⟨f1_B_I_S, f1_B_I_M⟩ := hw_
  refine lv_aload_n F_.1 F_.2.1 dX6_readOnto_4 rfl (lv_at hl 0 rfl) ?_
  refine z_iconst F_ dX6_readOnto_5 ?_
  refine z_put (sg' := [wX cy x ln tok st 0 va xb, wI cy q 0 0 sk sc mk ms mp, wF cy (q 6) (q 7) 20 5 0 f1, wF cy (q 8) (q 9) 24 6 0 f2, wF cy (q 10) (q 11) 24 6 0 f3, wF cy (q 12) (q 13) 32 8 0 f4]) F_ K_ W_ 0 0 4 rfl rfl rfl (C := RX6) (T := TX6) (N := 6) rfl ⟨Nat.le_of_ble_eq_true rfl, Nat.le_of_ble_eq_true rfl⟩ tyX6 tyX6_ok nmX6 rfl rfl rfl hinX6 (List.mem_of_getElem? (i := 1) rfl) dX6_readOnto_6 (fun H_ lo_ W_ => ?_)
  refine z_iconst F_ dX6_readOnto_9 ?_
  refine lv_istore_n (lv' := [(2, .int (zi 0)), (0, .ref (x 0)), (1, .ref (q 0))]) F_.1 F_.2.1 dX6_readOnto_10 rfl hl (by decide) rfl (fun ls_ hl => ?_)
  have L11 : ∀ (n_ : Nat) (k : Int) (st3 : Int) (en3 : Int) (tok3 : Int) (va3 : Int) (S3 : Int) (M3 : Int) (sk3 : Int → Int) (sc3 : Int → Int) (mk3 : Int → Int) (ms3 : Int → Int) (mp3 : Int → Int) (r43 : Int) (g3 : Int → Int) (bS3 : 0 ≤ S3 ∧ S3 ≤ 3) (bM3 : 0 ≤ M3 ∧ M3 ≤ 8) (bsk3 : ∀ j : Int, 0 ≤ sk3 j ∧ sk3 j ≤ 5) (bsc3 : ∀ j : Int, 0 ≤ sc3 j ∧ sc3 j ≤ 99) (bmk3 : ∀ j : Int, 0 ≤ mk3 j ∧ mk3 j ≤ 5) (bms3 : ∀ j : Int, 0 ≤ ms3 j ∧ ms3 j ≤ 9) (bmp3 : ∀ j : Int, (-1) ≤ mp3 j ∧ mp3 j ≤ 2) (hk : 0 ≤ k ∧ k ≤ en3 ∧ en3 ≤ ln) (hrel : relI S3 M3 sk3 sc3 mk3 ms3 mp3 g3) (hR : rdK xb ln en3 k g3 = (rdK xb ln 0 0 (fun _ => 0))) (hr4 : r43 = 0) (hm_ : (151 - k : Int) < (n_ : Int)) (ls_ : Array Slot) (H_ : Heap) (lo_ : List Loc), WD D A_ s_.heap ([wX cy x ln tok3 st3 en3 va3 xb, wI cy q S3 M3 sk3 sc3 mk3 ms3 mp3, wF cy (q 6) (q 7) 20 5 0 f1, wF cy (q 8) (q 9) 24 6 0 f2, wF cy (q 10) (q 11) 24 6 0 f3, wF cy (q 12) (q 13) 32 8 r43 f4]) H_ lo_ → lv_has ls_ 3 [(2, .int (zi k)), (0, .ref (x 0)), (1, .ref (q 0))] → W p_ l_ e_ rX6_readOnto s_ m_ ar_ be_ me_ c_ H_ lo_ 0 0 Q_ (F0 m_ 11 ls_ []) := by
    intro n_
    induction n_ with
    | zero =>
      intro k st3 en3 tok3 va3 S3 M3 sk3 sc3 mk3 ms3 mp3 r43 g3 bS3 bM3 bsk3 bsc3 bmk3 bms3 bmp3 hk hrel hR hr4 hm_ ls_ H_ lo_ _ _
      exact absurd hm_ (by omega)
    | succ n_ ih_ =>
      intro k st3 en3 tok3 va3 S3 M3 sk3 sc3 mk3 ms3 mp3 r43 g3 bS3 bM3 bsk3 bsc3 bmk3 bms3 bmp3 hk hrel hR hr4 hm_ ls_ H_ lo_ W_ hl
      have ih11 := ih_
      refine lv_iload_n F_.1 F_.2.1 dX6_readOnto_11 rfl (lv_at hl 0 rfl) ?_
      refine z_sipush F_ (by decide) dX6_readOnto_12 ?_
      refine z_icmp_gt (tgt := 61) F_ (by omega) dX6_readOnto_15 (by decide) (fun c15 => ?_) (fun c15 => ?_)
      · exact absurd c15 (by omega)
      · refine lv_aload_n F_.1 F_.2.1 dX6_readOnto_18 rfl (lv_at hl 1 rfl) ?_
        refine z_callVv F_ K_ W_ [] (c_X6_nextToken l_ D cy x ln tok3 st3 en3 va3 xb bxb (by first | omega | assumption) (by first | omega | assumption)) 0 rfl gX6_readOnto_X6_nextToken rfl (by decide +kernel) ⟨⟨Nat.le_of_ble_eq_true rfl, Nat.le_of_ble_eq_true rfl⟩, rfl, rfl, Nat.zero_le _, Nat.zero_le _⟩ 0 0 5 rfl rfl rfl rfl hl.1 rfl (Nat.le_of_ble_eq_true rfl) [0] [1, 2, 3, 4, 5] [wI cy q S3 M3 sk3 sc3 mk3 ms3 mp3, wF cy (q 6) (q 7) 20 5 0 f1, wF cy (q 8) (q 9) 24 6 0 f2, wF cy (q 10) (q 11) 24 6 0 f3, wF cy (q 12) (q 13) 32 8 r43 f4] (fun (u_ : (Int) × (Int) × (Int) × (Int)) => [wX cy x ln u_.2.2.1 u_.1 u_.2.1 u_.2.2.2 xb, wI cy q S3 M3 sk3 sc3 mk3 ms3 mp3, wF cy (q 6) (q 7) 20 5 0 f1, wF cy (q 8) (q 9) 24 6 0 f2, wF cy (q 10) (q 11) 24 6 0 f3, wF cy (q 12) (q 13) 32 8 r43 f4]) 6 (by decide +kernel) rfl rfl rfl (fun _ => rfl) (fun _ => rfl) (fun _ => rfl) dX6_readOnto_19 (fun u_ H_ lo_ hw_ W_ => ?_)
        obtain ⟨st2_3, en2_4, tok2_5, va2_6⟩ := u_
        have W_ : WD D A_ s_.heap ([wX cy x ln tok2_5 st2_3 en2_4 va2_6 xb, wI cy q S3 M3 sk3 sc3 mk3 ms3 mp3, wF cy (q 6) (q 7) 20 5 0 f1, wF cy (q 8) (q 9) 24 6 0 f2, wF cy (q 10) (q 11) 24 6 0 f3, wF cy (q 12) (q 13) 32 8 r43 f4]) H_ lo_ := W_
        replace hw_ : (TokR xb ln en3 tok2_5 st2_3 en2_4 va2_6) ∧ ((tok2_5 = 2 → 0 ≤ va2_6 ∧ va2_6 ≤ 99) ∧ 0 ≤ tok2_5 ∧ tok2_5 ≤ 5 ∧ en3 ≤ st2_3 ∧ st2_3 ≤ en2_4 ∧ en2_4 ≤ ln) := hw_
        obtain ⟨f19_v, f19_b⟩ := hw_
        obtain ⟨tf1, tf2, tf3, tf4⟩ := tk_f f19_v
        have hbb := f19_b
        refine lv_aload_n F_.1 F_.2.1 dX6_readOnto_22 rfl (lv_at hl 1 rfl) ?_
        refine z_get F_ K_ W_ 0 0 2 rfl rfl rfl (C := RX6) (T := TX6) (N := 6) rfl (by decide) hinX6 (List.mem_of_getElem? (i := 2) rfl) dX6_readOnto_23 ?_
        have J35 : ∀ (g35 : ((¬ tok2_5 = 0)) ∨ ((tok2_5 = 0) ∧ (k ≤ 0))) (ls_ : Array Slot) (H_ : Heap) (lo_ : List Loc), WD D A_ s_.heap ([wX cy x ln tok2_5 st2_3 en2_4 va2_6 xb, wI cy q S3 M3 sk3 sc3 mk3 ms3 mp3, wF cy (q 6) (q 7) 20 5 0 f1, wF cy (q 8) (q 9) 24 6 0 f2, wF cy (q 10) (q 11) 24 6 0 f3, wF cy (q 12) (q 13) 32 8 r43 f4]) H_ lo_ → lv_has ls_ 3 [(2, .int (zi k)), (0, .ref (x 0)), (1, .ref (q 0))] → W p_ l_ e_ rX6_readOnto s_ m_ ar_ be_ me_ c_ H_ lo_ 0 0 Q_ (F0 m_ 35 ls_ []) := by
          intro g35 ls_ H_ lo_ W_ hl
          
          refine lv_aload_n F_.1 F_.2.1 dX6_readOnto_35 rfl (lv_at hl 1 rfl) ?_
          refine lv_aload_n F_.1 F_.2.1 dX6_readOnto_36 rfl (lv_at hl 2 rfl) ?_
          refine lv_iload_n F_.1 F_.2.1 dX6_readOnto_37 rfl (lv_at hl 0 rfl) ?_
          have htz : ¬ (tK xb ln en3 = 0 ∧ 0 < k) := by omega
          have J46 : ∀ (k46_0 : Int) (g46 : ((¬ k = 0) ∧ (k46_0 = 0)) ∨ ((k = 0) ∧ (k46_0 = 1))) (ls_ : Array Slot) (H_ : Heap) (lo_ : List Loc), WD D A_ s_.heap ([wX cy x ln tok2_5 st2_3 en2_4 va2_6 xb, wI cy q S3 M3 sk3 sc3 mk3 ms3 mp3, wF cy (q 6) (q 7) 20 5 0 f1, wF cy (q 8) (q 9) 24 6 0 f2, wF cy (q 10) (q 11) 24 6 0 f3, wF cy (q 12) (q 13) 32 8 r43 f4]) H_ lo_ → lv_has ls_ 3 [(2, .int (zi k)), (0, .ref (x 0)), (1, .ref (q 0))] → W p_ l_ e_ rX6_readOnto s_ m_ ar_ be_ me_ c_ H_ lo_ 0 0 Q_ (F0 m_ 46 ls_ [.int (zi k46_0), .ref (q 0), .ref (x 0)]) := by
            intro k46_0 g46 ls_ H_ lo_ W_ hl
            refine z_callVis F_ K_ W_ E_ [.ref (q 0), .int (zi k46_0)] (c_X6_readItem l_ D cy sa sv x ln tok2_5 st2_3 en2_4 va2_6 xb q S3 M3 sk3 sc3 mk3 ms3 mp3 r43 f4 en3 g3 k46_0 bxb (by omega) (by omega) bsk3 bsc3 bmk3 bms3 bmp3 bf4 (by first | omega | assumption) (by first | omega | assumption) (by first | omega | assumption) (by exact ⟨tf3.symm, tf2.symm, by omega, by omega⟩) (by exact ⟨tf1.symm, by omega, by omega⟩) (by exact hrel) (by omega)) 2 rfl gX6_readOnto_X6_readItem rfl (by decide +kernel) ⟨⟨Nat.le_of_ble_eq_true rfl, Nat.le_of_ble_eq_true rfl⟩, rfl, rfl, Nat.zero_le _, Nat.zero_le _⟩ (z_rv K_ W_ 0 0 5 rfl rfl rfl rfl) hl.1 rfl (Nat.le_of_ble_eq_true rfl) [0, 1, 5] [2, 3, 4] [wF cy (q 6) (q 7) 20 5 0 f1, wF cy (q 8) (q 9) 24 6 0 f2, wF cy (q 10) (q 11) 24 6 0 f3] (fun (u_ : (Int) × (Int) × (Int) × (Int) × (Int) × (Int) × (Int → Int) × (Int → Int) × (Int → Int) × (Int → Int) × (Int → Int) × (Int)) => [wX cy x ln u_.2.2.1 u_.1 u_.2.1 u_.2.2.2.1 xb, wI cy q u_.2.2.2.2.1 u_.2.2.2.2.2.1 u_.2.2.2.2.2.2.1 u_.2.2.2.2.2.2.2.1 u_.2.2.2.2.2.2.2.2.1 u_.2.2.2.2.2.2.2.2.2.1 u_.2.2.2.2.2.2.2.2.2.2.1, wF cy (q 6) (q 7) 20 5 0 f1, wF cy (q 8) (q 9) 24 6 0 f2, wF cy (q 10) (q 11) 24 6 0 f3, wF cy (q 12) (q 13) 32 8 u_.2.2.2.2.2.2.2.2.2.2.2 f4]) 6 (by decide +kernel) rfl rfl rfl (fun _ => rfl) (fun _ => rfl) (fun _ => rfl) dX6_readOnto_46 (fun z_7 u_ H_ lo_ hw_ W_ => ?_)
            obtain ⟨st2_8, en2_9, tok2_10, va2_11, S2_12, M2_13, sk2_14, sc2_15, mk2_16, ms2_17, mp2_18, r42_19⟩ := u_
            have W_ : WD D A_ s_.heap ([wX cy x ln tok2_10 st2_8 en2_9 va2_11 xb, wI cy q S2_12 M2_13 sk2_14 sc2_15 mk2_16 ms2_17 mp2_18, wF cy (q 6) (q 7) 20 5 0 f1, wF cy (q 8) (q 9) 24 6 0 f2, wF cy (q 10) (q 11) 24 6 0 f3, wF cy (q 12) (q 13) 32 8 r42_19 f4]) H_ lo_ := W_
            replace hw_ : ((z_7 = 1 ∧ (clsF xb ln (itmR xb ln en3 k46_0 g3)).1 = 1 ∧ relI S2_12 M2_13 sk2_14 sc2_15 mk2_16 ms2_17 mp2_18 (clsF xb ln (itmR xb ln en3 k46_0 g3)).2.2 ∧ en2_9 = (clsF xb ln (itmR xb ln en3 k46_0 g3)).2.1 ∧ en2_4 + 1 ≤ en2_9) ∨ (z_7 = 0 ∧ (clsF xb ln (itmR xb ln en3 k46_0 g3)).1 = 0 ∧ st2_8 = (clsF xb ln (itmR xb ln en3 k46_0 g3)).2.1)) ∧ (0 ≤ st2_8 ∧ st2_8 ≤ en2_9 ∧ en2_9 ≤ ln) ∧ (r42_19 = r43 ∨ r42_19 = 0) ∧ (0 ≤ S2_12 ∧ S2_12 ≤ 3) ∧ (0 ≤ M2_13 ∧ M2_13 ≤ 8) ∧ (∀ j : Int, 0 ≤ sk2_14 j ∧ sk2_14 j ≤ 5) ∧ (∀ j : Int, 0 ≤ sc2_15 j ∧ sc2_15 j ≤ 99) ∧ (∀ j : Int, 0 ≤ mk2_16 j ∧ mk2_16 j ≤ 5) ∧ (∀ j : Int, 0 ≤ ms2_17 j ∧ ms2_17 j ≤ 9) ∧ (∀ j : Int, (-1) ≤ mp2_18 j ∧ mp2_18 j ≤ 2) := hw_
            obtain ⟨f46_v, f46_b, f46_r, f46_B_I_S, f46_B_I_M, f46_B_I_sk, f46_B_I_sc, f46_B_I_mk, f46_B_I_ms, f46_B_I_mp⟩ := hw_
            have hif : clsF xb ln (itmR xb ln en3 k46_0 g3) = itmF xb ln en3 k g3 := by
              rw [itmF, itmR]
              by_cases hk0 : k = 0
              · rw [if_pos (show k46_0 = 1 by omega), if_pos hk0]
              · rw [if_neg (show ¬ k46_0 = 1 by omega), if_neg hk0]
            have hj46 := f46_v
            rw [hif] at hj46
            clear f46_v hif
            refine z_if_ne (tgt := 55) F_ (by omega) dX6_readOnto_49 (by decide) (fun c49 => ?_) (fun c49 => ?_)
            · have hj46b : en3 + 1 ≤ en2_9 := by
                have hj := hj46.resolve_right (fun q => absurd q.1 (by omega))
                have h5 := hj.2.2.2.2
                omega
              refine z_iinc (lv' := [(2, .int (zi (k + 1))), (0, .ref (x 0)), (1, .ref (q 0))]) F_ dX6_readOnto_55 hl (k := 0) rfl (by decide) rfl (fun ls_ hl => ?_)
              refine z_goto (tgt := 11) F_ dX6_readOnto_58 (by decide) ?_
              exact ih11 (k + 1) st2_8 en2_9 tok2_10 va2_11 S2_12 M2_13 sk2_14 sc2_15 mk2_16 ms2_17 mp2_18 r42_19 ((itmF xb ln en3 k g3).2.2) (by omega) (by omega) f46_B_I_sk f46_B_I_sc f46_B_I_mk f46_B_I_ms f46_B_I_mp (by omega) (by have hj := hj46.resolve_right (fun q => absurd q.1 (by omega)); exact hj.2.2.1) (by have hj := hj46.resolve_right (fun q => absurd q.1 (by omega)); rw [← hR, hj.2.2.2.1]; rw [rdK_s xb ln en3 (k := k) g3 (by omega), if_neg htz, if_pos hj.2.1]) (by omega) (by omega) ls_ H_ lo_ W_ (lv_sub hl [0, 1, 2] rfl)
            · refine z_goto (tgt := 61) F_ dX6_readOnto_52 (by decide) ?_
              refine z_bipush F_ (by decide) dX6_readOnto_61 ?_
              refine lv_aload_n F_.1 F_.2.1 dX6_readOnto_63 rfl (lv_at hl 1 rfl) ?_
              refine z_get F_ K_ W_ 0 0 3 rfl rfl rfl (C := RX6) (T := TX6) (N := 6) rfl (by decide) hinX6 (List.mem_of_getElem? (i := 3) rfl) dX6_readOnto_64 ?_
              refine z_isub F_ dX6_readOnto_67 ?_
              exact hret _ _ _ _ ((-10) - st2_8) (st2_8, en2_9, tok2_10, va2_11, S2_12, M2_13, sk2_14, sc2_15, mk2_16, ms2_17, mp2_18, r42_19) dX6_readOnto_68 ⟨(by (try dsimp only); have hj := hj46.resolve_left (fun q => absurd q.1 (by omega)); exact Or.inr ⟨by have := f46_b; omega, by rw [← hR, rdK_s xb ln en3 (k := k) g3 (by omega), if_neg htz, if_neg (by omega), hj.2.2]⟩), (by (try dsimp only); have := f46_r; omega), (by (try dsimp only); have := f46_b; omega), (by (try dsimp only); omega), (by (try dsimp only); omega), f46_B_I_sk, f46_B_I_sc, f46_B_I_mk, f46_B_I_ms, f46_B_I_mp⟩ W_
          refine z_if_ne (tgt := 45) F_ (by omega) dX6_readOnto_38 (by decide) (fun c38 => ?_) (fun c38 => ?_)
          · refine z_iconst F_ dX6_readOnto_45 ?_
            exact J46 0 (by first | omega | grind) ls_ H_ lo_ W_ (lv_sub hl [0, 1, 2] rfl)
          · refine z_iconst F_ dX6_readOnto_41 ?_
            refine z_goto (tgt := 46) F_ dX6_readOnto_42 (by decide) ?_
            exact J46 1 (by first | omega | grind) ls_ H_ lo_ W_ (lv_sub hl [0, 1, 2] rfl)
        refine z_if_ne (tgt := 35) F_ (by omega) dX6_readOnto_26 (by decide) (fun c26 => ?_) (fun c26 => ?_)
        · exact J35 (by first | omega | grind) ls_ H_ lo_ W_ (lv_sub hl [0, 1, 2] rfl)
        · refine lv_iload_n F_.1 F_.2.1 dX6_readOnto_29 rfl (lv_at hl 0 rfl) ?_
          refine z_if_le (tgt := 35) F_ (by omega) dX6_readOnto_30 (by decide) (fun c30 => ?_) (fun c30 => ?_)
          · exact J35 (by first | omega | grind) ls_ H_ lo_ W_ (lv_sub hl [0, 1, 2] rfl)
          · refine lv_iload_n F_.1 F_.2.1 dX6_readOnto_33 rfl (lv_at hl 0 rfl) ?_
            exact hret _ _ _ _ k (st2_3, en2_4, tok2_5, va2_6, S3, M3, sk3, sc3, mk3, ms3, mp3, r43) dX6_readOnto_34 ⟨(by (try dsimp only); exact Or.inl ⟨by omega, by rw [← hR, rdK_s xb ln en3 (k := k) g3 (by omega), if_pos ⟨by omega, by omega⟩], by rw [← hR, rdK_s xb ln en3 (k := k) g3 (by omega), if_pos ⟨by omega, by omega⟩]; exact hrel⟩), (by (try dsimp only); omega), (by (try dsimp only); omega), (by (try dsimp only); omega), (by (try dsimp only); omega), bsk3, bsc3, bmk3, bms3, bmp3⟩ W_
  exact L11 ((151 - 0 : Int).toNat + 1) 0 st 0 tok va 0 0 sk sc mk ms mp 0 (fun _ => 0) (by omega) (by omega) bsk bsc bmk bms bmp (by first | omega | assumption) (by exact rel_0 _ _ _ _ _) (by rfl) (by first | omega | assumption) (by have := Int.self_le_toNat (151 - 0 : Int); omega) ls_ H_ lo_ W_ (lv_sub hl [0, 1, 2] rfl)
