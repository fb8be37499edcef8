/-! the cells of the class itself: its object, the row of its images -/
abbrev wV (cy : Nat → ClassId) (b q p x e cr : Nat → Nat) (t0 : Nat) (ab be rb rn ru : Int) : va_W := [(b 0, .inr (6, [.ref (q 0), .ref (p 0), .ref (b 1), .ref (b 2), .ref (x 0), .ref (e 0), .ref (cr 0), .ref t0, .int (zi ab), .int (zi be), .int (zi rb), .int (zi rn), .int (zi ru)]))]
abbrev wG (cy : Nat → ClassId) (b i0 i1 : Nat → Nat) : va_W := [(b 1, .inl (cy 3, 2, .inr (.inr (.inr (.inr (fun j => if j = 0 then some (i0 0) else some (i1 0)))))))]
theorem z_aald {p : Program} {l : Launch} {e : Env} {R : Room} {s : State} {m : MethodId} {args : Array Value} {below : List Frame} {meth : Method} {c : Code} {H : Heap} {locs : List Loc} {cells slots : Nat} {Q : State → Prop} {cc : ByteArray} {pc : Nat} {ls : Array Slot} {rest : List Value} {nL : Nat} {Ts : List Cond} {own : String} {D : va_G} {A : Nat → Prop} {H0 : Heap} {sg : List va_W} {cy : Nat → ClassId} {b : Nat} (F : CallFix p m c cc nL s args Ts own) (K : va_K D vwCl (tyL cy) s) (Wd : WD D A H0 sg H locs) (i0 j0 : Nat) {w : va_W} {a n : Nat} {f : Nat → Option Nat} {i : Int} (hs : ix sg i0 = some w) (ha : ix w j0 = some (a, .inl (cy 3, n, .inr (.inr (.inr (.inr f)))))) (hi : 0 ≤ i ∧ i < (n : Int)) (hn : n < 2147483648) (hb : f (zi i).toNatClampNeg = some b) (hdg : decode cc pc = .ok (.aaload, 1)) (kk : W p l e R s m args below meth c H locs cells slots Q (F0 m (pc + 1) ls (.ref b :: rest))) : W p l e R s m args below meth c H locs cells slots Q (F0 m pc ls (.int (zi i) :: .ref a :: rest)) := by
  obtain ⟨k0, h1, -⟩ := flat_at sg i0 j0 w _ hs ha
  refine va_aldq (C := "LeftBehind$Isle") F.1 F.2.1 K Wd.1.1 k0 3 h1 rfl (zi_in hi hn) hdg ?_
  rw [hb]
  exact kk
theorem lk2_out {a b o1 o2 d w : Int} (h1 : ¬ w = a) (h2 : ¬ w = b) : Op.lookupswitch.offset [(a, o1), (b, o2)] d w = d := by
  rw [Op.lookupswitch.offset_cons, if_neg (fun q => h1 q.symm), Op.lookupswitch.offset_cons, if_neg (fun q => h2 q.symm)]
  rfl
abbrev canI (S M : Int) (sk ms mp : Int → Int) (h d : Int) : Prop := (0 ≤ h ∧ h < S) ∧ 0 < cntZ mp h M ∧ needZ (sk h) d (cntZ mp h M) ≤ sumZ mp ms h M

abbrev rX7_within : Room := { frames := 0, cells := 0, slots := 0, locals := 0 }
set_option maxHeartbeats 1000000 in
set_option maxRecDepth 100000 in
theorem c_X7_within (l_ : Launch) (D : va_G) (cy : Nat → ClassId) (v : Int) (lo : Int) (hi : Int) (rv : -2147483648 ≤ v ∧ v < 2147483648) (rlo : -2147483648 ≤ lo ∧ lo < 2147483648) (rhi : -2147483648 ≤ hi ∧ hi < 2147483648) : CTi l_ D cy yX7_within wsX7_within rX7_within [.int (zi v), .int (zi lo), .int (zi hi)] (([] : List va_W)) (fun (z : Int) (u : Unit) => ((z = 1 ∧ (lo ≤ v ∧ v ≤ hi)) ∨ (z = 0 ∧ ¬ (lo ≤ v ∧ v ≤ hi)))) (fun (_ : Unit) => ([] : List va_W)) := by
  refine CTi.of RX7 cX7_within 3 rfl (by decide) rfl (fun z u hz => z_bl hz) (Nat.le_of_ble_eq_true rfl) ?_
  intro p_ e_ s_ m_ ar_ be_ me_ c_ Q_ A_ ls_ F_ K_ W_ hl hret
  have hl : lv_has ls_ 3 [(0, .int (zi v)), (1, .int (zi lo)), (2, .int (zi hi))] := hl
  obtain ⟨H_, hH_⟩ : ∃ x, x = s_.heap := ⟨_, rfl⟩
  obtain ⟨lo_, hlo_⟩ : ∃ x : List Loc, x = [] := ⟨_, rfl⟩
  have W_ : WD D A_ s_.heap (([] : List va_W)) H_ lo_ := by rw [hH_, hlo_]; exact W_
  rw [← hlo_]
  suffices hg_ : W p_ l_ e_ rX7_within s_ m_ ar_ be_ me_ c_ H_ lo_ 0 0 Q_ (F0 m_ 0 ls_ []) by rw [hH_] at hg_; exact hg_
  clear hH_ hlo_
  refine lv_iload_n F_.1 F_.2.1 dX7_within_0 rfl (lv_at hl 0 rfl) ?_
  refine lv_iload_n F_.1 F_.2.1 dX7_within_1 rfl (lv_at hl 1 rfl) ?_
  refine z_icmp_lt (tgt := 14) F_ (by omega) dX7_within_2 (by decide) (fun c2 => ?_) (fun c2 => ?_)
  · refine z_iconst F_ dX7_within_14 ?_
    exact hret _ _ _ _ 0 () dX7_within_15 (by first | omega | assumption) W_
  · refine lv_iload_n F_.1 F_.2.1 dX7_within_5 rfl (lv_at hl 0 rfl) ?_
    refine lv_iload_n F_.1 F_.2.1 dX7_within_6 rfl (lv_at hl 2 rfl) ?_
    refine z_icmp_gt (tgt := 14) F_ (by omega) dX7_within_7 (by decide) (fun c7 => ?_) (fun c7 => ?_)
    · refine z_iconst F_ dX7_within_14 ?_
      exact hret _ _ _ _ 0 () dX7_within_15 (by first | omega | assumption) W_
    · refine z_iconst F_ dX7_within_10 ?_
      refine z_goto (tgt := 15) F_ dX7_within_11 (by decide) ?_
      exact hret _ _ _ _ 1 () dX7_within_15 (by first | omega | assumption) W_
abbrev rX7_isKind : Room := { frames := 1, cells := 0, slots := 0, locals := 22 }
set_option maxHeartbeats 1000000 in
set_option maxRecDepth 100000 in
theorem c_X7_isKind (l_ : Launch) (D : va_G) (cy : Nat → ClassId) (v : Int) (rv : -2147483648 ≤ v ∧ v < 2147483648) : CTi l_ D cy yX7_isKind wsX7_isKind rX7_isKind [.int (zi v)] (([] : List va_W)) (fun (z : Int) (u : Unit) => ((z = 1 ∧ (0 ≤ v ∧ v ≤ 5)) ∨ (z = 0 ∧ ¬ (0 ≤ v ∧ v ≤ 5)))) (fun (_ : Unit) => ([] : List va_W)) := by
  refine CTi.of RX7 cX7_isKind 1 rfl (by decide) rfl (fun z u hz => z_bl hz) (Nat.le_of_ble_eq_true rfl) ?_
  intro p_ e_ s_ m_ ar_ be_ me_ c_ Q_ A_ ls_ F_ K_ W_ hl hret
  have hl : lv_has ls_ 1 [(0, .int (zi v))] := hl
  obtain ⟨H_, hH_⟩ : ∃ x, x = s_.heap := ⟨_, rfl⟩
  obtain ⟨lo_, hlo_⟩ : ∃ x : List Loc, x = [] := ⟨_, rfl⟩
  have W_ : WD D A_ s_.heap (([] : List va_W)) H_ lo_ := by rw [hH_, hlo_]; exact W_
  rw [← hlo_]
  suffices hg_ : W p_ l_ e_ rX7_isKind s_ m_ ar_ be_ me_ c_ H_ lo_ 0 0 Q_ (F0 m_ 0 ls_ []) by rw [hH_] at hg_; exact hg_
  clear hH_ hlo_
  refine lv_iload_n F_.1 F_.2.1 dX7_isKind_0 rfl (lv_at hl 0 rfl) ?_
  refine z_iconst F_ dX7_isKind_1 ?_
  refine z_iconst F_ dX7_isKind_2 ?_
  refine z_callSip F_ K_ W_ [.int (zi v), .int (zi 0), .int (zi 5)] (c_X7_within l_ D cy v 0 5 (by first | omega | assumption) (by first | omega | assumption) (by first | omega | assumption)) 3 rfl gX7_isKind_X7_within rfl (by decide +kernel) ⟨⟨Nat.le_of_ble_eq_true rfl, Nat.le_of_ble_eq_true rfl⟩, rfl, rfl, Nat.zero_le _, Nat.zero_le _⟩ hl.1 rfl (Nat.le_of_ble_eq_true rfl) ([] : List Nat) ([] : List Nat) ([] : List va_W) 0 (by decide +kernel) rfl rfl rfl dX7_isKind_3 (fun z_1 _ H_ lo_ hw_ W_ => ?_)
  replace hw_ : ((z_1 = 1 ∧ (0 ≤ v ∧ v ≤ 5)) ∨ (z_1 = 0 ∧ ¬ (0 ≤ v ∧ v ≤ 5))) := hw_
  have f3_v := hw_
  clear hw_
  exact hret _ _ _ _ z_1 () dX7_isKind_6 (by first | omega | assumption) W_
abbrev rX7_isDistance : Room := { frames := 1, cells := 0, slots := 0, locals := 22 }
set_option maxHeartbeats 1000000 in
set_option maxRecDepth 100000 in
theorem c_X7_isDistance (l_ : Launch) (D : va_G) (cy : Nat → ClassId) (v : Int) (rv : -2147483648 ≤ v ∧ v < 2147483648) : CTi l_ D cy yX7_isDistance wsX7_isDistance rX7_isDistance [.int (zi v)] (([] : List va_W)) (fun (z : Int) (u : Unit) => ((z = 1 ∧ (1 ≤ v ∧ v ≤ 30)) ∨ (z = 0 ∧ ¬ (1 ≤ v ∧ v ≤ 30)))) (fun (_ : Unit) => ([] : List va_W)) := by
  refine CTi.of RX7 cX7_isDistance 1 rfl (by decide) rfl (fun z u hz => z_bl hz) (Nat.le_of_ble_eq_true rfl) ?_
  intro p_ e_ s_ m_ ar_ be_ me_ c_ Q_ A_ ls_ F_ K_ W_ hl hret
  have hl : lv_has ls_ 1 [(0, .int (zi v))] := hl
  obtain ⟨H_, hH_⟩ : ∃ x, x = s_.heap := ⟨_, rfl⟩
  obtain ⟨lo_, hlo_⟩ : ∃ x : List Loc, x = [] := ⟨_, rfl⟩
  have W_ : WD D A_ s_.heap (([] : List va_W)) H_ lo_ := by rw [hH_, hlo_]; exact W_
  rw [← hlo_]
  suffices hg_ : W p_ l_ e_ rX7_isDistance s_ m_ ar_ be_ me_ c_ H_ lo_ 0 0 Q_ (F0 m_ 0 ls_ []) by rw [hH_] at hg_; exact hg_
  clear hH_ hlo_
  refine lv_iload_n F_.1 F_.2.1 dX7_isDistance_0 rfl (lv_at hl 0 rfl) ?_
  refine z_iconst F_ dX7_isDistance_1 ?_
  refine z_bipush F_ (by decide) dX7_isDistance_2 ?_
  refine z_callSip F_ K_ W_ [.int (zi v), .int (zi 1), .int (zi 30)] (c_X7_within l_ D cy v 1 30 (by first | omega | assumption) (by first | omega | assumption) (by first | omega | assumption)) 3 rfl gX7_isDistance_X7_within rfl (by decide +kernel) ⟨⟨Nat.le_of_ble_eq_true rfl, Nat.le_of_ble_eq_true rfl⟩, rfl, rfl, Nat.zero_le _, Nat.zero_le _⟩ hl.1 rfl (Nat.le_of_ble_eq_true rfl) ([] : List Nat) ([] : List Nat) ([] : List va_W) 0 (by decide +kernel) rfl rfl rfl dX7_isDistance_4 (fun z_1 _ H_ lo_ hw_ W_ => ?_)
  replace hw_ : ((z_1 = 1 ∧ (1 ≤ v ∧ v ≤ 30)) ∨ (z_1 = 0 ∧ ¬ (1 ≤ v ∧ v ≤ 30))) := hw_
  have f4_v := hw_
  clear hw_
  exact hret _ _ _ _ z_1 () dX7_isDistance_7 (by first | omega | assumption) W_
abbrev rX7_isShipOrNone : Room := { frames := 1, cells := 0, slots := 0, locals := 21 }
set_option maxHeartbeats 1000000 in
set_option maxRecDepth 100000 in
theorem c_X7_isShipOrNone (l_ : Launch) (D : va_G) (cy : Nat → ClassId) (b : Nat → Nat) (q : Nat → Nat) (p : Nat → Nat) (x : Nat → Nat) (e : Nat → Nat) (cr : Nat → Nat) (t0 : Nat) (ab : Int) (be : Int) (rb : Int) (rn : Int) (ru : Int) (S : Int) (M : Int) (sk : Int → Int) (sc : Int → Int) (mk : Int → Int) (ms : Int → Int) (mp : Int → Int) (h : Int) (bS : 0 ≤ S ∧ S ≤ 3) (bM : 0 ≤ M ∧ M ≤ 8) (bsk : ∀ j : Int, 0 ≤ sk j ∧ sk j ≤ 5) (bsc : ∀ j : Int, 0 ≤ sc j ∧ sc j ≤ 99) (bmk : ∀ j : Int, 0 ≤ mk j ∧ mk j ≤ 5) (bms : ∀ j : Int, 0 ≤ ms j ∧ ms j ≤ 9) (bmp : ∀ j : Int, (-1) ≤ mp j ∧ mp j ≤ 2) (rh : -2147483648 ≤ h ∧ h < 2147483648) : CTi l_ D cy yX7_isShipOrNone wsX7_isShipOrNone rX7_isShipOrNone [.ref (b 0), .int (zi h)] ([wV cy b q p x e cr t0 ab be rb rn ru, wI cy q S M sk sc mk ms mp]) (fun (z : Int) (u : Unit) => ((z = 1 ∧ (-1 ≤ h ∧ h < S)) ∨ (z = 0 ∧ ¬ (-1 ≤ h ∧ h < S)))) (fun (_ : Unit) => [wV cy b q p x e cr t0 ab be rb rn ru, wI cy q S M sk sc mk ms mp]) := by
  refine CTi.of RX7 cX7_isShipOrNone 2 rfl (by decide) rfl (fun z u hz => z_bl hz) (Nat.le_of_ble_eq_true rfl) ?_
  intro p_ e_ s_ m_ ar_ be_ me_ c_ Q_ A_ ls_ F_ K_ W_ hl hret
  have hl : lv_has ls_ 2 [(0, .ref (b 0)), (1, .int (zi h))] := hl
  obtain ⟨H_, hH_⟩ : ∃ x, x = s_.heap := ⟨_, rfl⟩
  obtain ⟨lo_, hlo_⟩ : ∃ x : List Loc, x = [] := ⟨_, rfl⟩
  have W_ : WD D A_ s_.heap ([wV cy b q p x e cr t0 ab be rb rn ru, wI cy q S M sk sc mk ms mp]) H_ lo_ := by rw [hH_, hlo_]; exact W_
  rw [← hlo_]
  suffices hg_ : W p_ l_ e_ rX7_isShipOrNone s_ m_ ar_ be_ me_ c_ H_ lo_ 0 0 Q_ (F0 m_ 0 ls_ []) by rw [hH_] at hg_; exact hg_
  clear hH_ hlo_
  have hinX7 : ∀ w ∈ u_ws RX7 TX7 13, w ∈ wsX7_isShipOrNone := fun w h => List.mem_cons_of_mem _ (List.mem_append_left _ (List.mem_append_right _ h))
  refine lv_iload_n F_.1 F_.2.1 dX7_isShipOrNone_0 rfl (lv_at hl 1 rfl) ?_
  refine z_iconst F_ dX7_isShipOrNone_1 ?_
  refine z_icmp_eq (tgt := 16) F_ (by omega) dX7_isShipOrNone_2 (by decide) (fun c2 => ?_) (fun c2 => ?_)
  · refine z_iconst F_ dX7_isShipOrNone_16 ?_
    refine z_goto (tgt := 21) F_ dX7_isShipOrNone_17 (by decide) ?_
    exact hret _ _ _ _ 1 () dX7_isShipOrNone_21 (by first | omega | assumption) W_
  · refine lv_aload_n F_.1 F_.2.1 dX7_isShipOrNone_5 rfl (lv_at hl 0 rfl) ?_
    refine z_get F_ K_ W_ 0 0 0 rfl rfl rfl (C := RX7) (T := TX7) (N := 13) rfl (by decide) hinX7 (List.mem_of_getElem? (i := 1) rfl) dX7_isShipOrNone_6 ?_
    refine lv_iload_n F_.1 F_.2.1 dX7_isShipOrNone_9 rfl (lv_at hl 1 rfl) ?_
    refine z_callVip F_ K_ W_ [.int (zi h)] (c_X4_hasShip l_ D cy q S M sk sc mk ms mp h (by omega) (by omega) bsk bsc bmk bms bmp (by first | omega | assumption)) 1 rfl gX7_isShipOrNone_X4_hasShip rfl (by decide +kernel) ⟨⟨Nat.le_of_ble_eq_true rfl, Nat.le_of_ble_eq_true rfl⟩, rfl, rfl, Nat.zero_le _, Nat.zero_le _⟩ 0 0 4 rfl rfl rfl rfl hl.1 rfl (Nat.le_of_ble_eq_true rfl) [1] [0] [wV cy b q p x e cr t0 ab be rb rn ru] 2 (by decide +kernel) rfl rfl rfl dX7_isShipOrNone_10 (fun z_1 _ H_ lo_ hw_ W_ => ?_)
    replace hw_ : ((z_1 = 1 ∧ (0 ≤ h ∧ h < S)) ∨ (z_1 = 0 ∧ ¬ (0 ≤ h ∧ h < S))) := hw_
    have f10_v := hw_
    clear hw_
    refine z_if_eq (tgt := 20) F_ (by omega) dX7_isShipOrNone_13 (by decide) (fun c13 => ?_) (fun c13 => ?_)
    · refine z_iconst F_ dX7_isShipOrNone_20 ?_
      exact hret _ _ _ _ 0 () dX7_isShipOrNone_21 (by first | omega | assumption) W_
    · refine z_iconst F_ dX7_isShipOrNone_16 ?_
      refine z_goto (tgt := 21) F_ dX7_isShipOrNone_17 (by decide) ?_
      exact hret _ _ _ _ 1 () dX7_isShipOrNone_21 (by first | omega | assumption) W_
abbrev rX7_refuse : Room := { frames := 0, cells := 0, slots := 0, locals := 0 }
set_option maxHeartbeats 1000000 in
set_option maxRecDepth 100000 in
theorem c_X7_refuse (l_ : Launch) (D : va_G) (cy : Nat → ClassId) (b : Nat → Nat) (q : Nat → Nat) (p : Nat → Nat) (x : Nat → Nat) (e : Nat → Nat) (cr : Nat → Nat) (t0 : Nat) (ab : Int) (be : Int) (rb : Int) (rn : Int) (ru : Int) (t : Int) (rt : -2147483648 ≤ t ∧ t < 2147483648) : CTi l_ D cy yX7_refuse wsX7_refuse rX7_refuse [.ref (b 0), .int (zi t)] ([wV cy b q p x e cr t0 ab be rb rn ru]) (fun (z : Int) (u : (Int) × (Int) × (Int)) => (z = t) ∧ ((t = -2 ∧ u.1 = rb + 1 ∧ u.2.1 = rn ∧ u.2.2 = ru) ∨ (t = -3 ∧ u.1 = rb ∧ u.2.1 = rn + 1 ∧ u.2.2 = ru) ∨ (¬ t = -2 ∧ ¬ t = -3 ∧ u.1 = rb ∧ u.2.1 = rn ∧ u.2.2 = ru + 1))) (fun (u : (Int) × (Int) × (Int)) => [wV cy b q p x e cr t0 ab be u.1 u.2.1 u.2.2]) := by
  refine CTi.of RX7 cX7_refuse 2 rfl (by decide) rfl (fun z u hz => rfl) (Nat.le_of_ble_eq_true rfl) ?_
  intro p_ e_ s_ m_ ar_ be_ me_ c_ Q_ A_ ls_ F_ K_ W_ hl hret
  have hl : lv_has ls_ 2 [(0, .ref (b 0)), (1, .int (zi t))] := hl
  obtain ⟨H_, hH_⟩ : ∃ x, x = s_.heap := ⟨_, rfl⟩
  obtain ⟨lo_, hlo_⟩ : ∃ x : List Loc, x = [] := ⟨_, rfl⟩
  have W_ : WD D A_ s_.heap ([wV cy b q p x e cr t0 ab be rb rn ru]) H_ lo_ := by rw [hH_, hlo_]; exact W_
  rw [← hlo_]
  suffices hg_ : W p_ l_ e_ rX7_refuse s_ m_ ar_ be_ me_ c_ H_ lo_ 0 0 Q_ (F0 m_ 0 ls_ []) by rw [hH_] at hg_; exact hg_
  clear hH_ hlo_
  have hinX7 : ∀ w ∈ u_ws RX7 TX7 13, w ∈ wsX7_refuse := fun w h => List.mem_cons_of_mem _ (List.mem_append_right _ h)
  refine lv_iload_n F_.1 F_.2.1 dX7_refuse_0 rfl (lv_at hl 1 rfl) ?_
  refine z_bipush F_ (by decide) dX7_refuse_1 ?_
  refine z_icmp_ne (tgt := 19) F_ (by omega) dX7_refuse_3 (by decide) (fun c3 => ?_) (fun c3 => ?_)
  · refine lv_iload_n F_.1 F_.2.1 dX7_refuse_19 rfl (lv_at hl 1 rfl) ?_
    refine z_bipush F_ (by decide) dX7_refuse_20 ?_
    refine z_icmp_ne (tgt := 38) F_ (by omega) dX7_refuse_22 (by decide) (fun c22 => ?_) (fun c22 => ?_)
    · refine lv_aload_n F_.1 F_.2.1 dX7_refuse_38 rfl (lv_at hl 0 rfl) ?_
      refine lv_dup F_.1 F_.2.1 dX7_refuse_39 rfl ?_
      refine z_get F_ K_ W_ 0 0 12 rfl rfl rfl (C := RX7) (T := TX7) (N := 13) rfl (by decide) hinX7 (List.mem_of_getElem? (i := 3) rfl) dX7_refuse_40 ?_
      refine z_iconst F_ dX7_refuse_43 ?_
      refine z_iadd F_ dX7_refuse_44 ?_
      refine z_put (sg' := [wV cy b q p x e cr t0 ab be rb rn (ru + 1)]) F_ K_ W_ 0 0 12 rfl rfl rfl (C := RX7) (T := TX7) (N := 13) rfl ⟨Nat.le_of_ble_eq_true rfl, Nat.le_of_ble_eq_true rfl⟩ tyX7 tyX7_ok nmX7 rfl rfl rfl hinX7 (List.mem_of_getElem? (i := 3) rfl) dX7_refuse_45 (fun H_ lo_ W_ => ?_)
      refine lv_iload_n F_.1 F_.2.1 dX7_refuse_48 rfl (lv_at hl 1 rfl) ?_
      exact hret _ _ _ _ t (rb, rn, ru + 1) dX7_refuse_49 ⟨(by (try dsimp only) <;> (rfl)), (by (try dsimp only) <;> (first | omega | assumption))⟩ W_
    · refine lv_aload_n F_.1 F_.2.1 dX7_refuse_25 rfl (lv_at hl 0 rfl) ?_
      refine lv_dup F_.1 F_.2.1 dX7_refuse_26 rfl ?_
      refine z_get F_ K_ W_ 0 0 11 rfl rfl rfl (C := RX7) (T := TX7) (N := 13) rfl (by decide) hinX7 (List.mem_of_getElem? (i := 2) rfl) dX7_refuse_27 ?_
      refine z_iconst F_ dX7_refuse_30 ?_
      refine z_iadd F_ dX7_refuse_31 ?_
      refine z_put (sg' := [wV cy b q p x e cr t0 ab be rb (rn + 1) ru]) F_ K_ W_ 0 0 11 rfl rfl rfl (C := RX7) (T := TX7) (N := 13) rfl ⟨Nat.le_of_ble_eq_true rfl, Nat.le_of_ble_eq_true rfl⟩ tyX7 tyX7_ok nmX7 rfl rfl rfl hinX7 (List.mem_of_getElem? (i := 2) rfl) dX7_refuse_32 (fun H_ lo_ W_ => ?_)
      refine z_goto (tgt := 48) F_ dX7_refuse_35 (by decide) ?_
      refine lv_iload_n F_.1 F_.2.1 dX7_refuse_48 rfl (lv_at hl 1 rfl) ?_
      exact hret _ _ _ _ t (rb, rn + 1, ru) dX7_refuse_49 ⟨(by (try dsimp only) <;> (rfl)), (by (try dsimp only) <;> (first | omega | assumption))⟩ W_
  · refine lv_aload_n F_.1 F_.2.1 dX7_refuse_6 rfl (lv_at hl 0 rfl) ?_
    refine lv_dup F_.1 F_.2.1 dX7_refuse_7 rfl ?_
    refine z_get F_ K_ W_ 0 0 10 rfl rfl rfl (C := RX7) (T := TX7) (N := 13) rfl (by decide) hinX7 (List.mem_of_getElem? (i := 1) rfl) dX7_refuse_8 ?_
    refine z_iconst F_ dX7_refuse_11 ?_
    refine z_iadd F_ dX7_refuse_12 ?_
    refine z_put (sg' := [wV cy b q p x e cr t0 ab be (rb + 1) rn ru]) F_ K_ W_ 0 0 10 rfl rfl rfl (C := RX7) (T := TX7) (N := 13) rfl ⟨Nat.le_of_ble_eq_true rfl, Nat.le_of_ble_eq_true rfl⟩ tyX7 tyX7_ok nmX7 rfl rfl rfl hinX7 (List.mem_of_getElem? (i := 1) rfl) dX7_refuse_13 (fun H_ lo_ W_ => ?_)
    refine z_goto (tgt := 48) F_ dX7_refuse_16 (by decide) ?_
    refine lv_iload_n F_.1 F_.2.1 dX7_refuse_48 rfl (lv_at hl 1 rfl) ?_
    exact hret _ _ _ _ t (rb + 1, rn, ru) dX7_refuse_49 ⟨(by (try dsimp only) <;> (rfl)), (by (try dsimp only) <;> (first | omega | assumption))⟩ W_
abbrev rX7_addTo : Room := { frames := 2, cells := 0, slots := 0, locals := 45 }
set_option maxHeartbeats 1000000 in
set_option maxRecDepth 100000 in
theorem c_X7_addTo (l_ : Launch) (D : va_G) (cy : Nat → ClassId) (b : Nat → Nat) (q : Nat → Nat) (p : Nat → Nat) (x : Nat → Nat) (e : Nat → Nat) (cr : Nat → Nat) (t0 : Nat) (ab : Int) (be : Int) (rb : Int) (rn : Int) (ru : Int) (a : Nat) (fb : Nat) (n4 : Nat) (mx : Int) (r : Int) (f : Int → Int) (x0 : Int) (x1 : Int) (x2 : Int) (x3 : Int) (bf : ∀ j : Int, (-1) ≤ f j ∧ f j ≤ 99) (rx0 : -2147483648 ≤ x0 ∧ x0 < 2147483648) (rx1 : -2147483648 ≤ x1 ∧ x1 < 2147483648) (rx2 : -2147483648 ≤ x2 ∧ x2 < 2147483648) (rx3 : -2147483648 ≤ x3 ∧ x3 < 2147483648) (h4 : (n4 : Int) = 4 * mx ∧ mx ≤ 8) (hr : 0 ≤ r ∧ r ≤ mx) (hx : -1 ≤ x0 ∧ x0 ≤ 99 ∧ -1 ≤ x1 ∧ x1 ≤ 99 ∧ -1 ≤ x2 ∧ x2 ≤ 99 ∧ -1 ≤ x3 ∧ x3 ≤ 99) : CTi l_ D cy yX7_addTo wsX7_addTo rX7_addTo [.ref (b 0), .ref a, .int (zi x0), .int (zi x1), .int (zi x2), .int (zi x3)] ([wV cy b q p x e cr t0 ab be rb rn ru, wF cy a fb n4 mx r f]) (fun (z : Int) (u : (Int) × (Int) × (Int) × (Int) × (Int → Int)) => ((mx ≤ r ∧ z = -4 ∧ u.2.2.2.1 = r ∧ u.2.2.2.2 = f ∧ u.1 = rb ∧ u.2.1 = rn ∧ u.2.2.1 = ru + 1) ∨ (r < mx ∧ z = r + 1 ∧ u.2.2.2.1 = r + 1 ∧ u.2.2.2.2 = putZ f (4 * r) x0 x1 x2 x3 ∧ u.1 = rb ∧ u.2.1 = rn ∧ u.2.2.1 = ru)) ∧ (∀ j : Int, (-1) ≤ u.2.2.2.2 j ∧ u.2.2.2.2 j ≤ 99)) (fun (u : (Int) × (Int) × (Int) × (Int) × (Int → Int)) => [wV cy b q p x e cr t0 ab be u.1 u.2.1 u.2.2.1, wF cy a fb n4 mx u.2.2.2.1 u.2.2.2.2]) := by
  refine CTi.of RX7 cX7_addTo 6 rfl (by decide) rfl (fun z u hz => rfl) (Nat.le_of_ble_eq_true rfl) ?_
  intro p_ e_ s_ m_ ar_ be_ me_ c_ Q_ A_ ls_ F_ K_ W_ hl hret
  have hl : lv_has ls_ 6 [(0, .ref (b 0)), (1, .ref a), (2, .int (zi x0)), (3, .int (zi x1)), (4, .int (zi x2)), (5, .int (zi x3))] := hl
  obtain ⟨H_, hH_⟩ : ∃ x, x = s_.heap := ⟨_, rfl⟩
  obtain ⟨lo_, hlo_⟩ : ∃ x : List Loc, x = [] := ⟨_, rfl⟩
  have W_ : WD D A_ s_.heap ([wV cy b q p x e cr t0 ab be rb rn ru, wF cy a fb n4 mx r f]) H_ lo_ := by rw [hH_, hlo_]; exact W_
  rw [← hlo_]
  suffices hg_ : W p_ l_ e_ rX7_addTo s_ m_ ar_ be_ me_ c_ H_ lo_ 0 0 Q_ (F0 m_ 0 ls_ []) by rw [hH_] at hg_; exact hg_
  clear hH_ hlo_
  refine lv_aload_n F_.1 F_.2.1 dX7_addTo_0 rfl (lv_at hl 1 rfl) ?_
  refine z_callVip F_ K_ W_ [] (c_X2_isFull l_ D cy a fb n4 mx r f bf (by first | omega | assumption) (by first | omega | assumption)) 0 rfl gX7_addTo_X2_isFull rfl (by decide +kernel) ⟨⟨Nat.le_of_ble_eq_true rfl, Nat.le_of_ble_eq_true rfl⟩, rfl, rfl, Nat.zero_le _, Nat.zero_le _⟩ 0 0 2 rfl rfl rfl rfl hl.1 rfl (Nat.le_of_ble_eq_true rfl) [1] [0] [wV cy b q p x e cr t0 ab be rb rn ru] 2 (by decide +kernel) rfl rfl rfl dX7_addTo_1 (fun z_1 _ H_ lo_ hw_ W_ => ?_)
  replace hw_ : ((z_1 = 1 ∧ mx ≤ r) ∨ (z_1 = 0 ∧ r < mx)) := hw_
  have f1_v := hw_
  clear hw_
  refine z_if_eq (tgt := 14) F_ (by omega) dX7_addTo_4 (by decide) (fun c4 => ?_) (fun c4 => ?_)
  · refine lv_aload_n F_.1 F_.2.1 dX7_addTo_14 rfl (lv_at hl 1 rfl) ?_
    refine lv_iload_n F_.1 F_.2.1 dX7_addTo_15 rfl (lv_at hl 2 rfl) ?_
    refine lv_iload_n F_.1 F_.2.1 dX7_addTo_16 rfl (lv_at hl 3 rfl) ?_
    refine lv_iload F_.1 F_.2.1 dX7_addTo_17 (lv_at hl 4 rfl) ?_
    refine lv_iload F_.1 F_.2.1 dX7_addTo_19 (lv_at hl 5 rfl) ?_
    refine z_callVv F_ K_ W_ [.int (zi x0), .int (zi x1), .int (zi x2), .int (zi x3)] (c_X2_append l_ D cy a fb n4 mx r f x0 x1 x2 x3 bf (by first | omega | assumption) (by first | omega | assumption) (by first | omega | assumption) (by first | omega | assumption) (by first | omega | assumption) (by first | omega | assumption) (by first | omega | assumption)) 4 rfl gX7_addTo_X2_append rfl (by decide +kernel) ⟨⟨Nat.le_of_ble_eq_true rfl, Nat.le_of_ble_eq_true rfl⟩, rfl, rfl, Nat.zero_le _, Nat.zero_le _⟩ 0 0 2 rfl rfl rfl rfl hl.1 rfl (Nat.le_of_ble_eq_true rfl) [1] [0] [wV cy b q p x e cr t0 ab be rb rn ru] (fun (u_ : (Int → Int)) => [wV cy b q p x e cr t0 ab be rb rn ru, wF cy a fb n4 mx (r + 1) u_]) 2 (by decide +kernel) rfl rfl rfl (fun _ => rfl) (fun _ => rfl) (fun _ => rfl) dX7_addTo_21 (fun u_ H_ lo_ hw_ W_ => ?_)
    obtain ⟨g_3, rfl⟩ : ∃ x, x = u_ := ⟨_, rfl⟩
    have W_ : WD D A_ s_.heap ([wV cy b q p x e cr t0 ab be rb rn ru, wF cy a fb n4 mx (r + 1) g_3]) H_ lo_ := W_
    replace hw_ : (g_3 = putZ f (4 * r) x0 x1 x2 x3) ∧ (∀ j : Int, (-1) ≤ g_3 j ∧ g_3 j ≤ 99) := hw_
    obtain ⟨f21_v, f21_B_F_f⟩ := hw_
    refine lv_aload_n F_.1 F_.2.1 dX7_addTo_24 rfl (lv_at hl 1 rfl) ?_
    refine z_callVip F_ K_ W_ [] (c_X2_size l_ D cy a fb n4 mx (r + 1) g_3 f21_B_F_f) 0 rfl gX7_addTo_X2_size rfl (by decide +kernel) ⟨⟨Nat.le_of_ble_eq_true rfl, Nat.le_of_ble_eq_true rfl⟩, rfl, rfl, Nat.zero_le _, Nat.zero_le _⟩ 0 0 2 rfl rfl rfl rfl hl.1 rfl (Nat.le_of_ble_eq_true rfl) [1] [0] [wV cy b q p x e cr t0 ab be rb rn ru] 2 (by decide +kernel) rfl rfl rfl dX7_addTo_25 (fun z_4 _ H_ lo_ hw_ W_ => ?_)
    replace hw_ : (z_4 = (r + 1)) := hw_
    have f25_v := hw_
    clear hw_
    exact hret _ _ _ _ z_4 (rb, rn, ru, r + 1, g_3) dX7_addTo_28 ⟨(by (try dsimp only) <;> (first | (refine Or.inl (⟨?_, ?_, ?_, ?_, ?_, ?_, ?_⟩) <;> (first | omega | rfl | assumption)) | (refine Or.inr (⟨?_, ?_, ?_, ?_, ?_, ?_, ?_⟩) <;> (first | omega | rfl | assumption)))), f21_B_F_f⟩ W_
  · refine lv_aload_n F_.1 F_.2.1 dX7_addTo_7 rfl (lv_at hl 0 rfl) ?_
    refine z_bipush F_ (by decide) dX7_addTo_8 ?_
    refine z_callVi F_ K_ W_ [.int (zi (-4))] (c_X7_refuse l_ D cy b q p x e cr t0 ab be rb rn ru (-4) (by first | omega | assumption)) 1 rfl gX7_addTo_X7_refuse rfl (by decide +kernel) ⟨⟨Nat.le_of_ble_eq_true rfl, Nat.le_of_ble_eq_true rfl⟩, rfl, rfl, Nat.zero_le _, Nat.zero_le _⟩ 0 0 6 rfl rfl rfl rfl hl.1 rfl (Nat.le_of_ble_eq_true rfl) [0] [1] [wF cy a fb n4 mx r f] (fun (u_ : (Int) × (Int) × (Int)) => [wV cy b q p x e cr t0 ab be u_.1 u_.2.1 u_.2.2, wF cy a fb n4 mx r f]) 2 (by decide +kernel) rfl rfl rfl (fun _ => rfl) (fun _ => rfl) (fun _ => rfl) dX7_addTo_10 (fun z_5 u_ H_ lo_ hw_ W_ => ?_)
    obtain ⟨rb2_6, rn2_7, ru2_8⟩ := u_
    have W_ : WD D A_ s_.heap ([wV cy b q p x e cr t0 ab be rb2_6 rn2_7 ru2_8, wF cy a fb n4 mx r f]) H_ lo_ := W_
    replace hw_ : (z_5 = (-4)) ∧ (((-4) = -2 ∧ rb2_6 = rb + 1 ∧ rn2_7 = rn ∧ ru2_8 = ru) ∨ ((-4) = -3 ∧ rb2_6 = rb ∧ rn2_7 = rn + 1 ∧ ru2_8 = ru) ∨ (¬ (-4) = -2 ∧ ¬ (-4) = -3 ∧ rb2_6 = rb ∧ rn2_7 = rn ∧ ru2_8 = ru + 1)) := hw_
    obtain ⟨f10_v, f10_k⟩ := hw_
    exact hret _ _ _ _ z_5 (rb2_6, rn2_7, ru2_8, r, f) dX7_addTo_13 ⟨(by (try dsimp only) <;> (first | (refine Or.inl (⟨?_, ?_, ?_, ?_, ?_, ?_, ?_⟩) <;> (first | omega | rfl | assumption)) | (refine Or.inr (⟨?_, ?_, ?_, ?_, ?_, ?_, ?_⟩) <;> (first | omega | rfl | assumption)))), bf⟩ W_
abbrev rX7_island : Room := { frames := 2, cells := 0, slots := 0, locals := 41 }
set_option maxHeartbeats 1000000 in
set_option maxRecDepth 100000 in
theorem c_X7_island (l_ : Launch) (D : va_G) (cy : Nat → ClassId) (b : Nat → Nat) (q : Nat → Nat) (p : Nat → Nat) (x : Nat → Nat) (e : Nat → Nat) (cr : Nat → Nat) (t0 : Nat) (ab : Int) (be : Int) (rb : Int) (rn : Int) (ru : Int) (S : Int) (M : Int) (sk : Int → Int) (sc : Int → Int) (mk : Int → Int) (ms : Int → Int) (mp : Int → Int) (r1 : Int) (f1 : Int → Int) (r2 : Int) (f2 : Int → Int) (r3 : Int) (f3 : Int → Int) (r4 : Int) (f4 : Int → Int) (bS : 0 ≤ S ∧ S ≤ 3) (bM : 0 ≤ M ∧ M ≤ 8) (bsk : ∀ j : Int, 0 ≤ sk j ∧ sk j ≤ 5) (bsc : ∀ j : Int, 0 ≤ sc j ∧ sc j ≤ 99) (bmk : ∀ j : Int, 0 ≤ mk j ∧ mk j ≤ 5) (bms : ∀ j : Int, 0 ≤ ms j ∧ ms j ≤ 9) (bmp : ∀ j : Int, (-1) ≤ mp j ∧ mp j ≤ 2) (bf1 : ∀ j : Int, (-1) ≤ f1 j ∧ f1 j ≤ 99) (bf2 : ∀ j : Int, (-1) ≤ f2 j ∧ f2 j ≤ 99) (bf3 : ∀ j : Int, (-1) ≤ f3 j ∧ f3 j ≤ 99) (bf4 : ∀ j : Int, (-1) ≤ f4 j ∧ f4 j ≤ 99) : CTi l_ D cy yX7_island wsX7_island rX7_island [.ref (b 0)] ([wV cy b q p x e cr t0 ab be rb rn ru, wI cy q S M sk sc mk ms mp, wF cy (q 6) (q 7) 20 5 r1 f1, wF cy (q 8) (q 9) 24 6 r2 f2, wF cy (q 10) (q 11) 24 6 r3 f3, wF cy (q 12) (q 13) 32 8 r4 f4]) (fun (z : Int) (u : Unit) => (z = M) ∧ (0 ≤ 0 ∧ 0 ≤ 3) ∧ (0 ≤ 0 ∧ 0 ≤ 8)) (fun (u : Unit) => [wV cy b q p x e cr t0 ab be rb rn ru, wI cy q 0 0 sk sc mk ms mp, wF cy (q 6) (q 7) 20 5 0 f1, wF cy (q 8) (q 9) 24 6 0 f2, wF cy (q 10) (q 11) 24 6 0 f3, wF cy (q 12) (q 13) 32 8 0 f4]) := by
  refine CTi.of RX7 cX7_island 2 rfl (by decide) rfl (fun z u hz => rfl) (Nat.le_of_ble_eq_true rfl) ?_
  intro p_ e_ s_ m_ ar_ be_ me_ c_ Q_ A_ ls_ F_ K_ W_ hl hret
  have hl : lv_has ls_ 2 [(0, .ref (b 0))] := hl
  obtain ⟨H_, hH_⟩ : ∃ x, x = s_.heap := ⟨_, rfl⟩
  obtain ⟨lo_, hlo_⟩ : ∃ x : List Loc, x = [] := ⟨_, rfl⟩
  have W_ : WD D A_ s_.heap ([wV cy b q p x e cr t0 ab be rb rn ru, wI cy q S M sk sc mk ms mp, wF cy (q 6) (q 7) 20 5 r1 f1, wF cy (q 8) (q 9) 24 6 r2 f2, wF cy (q 10) (q 11) 24 6 r3 f3, wF cy (q 12) (q 13) 32 8 r4 f4]) H_ lo_ := by rw [hH_, hlo_]; exact W_
  rw [← hlo_]
  suffices hg_ : W p_ l_ e_ rX7_island s_ m_ ar_ be_ me_ c_ H_ lo_ 0 0 Q_ (F0 m_ 0 ls_ []) by rw [hH_] at hg_; exact hg_
  clear hH_ hlo_
  have hinX4 : ∀ w ∈ u_ws RX4 TX4 11, w ∈ wsX7_island := fun w h => List.mem_cons_of_mem _ (List.mem_append_left _ (List.mem_append_right _ h))
  have hinX7 : ∀ w ∈ u_ws RX7 TX7 13, w ∈ wsX7_island := fun w h => List.mem_cons_of_mem _ (List.mem_append_left _ (List.mem_append_left _ (List.mem_append_right _ h)))
  refine lv_aload_n F_.1 F_.2.1 dX7_island_0 rfl (lv_at hl 0 rfl) ?_
  refine z_get F_ K_ W_ 0 0 0 rfl rfl rfl (C := RX7) (T := TX7) (N := 13) rfl (by decide) hinX7 (List.mem_of_getElem? (i := 1) rfl) dX7_island_1 ?_
  refine z_get F_ K_ W_ 1 0 1 rfl rfl rfl (C := RX4) (T := TX4) (N := 11) rfl (by decide) hinX4 (List.mem_of_getElem? (i := 2) rfl) dX7_island_4 ?_
  refine lv_istore_n (lv' := [(1, .int (zi M)), (0, .ref (b 0))]) F_.1 F_.2.1 dX7_island_7 rfl hl (by decide) rfl (fun ls_ hl => ?_)
  refine lv_aload_n F_.1 F_.2.1 dX7_island_8 rfl (lv_at hl 1 rfl) ?_
  refine z_get F_ K_ W_ 0 0 0 rfl rfl rfl (C := RX7) (T := TX7) (N := 13) rfl (by decide) hinX7 (List.mem_of_getElem? (i := 1) rfl) dX7_island_9 ?_
  refine z_callVv F_ K_ W_ [] (c_X4_empty l_ D cy q S M sk sc mk ms mp r1 f1 r2 f2 r3 f3 r4 f4 (by omega) (by omega) bsk bsc bmk bms bmp bf1 bf2 bf3 bf4) 0 rfl gX7_island_X4_empty rfl (by decide +kernel) ⟨⟨Nat.le_of_ble_eq_true rfl, Nat.le_of_ble_eq_true rfl⟩, rfl, rfl, Nat.zero_le _, Nat.zero_le _⟩ 0 0 4 rfl rfl rfl rfl hl.1 rfl (Nat.le_of_ble_eq_true rfl) [1, 2, 3, 4, 5] [0] [wV cy b q p x e cr t0 ab be rb rn ru] (fun (u_ : Unit) => [wV cy b q p x e cr t0 ab be rb rn ru, wI cy q 0 0 sk sc mk ms mp, wF cy (q 6) (q 7) 20 5 0 f1, wF cy (q 8) (q 9) 24 6 0 f2, wF cy (q 10) (q 11) 24 6 0 f3, wF cy (q 12) (q 13) 32 8 0 f4]) 6 (by decide +kernel) rfl rfl rfl (fun _ => rfl) (fun _ => rfl) (fun _ => rfl) dX7_island_12 (fun u_ H_ lo_ hw_ W_ => ?_)
  have W_ : WD D A_ s_.heap ([wV cy b q p x e cr t0 ab be rb rn ru, wI cy q 0 0 sk sc mk ms mp, wF cy (q 6) (q 7) 20 5 0 f1, wF cy (q 8) (q 9) 24 6 0 f2, wF cy (q 10) (q 11) 24 6 0 f3, wF cy (q 12) (q 13) 32 8 0 f4]) H_ lo_ := W_
  replace hw_ : (0 ≤ 0 ∧ 0 ≤ 3) ∧ (0 ≤ 0 ∧ 0 ≤ 8) := hw_
  obtain ⟨f12_B_I_S, f12_B_I_M⟩ := hw_
  refine lv_iload_n F_.1 F_.2.1 dX7_island_15 rfl (lv_at hl 0 rfl) ?_
  exact hret _ _ _ _ M () dX7_island_16 ⟨(by rfl), (by omega), (by omega)⟩ W_
abbrev rX7_ship : Room := { frames := 2, cells := 0, slots := 0, locals := 42 }
set_option maxHeartbeats 1000000 in
set_option maxRecDepth 100000 in
theorem c_X7_ship (l_ : Launch) (D : va_G) (cy : Nat → ClassId) (b : Nat → Nat) (q : Nat → Nat) (p : Nat → Nat) (x : Nat → Nat) (e : Nat → Nat) (cr : Nat → Nat) (t0 : Nat) (ab : Int) (be : Int) (rb : Int) (rn : Int) (ru : Int) (S : Int) (M : Int) (sk : Int → Int) (sc : Int → Int) (mk : Int → Int) (ms : Int → Int) (mp : Int → Int) (r4 : Int) (f4 : Int → Int) (kd : Int) (bS : 0 ≤ S ∧ S ≤ 3) (bM : 0 ≤ M ∧ M ≤ 8) (bsk : ∀ j : Int, 0 ≤ sk j ∧ sk j ≤ 5) (bsc : ∀ j : Int, 0 ≤ sc j ∧ sc j ≤ 99) (bmk : ∀ j : Int, 0 ≤ mk j ∧ mk j ≤ 5) (bms : ∀ j : Int, 0 ≤ ms j ∧ ms j ≤ 9) (bmp : ∀ j : Int, (-1) ≤ mp j ∧ mp j ≤ 2) (bf4 : ∀ j : Int, (-1) ≤ f4 j ∧ f4 j ≤ 99) (rkd : -2147483648 ≤ kd ∧ kd < 2147483648) : CTi l_ D cy yX7_ship wsX7_ship rX7_ship [.ref (b 0), .int (zi kd)] ([wV cy b q p x e cr t0 ab be rb rn ru, wI cy q S M sk sc mk ms mp, wF cy (q 12) (q 13) 32 8 r4 f4]) (fun (z : Int) (u : (Int) × (Int) × (Int) × (Int) × (Int → Int) × (Int → Int) × (Int)) => ((¬ (0 ≤ kd ∧ kd ≤ 5) ∧ z = -2 ∧ u.1 = rb + 1 ∧ u.2.1 = rn ∧ u.2.2.1 = ru ∧ u.2.2.2.1 = S ∧ u.2.2.2.2.1 = sk ∧ u.2.2.2.2.2.1 = sc ∧ u.2.2.2.2.2.2 = r4) ∨ ((0 ≤ kd ∧ kd ≤ 5) ∧ S = 3 ∧ z = -4 ∧ u.1 = rb ∧ u.2.1 = rn ∧ u.2.2.1 = ru + 1 ∧ u.2.2.2.1 = S ∧ u.2.2.2.2.1 = sk ∧ u.2.2.2.2.2.1 = sc ∧ u.2.2.2.2.2.2 = r4) ∨ ((0 ≤ kd ∧ kd ≤ 5) ∧ S < 3 ∧ z = S ∧ u.1 = rb ∧ u.2.1 = rn ∧ u.2.2.1 = ru ∧ u.2.2.2.1 = S + 1 ∧ u.2.2.2.2.1 = zu sk S kd ∧ u.2.2.2.2.2.1 = zu sc S 0 ∧ u.2.2.2.2.2.2 = 0)) ∧ (0 ≤ u.2.2.2.1 ∧ u.2.2.2.1 ≤ 3) ∧ (∀ j : Int, 0 ≤ u.2.2.2.2.1 j ∧ u.2.2.2.2.1 j ≤ 5) ∧ (∀ j : Int, 0 ≤ u.2.2.2.2.2.1 j ∧ u.2.2.2.2.2.1 j ≤ 99)) (fun (u : (Int) × (Int) × (Int) × (Int) × (Int → Int) × (Int → Int) × (Int)) => [wV cy b q p x e cr t0 ab be u.1 u.2.1 u.2.2.1, wI cy q u.2.2.2.1 M u.2.2.2.2.1 u.2.2.2.2.2.1 mk ms mp, wF cy (q 12) (q 13) 32 8 u.2.2.2.2.2.2 f4]) := by
  refine CTi.of RX7 cX7_ship 2 rfl (by decide) rfl (fun z u hz => rfl) (Nat.le_of_ble_eq_true rfl) ?_
  intro p_ e_ s_ m_ ar_ be_ me_ c_ Q_ A_ ls_ F_ K_ W_ hl hret
  have hl : lv_has ls_ 2 [(0, .ref (b 0)), (1, .int (zi kd))] := hl
  obtain ⟨H_, hH_⟩ : ∃ x, x = s_.heap := ⟨_, rfl⟩
  obtain ⟨lo_, hlo_⟩ : ∃ x : List Loc, x = [] := ⟨_, rfl⟩
  have W_ : WD D A_ s_.heap ([wV cy b q p x e cr t0 ab be rb rn ru, wI cy q S M sk sc mk ms mp, wF cy (q 12) (q 13) 32 8 r4 f4]) H_ lo_ := by rw [hH_, hlo_]; exact W_
  rw [← hlo_]
  suffices hg_ : W p_ l_ e_ rX7_ship s_ m_ ar_ be_ me_ c_ H_ lo_ 0 0 Q_ (F0 m_ 0 ls_ []) by rw [hH_] at hg_; exact hg_
  clear hH_ hlo_
  have hinX4 : ∀ w ∈ u_ws RX4 TX4 11, w ∈ wsX7_ship := fun w h => List.mem_cons_of_mem _ (List.mem_append_left _ (List.mem_append_right _ h))
  have hinX7 : ∀ w ∈ u_ws RX7 TX7 13, w ∈ wsX7_ship := fun w h => List.mem_cons_of_mem _ (List.mem_append_left _ (List.mem_append_left _ (List.mem_append_right _ h)))
  refine lv_iload_n F_.1 F_.2.1 dX7_ship_0 rfl (lv_at hl 1 rfl) ?_
  refine z_callSip F_ K_ W_ [.int (zi kd)] (c_X7_isKind l_ D cy kd (by first | omega | assumption)) 1 rfl gX7_ship_X7_isKind rfl (by decide +kernel) ⟨⟨Nat.le_of_ble_eq_true rfl, Nat.le_of_ble_eq_true rfl⟩, rfl, rfl, Nat.zero_le _, Nat.zero_le _⟩ hl.1 rfl (Nat.le_of_ble_eq_true rfl) ([] : List Nat) [0, 1, 2] [wV cy b q p x e cr t0 ab be rb rn ru, wI cy q S M sk sc mk ms mp, wF cy (q 12) (q 13) 32 8 r4 f4] 3 (by decide +kernel) rfl rfl rfl dX7_ship_1 (fun z_1 _ H_ lo_ hw_ W_ => ?_)
  replace hw_ : ((z_1 = 1 ∧ (0 ≤ kd ∧ kd ≤ 5)) ∨ (z_1 = 0 ∧ ¬ (0 ≤ kd ∧ kd ≤ 5))) := hw_
  have f1_v := hw_
  clear hw_
  refine z_if_ne (tgt := 14) F_ (by omega) dX7_ship_4 (by decide) (fun c4 => ?_) (fun c4 => ?_)
  · refine lv_aload_n F_.1 F_.2.1 dX7_ship_14 rfl (lv_at hl 0 rfl) ?_
    refine z_get F_ K_ W_ 0 0 0 rfl rfl rfl (C := RX7) (T := TX7) (N := 13) rfl (by decide) hinX7 (List.mem_of_getElem? (i := 1) rfl) dX7_ship_15 ?_
    refine z_get F_ K_ W_ 1 0 0 rfl rfl rfl (C := RX4) (T := TX4) (N := 11) rfl (by decide) hinX4 (List.mem_of_getElem? (i := 2) rfl) dX7_ship_18 ?_
    refine z_iconst F_ dX7_ship_21 ?_
    refine z_icmp_lt (tgt := 32) F_ (by omega) dX7_ship_22 (by decide) (fun c22 => ?_) (fun c22 => ?_)
    · refine lv_aload_n F_.1 F_.2.1 dX7_ship_32 rfl (lv_at hl 0 rfl) ?_
      refine z_get F_ K_ W_ 0 0 0 rfl rfl rfl (C := RX7) (T := TX7) (N := 13) rfl (by decide) hinX7 (List.mem_of_getElem? (i := 1) rfl) dX7_ship_33 ?_
      refine lv_iload_n F_.1 F_.2.1 dX7_ship_36 rfl (lv_at hl 1 rfl) ?_
      refine z_callVi F_ K_ W_ [.int (zi kd)] (c_X4_addShip l_ D cy q S M sk sc mk ms mp r4 f4 kd (by omega) (by omega) bsk bsc bmk bms bmp bf4 (by first | omega | assumption) (by first | omega | assumption) (by first | omega | assumption)) 1 rfl gX7_ship_X4_addShip rfl (by decide +kernel) ⟨⟨Nat.le_of_ble_eq_true rfl, Nat.le_of_ble_eq_true rfl⟩, rfl, rfl, Nat.zero_le _, Nat.zero_le _⟩ 0 0 4 rfl rfl rfl rfl hl.1 rfl (Nat.le_of_ble_eq_true rfl) [1, 2] [0] [wV cy b q p x e cr t0 ab be rb rn ru] (fun (u_ : (Int → Int) × (Int → Int)) => [wV cy b q p x e cr t0 ab be rb rn ru, wI cy q (S + 1) M u_.1 u_.2 mk ms mp, wF cy (q 12) (q 13) 32 8 0 f4]) 3 (by decide +kernel) rfl rfl rfl (fun _ => rfl) (fun _ => rfl) (fun _ => rfl) dX7_ship_37 (fun z_2 u_ H_ lo_ hw_ W_ => ?_)
      obtain ⟨sk2_3, sc2_4⟩ := u_
      have W_ : WD D A_ s_.heap ([wV cy b q p x e cr t0 ab be rb rn ru, wI cy q (S + 1) M sk2_3 sc2_4 mk ms mp, wF cy (q 12) (q 13) 32 8 0 f4]) H_ lo_ := W_
      replace hw_ : (z_2 = S) ∧ (sk2_3 = zu sk S kd) ∧ (sc2_4 = zu sc S 0) ∧ (∀ j : Int, 0 ≤ sk2_3 j ∧ sk2_3 j ≤ 5) ∧ (∀ j : Int, 0 ≤ sc2_4 j ∧ sc2_4 j ≤ 99) ∧ (0 ≤ S + 1 ∧ S + 1 ≤ 3) := hw_
      obtain ⟨f37_v, f37_k, f37_c, f37_B_I_sk, f37_B_I_sc, f37_B_I_S⟩ := hw_
      exact hret _ _ _ _ z_2 (rb, rn, ru, S + 1, sk2_3, sc2_4, 0) dX7_ship_40 ⟨(by (try dsimp only) <;> (first | (refine Or.inl (⟨?_, ?_, ?_, ?_, ?_, ?_, ?_, ?_, ?_⟩) <;> (first | omega | rfl | assumption)) | (refine Or.inr (Or.inl (⟨?_, ?_, ?_, ?_, ?_, ?_, ?_, ?_, ?_, ?_⟩)) <;> (first | omega | rfl | assumption)) | (refine Or.inr (Or.inr (⟨?_, ?_, ?_, ?_, ?_, ?_, ?_, ?_, ?_, ?_⟩)) <;> (first | omega | rfl | assumption)))), (by (try dsimp only) <;> (omega)), f37_B_I_sk, f37_B_I_sc⟩ W_
    · refine lv_aload_n F_.1 F_.2.1 dX7_ship_25 rfl (lv_at hl 0 rfl) ?_
      refine z_bipush F_ (by decide) dX7_ship_26 ?_
      refine z_callVi F_ K_ W_ [.int (zi (-4))] (c_X7_refuse l_ D cy b q p x e cr t0 ab be rb rn ru (-4) (by first | omega | assumption)) 1 rfl gX7_ship_X7_refuse rfl (by decide +kernel) ⟨⟨Nat.le_of_ble_eq_true rfl, Nat.le_of_ble_eq_true rfl⟩, rfl, rfl, Nat.zero_le _, Nat.zero_le _⟩ 0 0 6 rfl rfl rfl rfl hl.1 rfl (Nat.le_of_ble_eq_true rfl) [0] [1, 2] [wI cy q S M sk sc mk ms mp, wF cy (q 12) (q 13) 32 8 r4 f4] (fun (u_ : (Int) × (Int) × (Int)) => [wV cy b q p x e cr t0 ab be u_.1 u_.2.1 u_.2.2, wI cy q S M sk sc mk ms mp, wF cy (q 12) (q 13) 32 8 r4 f4]) 3 (by decide +kernel) rfl rfl rfl (fun _ => rfl) (fun _ => rfl) (fun _ => rfl) dX7_ship_28 (fun z_5 u_ H_ lo_ hw_ W_ => ?_)
      obtain ⟨rb2_6, rn2_7, ru2_8⟩ := u_
      have W_ : WD D A_ s_.heap ([wV cy b q p x e cr t0 ab be rb2_6 rn2_7 ru2_8, wI cy q S M sk sc mk ms mp, wF cy (q 12) (q 13) 32 8 r4 f4]) H_ lo_ := W_
      replace hw_ : (z_5 = (-4)) ∧ (((-4) = -2 ∧ rb2_6 = rb + 1 ∧ rn2_7 = rn ∧ ru2_8 = ru) ∨ ((-4) = -3 ∧ rb2_6 = rb ∧ rn2_7 = rn + 1 ∧ ru2_8 = ru) ∨ (¬ (-4) = -2 ∧ ¬ (-4) = -3 ∧ rb2_6 = rb ∧ rn2_7 = rn ∧ ru2_8 = ru + 1)) := hw_
      obtain ⟨f28_v, f28_k⟩ := hw_
      exact hret _ _ _ _ z_5 (rb2_6, rn2_7, ru2_8, S, sk, sc, r4) dX7_ship_31 ⟨(by (try dsimp only) <;> (first | (refine Or.inl (⟨?_, ?_, ?_, ?_, ?_, ?_, ?_, ?_, ?_⟩) <;> (first | omega | rfl | assumption)) | (refine Or.inr (Or.inl (⟨?_, ?_, ?_, ?_, ?_, ?_, ?_, ?_, ?_, ?_⟩)) <;> (first | omega | rfl | assumption)) | (refine Or.inr (Or.inr (⟨?_, ?_, ?_, ?_, ?_, ?_, ?_, ?_, ?_, ?_⟩)) <;> (first | omega | rfl | assumption)))), (by (try dsimp only) <;> (omega)), bsk, bsc⟩ W_
  · refine lv_aload_n F_.1 F_.2.1 dX7_ship_7 rfl (lv_at hl 0 rfl) ?_
    refine z_bipush F_ (by decide) dX7_ship_8 ?_
    refine z_callVi F_ K_ W_ [.int (zi (-2))] (c_X7_refuse l_ D cy b q p x e cr t0 ab be rb rn ru (-2) (by first | omega | assumption)) 1 rfl gX7_ship_X7_refuse rfl (by decide +kernel) ⟨⟨Nat.le_of_ble_eq_true rfl, Nat.le_of_ble_eq_true rfl⟩, rfl, rfl, Nat.zero_le _, Nat.zero_le _⟩ 0 0 6 rfl rfl rfl rfl hl.1 rfl (Nat.le_of_ble_eq_true rfl) [0] [1, 2] [wI cy q S M sk sc mk ms mp, wF cy (q 12) (q 13) 32 8 r4 f4] (fun (u_ : (Int) × (Int) × (Int)) => [wV cy b q p x e cr t0 ab be u_.1 u_.2.1 u_.2.2, wI cy q S M sk sc mk ms mp, wF cy (q 12) (q 13) 32 8 r4 f4]) 3 (by decide +kernel) rfl rfl rfl (fun _ => rfl) (fun _ => rfl) (fun _ => rfl) dX7_ship_10 (fun z_9 u_ H_ lo_ hw_ W_ => ?_)
    obtain ⟨rb2_10, rn2_11, ru2_12⟩ := u_
    have W_ : WD D A_ s_.heap ([wV cy b q p x e cr t0 ab be rb2_10 rn2_11 ru2_12, wI cy q S M sk sc mk ms mp, wF cy (q 12) (q 13) 32 8 r4 f4]) H_ lo_ := W_
    replace hw_ : (z_9 = (-2)) ∧ (((-2) = -2 ∧ rb2_10 = rb + 1 ∧ rn2_11 = rn ∧ ru2_12 = ru) ∨ ((-2) = -3 ∧ rb2_10 = rb ∧ rn2_11 = rn + 1 ∧ ru2_12 = ru) ∨ (¬ (-2) = -2 ∧ ¬ (-2) = -3 ∧ rb2_10 = rb ∧ rn2_11 = rn ∧ ru2_12 = ru + 1)) := hw_
    obtain ⟨f10_v, f10_k⟩ := hw_
    exact hret _ _ _ _ z_9 (rb2_10, rn2_11, ru2_12, S, sk, sc, r4) dX7_ship_13 ⟨(by (try dsimp only) <;> (first | (refine Or.inl (⟨?_, ?_, ?_, ?_, ?_, ?_, ?_, ?_, ?_⟩) <;> (first | omega | rfl | assumption)) | (refine Or.inr (Or.inl (⟨?_, ?_, ?_, ?_, ?_, ?_, ?_, ?_, ?_, ?_⟩)) <;> (first | omega | rfl | assumption)) | (refine Or.inr (Or.inr (⟨?_, ?_, ?_, ?_, ?_, ?_, ?_, ?_, ?_, ?_⟩)) <;> (first | omega | rfl | assumption)))), (by (try dsimp only) <;> (omega)), bsk, bsc⟩ W_
abbrev rX7_man : Room := { frames := 2, cells := 0, slots := 0, locals := 44 }
set_option maxHeartbeats 1000000 in
set_option maxRecDepth 100000 in
theorem c_X7_man (l_ : Launch) (D : va_G) (cy : Nat → ClassId) (b : Nat → Nat) (q : Nat → Nat) (p : Nat → Nat) (x : Nat → Nat) (e : Nat → Nat) (cr : Nat → Nat) (t0 : Nat) (ab : Int) (be : Int) (rb : Int) (rn : Int) (ru : Int) (S : Int) (M : Int) (sk : Int → Int) (sc : Int → Int) (mk : Int → Int) (ms : Int → Int) (mp : Int → Int) (r4 : Int) (f4 : Int → Int) (kd : Int) (t : Int) (h : Int) (bS : 0 ≤ S ∧ S ≤ 3) (bM : 0 ≤ M ∧ M ≤ 8) (bsk : ∀ j : Int, 0 ≤ sk j ∧ sk j ≤ 5) (bsc : ∀ j : Int, 0 ≤ sc j ∧ sc j ≤ 99) (bmk : ∀ j : Int, 0 ≤ mk j ∧ mk j ≤ 5) (bms : ∀ j : Int, 0 ≤ ms j ∧ ms j ≤ 9) (bmp : ∀ j : Int, (-1) ≤ mp j ∧ mp j ≤ 2) (bf4 : ∀ j : Int, (-1) ≤ f4 j ∧ f4 j ≤ 99) (rkd : -2147483648 ≤ kd ∧ kd < 2147483648) (rt : -2147483648 ≤ t ∧ t < 2147483648) (rh : -2147483648 ≤ h ∧ h < 2147483648) : CTi l_ D cy yX7_man wsX7_man rX7_man [.ref (b 0), .int (zi kd), .int (zi t), .int (zi h)] ([wV cy b q p x e cr t0 ab be rb rn ru, wI cy q S M sk sc mk ms mp, wF cy (q 12) (q 13) 32 8 r4 f4]) (fun (z : Int) (u : (Int) × (Int) × (Int) × (Int) × (Int → Int) × (Int → Int) × (Int → Int) × (Int)) => ((¬ ((0 ≤ kd ∧ kd ≤ 5) ∧ (1 ≤ t ∧ t ≤ 9) ∧ -1 ≤ h ∧ h < S) ∧ z = -2 ∧ u.1 = rb + 1 ∧ u.2.1 = rn ∧ u.2.2.1 = ru ∧ u.2.2.2.1 = M ∧ u.2.2.2.2.1 = mk ∧ u.2.2.2.2.2.1 = ms ∧ u.2.2.2.2.2.2.1 = mp ∧ u.2.2.2.2.2.2.2 = r4) ∨ (((0 ≤ kd ∧ kd ≤ 5) ∧ (1 ≤ t ∧ t ≤ 9) ∧ -1 ≤ h ∧ h < S) ∧ M = 8 ∧ z = -4 ∧ u.1 = rb ∧ u.2.1 = rn ∧ u.2.2.1 = ru + 1 ∧ u.2.2.2.1 = M ∧ u.2.2.2.2.1 = mk ∧ u.2.2.2.2.2.1 = ms ∧ u.2.2.2.2.2.2.1 = mp ∧ u.2.2.2.2.2.2.2 = r4) ∨ (((0 ≤ kd ∧ kd ≤ 5) ∧ (1 ≤ t ∧ t ≤ 9) ∧ -1 ≤ h ∧ h < S) ∧ M < 8 ∧ z = M ∧ u.1 = rb ∧ u.2.1 = rn ∧ u.2.2.1 = ru ∧ u.2.2.2.1 = M + 1 ∧ u.2.2.2.2.1 = zu mk M kd ∧ u.2.2.2.2.2.1 = zu ms M t ∧ u.2.2.2.2.2.2.1 = zu mp M h ∧ u.2.2.2.2.2.2.2 = 0)) ∧ (0 ≤ u.2.2.2.1 ∧ u.2.2.2.1 ≤ 8) ∧ (∀ j : Int, 0 ≤ u.2.2.2.2.1 j ∧ u.2.2.2.2.1 j ≤ 5) ∧ (∀ j : Int, 0 ≤ u.2.2.2.2.2.1 j ∧ u.2.2.2.2.2.1 j ≤ 9) ∧ (∀ j : Int, (-1) ≤ u.2.2.2.2.2.2.1 j ∧ u.2.2.2.2.2.2.1 j ≤ 2)) (fun (u : (Int) × (Int) × (Int) × (Int) × (Int → Int) × (Int → Int) × (Int → Int) × (Int)) => [wV cy b q p x e cr t0 ab be u.1 u.2.1 u.2.2.1, wI cy q S u.2.2.2.1 sk sc u.2.2.2.2.1 u.2.2.2.2.2.1 u.2.2.2.2.2.2.1, wF cy (q 12) (q 13) 32 8 u.2.2.2.2.2.2.2 f4]) := by
  refine CTi.of RX7 cX7_man 4 rfl (by decide) rfl (fun z u hz => rfl) (Nat.le_of_ble_eq_true rfl) ?_
  intro p_ e_ s_ m_ ar_ be_ me_ c_ Q_ A_ ls_ F_ K_ W_ hl hret
  have hl : lv_has ls_ 4 [(0, .ref (b 0)), (1, .int (zi kd)), (2, .int (zi t)), (3, .int (zi h))] := hl
  obtain ⟨H_, hH_⟩ : ∃ x, x = s_.heap := ⟨_, rfl⟩
  obtain ⟨lo_, hlo_⟩ : ∃ x : List Loc, x = [] := ⟨_, rfl⟩
  have W_ : WD D A_ s_.heap ([wV cy b q p x e cr t0 ab be rb rn ru, wI cy q S M sk sc mk ms mp, wF cy (q 12) (q 13) 32 8 r4 f4]) H_ lo_ := by rw [hH_, hlo_]; exact W_
  rw [← hlo_]
  suffices hg_ : W p_ l_ e_ rX7_man s_ m_ ar_ be_ me_ c_ H_ lo_ 0 0 Q_ (F0 m_ 0 ls_ []) by rw [hH_] at hg_; exact hg_
  clear hH_ hlo_
  have hinX4 : ∀ w ∈ u_ws RX4 TX4 11, w ∈ wsX7_man := fun w h => List.mem_cons_of_mem _ (List.mem_append_left _ (List.mem_append_right _ h))
  have hinX7 : ∀ w ∈ u_ws RX7 TX7 13, w ∈ wsX7_man := fun w h => List.mem_cons_of_mem _ (List.mem_append_left _ (List.mem_append_left _ (List.mem_append_right _ h)))
  refine lv_iload_n F_.1 F_.2.1 dX7_man_0 rfl (lv_at hl 1 rfl) ?_
  refine z_callSip F_ K_ W_ [.int (zi kd)] (c_X7_isKind l_ D cy kd (by first | omega | assumption)) 1 rfl gX7_man_X7_isKind rfl (by decide +kernel) ⟨⟨Nat.le_of_ble_eq_true rfl, Nat.le_of_ble_eq_true rfl⟩, rfl, rfl, Nat.zero_le _, Nat.zero_le _⟩ hl.1 rfl (Nat.le_of_ble_eq_true rfl) ([] : List Nat) [0, 1, 2] [wV cy b q p x e cr t0 ab be rb rn ru, wI cy q S M sk sc mk ms mp, wF cy (q 12) (q 13) 32 8 r4 f4] 3 (by decide +kernel) rfl rfl rfl dX7_man_1 (fun z_1 _ H_ lo_ hw_ W_ => ?_)
  replace hw_ : ((z_1 = 1 ∧ (0 ≤ kd ∧ kd ≤ 5)) ∨ (z_1 = 0 ∧ ¬ (0 ≤ kd ∧ kd ≤ 5))) := hw_
  have f1_v := hw_
  clear hw_
  refine z_if_eq (tgt := 25) F_ (by omega) dX7_man_4 (by decide) (fun c4 => ?_) (fun c4 => ?_)
  · refine lv_aload_n F_.1 F_.2.1 dX7_man_25 rfl (lv_at hl 0 rfl) ?_
    refine z_bipush F_ (by decide) dX7_man_26 ?_
    refine z_callVi F_ K_ W_ [.int (zi (-2))] (c_X7_refuse l_ D cy b q p x e cr t0 ab be rb rn ru (-2) (by first | omega | assumption)) 1 rfl gX7_man_X7_refuse rfl (by decide +kernel) ⟨⟨Nat.le_of_ble_eq_true rfl, Nat.le_of_ble_eq_true rfl⟩, rfl, rfl, Nat.zero_le _, Nat.zero_le _⟩ 0 0 6 rfl rfl rfl rfl hl.1 rfl (Nat.le_of_ble_eq_true rfl) [0] [1, 2] [wI cy q S M sk sc mk ms mp, wF cy (q 12) (q 13) 32 8 r4 f4] (fun (u_ : (Int) × (Int) × (Int)) => [wV cy b q p x e cr t0 ab be u_.1 u_.2.1 u_.2.2, wI cy q S M sk sc mk ms mp, wF cy (q 12) (q 13) 32 8 r4 f4]) 3 (by decide +kernel) rfl rfl rfl (fun _ => rfl) (fun _ => rfl) (fun _ => rfl) dX7_man_28 (fun z_2 u_ H_ lo_ hw_ W_ => ?_)
    obtain ⟨rb2_3, rn2_4, ru2_5⟩ := u_
    have W_ : WD D A_ s_.heap ([wV cy b q p x e cr t0 ab be rb2_3 rn2_4 ru2_5, wI cy q S M sk sc mk ms mp, wF cy (q 12) (q 13) 32 8 r4 f4]) H_ lo_ := W_
    replace hw_ : (z_2 = (-2)) ∧ (((-2) = -2 ∧ rb2_3 = rb + 1 ∧ rn2_4 = rn ∧ ru2_5 = ru) ∨ ((-2) = -3 ∧ rb2_3 = rb ∧ rn2_4 = rn + 1 ∧ ru2_5 = ru) ∨ (¬ (-2) = -2 ∧ ¬ (-2) = -3 ∧ rb2_3 = rb ∧ rn2_4 = rn ∧ ru2_5 = ru + 1)) := hw_
    obtain ⟨f28_v, f28_k⟩ := hw_
    exact hret _ _ _ _ z_2 (rb2_3, rn2_4, ru2_5, M, mk, ms, mp, r4) dX7_man_31 ⟨(by (try dsimp only) <;> (first | (refine Or.inl (⟨?_, ?_, ?_, ?_, ?_, ?_, ?_, ?_, ?_, ?_⟩) <;> (first | omega | rfl | assumption)) | (refine Or.inr (Or.inl (⟨?_, ?_, ?_, ?_, ?_, ?_, ?_, ?_, ?_, ?_, ?_⟩)) <;> (first | omega | rfl | assumption)) | (refine Or.inr (Or.inr (⟨?_, ?_, ?_, ?_, ?_, ?_, ?_, ?_, ?_, ?_, ?_⟩)) <;> (first | omega | rfl | assumption)))), (by (try dsimp only) <;> (omega)), bmk, bms, bmp⟩ W_
  · refine lv_iload_n F_.1 F_.2.1 dX7_man_7 rfl (lv_at hl 2 rfl) ?_
    refine z_iconst F_ dX7_man_8 ?_
    refine z_bipush F_ (by decide) dX7_man_9 ?_
    refine z_callSip F_ K_ W_ [.int (zi t), .int (zi 1), .int (zi 9)] (c_X7_within l_ D cy t 1 9 (by first | omega | assumption) (by first | omega | assumption) (by first | omega | assumption)) 3 rfl gX7_man_X7_within rfl (by decide +kernel) ⟨⟨Nat.le_of_ble_eq_true rfl, Nat.le_of_ble_eq_true rfl⟩, rfl, rfl, Nat.zero_le _, Nat.zero_le _⟩ hl.1 rfl (Nat.le_of_ble_eq_true rfl) ([] : List Nat) [0, 1, 2] [wV cy b q p x e cr t0 ab be rb rn ru, wI cy q S M sk sc mk ms mp, wF cy (q 12) (q 13) 32 8 r4 f4] 3 (by decide +kernel) rfl rfl rfl dX7_man_11 (fun z_6 _ H_ lo_ hw_ W_ => ?_)
    replace hw_ : ((z_6 = 1 ∧ (1 ≤ t ∧ t ≤ 9)) ∨ (z_6 = 0 ∧ ¬ (1 ≤ t ∧ t ≤ 9))) := hw_
    have f11_v := hw_
    clear hw_
    refine z_if_eq (tgt := 25) F_ (by omega) dX7_man_14 (by decide) (fun c14 => ?_) (fun c14 => ?_)
    · refine lv_aload_n F_.1 F_.2.1 dX7_man_25 rfl (lv_at hl 0 rfl) ?_
      refine z_bipush F_ (by decide) dX7_man_26 ?_
      refine z_callVi F_ K_ W_ [.int (zi (-2))] (c_X7_refuse l_ D cy b q p x e cr t0 ab be rb rn ru (-2) (by first | omega | assumption)) 1 rfl gX7_man_X7_refuse rfl (by decide +kernel) ⟨⟨Nat.le_of_ble_eq_true rfl, Nat.le_of_ble_eq_true rfl⟩, rfl, rfl, Nat.zero_le _, Nat.zero_le _⟩ 0 0 6 rfl rfl rfl rfl hl.1 rfl (Nat.le_of_ble_eq_true rfl) [0] [1, 2] [wI cy q S M sk sc mk ms mp, wF cy (q 12) (q 13) 32 8 r4 f4] (fun (u_ : (Int) × (Int) × (Int)) => [wV cy b q p x e cr t0 ab be u_.1 u_.2.1 u_.2.2, wI cy q S M sk sc mk ms mp, wF cy (q 12) (q 13) 32 8 r4 f4]) 3 (by decide +kernel) rfl rfl rfl (fun _ => rfl) (fun _ => rfl) (fun _ => rfl) dX7_man_28 (fun z_7 u_ H_ lo_ hw_ W_ => ?_)
      obtain ⟨rb2_8, rn2_9, ru2_10⟩ := u_
      have W_ : WD D A_ s_.heap ([wV cy b q p x e cr t0 ab be rb2_8 rn2_9 ru2_10, wI cy q S M sk sc mk ms mp, wF cy (q 12) (q 13) 32 8 r4 f4]) H_ lo_ := W_
      replace hw_ : (z_7 = (-2)) ∧ (((-2) = -2 ∧ rb2_8 = rb + 1 ∧ rn2_9 = rn ∧ ru2_10 = ru) ∨ ((-2) = -3 ∧ rb2_8 = rb ∧ rn2_9 = rn + 1 ∧ ru2_10 = ru) ∨ (¬ (-2) = -2 ∧ ¬ (-2) = -3 ∧ rb2_8 = rb ∧ rn2_9 = rn ∧ ru2_10 = ru + 1)) := hw_
      obtain ⟨f28_v, f28_k⟩ := hw_
      exact hret _ _ _ _ z_7 (rb2_8, rn2_9, ru2_10, M, mk, ms, mp, r4) dX7_man_31 ⟨(by (try dsimp only) <;> (first | (refine Or.inl (⟨?_, ?_, ?_, ?_, ?_, ?_, ?_, ?_, ?_, ?_⟩) <;> (first | omega | rfl | assumption)) | (refine Or.inr (Or.inl (⟨?_, ?_, ?_, ?_, ?_, ?_, ?_, ?_, ?_, ?_, ?_⟩)) <;> (first | omega | rfl | assumption)) | (refine Or.inr (Or.inr (⟨?_, ?_, ?_, ?_, ?_, ?_, ?_, ?_, ?_, ?_, ?_⟩)) <;> (first | omega | rfl | assumption)))), (by (try dsimp only) <;> (omega)), bmk, bms, bmp⟩ W_
    · refine lv_aload_n F_.1 F_.2.1 dX7_man_17 rfl (lv_at hl 0 rfl) ?_
      refine lv_iload_n F_.1 F_.2.1 dX7_man_18 rfl (lv_at hl 3 rfl) ?_
      refine z_callVip F_ K_ W_ [.int (zi h)] (c_X7_isShipOrNone l_ D cy b q p x e cr t0 ab be rb rn ru S M sk sc mk ms mp h (by omega) (by omega) bsk bsc bmk bms bmp (by first | omega | assumption)) 1 rfl gX7_man_X7_isShipOrNone rfl (by decide +kernel) ⟨⟨Nat.le_of_ble_eq_true rfl, Nat.le_of_ble_eq_true rfl⟩, rfl, rfl, Nat.zero_le _, Nat.zero_le _⟩ 0 0 6 rfl rfl rfl rfl hl.1 rfl (Nat.le_of_ble_eq_true rfl) [0, 1] [2] [wF cy (q 12) (q 13) 32 8 r4 f4] 3 (by decide +kernel) rfl rfl rfl dX7_man_19 (fun z_11 _ H_ lo_ hw_ W_ => ?_)
      replace hw_ : ((z_11 = 1 ∧ (-1 ≤ h ∧ h < S)) ∨ (z_11 = 0 ∧ ¬ (-1 ≤ h ∧ h < S))) := hw_
      have f19_v := hw_
      clear hw_
      refine z_if_ne (tgt := 32) F_ (by omega) dX7_man_22 (by decide) (fun c22 => ?_) (fun c22 => ?_)
      · refine lv_aload_n F_.1 F_.2.1 dX7_man_32 rfl (lv_at hl 0 rfl) ?_
        refine z_get F_ K_ W_ 0 0 0 rfl rfl rfl (C := RX7) (T := TX7) (N := 13) rfl (by decide) hinX7 (List.mem_of_getElem? (i := 1) rfl) dX7_man_33 ?_
        refine z_get F_ K_ W_ 1 0 1 rfl rfl rfl (C := RX4) (T := TX4) (N := 11) rfl (by decide) hinX4 (List.mem_of_getElem? (i := 2) rfl) dX7_man_36 ?_
        refine z_bipush F_ (by decide) dX7_man_39 ?_
        refine z_icmp_lt (tgt := 51) F_ (by omega) dX7_man_41 (by decide) (fun c41 => ?_) (fun c41 => ?_)
        · refine lv_aload_n F_.1 F_.2.1 dX7_man_51 rfl (lv_at hl 0 rfl) ?_
          refine z_get F_ K_ W_ 0 0 0 rfl rfl rfl (C := RX7) (T := TX7) (N := 13) rfl (by decide) hinX7 (List.mem_of_getElem? (i := 1) rfl) dX7_man_52 ?_
          refine lv_iload_n F_.1 F_.2.1 dX7_man_55 rfl (lv_at hl 1 rfl) ?_
          refine lv_iload_n F_.1 F_.2.1 dX7_man_56 rfl (lv_at hl 2 rfl) ?_
          refine lv_iload_n F_.1 F_.2.1 dX7_man_57 rfl (lv_at hl 3 rfl) ?_
          refine z_callVi F_ K_ W_ [.int (zi kd), .int (zi t), .int (zi h)] (c_X4_addMan l_ D cy q S M sk sc mk ms mp r4 f4 kd t h (by omega) (by omega) bsk bsc bmk bms bmp bf4 (by first | omega | assumption) (by first | omega | assumption) (by first | omega | assumption) (by first | omega | assumption) (by first | omega | assumption) (by first | omega | assumption) (by first | omega | assumption)) 3 rfl gX7_man_X4_addMan rfl (by decide +kernel) ⟨⟨Nat.le_of_ble_eq_true rfl, Nat.le_of_ble_eq_true rfl⟩, rfl, rfl, Nat.zero_le _, Nat.zero_le _⟩ 0 0 4 rfl rfl rfl rfl hl.1 rfl (Nat.le_of_ble_eq_true rfl) [1, 2] [0] [wV cy b q p x e cr t0 ab be rb rn ru] (fun (u_ : (Int → Int) × (Int → Int) × (Int → Int)) => [wV cy b q p x e cr t0 ab be rb rn ru, wI cy q S (M + 1) sk sc u_.1 u_.2.1 u_.2.2, wF cy (q 12) (q 13) 32 8 0 f4]) 3 (by decide +kernel) rfl rfl rfl (fun _ => rfl) (fun _ => rfl) (fun _ => rfl) dX7_man_58 (fun z_12 u_ H_ lo_ hw_ W_ => ?_)
          obtain ⟨mk2_13, ms2_14, mp2_15⟩ := u_
          have W_ : WD D A_ s_.heap ([wV cy b q p x e cr t0 ab be rb rn ru, wI cy q S (M + 1) sk sc mk2_13 ms2_14 mp2_15, wF cy (q 12) (q 13) 32 8 0 f4]) H_ lo_ := W_
          replace hw_ : (z_12 = M) ∧ (mk2_13 = zu mk M kd) ∧ (ms2_14 = zu ms M t) ∧ (mp2_15 = zu mp M h) ∧ (∀ j : Int, 0 ≤ mk2_13 j ∧ mk2_13 j ≤ 5) ∧ (∀ j : Int, 0 ≤ ms2_14 j ∧ ms2_14 j ≤ 9) ∧ (∀ j : Int, (-1) ≤ mp2_15 j ∧ mp2_15 j ≤ 2) ∧ (0 ≤ M + 1 ∧ M + 1 ≤ 8) := hw_
          obtain ⟨f58_v, f58_k, f58_s, f58_p, f58_B_I_mk, f58_B_I_ms, f58_B_I_mp, f58_B_I_M⟩ := hw_
          exact hret _ _ _ _ z_12 (rb, rn, ru, M + 1, mk2_13, ms2_14, mp2_15, 0) dX7_man_61 ⟨(by (try dsimp only) <;> (first | (refine Or.inl (⟨?_, ?_, ?_, ?_, ?_, ?_, ?_, ?_, ?_, ?_⟩) <;> (first | omega | rfl | assumption)) | (refine Or.inr (Or.inl (⟨?_, ?_, ?_, ?_, ?_, ?_, ?_, ?_, ?_, ?_, ?_⟩)) <;> (first | omega | rfl | assumption)) | (refine Or.inr (Or.inr (⟨?_, ?_, ?_, ?_, ?_, ?_, ?_, ?_, ?_, ?_, ?_⟩)) <;> (first | omega | rfl | assumption)))), (by (try dsimp only) <;> (omega)), f58_B_I_mk, f58_B_I_ms, f58_B_I_mp⟩ W_
        · refine lv_aload_n F_.1 F_.2.1 dX7_man_44 rfl (lv_at hl 0 rfl) ?_
          refine z_bipush F_ (by decide) dX7_man_45 ?_
          refine z_callVi F_ K_ W_ [.int (zi (-4))] (c_X7_refuse l_ D cy b q p x e cr t0 ab be rb rn ru (-4) (by first | omega | assumption)) 1 rfl gX7_man_X7_refuse rfl (by decide +kernel) ⟨⟨Nat.le_of_ble_eq_true rfl, Nat.le_of_ble_eq_true rfl⟩, rfl, rfl, Nat.zero_le _, Nat.zero_le _⟩ 0 0 6 rfl rfl rfl rfl hl.1 rfl (Nat.le_of_ble_eq_true rfl) [0] [1, 2] [wI cy q S M sk sc mk ms mp, wF cy (q 12) (q 13) 32 8 r4 f4] (fun (u_ : (Int) × (Int) × (Int)) => [wV cy b q p x e cr t0 ab be u_.1 u_.2.1 u_.2.2, wI cy q S M sk sc mk ms mp, wF cy (q 12) (q 13) 32 8 r4 f4]) 3 (by decide +kernel) rfl rfl rfl (fun _ => rfl) (fun _ => rfl) (fun _ => rfl) dX7_man_47 (fun z_16 u_ H_ lo_ hw_ W_ => ?_)
          obtain ⟨rb2_17, rn2_18, ru2_19⟩ := u_
          have W_ : WD D A_ s_.heap ([wV cy b q p x e cr t0 ab be rb2_17 rn2_18 ru2_19, wI cy q S M sk sc mk ms mp, wF cy (q 12) (q 13) 32 8 r4 f4]) H_ lo_ := W_
          replace hw_ : (z_16 = (-4)) ∧ (((-4) = -2 ∧ rb2_17 = rb + 1 ∧ rn2_18 = rn ∧ ru2_19 = ru) ∨ ((-4) = -3 ∧ rb2_17 = rb ∧ rn2_18 = rn + 1 ∧ ru2_19 = ru) ∨ (¬ (-4) = -2 ∧ ¬ (-4) = -3 ∧ rb2_17 = rb ∧ rn2_18 = rn ∧ ru2_19 = ru + 1)) := hw_
          obtain ⟨f47_v, f47_k⟩ := hw_
          exact hret _ _ _ _ z_16 (rb2_17, rn2_18, ru2_19, M, mk, ms, mp, r4) dX7_man_50 ⟨(by (try dsimp only) <;> (first | (refine Or.inl (⟨?_, ?_, ?_, ?_, ?_, ?_, ?_, ?_, ?_, ?_⟩) <;> (first | omega | rfl | assumption)) | (refine Or.inr (Or.inl (⟨?_, ?_, ?_, ?_, ?_, ?_, ?_, ?_, ?_, ?_, ?_⟩)) <;> (first | omega | rfl | assumption)) | (refine Or.inr (Or.inr (⟨?_, ?_, ?_, ?_, ?_, ?_, ?_, ?_, ?_, ?_, ?_⟩)) <;> (first | omega | rfl | assumption)))), (by (try dsimp only) <;> (omega)), bmk, bms, bmp⟩ W_
      · refine lv_aload_n F_.1 F_.2.1 dX7_man_25 rfl (lv_at hl 0 rfl) ?_
        refine z_bipush F_ (by decide) dX7_man_26 ?_
        refine z_callVi F_ K_ W_ [.int (zi (-2))] (c_X7_refuse l_ D cy b q p x e cr t0 ab be rb rn ru (-2) (by first | omega | assumption)) 1 rfl gX7_man_X7_refuse rfl (by decide +kernel) ⟨⟨Nat.le_of_ble_eq_true rfl, Nat.le_of_ble_eq_true rfl⟩, rfl, rfl, Nat.zero_le _, Nat.zero_le _⟩ 0 0 6 rfl rfl rfl rfl hl.1 rfl (Nat.le_of_ble_eq_true rfl) [0] [1, 2] [wI cy q S M sk sc mk ms mp, wF cy (q 12) (q 13) 32 8 r4 f4] (fun (u_ : (Int) × (Int) × (Int)) => [wV cy b q p x e cr t0 ab be u_.1 u_.2.1 u_.2.2, wI cy q S M sk sc mk ms mp, wF cy (q 12) (q 13) 32 8 r4 f4]) 3 (by decide +kernel) rfl rfl rfl (fun _ => rfl) (fun _ => rfl) (fun _ => rfl) dX7_man_28 (fun z_20 u_ H_ lo_ hw_ W_ => ?_)
        obtain ⟨rb2_21, rn2_22, ru2_23⟩ := u_
        have W_ : WD D A_ s_.heap ([wV cy b q p x e cr t0 ab be rb2_21 rn2_22 ru2_23, wI cy q S M sk sc mk ms mp, wF cy (q 12) (q 13) 32 8 r4 f4]) H_ lo_ := W_
        replace hw_ : (z_20 = (-2)) ∧ (((-2) = -2 ∧ rb2_21 = rb + 1 ∧ rn2_22 = rn ∧ ru2_23 = ru) ∨ ((-2) = -3 ∧ rb2_21 = rb ∧ rn2_22 = rn + 1 ∧ ru2_23 = ru) ∨ (¬ (-2) = -2 ∧ ¬ (-2) = -3 ∧ rb2_21 = rb ∧ rn2_22 = rn ∧ ru2_23 = ru + 1)) := hw_
        obtain ⟨f28_v, f28_k⟩ := hw_
        exact hret _ _ _ _ z_20 (rb2_21, rn2_22, ru2_23, M, mk, ms, mp, r4) dX7_man_31 ⟨(by (try dsimp only) <;> (first | (refine Or.inl (⟨?_, ?_, ?_, ?_, ?_, ?_, ?_, ?_, ?_, ?_⟩) <;> (first | omega | rfl | assumption)) | (refine Or.inr (Or.inl (⟨?_, ?_, ?_, ?_, ?_, ?_, ?_, ?_, ?_, ?_, ?_⟩)) <;> (first | omega | rfl | assumption)) | (refine Or.inr (Or.inr (⟨?_, ?_, ?_, ?_, ?_, ?_, ?_, ?_, ?_, ?_, ?_⟩)) <;> (first | omega | rfl | assumption)))), (by (try dsimp only) <;> (omega)), bmk, bms, bmp⟩ W_
abbrev rX7_type : Room := { frames := 1, cells := 0, slots := 0, locals := 22 }
set_option maxHeartbeats 1000000 in
set_option maxRecDepth 100000 in
theorem c_X7_type (l_ : Launch) (D : va_G) (cy : Nat → ClassId) (b : Nat → Nat) (q : Nat → Nat) (p : Nat → Nat) (x : Nat → Nat) (e : Nat → Nat) (cr : Nat → Nat) (t0 : Nat) (ab : Int) (be : Int) (rb : Int) (rn : Int) (ru : Int) (ln : Int) (tok : Int) (st : Int) (en : Int) (va : Int) (xb : Int → Int) (c : Int) (bxb : ∀ j : Int, 0 ≤ xb j ∧ xb j ≤ 127) (rc : -2147483648 ≤ c ∧ c < 2147483648) (hln : 0 ≤ ln ∧ ln ≤ 150) : CTi l_ D cy yX7_type wsX7_type rX7_type [.ref (b 0), .int (zi c)] ([wV cy b q p x e cr t0 ab be rb rn ru, wX cy x ln tok st en va xb]) (fun (z : Int) (u : (Int) × (Int) × (Int) × (Int) × (Int → Int)) => ((¬ (0 ≤ c ∧ c ≤ 127) ∧ z = -2 ∧ u.1 = rb + 1 ∧ u.2.1 = rn ∧ u.2.2.1 = ru ∧ u.2.2.2.1 = ln ∧ u.2.2.2.2 = xb) ∨ ((0 ≤ c ∧ c ≤ 127) ∧ ln = 150 ∧ z = -4 ∧ u.1 = rb ∧ u.2.1 = rn ∧ u.2.2.1 = ru + 1 ∧ u.2.2.2.1 = ln ∧ u.2.2.2.2 = xb) ∨ ((0 ≤ c ∧ c ≤ 127) ∧ ln < 150 ∧ z = ln + 1 ∧ u.1 = rb ∧ u.2.1 = rn ∧ u.2.2.1 = ru ∧ u.2.2.2.1 = ln + 1 ∧ u.2.2.2.2 = zu xb ln c)) ∧ (∀ j : Int, 0 ≤ u.2.2.2.2 j ∧ u.2.2.2.2 j ≤ 127)) (fun (u : (Int) × (Int) × (Int) × (Int) × (Int → Int)) => [wV cy b q p x e cr t0 ab be u.1 u.2.1 u.2.2.1, wX cy x u.2.2.2.1 tok st en va u.2.2.2.2]) := by
  refine CTi.of RX7 cX7_type 2 rfl (by decide) rfl (fun z u hz => rfl) (Nat.le_of_ble_eq_true rfl) ?_
  intro p_ e_ s_ m_ ar_ be_ me_ c_ Q_ A_ ls_ F_ K_ W_ hl hret
  have hl : lv_has ls_ 2 [(0, .ref (b 0)), (1, .int (zi c))] := hl
  obtain ⟨H_, hH_⟩ : ∃ x, x = s_.heap := ⟨_, rfl⟩
  obtain ⟨lo_, hlo_⟩ : ∃ x : List Loc, x = [] := ⟨_, rfl⟩
  have W_ : WD D A_ s_.heap ([wV cy b q p x e cr t0 ab be rb rn ru, wX cy x ln tok st en va xb]) H_ lo_ := by rw [hH_, hlo_]; exact W_
  rw [← hlo_]
  suffices hg_ : W p_ l_ e_ rX7_type s_ m_ ar_ be_ me_ c_ H_ lo_ 0 0 Q_ (F0 m_ 0 ls_ []) by rw [hH_] at hg_; exact hg_
  clear hH_ hlo_
  have hinX7 : ∀ w ∈ u_ws RX7 TX7 13, w ∈ wsX7_type := fun w h => List.mem_cons_of_mem _ (List.mem_append_left _ (List.mem_append_right _ h))
  refine lv_iload_n F_.1 F_.2.1 dX7_type_0 rfl (lv_at hl 1 rfl) ?_
  refine z_iconst F_ dX7_type_1 ?_
  refine z_bipush F_ (by decide) dX7_type_2 ?_
  refine z_callSip F_ K_ W_ [.int (zi c), .int (zi 0), .int (zi 127)] (c_X7_within l_ D cy c 0 127 (by first | omega | assumption) (by first | omega | assumption) (by first | omega | assumption)) 3 rfl gX7_type_X7_within rfl (by decide +kernel) ⟨⟨Nat.le_of_ble_eq_true rfl, Nat.le_of_ble_eq_true rfl⟩, rfl, rfl, Nat.zero_le _, Nat.zero_le _⟩ hl.1 rfl (Nat.le_of_ble_eq_true rfl) ([] : List Nat) [0, 1] [wV cy b q p x e cr t0 ab be rb rn ru, wX cy x ln tok st en va xb] 2 (by decide +kernel) rfl rfl rfl dX7_type_4 (fun z_1 _ H_ lo_ hw_ W_ => ?_)
  replace hw_ : ((z_1 = 1 ∧ (0 ≤ c ∧ c ≤ 127)) ∨ (z_1 = 0 ∧ ¬ (0 ≤ c ∧ c ≤ 127))) := hw_
  have f4_v := hw_
  clear hw_
  refine z_if_ne (tgt := 17) F_ (by omega) dX7_type_7 (by decide) (fun c7 => ?_) (fun c7 => ?_)
  · refine lv_aload_n F_.1 F_.2.1 dX7_type_17 rfl (lv_at hl 0 rfl) ?_
    refine z_get F_ K_ W_ 0 0 4 rfl rfl rfl (C := RX7) (T := TX7) (N := 13) rfl (by decide) hinX7 (List.mem_of_getElem? (i := 1) rfl) dX7_type_18 ?_
    refine z_callVip F_ K_ W_ [] (c_X6_size l_ D cy x ln tok st en va xb bxb) 0 rfl gX7_type_X6_size rfl (by decide +kernel) ⟨⟨Nat.le_of_ble_eq_true rfl, Nat.le_of_ble_eq_true rfl⟩, rfl, rfl, Nat.zero_le _, Nat.zero_le _⟩ 0 0 5 rfl rfl rfl rfl hl.1 rfl (Nat.le_of_ble_eq_true rfl) [1] [0] [wV cy b q p x e cr t0 ab be rb rn ru] 2 (by decide +kernel) rfl rfl rfl dX7_type_21 (fun z_2 _ H_ lo_ hw_ W_ => ?_)
    replace hw_ : (z_2 = ln) := hw_
    have f21_v := hw_
    clear hw_
    refine z_sipush F_ (by decide) dX7_type_24 ?_
    refine z_icmp_lt (tgt := 37) F_ (by omega) dX7_type_27 (by decide) (fun c27 => ?_) (fun c27 => ?_)
    · refine lv_aload_n F_.1 F_.2.1 dX7_type_37 rfl (lv_at hl 0 rfl) ?_
      refine z_get F_ K_ W_ 0 0 4 rfl rfl rfl (C := RX7) (T := TX7) (N := 13) rfl (by decide) hinX7 (List.mem_of_getElem? (i := 1) rfl) dX7_type_38 ?_
      refine lv_iload_n F_.1 F_.2.1 dX7_type_41 rfl (lv_at hl 1 rfl) ?_
      refine z_callVi F_ K_ W_ [.int (zi c)] (c_X6_append l_ D cy x ln tok st en va xb c bxb (by first | omega | assumption) (by first | omega | assumption) (by first | omega | assumption)) 1 rfl gX7_type_X6_append rfl (by decide +kernel) ⟨⟨Nat.le_of_ble_eq_true rfl, Nat.le_of_ble_eq_true rfl⟩, rfl, rfl, Nat.zero_le _, Nat.zero_le _⟩ 0 0 5 rfl rfl rfl rfl hl.1 rfl (Nat.le_of_ble_eq_true rfl) [1] [0] [wV cy b q p x e cr t0 ab be rb rn ru] (fun (u_ : (Int) × (Int → Int)) => [wV cy b q p x e cr t0 ab be rb rn ru, wX cy x u_.1 tok st en va u_.2]) 2 (by decide +kernel) rfl rfl rfl (fun _ => rfl) (fun _ => rfl) (fun _ => rfl) dX7_type_42 (fun z_3 u_ H_ lo_ hw_ W_ => ?_)
      obtain ⟨ln2_4, xb2_5⟩ := u_
      have W_ : WD D A_ s_.heap ([wV cy b q p x e cr t0 ab be rb rn ru, wX cy x ln2_4 tok st en va xb2_5]) H_ lo_ := W_
      replace hw_ : (z_3 = ln2_4) ∧ ((ln < 150 ∧ ln2_4 = ln + 1 ∧ xb2_5 = zu xb ln c) ∨ (ln = 150 ∧ ln2_4 = ln ∧ xb2_5 = xb)) ∧ (∀ j : Int, 0 ≤ xb2_5 j ∧ xb2_5 j ≤ 127) := hw_
      obtain ⟨f42_v, f42_k, f42_B_X_xb⟩ := hw_
      obtain ⟨k1_, k2_, k3_⟩ := f42_k.resolve_right (fun q_ => by have := q_.1; omega)
      exact hret _ _ _ _ z_3 (rb, rn, ru, ln2_4, xb2_5) dX7_type_45 ⟨(by (try dsimp only) <;> (first | (refine Or.inl (⟨?_, ?_, ?_, ?_, ?_, ?_, ?_⟩) <;> (first | omega | rfl | assumption)) | (refine Or.inr (Or.inl (⟨?_, ?_, ?_, ?_, ?_, ?_, ?_, ?_⟩)) <;> (first | omega | rfl | assumption)) | (refine Or.inr (Or.inr (⟨?_, ?_, ?_, ?_, ?_, ?_, ?_, ?_⟩)) <;> (first | omega | rfl | assumption)))), f42_B_X_xb⟩ W_
    · refine lv_aload_n F_.1 F_.2.1 dX7_type_30 rfl (lv_at hl 0 rfl) ?_
      refine z_bipush F_ (by decide) dX7_type_31 ?_
      refine z_callVi F_ K_ W_ [.int (zi (-4))] (c_X7_refuse l_ D cy b q p x e cr t0 ab be rb rn ru (-4) (by first | omega | assumption)) 1 rfl gX7_type_X7_refuse rfl (by decide +kernel) ⟨⟨Nat.le_of_ble_eq_true rfl, Nat.le_of_ble_eq_true rfl⟩, rfl, rfl, Nat.zero_le _, Nat.zero_le _⟩ 0 0 6 rfl rfl rfl rfl hl.1 rfl (Nat.le_of_ble_eq_true rfl) [0] [1] [wX cy x ln tok st en va xb] (fun (u_ : (Int) × (Int) × (Int)) => [wV cy b q p x e cr t0 ab be u_.1 u_.2.1 u_.2.2, wX cy x ln tok st en va xb]) 2 (by decide +kernel) rfl rfl rfl (fun _ => rfl) (fun _ => rfl) (fun _ => rfl) dX7_type_33 (fun z_6 u_ H_ lo_ hw_ W_ => ?_)
      obtain ⟨rb2_7, rn2_8, ru2_9⟩ := u_
      have W_ : WD D A_ s_.heap ([wV cy b q p x e cr t0 ab be rb2_7 rn2_8 ru2_9, wX cy x ln tok st en va xb]) H_ lo_ := W_
      replace hw_ : (z_6 = (-4)) ∧ (((-4) = -2 ∧ rb2_7 = rb + 1 ∧ rn2_8 = rn ∧ ru2_9 = ru) ∨ ((-4) = -3 ∧ rb2_7 = rb ∧ rn2_8 = rn + 1 ∧ ru2_9 = ru) ∨ (¬ (-4) = -2 ∧ ¬ (-4) = -3 ∧ rb2_7 = rb ∧ rn2_8 = rn ∧ ru2_9 = ru + 1)) := hw_
      obtain ⟨f33_v, f33_k⟩ := hw_
      exact hret _ _ _ _ z_6 (rb2_7, rn2_8, ru2_9, ln, xb) dX7_type_36 ⟨(by (try dsimp only) <;> (first | (refine Or.inl (⟨?_, ?_, ?_, ?_, ?_, ?_, ?_⟩) <;> (first | omega | rfl | assumption)) | (refine Or.inr (Or.inl (⟨?_, ?_, ?_, ?_, ?_, ?_, ?_, ?_⟩)) <;> (first | omega | rfl | assumption)) | (refine Or.inr (Or.inr (⟨?_, ?_, ?_, ?_, ?_, ?_, ?_, ?_⟩)) <;> (first | omega | rfl | assumption)))), bxb⟩ W_
  · refine lv_aload_n F_.1 F_.2.1 dX7_type_10 rfl (lv_at hl 0 rfl) ?_
    refine z_bipush F_ (by decide) dX7_type_11 ?_
    refine z_callVi F_ K_ W_ [.int (zi (-2))] (c_X7_refuse l_ D cy b q p x e cr t0 ab be rb rn ru (-2) (by first | omega | assumption)) 1 rfl gX7_type_X7_refuse rfl (by decide +kernel) ⟨⟨Nat.le_of_ble_eq_true rfl, Nat.le_of_ble_eq_true rfl⟩, rfl, rfl, Nat.zero_le _, Nat.zero_le _⟩ 0 0 6 rfl rfl rfl rfl hl.1 rfl (Nat.le_of_ble_eq_true rfl) [0] [1] [wX cy x ln tok st en va xb] (fun (u_ : (Int) × (Int) × (Int)) => [wV cy b q p x e cr t0 ab be u_.1 u_.2.1 u_.2.2, wX cy x ln tok st en va xb]) 2 (by decide +kernel) rfl rfl rfl (fun _ => rfl) (fun _ => rfl) (fun _ => rfl) dX7_type_13 (fun z_10 u_ H_ lo_ hw_ W_ => ?_)
    obtain ⟨rb2_11, rn2_12, ru2_13⟩ := u_
    have W_ : WD D A_ s_.heap ([wV cy b q p x e cr t0 ab be rb2_11 rn2_12 ru2_13, wX cy x ln tok st en va xb]) H_ lo_ := W_
    replace hw_ : (z_10 = (-2)) ∧ (((-2) = -2 ∧ rb2_11 = rb + 1 ∧ rn2_12 = rn ∧ ru2_13 = ru) ∨ ((-2) = -3 ∧ rb2_11 = rb ∧ rn2_12 = rn + 1 ∧ ru2_13 = ru) ∨ (¬ (-2) = -2 ∧ ¬ (-2) = -3 ∧ rb2_11 = rb ∧ rn2_12 = rn ∧ ru2_13 = ru + 1)) := hw_
    obtain ⟨f13_v, f13_k⟩ := hw_
    exact hret _ _ _ _ z_10 (rb2_11, rn2_12, ru2_13, ln, xb) dX7_type_16 ⟨(by (try dsimp only) <;> (first | (refine Or.inl (⟨?_, ?_, ?_, ?_, ?_, ?_, ?_⟩) <;> (first | omega | rfl | assumption)) | (refine Or.inr (Or.inl (⟨?_, ?_, ?_, ?_, ?_, ?_, ?_, ?_⟩)) <;> (first | omega | rfl | assumption)) | (refine Or.inr (Or.inr (⟨?_, ?_, ?_, ?_, ?_, ?_, ?_, ?_⟩)) <;> (first | omega | rfl | assumption)))), bxb⟩ W_
abbrev rX7_clear : Room := { frames := 1, cells := 0, slots := 0, locals := 21 }
set_option maxHeartbeats 1000000 in
set_option maxRecDepth 100000 in
theorem c_X7_clear (l_ : Launch) (D : va_G) (cy : Nat → ClassId) (b : Nat → Nat) (q : Nat → Nat) (p : Nat → Nat) (x : Nat → Nat) (e : Nat → Nat) (cr : Nat → Nat) (t0 : Nat) (ab : Int) (be : Int) (rb : Int) (rn : Int) (ru : Int) (ln : Int) (tok : Int) (st : Int) (en : Int) (va : Int) (xb : Int → Int) (bxb : ∀ j : Int, 0 ≤ xb j ∧ xb j ≤ 127) : CTi l_ D cy yX7_clear wsX7_clear rX7_clear [.ref (b 0)] ([wV cy b q p x e cr t0 ab be rb rn ru, wX cy x ln tok st en va xb]) (fun (z : Int) (u : Unit) => (z = ln)) (fun (u : Unit) => [wV cy b q p x e cr t0 ab be rb rn ru, wX cy x 0 tok st en va xb]) := by
  refine CTi.of RX7 cX7_clear 1 rfl (by decide) rfl (fun z u hz => rfl) (Nat.le_of_ble_eq_true rfl) ?_
  intro p_ e_ s_ m_ ar_ be_ me_ c_ Q_ A_ ls_ F_ K_ W_ hl hret
  have hl : lv_has ls_ 1 [(0, .ref (b 0))] := hl
  obtain ⟨H_, hH_⟩ : ∃ x, x = s_.heap := ⟨_, rfl⟩
  obtain ⟨lo_, hlo_⟩ : ∃ x : List Loc, x = [] := ⟨_, rfl⟩
  have W_ : WD D A_ s_.heap ([wV cy b q p x e cr t0 ab be rb rn ru, wX cy x ln tok st en va xb]) H_ lo_ := by rw [hH_, hlo_]; exact W_
  rw [← hlo_]
  suffices hg_ : W p_ l_ e_ rX7_clear s_ m_ ar_ be_ me_ c_ H_ lo_ 0 0 Q_ (F0 m_ 0 ls_ []) by rw [hH_] at hg_; exact hg_
  clear hH_ hlo_
  have hinX7 : ∀ w ∈ u_ws RX7 TX7 13, w ∈ wsX7_clear := fun w h => List.mem_cons_of_mem _ (List.mem_append_left _ (List.mem_append_right _ h))
  refine lv_aload_n F_.1 F_.2.1 dX7_clear_0 rfl (lv_at hl 0 rfl) ?_
  refine z_get F_ K_ W_ 0 0 4 rfl rfl rfl (C := RX7) (T := TX7) (N := 13) rfl (by decide) hinX7 (List.mem_of_getElem? (i := 1) rfl) dX7_clear_1 ?_
  refine z_callVi F_ K_ W_ [] (c_X6_empty l_ D cy x ln tok st en va xb bxb) 0 rfl gX7_clear_X6_empty rfl (by decide +kernel) ⟨⟨Nat.le_of_ble_eq_true rfl, Nat.le_of_ble_eq_true rfl⟩, rfl, rfl, Nat.zero_le _, Nat.zero_le _⟩ 0 0 5 rfl rfl rfl rfl hl.1 rfl (Nat.le_of_ble_eq_true rfl) [1] [0] [wV cy b q p x e cr t0 ab be rb rn ru] (fun (u_ : Unit) => [wV cy b q p x e cr t0 ab be rb rn ru, wX cy x 0 tok st en va xb]) 2 (by decide +kernel) rfl rfl rfl (fun _ => rfl) (fun _ => rfl) (fun _ => rfl) dX7_clear_4 (fun z_1 u_ H_ lo_ hw_ W_ => ?_)
  have W_ : WD D A_ s_.heap ([wV cy b q p x e cr t0 ab be rb rn ru, wX cy x 0 tok st en va xb]) H_ lo_ := W_
  replace hw_ : (z_1 = ln) := hw_
  have f4_v := hw_
  clear hw_
  exact hret _ _ _ _ z_1 () dX7_clear_7 (by first | omega | assumption) W_
abbrev rX7_calls : Room := { frames := 3, cells := 0, slots := 0, locals := 72 }
set_option maxHeartbeats 1000000 in
set_option maxRecDepth 100000 in
theorem c_X7_calls (l_ : Launch) (D : va_G) (cy : Nat → ClassId) (b : Nat → Nat) (q : Nat → Nat) (p : Nat → Nat) (x : Nat → Nat) (e : Nat → Nat) (cr : Nat → Nat) (t0 : Nat) (ab : Int) (be : Int) (rb : Int) (rn : Int) (ru : Int) (S : Int) (M : Int) (sk : Int → Int) (sc : Int → Int) (mk : Int → Int) (ms : Int → Int) (mp : Int → Int) (r4 : Int) (f4 : Int → Int) (h : Int) (bS : 0 ≤ S ∧ S ≤ 3) (bM : 0 ≤ M ∧ M ≤ 8) (bsk : ∀ j : Int, 0 ≤ sk j ∧ sk j ≤ 5) (bsc : ∀ j : Int, 0 ≤ sc j ∧ sc j ≤ 99) (bmk : ∀ j : Int, 0 ≤ mk j ∧ mk j ≤ 5) (bms : ∀ j : Int, 0 ≤ ms j ∧ ms j ≤ 9) (bmp : ∀ j : Int, (-1) ≤ mp j ∧ mp j ≤ 2) (bf4 : ∀ j : Int, (-1) ≤ f4 j ∧ f4 j ≤ 99) (rh : -2147483648 ≤ h ∧ h < 2147483648) (hr4 : 0 ≤ r4 ∧ r4 ≤ 8) : CTi l_ D cy yX7_calls wsX7_calls rX7_calls [.ref (b 0), .int (zi h)] ([wV cy b q p x e cr t0 ab be rb rn ru, wI cy q S M sk sc mk ms mp, wF cy (q 12) (q 13) 32 8 r4 f4]) (fun (z : Int) (u : (Int) × (Int) × (Int) × (Int → Int) × (Int → Int) × (Int) × (Int → Int)) => ((¬ (0 ≤ h ∧ h < S) ∧ z = -2 ∧ u.1 = rb + 1 ∧ u.2.1 = rn ∧ u.2.2.1 = ru ∧ u.2.2.2.1 = sc ∧ u.2.2.2.2.1 = mp ∧ u.2.2.2.2.2.1 = r4 ∧ u.2.2.2.2.2.2 = f4) ∨ ((0 ≤ h ∧ h < S) ∧ lstI S M sc mk ms mp h = -1 ∧ z = -3 ∧ u.1 = rb ∧ u.2.1 = rn + 1 ∧ u.2.2.1 = ru ∧ u.2.2.2.1 = sc ∧ u.2.2.2.2.1 = mp ∧ u.2.2.2.2.2.1 = r4 ∧ u.2.2.2.2.2.2 = f4) ∨ ((0 ≤ h ∧ h < S) ∧ ¬ lstI S M sc mk ms mp h = -1 ∧ z = lstI S M sc mk ms mp h ∧ u.1 = rb ∧ u.2.1 = rn ∧ u.2.2.1 = ru ∧ u.2.2.2.1 = goSc sc h z ∧ u.2.2.2.2.1 = goMp mp z ∧ u.2.2.2.2.2.1 = min 8 (r4 + 1) ∧ u.2.2.2.2.2.2 = pushZ f4 r4 h (sc h) z (mp z))) ∧ (∀ j : Int, 0 ≤ u.2.2.2.1 j ∧ u.2.2.2.1 j ≤ 99) ∧ (∀ j : Int, (-1) ≤ u.2.2.2.2.1 j ∧ u.2.2.2.2.1 j ≤ 2) ∧ (∀ j : Int, (-1) ≤ u.2.2.2.2.2.2 j ∧ u.2.2.2.2.2.2 j ≤ 99)) (fun (u : (Int) × (Int) × (Int) × (Int → Int) × (Int → Int) × (Int) × (Int → Int)) => [wV cy b q p x e cr t0 ab be u.1 u.2.1 u.2.2.1, wI cy q S M sk u.2.2.2.1 mk ms u.2.2.2.2.1, wF cy (q 12) (q 13) 32 8 u.2.2.2.2.2.1 u.2.2.2.2.2.2]) := by
  refine CTi.of RX7 cX7_calls 3 rfl (by decide) rfl (fun z u hz => rfl) (Nat.le_of_ble_eq_true rfl) ?_
  intro p_ e_ s_ m_ ar_ be_ me_ c_ Q_ A_ ls_ F_ K_ W_ hl hret
  have hl : lv_has ls_ 3 [(0, .ref (b 0)), (1, .int (zi h))] := hl
  obtain ⟨H_, hH_⟩ : ∃ x, x = s_.heap := ⟨_, rfl⟩
  obtain ⟨lo_, hlo_⟩ : ∃ x : List Loc, x = [] := ⟨_, rfl⟩
  have W_ : WD D A_ s_.heap ([wV cy b q p x e cr t0 ab be rb rn ru, wI cy q S M sk sc mk ms mp, wF cy (q 12) (q 13) 32 8 r4 f4]) H_ lo_ := by rw [hH_, hlo_]; exact W_
  rw [← hlo_]
  suffices hg_ : W p_ l_ e_ rX7_calls s_ m_ ar_ be_ me_ c_ H_ lo_ 0 0 Q_ (F0 m_ 0 ls_ []) by rw [hH_] at hg_; exact hg_
  clear hH_ hlo_
  have hinX7 : ∀ w ∈ u_ws RX7 TX7 13, w ∈ wsX7_calls := fun w h => List.mem_cons_of_mem _ (List.mem_append_left _ (List.mem_append_left _ (List.mem_append_right _ h)))
  refine lv_aload_n F_.1 F_.2.1 dX7_calls_0 rfl (lv_at hl 0 rfl) ?_
  refine z_get F_ K_ W_ 0 0 0 rfl rfl rfl (C := RX7) (T := TX7) (N := 13) rfl (by decide) hinX7 (List.mem_of_getElem? (i := 1) rfl) dX7_calls_1 ?_
  refine lv_iload_n F_.1 F_.2.1 dX7_calls_4 rfl (lv_at hl 1 rfl) ?_
  refine z_callVip F_ K_ W_ [.int (zi h)] (c_X4_hasShip l_ D cy q S M sk sc mk ms mp h (by omega) (by omega) bsk bsc bmk bms bmp (by first | omega | assumption)) 1 rfl gX7_calls_X4_hasShip rfl (by decide +kernel) ⟨⟨Nat.le_of_ble_eq_true rfl, Nat.le_of_ble_eq_true rfl⟩, rfl, rfl, Nat.zero_le _, Nat.zero_le _⟩ 0 0 4 rfl rfl rfl rfl hl.1 rfl (Nat.le_of_ble_eq_true rfl) [1] [0, 2] [wV cy b q p x e cr t0 ab be rb rn ru, wF cy (q 12) (q 13) 32 8 r4 f4] 3 (by decide +kernel) rfl rfl rfl dX7_calls_5 (fun z_1 _ H_ lo_ hw_ W_ => ?_)
  replace hw_ : ((z_1 = 1 ∧ (0 ≤ h ∧ h < S)) ∨ (z_1 = 0 ∧ ¬ (0 ≤ h ∧ h < S))) := hw_
  have f5_v := hw_
  clear hw_
  refine z_if_ne (tgt := 18) F_ (by omega) dX7_calls_8 (by decide) (fun c8 => ?_) (fun c8 => ?_)
  · refine lv_aload_n F_.1 F_.2.1 dX7_calls_18 rfl (lv_at hl 0 rfl) ?_
    refine z_get F_ K_ W_ 0 0 0 rfl rfl rfl (C := RX7) (T := TX7) (N := 13) rfl (by decide) hinX7 (List.mem_of_getElem? (i := 1) rfl) dX7_calls_19 ?_
    refine lv_iload_n F_.1 F_.2.1 dX7_calls_22 rfl (lv_at hl 1 rfl) ?_
    refine z_callVip F_ K_ W_ [.int (zi h)] (c_X4_leastLiked l_ D cy q S M sk sc mk ms mp h (by omega) (by omega) bsk bsc bmk bms bmp (by first | omega | assumption)) 1 rfl gX7_calls_X4_leastLiked rfl (by decide +kernel) ⟨⟨Nat.le_of_ble_eq_true rfl, Nat.le_of_ble_eq_true rfl⟩, rfl, rfl, Nat.zero_le _, Nat.zero_le _⟩ 0 0 4 rfl rfl rfl rfl hl.1 rfl (Nat.le_of_ble_eq_true rfl) [1] [0, 2] [wV cy b q p x e cr t0 ab be rb rn ru, wF cy (q 12) (q 13) 32 8 r4 f4] 3 (by decide +kernel) rfl rfl rfl dX7_calls_23 (fun z_2 _ H_ lo_ hw_ W_ => ?_)
    replace hw_ : (z_2 = lstI S M sc mk ms mp h) := hw_
    have f23_v := hw_
    clear hw_
    have hlb := lstI_b (S := S) (M := M) sc mk ms mp h (by omega)
    rw [← f23_v] at hlb
    refine lv_istore_n (lv' := [(2, .int (zi z_2)), (0, .ref (b 0)), (1, .int (zi h))]) F_.1 F_.2.1 dX7_calls_26 rfl hl (by decide) rfl (fun ls_ hl => ?_)
    refine lv_iload_n F_.1 F_.2.1 dX7_calls_27 rfl (lv_at hl 0 rfl) ?_
    refine z_iconst F_ dX7_calls_28 ?_
    refine z_icmp_ne (tgt := 39) F_ (by omega) dX7_calls_29 (by decide) (fun c29 => ?_) (fun c29 => ?_)
    · refine lv_aload_n F_.1 F_.2.1 dX7_calls_39 rfl (lv_at hl 1 rfl) ?_
      refine z_get F_ K_ W_ 0 0 0 rfl rfl rfl (C := RX7) (T := TX7) (N := 13) rfl (by decide) hinX7 (List.mem_of_getElem? (i := 1) rfl) dX7_calls_40 ?_
      refine lv_iload_n F_.1 F_.2.1 dX7_calls_43 rfl (lv_at hl 2 rfl) ?_
      refine lv_iload_n F_.1 F_.2.1 dX7_calls_44 rfl (lv_at hl 0 rfl) ?_
      refine z_callVv F_ K_ W_ [.int (zi h), .int (zi z_2)] (c_X4_remember l_ D cy q S M sk sc mk ms mp r4 f4 h z_2 (by omega) (by omega) bsk bsc bmk bms bmp bf4 (by first | omega | assumption) (by first | omega | assumption) (by first | omega | assumption) (by first | omega | assumption) (by first | omega | assumption)) 2 rfl gX7_calls_X4_remember rfl (by decide +kernel) ⟨⟨Nat.le_of_ble_eq_true rfl, Nat.le_of_ble_eq_true rfl⟩, rfl, rfl, Nat.zero_le _, Nat.zero_le _⟩ 0 0 4 rfl rfl rfl rfl hl.1 rfl (Nat.le_of_ble_eq_true rfl) [1, 2] [0] [wV cy b q p x e cr t0 ab be rb rn ru] (fun (u_ : (Int → Int) × (Int)) => [wV cy b q p x e cr t0 ab be rb rn ru, wI cy q S M sk sc mk ms mp, wF cy (q 12) (q 13) 32 8 u_.2 u_.1]) 3 (by decide +kernel) rfl rfl rfl (fun _ => rfl) (fun _ => rfl) (fun _ => rfl) dX7_calls_45 (fun u_ H_ lo_ hw_ W_ => ?_)
      obtain ⟨g_4, r_5⟩ := u_
      have W_ : WD D A_ s_.heap ([wV cy b q p x e cr t0 ab be rb rn ru, wI cy q S M sk sc mk ms mp, wF cy (q 12) (q 13) 32 8 r_5 g_4]) H_ lo_ := W_
      replace hw_ : (g_4 = pushZ f4 r4 h (sc h) z_2 (mp z_2)) ∧ (r_5 = min 8 (r4 + 1)) ∧ (∀ j : Int, (-1) ≤ g_4 j ∧ g_4 j ≤ 99) := hw_
      obtain ⟨f45_f, f45_r, f45_B_F4_f⟩ := hw_
      refine lv_aload_n F_.1 F_.2.1 dX7_calls_48 rfl (lv_at hl 1 rfl) ?_
      refine z_get F_ K_ W_ 0 0 0 rfl rfl rfl (C := RX7) (T := TX7) (N := 13) rfl (by decide) hinX7 (List.mem_of_getElem? (i := 1) rfl) dX7_calls_49 ?_
      refine lv_iload_n F_.1 F_.2.1 dX7_calls_52 rfl (lv_at hl 2 rfl) ?_
      refine z_callVi F_ K_ W_ [.int (zi h)] (c_X4_leaveOne l_ D cy q S M sk sc mk ms mp h (by omega) (by omega) bsk bsc bmk bms bmp (by first | omega | assumption)) 1 rfl gX7_calls_X4_leaveOne rfl (by decide +kernel) ⟨⟨Nat.le_of_ble_eq_true rfl, Nat.le_of_ble_eq_true rfl⟩, rfl, rfl, Nat.zero_le _, Nat.zero_le _⟩ 0 0 4 rfl rfl rfl rfl hl.1 rfl (Nat.le_of_ble_eq_true rfl) [1] [0, 2] [wV cy b q p x e cr t0 ab be rb rn ru, wF cy (q 12) (q 13) 32 8 r_5 g_4] (fun (u_ : (Int → Int) × (Int → Int)) => [wV cy b q p x e cr t0 ab be rb rn ru, wI cy q S M sk u_.1 mk ms u_.2, wF cy (q 12) (q 13) 32 8 r_5 g_4]) 3 (by decide +kernel) rfl rfl rfl (fun _ => rfl) (fun _ => rfl) (fun _ => rfl) dX7_calls_53 (fun z_6 u_ H_ lo_ hw_ W_ => ?_)
      obtain ⟨sc2_7, mp2_8⟩ := u_
      have W_ : WD D A_ s_.heap ([wV cy b q p x e cr t0 ab be rb rn ru, wI cy q S M sk sc2_7 mk ms mp2_8, wF cy (q 12) (q 13) 32 8 r_5 g_4]) H_ lo_ := W_
      replace hw_ : (z_6 = lstI S M sc mk ms mp h) ∧ (mp2_8 = goMp mp z_6) ∧ (sc2_7 = goSc sc h z_6) ∧ (∀ j : Int, 0 ≤ sc2_7 j ∧ sc2_7 j ≤ 99) ∧ (∀ j : Int, (-1) ≤ mp2_8 j ∧ mp2_8 j ≤ 2) := hw_
      obtain ⟨f53_v, f53_p, f53_c, f53_B_I_sc, f53_B_I_mp⟩ := hw_
      have e53_ : z_6 = z_2 := by rw [f53_v, f23_v]
      rw [← e53_] at f45_f
      exact hret _ _ _ _ z_6 (rb, rn, ru, sc2_7, mp2_8, r_5, g_4) dX7_calls_56 ⟨(by (try dsimp only) <;> (first | (refine Or.inl (⟨?_, ?_, ?_, ?_, ?_, ?_, ?_, ?_, ?_⟩) <;> (first | omega | rfl | assumption)) | (refine Or.inr (Or.inl (⟨?_, ?_, ?_, ?_, ?_, ?_, ?_, ?_, ?_, ?_⟩)) <;> (first | omega | rfl | assumption)) | (refine Or.inr (Or.inr (⟨?_, ?_, ?_, ?_, ?_, ?_, ?_, ?_, ?_, ?_⟩)) <;> (first | omega | rfl | assumption)))), f53_B_I_sc, f53_B_I_mp, f45_B_F4_f⟩ W_
    · refine lv_aload_n F_.1 F_.2.1 dX7_calls_32 rfl (lv_at hl 1 rfl) ?_
      refine z_bipush F_ (by decide) dX7_calls_33 ?_
      refine z_callVi F_ K_ W_ [.int (zi (-3))] (c_X7_refuse l_ D cy b q p x e cr t0 ab be rb rn ru (-3) (by first | omega | assumption)) 1 rfl gX7_calls_X7_refuse rfl (by decide +kernel) ⟨⟨Nat.le_of_ble_eq_true rfl, Nat.le_of_ble_eq_true rfl⟩, rfl, rfl, Nat.zero_le _, Nat.zero_le _⟩ 0 0 6 rfl rfl rfl rfl hl.1 rfl (Nat.le_of_ble_eq_true rfl) [0] [1, 2] [wI cy q S M sk sc mk ms mp, wF cy (q 12) (q 13) 32 8 r4 f4] (fun (u_ : (Int) × (Int) × (Int)) => [wV cy b q p x e cr t0 ab be u_.1 u_.2.1 u_.2.2, wI cy q S M sk sc mk ms mp, wF cy (q 12) (q 13) 32 8 r4 f4]) 3 (by decide +kernel) rfl rfl rfl (fun _ => rfl) (fun _ => rfl) (fun _ => rfl) dX7_calls_35 (fun z_9 u_ H_ lo_ hw_ W_ => ?_)
      obtain ⟨rb2_10, rn2_11, ru2_12⟩ := u_
      have W_ : WD D A_ s_.heap ([wV cy b q p x e cr t0 ab be rb2_10 rn2_11 ru2_12, wI cy q S M sk sc mk ms mp, wF cy (q 12) (q 13) 32 8 r4 f4]) H_ lo_ := W_
      replace hw_ : (z_9 = (-3)) ∧ (((-3) = -2 ∧ rb2_10 = rb + 1 ∧ rn2_11 = rn ∧ ru2_12 = ru) ∨ ((-3) = -3 ∧ rb2_10 = rb ∧ rn2_11 = rn + 1 ∧ ru2_12 = ru) ∨ (¬ (-3) = -2 ∧ ¬ (-3) = -3 ∧ rb2_10 = rb ∧ rn2_11 = rn ∧ ru2_12 = ru + 1)) := hw_
      obtain ⟨f35_v, f35_k⟩ := hw_
      exact hret _ _ _ _ z_9 (rb2_10, rn2_11, ru2_12, sc, mp, r4, f4) dX7_calls_38 ⟨(by (try dsimp only) <;> (first | (refine Or.inl (⟨?_, ?_, ?_, ?_, ?_, ?_, ?_, ?_, ?_⟩) <;> (first | omega | rfl | assumption)) | (refine Or.inr (Or.inl (⟨?_, ?_, ?_, ?_, ?_, ?_, ?_, ?_, ?_, ?_⟩)) <;> (first | omega | rfl | assumption)) | (refine Or.inr (Or.inr (⟨?_, ?_, ?_, ?_, ?_, ?_, ?_, ?_, ?_, ?_⟩)) <;> (first | omega | rfl | assumption)))), bsc, bmp, bf4⟩ W_
  · refine lv_aload_n F_.1 F_.2.1 dX7_calls_11 rfl (lv_at hl 0 rfl) ?_
    refine z_bipush F_ (by decide) dX7_calls_12 ?_
    refine z_callVi F_ K_ W_ [.int (zi (-2))] (c_X7_refuse l_ D cy b q p x e cr t0 ab be rb rn ru (-2) (by first | omega | assumption)) 1 rfl gX7_calls_X7_refuse rfl (by decide +kernel) ⟨⟨Nat.le_of_ble_eq_true rfl, Nat.le_of_ble_eq_true rfl⟩, rfl, rfl, Nat.zero_le _, Nat.zero_le _⟩ 0 0 6 rfl rfl rfl rfl hl.1 rfl (Nat.le_of_ble_eq_true rfl) [0] [1, 2] [wI cy q S M sk sc mk ms mp, wF cy (q 12) (q 13) 32 8 r4 f4] (fun (u_ : (Int) × (Int) × (Int)) => [wV cy b q p x e cr t0 ab be u_.1 u_.2.1 u_.2.2, wI cy q S M sk sc mk ms mp, wF cy (q 12) (q 13) 32 8 r4 f4]) 3 (by decide +kernel) rfl rfl rfl (fun _ => rfl) (fun _ => rfl) (fun _ => rfl) dX7_calls_14 (fun z_13 u_ H_ lo_ hw_ W_ => ?_)
    obtain ⟨rb2_14, rn2_15, ru2_16⟩ := u_
    have W_ : WD D A_ s_.heap ([wV cy b q p x e cr t0 ab be rb2_14 rn2_15 ru2_16, wI cy q S M sk sc mk ms mp, wF cy (q 12) (q 13) 32 8 r4 f4]) H_ lo_ := W_
    replace hw_ : (z_13 = (-2)) ∧ (((-2) = -2 ∧ rb2_14 = rb + 1 ∧ rn2_15 = rn ∧ ru2_16 = ru) ∨ ((-2) = -3 ∧ rb2_14 = rb ∧ rn2_15 = rn + 1 ∧ ru2_16 = ru) ∨ (¬ (-2) = -2 ∧ ¬ (-2) = -3 ∧ rb2_14 = rb ∧ rn2_15 = rn ∧ ru2_16 = ru + 1)) := hw_
    obtain ⟨f14_v, f14_k⟩ := hw_
    exact hret _ _ _ _ z_13 (rb2_14, rn2_15, ru2_16, sc, mp, r4, f4) dX7_calls_17 ⟨(by (try dsimp only) <;> (first | (refine Or.inl (⟨?_, ?_, ?_, ?_, ?_, ?_, ?_, ?_, ?_⟩) <;> (first | omega | rfl | assumption)) | (refine Or.inr (Or.inl (⟨?_, ?_, ?_, ?_, ?_, ?_, ?_, ?_, ?_, ?_⟩)) <;> (first | omega | rfl | assumption)) | (refine Or.inr (Or.inr (⟨?_, ?_, ?_, ?_, ?_, ?_, ?_, ?_, ?_, ?_⟩)) <;> (first | omega | rfl | assumption)))), bsc, bmp, bf4⟩ W_
abbrev rX7_boards : Room := { frames := 3, cells := 0, slots := 0, locals := 67 }
set_option maxHeartbeats 1000000 in
set_option maxRecDepth 100000 in
theorem c_X7_boards (l_ : Launch) (D : va_G) (cy : Nat → ClassId) (b : Nat → Nat) (q : Nat → Nat) (p : Nat → Nat) (x : Nat → Nat) (e : Nat → Nat) (cr : Nat → Nat) (t0 : Nat) (ab : Int) (be : Int) (rb : Int) (rn : Int) (ru : Int) (S : Int) (M : Int) (sk : Int → Int) (sc : Int → Int) (mk : Int → Int) (ms : Int → Int) (mp : Int → Int) (r4 : Int) (f4 : Int → Int) (h : Int) (i : Int) (bS : 0 ≤ S ∧ S ≤ 3) (bM : 0 ≤ M ∧ M ≤ 8) (bsk : ∀ j : Int, 0 ≤ sk j ∧ sk j ≤ 5) (bsc : ∀ j : Int, 0 ≤ sc j ∧ sc j ≤ 99) (bmk : ∀ j : Int, 0 ≤ mk j ∧ mk j ≤ 5) (bms : ∀ j : Int, 0 ≤ ms j ∧ ms j ≤ 9) (bmp : ∀ j : Int, (-1) ≤ mp j ∧ mp j ≤ 2) (bf4 : ∀ j : Int, (-1) ≤ f4 j ∧ f4 j ≤ 99) (rh : -2147483648 ≤ h ∧ h < 2147483648) (ri : -2147483648 ≤ i ∧ i < 2147483648) (hr4 : 0 ≤ r4 ∧ r4 ≤ 8) : CTi l_ D cy yX7_boards wsX7_boards rX7_boards [.ref (b 0), .int (zi h), .int (zi i)] ([wV cy b q p x e cr t0 ab be rb rn ru, wI cy q S M sk sc mk ms mp, wF cy (q 12) (q 13) 32 8 r4 f4]) (fun (z : Int) (u : (Int) × (Int) × (Int) × (Int → Int) × (Int) × (Int → Int)) => ((¬ ((0 ≤ h ∧ h < S) ∧ (0 ≤ i ∧ i < M)) ∧ z = -2 ∧ u.1 = rb + 1 ∧ u.2.1 = rn ∧ u.2.2.1 = ru ∧ u.2.2.2.1 = mp ∧ u.2.2.2.2.1 = r4 ∧ u.2.2.2.2.2 = f4) ∨ (((0 ≤ h ∧ h < S) ∧ (0 ≤ i ∧ i < M)) ∧ ¬ mp i = -1 ∧ z = -3 ∧ u.1 = rb ∧ u.2.1 = rn + 1 ∧ u.2.2.1 = ru ∧ u.2.2.2.1 = mp ∧ u.2.2.2.2.1 = r4 ∧ u.2.2.2.2.2 = f4) ∨ (((0 ≤ h ∧ h < S) ∧ (0 ≤ i ∧ i < M)) ∧ mp i = -1 ∧ z = cntZ u.2.2.2.1 h M ∧ u.1 = rb ∧ u.2.1 = rn ∧ u.2.2.1 = ru ∧ u.2.2.2.1 = zu mp i h ∧ u.2.2.2.2.1 = min 8 (r4 + 1) ∧ u.2.2.2.2.2 = pushZ f4 r4 h (sc h) i (mp i))) ∧ (∀ j : Int, (-1) ≤ u.2.2.2.1 j ∧ u.2.2.2.1 j ≤ 2) ∧ (∀ j : Int, (-1) ≤ u.2.2.2.2.2 j ∧ u.2.2.2.2.2 j ≤ 99)) (fun (u : (Int) × (Int) × (Int) × (Int → Int) × (Int) × (Int → Int)) => [wV cy b q p x e cr t0 ab be u.1 u.2.1 u.2.2.1, wI cy q S M sk sc mk ms u.2.2.2.1, wF cy (q 12) (q 13) 32 8 u.2.2.2.2.1 u.2.2.2.2.2]) := by
  refine CTi.of RX7 cX7_boards 3 rfl (by decide) rfl (fun z u hz => rfl) (Nat.le_of_ble_eq_true rfl) ?_
  intro p_ e_ s_ m_ ar_ be_ me_ c_ Q_ A_ ls_ F_ K_ W_ hl hret
  have hl : lv_has ls_ 3 [(0, .ref (b 0)), (1, .int (zi h)), (2, .int (zi i))] := hl
  obtain ⟨H_, hH_⟩ : ∃ x, x = s_.heap := ⟨_, rfl⟩
  obtain ⟨lo_, hlo_⟩ : ∃ x : List Loc, x = [] := ⟨_, rfl⟩
  have W_ : WD D A_ s_.heap ([wV cy b q p x e cr t0 ab be rb rn ru, wI cy q S M sk sc mk ms mp, wF cy (q 12) (q 13) 32 8 r4 f4]) H_ lo_ := by rw [hH_, hlo_]; exact W_
  rw [← hlo_]
  suffices hg_ : W p_ l_ e_ rX7_boards s_ m_ ar_ be_ me_ c_ H_ lo_ 0 0 Q_ (F0 m_ 0 ls_ []) by rw [hH_] at hg_; exact hg_
  clear hH_ hlo_
  have hinX4 : ∀ w ∈ u_ws RX4 TX4 11, w ∈ wsX7_boards := fun w h => List.mem_cons_of_mem _ (List.mem_append_left _ (List.mem_append_right _ h))
  have hinX7 : ∀ w ∈ u_ws RX7 TX7 13, w ∈ wsX7_boards := fun w h => List.mem_cons_of_mem _ (List.mem_append_left _ (List.mem_append_left _ (List.mem_append_right _ h)))
  refine lv_aload_n F_.1 F_.2.1 dX7_boards_0 rfl (lv_at hl 0 rfl) ?_
  refine z_get F_ K_ W_ 0 0 0 rfl rfl rfl (C := RX7) (T := TX7) (N := 13) rfl (by decide) hinX7 (List.mem_of_getElem? (i := 1) rfl) dX7_boards_1 ?_
  refine lv_iload_n F_.1 F_.2.1 dX7_boards_4 rfl (lv_at hl 1 rfl) ?_
  refine z_callVip F_ K_ W_ [.int (zi h)] (c_X4_hasShip l_ D cy q S M sk sc mk ms mp h (by omega) (by omega) bsk bsc bmk bms bmp (by first | omega | assumption)) 1 rfl gX7_boards_X4_hasShip rfl (by decide +kernel) ⟨⟨Nat.le_of_ble_eq_true rfl, Nat.le_of_ble_eq_true rfl⟩, rfl, rfl, Nat.zero_le _, Nat.zero_le _⟩ 0 0 4 rfl rfl rfl rfl hl.1 rfl (Nat.le_of_ble_eq_true rfl) [1] [0, 2] [wV cy b q p x e cr t0 ab be rb rn ru, wF cy (q 12) (q 13) 32 8 r4 f4] 3 (by decide +kernel) rfl rfl rfl dX7_boards_5 (fun z_1 _ H_ lo_ hw_ W_ => ?_)
  replace hw_ : ((z_1 = 1 ∧ (0 ≤ h ∧ h < S)) ∨ (z_1 = 0 ∧ ¬ (0 ≤ h ∧ h < S))) := hw_
  have f5_v := hw_
  clear hw_
  refine z_if_eq (tgt := 22) F_ (by omega) dX7_boards_8 (by decide) (fun c8 => ?_) (fun c8 => ?_)
  · refine lv_aload_n F_.1 F_.2.1 dX7_boards_22 rfl (lv_at hl 0 rfl) ?_
    refine z_bipush F_ (by decide) dX7_boards_23 ?_
    refine z_callVi F_ K_ W_ [.int (zi (-2))] (c_X7_refuse l_ D cy b q p x e cr t0 ab be rb rn ru (-2) (by first | omega | assumption)) 1 rfl gX7_boards_X7_refuse rfl (by decide +kernel) ⟨⟨Nat.le_of_ble_eq_true rfl, Nat.le_of_ble_eq_true rfl⟩, rfl, rfl, Nat.zero_le _, Nat.zero_le _⟩ 0 0 6 rfl rfl rfl rfl hl.1 rfl (Nat.le_of_ble_eq_true rfl) [0] [1, 2] [wI cy q S M sk sc mk ms mp, wF cy (q 12) (q 13) 32 8 r4 f4] (fun (u_ : (Int) × (Int) × (Int)) => [wV cy b q p x e cr t0 ab be u_.1 u_.2.1 u_.2.2, wI cy q S M sk sc mk ms mp, wF cy (q 12) (q 13) 32 8 r4 f4]) 3 (by decide +kernel) rfl rfl rfl (fun _ => rfl) (fun _ => rfl) (fun _ => rfl) dX7_boards_25 (fun z_2 u_ H_ lo_ hw_ W_ => ?_)
    obtain ⟨rb2_3, rn2_4, ru2_5⟩ := u_
    have W_ : WD D A_ s_.heap ([wV cy b q p x e cr t0 ab be rb2_3 rn2_4 ru2_5, wI cy q S M sk sc mk ms mp, wF cy (q 12) (q 13) 32 8 r4 f4]) H_ lo_ := W_
    replace hw_ : (z_2 = (-2)) ∧ (((-2) = -2 ∧ rb2_3 = rb + 1 ∧ rn2_4 = rn ∧ ru2_5 = ru) ∨ ((-2) = -3 ∧ rb2_3 = rb ∧ rn2_4 = rn + 1 ∧ ru2_5 = ru) ∨ (¬ (-2) = -2 ∧ ¬ (-2) = -3 ∧ rb2_3 = rb ∧ rn2_4 = rn ∧ ru2_5 = ru + 1)) := hw_
    obtain ⟨f25_v, f25_k⟩ := hw_
    exact hret _ _ _ _ z_2 (rb2_3, rn2_4, ru2_5, mp, r4, f4) dX7_boards_28 ⟨(by (try dsimp only) <;> (first | (refine Or.inl (⟨?_, ?_, ?_, ?_, ?_, ?_, ?_, ?_⟩) <;> (first | omega | rfl | assumption)) | (refine Or.inr (Or.inl (⟨?_, ?_, ?_, ?_, ?_, ?_, ?_, ?_, ?_⟩)) <;> (first | omega | rfl | assumption)) | (refine Or.inr (Or.inr (⟨?_, ?_, ?_, ?_, ?_, ?_, ?_, ?_, ?_⟩)) <;> (first | omega | rfl | assumption)))), bmp, bf4⟩ W_
  · refine lv_aload_n F_.1 F_.2.1 dX7_boards_11 rfl (lv_at hl 0 rfl) ?_
    refine z_get F_ K_ W_ 0 0 0 rfl rfl rfl (C := RX7) (T := TX7) (N := 13) rfl (by decide) hinX7 (List.mem_of_getElem? (i := 1) rfl) dX7_boards_12 ?_
    refine lv_iload_n F_.1 F_.2.1 dX7_boards_15 rfl (lv_at hl 2 rfl) ?_
    refine z_callVip F_ K_ W_ [.int (zi i)] (c_X4_hasMan l_ D cy q S M sk sc mk ms mp i (by omega) (by omega) bsk bsc bmk bms bmp (by first | omega | assumption)) 1 rfl gX7_boards_X4_hasMan rfl (by decide +kernel) ⟨⟨Nat.le_of_ble_eq_true rfl, Nat.le_of_ble_eq_true rfl⟩, rfl, rfl, Nat.zero_le _, Nat.zero_le _⟩ 0 0 4 rfl rfl rfl rfl hl.1 rfl (Nat.le_of_ble_eq_true rfl) [1] [0, 2] [wV cy b q p x e cr t0 ab be rb rn ru, wF cy (q 12) (q 13) 32 8 r4 f4] 3 (by decide +kernel) rfl rfl rfl dX7_boards_16 (fun z_6 _ H_ lo_ hw_ W_ => ?_)
    replace hw_ : ((z_6 = 1 ∧ (0 ≤ i ∧ i < M)) ∨ (z_6 = 0 ∧ ¬ (0 ≤ i ∧ i < M))) := hw_
    have f16_v := hw_
    clear hw_
    refine z_if_ne (tgt := 29) F_ (by omega) dX7_boards_19 (by decide) (fun c19 => ?_) (fun c19 => ?_)
    · refine lv_aload_n F_.1 F_.2.1 dX7_boards_29 rfl (lv_at hl 0 rfl) ?_
      refine z_get F_ K_ W_ 0 0 0 rfl rfl rfl (C := RX7) (T := TX7) (N := 13) rfl (by decide) hinX7 (List.mem_of_getElem? (i := 1) rfl) dX7_boards_30 ?_
      refine z_get F_ K_ W_ 1 0 6 rfl rfl rfl (C := RX4) (T := TX4) (N := 11) rfl (by decide) hinX4 (List.mem_of_getElem? (i := 2) rfl) dX7_boards_33 ?_
      refine lv_iload_n F_.1 F_.2.1 dX7_boards_36 rfl (lv_at hl 2 rfl) ?_
      refine z_iald F_ K_ W_ 1 5 rfl rfl (by omega) (by decide) dX7_boards_37 ?_
      have b_7 := bmp i
      refine z_iconst F_ dX7_boards_38 ?_
      refine z_icmp_eq (tgt := 49) F_ (by omega) dX7_boards_39 (by decide) (fun c39 => ?_) (fun c39 => ?_)
      · refine lv_aload_n F_.1 F_.2.1 dX7_boards_49 rfl (lv_at hl 0 rfl) ?_
        refine z_get F_ K_ W_ 0 0 0 rfl rfl rfl (C := RX7) (T := TX7) (N := 13) rfl (by decide) hinX7 (List.mem_of_getElem? (i := 1) rfl) dX7_boards_50 ?_
        refine lv_iload_n F_.1 F_.2.1 dX7_boards_53 rfl (lv_at hl 1 rfl) ?_
        refine lv_iload_n F_.1 F_.2.1 dX7_boards_54 rfl (lv_at hl 2 rfl) ?_
        refine z_callVv F_ K_ W_ [.int (zi h), .int (zi i)] (c_X4_remember l_ D cy q S M sk sc mk ms mp r4 f4 h i (by omega) (by omega) bsk bsc bmk bms bmp bf4 (by first | omega | assumption) (by first | omega | assumption) (by first | omega | assumption) (by first | omega | assumption) (by first | omega | assumption)) 2 rfl gX7_boards_X4_remember rfl (by decide +kernel) ⟨⟨Nat.le_of_ble_eq_true rfl, Nat.le_of_ble_eq_true rfl⟩, rfl, rfl, Nat.zero_le _, Nat.zero_le _⟩ 0 0 4 rfl rfl rfl rfl hl.1 rfl (Nat.le_of_ble_eq_true rfl) [1, 2] [0] [wV cy b q p x e cr t0 ab be rb rn ru] (fun (u_ : (Int → Int) × (Int)) => [wV cy b q p x e cr t0 ab be rb rn ru, wI cy q S M sk sc mk ms mp, wF cy (q 12) (q 13) 32 8 u_.2 u_.1]) 3 (by decide +kernel) rfl rfl rfl (fun _ => rfl) (fun _ => rfl) (fun _ => rfl) dX7_boards_55 (fun u_ H_ lo_ hw_ W_ => ?_)
        obtain ⟨g_9, r_10⟩ := u_
        have W_ : WD D A_ s_.heap ([wV cy b q p x e cr t0 ab be rb rn ru, wI cy q S M sk sc mk ms mp, wF cy (q 12) (q 13) 32 8 r_10 g_9]) H_ lo_ := W_
        replace hw_ : (g_9 = pushZ f4 r4 h (sc h) i (mp i)) ∧ (r_10 = min 8 (r4 + 1)) ∧ (∀ j : Int, (-1) ≤ g_9 j ∧ g_9 j ≤ 99) := hw_
        obtain ⟨f55_f, f55_r, f55_B_F4_f⟩ := hw_
        refine lv_aload_n F_.1 F_.2.1 dX7_boards_58 rfl (lv_at hl 0 rfl) ?_
        refine z_get F_ K_ W_ 0 0 0 rfl rfl rfl (C := RX7) (T := TX7) (N := 13) rfl (by decide) hinX7 (List.mem_of_getElem? (i := 1) rfl) dX7_boards_59 ?_
        refine lv_iload_n F_.1 F_.2.1 dX7_boards_62 rfl (lv_at hl 1 rfl) ?_
        refine lv_iload_n F_.1 F_.2.1 dX7_boards_63 rfl (lv_at hl 2 rfl) ?_
        refine z_callVv F_ K_ W_ [.int (zi h), .int (zi i)] (c_X4_takeAboard l_ D cy q S M sk sc mk ms mp h i (by omega) (by omega) bsk bsc bmk bms bmp (by first | omega | assumption) (by first | omega | assumption) (by first | omega | assumption) (by first | omega | assumption)) 2 rfl gX7_boards_X4_takeAboard rfl (by decide +kernel) ⟨⟨Nat.le_of_ble_eq_true rfl, Nat.le_of_ble_eq_true rfl⟩, rfl, rfl, Nat.zero_le _, Nat.zero_le _⟩ 0 0 4 rfl rfl rfl rfl hl.1 rfl (Nat.le_of_ble_eq_true rfl) [1] [0, 2] [wV cy b q p x e cr t0 ab be rb rn ru, wF cy (q 12) (q 13) 32 8 r_10 g_9] (fun (u_ : (Int → Int)) => [wV cy b q p x e cr t0 ab be rb rn ru, wI cy q S M sk sc mk ms u_, wF cy (q 12) (q 13) 32 8 r_10 g_9]) 3 (by decide +kernel) rfl rfl rfl (fun _ => rfl) (fun _ => rfl) (fun _ => rfl) dX7_boards_64 (fun u_ H_ lo_ hw_ W_ => ?_)
        obtain ⟨mp2_12, rfl⟩ : ∃ x, x = u_ := ⟨_, rfl⟩
        have W_ : WD D A_ s_.heap ([wV cy b q p x e cr t0 ab be rb rn ru, wI cy q S M sk sc mk ms mp2_12, wF cy (q 12) (q 13) 32 8 r_10 g_9]) H_ lo_ := W_
        replace hw_ : (mp2_12 = zu mp i h) ∧ (∀ j : Int, (-1) ≤ mp2_12 j ∧ mp2_12 j ≤ 2) := hw_
        obtain ⟨f64_p, f64_B_I_mp⟩ := hw_
        refine lv_aload_n F_.1 F_.2.1 dX7_boards_67 rfl (lv_at hl 0 rfl) ?_
        refine z_get F_ K_ W_ 0 0 0 rfl rfl rfl (C := RX7) (T := TX7) (N := 13) rfl (by decide) hinX7 (List.mem_of_getElem? (i := 1) rfl) dX7_boards_68 ?_
        refine lv_iload_n F_.1 F_.2.1 dX7_boards_71 rfl (lv_at hl 1 rfl) ?_
        refine z_callVip F_ K_ W_ [.int (zi h)] (c_X4_menAt l_ D cy q S M sk sc mk ms mp2_12 h (by omega) (by omega) bsk bsc bmk bms f64_B_I_mp (by first | omega | assumption)) 1 rfl gX7_boards_X4_menAt rfl (by decide +kernel) ⟨⟨Nat.le_of_ble_eq_true rfl, Nat.le_of_ble_eq_true rfl⟩, rfl, rfl, Nat.zero_le _, Nat.zero_le _⟩ 0 0 4 rfl rfl rfl rfl hl.1 rfl (Nat.le_of_ble_eq_true rfl) [1] [0, 2] [wV cy b q p x e cr t0 ab be rb rn ru, wF cy (q 12) (q 13) 32 8 r_10 g_9] 3 (by decide +kernel) rfl rfl rfl dX7_boards_72 (fun z_13 _ H_ lo_ hw_ W_ => ?_)
        replace hw_ : (z_13 = cntZ mp2_12 h M) := hw_
        have f72_v := hw_
        clear hw_
        exact hret _ _ _ _ z_13 (rb, rn, ru, mp2_12, r_10, g_9) dX7_boards_75 ⟨(by (try dsimp only) <;> (first | (refine Or.inl (⟨?_, ?_, ?_, ?_, ?_, ?_, ?_, ?_⟩) <;> (first | omega | rfl | assumption)) | (refine Or.inr (Or.inl (⟨?_, ?_, ?_, ?_, ?_, ?_, ?_, ?_, ?_⟩)) <;> (first | omega | rfl | assumption)) | (refine Or.inr (Or.inr (⟨?_, ?_, ?_, ?_, ?_, ?_, ?_, ?_, ?_⟩)) <;> (first | omega | rfl | assumption)))), f64_B_I_mp, f55_B_F4_f⟩ W_
      · refine lv_aload_n F_.1 F_.2.1 dX7_boards_42 rfl (lv_at hl 0 rfl) ?_
        refine z_bipush F_ (by decide) dX7_boards_43 ?_
        refine z_callVi F_ K_ W_ [.int (zi (-3))] (c_X7_refuse l_ D cy b q p x e cr t0 ab be rb rn ru (-3) (by first | omega | assumption)) 1 rfl gX7_boards_X7_refuse rfl (by decide +kernel) ⟨⟨Nat.le_of_ble_eq_true rfl, Nat.le_of_ble_eq_true rfl⟩, rfl, rfl, Nat.zero_le _, Nat.zero_le _⟩ 0 0 6 rfl rfl rfl rfl hl.1 rfl (Nat.le_of_ble_eq_true rfl) [0] [1, 2] [wI cy q S M sk sc mk ms mp, wF cy (q 12) (q 13) 32 8 r4 f4] (fun (u_ : (Int) × (Int) × (Int)) => [wV cy b q p x e cr t0 ab be u_.1 u_.2.1 u_.2.2, wI cy q S M sk sc mk ms mp, wF cy (q 12) (q 13) 32 8 r4 f4]) 3 (by decide +kernel) rfl rfl rfl (fun _ => rfl) (fun _ => rfl) (fun _ => rfl) dX7_boards_45 (fun z_14 u_ H_ lo_ hw_ W_ => ?_)
        obtain ⟨rb2_15, rn2_16, ru2_17⟩ := u_
        have W_ : WD D A_ s_.heap ([wV cy b q p x e cr t0 ab be rb2_15 rn2_16 ru2_17, wI cy q S M sk sc mk ms mp, wF cy (q 12) (q 13) 32 8 r4 f4]) H_ lo_ := W_
        replace hw_ : (z_14 = (-3)) ∧ (((-3) = -2 ∧ rb2_15 = rb + 1 ∧ rn2_16 = rn ∧ ru2_17 = ru) ∨ ((-3) = -3 ∧ rb2_15 = rb ∧ rn2_16 = rn + 1 ∧ ru2_17 = ru) ∨ (¬ (-3) = -2 ∧ ¬ (-3) = -3 ∧ rb2_15 = rb ∧ rn2_16 = rn ∧ ru2_17 = ru + 1)) := hw_
        obtain ⟨f45_v, f45_k⟩ := hw_
        exact hret _ _ _ _ z_14 (rb2_15, rn2_16, ru2_17, mp, r4, f4) dX7_boards_48 ⟨(by (try dsimp only) <;> (first | (refine Or.inl (⟨?_, ?_, ?_, ?_, ?_, ?_, ?_, ?_⟩) <;> (first | omega | rfl | assumption)) | (refine Or.inr (Or.inl (⟨?_, ?_, ?_, ?_, ?_, ?_, ?_, ?_, ?_⟩)) <;> (first | omega | rfl | assumption)) | (refine Or.inr (Or.inr (⟨?_, ?_, ?_, ?_, ?_, ?_, ?_, ?_, ?_⟩)) <;> (first | omega | rfl | assumption)))), bmp, bf4⟩ W_
    · refine lv_aload_n F_.1 F_.2.1 dX7_boards_22 rfl (lv_at hl 0 rfl) ?_
      refine z_bipush F_ (by decide) dX7_boards_23 ?_
      refine z_callVi F_ K_ W_ [.int (zi (-2))] (c_X7_refuse l_ D cy b q p x e cr t0 ab be rb rn ru (-2) (by first | omega | assumption)) 1 rfl gX7_boards_X7_refuse rfl (by decide +kernel) ⟨⟨Nat.le_of_ble_eq_true rfl, Nat.le_of_ble_eq_true rfl⟩, rfl, rfl, Nat.zero_le _, Nat.zero_le _⟩ 0 0 6 rfl rfl rfl rfl hl.1 rfl (Nat.le_of_ble_eq_true rfl) [0] [1, 2] [wI cy q S M sk sc mk ms mp, wF cy (q 12) (q 13) 32 8 r4 f4] (fun (u_ : (Int) × (Int) × (Int)) => [wV cy b q p x e cr t0 ab be u_.1 u_.2.1 u_.2.2, wI cy q S M sk sc mk ms mp, wF cy (q 12) (q 13) 32 8 r4 f4]) 3 (by decide +kernel) rfl rfl rfl (fun _ => rfl) (fun _ => rfl) (fun _ => rfl) dX7_boards_25 (fun z_18 u_ H_ lo_ hw_ W_ => ?_)
      obtain ⟨rb2_19, rn2_20, ru2_21⟩ := u_
      have W_ : WD D A_ s_.heap ([wV cy b q p x e cr t0 ab be rb2_19 rn2_20 ru2_21, wI cy q S M sk sc mk ms mp, wF cy (q 12) (q 13) 32 8 r4 f4]) H_ lo_ := W_
      replace hw_ : (z_18 = (-2)) ∧ (((-2) = -2 ∧ rb2_19 = rb + 1 ∧ rn2_20 = rn ∧ ru2_21 = ru) ∨ ((-2) = -3 ∧ rb2_19 = rb ∧ rn2_20 = rn + 1 ∧ ru2_21 = ru) ∨ (¬ (-2) = -2 ∧ ¬ (-2) = -3 ∧ rb2_19 = rb ∧ rn2_20 = rn ∧ ru2_21 = ru + 1)) := hw_
      obtain ⟨f25_v, f25_k⟩ := hw_
      exact hret _ _ _ _ z_18 (rb2_19, rn2_20, ru2_21, mp, r4, f4) dX7_boards_28 ⟨(by (try dsimp only) <;> (first | (refine Or.inl (⟨?_, ?_, ?_, ?_, ?_, ?_, ?_, ?_⟩) <;> (first | omega | rfl | assumption)) | (refine Or.inr (Or.inl (⟨?_, ?_, ?_, ?_, ?_, ?_, ?_, ?_, ?_⟩)) <;> (first | omega | rfl | assumption)) | (refine Or.inr (Or.inr (⟨?_, ?_, ?_, ?_, ?_, ?_, ?_, ?_, ?_⟩)) <;> (first | omega | rfl | assumption)))), bmp, bf4⟩ W_
abbrev rX7_undo : Room := { frames := 2, cells := 0, slots := 0, locals := 45 }
set_option maxHeartbeats 1000000 in
set_option maxRecDepth 100000 in
theorem c_X7_undo (l_ : Launch) (D : va_G) (cy : Nat → ClassId) (b : Nat → Nat) (q : Nat → Nat) (p : Nat → Nat) (x : Nat → Nat) (e : Nat → Nat) (cr : Nat → Nat) (t0 : Nat) (ab : Int) (be : Int) (rb : Int) (rn : Int) (ru : Int) (S : Int) (M : Int) (sk : Int → Int) (sc : Int → Int) (mk : Int → Int) (ms : Int → Int) (mp : Int → Int) (r4 : Int) (f4 : Int → Int) (bS : 0 ≤ S ∧ S ≤ 3) (bM : 0 ≤ M ∧ M ≤ 8) (bsk : ∀ j : Int, 0 ≤ sk j ∧ sk j ≤ 5) (bsc : ∀ j : Int, 0 ≤ sc j ∧ sc j ≤ 99) (bmk : ∀ j : Int, 0 ≤ mk j ∧ mk j ≤ 5) (bms : ∀ j : Int, 0 ≤ ms j ∧ ms j ≤ 9) (bmp : ∀ j : Int, (-1) ≤ mp j ∧ mp j ≤ 2) (bf4 : ∀ j : Int, (-1) ≤ f4 j ∧ f4 j ≤ 99) (hr4 : 0 ≤ r4 ∧ r4 ≤ 8) (hu : 0 < r4 → (0 ≤ f4 (4 * (r4 - 1) + 0) ∧ f4 (4 * (r4 - 1) + 0) < S) ∧ (0 ≤ f4 (4 * (r4 - 1) + 2) ∧ f4 (4 * (r4 - 1) + 2) < M) ∧ 0 ≤ f4 (4 * (r4 - 1) + 1) ∧ f4 (4 * (r4 - 1) + 3) ≤ 2) : CTi l_ D cy yX7_undo wsX7_undo rX7_undo [.ref (b 0)] ([wV cy b q p x e cr t0 ab be rb rn ru, wI cy q S M sk sc mk ms mp, wF cy (q 12) (q 13) 32 8 r4 f4]) (fun (z : Int) (u : (Int) × (Int) × (Int) × (Int → Int) × (Int → Int) × (Int)) => ((r4 = 0 ∧ z = -3 ∧ u.1 = rb ∧ u.2.1 = rn + 1 ∧ u.2.2.1 = ru ∧ u.2.2.2.1 = sc ∧ u.2.2.2.2.1 = mp ∧ u.2.2.2.2.2 = r4) ∨ (0 < r4 ∧ z = cntZ u.2.2.2.2.1 (-1) M ∧ u.1 = rb ∧ u.2.1 = rn ∧ u.2.2.1 = ru ∧ u.2.2.2.1 = zu sc (f4 (4 * (r4 - 1) + 0)) (f4 (4 * (r4 - 1) + 1)) ∧ u.2.2.2.2.1 = zu mp (f4 (4 * (r4 - 1) + 2)) (f4 (4 * (r4 - 1) + 3)) ∧ u.2.2.2.2.2 = r4 - 1)) ∧ (∀ j : Int, 0 ≤ u.2.2.2.1 j ∧ u.2.2.2.1 j ≤ 99) ∧ (∀ j : Int, (-1) ≤ u.2.2.2.2.1 j ∧ u.2.2.2.2.1 j ≤ 2)) (fun (u : (Int) × (Int) × (Int) × (Int → Int) × (Int → Int) × (Int)) => [wV cy b q p x e cr t0 ab be u.1 u.2.1 u.2.2.1, wI cy q S M sk u.2.2.2.1 mk ms u.2.2.2.2.1, wF cy (q 12) (q 13) 32 8 u.2.2.2.2.2 f4]) := by
  refine CTi.of RX7 cX7_undo 1 rfl (by decide) rfl (fun z u hz => rfl) (Nat.le_of_ble_eq_true rfl) ?_
  intro p_ e_ s_ m_ ar_ be_ me_ c_ Q_ A_ ls_ F_ K_ W_ hl hret
  have hl : lv_has ls_ 1 [(0, .ref (b 0))] := hl
  obtain ⟨H_, hH_⟩ : ∃ x, x = s_.heap := ⟨_, rfl⟩
  obtain ⟨lo_, hlo_⟩ : ∃ x : List Loc, x = [] := ⟨_, rfl⟩
  have W_ : WD D A_ s_.heap ([wV cy b q p x e cr t0 ab be rb rn ru, wI cy q S M sk sc mk ms mp, wF cy (q 12) (q 13) 32 8 r4 f4]) H_ lo_ := by rw [hH_, hlo_]; exact W_
  rw [← hlo_]
  suffices hg_ : W p_ l_ e_ rX7_undo s_ m_ ar_ be_ me_ c_ H_ lo_ 0 0 Q_ (F0 m_ 0 ls_ []) by rw [hH_] at hg_; exact hg_
  clear hH_ hlo_
  have hinX4 : ∀ w ∈ u_ws RX4 TX4 11, w ∈ wsX7_undo := fun w h => List.mem_cons_of_mem _ (List.mem_append_left _ (List.mem_append_right _ h))
  have hinX7 : ∀ w ∈ u_ws RX7 TX7 13, w ∈ wsX7_undo := fun w h => List.mem_cons_of_mem _ (List.mem_append_left _ (List.mem_append_left _ (List.mem_append_right _ h)))
  refine lv_aload_n F_.1 F_.2.1 dX7_undo_0 rfl (lv_at hl 0 rfl) ?_
  refine z_get F_ K_ W_ 0 0 0 rfl rfl rfl (C := RX7) (T := TX7) (N := 13) rfl (by decide) hinX7 (List.mem_of_getElem? (i := 1) rfl) dX7_undo_1 ?_
  refine z_get F_ K_ W_ 1 0 10 rfl rfl rfl (C := RX4) (T := TX4) (N := 11) rfl (by decide) hinX4 (List.mem_of_getElem? (i := 2) rfl) dX7_undo_4 ?_
  refine z_callVip F_ K_ W_ [] (c_X2_size l_ D cy (q 12) (q 13) 32 8 r4 f4 bf4) 0 rfl gX7_undo_X2_size rfl (by decide +kernel) ⟨⟨Nat.le_of_ble_eq_true rfl, Nat.le_of_ble_eq_true rfl⟩, rfl, rfl, Nat.zero_le _, Nat.zero_le _⟩ 0 0 2 rfl rfl rfl rfl hl.1 rfl (Nat.le_of_ble_eq_true rfl) [2] [0, 1] [wV cy b q p x e cr t0 ab be rb rn ru, wI cy q S M sk sc mk ms mp] 3 (by decide +kernel) rfl rfl rfl dX7_undo_7 (fun z_1 _ H_ lo_ hw_ W_ => ?_)
  replace hw_ : (z_1 = r4) := hw_
  have f7_v := hw_
  clear hw_
  refine z_if_ne (tgt := 20) F_ (by omega) dX7_undo_10 (by decide) (fun c10 => ?_) (fun c10 => ?_)
  · have hu2 := hu (by omega)
    refine lv_aload_n F_.1 F_.2.1 dX7_undo_20 rfl (lv_at hl 0 rfl) ?_
    refine z_get F_ K_ W_ 0 0 0 rfl rfl rfl (C := RX7) (T := TX7) (N := 13) rfl (by decide) hinX7 (List.mem_of_getElem? (i := 1) rfl) dX7_undo_21 ?_
    refine z_callVv F_ K_ W_ [] (c_X4_takeBack l_ D cy q S M sk sc mk ms mp r4 f4 (by omega) (by omega) bsk bsc bmk bms bmp bf4 (by first | omega | assumption) (by exact hu2.1) (by exact hu2.2.1) (by exact hu2.2.2.1) (by exact hu2.2.2.2)) 0 rfl gX7_undo_X4_takeBack rfl (by decide +kernel) ⟨⟨Nat.le_of_ble_eq_true rfl, Nat.le_of_ble_eq_true rfl⟩, rfl, rfl, Nat.zero_le _, Nat.zero_le _⟩ 0 0 4 rfl rfl rfl rfl hl.1 rfl (Nat.le_of_ble_eq_true rfl) [1, 2] [0] [wV cy b q p x e cr t0 ab be rb rn ru] (fun (u_ : (Int → Int) × (Int → Int)) => [wV cy b q p x e cr t0 ab be rb rn ru, wI cy q S M sk u_.1 mk ms u_.2, wF cy (q 12) (q 13) 32 8 (r4 - 1) f4]) 3 (by decide +kernel) rfl rfl rfl (fun _ => rfl) (fun _ => rfl) (fun _ => rfl) dX7_undo_24 (fun u_ H_ lo_ hw_ W_ => ?_)
    obtain ⟨sc2_3, mp2_4⟩ := u_
    have W_ : WD D A_ s_.heap ([wV cy b q p x e cr t0 ab be rb rn ru, wI cy q S M sk sc2_3 mk ms mp2_4, wF cy (q 12) (q 13) 32 8 (r4 - 1) f4]) H_ lo_ := W_
    replace hw_ : (sc2_3 = zu sc (f4 (4 * (r4 - 1) + 0)) (f4 (4 * (r4 - 1) + 1))) ∧ (mp2_4 = zu mp (f4 (4 * (r4 - 1) + 2)) (f4 (4 * (r4 - 1) + 3))) ∧ (∀ j : Int, 0 ≤ sc2_3 j ∧ sc2_3 j ≤ 99) ∧ (∀ j : Int, (-1) ≤ mp2_4 j ∧ mp2_4 j ≤ 2) := hw_
    obtain ⟨f24_c, f24_p, f24_B_I_sc, f24_B_I_mp⟩ := hw_
    refine lv_aload_n F_.1 F_.2.1 dX7_undo_27 rfl (lv_at hl 0 rfl) ?_
    refine z_get F_ K_ W_ 0 0 0 rfl rfl rfl (C := RX7) (T := TX7) (N := 13) rfl (by decide) hinX7 (List.mem_of_getElem? (i := 1) rfl) dX7_undo_28 ?_
    refine z_iconst F_ dX7_undo_31 ?_
    refine z_callVip F_ K_ W_ [.int (zi (-1))] (c_X4_menAt l_ D cy q S M sk sc2_3 mk ms mp2_4 (-1) (by omega) (by omega) bsk f24_B_I_sc bmk bms f24_B_I_mp (by first | omega | assumption)) 1 rfl gX7_undo_X4_menAt rfl (by decide +kernel) ⟨⟨Nat.le_of_ble_eq_true rfl, Nat.le_of_ble_eq_true rfl⟩, rfl, rfl, Nat.zero_le _, Nat.zero_le _⟩ 0 0 4 rfl rfl rfl rfl hl.1 rfl (Nat.le_of_ble_eq_true rfl) [1] [0, 2] [wV cy b q p x e cr t0 ab be rb rn ru, wF cy (q 12) (q 13) 32 8 (r4 - 1) f4] 3 (by decide +kernel) rfl rfl rfl dX7_undo_32 (fun z_5 _ H_ lo_ hw_ W_ => ?_)
    replace hw_ : (z_5 = cntZ mp2_4 (-1) M) := hw_
    have f32_v := hw_
    clear hw_
    exact hret _ _ _ _ z_5 (rb, rn, ru, sc2_3, mp2_4, r4 - 1) dX7_undo_35 ⟨(by (try dsimp only) <;> (first | (refine Or.inl (⟨?_, ?_, ?_, ?_, ?_, ?_, ?_, ?_⟩) <;> (first | omega | rfl | assumption)) | (refine Or.inr (⟨?_, ?_, ?_, ?_, ?_, ?_, ?_, ?_⟩) <;> (first | omega | rfl | assumption)))), f24_B_I_sc, f24_B_I_mp⟩ W_
  · refine lv_aload_n F_.1 F_.2.1 dX7_undo_13 rfl (lv_at hl 0 rfl) ?_
    refine z_bipush F_ (by decide) dX7_undo_14 ?_
    refine z_callVi F_ K_ W_ [.int (zi (-3))] (c_X7_refuse l_ D cy b q p x e cr t0 ab be rb rn ru (-3) (by first | omega | assumption)) 1 rfl gX7_undo_X7_refuse rfl (by decide +kernel) ⟨⟨Nat.le_of_ble_eq_true rfl, Nat.le_of_ble_eq_true rfl⟩, rfl, rfl, Nat.zero_le _, Nat.zero_le _⟩ 0 0 6 rfl rfl rfl rfl hl.1 rfl (Nat.le_of_ble_eq_true rfl) [0] [1, 2] [wI cy q S M sk sc mk ms mp, wF cy (q 12) (q 13) 32 8 r4 f4] (fun (u_ : (Int) × (Int) × (Int)) => [wV cy b q p x e cr t0 ab be u_.1 u_.2.1 u_.2.2, wI cy q S M sk sc mk ms mp, wF cy (q 12) (q 13) 32 8 r4 f4]) 3 (by decide +kernel) rfl rfl rfl (fun _ => rfl) (fun _ => rfl) (fun _ => rfl) dX7_undo_16 (fun z_6 u_ H_ lo_ hw_ W_ => ?_)
    obtain ⟨rb2_7, rn2_8, ru2_9⟩ := u_
    have W_ : WD D A_ s_.heap ([wV cy b q p x e cr t0 ab be rb2_7 rn2_8 ru2_9, wI cy q S M sk sc mk ms mp, wF cy (q 12) (q 13) 32 8 r4 f4]) H_ lo_ := W_
    replace hw_ : (z_6 = (-3)) ∧ (((-3) = -2 ∧ rb2_7 = rb + 1 ∧ rn2_8 = rn ∧ ru2_9 = ru) ∨ ((-3) = -3 ∧ rb2_7 = rb ∧ rn2_8 = rn + 1 ∧ ru2_9 = ru) ∨ (¬ (-3) = -2 ∧ ¬ (-3) = -3 ∧ rb2_7 = rb ∧ rn2_8 = rn ∧ ru2_9 = ru + 1)) := hw_
    obtain ⟨f16_v, f16_k⟩ := hw_
    exact hret _ _ _ _ z_6 (rb2_7, rn2_8, ru2_9, sc, mp, r4) dX7_undo_19 ⟨(by (try dsimp only) <;> (first | (refine Or.inl (⟨?_, ?_, ?_, ?_, ?_, ?_, ?_, ?_⟩) <;> (first | omega | rfl | assumption)) | (refine Or.inr (⟨?_, ?_, ?_, ?_, ?_, ?_, ?_, ?_⟩) <;> (first | omega | rfl | assumption)))), bsc, bmp⟩ W_
abbrev rX7_of : Room := { frames := 2, cells := 0, slots := 0, locals := 47 }
set_option maxHeartbeats 1000000 in
set_option maxRecDepth 100000 in
theorem c_X7_of (l_ : Launch) (D : va_G) (cy : Nat → ClassId) (b : Nat → Nat) (q : Nat → Nat) (p : Nat → Nat) (x : Nat → Nat) (e : Nat → Nat) (cr : Nat → Nat) (t0 : Nat) (ab : Int) (be : Int) (rb : Int) (rn : Int) (ru : Int) (S : Int) (M : Int) (sk : Int → Int) (sc : Int → Int) (mk : Int → Int) (ms : Int → Int) (mp : Int → Int) (i : Int) (w : Int) (bS : 0 ≤ S ∧ S ≤ 3) (bM : 0 ≤ M ∧ M ≤ 8) (bsk : ∀ j : Int, 0 ≤ sk j ∧ sk j ≤ 5) (bsc : ∀ j : Int, 0 ≤ sc j ∧ sc j ≤ 99) (bmk : ∀ j : Int, 0 ≤ mk j ∧ mk j ≤ 5) (bms : ∀ j : Int, 0 ≤ ms j ∧ ms j ≤ 9) (bmp : ∀ j : Int, (-1) ≤ mp j ∧ mp j ≤ 2) (ri : -2147483648 ≤ i ∧ i < 2147483648) (rw : -2147483648 ≤ w ∧ w < 2147483648) : CTi l_ D cy yX7_of wsX7_of rX7_of [.ref (b 0), .int (zi i), .int (zi w)] ([wV cy b q p x e cr t0 ab be rb rn ru, wI cy q S M sk sc mk ms mp]) (fun (z : Int) (u : (Int) × (Int) × (Int)) => (((0 ≤ i ∧ i < M) ∧ w = 0 ∧ z = mk i ∧ u.1 = rb ∧ u.2.1 = rn ∧ u.2.2 = ru) ∨ ((0 ≤ i ∧ i < M) ∧ w = 1 ∧ z = ms i ∧ u.1 = rb ∧ u.2.1 = rn ∧ u.2.2 = ru) ∨ ((0 ≤ i ∧ i < M) ∧ w = 2 ∧ z = mp i ∧ u.1 = rb ∧ u.2.1 = rn ∧ u.2.2 = ru) ∨ ((0 ≤ i ∧ i < M) ∧ w = 3 ∧ z = (if 0 ≤ mp i ∧ mp i < S then likedZ (mk i) (ms i) (sc (mp i)) else -1) ∧ u.1 = rb ∧ u.2.1 = rn ∧ u.2.2 = ru) ∨ (¬ ((0 ≤ i ∧ i < M) ∧ (0 ≤ w ∧ w ≤ 3)) ∧ z = -2 ∧ u.1 = rb + 1 ∧ u.2.1 = rn ∧ u.2.2 = ru))) (fun (u : (Int) × (Int) × (Int)) => [wV cy b q p x e cr t0 ab be u.1 u.2.1 u.2.2, wI cy q S M sk sc mk ms mp]) := by
  refine CTi.of RX7 cX7_of 3 rfl (by decide) rfl (fun z u hz => rfl) (Nat.le_of_ble_eq_true rfl) ?_
  intro p_ e_ s_ m_ ar_ be_ me_ c_ Q_ A_ ls_ F_ K_ W_ hl hret
  have hl : lv_has ls_ 3 [(0, .ref (b 0)), (1, .int (zi i)), (2, .int (zi w))] := hl
  obtain ⟨H_, hH_⟩ : ∃ x, x = s_.heap := ⟨_, rfl⟩
  obtain ⟨lo_, hlo_⟩ : ∃ x : List Loc, x = [] := ⟨_, rfl⟩
  have W_ : WD D A_ s_.heap ([wV cy b q p x e cr t0 ab be rb rn ru, wI cy q S M sk sc mk ms mp]) H_ lo_ := by rw [hH_, hlo_]; exact W_
  rw [← hlo_]
  suffices hg_ : W p_ l_ e_ rX7_of s_ m_ ar_ be_ me_ c_ H_ lo_ 0 0 Q_ (F0 m_ 0 ls_ []) by rw [hH_] at hg_; exact hg_
  clear hH_ hlo_
  have hinX4 : ∀ w ∈ u_ws RX4 TX4 11, w ∈ wsX7_of := fun w h => List.mem_cons_of_mem _ (List.mem_append_right _ h)
  have hinX7 : ∀ w ∈ u_ws RX7 TX7 13, w ∈ wsX7_of := fun w h => List.mem_cons_of_mem _ (List.mem_append_left _ (List.mem_append_right _ h))
  refine lv_aload_n F_.1 F_.2.1 dX7_of_0 rfl (lv_at hl 0 rfl) ?_
  refine z_get F_ K_ W_ 0 0 0 rfl rfl rfl (C := RX7) (T := TX7) (N := 13) rfl (by decide) hinX7 (List.mem_of_getElem? (i := 1) rfl) dX7_of_1 ?_
  refine lv_iload_n F_.1 F_.2.1 dX7_of_4 rfl (lv_at hl 1 rfl) ?_
  refine z_callVip F_ K_ W_ [.int (zi i)] (c_X4_hasMan l_ D cy q S M sk sc mk ms mp i (by omega) (by omega) bsk bsc bmk bms bmp (by first | omega | assumption)) 1 rfl gX7_of_X4_hasMan rfl (by decide +kernel) ⟨⟨Nat.le_of_ble_eq_true rfl, Nat.le_of_ble_eq_true rfl⟩, rfl, rfl, Nat.zero_le _, Nat.zero_le _⟩ 0 0 4 rfl rfl rfl rfl hl.1 rfl (Nat.le_of_ble_eq_true rfl) [1] [0] [wV cy b q p x e cr t0 ab be rb rn ru] 2 (by decide +kernel) rfl rfl rfl dX7_of_5 (fun z_1 _ H_ lo_ hw_ W_ => ?_)
  replace hw_ : ((z_1 = 1 ∧ (0 ≤ i ∧ i < M)) ∨ (z_1 = 0 ∧ ¬ (0 ≤ i ∧ i < M))) := hw_
  have f5_v := hw_
  clear hw_
  refine z_if_ne (tgt := 18) F_ (by omega) dX7_of_8 (by decide) (fun c8 => ?_) (fun c8 => ?_)
  · refine lv_iload_n F_.1 F_.2.1 dX7_of_18 rfl (lv_at hl 2 rfl) ?_
    rcases (show w = 0 ∨ w = 1 ∨ w = 2 ∨ w = 3 ∨ (w < 0 ∨ 3 < w) by omega) with c19 | c19 | c19 | c19 | c19
    · refine z_tabIn (tgt := 48) F_ 0 c19 ⟨by omega, by decide, by decide⟩ dX7_of_19 rfl (by decide) ?_
      refine lv_aload_n F_.1 F_.2.1 dX7_of_48 rfl (lv_at hl 0 rfl) ?_
      refine z_get F_ K_ W_ 0 0 0 rfl rfl rfl (C := RX7) (T := TX7) (N := 13) rfl (by decide) hinX7 (List.mem_of_getElem? (i := 1) rfl) dX7_of_49 ?_
      refine z_get F_ K_ W_ 1 0 4 rfl rfl rfl (C := RX4) (T := TX4) (N := 11) rfl (by decide) hinX4 (List.mem_of_getElem? (i := 2) rfl) dX7_of_52 ?_
      refine lv_iload_n F_.1 F_.2.1 dX7_of_55 rfl (lv_at hl 1 rfl) ?_
      refine z_iald F_ K_ W_ 1 3 rfl rfl (by omega) (by decide) dX7_of_56 ?_
      have b_2 := bmk i
      exact hret _ _ _ _ (mk i) (rb, rn, ru) dX7_of_57 (by (try dsimp only) <;> (refine Or.inl (⟨?_, ?_, ?_, ?_, ?_, ?_⟩) <;> (first | omega | rfl | assumption))) W_
    · refine z_tabIn (tgt := 58) F_ 1 c19 ⟨by omega, by decide, by decide⟩ dX7_of_19 rfl (by decide) ?_
      refine lv_aload_n F_.1 F_.2.1 dX7_of_58 rfl (lv_at hl 0 rfl) ?_
      refine z_get F_ K_ W_ 0 0 0 rfl rfl rfl (C := RX7) (T := TX7) (N := 13) rfl (by decide) hinX7 (List.mem_of_getElem? (i := 1) rfl) dX7_of_59 ?_
      refine z_get F_ K_ W_ 1 0 5 rfl rfl rfl (C := RX4) (T := TX4) (N := 11) rfl (by decide) hinX4 (List.mem_of_getElem? (i := 3) rfl) dX7_of_62 ?_
      refine lv_iload_n F_.1 F_.2.1 dX7_of_65 rfl (lv_at hl 1 rfl) ?_
      refine z_iald F_ K_ W_ 1 4 rfl rfl (by omega) (by decide) dX7_of_66 ?_
      have b_3 := bms i
      exact hret _ _ _ _ (ms i) (rb, rn, ru) dX7_of_67 (by (try dsimp only) <;> (refine Or.inr (Or.inl (⟨?_, ?_, ?_, ?_, ?_, ?_⟩)) <;> (first | omega | rfl | assumption))) W_
    · refine z_tabIn (tgt := 68) F_ 2 c19 ⟨by omega, by decide, by decide⟩ dX7_of_19 rfl (by decide) ?_
      refine lv_aload_n F_.1 F_.2.1 dX7_of_68 rfl (lv_at hl 0 rfl) ?_
      refine z_get F_ K_ W_ 0 0 0 rfl rfl rfl (C := RX7) (T := TX7) (N := 13) rfl (by decide) hinX7 (List.mem_of_getElem? (i := 1) rfl) dX7_of_69 ?_
      refine z_get F_ K_ W_ 1 0 6 rfl rfl rfl (C := RX4) (T := TX4) (N := 11) rfl (by decide) hinX4 (List.mem_of_getElem? (i := 4) rfl) dX7_of_72 ?_
      refine lv_iload_n F_.1 F_.2.1 dX7_of_75 rfl (lv_at hl 1 rfl) ?_
      refine z_iald F_ K_ W_ 1 5 rfl rfl (by omega) (by decide) dX7_of_76 ?_
      have b_4 := bmp i
      exact hret _ _ _ _ (mp i) (rb, rn, ru) dX7_of_77 (by (try dsimp only) <;> (refine Or.inr (Or.inr (Or.inl (⟨?_, ?_, ?_, ?_, ?_, ?_⟩))) <;> (first | omega | rfl | assumption))) W_
    · refine z_tabIn (tgt := 78) F_ 3 c19 ⟨by omega, by decide, by decide⟩ dX7_of_19 rfl (by decide) ?_
      refine lv_aload_n F_.1 F_.2.1 dX7_of_78 rfl (lv_at hl 0 rfl) ?_
      refine z_get F_ K_ W_ 0 0 0 rfl rfl rfl (C := RX7) (T := TX7) (N := 13) rfl (by decide) hinX7 (List.mem_of_getElem? (i := 1) rfl) dX7_of_79 ?_
      refine lv_iload_n F_.1 F_.2.1 dX7_of_82 rfl (lv_at hl 1 rfl) ?_
      refine z_callVip F_ K_ W_ [.int (zi i)] (c_X4_liking l_ D cy q S M sk sc mk ms mp i (by omega) (by omega) bsk bsc bmk bms bmp (by first | omega | assumption) (by first | omega | assumption)) 1 rfl gX7_of_X4_liking rfl (by decide +kernel) ⟨⟨Nat.le_of_ble_eq_true rfl, Nat.le_of_ble_eq_true rfl⟩, rfl, rfl, Nat.zero_le _, Nat.zero_le _⟩ 0 0 4 rfl rfl rfl rfl hl.1 rfl (Nat.le_of_ble_eq_true rfl) [1] [0] [wV cy b q p x e cr t0 ab be rb rn ru] 2 (by decide +kernel) rfl rfl rfl dX7_of_83 (fun z_5 _ H_ lo_ hw_ W_ => ?_)
      replace hw_ : (z_5 = if 0 ≤ mp i ∧ mp i < S then likedZ (mk i) (ms i) (sc (mp i)) else -1) := hw_
      have f83_v := hw_
      clear hw_
      exact hret _ _ _ _ z_5 (rb, rn, ru) dX7_of_86 (by (try dsimp only) <;> (refine Or.inr (Or.inr (Or.inr (Or.inl (⟨?_, ?_, ?_, ?_, ?_, ?_⟩)))) <;> (first | omega | rfl | assumption))) W_
    · refine z_tabOut (tgt := 87) F_ ⟨by omega, c19⟩ dX7_of_19 (by decide) ?_
      refine lv_aload_n F_.1 F_.2.1 dX7_of_87 rfl (lv_at hl 0 rfl) ?_
      refine z_bipush F_ (by decide) dX7_of_88 ?_
      refine z_callVi F_ K_ W_ [.int (zi (-2))] (c_X7_refuse l_ D cy b q p x e cr t0 ab be rb rn ru (-2) (by first | omega | assumption)) 1 rfl gX7_of_X7_refuse rfl (by decide +kernel) ⟨⟨Nat.le_of_ble_eq_true rfl, Nat.le_of_ble_eq_true rfl⟩, rfl, rfl, Nat.zero_le _, Nat.zero_le _⟩ 0 0 6 rfl rfl rfl rfl hl.1 rfl (Nat.le_of_ble_eq_true rfl) [0] [1] [wI cy q S M sk sc mk ms mp] (fun (u_ : (Int) × (Int) × (Int)) => [wV cy b q p x e cr t0 ab be u_.1 u_.2.1 u_.2.2, wI cy q S M sk sc mk ms mp]) 2 (by decide +kernel) rfl rfl rfl (fun _ => rfl) (fun _ => rfl) (fun _ => rfl) dX7_of_90 (fun z_6 u_ H_ lo_ hw_ W_ => ?_)
      obtain ⟨rb2_7, rn2_8, ru2_9⟩ := u_
      have W_ : WD D A_ s_.heap ([wV cy b q p x e cr t0 ab be rb2_7 rn2_8 ru2_9, wI cy q S M sk sc mk ms mp]) H_ lo_ := W_
      replace hw_ : (z_6 = (-2)) ∧ (((-2) = -2 ∧ rb2_7 = rb + 1 ∧ rn2_8 = rn ∧ ru2_9 = ru) ∨ ((-2) = -3 ∧ rb2_7 = rb ∧ rn2_8 = rn + 1 ∧ ru2_9 = ru) ∨ (¬ (-2) = -2 ∧ ¬ (-2) = -3 ∧ rb2_7 = rb ∧ rn2_8 = rn ∧ ru2_9 = ru + 1)) := hw_
      obtain ⟨f90_v, f90_k⟩ := hw_
      exact hret _ _ _ _ z_6 (rb2_7, rn2_8, ru2_9) dX7_of_93 (by (try dsimp only) <;> (refine Or.inr (Or.inr (Or.inr (Or.inr (⟨?_, ?_, ?_, ?_, ?_⟩)))) <;> (first | omega | rfl | assumption))) W_
  · refine lv_aload_n F_.1 F_.2.1 dX7_of_11 rfl (lv_at hl 0 rfl) ?_
    refine z_bipush F_ (by decide) dX7_of_12 ?_
    refine z_callVi F_ K_ W_ [.int (zi (-2))] (c_X7_refuse l_ D cy b q p x e cr t0 ab be rb rn ru (-2) (by first | omega | assumption)) 1 rfl gX7_of_X7_refuse rfl (by decide +kernel) ⟨⟨Nat.le_of_ble_eq_true rfl, Nat.le_of_ble_eq_true rfl⟩, rfl, rfl, Nat.zero_le _, Nat.zero_le _⟩ 0 0 6 rfl rfl rfl rfl hl.1 rfl (Nat.le_of_ble_eq_true rfl) [0] [1] [wI cy q S M sk sc mk ms mp] (fun (u_ : (Int) × (Int) × (Int)) => [wV cy b q p x e cr t0 ab be u_.1 u_.2.1 u_.2.2, wI cy q S M sk sc mk ms mp]) 2 (by decide +kernel) rfl rfl rfl (fun _ => rfl) (fun _ => rfl) (fun _ => rfl) dX7_of_14 (fun z_10 u_ H_ lo_ hw_ W_ => ?_)
    obtain ⟨rb2_11, rn2_12, ru2_13⟩ := u_
    have W_ : WD D A_ s_.heap ([wV cy b q p x e cr t0 ab be rb2_11 rn2_12 ru2_13, wI cy q S M sk sc mk ms mp]) H_ lo_ := W_
    replace hw_ : (z_10 = (-2)) ∧ (((-2) = -2 ∧ rb2_11 = rb + 1 ∧ rn2_12 = rn ∧ ru2_13 = ru) ∨ ((-2) = -3 ∧ rb2_11 = rb ∧ rn2_12 = rn + 1 ∧ ru2_13 = ru) ∨ (¬ (-2) = -2 ∧ ¬ (-2) = -3 ∧ rb2_11 = rb ∧ rn2_12 = rn ∧ ru2_13 = ru + 1)) := hw_
    obtain ⟨f14_v, f14_k⟩ := hw_
    exact hret _ _ _ _ z_10 (rb2_11, rn2_12, ru2_13) dX7_of_17 (by (try dsimp only) <;> (refine Or.inr (Or.inr (Or.inr (Or.inr (⟨?_, ?_, ?_, ?_, ?_⟩)))) <;> (first | omega | rfl | assumption))) W_
abbrev rX7_about : Room := { frames := 1, cells := 0, slots := 0, locals := 23 }
set_option maxHeartbeats 1000000 in
set_option maxRecDepth 100000 in
theorem c_X7_about (l_ : Launch) (D : va_G) (cy : Nat → ClassId) (b : Nat → Nat) (q : Nat → Nat) (p : Nat → Nat) (x : Nat → Nat) (e : Nat → Nat) (cr : Nat → Nat) (t0 : Nat) (ab : Int) (be : Int) (rb : Int) (rn : Int) (ru : Int) (S : Int) (M : Int) (sk : Int → Int) (sc : Int → Int) (mk : Int → Int) (ms : Int → Int) (mp : Int → Int) (h : Int) (w : Int) (bS : 0 ≤ S ∧ S ≤ 3) (bM : 0 ≤ M ∧ M ≤ 8) (bsk : ∀ j : Int, 0 ≤ sk j ∧ sk j ≤ 5) (bsc : ∀ j : Int, 0 ≤ sc j ∧ sc j ≤ 99) (bmk : ∀ j : Int, 0 ≤ mk j ∧ mk j ≤ 5) (bms : ∀ j : Int, 0 ≤ ms j ∧ ms j ≤ 9) (bmp : ∀ j : Int, (-1) ≤ mp j ∧ mp j ≤ 2) (rh : -2147483648 ≤ h ∧ h < 2147483648) (rw : -2147483648 ≤ w ∧ w < 2147483648) : CTi l_ D cy yX7_about wsX7_about rX7_about [.ref (b 0), .int (zi h), .int (zi w)] ([wV cy b q p x e cr t0 ab be rb rn ru, wI cy q S M sk sc mk ms mp]) (fun (z : Int) (u : (Int) × (Int) × (Int)) => (((0 ≤ h ∧ h < S) ∧ w = 0 ∧ z = sk h ∧ u.1 = rb ∧ u.2.1 = rn ∧ u.2.2 = ru) ∨ ((0 ≤ h ∧ h < S) ∧ w = 1 ∧ z = sc h ∧ u.1 = rb ∧ u.2.1 = rn ∧ u.2.2 = ru) ∨ ((0 ≤ h ∧ h < S) ∧ w = 2 ∧ z = bitZ mp h M ∧ u.1 = rb ∧ u.2.1 = rn ∧ u.2.2 = ru) ∨ ((0 ≤ h ∧ h < S) ∧ w = 3 ∧ z = sumZ mp ms h M ∧ u.1 = rb ∧ u.2.1 = rn ∧ u.2.2 = ru) ∨ (¬ ((0 ≤ h ∧ h < S) ∧ (0 ≤ w ∧ w ≤ 3)) ∧ z = -2 ∧ u.1 = rb + 1 ∧ u.2.1 = rn ∧ u.2.2 = ru))) (fun (u : (Int) × (Int) × (Int)) => [wV cy b q p x e cr t0 ab be u.1 u.2.1 u.2.2, wI cy q S M sk sc mk ms mp]) := by
  refine CTi.of RX7 cX7_about 3 rfl (by decide) rfl (fun z u hz => rfl) (Nat.le_of_ble_eq_true rfl) ?_
  intro p_ e_ s_ m_ ar_ be_ me_ c_ Q_ A_ ls_ F_ K_ W_ hl hret
  have hl : lv_has ls_ 3 [(0, .ref (b 0)), (1, .int (zi h)), (2, .int (zi w))] := hl
  obtain ⟨H_, hH_⟩ : ∃ x, x = s_.heap := ⟨_, rfl⟩
  obtain ⟨lo_, hlo_⟩ : ∃ x : List Loc, x = [] := ⟨_, rfl⟩
  have W_ : WD D A_ s_.heap ([wV cy b q p x e cr t0 ab be rb rn ru, wI cy q S M sk sc mk ms mp]) H_ lo_ := by rw [hH_, hlo_]; exact W_
  rw [← hlo_]
  suffices hg_ : W p_ l_ e_ rX7_about s_ m_ ar_ be_ me_ c_ H_ lo_ 0 0 Q_ (F0 m_ 0 ls_ []) by rw [hH_] at hg_; exact hg_
  clear hH_ hlo_
  have hinX4 : ∀ w ∈ u_ws RX4 TX4 11, w ∈ wsX7_about := fun w h => List.mem_cons_of_mem _ (List.mem_append_right _ h)
  have hinX7 : ∀ w ∈ u_ws RX7 TX7 13, w ∈ wsX7_about := fun w h => List.mem_cons_of_mem _ (List.mem_append_left _ (List.mem_append_right _ h))
  refine lv_aload_n F_.1 F_.2.1 dX7_about_0 rfl (lv_at hl 0 rfl) ?_
  refine z_get F_ K_ W_ 0 0 0 rfl rfl rfl (C := RX7) (T := TX7) (N := 13) rfl (by decide) hinX7 (List.mem_of_getElem? (i := 1) rfl) dX7_about_1 ?_
  refine lv_iload_n F_.1 F_.2.1 dX7_about_4 rfl (lv_at hl 1 rfl) ?_
  refine z_callVip F_ K_ W_ [.int (zi h)] (c_X4_hasShip l_ D cy q S M sk sc mk ms mp h (by omega) (by omega) bsk bsc bmk bms bmp (by first | omega | assumption)) 1 rfl gX7_about_X4_hasShip rfl (by decide +kernel) ⟨⟨Nat.le_of_ble_eq_true rfl, Nat.le_of_ble_eq_true rfl⟩, rfl, rfl, Nat.zero_le _, Nat.zero_le _⟩ 0 0 4 rfl rfl rfl rfl hl.1 rfl (Nat.le_of_ble_eq_true rfl) [1] [0] [wV cy b q p x e cr t0 ab be rb rn ru] 2 (by decide +kernel) rfl rfl rfl dX7_about_5 (fun z_1 _ H_ lo_ hw_ W_ => ?_)
  replace hw_ : ((z_1 = 1 ∧ (0 ≤ h ∧ h < S)) ∨ (z_1 = 0 ∧ ¬ (0 ≤ h ∧ h < S))) := hw_
  have f5_v := hw_
  clear hw_
  refine z_if_ne (tgt := 18) F_ (by omega) dX7_about_8 (by decide) (fun c8 => ?_) (fun c8 => ?_)
  · refine lv_iload_n F_.1 F_.2.1 dX7_about_18 rfl (lv_at hl 2 rfl) ?_
    rcases (show w = 0 ∨ w = 1 ∨ w = 2 ∨ w = 3 ∨ (w < 0 ∨ 3 < w) by omega) with c19 | c19 | c19 | c19 | c19
    · refine z_tabIn (tgt := 48) F_ 0 c19 ⟨by omega, by decide, by decide⟩ dX7_about_19 rfl (by decide) ?_
      refine lv_aload_n F_.1 F_.2.1 dX7_about_48 rfl (lv_at hl 0 rfl) ?_
      refine z_get F_ K_ W_ 0 0 0 rfl rfl rfl (C := RX7) (T := TX7) (N := 13) rfl (by decide) hinX7 (List.mem_of_getElem? (i := 1) rfl) dX7_about_49 ?_
      refine z_get F_ K_ W_ 1 0 2 rfl rfl rfl (C := RX4) (T := TX4) (N := 11) rfl (by decide) hinX4 (List.mem_of_getElem? (i := 2) rfl) dX7_about_52 ?_
      refine lv_iload_n F_.1 F_.2.1 dX7_about_55 rfl (lv_at hl 1 rfl) ?_
      refine z_iald F_ K_ W_ 1 1 rfl rfl (by omega) (by decide) dX7_about_56 ?_
      have b_2 := bsk h
      exact hret _ _ _ _ (sk h) (rb, rn, ru) dX7_about_57 (by (try dsimp only) <;> (refine Or.inl (⟨?_, ?_, ?_, ?_, ?_, ?_⟩) <;> (first | omega | rfl | assumption))) W_
    · refine z_tabIn (tgt := 58) F_ 1 c19 ⟨by omega, by decide, by decide⟩ dX7_about_19 rfl (by decide) ?_
      refine lv_aload_n F_.1 F_.2.1 dX7_about_58 rfl (lv_at hl 0 rfl) ?_
      refine z_get F_ K_ W_ 0 0 0 rfl rfl rfl (C := RX7) (T := TX7) (N := 13) rfl (by decide) hinX7 (List.mem_of_getElem? (i := 1) rfl) dX7_about_59 ?_
      refine z_get F_ K_ W_ 1 0 3 rfl rfl rfl (C := RX4) (T := TX4) (N := 11) rfl (by decide) hinX4 (List.mem_of_getElem? (i := 3) rfl) dX7_about_62 ?_
      refine lv_iload_n F_.1 F_.2.1 dX7_about_65 rfl (lv_at hl 1 rfl) ?_
      refine z_iald F_ K_ W_ 1 2 rfl rfl (by omega) (by decide) dX7_about_66 ?_
      have b_3 := bsc h
      exact hret _ _ _ _ (sc h) (rb, rn, ru) dX7_about_67 (by (try dsimp only) <;> (refine Or.inr (Or.inl (⟨?_, ?_, ?_, ?_, ?_, ?_⟩)) <;> (first | omega | rfl | assumption))) W_
    · refine z_tabIn (tgt := 68) F_ 2 c19 ⟨by omega, by decide, by decide⟩ dX7_about_19 rfl (by decide) ?_
      refine lv_aload_n F_.1 F_.2.1 dX7_about_68 rfl (lv_at hl 0 rfl) ?_
      refine z_get F_ K_ W_ 0 0 0 rfl rfl rfl (C := RX7) (T := TX7) (N := 13) rfl (by decide) hinX7 (List.mem_of_getElem? (i := 1) rfl) dX7_about_69 ?_
      refine lv_iload_n F_.1 F_.2.1 dX7_about_72 rfl (lv_at hl 1 rfl) ?_
      refine z_callVip F_ K_ W_ [.int (zi h)] (c_X4_bitsAt l_ D cy q S M sk sc mk ms mp h (by omega) (by omega) bsk bsc bmk bms bmp (by first | omega | assumption)) 1 rfl gX7_about_X4_bitsAt rfl (by decide +kernel) ⟨⟨Nat.le_of_ble_eq_true rfl, Nat.le_of_ble_eq_true rfl⟩, rfl, rfl, Nat.zero_le _, Nat.zero_le _⟩ 0 0 4 rfl rfl rfl rfl hl.1 rfl (Nat.le_of_ble_eq_true rfl) [1] [0] [wV cy b q p x e cr t0 ab be rb rn ru] 2 (by decide +kernel) rfl rfl rfl dX7_about_73 (fun z_4 _ H_ lo_ hw_ W_ => ?_)
      replace hw_ : (z_4 = bitZ mp h M) := hw_
      have f73_v := hw_
      clear hw_
      exact hret _ _ _ _ z_4 (rb, rn, ru) dX7_about_76 (by (try dsimp only) <;> (refine Or.inr (Or.inr (Or.inl (⟨?_, ?_, ?_, ?_, ?_, ?_⟩))) <;> (first | omega | rfl | assumption))) W_
    · refine z_tabIn (tgt := 77) F_ 3 c19 ⟨by omega, by decide, by decide⟩ dX7_about_19 rfl (by decide) ?_
      refine lv_aload_n F_.1 F_.2.1 dX7_about_77 rfl (lv_at hl 0 rfl) ?_
      refine z_get F_ K_ W_ 0 0 0 rfl rfl rfl (C := RX7) (T := TX7) (N := 13) rfl (by decide) hinX7 (List.mem_of_getElem? (i := 1) rfl) dX7_about_78 ?_
      refine lv_iload_n F_.1 F_.2.1 dX7_about_81 rfl (lv_at hl 1 rfl) ?_
      refine z_callVip F_ K_ W_ [.int (zi h)] (c_X4_skillsAt l_ D cy q S M sk sc mk ms mp h (by omega) (by omega) bsk bsc bmk bms bmp (by first | omega | assumption)) 1 rfl gX7_about_X4_skillsAt rfl (by decide +kernel) ⟨⟨Nat.le_of_ble_eq_true rfl, Nat.le_of_ble_eq_true rfl⟩, rfl, rfl, Nat.zero_le _, Nat.zero_le _⟩ 0 0 4 rfl rfl rfl rfl hl.1 rfl (Nat.le_of_ble_eq_true rfl) [1] [0] [wV cy b q p x e cr t0 ab be rb rn ru] 2 (by decide +kernel) rfl rfl rfl dX7_about_82 (fun z_5 _ H_ lo_ hw_ W_ => ?_)
      replace hw_ : (z_5 = sumZ mp ms h M) := hw_
      have f82_v := hw_
      clear hw_
      exact hret _ _ _ _ z_5 (rb, rn, ru) dX7_about_85 (by (try dsimp only) <;> (refine Or.inr (Or.inr (Or.inr (Or.inl (⟨?_, ?_, ?_, ?_, ?_, ?_⟩)))) <;> (first | omega | rfl | assumption))) W_
    · refine z_tabOut (tgt := 86) F_ ⟨by omega, c19⟩ dX7_about_19 (by decide) ?_
      refine lv_aload_n F_.1 F_.2.1 dX7_about_86 rfl (lv_at hl 0 rfl) ?_
      refine z_bipush F_ (by decide) dX7_about_87 ?_
      refine z_callVi F_ K_ W_ [.int (zi (-2))] (c_X7_refuse l_ D cy b q p x e cr t0 ab be rb rn ru (-2) (by first | omega | assumption)) 1 rfl gX7_about_X7_refuse rfl (by decide +kernel) ⟨⟨Nat.le_of_ble_eq_true rfl, Nat.le_of_ble_eq_true rfl⟩, rfl, rfl, Nat.zero_le _, Nat.zero_le _⟩ 0 0 6 rfl rfl rfl rfl hl.1 rfl (Nat.le_of_ble_eq_true rfl) [0] [1] [wI cy q S M sk sc mk ms mp] (fun (u_ : (Int) × (Int) × (Int)) => [wV cy b q p x e cr t0 ab be u_.1 u_.2.1 u_.2.2, wI cy q S M sk sc mk ms mp]) 2 (by decide +kernel) rfl rfl rfl (fun _ => rfl) (fun _ => rfl) (fun _ => rfl) dX7_about_89 (fun z_6 u_ H_ lo_ hw_ W_ => ?_)
      obtain ⟨rb2_7, rn2_8, ru2_9⟩ := u_
      have W_ : WD D A_ s_.heap ([wV cy b q p x e cr t0 ab be rb2_7 rn2_8 ru2_9, wI cy q S M sk sc mk ms mp]) H_ lo_ := W_
      replace hw_ : (z_6 = (-2)) ∧ (((-2) = -2 ∧ rb2_7 = rb + 1 ∧ rn2_8 = rn ∧ ru2_9 = ru) ∨ ((-2) = -3 ∧ rb2_7 = rb ∧ rn2_8 = rn + 1 ∧ ru2_9 = ru) ∨ (¬ (-2) = -2 ∧ ¬ (-2) = -3 ∧ rb2_7 = rb ∧ rn2_8 = rn ∧ ru2_9 = ru + 1)) := hw_
      obtain ⟨f89_v, f89_k⟩ := hw_
      exact hret _ _ _ _ z_6 (rb2_7, rn2_8, ru2_9) dX7_about_92 (by (try dsimp only) <;> (refine Or.inr (Or.inr (Or.inr (Or.inr (⟨?_, ?_, ?_, ?_, ?_⟩)))) <;> (first | omega | rfl | assumption))) W_
  · refine lv_aload_n F_.1 F_.2.1 dX7_about_11 rfl (lv_at hl 0 rfl) ?_
    refine z_bipush F_ (by decide) dX7_about_12 ?_
    refine z_callVi F_ K_ W_ [.int (zi (-2))] (c_X7_refuse l_ D cy b q p x e cr t0 ab be rb rn ru (-2) (by first | omega | assumption)) 1 rfl gX7_about_X7_refuse rfl (by decide +kernel) ⟨⟨Nat.le_of_ble_eq_true rfl, Nat.le_of_ble_eq_true rfl⟩, rfl, rfl, Nat.zero_le _, Nat.zero_le _⟩ 0 0 6 rfl rfl rfl rfl hl.1 rfl (Nat.le_of_ble_eq_true rfl) [0] [1] [wI cy q S M sk sc mk ms mp] (fun (u_ : (Int) × (Int) × (Int)) => [wV cy b q p x e cr t0 ab be u_.1 u_.2.1 u_.2.2, wI cy q S M sk sc mk ms mp]) 2 (by decide +kernel) rfl rfl rfl (fun _ => rfl) (fun _ => rfl) (fun _ => rfl) dX7_about_14 (fun z_10 u_ H_ lo_ hw_ W_ => ?_)
    obtain ⟨rb2_11, rn2_12, ru2_13⟩ := u_
    have W_ : WD D A_ s_.heap ([wV cy b q p x e cr t0 ab be rb2_11 rn2_12 ru2_13, wI cy q S M sk sc mk ms mp]) H_ lo_ := W_
    replace hw_ : (z_10 = (-2)) ∧ (((-2) = -2 ∧ rb2_11 = rb + 1 ∧ rn2_12 = rn ∧ ru2_13 = ru) ∨ ((-2) = -3 ∧ rb2_11 = rb ∧ rn2_12 = rn + 1 ∧ ru2_13 = ru) ∨ (¬ (-2) = -2 ∧ ¬ (-2) = -3 ∧ rb2_11 = rb ∧ rn2_12 = rn ∧ ru2_13 = ru + 1)) := hw_
    obtain ⟨f14_v, f14_k⟩ := hw_
    exact hret _ _ _ _ z_10 (rb2_11, rn2_12, ru2_13) dX7_about_17 (by (try dsimp only) <;> (refine Or.inr (Or.inr (Or.inr (Or.inr (⟨?_, ?_, ?_, ?_, ?_⟩)))) <;> (first | omega | rfl | assumption))) W_
abbrev rX7_left : Room := { frames := 2, cells := 0, slots := 0, locals := 50 }
set_option maxHeartbeats 1000000 in
set_option maxRecDepth 100000 in
theorem c_X7_left (l_ : Launch) (D : va_G) (cy : Nat → ClassId) (b : Nat → Nat) (q : Nat → Nat) (p : Nat → Nat) (x : Nat → Nat) (e : Nat → Nat) (cr : Nat → Nat) (t0 : Nat) (ab : Int) (be : Int) (rb : Int) (rn : Int) (ru : Int) (S : Int) (M : Int) (sk : Int → Int) (sc : Int → Int) (mk : Int → Int) (ms : Int → Int) (mp : Int → Int) (h : Int) (bS : 0 ≤ S ∧ S ≤ 3) (bM : 0 ≤ M ∧ M ≤ 8) (bsk : ∀ j : Int, 0 ≤ sk j ∧ sk j ≤ 5) (bsc : ∀ j : Int, 0 ≤ sc j ∧ sc j ≤ 99) (bmk : ∀ j : Int, 0 ≤ mk j ∧ mk j ≤ 5) (bms : ∀ j : Int, 0 ≤ ms j ∧ ms j ≤ 9) (bmp : ∀ j : Int, (-1) ≤ mp j ∧ mp j ≤ 2) (rh : -2147483648 ≤ h ∧ h < 2147483648) : CTi l_ D cy yX7_left wsX7_left rX7_left [.ref (b 0), .int (zi h)] ([wV cy b q p x e cr t0 ab be rb rn ru, wI cy q S M sk sc mk ms mp]) (fun (z : Int) (u : (Int) × (Int) × (Int)) => (((0 ≤ h ∧ h < S) ∧ z = lstI S M sc mk ms mp h ∧ u.1 = rb ∧ u.2.1 = rn ∧ u.2.2 = ru) ∨ (¬ (0 ≤ h ∧ h < S) ∧ z = -2 ∧ u.1 = rb + 1 ∧ u.2.1 = rn ∧ u.2.2 = ru))) (fun (u : (Int) × (Int) × (Int)) => [wV cy b q p x e cr t0 ab be u.1 u.2.1 u.2.2, wI cy q S M sk sc mk ms mp]) := by
  refine CTi.of RX7 cX7_left 2 rfl (by decide) rfl (fun z u hz => rfl) (Nat.le_of_ble_eq_true rfl) ?_
  intro p_ e_ s_ m_ ar_ be_ me_ c_ Q_ A_ ls_ F_ K_ W_ hl hret
  have hl : lv_has ls_ 2 [(0, .ref (b 0)), (1, .int (zi h))] := hl
  obtain ⟨H_, hH_⟩ : ∃ x, x = s_.heap := ⟨_, rfl⟩
  obtain ⟨lo_, hlo_⟩ : ∃ x : List Loc, x = [] := ⟨_, rfl⟩
  have W_ : WD D A_ s_.heap ([wV cy b q p x e cr t0 ab be rb rn ru, wI cy q S M sk sc mk ms mp]) H_ lo_ := by rw [hH_, hlo_]; exact W_
  rw [← hlo_]
  suffices hg_ : W p_ l_ e_ rX7_left s_ m_ ar_ be_ me_ c_ H_ lo_ 0 0 Q_ (F0 m_ 0 ls_ []) by rw [hH_] at hg_; exact hg_
  clear hH_ hlo_
  have hinX7 : ∀ w ∈ u_ws RX7 TX7 13, w ∈ wsX7_left := fun w h => List.mem_cons_of_mem _ (List.mem_append_left _ (List.mem_append_right _ h))
  refine lv_aload_n F_.1 F_.2.1 dX7_left_0 rfl (lv_at hl 0 rfl) ?_
  refine z_get F_ K_ W_ 0 0 0 rfl rfl rfl (C := RX7) (T := TX7) (N := 13) rfl (by decide) hinX7 (List.mem_of_getElem? (i := 1) rfl) dX7_left_1 ?_
  refine lv_iload_n F_.1 F_.2.1 dX7_left_4 rfl (lv_at hl 1 rfl) ?_
  refine z_callVip F_ K_ W_ [.int (zi h)] (c_X4_hasShip l_ D cy q S M sk sc mk ms mp h (by omega) (by omega) bsk bsc bmk bms bmp (by first | omega | assumption)) 1 rfl gX7_left_X4_hasShip rfl (by decide +kernel) ⟨⟨Nat.le_of_ble_eq_true rfl, Nat.le_of_ble_eq_true rfl⟩, rfl, rfl, Nat.zero_le _, Nat.zero_le _⟩ 0 0 4 rfl rfl rfl rfl hl.1 rfl (Nat.le_of_ble_eq_true rfl) [1] [0] [wV cy b q p x e cr t0 ab be rb rn ru] 2 (by decide +kernel) rfl rfl rfl dX7_left_5 (fun z_1 _ H_ lo_ hw_ W_ => ?_)
  replace hw_ : ((z_1 = 1 ∧ (0 ≤ h ∧ h < S)) ∨ (z_1 = 0 ∧ ¬ (0 ≤ h ∧ h < S))) := hw_
  have f5_v := hw_
  clear hw_
  refine z_if_eq (tgt := 22) F_ (by omega) dX7_left_8 (by decide) (fun c8 => ?_) (fun c8 => ?_)
  · refine lv_aload_n F_.1 F_.2.1 dX7_left_22 rfl (lv_at hl 0 rfl) ?_
    refine z_bipush F_ (by decide) dX7_left_23 ?_
    refine z_callVi F_ K_ W_ [.int (zi (-2))] (c_X7_refuse l_ D cy b q p x e cr t0 ab be rb rn ru (-2) (by first | omega | assumption)) 1 rfl gX7_left_X7_refuse rfl (by decide +kernel) ⟨⟨Nat.le_of_ble_eq_true rfl, Nat.le_of_ble_eq_true rfl⟩, rfl, rfl, Nat.zero_le _, Nat.zero_le _⟩ 0 0 6 rfl rfl rfl rfl hl.1 rfl (Nat.le_of_ble_eq_true rfl) [0] [1] [wI cy q S M sk sc mk ms mp] (fun (u_ : (Int) × (Int) × (Int)) => [wV cy b q p x e cr t0 ab be u_.1 u_.2.1 u_.2.2, wI cy q S M sk sc mk ms mp]) 2 (by decide +kernel) rfl rfl rfl (fun _ => rfl) (fun _ => rfl) (fun _ => rfl) dX7_left_25 (fun z_2 u_ H_ lo_ hw_ W_ => ?_)
    obtain ⟨rb2_3, rn2_4, ru2_5⟩ := u_
    have W_ : WD D A_ s_.heap ([wV cy b q p x e cr t0 ab be rb2_3 rn2_4 ru2_5, wI cy q S M sk sc mk ms mp]) H_ lo_ := W_
    replace hw_ : (z_2 = (-2)) ∧ (((-2) = -2 ∧ rb2_3 = rb + 1 ∧ rn2_4 = rn ∧ ru2_5 = ru) ∨ ((-2) = -3 ∧ rb2_3 = rb ∧ rn2_4 = rn + 1 ∧ ru2_5 = ru) ∨ (¬ (-2) = -2 ∧ ¬ (-2) = -3 ∧ rb2_3 = rb ∧ rn2_4 = rn ∧ ru2_5 = ru + 1)) := hw_
    obtain ⟨f25_v, f25_k⟩ := hw_
    exact hret _ _ _ _ z_2 (rb2_3, rn2_4, ru2_5) dX7_left_28 (by (try dsimp only) <;> (first | (refine Or.inl (⟨?_, ?_, ?_, ?_, ?_⟩) <;> (first | omega | rfl | assumption)) | (refine Or.inr (⟨?_, ?_, ?_, ?_, ?_⟩) <;> (first | omega | rfl | assumption)))) W_
  · refine lv_aload_n F_.1 F_.2.1 dX7_left_11 rfl (lv_at hl 0 rfl) ?_
    refine z_get F_ K_ W_ 0 0 0 rfl rfl rfl (C := RX7) (T := TX7) (N := 13) rfl (by decide) hinX7 (List.mem_of_getElem? (i := 1) rfl) dX7_left_12 ?_
    refine lv_iload_n F_.1 F_.2.1 dX7_left_15 rfl (lv_at hl 1 rfl) ?_
    refine z_callVip F_ K_ W_ [.int (zi h)] (c_X4_leastLiked l_ D cy q S M sk sc mk ms mp h (by omega) (by omega) bsk bsc bmk bms bmp (by first | omega | assumption)) 1 rfl gX7_left_X4_leastLiked rfl (by decide +kernel) ⟨⟨Nat.le_of_ble_eq_true rfl, Nat.le_of_ble_eq_true rfl⟩, rfl, rfl, Nat.zero_le _, Nat.zero_le _⟩ 0 0 4 rfl rfl rfl rfl hl.1 rfl (Nat.le_of_ble_eq_true rfl) [1] [0] [wV cy b q p x e cr t0 ab be rb rn ru] 2 (by decide +kernel) rfl rfl rfl dX7_left_16 (fun z_6 _ H_ lo_ hw_ W_ => ?_)
    replace hw_ : (z_6 = lstI S M sc mk ms mp h) := hw_
    have f16_v := hw_
    clear hw_
    refine z_goto (tgt := 28) F_ dX7_left_19 (by decide) ?_
    exact hret _ _ _ _ z_6 (rb, rn, ru) dX7_left_28 (by (try dsimp only) <;> (first | (refine Or.inl (⟨?_, ?_, ?_, ?_, ?_⟩) <;> (first | omega | rfl | assumption)) | (refine Or.inr (⟨?_, ?_, ?_, ?_, ?_⟩) <;> (first | omega | rfl | assumption)))) W_
abbrev rX7_needs : Room := { frames := 2, cells := 0, slots := 0, locals := 44 }
set_option maxHeartbeats 1000000 in
set_option maxRecDepth 100000 in
theorem c_X7_needs (l_ : Launch) (D : va_G) (cy : Nat → ClassId) (b : Nat → Nat) (q : Nat → Nat) (p : Nat → Nat) (x : Nat → Nat) (e : Nat → Nat) (cr : Nat → Nat) (t0 : Nat) (ab : Int) (be : Int) (rb : Int) (rn : Int) (ru : Int) (S : Int) (M : Int) (sk : Int → Int) (sc : Int → Int) (mk : Int → Int) (ms : Int → Int) (mp : Int → Int) (h : Int) (d : Int) (bS : 0 ≤ S ∧ S ≤ 3) (bM : 0 ≤ M ∧ M ≤ 8) (bsk : ∀ j : Int, 0 ≤ sk j ∧ sk j ≤ 5) (bsc : ∀ j : Int, 0 ≤ sc j ∧ sc j ≤ 99) (bmk : ∀ j : Int, 0 ≤ mk j ∧ mk j ≤ 5) (bms : ∀ j : Int, 0 ≤ ms j ∧ ms j ≤ 9) (bmp : ∀ j : Int, (-1) ≤ mp j ∧ mp j ≤ 2) (rh : -2147483648 ≤ h ∧ h < 2147483648) (rd : -2147483648 ≤ d ∧ d < 2147483648) : CTi l_ D cy yX7_needs wsX7_needs rX7_needs [.ref (b 0), .int (zi h), .int (zi d)] ([wV cy b q p x e cr t0 ab be rb rn ru, wI cy q S M sk sc mk ms mp]) (fun (z : Int) (u : (Int) × (Int) × (Int)) => ((((0 ≤ h ∧ h < S) ∧ (1 ≤ d ∧ d ≤ 30)) ∧ z = needZ (sk h) d (cntZ mp h M) ∧ u.1 = rb ∧ u.2.1 = rn ∧ u.2.2 = ru) ∨ (¬ ((0 ≤ h ∧ h < S) ∧ (1 ≤ d ∧ d ≤ 30)) ∧ z = -2 ∧ u.1 = rb + 1 ∧ u.2.1 = rn ∧ u.2.2 = ru))) (fun (u : (Int) × (Int) × (Int)) => [wV cy b q p x e cr t0 ab be u.1 u.2.1 u.2.2, wI cy q S M sk sc mk ms mp]) := by
  refine CTi.of RX7 cX7_needs 3 rfl (by decide) rfl (fun z u hz => rfl) (Nat.le_of_ble_eq_true rfl) ?_
  intro p_ e_ s_ m_ ar_ be_ me_ c_ Q_ A_ ls_ F_ K_ W_ hl hret
  have hl : lv_has ls_ 3 [(0, .ref (b 0)), (1, .int (zi h)), (2, .int (zi d))] := hl
  obtain ⟨H_, hH_⟩ : ∃ x, x = s_.heap := ⟨_, rfl⟩
  obtain ⟨lo_, hlo_⟩ : ∃ x : List Loc, x = [] := ⟨_, rfl⟩
  have W_ : WD D A_ s_.heap ([wV cy b q p x e cr t0 ab be rb rn ru, wI cy q S M sk sc mk ms mp]) H_ lo_ := by rw [hH_, hlo_]; exact W_
  rw [← hlo_]
  suffices hg_ : W p_ l_ e_ rX7_needs s_ m_ ar_ be_ me_ c_ H_ lo_ 0 0 Q_ (F0 m_ 0 ls_ []) by rw [hH_] at hg_; exact hg_
  clear hH_ hlo_
  have hinX4 : ∀ w ∈ u_ws RX4 TX4 11, w ∈ wsX7_needs := fun w h => List.mem_cons_of_mem _ (List.mem_append_right _ h)
  have hinX7 : ∀ w ∈ u_ws RX7 TX7 13, w ∈ wsX7_needs := fun w h => List.mem_cons_of_mem _ (List.mem_append_left _ (List.mem_append_right _ h))
  refine lv_aload_n F_.1 F_.2.1 dX7_needs_0 rfl (lv_at hl 0 rfl) ?_
  refine z_get F_ K_ W_ 0 0 0 rfl rfl rfl (C := RX7) (T := TX7) (N := 13) rfl (by decide) hinX7 (List.mem_of_getElem? (i := 1) rfl) dX7_needs_1 ?_
  refine lv_iload_n F_.1 F_.2.1 dX7_needs_4 rfl (lv_at hl 1 rfl) ?_
  refine z_callVip F_ K_ W_ [.int (zi h)] (c_X4_hasShip l_ D cy q S M sk sc mk ms mp h (by omega) (by omega) bsk bsc bmk bms bmp (by first | omega | assumption)) 1 rfl gX7_needs_X4_hasShip rfl (by decide +kernel) ⟨⟨Nat.le_of_ble_eq_true rfl, Nat.le_of_ble_eq_true rfl⟩, rfl, rfl, Nat.zero_le _, Nat.zero_le _⟩ 0 0 4 rfl rfl rfl rfl hl.1 rfl (Nat.le_of_ble_eq_true rfl) [1] [0] [wV cy b q p x e cr t0 ab be rb rn ru] 2 (by decide +kernel) rfl rfl rfl dX7_needs_5 (fun z_1 _ H_ lo_ hw_ W_ => ?_)
  replace hw_ : ((z_1 = 1 ∧ (0 ≤ h ∧ h < S)) ∨ (z_1 = 0 ∧ ¬ (0 ≤ h ∧ h < S))) := hw_
  have f5_v := hw_
  clear hw_
  refine z_if_eq (tgt := 18) F_ (by omega) dX7_needs_8 (by decide) (fun c8 => ?_) (fun c8 => ?_)
  · refine lv_aload_n F_.1 F_.2.1 dX7_needs_18 rfl (lv_at hl 0 rfl) ?_
    refine z_bipush F_ (by decide) dX7_needs_19 ?_
    refine z_callVi F_ K_ W_ [.int (zi (-2))] (c_X7_refuse l_ D cy b q p x e cr t0 ab be rb rn ru (-2) (by first | omega | assumption)) 1 rfl gX7_needs_X7_refuse rfl (by decide +kernel) ⟨⟨Nat.le_of_ble_eq_true rfl, Nat.le_of_ble_eq_true rfl⟩, rfl, rfl, Nat.zero_le _, Nat.zero_le _⟩ 0 0 6 rfl rfl rfl rfl hl.1 rfl (Nat.le_of_ble_eq_true rfl) [0] [1] [wI cy q S M sk sc mk ms mp] (fun (u_ : (Int) × (Int) × (Int)) => [wV cy b q p x e cr t0 ab be u_.1 u_.2.1 u_.2.2, wI cy q S M sk sc mk ms mp]) 2 (by decide +kernel) rfl rfl rfl (fun _ => rfl) (fun _ => rfl) (fun _ => rfl) dX7_needs_21 (fun z_2 u_ H_ lo_ hw_ W_ => ?_)
    obtain ⟨rb2_3, rn2_4, ru2_5⟩ := u_
    have W_ : WD D A_ s_.heap ([wV cy b q p x e cr t0 ab be rb2_3 rn2_4 ru2_5, wI cy q S M sk sc mk ms mp]) H_ lo_ := W_
    replace hw_ : (z_2 = (-2)) ∧ (((-2) = -2 ∧ rb2_3 = rb + 1 ∧ rn2_4 = rn ∧ ru2_5 = ru) ∨ ((-2) = -3 ∧ rb2_3 = rb ∧ rn2_4 = rn + 1 ∧ ru2_5 = ru) ∨ (¬ (-2) = -2 ∧ ¬ (-2) = -3 ∧ rb2_3 = rb ∧ rn2_4 = rn ∧ ru2_5 = ru + 1)) := hw_
    obtain ⟨f21_v, f21_k⟩ := hw_
    exact hret _ _ _ _ z_2 (rb2_3, rn2_4, ru2_5) dX7_needs_24 (by (try dsimp only) <;> (first | (refine Or.inl (⟨?_, ?_, ?_, ?_, ?_⟩) <;> (first | omega | rfl | assumption)) | (refine Or.inr (⟨?_, ?_, ?_, ?_, ?_⟩) <;> (first | omega | rfl | assumption)))) W_
  · refine lv_iload_n F_.1 F_.2.1 dX7_needs_11 rfl (lv_at hl 2 rfl) ?_
    refine z_callSip F_ K_ W_ [.int (zi d)] (c_X7_isDistance l_ D cy d (by first | omega | assumption)) 1 rfl gX7_needs_X7_isDistance rfl (by decide +kernel) ⟨⟨Nat.le_of_ble_eq_true rfl, Nat.le_of_ble_eq_true rfl⟩, rfl, rfl, Nat.zero_le _, Nat.zero_le _⟩ hl.1 rfl (Nat.le_of_ble_eq_true rfl) ([] : List Nat) [0, 1] [wV cy b q p x e cr t0 ab be rb rn ru, wI cy q S M sk sc mk ms mp] 2 (by decide +kernel) rfl rfl rfl dX7_needs_12 (fun z_6 _ H_ lo_ hw_ W_ => ?_)
    replace hw_ : ((z_6 = 1 ∧ (1 ≤ d ∧ d ≤ 30)) ∨ (z_6 = 0 ∧ ¬ (1 ≤ d ∧ d ≤ 30))) := hw_
    have f12_v := hw_
    clear hw_
    refine z_if_ne (tgt := 25) F_ (by omega) dX7_needs_15 (by decide) (fun c15 => ?_) (fun c15 => ?_)
    · refine lv_aload_n F_.1 F_.2.1 dX7_needs_25 rfl (lv_at hl 0 rfl) ?_
      refine z_get F_ K_ W_ 0 0 0 rfl rfl rfl (C := RX7) (T := TX7) (N := 13) rfl (by decide) hinX7 (List.mem_of_getElem? (i := 1) rfl) dX7_needs_26 ?_
      refine z_get F_ K_ W_ 1 0 2 rfl rfl rfl (C := RX4) (T := TX4) (N := 11) rfl (by decide) hinX4 (List.mem_of_getElem? (i := 2) rfl) dX7_needs_29 ?_
      refine lv_iload_n F_.1 F_.2.1 dX7_needs_32 rfl (lv_at hl 1 rfl) ?_
      refine z_iald F_ K_ W_ 1 1 rfl rfl (by omega) (by decide) dX7_needs_33 ?_
      have b_7 := bsk h
      refine lv_iload_n F_.1 F_.2.1 dX7_needs_34 rfl (lv_at hl 2 rfl) ?_
      refine lv_aload_n F_.1 F_.2.1 dX7_needs_35 rfl (lv_at hl 0 rfl) ?_
      refine z_get F_ K_ W_ 0 0 0 rfl rfl rfl (C := RX7) (T := TX7) (N := 13) rfl (by decide) hinX7 (List.mem_of_getElem? (i := 1) rfl) dX7_needs_36 ?_
      refine lv_iload_n F_.1 F_.2.1 dX7_needs_39 rfl (lv_at hl 1 rfl) ?_
      refine z_callVip F_ K_ W_ [.int (zi h)] (c_X4_menAt l_ D cy q S M sk sc mk ms mp h (by omega) (by omega) bsk bsc bmk bms bmp (by first | omega | assumption)) 1 rfl gX7_needs_X4_menAt rfl (by decide +kernel) ⟨⟨Nat.le_of_ble_eq_true rfl, Nat.le_of_ble_eq_true rfl⟩, rfl, rfl, Nat.zero_le _, Nat.zero_le _⟩ 0 0 4 rfl rfl rfl rfl hl.1 rfl (Nat.le_of_ble_eq_true rfl) [1] [0] [wV cy b q p x e cr t0 ab be rb rn ru] 2 (by decide +kernel) rfl rfl rfl dX7_needs_40 (fun z_8 _ H_ lo_ hw_ W_ => ?_)
      replace hw_ : (z_8 = cntZ mp h M) := hw_
      have f40_v := hw_
      clear hw_
      have f40_v := f40_v.symm
      subst f40_v
      have hcb := cntZ_b mp h (m := M) (by omega)
      refine z_callSip F_ K_ W_ [.int (zi (sk h)), .int (zi d), .int (zi (cntZ mp h M))] (c_X5_need l_ D cy (sk h) d (cntZ mp h M) (by first | omega | assumption) (by first | omega | assumption) (by first | omega | assumption) (by first | omega | assumption) (by first | omega | assumption)) 3 rfl gX7_needs_X5_need rfl (by decide +kernel) ⟨⟨Nat.le_of_ble_eq_true rfl, Nat.le_of_ble_eq_true rfl⟩, rfl, rfl, Nat.zero_le _, Nat.zero_le _⟩ hl.1 rfl (Nat.le_of_ble_eq_true rfl) ([] : List Nat) [0, 1] [wV cy b q p x e cr t0 ab be rb rn ru, wI cy q S M sk sc mk ms mp] 2 (by decide +kernel) rfl rfl rfl dX7_needs_43 (fun z_9 _ H_ lo_ hw_ W_ => ?_)
      replace hw_ : (z_9 = needZ (sk h) d (cntZ mp h M)) := hw_
      have f43_v := hw_
      clear hw_
      exact hret _ _ _ _ z_9 (rb, rn, ru) dX7_needs_46 (by (try dsimp only) <;> (first | (refine Or.inl (⟨?_, ?_, ?_, ?_, ?_⟩) <;> (first | omega | rfl | assumption)) | (refine Or.inr (⟨?_, ?_, ?_, ?_, ?_⟩) <;> (first | omega | rfl | assumption)))) W_
    · refine lv_aload_n F_.1 F_.2.1 dX7_needs_18 rfl (lv_at hl 0 rfl) ?_
      refine z_bipush F_ (by decide) dX7_needs_19 ?_
      refine z_callVi F_ K_ W_ [.int (zi (-2))] (c_X7_refuse l_ D cy b q p x e cr t0 ab be rb rn ru (-2) (by first | omega | assumption)) 1 rfl gX7_needs_X7_refuse rfl (by decide +kernel) ⟨⟨Nat.le_of_ble_eq_true rfl, Nat.le_of_ble_eq_true rfl⟩, rfl, rfl, Nat.zero_le _, Nat.zero_le _⟩ 0 0 6 rfl rfl rfl rfl hl.1 rfl (Nat.le_of_ble_eq_true rfl) [0] [1] [wI cy q S M sk sc mk ms mp] (fun (u_ : (Int) × (Int) × (Int)) => [wV cy b q p x e cr t0 ab be u_.1 u_.2.1 u_.2.2, wI cy q S M sk sc mk ms mp]) 2 (by decide +kernel) rfl rfl rfl (fun _ => rfl) (fun _ => rfl) (fun _ => rfl) dX7_needs_21 (fun z_10 u_ H_ lo_ hw_ W_ => ?_)
      obtain ⟨rb2_11, rn2_12, ru2_13⟩ := u_
      have W_ : WD D A_ s_.heap ([wV cy b q p x e cr t0 ab be rb2_11 rn2_12 ru2_13, wI cy q S M sk sc mk ms mp]) H_ lo_ := W_
      replace hw_ : (z_10 = (-2)) ∧ (((-2) = -2 ∧ rb2_11 = rb + 1 ∧ rn2_12 = rn ∧ ru2_13 = ru) ∨ ((-2) = -3 ∧ rb2_11 = rb ∧ rn2_12 = rn + 1 ∧ ru2_13 = ru) ∨ (¬ (-2) = -2 ∧ ¬ (-2) = -3 ∧ rb2_11 = rb ∧ rn2_12 = rn ∧ ru2_13 = ru + 1)) := hw_
      obtain ⟨f21_v, f21_k⟩ := hw_
      exact hret _ _ _ _ z_10 (rb2_11, rn2_12, ru2_13) dX7_needs_24 (by (try dsimp only) <;> (first | (refine Or.inl (⟨?_, ?_, ?_, ?_, ?_⟩) <;> (first | omega | rfl | assumption)) | (refine Or.inr (⟨?_, ?_, ?_, ?_, ?_⟩) <;> (first | omega | rfl | assumption)))) W_
abbrev rX7_far : Room := { frames := 3, cells := 0, slots := 0, locals := 67 }
set_option maxHeartbeats 1000000 in
set_option maxRecDepth 100000 in
theorem c_X7_far (l_ : Launch) (D : va_G) (cy : Nat → ClassId) (b : Nat → Nat) (q : Nat → Nat) (p : Nat → Nat) (x : Nat → Nat) (e : Nat → Nat) (cr : Nat → Nat) (t0 : Nat) (ab : Int) (be : Int) (rb : Int) (rn : Int) (ru : Int) (S : Int) (M : Int) (sk : Int → Int) (sc : Int → Int) (mk : Int → Int) (ms : Int → Int) (mp : Int → Int) (h : Int) (bS : 0 ≤ S ∧ S ≤ 3) (bM : 0 ≤ M ∧ M ≤ 8) (bsk : ∀ j : Int, 0 ≤ sk j ∧ sk j ≤ 5) (bsc : ∀ j : Int, 0 ≤ sc j ∧ sc j ≤ 99) (bmk : ∀ j : Int, 0 ≤ mk j ∧ mk j ≤ 5) (bms : ∀ j : Int, 0 ≤ ms j ∧ ms j ≤ 9) (bmp : ∀ j : Int, (-1) ≤ mp j ∧ mp j ≤ 2) (rh : -2147483648 ≤ h ∧ h < 2147483648) : CTi l_ D cy yX7_far wsX7_far rX7_far [.ref (b 0), .int (zi h)] ([wV cy b q p x e cr t0 ab be rb rn ru, wI cy q S M sk sc mk ms mp]) (fun (z : Int) (u : (Int) × (Int) × (Int)) => (((0 ≤ h ∧ h < S) ∧ (0 ≤ z ∧ z ≤ 30) ∧ (z = 0 ∨ canI S M sk ms mp h z) ∧ (∀ d, z < d → d ≤ 30 → ¬ canI S M sk ms mp h d) ∧ u.1 = rb ∧ u.2.1 = rn ∧ u.2.2 = ru) ∨ (¬ (0 ≤ h ∧ h < S) ∧ z = -2 ∧ u.1 = rb + 1 ∧ u.2.1 = rn ∧ u.2.2 = ru))) (fun (u : (Int) × (Int) × (Int)) => [wV cy b q p x e cr t0 ab be u.1 u.2.1 u.2.2, wI cy q S M sk sc mk ms mp]) := by
  refine CTi.of RX7 cX7_far 3 rfl (by decide) rfl (fun z u hz => rfl) (Nat.le_of_ble_eq_true rfl) ?_
  intro p_ e_ s_ m_ ar_ be_ me_ c_ Q_ A_ ls_ F_ K_ W_ hl hret
  have hl : lv_has ls_ 3 [(0, .ref (b 0)), (1, .int (zi h))] := hl
  obtain ⟨H_, hH_⟩ : ∃ x, x = s_.heap := ⟨_, rfl⟩
  obtain ⟨lo_, hlo_⟩ : ∃ x : List Loc, x = [] := ⟨_, rfl⟩
  have W_ : WD D A_ s_.heap ([wV cy b q p x e cr t0 ab be rb rn ru, wI cy q S M sk sc mk ms mp]) H_ lo_ := by rw [hH_, hlo_]; exact W_
  rw [← hlo_]
  suffices hg_ : W p_ l_ e_ rX7_far s_ m_ ar_ be_ me_ c_ H_ lo_ 0 0 Q_ (F0 m_ 0 ls_ []) by rw [hH_] at hg_; exact hg_
  clear hH_ hlo_
  have hinX7 : ∀ w ∈ u_ws RX7 TX7 13, w ∈ wsX7_far := fun w h => List.mem_cons_of_mem _ (List.mem_append_left _ (List.mem_append_right _ h))
  refine lv_aload_n F_.1 F_.2.1 dX7_far_0 rfl (lv_at hl 0 rfl) ?_
  refine z_get F_ K_ W_ 0 0 0 rfl rfl rfl (C := RX7) (T := TX7) (N := 13) rfl (by decide) hinX7 (List.mem_of_getElem? (i := 1) rfl) dX7_far_1 ?_
  refine lv_iload_n F_.1 F_.2.1 dX7_far_4 rfl (lv_at hl 1 rfl) ?_
  refine z_callVip F_ K_ W_ [.int (zi h)] (c_X4_hasShip l_ D cy q S M sk sc mk ms mp h (by omega) (by omega) bsk bsc bmk bms bmp (by first | omega | assumption)) 1 rfl gX7_far_X4_hasShip rfl (by decide +kernel) ⟨⟨Nat.le_of_ble_eq_true rfl, Nat.le_of_ble_eq_true rfl⟩, rfl, rfl, Nat.zero_le _, Nat.zero_le _⟩ 0 0 4 rfl rfl rfl rfl hl.1 rfl (Nat.le_of_ble_eq_true rfl) [1] [0] [wV cy b q p x e cr t0 ab be rb rn ru] 2 (by decide +kernel) rfl rfl rfl dX7_far_5 (fun z_1 _ H_ lo_ hw_ W_ => ?_)
  replace hw_ : ((z_1 = 1 ∧ (0 ≤ h ∧ h < S)) ∨ (z_1 = 0 ∧ ¬ (0 ≤ h ∧ h < S))) := hw_
  have f5_v := hw_
  clear hw_
  refine z_if_ne (tgt := 18) F_ (by omega) dX7_far_8 (by decide) (fun c8 => ?_) (fun c8 => ?_)
  · refine z_bipush F_ (by decide) dX7_far_18 ?_
    refine lv_istore_n (lv' := [(2, .int (zi 30)), (0, .ref (b 0)), (1, .int (zi h))]) F_.1 F_.2.1 dX7_far_20 rfl hl (by decide) rfl (fun ls_ hl => ?_)
    have L21 : ∀ (n_ : Nat) (d : Int) (hd : 0 ≤ d ∧ d ≤ 30) (hn : ∀ v, d < v → v ≤ 30 → ¬ canI S M sk ms mp h v) (hm_ : (d + 1 : Int) < (n_ : Int)) (ls_ : Array Slot) (H_ : Heap) (lo_ : List Loc), WD D A_ s_.heap ([wV cy b q p x e cr t0 ab be rb rn ru, wI cy q S M sk sc mk ms mp]) H_ lo_ → lv_has ls_ 3 [(2, .int (zi d)), (0, .ref (b 0)), (1, .int (zi h))] → W p_ l_ e_ rX7_far s_ m_ ar_ be_ me_ c_ H_ lo_ 0 0 Q_ (F0 m_ 21 ls_ []) := by
      intro n_
      induction n_ with
      | zero =>
        intro d hd hn hm_ ls_ H_ lo_ _ _
        exact absurd hm_ (by omega)
      | succ n_ ih_ =>
        intro d hd hn hm_ ls_ H_ lo_ W_ hl
        have ih21 := ih_
        refine lv_iload_n F_.1 F_.2.1 dX7_far_21 rfl (lv_at hl 0 rfl) ?_
        refine z_if_le (tgt := 43) F_ (by omega) dX7_far_22 (by decide) (fun c22 => ?_) (fun c22 => ?_)
        · refine lv_iload_n F_.1 F_.2.1 dX7_far_43 rfl (lv_at hl 0 rfl) ?_
          exact hret _ _ _ _ d (rb, rn, ru) dX7_far_44 (by (try dsimp only) <;> (first | exact Or.inl ⟨by omega, hd, Or.inl (by omega), hn, rfl, rfl, rfl⟩ | exact Or.inl ⟨by omega, hd, Or.inr (f31_v.resolve_right (fun w_ => absurd w_.1 (by omega))).2, hn, rfl, rfl, rfl⟩)) W_
        · refine lv_aload_n F_.1 F_.2.1 dX7_far_25 rfl (lv_at hl 1 rfl) ?_
          refine z_get F_ K_ W_ 0 0 0 rfl rfl rfl (C := RX7) (T := TX7) (N := 13) rfl (by decide) hinX7 (List.mem_of_getElem? (i := 1) rfl) dX7_far_26 ?_
          refine lv_iload_n F_.1 F_.2.1 dX7_far_29 rfl (lv_at hl 2 rfl) ?_
          refine lv_iload_n F_.1 F_.2.1 dX7_far_30 rfl (lv_at hl 0 rfl) ?_
          refine z_callVip F_ K_ W_ [.int (zi h), .int (zi d)] (c_X4_canSail l_ D cy q S M sk sc mk ms mp h d (by omega) (by omega) bsk bsc bmk bms bmp (by first | omega | assumption) (by first | omega | assumption) (by first | omega | assumption)) 2 rfl gX7_far_X4_canSail rfl (by decide +kernel) ⟨⟨Nat.le_of_ble_eq_true rfl, Nat.le_of_ble_eq_true rfl⟩, rfl, rfl, Nat.zero_le _, Nat.zero_le _⟩ 0 0 4 rfl rfl rfl rfl hl.1 rfl (Nat.le_of_ble_eq_true rfl) [1] [0] [wV cy b q p x e cr t0 ab be rb rn ru] 2 (by decide +kernel) rfl rfl rfl dX7_far_31 (fun z_2 _ H_ lo_ hw_ W_ => ?_)
          replace hw_ : ((z_2 = 1 ∧ ((0 ≤ h ∧ h < S) ∧ 0 < cntZ mp h M ∧ needZ (sk h) d (cntZ mp h M) ≤ sumZ mp ms h M)) ∨ (z_2 = 0 ∧ ¬ ((0 ≤ h ∧ h < S) ∧ 0 < cntZ mp h M ∧ needZ (sk h) d (cntZ mp h M) ≤ sumZ mp ms h M))) := hw_
          have f31_v := hw_
          clear hw_
          refine z_if_ne (tgt := 43) F_ (by omega) dX7_far_34 (by decide) (fun c34 => ?_) (fun c34 => ?_)
          · refine lv_iload_n F_.1 F_.2.1 dX7_far_43 rfl (lv_at hl 0 rfl) ?_
            exact hret _ _ _ _ d (rb, rn, ru) dX7_far_44 (by (try dsimp only) <;> (first | exact Or.inl ⟨by omega, hd, Or.inl (by omega), hn, rfl, rfl, rfl⟩ | exact Or.inl ⟨by omega, hd, Or.inr (f31_v.resolve_right (fun w_ => absurd w_.1 (by omega))).2, hn, rfl, rfl, rfl⟩)) W_
          · refine z_iinc (lv' := [(2, .int (zi (d + (-1)))), (0, .ref (b 0)), (1, .int (zi h))]) F_ dX7_far_37 hl (k := 0) rfl (by decide) rfl (fun ls_ hl => ?_)
            refine z_goto (tgt := 21) F_ dX7_far_40 (by decide) ?_
            exact ih21 (d + (-1)) (by first | omega | assumption) (by intro v h1 h2; rcases Int.lt_or_eq_of_le (show d ≤ v by omega) with q_ | q_; exact hn v q_ h2; (rw [← q_]; exact (f31_v.resolve_left (fun w_ => absurd w_.1 (by omega))).2)) (by omega) ls_ H_ lo_ W_ (lv_sub hl [0, 1, 2] rfl)
    exact L21 ((30 + 1 : Int).toNat + 1) 30 (by first | omega | assumption) (by intro v h1 h2; omega) (by have := Int.self_le_toNat (30 + 1 : Int); omega) ls_ H_ lo_ W_ (lv_sub hl [0, 1, 2] rfl)
  · refine lv_aload_n F_.1 F_.2.1 dX7_far_11 rfl (lv_at hl 0 rfl) ?_
    refine z_bipush F_ (by decide) dX7_far_12 ?_
    refine z_callVi F_ K_ W_ [.int (zi (-2))] (c_X7_refuse l_ D cy b q p x e cr t0 ab be rb rn ru (-2) (by first | omega | assumption)) 1 rfl gX7_far_X7_refuse rfl (by decide +kernel) ⟨⟨Nat.le_of_ble_eq_true rfl, Nat.le_of_ble_eq_true rfl⟩, rfl, rfl, Nat.zero_le _, Nat.zero_le _⟩ 0 0 6 rfl rfl rfl rfl hl.1 rfl (Nat.le_of_ble_eq_true rfl) [0] [1] [wI cy q S M sk sc mk ms mp] (fun (u_ : (Int) × (Int) × (Int)) => [wV cy b q p x e cr t0 ab be u_.1 u_.2.1 u_.2.2, wI cy q S M sk sc mk ms mp]) 2 (by decide +kernel) rfl rfl rfl (fun _ => rfl) (fun _ => rfl) (fun _ => rfl) dX7_far_14 (fun z_3 u_ H_ lo_ hw_ W_ => ?_)
    obtain ⟨rb2_4, rn2_5, ru2_6⟩ := u_
    have W_ : WD D A_ s_.heap ([wV cy b q p x e cr t0 ab be rb2_4 rn2_5 ru2_6, wI cy q S M sk sc mk ms mp]) H_ lo_ := W_
    replace hw_ : (z_3 = (-2)) ∧ (((-2) = -2 ∧ rb2_4 = rb + 1 ∧ rn2_5 = rn ∧ ru2_6 = ru) ∨ ((-2) = -3 ∧ rb2_4 = rb ∧ rn2_5 = rn + 1 ∧ ru2_6 = ru) ∨ (¬ (-2) = -2 ∧ ¬ (-2) = -3 ∧ rb2_4 = rb ∧ rn2_5 = rn ∧ ru2_6 = ru + 1)) := hw_
    obtain ⟨f14_v, f14_k⟩ := hw_
    exact hret _ _ _ _ z_3 (rb2_4, rn2_5, ru2_6) dX7_far_17 (by (try dsimp only) <;> (refine Or.inr (⟨?_, ?_, ?_, ?_, ?_⟩) <;> (first | omega | rfl | assumption))) W_
