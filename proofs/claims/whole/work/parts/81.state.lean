/-! behind each call of both: the same answer, and the same relations -/
def CR (rb rn ru : Int) (rf : Int → Int) : Prop := rb = rf 0 ∧ rn = rf 1 ∧ ru = rf 2
theorem CR_b {rb rn ru rb2 rn2 ru2 : Int} {rf rf2 : Int → Int} (h : CR rb rn ru rf) (a : rb2 = rb + 1 ∧ rn2 = rn ∧ ru2 = ru) (b : rf2 = rfZ rf 0) : CR rb2 rn2 ru2 rf2 := by
  obtain ⟨h1, h2, h3⟩ := h
  subst b
  refine ⟨?_, ?_, ?_⟩ <;> unfold rfZ <;> first | (rw [zu_s]; omega) | (rw [zu_n _ _ (by omega)]; omega)
theorem CR_n {rb rn ru rb2 rn2 ru2 : Int} {rf rf2 : Int → Int} (h : CR rb rn ru rf) (a : rb2 = rb ∧ rn2 = rn + 1 ∧ ru2 = ru) (b : rf2 = rfZ rf 1) : CR rb2 rn2 ru2 rf2 := by
  obtain ⟨h1, h2, h3⟩ := h
  subst b
  refine ⟨?_, ?_, ?_⟩ <;> unfold rfZ <;> first | (rw [zu_s]; omega) | (rw [zu_n _ _ (by omega)]; omega)
theorem CR_f {rb rn ru rb2 rn2 ru2 : Int} {rf rf2 : Int → Int} (h : CR rb rn ru rf) (a : rb2 = rb ∧ rn2 = rn ∧ ru2 = ru + 1) (b : rf2 = rfZ rf 2) : CR rb2 rn2 ru2 rf2 := by
  obtain ⟨h1, h2, h3⟩ := h
  subst b
  refine ⟨?_, ?_, ?_⟩ <;> unfold rfZ <;> first | (rw [zu_s]; omega) | (rw [zu_n _ _ (by omega)]; omega)
theorem CR_k {rb rn ru rb2 rn2 ru2 : Int} {rf rf2 : Int → Int} (h : CR rb rn ru rf) (a : rb2 = rb ∧ rn2 = rn ∧ ru2 = ru) (b : rf2 = rf) : CR rb2 rn2 ru2 rf2 := by
  obtain ⟨h1, h2, h3⟩ := h
  obtain ⟨rfl, rfl, rfl⟩ := a
  subst b
  exact ⟨h1, h2, h3⟩
def TX (ln : Int) (xb : Int → Int) (bl : Int) (yb : Int → Int) : Prop := bl = ln ∧ yb = xb ∧ 0 ≤ ln ∧ ln ≤ 150
theorem TX_k {ln bl ln2 bl2 : Int} {xb yb xb2 yb2 : Int → Int} (h : TX ln xb bl yb) (a : ln2 = ln ∧ xb2 = xb) (b : yb2 = yb ∧ bl2 = bl) : TX ln2 xb2 bl2 yb2 := by
  obtain ⟨rfl, rfl⟩ := a
  obtain ⟨rfl, rfl⟩ := b
  exact h
theorem TX_a {ln bl ln2 bl2 c : Int} {xb yb xb2 yb2 : Int → Int} (h : TX ln xb bl yb) (hl : ln < 150) (a : ln2 = ln + 1 ∧ xb2 = zu xb ln c) (b : yb2 = zu yb bl c ∧ bl2 = bl + 1) : TX ln2 xb2 bl2 yb2 := by
  obtain ⟨h1, h2, h3, h4⟩ := h
  obtain ⟨rfl, rfl⟩ := a
  obtain ⟨rfl, rfl⟩ := b
  subst h1
  subst h2
  exact ⟨rfl, rfl, by omega, by omega⟩
def FR (ab be abR beR : Int) : Prop := abR = ab ∧ beR = be ∧ (0 ≤ ab ∧ ab ≤ 8) ∧ (1 ≤ be ∧ be ≤ 8)
theorem FR_l {ab be abR beR n c : Int} (h1 : ab = min n c / gcdZ (min n c) c) (h2 : be = c / gcdZ (min n c) c) (h3 : abR = min n c / gcdZ (min n c) c) (h4 : beR = c / gcdZ (min n c) c) (hn : 0 ≤ n ∧ n ≤ 8) (hc : 0 < c ∧ c ≤ 8) : FR ab be abR beR := by
  have hg : 1 ≤ gcdZ (min n c) c ∧ gcdZ (min n c) c ≤ c := by
    unfold gcdZ
    have a := Nat.gcd_pos_of_pos_right (min n c).toNat (n := c.toNat) (by omega)
    have b := Nat.gcd_le_right (min n c).toNat (n := c.toNat) (by omega)
    omega
  obtain ⟨d, hd⟩ : ∃ d, d = gcdZ (min n c) c := ⟨_, rfl⟩
  rw [← hd] at h1 h2 h3 h4 hg
  refine ⟨by rw [h1, h3], by rw [h2, h4], ?_, ?_⟩
  · have a := Int.ediv_nonneg (a := min n c) (b := d) (by omega) (by omega)
    have b := Int.ediv_le_self d (a := min n c) (by omega)
    omega
  · have a : 1 ≤ c / d := (Int.le_ediv_iff_mul_le (by omega)).mpr (by omega)
    have b := Int.ediv_le_self d (a := c) (by omega)
    omega
def RR (r1 r2 r3 r4 : Int) : Prop := 0 ≤ r1 ∧ r1 ≤ 5 ∧ 0 ≤ r2 ∧ r2 ≤ 6 ∧ 0 ≤ r3 ∧ r3 ≤ 6 ∧ 0 ≤ r4 ∧ r4 ≤ 8
theorem REL_RR {S : Int} {M : Int} {sk : Int → Int} {sc : Int → Int} {mk : Int → Int} {ms : Int → Int} {mp : Int → Int} {r1 : Int} {f1 : Int → Int} {r2 : Int} {f2 : Int → Int} {r3 : Int} {f3 : Int → Int} {r4 : Int} {f4 : Int → Int} {g : Int → Int} (r : REL S M sk sc mk ms mp r1 f1 r2 f2 r3 f3 r4 f4 g) : RR r1 r2 r3 r4 := by
  have a := r.2.1.2.1
  have b := r.2.2.1.2.1
  have c := r.2.2.2.1.2.1
  have d := r.2.2.2.2.2.2.1
  exact ⟨a.1, a.2, b.1, b.2, c.1, c.2, d.1, d.2⟩
def IMG (kp ik kq : Int → Int) (SK : Int) (MK : Int) (skK : Int → Int) (scK : Int → Int) (mkK : Int → Int) (msK : Int → Int) (mpK : Int → Int) (r1K : Int) (f1K : Int → Int) (r2K : Int) (f2K : Int → Int) (r3K : Int) (f3K : Int → Int) (r4K : Int) (f4K : Int → Int) (SL : Int) (ML : Int) (skL : Int → Int) (scL : Int → Int) (mkL : Int → Int) (msL : Int → Int) (mpL : Int → Int) (r1L : Int) (f1L : Int → Int) (r2L : Int) (f2L : Int → Int) (r3L : Int) (f3L : Int → Int) (r4L : Int) (f4L : Int → Int) : Prop := ik 0 = kp 0 ∧ ik 1 = kp 1 ∧ (kp 0 = 1 → REL SK MK skK scK mkK msK mpK r1K f1K r2K f2K r3K f3K r4K f4K (shZ kq (192 * 0))) ∧ (kp 1 = 1 → REL SL ML skL scL mkL msL mpL r1L f1L r2L f2L r3L f3L r4L f4L (shZ kq (192 * 1))) ∧ RR r1K r2K r3K r4K ∧ RR r1L r2L r3L r4L
theorem IMG_0 {kp ik kq : Int → Int} {SK : Int} {MK : Int} {skK : Int → Int} {scK : Int → Int} {mkK : Int → Int} {msK : Int → Int} {mpK : Int → Int} {r1K : Int} {f1K : Int → Int} {r2K : Int} {f2K : Int → Int} {r3K : Int} {f3K : Int → Int} {r4K : Int} {f4K : Int → Int} {SL : Int} {ML : Int} {skL : Int → Int} {scL : Int → Int} {mkL : Int → Int} {msL : Int → Int} {mpL : Int → Int} {r1L : Int} {f1L : Int → Int} {r2L : Int} {f2L : Int → Int} {r3L : Int} {f3L : Int → Int} {r4L : Int} {f4L : Int → Int} {S : Int} {M : Int} {sk : Int → Int} {sc : Int → Int} {mk : Int → Int} {ms : Int → Int} {mp : Int → Int} {r1 : Int} {f1 : Int → Int} {r2 : Int} {f2 : Int → Int} {r3 : Int} {f3 : Int → Int} {r4 : Int} {f4 : Int → Int} {g0 : Int → Int} {g1 : Int → Int} (h : IMG kp ik kq SK MK skK scK mkK msK mpK r1K f1K r2K f2K r3K f3K r4K f4K SL ML skL scL mkL msL mpL r1L f1L r2L f2L r3L f3L r4L f4L) (r : REL S M sk sc mk ms mp r1 f1 r2 f2 r3 f3 r4 f4 g1) (r' : REL S M sk sc mk ms mp r1 f1 r2 f2 r3 f3 r4 f4 (shZ (imG kq g0 0 192) (192 * 0))) : IMG (zu kp 0 1) (zu ik 0 1) (imG kq g0 0 192) S M sk sc mk ms mp r1 f1 r2 f2 r3 f3 r4 f4 SL ML skL scL mkL msL mpL r1L f1L r2L f2L r3L f3L r4L f4L := by
  obtain ⟨h1, h2, h3, h4, h5, h6⟩ := h
  refine ⟨rfl, ?_, fun _ => r', fun q => ?_, REL_RR r, h6⟩
  · rw [zu_n _ _ (by omega), zu_n _ _ (by omega)]; exact h2
  · rw [zu_n _ _ (by omega)] at q
    exact REL_io (by omega) g0 (h4 q)
theorem IMG_1 {kp ik kq : Int → Int} {SK : Int} {MK : Int} {skK : Int → Int} {scK : Int → Int} {mkK : Int → Int} {msK : Int → Int} {mpK : Int → Int} {r1K : Int} {f1K : Int → Int} {r2K : Int} {f2K : Int → Int} {r3K : Int} {f3K : Int → Int} {r4K : Int} {f4K : Int → Int} {SL : Int} {ML : Int} {skL : Int → Int} {scL : Int → Int} {mkL : Int → Int} {msL : Int → Int} {mpL : Int → Int} {r1L : Int} {f1L : Int → Int} {r2L : Int} {f2L : Int → Int} {r3L : Int} {f3L : Int → Int} {r4L : Int} {f4L : Int → Int} {S : Int} {M : Int} {sk : Int → Int} {sc : Int → Int} {mk : Int → Int} {ms : Int → Int} {mp : Int → Int} {r1 : Int} {f1 : Int → Int} {r2 : Int} {f2 : Int → Int} {r3 : Int} {f3 : Int → Int} {r4 : Int} {f4 : Int → Int} {g0 : Int → Int} {g1 : Int → Int} (h : IMG kp ik kq SK MK skK scK mkK msK mpK r1K f1K r2K f2K r3K f3K r4K f4K SL ML skL scL mkL msL mpL r1L f1L r2L f2L r3L f3L r4L f4L) (r : REL S M sk sc mk ms mp r1 f1 r2 f2 r3 f3 r4 f4 g1) (r' : REL S M sk sc mk ms mp r1 f1 r2 f2 r3 f3 r4 f4 (shZ (imG kq g0 1 192) (192 * 1))) : IMG (zu kp 1 1) (zu ik 1 1) (imG kq g0 1 192) SK MK skK scK mkK msK mpK r1K f1K r2K f2K r3K f3K r4K f4K S M sk sc mk ms mp r1 f1 r2 f2 r3 f3 r4 f4 := by
  obtain ⟨h1, h2, h3, h4, h5, h6⟩ := h
  refine ⟨?_, rfl, fun q => ?_, fun _ => r', h5, REL_RR r⟩
  · rw [zu_n _ _ (by omega), zu_n _ _ (by omega)]; exact h1
  · rw [zu_n _ _ (by omega)] at q
    exact REL_io (by omega) g0 (h3 q)
/-- nobody is left exactly if nobody is there -/
theorem lstZ_cnt (f t : Int → Int) (v : Int) : ∀ n : Nat, lstZ f t v (n : Int) = -1 ↔ cntZ f v (n : Int) = 0
  | 0 => ⟨fun _ => rfl, fun _ => rfl⟩
  | n + 1 => by
    have ih := lstZ_cnt f t v n
    have hb := lstZ_b f t v (m := (n : Int)) (by omega)
    have hc := cntZ_b f v (m := (n : Int)) (by omega)
    rw [show ((n + 1 : Nat) : Int) = (n : Int) + 1 by omega, lstZ_s _ _ _ (by omega), cntZ_s _ _ (by omega)]
    by_cases e : f (n : Int) = v
    · rw [if_pos e]
      refine ⟨fun q => ?_, fun q => by omega⟩
      exfalso
      split at q
      · omega
      · rename_i k
        exact k ⟨e, Or.inl q⟩
    · rw [if_neg (fun q => e q.1), if_neg e]
      rw [show cntZ f v (n : Int) + 0 = cntZ f v (n : Int) by omega]
      exact ih
theorem lst_cnt (g : Int → Int) (h : Int) (h0 : 0 ≤ g 0) : lstG g h = -1 ↔ cntG g (h + 1) = 0 := by
  have e : ((g 0).toNat : Int) = g 0 := Int.toNat_of_nonneg h0
  have q := lstZ_cnt (shZ g 6) (lkZ (shZ g 20) (shZ g 28) (g (14 + h))) (h + 1) (g 0).toNat
  rw [e] at q
  exact q
theorem lik_eq {S M : Int} {sk sc mk ms mp g : Int → Int} (r : relI S M sk sc mk ms mp g) (bg : ∀ j : Int, 0 ≤ g j ∧ g j ≤ 99) {i : Int} (hi : 0 ≤ i ∧ i < M) : (if 0 ≤ mp i ∧ mp i < S then likedZ (mk i) (ms i) (sc (mp i)) else -1) = (if g (6 + i) = 0 then -1 else likedZ (g (20 + i)) (g (28 + i)) (g (14 + (g (6 + i) - 1)))) := by
  have h1 := r.2.2.1 i hi.1 hi.2
  have h2 := bg (6 + i)
  by_cases e : g (6 + i) = 0
  · rw [if_pos e, if_neg (by omega)]
  · rw [if_neg e, if_pos (by omega), h1.1, h1.2.1, (r.2.1 (mp i) (by omega) (by omega)).2, h1.2.2.1]

theorem st_island {S : Int} {M : Int} {sk : Int → Int} {sc : Int → Int} {mk : Int → Int} {ms : Int → Int} {mp : Int → Int} {r1 : Int} {f1 : Int → Int} {r2 : Int} {f2 : Int → Int} {r3 : Int} {f3 : Int → Int} {r4 : Int} {f4 : Int → Int} {g : Int → Int} {z : Int} {zR : Int} {g2R : Int → Int} (r : REL S M sk sc mk ms mp r1 f1 r2 f2 r3 f3 r4 f4 g) (P7 : z = M) (P8 : (zR = g 0) ∧ (g2R = clrG g 104)) : z = zR ∧ REL 0 0 sk sc mk ms mp 0 f1 0 f2 0 f3 0 f4 g2R := by
  obtain ⟨e1, e0, eS, eS3, eM, eM8⟩ := r.1.1
  obtain ⟨q1, q2⟩ := P8
  subst q2
  exact ⟨by omega, REL_clr r⟩
theorem st_ship {S : Int} {M : Int} {sk : Int → Int} {sc : Int → Int} {mk : Int → Int} {ms : Int → Int} {mp : Int → Int} {r1 : Int} {f1 : Int → Int} {r2 : Int} {f2 : Int → Int} {r3 : Int} {f3 : Int → Int} {r4 : Int} {f4 : Int → Int} {g : Int → Int} {rb : Int} {rn : Int} {ru : Int} {rf : Int → Int} {kd : Int} {z : Int} {rb2 : Int} {rn2 : Int} {ru2 : Int} {S2 : Int} {sk2 : Int → Int} {sc2 : Int → Int} {r42 : Int} {zR : Int} {g2R : Int → Int} {rf2R : Int → Int} (r : REL S M sk sc mk ms mp r1 f1 r2 f2 r3 f3 r4 f4 g) (hc : CR rb rn ru rf) (P7 : (¬ (0 ≤ kd ∧ kd ≤ 5) ∧ z = -2 ∧ rb2 = rb + 1 ∧ rn2 = rn ∧ ru2 = ru ∧ S2 = S ∧ sk2 = sk ∧ sc2 = sc ∧ r42 = r4) ∨ ((0 ≤ kd ∧ kd ≤ 5) ∧ S = 3 ∧ z = -4 ∧ rb2 = rb ∧ rn2 = rn ∧ ru2 = ru + 1 ∧ S2 = S ∧ sk2 = sk ∧ sc2 = sc ∧ r42 = r4) ∨ ((0 ≤ kd ∧ kd ≤ 5) ∧ S < 3 ∧ z = S ∧ rb2 = rb ∧ rn2 = rn ∧ ru2 = ru ∧ S2 = S + 1 ∧ sk2 = zu sk S kd ∧ sc2 = zu sc S 0 ∧ r42 = 0)) (P8 : (¬ (0 ≤ kd ∧ kd ≤ 5) ∧ zR = -2 ∧ g2R = g ∧ rf2R = rfZ rf 0) ∨ ((0 ≤ kd ∧ kd ≤ 5) ∧ g 1 = 3 ∧ zR = -4 ∧ g2R = g ∧ rf2R = rfZ rf 2) ∨ ((0 ≤ kd ∧ kd ≤ 5) ∧ g 1 < 3 ∧ zR = g 1 ∧ g2R = shpG g kd ∧ rf2R = rf)) : z = zR ∧ CR rb2 rn2 ru2 rf2R ∧ REL S2 M sk2 sc2 mk ms mp r1 f1 r2 f2 r3 f3 r42 f4 g2R := by
  obtain ⟨e1, e0, eS, eS3, eM, eM8⟩ := r.1.1
  rcases P7 with ⟨w1, w2, w3, w4, w5, w6, w7, w8, w9⟩ | ⟨w1, w2, w3, w4, w5, w6, w7, w8, w9, w10⟩ | ⟨w1, w2, w3, w4, w5, w6, w7, w8, w9, w10⟩ <;> rcases P8 with ⟨q1, q2, q3, q4⟩ | ⟨q1, q2, q3, q4, q5⟩ | ⟨q1, q2, q3, q4, q5⟩
  all_goals first | (exfalso; omega) | skip
  all_goals (refine ⟨?_, ?_, ?_⟩)
  all_goals first | (show CR _ _ _ _; first | exact CR_b hc ⟨by assumption, by assumption, by assumption⟩ (by assumption) | exact CR_k hc ⟨by assumption, by assumption, by assumption⟩ (by assumption) | exact CR_n hc ⟨by assumption, by assumption, by assumption⟩ (by assumption) | exact CR_f hc ⟨by assumption, by assumption, by assumption⟩ (by assumption)) | skip
  all_goals first | (show REL S2 M sk2 sc2 mk ms mp r1 f1 r2 f2 r3 f3 r42 f4 g2R; first | (subst_vars; exact r) | (subst_vars; exact REL_shp r (by omega) kd)) | skip
  all_goals (first | omega)
theorem st_man {S : Int} {M : Int} {sk : Int → Int} {sc : Int → Int} {mk : Int → Int} {ms : Int → Int} {mp : Int → Int} {r1 : Int} {f1 : Int → Int} {r2 : Int} {f2 : Int → Int} {r3 : Int} {f3 : Int → Int} {r4 : Int} {f4 : Int → Int} {g : Int → Int} {rb : Int} {rn : Int} {ru : Int} {rf : Int → Int} {kd : Int} {t : Int} {h : Int} {z : Int} {rb2 : Int} {rn2 : Int} {ru2 : Int} {M2 : Int} {mk2 : Int → Int} {ms2 : Int → Int} {mp2 : Int → Int} {r42 : Int} {zR : Int} {g2R : Int → Int} {rf2R : Int → Int} (r : REL S M sk sc mk ms mp r1 f1 r2 f2 r3 f3 r4 f4 g) (hc : CR rb rn ru rf) (P7 : (¬ ((0 ≤ kd ∧ kd ≤ 5) ∧ (1 ≤ t ∧ t ≤ 9) ∧ -1 ≤ h ∧ h < S) ∧ z = -2 ∧ rb2 = rb + 1 ∧ rn2 = rn ∧ ru2 = ru ∧ M2 = M ∧ mk2 = mk ∧ ms2 = ms ∧ mp2 = mp ∧ r42 = r4) ∨ (((0 ≤ kd ∧ kd ≤ 5) ∧ (1 ≤ t ∧ t ≤ 9) ∧ -1 ≤ h ∧ h < S) ∧ M = 8 ∧ z = -4 ∧ rb2 = rb ∧ rn2 = rn ∧ ru2 = ru + 1 ∧ M2 = M ∧ mk2 = mk ∧ ms2 = ms ∧ mp2 = mp ∧ r42 = r4) ∨ (((0 ≤ kd ∧ kd ≤ 5) ∧ (1 ≤ t ∧ t ≤ 9) ∧ -1 ≤ h ∧ h < S) ∧ M < 8 ∧ z = M ∧ rb2 = rb ∧ rn2 = rn ∧ ru2 = ru ∧ M2 = M + 1 ∧ mk2 = zu mk M kd ∧ ms2 = zu ms M t ∧ mp2 = zu mp M h ∧ r42 = 0)) (P8 : (¬ (0 ≤ kd ∧ kd ≤ 5 ∧ 1 ≤ t ∧ t ≤ 9 ∧ -1 ≤ h ∧ h < g 1) ∧ zR = -2 ∧ g2R = g ∧ rf2R = rfZ rf 0) ∨ ((0 ≤ kd ∧ kd ≤ 5 ∧ 1 ≤ t ∧ t ≤ 9 ∧ -1 ≤ h ∧ h < g 1) ∧ g 0 = 8 ∧ zR = -4 ∧ g2R = g ∧ rf2R = rfZ rf 2) ∨ ((0 ≤ kd ∧ kd ≤ 5 ∧ 1 ≤ t ∧ t ≤ 9 ∧ -1 ≤ h ∧ h < g 1) ∧ g 0 < 8 ∧ zR = g 0 ∧ g2R = zu (layG g kd t (h + 1)) 5 0 ∧ rf2R = rf)) : z = zR ∧ CR rb2 rn2 ru2 rf2R ∧ REL S M2 sk sc mk2 ms2 mp2 r1 f1 r2 f2 r3 f3 r42 f4 g2R := by
  obtain ⟨e1, e0, eS, eS3, eM, eM8⟩ := r.1.1
  rcases P7 with ⟨w1, w2, w3, w4, w5, w6, w7, w8, w9, w10⟩ | ⟨w1, w2, w3, w4, w5, w6, w7, w8, w9, w10, w11⟩ | ⟨w1, w2, w3, w4, w5, w6, w7, w8, w9, w10, w11⟩ <;> rcases P8 with ⟨q1, q2, q3, q4⟩ | ⟨q1, q2, q3, q4, q5⟩ | ⟨q1, q2, q3, q4, q5⟩
  all_goals first | (exfalso; omega) | skip
  all_goals (refine ⟨?_, ?_, ?_⟩)
  all_goals first | (show CR _ _ _ _; first | exact CR_b hc ⟨by assumption, by assumption, by assumption⟩ (by assumption) | exact CR_k hc ⟨by assumption, by assumption, by assumption⟩ (by assumption) | exact CR_n hc ⟨by assumption, by assumption, by assumption⟩ (by assumption) | exact CR_f hc ⟨by assumption, by assumption, by assumption⟩ (by assumption)) | skip
  all_goals first | (show REL S M2 sk sc mk2 ms2 mp2 r1 f1 r2 f2 r3 f3 r42 f4 g2R; first | (subst_vars; exact r) | (subst_vars; exact REL_lay r (by omega) kd t (by omega))) | skip
  all_goals (first | omega)
theorem st_type {S : Int} {M : Int} {sk : Int → Int} {sc : Int → Int} {mk : Int → Int} {ms : Int → Int} {mp : Int → Int} {r1 : Int} {f1 : Int → Int} {r2 : Int} {f2 : Int → Int} {r3 : Int} {f3 : Int → Int} {r4 : Int} {f4 : Int → Int} {g : Int → Int} {rb : Int} {rn : Int} {ru : Int} {rf : Int → Int} {ln : Int} {xb : Int → Int} {bl : Int} {yb : Int → Int} {c : Int} {z : Int} {rb2 : Int} {rn2 : Int} {ru2 : Int} {ln2 : Int} {xb2 : Int → Int} {zR : Int} {by2R : Int → Int} {bl2R : Int} {rf2R : Int → Int} (r : REL S M sk sc mk ms mp r1 f1 r2 f2 r3 f3 r4 f4 g) (hc : CR rb rn ru rf) (hx : TX ln xb bl yb) (P7 : (¬ (0 ≤ c ∧ c ≤ 127) ∧ z = -2 ∧ rb2 = rb + 1 ∧ rn2 = rn ∧ ru2 = ru ∧ ln2 = ln ∧ xb2 = xb) ∨ ((0 ≤ c ∧ c ≤ 127) ∧ ln = 150 ∧ z = -4 ∧ rb2 = rb ∧ rn2 = rn ∧ ru2 = ru + 1 ∧ ln2 = ln ∧ xb2 = xb) ∨ ((0 ≤ c ∧ c ≤ 127) ∧ ln < 150 ∧ z = ln + 1 ∧ rb2 = rb ∧ rn2 = rn ∧ ru2 = ru ∧ ln2 = ln + 1 ∧ xb2 = zu xb ln c)) (P8 : (¬ (0 ≤ c ∧ c ≤ 127) ∧ zR = -2 ∧ by2R = yb ∧ bl2R = bl ∧ rf2R = rfZ rf 0) ∨ ((0 ≤ c ∧ c ≤ 127) ∧ bl = 150 ∧ zR = -4 ∧ by2R = yb ∧ bl2R = bl ∧ rf2R = rfZ rf 2) ∨ ((0 ≤ c ∧ c ≤ 127) ∧ bl < 150 ∧ zR = bl + 1 ∧ by2R = zu yb bl c ∧ bl2R = bl + 1 ∧ rf2R = rf)) : z = zR ∧ CR rb2 rn2 ru2 rf2R ∧ TX ln2 xb2 bl2R by2R := by
  obtain ⟨e1, e0, eS, eS3, eM, eM8⟩ := r.1.1
  have hl := hx.1
  rcases P7 with ⟨w1, w2, w3, w4, w5, w6, w7⟩ | ⟨w1, w2, w3, w4, w5, w6, w7, w8⟩ | ⟨w1, w2, w3, w4, w5, w6, w7, w8⟩ <;> rcases P8 with ⟨q1, q2, q3, q4, q5⟩ | ⟨q1, q2, q3, q4, q5, q6⟩ | ⟨q1, q2, q3, q4, q5, q6⟩
  all_goals first | (exfalso; omega) | skip
  all_goals (refine ⟨?_, ?_, ?_⟩)
  all_goals first | (show CR _ _ _ _; first | exact CR_b hc ⟨by assumption, by assumption, by assumption⟩ (by assumption) | exact CR_k hc ⟨by assumption, by assumption, by assumption⟩ (by assumption) | exact CR_n hc ⟨by assumption, by assumption, by assumption⟩ (by assumption) | exact CR_f hc ⟨by assumption, by assumption, by assumption⟩ (by assumption)) | skip
  all_goals first | (show TX ln2 xb2 bl2R by2R; first | (exact TX_k hx ⟨by assumption, by assumption⟩ ⟨by assumption, by assumption⟩) | (exact TX_a hx (by omega) ⟨by assumption, by assumption⟩ ⟨by assumption, by assumption⟩)) | skip
  all_goals (first | omega)
theorem st_clear {S : Int} {M : Int} {sk : Int → Int} {sc : Int → Int} {mk : Int → Int} {ms : Int → Int} {mp : Int → Int} {r1 : Int} {f1 : Int → Int} {r2 : Int} {f2 : Int → Int} {r3 : Int} {f3 : Int → Int} {r4 : Int} {f4 : Int → Int} {g : Int → Int} {ln : Int} {xb : Int → Int} {bl : Int} {yb : Int → Int} {z : Int} {zR : Int} (r : REL S M sk sc mk ms mp r1 f1 r2 f2 r3 f3 r4 f4 g) (hx : TX ln xb bl yb) (P7 : z = ln) (P8 : zR = bl) : z = zR := by
  obtain ⟨e1, e0, eS, eS3, eM, eM8⟩ := r.1.1
  have hl := hx.1
  omega
theorem st_read {S : Int} {M : Int} {sk : Int → Int} {sc : Int → Int} {mk : Int → Int} {ms : Int → Int} {mp : Int → Int} {r1 : Int} {f1 : Int → Int} {r2 : Int} {f2 : Int → Int} {r3 : Int} {f3 : Int → Int} {r4 : Int} {f4 : Int → Int} {g : Int → Int} {ln : Int} {xb : Int → Int} {bl : Int} {yb : Int → Int} {z : Int} {S2 : Int} {M2 : Int} {sk2 : Int → Int} {sc2 : Int → Int} {mk2 : Int → Int} {ms2 : Int → Int} {mp2 : Int → Int} {r12 : Int} {r22 : Int} {r32 : Int} {r42 : Int} {f12 : Int → Int} {f22 : Int → Int} {f32 : Int → Int} {f42 : Int → Int} {zR : Int} {g2R : Int → Int} (r : REL S M sk sc mk ms mp r1 f1 r2 f2 r3 f3 r4 f4 g) (hx : TX ln xb bl yb) (P7 : (0 < z ∧ z = (rdK xb ln 0 0 (fun _ => 0)).1 ∧ relI S2 M2 sk2 sc2 mk2 ms2 mp2 (rdK xb ln 0 0 (fun _ => 0)).2 ∧ r12 = 0 ∧ r22 = 0 ∧ r32 = 0 ∧ r42 = 0) ∨ (z ≤ -10 ∧ z = (rdK xb ln 0 0 (fun _ => 0)).1 ∧ (S2 = S ∧ M2 = M ∧ sk2 = sk ∧ sc2 = sc ∧ mk2 = mk ∧ ms2 = ms ∧ mp2 = mp ∧ r12 = r1 ∧ f12 = f1 ∧ r22 = r2 ∧ f22 = f2 ∧ r32 = r3 ∧ f32 = f3 ∧ r42 = r4 ∧ f42 = f4))) (P8 : (0 < zR ∧ zR = (rdK yb bl 0 0 (fun _ => 0)).1 ∧ g2R = cpG (rdK yb bl 0 0 (fun _ => 0)).2 g 104) ∨ (zR ≤ -10 ∧ zR = (rdK yb bl 0 0 (fun _ => 0)).1 ∧ g2R = g)) : z = zR ∧ REL S2 M2 sk2 sc2 mk2 ms2 mp2 r12 f12 r22 f22 r32 f32 r42 f42 g2R := by
  obtain ⟨e1, e0, eS, eS3, eM, eM8⟩ := r.1.1
  obtain ⟨hl, hy, -⟩ := hx
  subst hl
  subst hy
  rcases P7 with ⟨w1, w2, w3, w4, w5, w6, w7⟩ | ⟨w1, w2, w3⟩ <;> rcases P8 with ⟨q1, q2, q3⟩ | ⟨q1, q2, q3⟩
  · subst w4; subst w5; subst w6; subst w7; subst q3
    exact ⟨w2.trans q2.symm, REL_rd w3 (zp_rd _ _) _ _ _ _ _⟩
  · exfalso; omega
  · exfalso; omega
  · subst q3
    obtain ⟨rfl, rfl, rfl, rfl, rfl, rfl, rfl, rfl, rfl, rfl, rfl, rfl, rfl, rfl, rfl⟩ := w3
    exact ⟨w2.trans q2.symm, r⟩
theorem st_calls {S : Int} {M : Int} {sk : Int → Int} {sc : Int → Int} {mk : Int → Int} {ms : Int → Int} {mp : Int → Int} {r1 : Int} {f1 : Int → Int} {r2 : Int} {f2 : Int → Int} {r3 : Int} {f3 : Int → Int} {r4 : Int} {f4 : Int → Int} {g : Int → Int} {rb : Int} {rn : Int} {ru : Int} {rf : Int → Int} {h : Int} {z : Int} {rb2 : Int} {rn2 : Int} {ru2 : Int} {sc2 : Int → Int} {mp2 : Int → Int} {r42 : Int} {f42 : Int → Int} {zR : Int} {g2R : Int → Int} {rf2R : Int → Int} (r : REL S M sk sc mk ms mp r1 f1 r2 f2 r3 f3 r4 f4 g) (hc : CR rb rn ru rf) (hsc : ∀ j : Int, 0 ≤ sc j ∧ sc j ≤ 99) (hmp : ∀ j : Int, -1 ≤ mp j ∧ mp j ≤ 2) (P7 : (¬ (0 ≤ h ∧ h < S) ∧ z = -2 ∧ rb2 = rb + 1 ∧ rn2 = rn ∧ ru2 = ru ∧ sc2 = sc ∧ mp2 = mp ∧ r42 = r4 ∧ f42 = f4) ∨ ((0 ≤ h ∧ h < S) ∧ lstI S M sc mk ms mp h = -1 ∧ z = -3 ∧ rb2 = rb ∧ rn2 = rn + 1 ∧ ru2 = ru ∧ sc2 = sc ∧ mp2 = mp ∧ r42 = r4 ∧ f42 = f4) ∨ ((0 ≤ h ∧ h < S) ∧ ¬ lstI S M sc mk ms mp h = -1 ∧ z = lstI S M sc mk ms mp h ∧ rb2 = rb ∧ rn2 = rn ∧ ru2 = ru ∧ sc2 = goSc sc h z ∧ mp2 = goMp mp z ∧ r42 = min 8 (r4 + 1) ∧ f42 = pushZ f4 r4 h (sc h) z (mp z))) (P8 : (¬ (0 ≤ h ∧ h < g 1) ∧ zR = -2 ∧ g2R = g ∧ rf2R = rfZ rf 0) ∨ ((0 ≤ h ∧ h < g 1) ∧ cntG g (h + 1) = 0 ∧ zR = -3 ∧ g2R = g ∧ rf2R = rfZ rf 1) ∨ ((0 ≤ h ∧ h < g 1) ∧ ¬ cntG g (h + 1) = 0 ∧ zR = lstG (savG g) h ∧ g2R = goG (savG g) h zR ∧ rf2R = rf)) : z = zR ∧ CR rb2 rn2 ru2 rf2R ∧ REL S M sk sc2 mk ms mp2 r1 f1 r2 f2 r3 f3 r42 f42 g2R := by
  obtain ⟨e1, e0, eS, eS3, eM, eM8⟩ := r.1.1
  have u5 := r.2.2.2.2.2.1
  have u5b := r.2.2.2.2.2.2.1
  rcases P7 with ⟨w1, w2, w3, w4, w5, w6, w7, w8, w9⟩ | ⟨w1, w2, w3, w4, w5, w6, w7, w8, w9, w10⟩ | ⟨w1, w2, w3, w4, w5, w6, w7, w8, w9, w10⟩
  · rcases P8 with ⟨q1, q2, q3, q4⟩ | ⟨q1, q2, q3, q4, q5⟩ | ⟨q1, q2, q3, q4, q5⟩
    · refine ⟨by omega, CR_b hc ⟨by assumption, by assumption, by assumption⟩ (by assumption), ?_⟩
      subst_vars; exact r
    · exfalso; omega
    · exfalso; omega
  · have hl := lst_cnt g h (by omega)
    rw [← rel_lst r.1 w1] at hl
    rcases P8 with ⟨q1, q2, q3, q4⟩ | ⟨q1, q2, q3, q4, q5⟩ | ⟨q1, q2, q3, q4, q5⟩
    · exfalso; omega
    · refine ⟨by omega, CR_n hc ⟨by assumption, by assumption, by assumption⟩ (by assumption), ?_⟩
      subst_vars; exact r
    · exact absurd (hl.mp w2) q2
  · have hl := lst_cnt g h (by omega)
    rw [← rel_lst r.1 w1] at hl
    rcases P8 with ⟨q1, q2, q3, q4⟩ | ⟨q1, q2, q3, q4, q5⟩ | ⟨q1, q2, q3, q4, q5⟩
    · exfalso; omega
    · exact absurd (hl.mpr q2) w2
    · have hz : z = zR := by rw [w3, q3, rel_lst (relI_sav r.1 (by omega)) w1]
      refine ⟨hz, CR_k hc ⟨by assumption, by assumption, by assumption⟩ (by assumption), ?_⟩
      have hb := lstI_b (S := S) (M := M) sc mk ms mp h eM
      rw [← w3] at hb w2
      have hzM : 0 ≤ z ∧ z < M := by omega
      have hp := r.1.2.2.1 z hzM.1 hzM.2
      have h3 := hmp z
      rw [q4, w7, w8, w9, w10, ← hz]
      exact REL_go r w1 hzM hsc (by omega)
theorem st_boards {S : Int} {M : Int} {sk : Int → Int} {sc : Int → Int} {mk : Int → Int} {ms : Int → Int} {mp : Int → Int} {r1 : Int} {f1 : Int → Int} {r2 : Int} {f2 : Int → Int} {r3 : Int} {f3 : Int → Int} {r4 : Int} {f4 : Int → Int} {g : Int → Int} {rb : Int} {rn : Int} {ru : Int} {rf : Int → Int} {h : Int} {i : Int} {z : Int} {rb2 : Int} {rn2 : Int} {ru2 : Int} {mp2 : Int → Int} {r42 : Int} {f42 : Int → Int} {zR : Int} {g2R : Int → Int} {rf2R : Int → Int} (r : REL S M sk sc mk ms mp r1 f1 r2 f2 r3 f3 r4 f4 g) (hc : CR rb rn ru rf) (hsc : ∀ j : Int, 0 ≤ sc j ∧ sc j ≤ 99) (P7 : (¬ ((0 ≤ h ∧ h < S) ∧ (0 ≤ i ∧ i < M)) ∧ z = -2 ∧ rb2 = rb + 1 ∧ rn2 = rn ∧ ru2 = ru ∧ mp2 = mp ∧ r42 = r4 ∧ f42 = f4) ∨ (((0 ≤ h ∧ h < S) ∧ (0 ≤ i ∧ i < M)) ∧ ¬ mp i = -1 ∧ z = -3 ∧ rb2 = rb ∧ rn2 = rn + 1 ∧ ru2 = ru ∧ mp2 = mp ∧ r42 = r4 ∧ f42 = f4) ∨ (((0 ≤ h ∧ h < S) ∧ (0 ≤ i ∧ i < M)) ∧ mp i = -1 ∧ z = cntZ mp2 h M ∧ rb2 = rb ∧ rn2 = rn ∧ ru2 = ru ∧ mp2 = zu mp i h ∧ r42 = min 8 (r4 + 1) ∧ f42 = pushZ f4 r4 h (sc h) i (mp i))) (P8 : (¬ ((0 ≤ h ∧ h < g 1) ∧ 0 ≤ i ∧ i < g 0) ∧ zR = -2 ∧ g2R = g ∧ rf2R = rfZ rf 0) ∨ (((0 ≤ h ∧ h < g 1) ∧ 0 ≤ i ∧ i < g 0) ∧ ¬ g (6 + i) = 0 ∧ zR = -3 ∧ g2R = g ∧ rf2R = rfZ rf 1) ∨ (((0 ≤ h ∧ h < g 1) ∧ 0 ≤ i ∧ i < g 0) ∧ g (6 + i) = 0 ∧ zR = cntG g2R (h + 1) ∧ g2R = zu (savG g) (6 + i) (h + 1) ∧ rf2R = rf)) : z = zR ∧ CR rb2 rn2 ru2 rf2R ∧ REL S M sk sc mk ms mp2 r1 f1 r2 f2 r3 f3 r42 f42 g2R := by
  obtain ⟨e1, e0, eS, eS3, eM, eM8⟩ := r.1.1
  rcases P7 with ⟨w1, w2, w3, w4, w5, w6, w7, w8⟩ | ⟨w1, w2, w3, w4, w5, w6, w7, w8, w9⟩ | ⟨w1, w2, w3, w4, w5, w6, w7, w8, w9⟩
  · rcases P8 with ⟨q1, q2, q3, q4⟩ | ⟨q1, q2, q3, q4, q5⟩ | ⟨q1, q2, q3, q4, q5⟩
    · refine ⟨by omega, CR_b hc ⟨by assumption, by assumption, by assumption⟩ (by assumption), ?_⟩
      subst_vars; exact r
    · exfalso; omega
    · exfalso; omega
  · have hp := r.1.2.2.1 i (by omega) (by omega)
    rcases P8 with ⟨q1, q2, q3, q4⟩ | ⟨q1, q2, q3, q4, q5⟩ | ⟨q1, q2, q3, q4, q5⟩
    · exfalso; omega
    · refine ⟨by omega, CR_n hc ⟨by assumption, by assumption, by assumption⟩ (by assumption), ?_⟩
      subst_vars; exact r
    · exfalso; omega
  · have hp := r.1.2.2.1 i (by omega) (by omega)
    rcases P8 with ⟨q1, q2, q3, q4⟩ | ⟨q1, q2, q3, q4, q5⟩ | ⟨q1, q2, q3, q4, q5⟩
    · exfalso; omega
    · exfalso; omega
    · have hR : REL S M sk sc mk ms mp2 r1 f1 r2 f2 r3 f3 r42 f42 g2R := by
        rw [q4, w7, w8, w9]
        exact REL_brd r (by omega) (by omega) hsc (by omega)
      exact ⟨by rw [w3, q3, rel_cnt hR.1], CR_k hc ⟨by assumption, by assumption, by assumption⟩ (by assumption), hR⟩
theorem st_undo {S : Int} {M : Int} {sk : Int → Int} {sc : Int → Int} {mk : Int → Int} {ms : Int → Int} {mp : Int → Int} {r1 : Int} {f1 : Int → Int} {r2 : Int} {f2 : Int → Int} {r3 : Int} {f3 : Int → Int} {r4 : Int} {f4 : Int → Int} {g : Int → Int} {rb : Int} {rn : Int} {ru : Int} {rf : Int → Int} {z : Int} {rb2 : Int} {rn2 : Int} {ru2 : Int} {sc2 : Int → Int} {mp2 : Int → Int} {r42 : Int} {zR : Int} {g2R : Int → Int} {rf2R : Int → Int} (r : REL S M sk sc mk ms mp r1 f1 r2 f2 r3 f3 r4 f4 g) (hc : CR rb rn ru rf) (P7 : (r4 = 0 ∧ z = -3 ∧ rb2 = rb ∧ rn2 = rn + 1 ∧ ru2 = ru ∧ sc2 = sc ∧ mp2 = mp ∧ r42 = r4) ∨ (0 < r4 ∧ z = cntZ mp2 (-1) M ∧ rb2 = rb ∧ rn2 = rn ∧ ru2 = ru ∧ sc2 = zu sc (f4 (4 * (r4 - 1) + 0)) (f4 (4 * (r4 - 1) + 1)) ∧ mp2 = zu mp (f4 (4 * (r4 - 1) + 2)) (f4 (4 * (r4 - 1) + 3)) ∧ r42 = r4 - 1)) (P8 : (g 5 = 0 ∧ zR = -3 ∧ g2R = g ∧ rf2R = rfZ rf 1) ∨ (0 < g 5 ∧ zR = cntG (undG g) 0 ∧ g2R = undG g ∧ rf2R = rf)) : z = zR ∧ CR rb2 rn2 ru2 rf2R ∧ REL S M sk sc2 mk ms mp2 r1 f1 r2 f2 r3 f3 r42 f4 g2R := by
  obtain ⟨e1, e0, eS, eS3, eM, eM8⟩ := r.1.1
  have u5 := r.2.2.2.2.2.1
  rcases P7 with ⟨w1, w2, w3, w4, w5, w6, w7, w8⟩ | ⟨w1, w2, w3, w4, w5, w6, w7, w8⟩
  · rcases P8 with ⟨q1, q2, q3, q4⟩ | ⟨q1, q2, q3, q4⟩
    · refine ⟨by omega, CR_n hc ⟨by assumption, by assumption, by assumption⟩ (by assumption), ?_⟩
      subst_vars; exact r
    · exfalso; omega
  · rcases P8 with ⟨q1, q2, q3, q4⟩ | ⟨q1, q2, q3, q4⟩
    · exfalso; omega
    · have hR : REL S M sk sc2 mk ms mp2 r1 f1 r2 f2 r3 f3 r42 f4 g2R := by
        rw [q3, w6, w7, w8]
        exact REL_und r w1
      refine ⟨?_, CR_k hc ⟨by assumption, by assumption, by assumption⟩ (by assumption), hR⟩
      rw [w2, q2, ← q3, rel_cnt hR.1]
      rfl
theorem st_of {S : Int} {M : Int} {sk : Int → Int} {sc : Int → Int} {mk : Int → Int} {ms : Int → Int} {mp : Int → Int} {r1 : Int} {f1 : Int → Int} {r2 : Int} {f2 : Int → Int} {r3 : Int} {f3 : Int → Int} {r4 : Int} {f4 : Int → Int} {g : Int → Int} {rb : Int} {rn : Int} {ru : Int} {rf : Int → Int} {i : Int} {w : Int} {z : Int} {rb2 : Int} {rn2 : Int} {ru2 : Int} {zR : Int} {rf2R : Int → Int} (r : REL S M sk sc mk ms mp r1 f1 r2 f2 r3 f3 r4 f4 g) (hc : CR rb rn ru rf) (bg : ∀ j : Int, 0 ≤ g j ∧ g j ≤ 99) (P7 : ((0 ≤ i ∧ i < M) ∧ w = 0 ∧ z = mk i ∧ rb2 = rb ∧ rn2 = rn ∧ ru2 = ru) ∨ ((0 ≤ i ∧ i < M) ∧ w = 1 ∧ z = ms i ∧ rb2 = rb ∧ rn2 = rn ∧ ru2 = ru) ∨ ((0 ≤ i ∧ i < M) ∧ w = 2 ∧ z = mp i ∧ rb2 = rb ∧ rn2 = rn ∧ ru2 = ru) ∨ ((0 ≤ i ∧ i < M) ∧ w = 3 ∧ z = (if 0 ≤ mp i ∧ mp i < S then likedZ (mk i) (ms i) (sc (mp i)) else -1) ∧ rb2 = rb ∧ rn2 = rn ∧ ru2 = ru) ∨ (¬ ((0 ≤ i ∧ i < M) ∧ (0 ≤ w ∧ w ≤ 3)) ∧ z = -2 ∧ rb2 = rb + 1 ∧ rn2 = rn ∧ ru2 = ru)) (P8 : (((0 ≤ i ∧ i < g 0) ∧ 0 ≤ w ∧ w ≤ 3) ∧ zR = (if w = 0 then g (20 + i) else if w = 1 then g (28 + i) else if w = 2 then g (6 + i) - 1 else if g (6 + i) = 0 then -1 else likedZ (g (20 + i)) (g (28 + i)) (g (14 + (g (6 + i) - 1)))) ∧ rf2R = rf) ∨ (¬ ((0 ≤ i ∧ i < g 0) ∧ 0 ≤ w ∧ w ≤ 3) ∧ zR = -2 ∧ rf2R = rfZ rf 0)) : z = zR ∧ CR rb2 rn2 ru2 rf2R := by
  obtain ⟨e1, e0, eS, eS3, eM, eM8⟩ := r.1.1
  rcases P7 with ⟨w1, w2, w3, w4, w5, w6⟩ | ⟨w1, w2, w3, w4, w5, w6⟩ | ⟨w1, w2, w3, w4, w5, w6⟩ | ⟨w1, w2, w3, w4, w5, w6⟩ | ⟨w1, w2, w3, w4, w5⟩ <;> rcases P8 with ⟨q1, q2, q3⟩ | ⟨q1, q2, q3⟩
  all_goals first | (exfalso; omega) | skip
  all_goals (refine ⟨?_, ?_⟩)
  all_goals first | (show CR _ _ _ _; first | exact CR_b hc ⟨by assumption, by assumption, by assumption⟩ (by assumption) | exact CR_k hc ⟨by assumption, by assumption, by assumption⟩ (by assumption) | exact CR_n hc ⟨by assumption, by assumption, by assumption⟩ (by assumption) | exact CR_f hc ⟨by assumption, by assumption, by assumption⟩ (by assumption)) | skip
  all_goals (first | omega | (rw [w3, q2, if_pos w2]; have hm := r.1.2.2.1 i (by omega) (by omega); omega) | (rw [w3, q2, if_neg (by omega), if_pos w2]; have hm := r.1.2.2.1 i (by omega) (by omega); omega) | (rw [w3, q2, if_neg (by omega), if_neg (by omega), if_pos w2]; have hm := r.1.2.2.1 i (by omega) (by omega); omega) | (rw [q2, if_neg (by omega), if_neg (by omega), if_neg (by omega), w3]; exact lik_eq r.1 bg (by omega)))
theorem st_about {S : Int} {M : Int} {sk : Int → Int} {sc : Int → Int} {mk : Int → Int} {ms : Int → Int} {mp : Int → Int} {r1 : Int} {f1 : Int → Int} {r2 : Int} {f2 : Int → Int} {r3 : Int} {f3 : Int → Int} {r4 : Int} {f4 : Int → Int} {g : Int → Int} {rb : Int} {rn : Int} {ru : Int} {rf : Int → Int} {h : Int} {w : Int} {z : Int} {rb2 : Int} {rn2 : Int} {ru2 : Int} {zR : Int} {rf2R : Int → Int} (r : REL S M sk sc mk ms mp r1 f1 r2 f2 r3 f3 r4 f4 g) (hc : CR rb rn ru rf) (P7 : ((0 ≤ h ∧ h < S) ∧ w = 0 ∧ z = sk h ∧ rb2 = rb ∧ rn2 = rn ∧ ru2 = ru) ∨ ((0 ≤ h ∧ h < S) ∧ w = 1 ∧ z = sc h ∧ rb2 = rb ∧ rn2 = rn ∧ ru2 = ru) ∨ ((0 ≤ h ∧ h < S) ∧ w = 2 ∧ z = bitZ mp h M ∧ rb2 = rb ∧ rn2 = rn ∧ ru2 = ru) ∨ ((0 ≤ h ∧ h < S) ∧ w = 3 ∧ z = sumZ mp ms h M ∧ rb2 = rb ∧ rn2 = rn ∧ ru2 = ru) ∨ (¬ ((0 ≤ h ∧ h < S) ∧ (0 ≤ w ∧ w ≤ 3)) ∧ z = -2 ∧ rb2 = rb + 1 ∧ rn2 = rn ∧ ru2 = ru)) (P8 : (((0 ≤ h ∧ h < g 1) ∧ 0 ≤ w ∧ w ≤ 3) ∧ zR = (if w = 0 then g (17 + h) else if w = 1 then g (14 + h) else if w = 2 then bitZ (shZ g 6) (h + 1) (g 0) else sumG g (h + 1)) ∧ rf2R = rf) ∨ (¬ ((0 ≤ h ∧ h < g 1) ∧ 0 ≤ w ∧ w ≤ 3) ∧ zR = -2 ∧ rf2R = rfZ rf 0)) : z = zR ∧ CR rb2 rn2 ru2 rf2R := by
  obtain ⟨e1, e0, eS, eS3, eM, eM8⟩ := r.1.1
  rcases P7 with ⟨w1, w2, w3, w4, w5, w6⟩ | ⟨w1, w2, w3, w4, w5, w6⟩ | ⟨w1, w2, w3, w4, w5, w6⟩ | ⟨w1, w2, w3, w4, w5, w6⟩ | ⟨w1, w2, w3, w4, w5⟩ <;> rcases P8 with ⟨q1, q2, q3⟩ | ⟨q1, q2, q3⟩
  all_goals first | (exfalso; omega) | skip
  all_goals (refine ⟨?_, ?_⟩)
  all_goals first | (show CR _ _ _ _; first | exact CR_b hc ⟨by assumption, by assumption, by assumption⟩ (by assumption) | exact CR_k hc ⟨by assumption, by assumption, by assumption⟩ (by assumption) | exact CR_n hc ⟨by assumption, by assumption, by assumption⟩ (by assumption) | exact CR_f hc ⟨by assumption, by assumption, by assumption⟩ (by assumption)) | skip
  all_goals (first | omega | (rw [w3, q2, if_pos w2]; exact (r.1.2.1 h (by omega) (by omega)).1) | (rw [w3, q2, if_neg (by omega), if_pos w2]; exact (r.1.2.1 h (by omega) (by omega)).2) | (rw [w3, q2, if_neg (by omega), if_neg (by omega), if_pos w2]; exact rel_bit r.1 h) | (rw [w3, q2, if_neg (by omega), if_neg (by omega), if_neg (by omega)]; exact rel_sum r.1 h))
theorem st_left {S : Int} {M : Int} {sk : Int → Int} {sc : Int → Int} {mk : Int → Int} {ms : Int → Int} {mp : Int → Int} {r1 : Int} {f1 : Int → Int} {r2 : Int} {f2 : Int → Int} {r3 : Int} {f3 : Int → Int} {r4 : Int} {f4 : Int → Int} {g : Int → Int} {rb : Int} {rn : Int} {ru : Int} {rf : Int → Int} {h : Int} {z : Int} {rb2 : Int} {rn2 : Int} {ru2 : Int} {zR : Int} {rf2R : Int → Int} (r : REL S M sk sc mk ms mp r1 f1 r2 f2 r3 f3 r4 f4 g) (hc : CR rb rn ru rf) (P7 : ((0 ≤ h ∧ h < S) ∧ z = lstI S M sc mk ms mp h ∧ rb2 = rb ∧ rn2 = rn ∧ ru2 = ru) ∨ (¬ (0 ≤ h ∧ h < S) ∧ z = -2 ∧ rb2 = rb + 1 ∧ rn2 = rn ∧ ru2 = ru)) (P8 : (((0 ≤ h ∧ h < g 1)) ∧ zR = lstG g h ∧ rf2R = rf) ∨ (¬ ((0 ≤ h ∧ h < g 1)) ∧ zR = -2 ∧ rf2R = rfZ rf 0)) : z = zR ∧ CR rb2 rn2 ru2 rf2R := by
  obtain ⟨e1, e0, eS, eS3, eM, eM8⟩ := r.1.1
  rcases P7 with ⟨w1, w2, w3, w4, w5⟩ | ⟨w1, w2, w3, w4, w5⟩ <;> rcases P8 with ⟨q1, q2, q3⟩ | ⟨q1, q2, q3⟩
  all_goals first | (exfalso; omega) | skip
  all_goals (refine ⟨?_, ?_⟩)
  all_goals first | (show CR _ _ _ _; first | exact CR_b hc ⟨by assumption, by assumption, by assumption⟩ (by assumption) | exact CR_k hc ⟨by assumption, by assumption, by assumption⟩ (by assumption) | exact CR_n hc ⟨by assumption, by assumption, by assumption⟩ (by assumption) | exact CR_f hc ⟨by assumption, by assumption, by assumption⟩ (by assumption)) | skip
  all_goals (first | omega | (rw [w2, q2]; exact rel_lst r.1 w1))
theorem st_needs {S : Int} {M : Int} {sk : Int → Int} {sc : Int → Int} {mk : Int → Int} {ms : Int → Int} {mp : Int → Int} {r1 : Int} {f1 : Int → Int} {r2 : Int} {f2 : Int → Int} {r3 : Int} {f3 : Int → Int} {r4 : Int} {f4 : Int → Int} {g : Int → Int} {rb : Int} {rn : Int} {ru : Int} {rf : Int → Int} {h : Int} {d : Int} {z : Int} {rb2 : Int} {rn2 : Int} {ru2 : Int} {zR : Int} {rf2R : Int → Int} (r : REL S M sk sc mk ms mp r1 f1 r2 f2 r3 f3 r4 f4 g) (hc : CR rb rn ru rf) (P7 : (((0 ≤ h ∧ h < S) ∧ (1 ≤ d ∧ d ≤ 30)) ∧ z = needZ (sk h) d (cntZ mp h M) ∧ rb2 = rb ∧ rn2 = rn ∧ ru2 = ru) ∨ (¬ ((0 ≤ h ∧ h < S) ∧ (1 ≤ d ∧ d ≤ 30)) ∧ z = -2 ∧ rb2 = rb + 1 ∧ rn2 = rn ∧ ru2 = ru)) (P8 : (((0 ≤ h ∧ h < g 1) ∧ 1 ≤ d ∧ d ≤ 30) ∧ zR = needZ (g (17 + h)) d (cntG g (h + 1)) ∧ rf2R = rf) ∨ (¬ ((0 ≤ h ∧ h < g 1) ∧ 1 ≤ d ∧ d ≤ 30) ∧ zR = -2 ∧ rf2R = rfZ rf 0)) : z = zR ∧ CR rb2 rn2 ru2 rf2R := by
  obtain ⟨e1, e0, eS, eS3, eM, eM8⟩ := r.1.1
  rcases P7 with ⟨w1, w2, w3, w4, w5⟩ | ⟨w1, w2, w3, w4, w5⟩ <;> rcases P8 with ⟨q1, q2, q3⟩ | ⟨q1, q2, q3⟩
  all_goals first | (exfalso; omega) | skip
  all_goals (refine ⟨?_, ?_⟩)
  all_goals first | (show CR _ _ _ _; first | exact CR_b hc ⟨by assumption, by assumption, by assumption⟩ (by assumption) | exact CR_k hc ⟨by assumption, by assumption, by assumption⟩ (by assumption) | exact CR_n hc ⟨by assumption, by assumption, by assumption⟩ (by assumption) | exact CR_f hc ⟨by assumption, by assumption, by assumption⟩ (by assumption)) | skip
  all_goals (first | omega | (rw [w2, q2, rel_cnt r.1, (r.1.2.1 h (by omega) (by omega)).1]))
theorem st_far {S : Int} {M : Int} {sk : Int → Int} {sc : Int → Int} {mk : Int → Int} {ms : Int → Int} {mp : Int → Int} {r1 : Int} {f1 : Int → Int} {r2 : Int} {f2 : Int → Int} {r3 : Int} {f3 : Int → Int} {r4 : Int} {f4 : Int → Int} {g : Int → Int} {rb : Int} {rn : Int} {ru : Int} {rf : Int → Int} {h : Int} {z : Int} {rb2 : Int} {rn2 : Int} {ru2 : Int} {zR : Int} {rf2R : Int → Int} (r : REL S M sk sc mk ms mp r1 f1 r2 f2 r3 f3 r4 f4 g) (hc : CR rb rn ru rf) (P7 : ((0 ≤ h ∧ h < S) ∧ (0 ≤ z ∧ z ≤ 30) ∧ (z = 0 ∨ canI S M sk ms mp h z) ∧ (∀ d, z < d → d ≤ 30 → ¬ canI S M sk ms mp h d) ∧ rb2 = rb ∧ rn2 = rn ∧ ru2 = ru) ∨ (¬ (0 ≤ h ∧ h < S) ∧ z = -2 ∧ rb2 = rb + 1 ∧ rn2 = rn ∧ ru2 = ru)) (P8 : ((0 ≤ h ∧ h < g 1) ∧ (0 ≤ zR ∧ zR ≤ 30 ∧ (zR = 0 ∨ canG g h zR) ∧ ∀ d, zR < d → d ≤ 30 → ¬ canG g h d) ∧ rf2R = rf) ∨ (¬ (0 ≤ h ∧ h < g 1) ∧ zR = -2 ∧ rf2R = rfZ rf 0)) : z = zR ∧ CR rb2 rn2 ru2 rf2R := by
  obtain ⟨e1, e0, eS, eS3, eM, eM8⟩ := r.1.1
  rcases P7 with ⟨w1, w2, w3, w4, w5, w6, w7⟩ | ⟨w1, w2, w3, w4, w5⟩ <;> rcases P8 with ⟨q1, q2, q3⟩ | ⟨q1, q2, q3⟩
  all_goals first | (exfalso; omega) | skip
  all_goals (refine ⟨?_, ?_⟩)
  all_goals first | (show CR _ _ _ _; first | exact CR_b hc ⟨by assumption, by assumption, by assumption⟩ (by assumption) | exact CR_k hc ⟨by assumption, by assumption, by assumption⟩ (by assumption) | exact CR_n hc ⟨by assumption, by assumption, by assumption⟩ (by assumption) | exact CR_f hc ⟨by assumption, by assumption, by assumption⟩ (by assumption)) | skip
  all_goals (first | omega | (exact far_eq r.1 w1 ⟨w2, w3, w4⟩ q2))
theorem st_behind {S : Int} {M : Int} {sk : Int → Int} {sc : Int → Int} {mk : Int → Int} {ms : Int → Int} {mp : Int → Int} {r1 : Int} {f1 : Int → Int} {r2 : Int} {f2 : Int → Int} {r3 : Int} {f3 : Int → Int} {r4 : Int} {f4 : Int → Int} {g : Int → Int} {rb : Int} {rn : Int} {ru : Int} {rf : Int → Int} {h : Int} {k : Int} {z : Int} {rb2 : Int} {rn2 : Int} {ru2 : Int} {zR : Int} {rf2R : Int → Int} (r : REL S M sk sc mk ms mp r1 f1 r2 f2 r3 f3 r4 f4 g) (hc : CR rb rn ru rf) (P7 : (((0 ≤ h ∧ h < S) ∧ (1 ≤ k ∧ k ≤ 8)) ∧ z = (callsI S M sc mk ms mp h k).1 ∧ rb2 = rb ∧ rn2 = rn ∧ ru2 = ru) ∨ (¬ ((0 ≤ h ∧ h < S) ∧ (1 ≤ k ∧ k ≤ 8)) ∧ z = -2 ∧ rb2 = rb + 1 ∧ rn2 = rn ∧ ru2 = ru)) (P8 : (((0 ≤ h ∧ h < g 1) ∧ 1 ≤ k ∧ k ≤ 8) ∧ zR = (callsG g h k).1 ∧ rf2R = rf) ∨ (¬ ((0 ≤ h ∧ h < g 1) ∧ 1 ≤ k ∧ k ≤ 8) ∧ zR = -2 ∧ rf2R = rfZ rf 0)) : z = zR ∧ CR rb2 rn2 ru2 rf2R := by
  obtain ⟨e1, e0, eS, eS3, eM, eM8⟩ := r.1.1
  rcases P7 with ⟨w1, w2, w3, w4, w5⟩ | ⟨w1, w2, w3, w4, w5⟩ <;> rcases P8 with ⟨q1, q2, q3⟩ | ⟨q1, q2, q3⟩
  all_goals first | (exfalso; omega) | skip
  all_goals (refine ⟨?_, ?_⟩)
  all_goals first | (show CR _ _ _ _; first | exact CR_b hc ⟨by assumption, by assumption, by assumption⟩ (by assumption) | exact CR_k hc ⟨by assumption, by assumption, by assumption⟩ (by assumption) | exact CR_n hc ⟨by assumption, by assumption, by assumption⟩ (by assumption) | exact CR_f hc ⟨by assumption, by assumption, by assumption⟩ (by assumption)) | skip
  all_goals (first | omega | (rw [w2, q2]; exact (rel_calls r.1 (by omega) (by omega)).2))
theorem st_lasts {S : Int} {M : Int} {sk : Int → Int} {sc : Int → Int} {mk : Int → Int} {ms : Int → Int} {mp : Int → Int} {r1 : Int} {f1 : Int → Int} {r2 : Int} {f2 : Int → Int} {r3 : Int} {f3 : Int → Int} {r4 : Int} {f4 : Int → Int} {g : Int → Int} {rb : Int} {rn : Int} {ru : Int} {rf : Int → Int} {h : Int} {d : Int} {z : Int} {rb2 : Int} {rn2 : Int} {ru2 : Int} {zR : Int} {rf2R : Int → Int} (r : REL S M sk sc mk ms mp r1 f1 r2 f2 r3 f3 r4 f4 g) (hc : CR rb rn ru rf) (P7 : (((0 ≤ h ∧ h < S) ∧ (1 ≤ d ∧ d ≤ 30)) ∧ (0 ≤ z ∧ z ≤ 8) ∧ (z = 8 ∨ ¬ canI S M sk ms (callsI S M sc mk ms mp h z).2.2 h d) ∧ (∀ j, 0 ≤ j → j < z → canI S M sk ms (callsI S M sc mk ms mp h j).2.2 h d) ∧ rb2 = rb ∧ rn2 = rn ∧ ru2 = ru) ∨ (¬ ((0 ≤ h ∧ h < S) ∧ (1 ≤ d ∧ d ≤ 30)) ∧ z = -2 ∧ rb2 = rb + 1 ∧ rn2 = rn ∧ ru2 = ru)) (P8 : (((0 ≤ h ∧ h < g 1) ∧ 1 ≤ d ∧ d ≤ 30) ∧ (0 ≤ zR ∧ ¬ canG (callsG g h zR).2 h d ∧ ∀ j, 0 ≤ j → j < zR → canG (callsG g h j).2 h d) ∧ rf2R = rf) ∨ (¬ ((0 ≤ h ∧ h < g 1) ∧ 1 ≤ d ∧ d ≤ 30) ∧ zR = -2 ∧ rf2R = rfZ rf 0)) : z = zR ∧ CR rb2 rn2 ru2 rf2R := by
  obtain ⟨e1, e0, eS, eS3, eM, eM8⟩ := r.1.1
  rcases P7 with ⟨w1, w2, w3, w4, w5, w6, w7⟩ | ⟨w1, w2, w3, w4, w5⟩ <;> rcases P8 with ⟨q1, q2, q3⟩ | ⟨q1, q2, q3⟩
  all_goals first | (exfalso; omega) | skip
  all_goals (refine ⟨?_, ?_⟩)
  all_goals first | (show CR _ _ _ _; first | exact CR_b hc ⟨by assumption, by assumption, by assumption⟩ (by assumption) | exact CR_k hc ⟨by assumption, by assumption, by assumption⟩ (by assumption) | exact CR_n hc ⟨by assumption, by assumption, by assumption⟩ (by assumption) | exact CR_f hc ⟨by assumption, by assumption, by assumption⟩ (by assumption)) | skip
  all_goals (first | omega | (exact lasts_eq r.1 (by omega) ⟨w2, w3, w4⟩ q2))
theorem st_few {S : Int} {M : Int} {sk : Int → Int} {sc : Int → Int} {mk : Int → Int} {ms : Int → Int} {mp : Int → Int} {r1 : Int} {f1 : Int → Int} {r2 : Int} {f2 : Int → Int} {r3 : Int} {f3 : Int → Int} {r4 : Int} {f4 : Int → Int} {g : Int → Int} {rb : Int} {rn : Int} {ru : Int} {rf : Int → Int} {y : Int} {w : Int} {z : Int} {rb2 : Int} {rn2 : Int} {ru2 : Int} {zR : Int} {rf2R : Int → Int} (r : REL S M sk sc mk ms mp r1 f1 r2 f2 r3 f3 r4 f4 g) (hc : CR rb rn ru rf) (hms : ∀ j : Int, 0 ≤ ms j ∧ ms j ≤ 9) (P7 : (((1 ≤ y ∧ y ≤ 72) ∧ -1 ≤ w ∧ w < S) ∧ FewI S M sc mk ms mp y w z ∧ rb2 = rb ∧ rn2 = rn ∧ ru2 = ru) ∨ (¬ ((1 ≤ y ∧ y ≤ 72) ∧ -1 ≤ w ∧ w < S) ∧ z = -10 ∧ rb2 = rb + 1 ∧ rn2 = rn ∧ ru2 = ru)) (P8 : (¬ ((1 ≤ y ∧ y ≤ 72) ∧ (w = -1 ∨ (0 ≤ w ∧ w < g 1))) ∧ zR = -10 ∧ rf2R = rfZ rf 0) ∨ (((1 ≤ y ∧ y ≤ 72) ∧ (w = -1 ∨ (0 ≤ w ∧ w < g 1))) ∧ FewG g y w zR ∧ rf2R = rf)) : z = zR ∧ CR rb2 rn2 ru2 rf2R := by
  obtain ⟨e1, e0, eS, eS3, eM, eM8⟩ := r.1.1
  rcases P7 with ⟨w1, w2, w3, w4, w5⟩ | ⟨w1, w2, w3, w4, w5⟩ <;> rcases P8 with ⟨q1, q2, q3⟩ | ⟨q1, q2, q3⟩
  all_goals first | (exfalso; omega) | skip
  all_goals (refine ⟨?_, ?_⟩)
  all_goals first | (show CR _ _ _ _; first | exact CR_b hc ⟨by assumption, by assumption, by assumption⟩ (by assumption) | exact CR_k hc ⟨by assumption, by assumption, by assumption⟩ (by assumption) | exact CR_n hc ⟨by assumption, by assumption, by assumption⟩ (by assumption) | exact CR_f hc ⟨by assumption, by assumption, by assumption⟩ (by assumption)) | skip
  all_goals (first | omega | (exact few_eq r.1 (fun j => (hms j).1) (by omega) w2 q2))
theorem st_crew {S : Int} {M : Int} {sk : Int → Int} {sc : Int → Int} {mk : Int → Int} {ms : Int → Int} {mp : Int → Int} {r1 : Int} {f1 : Int → Int} {r2 : Int} {f2 : Int → Int} {r3 : Int} {f3 : Int → Int} {r4 : Int} {f4 : Int → Int} {g : Int → Int} {rb : Int} {rn : Int} {ru : Int} {rf : Int → Int} {d : Int} {m : Int} {z : Int} {rb2 : Int} {rn2 : Int} {ru2 : Int} {zR : Int} {rf2R : Int → Int} (r : REL S M sk sc mk ms mp r1 f1 r2 f2 r3 f3 r4 f4 g) (hc : CR rb rn ru rf) (P7 : (((1 ≤ d ∧ d ≤ 30) ∧ (m = -1 ∨ (0 ≤ m ∧ m < M))) ∧ (∃ fo1, (0 ≤ fo1 ∧ fo1 ≤ 200000) ∧ bestP (fun h_ x_ => wthZ (cntZ mp h_ M) (sumZ mp ms h_ M) (sk h_) d ms h_ x_) S (bitZ mp (-1) M) fo1 ∧ z = (if m = -1 then (fo1 + 65536 - 1) / 65536 else (((fo1 + 65536 - 1) / 65536 * 65536 - fo1) / zpw (2 * (7 - m))) % 4 - 1)) ∧ rb2 = rb ∧ rn2 = rn ∧ ru2 = ru) ∨ (¬ ((1 ≤ d ∧ d ≤ 30) ∧ (m = -1 ∨ (0 ≤ m ∧ m < M))) ∧ z = -10 ∧ rb2 = rb + 1 ∧ rn2 = rn ∧ ru2 = ru)) (P8 : (¬ ((1 ≤ d ∧ d ≤ 30) ∧ (m = -1 ∨ (0 ≤ m ∧ m < g 0))) ∧ zR = -10 ∧ rf2R = rfZ rf 0) ∨ (((1 ≤ d ∧ d ≤ 30) ∧ (m = -1 ∨ (0 ≤ m ∧ m < g 0))) ∧ CrewG g d m zR ∧ rf2R = rf)) : z = zR ∧ CR rb2 rn2 ru2 rf2R := by
  obtain ⟨e1, e0, eS, eS3, eM, eM8⟩ := r.1.1
  rcases P7 with ⟨w1, w2, w3, w4, w5⟩ | ⟨w1, w2, w3, w4, w5⟩
  · obtain ⟨fo, w6, w7, w8⟩ := w2
    rcases P8 with ⟨q1, q2, q3⟩ | ⟨q1, q2, q3⟩
    · clear w7 w8; exfalso; omega
    · exact ⟨crew_eq r.1 w1.2 w7 w8 q2, CR_k hc ⟨by assumption, by assumption, by assumption⟩ (by assumption)⟩
  · rcases P8 with ⟨q1, q2, q3⟩ | ⟨q1, q2, q3⟩
    · exact ⟨by omega, CR_b hc ⟨by assumption, by assumption, by assumption⟩ (by assumption)⟩
    · clear q2; exfalso; omega
theorem st_seen {S : Int} {M : Int} {sk : Int → Int} {sc : Int → Int} {mk : Int → Int} {ms : Int → Int} {mp : Int → Int} {r1 : Int} {f1 : Int → Int} {r2 : Int} {f2 : Int → Int} {r3 : Int} {f3 : Int → Int} {r4 : Int} {f4 : Int → Int} {g : Int → Int} {rb : Int} {rn : Int} {ru : Int} {rf : Int → Int} {a0 : Int} {a1 : Int} {a2 : Int} {a3 : Int} {z : Int} {rb2 : Int} {rn2 : Int} {ru2 : Int} {r12 : Int} {f12 : Int → Int} {zR : Int} {g2R : Int → Int} {rf2R : Int → Int} (r : REL S M sk sc mk ms mp r1 f1 r2 f2 r3 f3 r4 f4 g) (hc : CR rb rn ru rf) (P7 : (¬ ((0 ≤ a0 ∧ a0 < M) ∧ (0 ≤ a1 ∧ a1 ≤ 99) ∧ (0 ≤ a2 ∧ a2 ≤ 30) ∧ (0 ≤ a3 ∧ a3 ≤ 1)) ∧ z = -2 ∧ rb2 = rb + 1 ∧ rn2 = rn ∧ ru2 = ru ∧ r12 = r1 ∧ f12 = f1) ∨ (((0 ≤ a0 ∧ a0 < M) ∧ (0 ≤ a1 ∧ a1 ≤ 99) ∧ (0 ≤ a2 ∧ a2 ≤ 30) ∧ (0 ≤ a3 ∧ a3 ≤ 1)) ∧ r1 = 5 ∧ z = -4 ∧ rb2 = rb ∧ rn2 = rn ∧ ru2 = ru + 1 ∧ r12 = r1 ∧ f12 = f1) ∨ (((0 ≤ a0 ∧ a0 < M) ∧ (0 ≤ a1 ∧ a1 ≤ 99) ∧ (0 ≤ a2 ∧ a2 ≤ 30) ∧ (0 ≤ a3 ∧ a3 ≤ 1)) ∧ r1 < 5 ∧ z = r1 + 1 ∧ rb2 = rb ∧ rn2 = rn ∧ ru2 = ru ∧ r12 = r1 + 1 ∧ f12 = putZ f1 (4 * r1) a0 a1 a2 a3)) (P8 : (¬ ((0 ≤ a0 ∧ a0 < g 0) ∧ (0 ≤ a1 ∧ a1 ≤ 99) ∧ (0 ≤ a2 ∧ a2 ≤ 30) ∧ (0 ≤ a3 ∧ a3 ≤ 1)) ∧ zR = -2 ∧ g2R = g ∧ rf2R = rfZ rf 0) ∨ (((0 ≤ a0 ∧ a0 < g 0) ∧ (0 ≤ a1 ∧ a1 ≤ 99) ∧ (0 ≤ a2 ∧ a2 ≤ 30) ∧ (0 ≤ a3 ∧ a3 ≤ 1)) ∧ g 2 = 5 ∧ zR = -4 ∧ g2R = g ∧ rf2R = rfZ rf 2) ∨ (((0 ≤ a0 ∧ a0 < g 0) ∧ (0 ≤ a1 ∧ a1 ≤ 99) ∧ (0 ≤ a2 ∧ a2 ≤ 30) ∧ (0 ≤ a3 ∧ a3 ≤ 1)) ∧ g 2 < 5 ∧ zR = g 2 + 1 ∧ g2R = zu (put4 g (36 + 4 * g 2) a0 a1 a2 a3) 2 (g 2 + 1) ∧ rf2R = rf)) : z = zR ∧ CR rb2 rn2 ru2 rf2R ∧ REL S M sk sc mk ms mp r12 f12 r2 f2 r3 f3 r4 f4 g2R := by
  obtain ⟨e1, e0, eS, eS3, eM, eM8⟩ := r.1.1
  have k2 := r.2.1.1
  have k2b := r.2.1.2.1
  have k3 := r.2.2.1.1
  have k3b := r.2.2.1.2.1
  have k4 := r.2.2.2.1.1
  have k4b := r.2.2.2.1.2.1
  rcases P7 with ⟨w1, w2, w3, w4, w5, w6, w7⟩ | ⟨w1, w2, w3, w4, w5, w6, w7, w8⟩ | ⟨w1, w2, w3, w4, w5, w6, w7, w8⟩ <;> rcases P8 with ⟨q1, q2, q3, q4⟩ | ⟨q1, q2, q3, q4, q5⟩ | ⟨q1, q2, q3, q4, q5⟩
  all_goals first | (exfalso; omega) | skip
  all_goals (refine ⟨?_, ?_, ?_⟩)
  all_goals first | (show CR _ _ _ _; first | exact CR_b hc ⟨by assumption, by assumption, by assumption⟩ (by assumption) | exact CR_k hc ⟨by assumption, by assumption, by assumption⟩ (by assumption) | exact CR_n hc ⟨by assumption, by assumption, by assumption⟩ (by assumption) | exact CR_f hc ⟨by assumption, by assumption, by assumption⟩ (by assumption)) | skip
  all_goals first | (show REL S M sk sc mk ms mp r12 f12 r2 f2 r3 f3 r4 f4 g2R; first | (subst_vars; exact r) | (subst_vars; exact REL_seen r (by omega) (by omega))) | skip
  all_goals (first | omega)
theorem st_note {S : Int} {M : Int} {sk : Int → Int} {sc : Int → Int} {mk : Int → Int} {ms : Int → Int} {mp : Int → Int} {r1 : Int} {f1 : Int → Int} {r2 : Int} {f2 : Int → Int} {r3 : Int} {f3 : Int → Int} {r4 : Int} {f4 : Int → Int} {g : Int → Int} {rb : Int} {rn : Int} {ru : Int} {rf : Int → Int} {a0 : Int} {a1 : Int} {a2 : Int} {a3 : Int} {z : Int} {rb2 : Int} {rn2 : Int} {ru2 : Int} {r22 : Int} {f22 : Int → Int} {zR : Int} {g2R : Int → Int} {rf2R : Int → Int} (r : REL S M sk sc mk ms mp r1 f1 r2 f2 r3 f3 r4 f4 g) (hc : CR rb rn ru rf) (P7 : (¬ ((0 ≤ a0 ∧ a0 < S) ∧ (1 ≤ a1 ∧ a1 ≤ 30) ∧ (0 ≤ a2 ∧ a2 ≤ 8) ∧ (0 ≤ a3 ∧ a3 ≤ 99)) ∧ z = -2 ∧ rb2 = rb + 1 ∧ rn2 = rn ∧ ru2 = ru ∧ r22 = r2 ∧ f22 = f2) ∨ (((0 ≤ a0 ∧ a0 < S) ∧ (1 ≤ a1 ∧ a1 ≤ 30) ∧ (0 ≤ a2 ∧ a2 ≤ 8) ∧ (0 ≤ a3 ∧ a3 ≤ 99)) ∧ r2 = 6 ∧ z = -4 ∧ rb2 = rb ∧ rn2 = rn ∧ ru2 = ru + 1 ∧ r22 = r2 ∧ f22 = f2) ∨ (((0 ≤ a0 ∧ a0 < S) ∧ (1 ≤ a1 ∧ a1 ≤ 30) ∧ (0 ≤ a2 ∧ a2 ≤ 8) ∧ (0 ≤ a3 ∧ a3 ≤ 99)) ∧ r2 < 6 ∧ z = r2 + 1 ∧ rb2 = rb ∧ rn2 = rn ∧ ru2 = ru ∧ r22 = r2 + 1 ∧ f22 = putZ f2 (4 * r2) a0 a1 a2 a3)) (P8 : (¬ ((0 ≤ a0 ∧ a0 < g 1) ∧ (1 ≤ a1 ∧ a1 ≤ 30) ∧ (0 ≤ a2 ∧ a2 ≤ 8) ∧ (0 ≤ a3 ∧ a3 ≤ 99)) ∧ zR = -2 ∧ g2R = g ∧ rf2R = rfZ rf 0) ∨ (((0 ≤ a0 ∧ a0 < g 1) ∧ (1 ≤ a1 ∧ a1 ≤ 30) ∧ (0 ≤ a2 ∧ a2 ≤ 8) ∧ (0 ≤ a3 ∧ a3 ≤ 99)) ∧ g 3 = 6 ∧ zR = -4 ∧ g2R = g ∧ rf2R = rfZ rf 2) ∨ (((0 ≤ a0 ∧ a0 < g 1) ∧ (1 ≤ a1 ∧ a1 ≤ 30) ∧ (0 ≤ a2 ∧ a2 ≤ 8) ∧ (0 ≤ a3 ∧ a3 ≤ 99)) ∧ g 3 < 6 ∧ zR = g 3 + 1 ∧ g2R = zu (put4 g (56 + 4 * g 3) a0 a1 a2 a3) 3 (g 3 + 1) ∧ rf2R = rf)) : z = zR ∧ CR rb2 rn2 ru2 rf2R ∧ REL S M sk sc mk ms mp r1 f1 r22 f22 r3 f3 r4 f4 g2R := by
  obtain ⟨e1, e0, eS, eS3, eM, eM8⟩ := r.1.1
  have k2 := r.2.1.1
  have k2b := r.2.1.2.1
  have k3 := r.2.2.1.1
  have k3b := r.2.2.1.2.1
  have k4 := r.2.2.2.1.1
  have k4b := r.2.2.2.1.2.1
  rcases P7 with ⟨w1, w2, w3, w4, w5, w6, w7⟩ | ⟨w1, w2, w3, w4, w5, w6, w7, w8⟩ | ⟨w1, w2, w3, w4, w5, w6, w7, w8⟩ <;> rcases P8 with ⟨q1, q2, q3, q4⟩ | ⟨q1, q2, q3, q4, q5⟩ | ⟨q1, q2, q3, q4, q5⟩
  all_goals first | (exfalso; omega) | skip
  all_goals (refine ⟨?_, ?_, ?_⟩)
  all_goals first | (show CR _ _ _ _; first | exact CR_b hc ⟨by assumption, by assumption, by assumption⟩ (by assumption) | exact CR_k hc ⟨by assumption, by assumption, by assumption⟩ (by assumption) | exact CR_n hc ⟨by assumption, by assumption, by assumption⟩ (by assumption) | exact CR_f hc ⟨by assumption, by assumption, by assumption⟩ (by assumption)) | skip
  all_goals first | (show REL S M sk sc mk ms mp r1 f1 r22 f22 r3 f3 r4 f4 g2R; first | (subst_vars; exact r) | (subst_vars; exact REL_note r (by omega) (by omega))) | skip
  all_goals (first | omega)
theorem st_mark {S : Int} {M : Int} {sk : Int → Int} {sc : Int → Int} {mk : Int → Int} {ms : Int → Int} {mp : Int → Int} {r1 : Int} {f1 : Int → Int} {r2 : Int} {f2 : Int → Int} {r3 : Int} {f3 : Int → Int} {r4 : Int} {f4 : Int → Int} {g : Int → Int} {rb : Int} {rn : Int} {ru : Int} {rf : Int → Int} {a0 : Int} {a1 : Int} {a2 : Int} {a3 : Int} {z : Int} {rb2 : Int} {rn2 : Int} {ru2 : Int} {r32 : Int} {f32 : Int → Int} {zR : Int} {g2R : Int → Int} {rf2R : Int → Int} (r : REL S M sk sc mk ms mp r1 f1 r2 f2 r3 f3 r4 f4 g) (hc : CR rb rn ru rf) (P7 : (¬ ((0 ≤ a0 ∧ a0 < M) ∧ (1 ≤ a1 ∧ a1 ≤ 9) ∧ (0 ≤ a2 ∧ a2 ≤ 99) ∧ (0 ≤ a3 ∧ a3 ≤ 40)) ∧ z = -2 ∧ rb2 = rb + 1 ∧ rn2 = rn ∧ ru2 = ru ∧ r32 = r3 ∧ f32 = f3) ∨ (((0 ≤ a0 ∧ a0 < M) ∧ (1 ≤ a1 ∧ a1 ≤ 9) ∧ (0 ≤ a2 ∧ a2 ≤ 99) ∧ (0 ≤ a3 ∧ a3 ≤ 40)) ∧ r3 = 6 ∧ z = -4 ∧ rb2 = rb ∧ rn2 = rn ∧ ru2 = ru + 1 ∧ r32 = r3 ∧ f32 = f3) ∨ (((0 ≤ a0 ∧ a0 < M) ∧ (1 ≤ a1 ∧ a1 ≤ 9) ∧ (0 ≤ a2 ∧ a2 ≤ 99) ∧ (0 ≤ a3 ∧ a3 ≤ 40)) ∧ r3 < 6 ∧ z = r3 + 1 ∧ rb2 = rb ∧ rn2 = rn ∧ ru2 = ru ∧ r32 = r3 + 1 ∧ f32 = putZ f3 (4 * r3) a0 a1 a2 a3)) (P8 : (¬ ((0 ≤ a0 ∧ a0 < g 0) ∧ (1 ≤ a1 ∧ a1 ≤ 9) ∧ (0 ≤ a2 ∧ a2 ≤ 99) ∧ (0 ≤ a3 ∧ a3 ≤ 40)) ∧ zR = -2 ∧ g2R = g ∧ rf2R = rfZ rf 0) ∨ (((0 ≤ a0 ∧ a0 < g 0) ∧ (1 ≤ a1 ∧ a1 ≤ 9) ∧ (0 ≤ a2 ∧ a2 ≤ 99) ∧ (0 ≤ a3 ∧ a3 ≤ 40)) ∧ g 4 = 6 ∧ zR = -4 ∧ g2R = g ∧ rf2R = rfZ rf 2) ∨ (((0 ≤ a0 ∧ a0 < g 0) ∧ (1 ≤ a1 ∧ a1 ≤ 9) ∧ (0 ≤ a2 ∧ a2 ≤ 99) ∧ (0 ≤ a3 ∧ a3 ≤ 40)) ∧ g 4 < 6 ∧ zR = g 4 + 1 ∧ g2R = zu (put4 g (80 + 4 * g 4) a0 a1 a2 a3) 4 (g 4 + 1) ∧ rf2R = rf)) : z = zR ∧ CR rb2 rn2 ru2 rf2R ∧ REL S M sk sc mk ms mp r1 f1 r2 f2 r32 f32 r4 f4 g2R := by
  obtain ⟨e1, e0, eS, eS3, eM, eM8⟩ := r.1.1
  have k2 := r.2.1.1
  have k2b := r.2.1.2.1
  have k3 := r.2.2.1.1
  have k3b := r.2.2.1.2.1
  have k4 := r.2.2.2.1.1
  have k4b := r.2.2.2.1.2.1
  rcases P7 with ⟨w1, w2, w3, w4, w5, w6, w7⟩ | ⟨w1, w2, w3, w4, w5, w6, w7, w8⟩ | ⟨w1, w2, w3, w4, w5, w6, w7, w8⟩ <;> rcases P8 with ⟨q1, q2, q3, q4⟩ | ⟨q1, q2, q3, q4, q5⟩ | ⟨q1, q2, q3, q4, q5⟩
  all_goals first | (exfalso; omega) | skip
  all_goals (refine ⟨?_, ?_, ?_⟩)
  all_goals first | (show CR _ _ _ _; first | exact CR_b hc ⟨by assumption, by assumption, by assumption⟩ (by assumption) | exact CR_k hc ⟨by assumption, by assumption, by assumption⟩ (by assumption) | exact CR_n hc ⟨by assumption, by assumption, by assumption⟩ (by assumption) | exact CR_f hc ⟨by assumption, by assumption, by assumption⟩ (by assumption)) | skip
  all_goals first | (show REL S M sk sc mk ms mp r1 f1 r2 f2 r32 f32 r4 f4 g2R; first | (subst_vars; exact r) | (subst_vars; exact REL_mark r (by omega) (by omega))) | skip
  all_goals (first | omega)
theorem st_skilled {S : Int} {M : Int} {sk : Int → Int} {sc : Int → Int} {mk : Int → Int} {ms : Int → Int} {mp : Int → Int} {r1 : Int} {f1 : Int → Int} {r2 : Int} {f2 : Int → Int} {r3 : Int} {f3 : Int → Int} {r4 : Int} {f4 : Int → Int} {g : Int → Int} {rb : Int} {rn : Int} {ru : Int} {rf : Int → Int} {i : Int} {w : Int} {z : Int} {rb2 : Int} {rn2 : Int} {ru2 : Int} {zR : Int} {rf2R : Int → Int} (r : REL S M sk sc mk ms mp r1 f1 r2 f2 r3 f3 r4 f4 g) (hc : CR rb rn ru rf) (P7 : (((0 ≤ i ∧ i < M) ∧ (0 ≤ w ∧ w ≤ 2)) ∧ z = (if w = 0 then cntZ (okS f1 (mk i) i r1) 1 10 else if w = 1 then fstZ (okS f1 (mk i) i r1) 10 else lasZ (okS f1 (mk i) i r1) 10) ∧ rb2 = rb ∧ rn2 = rn ∧ ru2 = ru) ∨ (¬ ((0 ≤ i ∧ i < M) ∧ (0 ≤ w ∧ w ≤ 2)) ∧ z = -2 ∧ rb2 = rb + 1 ∧ rn2 = rn ∧ ru2 = ru)) (P8 : (((0 ≤ i ∧ i < g 0) ∧ 0 ≤ w ∧ w ≤ 2) ∧ zR = (if w = 0 then cntZ (okS (shZ g 36) (g (20 + i)) i (g 2)) 1 10 else if w = 1 then fstZ (okS (shZ g 36) (g (20 + i)) i (g 2)) 10 else lasZ (okS (shZ g 36) (g (20 + i)) i (g 2)) 10) ∧ rf2R = rf) ∨ (¬ ((0 ≤ i ∧ i < g 0) ∧ 0 ≤ w ∧ w ≤ 2) ∧ zR = -2 ∧ rf2R = rfZ rf 0)) : z = zR ∧ CR rb2 rn2 ru2 rf2R := by
  obtain ⟨e1, e0, eS, eS3, eM, eM8⟩ := r.1.1
  rcases P7 with ⟨w1, w2, w3, w4, w5⟩ | ⟨w1, w2, w3, w4, w5⟩ <;> rcases P8 with ⟨q1, q2, q3⟩ | ⟨q1, q2, q3⟩
  all_goals first | (exfalso; omega) | skip
  all_goals (refine ⟨?_, ?_⟩)
  all_goals first | (show CR _ _ _ _; first | exact CR_b hc ⟨by assumption, by assumption, by assumption⟩ (by assumption) | exact CR_k hc ⟨by assumption, by assumption, by assumption⟩ (by assumption) | exact CR_n hc ⟨by assumption, by assumption, by assumption⟩ (by assumption) | exact CR_f hc ⟨by assumption, by assumption, by assumption⟩ (by assumption)) | skip
  all_goals (first | omega | (rw [w2, q2, rel_ok (mk i) i r.2.1, (r.1.2.2.1 i (by omega) (by omega)).1]))
theorem st_tell {S : Int} {M : Int} {sk : Int → Int} {sc : Int → Int} {mk : Int → Int} {ms : Int → Int} {mp : Int → Int} {r1 : Int} {f1 : Int → Int} {r2 : Int} {f2 : Int → Int} {r3 : Int} {f3 : Int → Int} {r4 : Int} {f4 : Int → Int} {g : Int → Int} {rb : Int} {rn : Int} {ru : Int} {rf : Int → Int} {i : Int} {z : Int} {rb2 : Int} {rn2 : Int} {ru2 : Int} {zR : Int} {rf2R : Int → Int} (r : REL S M sk sc mk ms mp r1 f1 r2 f2 r3 f3 r4 f4 g) (hc : CR rb rn ru rf) (P7 : ((0 ≤ i ∧ i < M) ∧ z = (if bitZ (okS f1 (mk i) i r1) 1 10 = 0 then -1 else (bstZ (tellK (okS f1 (mk i) i r1) (mk i)) tellE 10 186).1) ∧ rb2 = rb ∧ rn2 = rn ∧ ru2 = ru) ∨ (¬ (0 ≤ i ∧ i < M) ∧ z = -2 ∧ rb2 = rb + 1 ∧ rn2 = rn ∧ ru2 = ru)) (P8 : (((0 ≤ i ∧ i < g 0)) ∧ zR = (bstZ (tellK (okS (shZ g 36) (g (20 + i)) i (g 2)) (g (20 + i))) tellE 1000000 (186)).1 ∧ rf2R = rf) ∨ (¬ ((0 ≤ i ∧ i < g 0)) ∧ zR = -2 ∧ rf2R = rfZ rf 0)) : z = zR ∧ CR rb2 rn2 ru2 rf2R := by
  obtain ⟨e1, e0, eS, eS3, eM, eM8⟩ := r.1.1
  rcases P7 with ⟨w1, w2, w3, w4, w5⟩ | ⟨w1, w2, w3, w4, w5⟩ <;> rcases P8 with ⟨q1, q2, q3⟩ | ⟨q1, q2, q3⟩
  all_goals first | (exfalso; omega) | skip
  all_goals (refine ⟨?_, ?_⟩)
  all_goals first | (show CR _ _ _ _; first | exact CR_b hc ⟨by assumption, by assumption, by assumption⟩ (by assumption) | exact CR_k hc ⟨by assumption, by assumption, by assumption⟩ (by assumption) | exact CR_n hc ⟨by assumption, by assumption, by assumption⟩ (by assumption) | exact CR_f hc ⟨by assumption, by assumption, by assumption⟩ (by assumption)) | skip
  all_goals (first | omega | (rw [w2, q2, tell_eq (mk i) (okS_0 f1 (mk i) i r1), rel_ok (mk i) i r.2.1, (r.1.2.2.1 i (by omega) (by omega)).1]))
theorem st_forget {S : Int} {M : Int} {sk : Int → Int} {sc : Int → Int} {mk : Int → Int} {ms : Int → Int} {mp : Int → Int} {r1 : Int} {f1 : Int → Int} {r2 : Int} {f2 : Int → Int} {r3 : Int} {f3 : Int → Int} {r4 : Int} {f4 : Int → Int} {g : Int → Int} {rb : Int} {rn : Int} {ru : Int} {rf : Int → Int} {w : Int} {z : Int} {r12 : Int} {r22 : Int} {r32 : Int} {rb2 : Int} {rn2 : Int} {ru2 : Int} {zR : Int} {g2R : Int → Int} {rf2R : Int → Int} (r : REL S M sk sc mk ms mp r1 f1 r2 f2 r3 f3 r4 f4 g) (hc : CR rb rn ru rf) (P7 : (w = 0 ∧ z = r1 ∧ r12 = 0 ∧ r22 = r2 ∧ r32 = r3 ∧ rb2 = rb ∧ rn2 = rn ∧ ru2 = ru) ∨ (w = 1 ∧ z = r2 ∧ r12 = r1 ∧ r22 = 0 ∧ r32 = r3 ∧ rb2 = rb ∧ rn2 = rn ∧ ru2 = ru) ∨ (w = 2 ∧ z = r3 ∧ r12 = r1 ∧ r22 = r2 ∧ r32 = 0 ∧ rb2 = rb ∧ rn2 = rn ∧ ru2 = ru) ∨ (¬ (0 ≤ w ∧ w ≤ 2) ∧ z = -2 ∧ r12 = r1 ∧ r22 = r2 ∧ r32 = r3 ∧ rb2 = rb + 1 ∧ rn2 = rn ∧ ru2 = ru)) (P8 : (¬ (0 ≤ w ∧ w ≤ 2) ∧ zR = -2 ∧ g2R = g ∧ rf2R = rfZ rf 0) ∨ ((0 ≤ w ∧ w ≤ 2) ∧ zR = g (2 + w) ∧ g2R = zu g (2 + w) 0 ∧ rf2R = rf)) : z = zR ∧ CR rb2 rn2 ru2 rf2R ∧ REL S M sk sc mk ms mp r12 f1 r22 f2 r32 f3 r4 f4 g2R := by
  obtain ⟨e1, e0, eS, eS3, eM, eM8⟩ := r.1.1
  have k2 := r.2.1.1
  have k2b := r.2.1.2.1
  have k3 := r.2.2.1.1
  have k3b := r.2.2.1.2.1
  have k4 := r.2.2.2.1.1
  have k4b := r.2.2.2.1.2.1
  rcases P7 with ⟨w1, w2, w3, w4, w5, w6, w7, w8⟩ | ⟨w1, w2, w3, w4, w5, w6, w7, w8⟩ | ⟨w1, w2, w3, w4, w5, w6, w7, w8⟩ | ⟨w1, w2, w3, w4, w5, w6, w7, w8⟩ <;> rcases P8 with ⟨q1, q2, q3, q4⟩ | ⟨q1, q2, q3, q4⟩
  all_goals first | (exfalso; omega) | skip
  all_goals (refine ⟨?_, ?_, ?_⟩)
  all_goals first | (show CR _ _ _ _; first | exact CR_b hc ⟨by assumption, by assumption, by assumption⟩ (by assumption) | exact CR_k hc ⟨by assumption, by assumption, by assumption⟩ (by assumption) | exact CR_n hc ⟨by assumption, by assumption, by assumption⟩ (by assumption) | exact CR_f hc ⟨by assumption, by assumption, by assumption⟩ (by assumption)) | skip
  all_goals first | (show REL S M sk sc mk ms mp r12 f1 r22 f2 r32 f3 r4 f4 g2R; first | (subst_vars; exact r) | (subst_vars; exact REL_f0 r) | (subst_vars; exact REL_f1 r) | (subst_vars; exact REL_f2 r)) | skip
  all_goals (first | omega | (rw [w2, q2, w1]; exact k2.symm) | (rw [w2, q2, w1]; exact k3.symm) | (rw [w2, q2, w1]; exact k4.symm))
theorem st_is {S : Int} {M : Int} {sk : Int → Int} {sc : Int → Int} {mk : Int → Int} {ms : Int → Int} {mp : Int → Int} {r1 : Int} {f1 : Int → Int} {r2 : Int} {f2 : Int → Int} {r3 : Int} {f3 : Int → Int} {r4 : Int} {f4 : Int → Int} {g : Int → Int} {rb : Int} {rn : Int} {ru : Int} {rf : Int → Int} {h : Int} {z : Int} {rb2 : Int} {rn2 : Int} {ru2 : Int} {zR : Int} {rf2R : Int → Int} (r : REL S M sk sc mk ms mp r1 f1 r2 f2 r3 f3 r4 f4 g) (hc : CR rb rn ru rf) (P7 : ((0 ≤ h ∧ h < S) ∧ z = (kbZ f2 1 h r2 6) ∧ rb2 = rb ∧ rn2 = rn ∧ ru2 = ru) ∨ (¬ (0 ≤ h ∧ h < S) ∧ z = -2 ∧ rb2 = rb + 1 ∧ rn2 = rn ∧ ru2 = ru)) (P8 : (((0 ≤ h ∧ h < g 1)) ∧ zR = kbZ (shZ g 56) 1 h (g 3) 6 ∧ rf2R = rf) ∨ (¬ ((0 ≤ h ∧ h < g 1)) ∧ zR = -2 ∧ rf2R = rfZ rf 0)) : z = zR ∧ CR rb2 rn2 ru2 rf2R := by
  obtain ⟨e1, e0, eS, eS3, eM, eM8⟩ := r.1.1
  rcases P7 with ⟨w1, w2, w3, w4, w5⟩ | ⟨w1, w2, w3, w4, w5⟩ <;> rcases P8 with ⟨q1, q2, q3⟩ | ⟨q1, q2, q3⟩
  all_goals first | (exfalso; omega) | skip
  all_goals (refine ⟨?_, ?_⟩)
  all_goals first | (show CR _ _ _ _; first | exact CR_b hc ⟨by assumption, by assumption, by assumption⟩ (by assumption) | exact CR_k hc ⟨by assumption, by assumption, by assumption⟩ (by assumption) | exact CR_n hc ⟨by assumption, by assumption, by assumption⟩ (by assumption) | exact CR_f hc ⟨by assumption, by assumption, by assumption⟩ (by assumption)) | skip
  all_goals (first | omega | (rw [w2, q2]; exact rel_k 1 h r.2.2.1))
theorem st_kinds {S : Int} {M : Int} {sk : Int → Int} {sc : Int → Int} {mk : Int → Int} {ms : Int → Int} {mp : Int → Int} {r1 : Int} {f1 : Int → Int} {r2 : Int} {f2 : Int → Int} {r3 : Int} {f3 : Int → Int} {r4 : Int} {f4 : Int → Int} {g : Int → Int} {rb : Int} {rn : Int} {ru : Int} {rf : Int → Int} {i : Int} {z : Int} {rb2 : Int} {rn2 : Int} {ru2 : Int} {zR : Int} {rf2R : Int → Int} (r : REL S M sk sc mk ms mp r1 f1 r2 f2 r3 f3 r4 f4 g) (hc : CR rb rn ru rf) (P7 : ((0 ≤ i ∧ i < M) ∧ z = (kbZ f3 0 i r3 6) ∧ rb2 = rb ∧ rn2 = rn ∧ ru2 = ru) ∨ (¬ (0 ≤ i ∧ i < M) ∧ z = -2 ∧ rb2 = rb + 1 ∧ rn2 = rn ∧ ru2 = ru)) (P8 : (((0 ≤ i ∧ i < g 0)) ∧ zR = kbZ (shZ g 80) 0 i (g 4) 6 ∧ rf2R = rf) ∨ (¬ ((0 ≤ i ∧ i < g 0)) ∧ zR = -2 ∧ rf2R = rfZ rf 0)) : z = zR ∧ CR rb2 rn2 ru2 rf2R := by
  obtain ⟨e1, e0, eS, eS3, eM, eM8⟩ := r.1.1
  rcases P7 with ⟨w1, w2, w3, w4, w5⟩ | ⟨w1, w2, w3, w4, w5⟩ <;> rcases P8 with ⟨q1, q2, q3⟩ | ⟨q1, q2, q3⟩
  all_goals first | (exfalso; omega) | skip
  all_goals (refine ⟨?_, ?_⟩)
  all_goals first | (show CR _ _ _ _; first | exact CR_b hc ⟨by assumption, by assumption, by assumption⟩ (by assumption) | exact CR_k hc ⟨by assumption, by assumption, by assumption⟩ (by assumption) | exact CR_n hc ⟨by assumption, by assumption, by assumption⟩ (by assumption) | exact CR_f hc ⟨by assumption, by assumption, by assumption⟩ (by assumption)) | skip
  all_goals (first | omega | (rw [w2, q2]; exact rel_k 0 i r.2.2.2.1))
theorem st_look {S : Int} {M : Int} {sk : Int → Int} {sc : Int → Int} {mk : Int → Int} {ms : Int → Int} {mp : Int → Int} {r1 : Int} {f1 : Int → Int} {r2 : Int} {f2 : Int → Int} {r3 : Int} {f3 : Int → Int} {r4 : Int} {f4 : Int → Int} {g : Int → Int} {rb : Int} {rn : Int} {ru : Int} {rf : Int → Int} {h : Int} {z : Int} {rb2 : Int} {rn2 : Int} {ru2 : Int} {zR : Int} {rf2R : Int → Int} (r : REL S M sk sc mk ms mp r1 f1 r2 f2 r3 f3 r4 f4 g) (hc : CR rb rn ru rf) (P7 : ((0 ≤ h ∧ h < S) ∧ z = (if (kbZ f2 1 h r2 6) = 0 then -1 else (bstY (lookK (kbZ f2 1 h r2 6)) lookE 7 270).1) ∧ rb2 = rb ∧ rn2 = rn ∧ ru2 = ru) ∨ (¬ (0 ≤ h ∧ h < S) ∧ z = -2 ∧ rb2 = rb + 1 ∧ rn2 = rn ∧ ru2 = ru)) (P8 : (((0 ≤ h ∧ h < g 1)) ∧ zR = (if 0 < (kbZ (shZ g 56) 1 h (g 3) 6) then (bstY (lookK (kbZ (shZ g 56) 1 h (g 3) 6)) lookE 1000000 (270)).1 else -1) ∧ rf2R = rf) ∨ (¬ ((0 ≤ h ∧ h < g 1)) ∧ zR = -2 ∧ rf2R = rfZ rf 0)) : z = zR ∧ CR rb2 rn2 ru2 rf2R := by
  obtain ⟨e1, e0, eS, eS3, eM, eM8⟩ := r.1.1
  rcases P7 with ⟨w1, w2, w3, w4, w5⟩ | ⟨w1, w2, w3, w4, w5⟩ <;> rcases P8 with ⟨q1, q2, q3⟩ | ⟨q1, q2, q3⟩
  all_goals first | (exfalso; omega) | skip
  all_goals (refine ⟨?_, ?_⟩)
  all_goals first | (show CR _ _ _ _; first | exact CR_b hc ⟨by assumption, by assumption, by assumption⟩ (by assumption) | exact CR_k hc ⟨by assumption, by assumption, by assumption⟩ (by assumption) | exact CR_n hc ⟨by assumption, by assumption, by assumption⟩ (by assumption) | exact CR_f hc ⟨by assumption, by assumption, by assumption⟩ (by assumption)) | skip
  all_goals (first | omega | (rw [w2, q2, look_eq (kbZ_b f2 1 h r2 (m := 6) (by omega)).1, rel_k 1 h r.2.2.1]))
theorem st_ask {S : Int} {M : Int} {sk : Int → Int} {sc : Int → Int} {mk : Int → Int} {ms : Int → Int} {mp : Int → Int} {r1 : Int} {f1 : Int → Int} {r2 : Int} {f2 : Int → Int} {r3 : Int} {f3 : Int → Int} {r4 : Int} {f4 : Int → Int} {g : Int → Int} {rb : Int} {rn : Int} {ru : Int} {rf : Int → Int} {i : Int} {z : Int} {rb2 : Int} {rn2 : Int} {ru2 : Int} {zR : Int} {rf2R : Int → Int} (r : REL S M sk sc mk ms mp r1 f1 r2 f2 r3 f3 r4 f4 g) (hc : CR rb rn ru rf) (P7 : ((0 ≤ i ∧ i < M) ∧ z = (if (kbZ f3 0 i r3 6) = 0 then -1 else (bstY (askK (ms i) (kbZ f3 0 i r3 6)) (fun j => j) 7 10).1) ∧ rb2 = rb ∧ rn2 = rn ∧ ru2 = ru) ∨ (¬ (0 ≤ i ∧ i < M) ∧ z = -2 ∧ rb2 = rb + 1 ∧ rn2 = rn ∧ ru2 = ru)) (P8 : (((0 ≤ i ∧ i < g 0)) ∧ zR = (if 0 < (kbZ (shZ g 80) 0 i (g 4) 6) then (bstY (askK (g (28 + i)) (kbZ (shZ g 80) 0 i (g 4) 6)) (fun j => j) 1000000 (10)).1 else -1) ∧ rf2R = rf) ∨ (¬ ((0 ≤ i ∧ i < g 0)) ∧ zR = -2 ∧ rf2R = rfZ rf 0)) : z = zR ∧ CR rb2 rn2 ru2 rf2R := by
  obtain ⟨e1, e0, eS, eS3, eM, eM8⟩ := r.1.1
  rcases P7 with ⟨w1, w2, w3, w4, w5⟩ | ⟨w1, w2, w3, w4, w5⟩ <;> rcases P8 with ⟨q1, q2, q3⟩ | ⟨q1, q2, q3⟩
  all_goals first | (exfalso; omega) | skip
  all_goals (refine ⟨?_, ?_⟩)
  all_goals first | (show CR _ _ _ _; first | exact CR_b hc ⟨by assumption, by assumption, by assumption⟩ (by assumption) | exact CR_k hc ⟨by assumption, by assumption, by assumption⟩ (by assumption) | exact CR_n hc ⟨by assumption, by assumption, by assumption⟩ (by assumption) | exact CR_f hc ⟨by assumption, by assumption, by assumption⟩ (by assumption)) | skip
  all_goals (first | omega | (rw [w2, q2, ask_eq (ms i) (kbZ_b f3 0 i r3 (m := 6) (by omega)).1, rel_k 0 i r.2.2.2.1, (r.1.2.2.1 i (by omega) (by omega)).2.1]))
theorem st_water {S : Int} {M : Int} {sk : Int → Int} {sc : Int → Int} {mk : Int → Int} {ms : Int → Int} {mp : Int → Int} {r1 : Int} {f1 : Int → Int} {r2 : Int} {f2 : Int → Int} {r3 : Int} {f3 : Int → Int} {r4 : Int} {f4 : Int → Int} {g : Int → Int} {rb : Int} {rn : Int} {ru : Int} {rf : Int → Int} {a : Int} {c : Int} {d : Int} {z : Int} {rb2 : Int} {rn2 : Int} {ru2 : Int} {zR : Int} {rf2R : Int → Int} (r : REL S M sk sc mk ms mp r1 f1 r2 f2 r3 f3 r4 f4 g) (hc : CR rb rn ru rf) (P7 : (((0 ≤ a ∧ a < S) ∧ (0 ≤ c ∧ c < S) ∧ ¬ a = c ∧ (1 ≤ d ∧ d ≤ 30)) ∧ z = watI (gnI (cnI S M sk ms (goMp (goMp mp (lstI S M sc mk ms mp a)) (lstI S M (goSc sc a (lstI S M sc mk ms mp a)) mk ms (goMp mp (lstI S M sc mk ms mp a)) c)) a d) (cnI S M sk ms mp a d)) (gnI (cnI S M sk ms (goMp (goMp mp (lstI S M sc mk ms mp a)) (lstI S M (goSc sc a (lstI S M sc mk ms mp a)) mk ms (goMp mp (lstI S M sc mk ms mp a)) c)) c d) (cnI S M sk ms mp c d)) ∧ rb2 = rb ∧ rn2 = rn ∧ ru2 = ru) ∨ (¬ ((0 ≤ a ∧ a < S) ∧ (0 ≤ c ∧ c < S) ∧ ¬ a = c ∧ (1 ≤ d ∧ d ≤ 30)) ∧ z = -2 ∧ rb2 = rb + 1 ∧ rn2 = rn ∧ ru2 = ru)) (P8 : (((0 ≤ a ∧ a < g 1) ∧ (0 ≤ c ∧ c < g 1) ∧ a ≠ c ∧ (1 ≤ d ∧ d ≤ 30)) ∧ zR = watZ (canZ (goG g a (lstG g a)) a d) (canZ (goG g c (lstG g c)) c d) (canZ g a d) (canZ g c d) 4 ∧ rf2R = rf) ∨ (¬ ((0 ≤ a ∧ a < g 1) ∧ (0 ≤ c ∧ c < g 1) ∧ a ≠ c ∧ (1 ≤ d ∧ d ≤ 30)) ∧ zR = -2 ∧ rf2R = rfZ rf 0)) : z = zR ∧ CR rb2 rn2 ru2 rf2R := by
  obtain ⟨e1, e0, eS, eS3, eM, eM8⟩ := r.1.1
  rcases P7 with ⟨w1, w2, w3, w4, w5⟩ | ⟨w1, w2, w3, w4, w5⟩ <;> rcases P8 with ⟨q1, q2, q3⟩ | ⟨q1, q2, q3⟩
  all_goals first | (exfalso; omega) | skip
  all_goals (refine ⟨?_, ?_⟩)
  all_goals first | (show CR _ _ _ _; first | exact CR_b hc ⟨by assumption, by assumption, by assumption⟩ (by assumption) | exact CR_k hc ⟨by assumption, by assumption, by assumption⟩ (by assumption) | exact CR_n hc ⟨by assumption, by assumption, by assumption⟩ (by assumption) | exact CR_f hc ⟨by assumption, by assumption, by assumption⟩ (by assumption)) | skip
  all_goals (first | omega | (rw [w2, q2]; exact wat_eq r.1 (by omega) (by omega) (by omega)))
theorem st_lots {S : Int} {M : Int} {sk : Int → Int} {sc : Int → Int} {mk : Int → Int} {ms : Int → Int} {mp : Int → Int} {r1 : Int} {f1 : Int → Int} {r2 : Int} {f2 : Int → Int} {r3 : Int} {f3 : Int → Int} {r4 : Int} {f4 : Int → Int} {g : Int → Int} {rb : Int} {rn : Int} {ru : Int} {rf : Int → Int} {ab : Int} {be : Int} {abR : Int} {beR : Int} {i : Int} {nn : Int} {z : Int} {rb2 : Int} {rn2 : Int} {ru2 : Int} {ab2 : Int} {be2 : Int} {zR : Int} {ab2R : Int} {be2R : Int} {rf2R : Int → Int} (r : REL S M sk sc mk ms mp r1 f1 r2 f2 r3 f3 r4 f4 g) (hc : CR rb rn ru rf) (hf : FR ab be abR beR) (bg : ∀ j : Int, 0 ≤ g j ∧ g j ≤ 99) (P7 : (¬ ((0 ≤ i ∧ i < M) ∧ (0 ≤ nn ∧ nn ≤ 8)) ∧ z = -2 ∧ rb2 = rb + 1 ∧ rn2 = rn ∧ ru2 = ru ∧ ab2 = ab ∧ be2 = be) ∨ (((0 ≤ i ∧ i < M) ∧ (0 ≤ nn ∧ nn ≤ 8)) ∧ mp i = -1 ∧ z = -3 ∧ rb2 = rb ∧ rn2 = rn + 1 ∧ ru2 = ru ∧ ab2 = ab ∧ be2 = be) ∨ (((0 ≤ i ∧ i < M) ∧ (0 ≤ nn ∧ nn ≤ 8)) ∧ ¬ mp i = -1 ∧ z = 1 ∧ rb2 = rb ∧ rn2 = rn ∧ ru2 = ru ∧ ab2 = min nn (cntZ mp (mp i) M) / gcdZ (min nn (cntZ mp (mp i) M)) (cntZ mp (mp i) M) ∧ be2 = (cntZ mp (mp i) M) / gcdZ (min nn (cntZ mp (mp i) M)) (cntZ mp (mp i) M))) (P8 : (¬ ((0 ≤ i ∧ i < g 0) ∧ 0 ≤ nn ∧ nn ≤ 8) ∧ zR = -2 ∧ ab2R = abR ∧ be2R = beR ∧ rf2R = rfZ rf 0) ∨ (((0 ≤ i ∧ i < g 0) ∧ 0 ≤ nn ∧ nn ≤ 8) ∧ g (6 + i) = 0 ∧ zR = -3 ∧ ab2R = abR ∧ be2R = beR ∧ rf2R = rfZ rf 1) ∨ (((0 ≤ i ∧ i < g 0) ∧ 0 ≤ nn ∧ nn ≤ 8) ∧ 0 < g (6 + i) ∧ zR = 1 ∧ ab2R = (min nn (cntG g (g (6 + i)))) / gcdZ (min nn (cntG g (g (6 + i)))) (cntG g (g (6 + i))) ∧ be2R = cntG g (g (6 + i)) / gcdZ (min nn (cntG g (g (6 + i)))) (cntG g (g (6 + i))) ∧ rf2R = rf)) : z = zR ∧ CR rb2 rn2 ru2 rf2R ∧ FR ab2 be2 ab2R be2R := by
  obtain ⟨e1, e0, eS, eS3, eM, eM8⟩ := r.1.1
  rcases P7 with ⟨w1, w2, w3, w4, w5, w6, w7⟩ | ⟨w1, w2, w3, w4, w5, w6, w7, w8⟩ | ⟨w1, w2, w3, w4, w5, w6, w7, w8⟩
  · rcases P8 with ⟨q1, q2, q3, q4, q5⟩ | ⟨q1, q2, q3, q4, q5, q6⟩ | ⟨q1, q2, q3, q4, q5, q6⟩
    · exact ⟨by omega, CR_b hc ⟨by assumption, by assumption, by assumption⟩ (by assumption), by subst_vars; exact hf⟩
    · exfalso; omega
    · exfalso; clear q4 q5; omega
  · have hp := r.1.2.2.1 i (by omega) (by omega)
    rcases P8 with ⟨q1, q2, q3, q4, q5⟩ | ⟨q1, q2, q3, q4, q5, q6⟩ | ⟨q1, q2, q3, q4, q5, q6⟩
    · exfalso; omega
    · exact ⟨by omega, CR_n hc ⟨by assumption, by assumption, by assumption⟩ (by assumption), by subst_vars; exact hf⟩
    · exfalso; clear q4 q5; omega
  · have hp := r.1.2.2.1 i (by omega) (by omega)
    rcases P8 with ⟨q1, q2, q3, q4, q5⟩ | ⟨q1, q2, q3, q4, q5, q6⟩ | ⟨q1, q2, q3, q4, q5, q6⟩
    · exfalso; clear w7 w8; omega
    · exfalso; clear w7 w8; omega
    · refine ⟨by omega, CR_k hc ⟨by assumption, by assumption, by assumption⟩ (by assumption), ?_⟩
      rw [rel_cnt r.1, show mp i + 1 = g (6 + i) by omega] at w7 w8
      have h1 := cntZ_pos (f := mp) (v := mp i) (z := i) (m := M) eM w1.1 rfl
      have h2 := cntZ_b mp (mp i) (m := M) eM
      rw [rel_cnt r.1, show mp i + 1 = g (6 + i) by omega] at h1 h2
      exact FR_l w7 w8 q4 q5 w1.2 ⟨h1, by omega⟩
theorem st_centuries {S : Int} {M : Int} {sk : Int → Int} {sc : Int → Int} {mk : Int → Int} {ms : Int → Int} {mp : Int → Int} {r1 : Int} {f1 : Int → Int} {r2 : Int} {f2 : Int → Int} {r3 : Int} {f3 : Int → Int} {r4 : Int} {f4 : Int → Int} {g : Int → Int} {rb : Int} {rn : Int} {ru : Int} {rf : Int → Int} {sd : Int} {nn : Int} {z : Int} {rb2 : Int} {rn2 : Int} {ru2 : Int} {zR : Int} {rf2R : Int → Int} (r : REL S M sk sc mk ms mp r1 f1 r2 f2 r3 f3 r4 f4 g) (hc : CR rb rn ru rf) (P7 : (((0 ≤ sd ∧ sd ≤ 999999) ∧ (0 ≤ nn ∧ nn ≤ 60)) ∧ z = sumZ (cenI S M sc mk ms mp sd nn).2.2 ms (-1) M ∧ rb2 = rb ∧ rn2 = rn ∧ ru2 = ru) ∨ (¬ ((0 ≤ sd ∧ sd ≤ 999999) ∧ (0 ≤ nn ∧ nn ≤ 60)) ∧ z = -2 ∧ rb2 = rb + 1 ∧ rn2 = rn ∧ ru2 = ru)) (P8 : (((0 ≤ sd ∧ sd ≤ 999999) ∧ (0 ≤ nn ∧ nn ≤ 60)) ∧ zR = sumG (cenG g sd nn).2 0 ∧ rf2R = rf) ∨ (¬ ((0 ≤ sd ∧ sd ≤ 999999) ∧ (0 ≤ nn ∧ nn ≤ 60)) ∧ zR = -2 ∧ rf2R = rfZ rf 0)) : z = zR ∧ CR rb2 rn2 ru2 rf2R := by
  obtain ⟨e1, e0, eS, eS3, eM, eM8⟩ := r.1.1
  rcases P7 with ⟨w1, w2, w3, w4, w5⟩ | ⟨w1, w2, w3, w4, w5⟩ <;> rcases P8 with ⟨q1, q2, q3⟩ | ⟨q1, q2, q3⟩
  all_goals first | (exfalso; omega) | skip
  all_goals (refine ⟨?_, ?_⟩)
  all_goals first | (show CR _ _ _ _; first | exact CR_b hc ⟨by assumption, by assumption, by assumption⟩ (by assumption) | exact CR_k hc ⟨by assumption, by assumption, by assumption⟩ (by assumption) | exact CR_n hc ⟨by assumption, by assumption, by assumption⟩ (by assumption) | exact CR_f hc ⟨by assumption, by assumption, by assumption⟩ (by assumption)) | skip
  all_goals (first | omega | (rw [w2, q2]; exact rel_sum (rel_cen r.1 sd (by omega)).1 (-1)))
theorem st_part {S : Int} {M : Int} {sk : Int → Int} {sc : Int → Int} {mk : Int → Int} {ms : Int → Int} {mp : Int → Int} {r1 : Int} {f1 : Int → Int} {r2 : Int} {f2 : Int → Int} {r3 : Int} {f3 : Int → Int} {r4 : Int} {f4 : Int → Int} {g : Int → Int} {rb : Int} {rn : Int} {ru : Int} {rf : Int → Int} {ab : Int} {be : Int} {abR : Int} {beR : Int} {w : Int} {z : Int} {rb2 : Int} {rn2 : Int} {ru2 : Int} {zR : Int} {rf2R : Int → Int} (r : REL S M sk sc mk ms mp r1 f1 r2 f2 r3 f3 r4 f4 g) (hc : CR rb rn ru rf) (hf : FR ab be abR beR) (P7 : (w = 0 ∧ z = ab ∧ rb2 = rb ∧ rn2 = rn ∧ ru2 = ru) ∨ (w = 1 ∧ z = be ∧ rb2 = rb ∧ rn2 = rn ∧ ru2 = ru) ∨ (¬ (w = 0 ∨ w = 1) ∧ z = -2 ∧ rb2 = rb + 1 ∧ rn2 = rn ∧ ru2 = ru)) (P8 : (w = 0 ∧ zR = abR ∧ rf2R = rf) ∨ (w = 1 ∧ zR = beR ∧ rf2R = rf) ∨ (¬ (w = 0 ∨ w = 1) ∧ zR = -2 ∧ rf2R = rfZ rf 0)) : z = zR ∧ CR rb2 rn2 ru2 rf2R := by
  obtain ⟨e1, e0, eS, eS3, eM, eM8⟩ := r.1.1
  have hf1 := hf.1
  have hf2 := hf.2.1
  rcases P7 with ⟨w1, w2, w3, w4, w5⟩ | ⟨w1, w2, w3, w4, w5⟩ | ⟨w1, w2, w3, w4, w5⟩ <;> rcases P8 with ⟨q1, q2, q3⟩ | ⟨q1, q2, q3⟩ | ⟨q1, q2, q3⟩
  all_goals first | (exfalso; omega) | skip
  all_goals (refine ⟨?_, ?_⟩)
  all_goals first | (show CR _ _ _ _; first | exact CR_b hc ⟨by assumption, by assumption, by assumption⟩ (by assumption) | exact CR_k hc ⟨by assumption, by assumption, by assumption⟩ (by assumption) | exact CR_n hc ⟨by assumption, by assumption, by assumption⟩ (by assumption) | exact CR_f hc ⟨by assumption, by assumption, by assumption⟩ (by assumption)) | skip
  all_goals (first | omega)
theorem st_status {S : Int} {M : Int} {sk : Int → Int} {sc : Int → Int} {mk : Int → Int} {ms : Int → Int} {mp : Int → Int} {r1 : Int} {f1 : Int → Int} {r2 : Int} {f2 : Int → Int} {r3 : Int} {f3 : Int → Int} {r4 : Int} {f4 : Int → Int} {g : Int → Int} {rb : Int} {rn : Int} {ru : Int} {rf : Int → Int} {w : Int} {z : Int} {rb2 : Int} {rn2 : Int} {ru2 : Int} {zR : Int} {rf2R : Int → Int} (r : REL S M sk sc mk ms mp r1 f1 r2 f2 r3 f3 r4 f4 g) (hc : CR rb rn ru rf) (P7 : (w = 0 ∧ z = rb ∧ rb2 = rb ∧ rn2 = rn ∧ ru2 = ru) ∨ (w = 1 ∧ z = rn ∧ rb2 = rb ∧ rn2 = rn ∧ ru2 = ru) ∨ (w = 2 ∧ z = ru ∧ rb2 = rb ∧ rn2 = rn ∧ ru2 = ru) ∨ (¬ (0 ≤ w ∧ w ≤ 2) ∧ z = -1 ∧ rb2 = rb + 1 ∧ rn2 = rn ∧ ru2 = ru)) (P8 : ((0 ≤ w ∧ w ≤ 2) ∧ zR = rf w ∧ rf2R = rf) ∨ (¬ (0 ≤ w ∧ w ≤ 2) ∧ zR = -1 ∧ rf2R = rfZ rf 0)) : z = zR ∧ CR rb2 rn2 ru2 rf2R := by
  obtain ⟨e1, e0, eS, eS3, eM, eM8⟩ := r.1.1
  rcases P7 with ⟨w1, w2, w3, w4, w5⟩ | ⟨w1, w2, w3, w4, w5⟩ | ⟨w1, w2, w3, w4, w5⟩ | ⟨w1, w2, w3, w4, w5⟩ <;> rcases P8 with ⟨q1, q2, q3⟩ | ⟨q1, q2, q3⟩
  all_goals first | (exfalso; omega) | skip
  all_goals (refine ⟨?_, ?_⟩)
  all_goals first | (show CR _ _ _ _; first | exact CR_b hc ⟨by assumption, by assumption, by assumption⟩ (by assumption) | exact CR_k hc ⟨by assumption, by assumption, by assumption⟩ (by assumption) | exact CR_n hc ⟨by assumption, by assumption, by assumption⟩ (by assumption) | exact CR_f hc ⟨by assumption, by assumption, by assumption⟩ (by assumption)) | skip
  all_goals (first | omega | (rw [w2, q2, w1]; exact hc.1) | (rw [w2, q2, w1]; exact hc.2.1) | (rw [w2, q2, w1]; exact hc.2.2))
theorem st_count {S : Int} {M : Int} {sk : Int → Int} {sc : Int → Int} {mk : Int → Int} {ms : Int → Int} {mp : Int → Int} {r1 : Int} {f1 : Int → Int} {r2 : Int} {f2 : Int → Int} {r3 : Int} {f3 : Int → Int} {r4 : Int} {f4 : Int → Int} {g : Int → Int} {rb : Int} {rn : Int} {ru : Int} {rf : Int → Int} {ln : Int} {xb : Int → Int} {bl : Int} {yb : Int → Int} {w : Int} {z : Int} {rb2 : Int} {rn2 : Int} {ru2 : Int} {zR : Int} {rf2R : Int → Int} (r : REL S M sk sc mk ms mp r1 f1 r2 f2 r3 f3 r4 f4 g) (hc : CR rb rn ru rf) (hx : TX ln xb bl yb) (P7 : ((0 ≤ w ∧ w ≤ 9) ∧ z = ctI S M sc ms mp r1 r2 r3 r4 ln w ∧ rb2 = rb ∧ rn2 = rn ∧ ru2 = ru) ∨ (¬ (0 ≤ w ∧ w ≤ 9) ∧ z = -2 ∧ rb2 = rb + 1 ∧ rn2 = rn ∧ ru2 = ru)) (P8 : ((0 ≤ w ∧ w ≤ 9) ∧ zR = ctG g bl w ∧ rf2R = rf) ∨ (¬ (0 ≤ w ∧ w ≤ 9) ∧ zR = -2 ∧ rf2R = rfZ rf 0)) : z = zR ∧ CR rb2 rn2 ru2 rf2R := by
  obtain ⟨e1, e0, eS, eS3, eM, eM8⟩ := r.1.1
  rcases P7 with ⟨w1, w2, w3, w4, w5⟩ | ⟨w1, w2, w3, w4, w5⟩ <;> rcases P8 with ⟨q1, q2, q3⟩ | ⟨q1, q2, q3⟩
  all_goals first | (exfalso; omega) | skip
  all_goals (refine ⟨?_, ?_⟩)
  all_goals first | (show CR _ _ _ _; first | exact CR_b hc ⟨by assumption, by assumption, by assumption⟩ (by assumption) | exact CR_k hc ⟨by assumption, by assumption, by assumption⟩ (by assumption) | exact CR_n hc ⟨by assumption, by assumption, by assumption⟩ (by assumption) | exact CR_f hc ⟨by assumption, by assumption, by assumption⟩ (by assumption)) | skip
  all_goals (first | omega | (rw [w2, q2, hx.1]; exact ct_eq r ln (by omega)))
theorem st_digest {S : Int} {M : Int} {sk : Int → Int} {sc : Int → Int} {mk : Int → Int} {ms : Int → Int} {mp : Int → Int} {r1 : Int} {f1 : Int → Int} {r2 : Int} {f2 : Int → Int} {r3 : Int} {f3 : Int → Int} {r4 : Int} {f4 : Int → Int} {g : Int → Int} {ln : Int} {xb : Int → Int} {bl : Int} {yb : Int → Int} {ab : Int} {be : Int} {abR : Int} {beR : Int} {z : Int} {zR : Int} (r : REL S M sk sc mk ms mp r1 f1 r2 f2 r3 f3 r4 f4 g) (hx : TX ln xb bl yb) (hf : FR ab be abR beR) (P7 : z = (31 * (31 * hashZ f3 0 (hashZ f2 0 (hashZ f1 0 (hashM mk ms mp (hashS sk sc (hashZ (ctI S M sc ms mp r1 r2 r3 r4 ln) 0 1721 10) S) M) (4 * r1)) (4 * r2)) (4 * r3) + ab) + be)) (P8 : zR = digG g bl abR beR) : z = zR := by
  obtain ⟨e1, e0, eS, eS3, eM, eM8⟩ := r.1.1
  rw [P7, P8, hx.1, hf.1, hf.2.1]
  exact dig_eq r ln ab be
theorem st_image {S : Int} {M : Int} {sk : Int → Int} {sc : Int → Int} {mk : Int → Int} {ms : Int → Int} {mp : Int → Int} {r1 : Int} {f1 : Int → Int} {r2 : Int} {f2 : Int → Int} {r3 : Int} {f3 : Int → Int} {r4 : Int} {f4 : Int → Int} {g : Int → Int} {rb : Int} {rn : Int} {ru : Int} {rf : Int → Int} {kp : Int → Int} {ik : Int → Int} {kq : Int → Int} {SK : Int} {MK : Int} {skK : Int → Int} {scK : Int → Int} {mkK : Int → Int} {msK : Int → Int} {mpK : Int → Int} {r1K : Int} {f1K : Int → Int} {r2K : Int} {f2K : Int → Int} {r3K : Int} {f3K : Int → Int} {r4K : Int} {f4K : Int → Int} {SL : Int} {ML : Int} {skL : Int → Int} {scL : Int → Int} {mkL : Int → Int} {msL : Int → Int} {mpL : Int → Int} {r1L : Int} {f1L : Int → Int} {r2L : Int} {f2L : Int → Int} {r3L : Int} {f3L : Int → Int} {r4L : Int} {f4L : Int → Int} {i : Int} {z : Int} {kp2 : Int → Int} {rb2 : Int} {rn2 : Int} {ru2 : Int} {SK2 : Int} {MK2 : Int} {skK2 : Int → Int} {scK2 : Int → Int} {mkK2 : Int → Int} {msK2 : Int → Int} {mpK2 : Int → Int} {r1K2 : Int} {f1K2 : Int → Int} {r2K2 : Int} {f2K2 : Int → Int} {r3K2 : Int} {f3K2 : Int → Int} {r4K2 : Int} {f4K2 : Int → Int} {SL2 : Int} {ML2 : Int} {skL2 : Int → Int} {scL2 : Int → Int} {mkL2 : Int → Int} {msL2 : Int → Int} {mpL2 : Int → Int} {r1L2 : Int} {f1L2 : Int → Int} {r2L2 : Int} {f2L2 : Int → Int} {r3L2 : Int} {f3L2 : Int → Int} {r4L2 : Int} {f4L2 : Int → Int} {zR : Int} {kp2R : Int → Int} {ik2R : Int → Int} {rf2R : Int → Int} (r : REL S M sk sc mk ms mp r1 f1 r2 f2 r3 f3 r4 f4 g) (hc : CR rb rn ru rf) (hi : IMG kp ik kq SK MK skK scK mkK msK mpK r1K f1K r2K f2K r3K f3K r4K f4K SL ML skL scL mkL msL mpL r1L f1L r2L f2L r3L f3L r4L f4L) (P7 : (¬ (0 ≤ i ∧ i ≤ 1) ∧ z = -2 ∧ kp2 = kp ∧ rb2 = rb + 1 ∧ rn2 = rn ∧ ru2 = ru ∧ (SK2 = SK ∧ MK2 = MK ∧ skK2 = skK ∧ scK2 = scK ∧ mkK2 = mkK ∧ msK2 = msK ∧ mpK2 = mpK ∧ r1K2 = r1K ∧ f1K2 = f1K ∧ r2K2 = r2K ∧ f2K2 = f2K ∧ r3K2 = r3K ∧ f3K2 = f3K ∧ r4K2 = r4K ∧ f4K2 = f4K) ∧ (SL2 = SL ∧ ML2 = ML ∧ skL2 = skL ∧ scL2 = scL ∧ mkL2 = mkL ∧ msL2 = msL ∧ mpL2 = mpL ∧ r1L2 = r1L ∧ f1L2 = f1L ∧ r2L2 = r2L ∧ f2L2 = f2L ∧ r3L2 = r3L ∧ f3L2 = f3L ∧ r4L2 = r4L ∧ f4L2 = f4L)) ∨ (i = 0 ∧ z = 1 ∧ kp2 = zu kp 0 1 ∧ rb2 = rb ∧ rn2 = rn ∧ ru2 = ru ∧ cpI S M sk sc mk ms mp r1 f1 r2 f2 r3 f3 r4 f4 SK2 MK2 skK2 scK2 mkK2 msK2 mpK2 r1K2 f1K2 r2K2 f2K2 r3K2 f3K2 r4K2 f4K2 ∧ (SL2 = SL ∧ ML2 = ML ∧ skL2 = skL ∧ scL2 = scL ∧ mkL2 = mkL ∧ msL2 = msL ∧ mpL2 = mpL ∧ r1L2 = r1L ∧ f1L2 = f1L ∧ r2L2 = r2L ∧ f2L2 = f2L ∧ r3L2 = r3L ∧ f3L2 = f3L ∧ r4L2 = r4L ∧ f4L2 = f4L)) ∨ (i = 1 ∧ z = 1 ∧ kp2 = zu kp 1 1 ∧ rb2 = rb ∧ rn2 = rn ∧ ru2 = ru ∧ (SK2 = SK ∧ MK2 = MK ∧ skK2 = skK ∧ scK2 = scK ∧ mkK2 = mkK ∧ msK2 = msK ∧ mpK2 = mpK ∧ r1K2 = r1K ∧ f1K2 = f1K ∧ r2K2 = r2K ∧ f2K2 = f2K ∧ r3K2 = r3K ∧ f3K2 = f3K ∧ r4K2 = r4K ∧ f4K2 = f4K) ∧ cpI S M sk sc mk ms mp r1 f1 r2 f2 r3 f3 r4 f4 SL2 ML2 skL2 scL2 mkL2 msL2 mpL2 r1L2 f1L2 r2L2 f2L2 r3L2 f3L2 r4L2 f4L2)) (P8 : ((0 ≤ i ∧ i ≤ 1) ∧ zR = 1 ∧ kp2R = imG kq g i 192 ∧ ik2R = zu ik i 1 ∧ rf2R = rf) ∨ (¬ (0 ≤ i ∧ i ≤ 1) ∧ zR = -2 ∧ kp2R = kq ∧ ik2R = ik ∧ rf2R = rfZ rf 0)) : z = zR ∧ CR rb2 rn2 ru2 rf2R ∧ IMG kp2 ik2R kp2R SK2 MK2 skK2 scK2 mkK2 msK2 mpK2 r1K2 f1K2 r2K2 f2K2 r3K2 f3K2 r4K2 f4K2 SL2 ML2 skL2 scL2 mkL2 msL2 mpL2 r1L2 f1L2 r2L2 f2L2 r3L2 f3L2 r4L2 f4L2 := by
  obtain ⟨e1, e0, eS, eS3, eM, eM8⟩ := r.1.1
  rcases P7 with ⟨w1, w2, w3, w4, w5, w6, w7, w8⟩ | ⟨w1, w2, w3, w4, w5, w6, w7, w8⟩ | ⟨w1, w2, w3, w4, w5, w6, w7, w8⟩
  · rcases P8 with ⟨q1, q2, q3, q4, q5⟩ | ⟨q1, q2, q3, q4, q5⟩
    · exfalso; omega
    · refine ⟨by omega, CR_b hc ⟨by assumption, by assumption, by assumption⟩ (by assumption), ?_⟩
      obtain ⟨rfl, rfl, rfl, rfl, rfl, rfl, rfl, rfl, rfl, rfl, rfl, rfl, rfl, rfl, rfl⟩ := w7
      obtain ⟨rfl, rfl, rfl, rfl, rfl, rfl, rfl, rfl, rfl, rfl, rfl, rfl, rfl, rfl, rfl⟩ := w8
      rw [w3, q3, q4]
      exact hi
  · rcases P8 with ⟨q1, q2, q3, q4, q5⟩ | ⟨q1, q2, q3, q4, q5⟩
    · refine ⟨by omega, CR_k hc ⟨by assumption, by assumption, by assumption⟩ (by assumption), ?_⟩
      obtain ⟨rfl, rfl, rfl, rfl, rfl, rfl, rfl, rfl, rfl, rfl, rfl, rfl, rfl, rfl, rfl⟩ := w8
      subst w1
      rw [w3, q3, q4]
      exact IMG_0 hi (REL_cp w7 r) (REL_im kq (REL_cp w7 r) 0)
    · exfalso; clear w7 w8; omega
  · rcases P8 with ⟨q1, q2, q3, q4, q5⟩ | ⟨q1, q2, q3, q4, q5⟩
    · refine ⟨by omega, CR_k hc ⟨by assumption, by assumption, by assumption⟩ (by assumption), ?_⟩
      obtain ⟨rfl, rfl, rfl, rfl, rfl, rfl, rfl, rfl, rfl, rfl, rfl, rfl, rfl, rfl, rfl⟩ := w7
      subst w1
      rw [w3, q3, q4]
      exact IMG_1 hi (REL_cp w8 r) (REL_im kq (REL_cp w8 r) 1)
    · exfalso; clear w7 w8; omega
theorem st_from {S : Int} {M : Int} {sk : Int → Int} {sc : Int → Int} {mk : Int → Int} {ms : Int → Int} {mp : Int → Int} {r1 : Int} {f1 : Int → Int} {r2 : Int} {f2 : Int → Int} {r3 : Int} {f3 : Int → Int} {r4 : Int} {f4 : Int → Int} {g : Int → Int} {rb : Int} {rn : Int} {ru : Int} {rf : Int → Int} {kp : Int → Int} {ik : Int → Int} {kq : Int → Int} {SK : Int} {MK : Int} {skK : Int → Int} {scK : Int → Int} {mkK : Int → Int} {msK : Int → Int} {mpK : Int → Int} {r1K : Int} {f1K : Int → Int} {r2K : Int} {f2K : Int → Int} {r3K : Int} {f3K : Int → Int} {r4K : Int} {f4K : Int → Int} {SL : Int} {ML : Int} {skL : Int → Int} {scL : Int → Int} {mkL : Int → Int} {msL : Int → Int} {mpL : Int → Int} {r1L : Int} {f1L : Int → Int} {r2L : Int} {f2L : Int → Int} {r3L : Int} {f3L : Int → Int} {r4L : Int} {f4L : Int → Int} {i : Int} {z : Int} {rb2 : Int} {rn2 : Int} {ru2 : Int} {S2 : Int} {M2 : Int} {sk2 : Int → Int} {sc2 : Int → Int} {mk2 : Int → Int} {ms2 : Int → Int} {mp2 : Int → Int} {r12 : Int} {f12 : Int → Int} {r22 : Int} {f22 : Int → Int} {r32 : Int} {f32 : Int → Int} {r42 : Int} {f42 : Int → Int} {zR : Int} {g2R : Int → Int} {rf2R : Int → Int} (r : REL S M sk sc mk ms mp r1 f1 r2 f2 r3 f3 r4 f4 g) (hc : CR rb rn ru rf) (hi : IMG kp ik kq SK MK skK scK mkK msK mpK r1K f1K r2K f2K r3K f3K r4K f4K SL ML skL scL mkL msL mpL r1L f1L r2L f2L r3L f3L r4L f4L) (P7 : (¬ (0 ≤ i ∧ i ≤ 1) ∧ z = -2 ∧ rb2 = rb + 1 ∧ rn2 = rn ∧ ru2 = ru ∧ (S2 = S ∧ M2 = M ∧ sk2 = sk ∧ sc2 = sc ∧ mk2 = mk ∧ ms2 = ms ∧ mp2 = mp ∧ r12 = r1 ∧ f12 = f1 ∧ r22 = r2 ∧ f22 = f2 ∧ r32 = r3 ∧ f32 = f3 ∧ r42 = r4 ∧ f42 = f4)) ∨ ((0 ≤ i ∧ i ≤ 1) ∧ kp i = 0 ∧ z = -3 ∧ rb2 = rb ∧ rn2 = rn + 1 ∧ ru2 = ru ∧ (S2 = S ∧ M2 = M ∧ sk2 = sk ∧ sc2 = sc ∧ mk2 = mk ∧ ms2 = ms ∧ mp2 = mp ∧ r12 = r1 ∧ f12 = f1 ∧ r22 = r2 ∧ f22 = f2 ∧ r32 = r3 ∧ f32 = f3 ∧ r42 = r4 ∧ f42 = f4)) ∨ (i = 0 ∧ kp 0 = 1 ∧ z = 1 ∧ rb2 = rb ∧ rn2 = rn ∧ ru2 = ru ∧ cpI SK MK skK scK mkK msK mpK r1K f1K r2K f2K r3K f3K r4K f4K S2 M2 sk2 sc2 mk2 ms2 mp2 r12 f12 r22 f22 r32 f32 r42 f42) ∨ (i = 1 ∧ kp 1 = 1 ∧ z = 1 ∧ rb2 = rb ∧ rn2 = rn ∧ ru2 = ru ∧ cpI SL ML skL scL mkL msL mpL r1L f1L r2L f2L r3L f3L r4L f4L S2 M2 sk2 sc2 mk2 ms2 mp2 r12 f12 r22 f22 r32 f32 r42 f42)) (P8 : (¬ (0 ≤ i ∧ i ≤ 1) ∧ zR = -2 ∧ g2R = g ∧ rf2R = rfZ rf 0) ∨ ((0 ≤ i ∧ i ≤ 1) ∧ ik i = 0 ∧ zR = -3 ∧ g2R = g ∧ rf2R = rfZ rf 1) ∨ ((0 ≤ i ∧ i ≤ 1) ∧ ik i = 1 ∧ zR = 1 ∧ g2R = shZ kq (192 * i) ∧ rf2R = rf)) : z = zR ∧ CR rb2 rn2 ru2 rf2R ∧ REL S2 M2 sk2 sc2 mk2 ms2 mp2 r12 f12 r22 f22 r32 f32 r42 f42 g2R := by
  obtain ⟨e1, e0, eS, eS3, eM, eM8⟩ := r.1.1
  have i0 := hi.1
  have i1 := hi.2.1
  rcases P7 with ⟨w1, w2, w3, w4, w5, w6⟩ | ⟨w1, w2, w3, w4, w5, w6, w7⟩ | ⟨w1, w2, w3, w4, w5, w6, w7⟩ | ⟨w1, w2, w3, w4, w5, w6, w7⟩
  · rcases P8 with ⟨q1, q2, q3, q4⟩ | ⟨q1, q2, q3, q4, q5⟩ | ⟨q1, q2, q3, q4, q5⟩
    · refine ⟨by omega, CR_b hc ⟨by assumption, by assumption, by assumption⟩ (by assumption), ?_⟩
      obtain ⟨rfl, rfl, rfl, rfl, rfl, rfl, rfl, rfl, rfl, rfl, rfl, rfl, rfl, rfl, rfl⟩ := w6
      rw [q3]; exact r
    · exfalso; clear w6; omega
    · exfalso; clear w6; omega
  · have ie : ik i = kp i := by
      rcases (show i = 0 ∨ i = 1 by omega) with e | e <;> rw [e] <;> assumption
    rcases P8 with ⟨q1, q2, q3, q4⟩ | ⟨q1, q2, q3, q4, q5⟩ | ⟨q1, q2, q3, q4, q5⟩
    · exfalso; clear w7; omega
    · refine ⟨by omega, CR_n hc ⟨by assumption, by assumption, by assumption⟩ (by assumption), ?_⟩
      obtain ⟨rfl, rfl, rfl, rfl, rfl, rfl, rfl, rfl, rfl, rfl, rfl, rfl, rfl, rfl, rfl⟩ := w7
      rw [q4]; exact r
    · exfalso; clear w7; omega
  · subst w1
    rcases P8 with ⟨q1, q2, q3, q4⟩ | ⟨q1, q2, q3, q4, q5⟩ | ⟨q1, q2, q3, q4, q5⟩
    · exfalso; clear w7; omega
    · exfalso; clear w7; omega
    · refine ⟨by omega, CR_k hc ⟨by assumption, by assumption, by assumption⟩ (by assumption), ?_⟩
      rw [q4]
      exact REL_cp w7 (hi.2.2.1 w2)
  · subst w1
    rcases P8 with ⟨q1, q2, q3, q4⟩ | ⟨q1, q2, q3, q4, q5⟩ | ⟨q1, q2, q3, q4, q5⟩
    · exfalso; clear w7; omega
    · exfalso; clear w7; omega
    · refine ⟨by omega, CR_k hc ⟨by assumption, by assumption, by assumption⟩ (by assumption), ?_⟩
      rw [q4]
      exact REL_cp w7 (hi.2.2.2.1 w2)
