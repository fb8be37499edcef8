/-! the law's cases: what holds at a place of the law's body with i ints read -/
def LBI (S M : Int) (sk sc mk ms mp : Int → Int) : Prop := (0 ≤ S ∧ S ≤ 3) ∧ (0 ≤ M ∧ M ≤ 8) ∧ (∀ j : Int, 0 ≤ sk j ∧ sk j ≤ 5) ∧ (∀ j : Int, 0 ≤ sc j ∧ sc j ≤ 99) ∧ (∀ j : Int, 0 ≤ mk j ∧ mk j ≤ 5) ∧ (∀ j : Int, 0 ≤ ms j ∧ ms j ≤ 9) ∧ (∀ j : Int, -1 ≤ mp j ∧ mp j ≤ 2)
def LBF (f1 f2 f3 f4 : Int → Int) : Prop := (∀ j : Int, -1 ≤ f1 j ∧ f1 j ≤ 99) ∧ (∀ j : Int, -1 ≤ f2 j ∧ f2 j ≤ 99) ∧ (∀ j : Int, -1 ≤ f3 j ∧ f3 j ≤ 99) ∧ (∀ j : Int, -1 ≤ f4 j ∧ f4 j ≤ 99)
def sx (xs : Nat → Int32) (i : Int) : Int := (xs i.toNat).toInt
theorem sx_r {xs : Nat → Int32} {i v : Int} (h : v = sx xs i) : -2147483648 ≤ v ∧ v < 2147483648 := by
  rw [h]; exact zi_rng _

def LK (p_ : Program) (l_ : Launch) (e_ : Env) (s_ : State) (m_ : MethodId) (ar_ : Array Value) (be_ : List Frame) (me_ : Method) (c_ : Code) (Q_ : State → Prop) (A_ : Nat → Prop) (D : va_G) (cy : Nat → ClassId) (b : Nat → Nat) (q : Nat → Nat) (p : Nat → Nat) (x : Nat → Nat) (e : Nat → Nat) (cr : Nat → Nat) (t0 : Nat) (t1 : Nat) (i0 : Nat → Nat) (i1 : Nat → Nat) (o : Nat → Nat) (sb : Nat) (i : Int) (pc : Nat) : Prop := ∀ (ab : Int) (be : Int) (rb : Int) (rn : Int) (ru : Int) (kp : Int → Int) (S : Int) (M : Int) (sk : Int → Int) (sc : Int → Int) (mk : Int → Int) (ms : Int → Int) (mp : Int → Int) (r1 : Int) (f1 : Int → Int) (r2 : Int) (f2 : Int → Int) (r3 : Int) (f3 : Int → Int) (r4 : Int) (f4 : Int → Int) (SJ : Int) (MJ : Int) (skJ : Int → Int) (scJ : Int → Int) (mkJ : Int → Int) (msJ : Int → Int) (mpJ : Int → Int) (r1J : Int) (f1J : Int → Int) (r2J : Int) (f2J : Int → Int) (r3J : Int) (f3J : Int → Int) (r4J : Int) (f4J : Int → Int) (SK : Int) (MK : Int) (skK : Int → Int) (scK : Int → Int) (mkK : Int → Int) (msK : Int → Int) (mpK : Int → Int) (r1K : Int) (f1K : Int → Int) (r2K : Int) (f2K : Int → Int) (r3K : Int) (f3K : Int → Int) (r4K : Int) (f4K : Int → Int) (SL : Int) (ML : Int) (skL : Int → Int) (scL : Int → Int) (mkL : Int → Int) (msL : Int → Int) (mpL : Int → Int) (r1L : Int) (f1L : Int → Int) (r2L : Int) (f2L : Int → Int) (r3L : Int) (f3L : Int → Int) (r4L : Int) (f4L : Int → Int) (ln : Int) (tok : Int) (st : Int) (en : Int) (va : Int) (xb : Int → Int) (fk : Int → Int) (fm : Int → Int) (fo : Int) (wo : Int → Int) (cb : Int → Int) (te : Int → Int) (abR : Int) (beR : Int) (bl : Int) (ta : Int) (tl : Int) (tk : Int) (vl : Int) (g : Int → Int) (kq : Int → Int) (ik : Int → Int) (rf : Int → Int) (hd : Int → Int) (mkR : Int → Int) (bm : Int → Int) (gt : Int → Int) (ter : Int → Int) (yb : Int → Int) (an : Int → Int) (vr : Int → Int) (hBI : LBI S M sk sc mk ms mp) (hBF : LBF f1 f2 f3 f4) (hBIJ : LBI SJ MJ skJ scJ mkJ msJ mpJ) (hBFJ : LBF f1J f2J f3J f4J) (hBIK : LBI SK MK skK scK mkK msK mpK) (hBFK : LBF f1K f2K f3K f4K) (hBIL : LBI SL ML skL scL mkL msL mpL) (hBFL : LBF f1L f2L f3L f4L) (hRJ : RR r1J r2J r3J r4J) (bkp : ∀ j : Int, 0 ≤ kp j ∧ kp j ≤ 1) (bxb : ∀ j : Int, 0 ≤ xb j ∧ xb j ≤ 127) (bfk : ∀ j : Int, (-1) ≤ fk j ∧ fk j ≤ 99) (bfm : ∀ j : Int, 0 ≤ fm j ∧ fm j ≤ 8) (bwo : ∀ j : Int, (-70000) ≤ wo j ∧ wo j ≤ 70000) (bcb : ∀ j : Int, (-300000) ≤ cb j ∧ cb j ≤ 300000) (bte : ∀ j : Int, 0 ≤ te j ∧ te j ≤ 300) (bg : ∀ j : Int, 0 ≤ g j ∧ g j ≤ 99) (bkq : ∀ j : Int, 0 ≤ kq j ∧ kq j ≤ 99) (bik : ∀ j : Int, 0 ≤ ik j ∧ ik j ≤ 1) (bhd : ∀ j : Int, 0 ≤ hd j ∧ hd j ≤ 99) (bmkR : ∀ j : Int, 0 ≤ mkR j ∧ mkR j ≤ 99) (bbm : ∀ j : Int, 0 ≤ bm j ∧ bm j ≤ 99) (bgt : ∀ j : Int, 0 ≤ gt j ∧ gt j ≤ 99) (bter : ∀ j : Int, 0 ≤ ter j ∧ ter j ≤ 300) (byb : ∀ j : Int, 0 ≤ yb j ∧ yb j ≤ 127) (ban : ∀ j : Int, 0 ≤ an j ∧ an j ≤ 99) (bvr : ∀ j : Int, 0 ≤ vr j ∧ vr j ≤ 99) (hcr : CR rb rn ru rf) (hrel : REL S M sk sc mk ms mp r1 f1 r2 f2 r3 f3 r4 f4 g) (hfr : FR ab be abR beR) (htx : TX ln xb bl yb) (him : IMG kp ik kq SK MK skK scK mkK msK mpK r1K f1K r2K f2K r3K f3K r4K f4K SL ML skL scL mkL msL mpL r1L f1L r2L f2L r3L f3L r4L f4L) (ls_ : Array Slot) (H_ : Heap) (lo_ : List Loc), WD D A_ s_.heap ([wV cy b q p x e cr t0 ab be rb rn ru, wG cy b i0 i1, wZ cy (b 2) 2 kp, wI cy q S M sk sc mk ms mp, wF cy (q 6) (q 7) 20 5 r1 f1, wF cy (q 8) (q 9) 24 6 r2 f2, wF cy (q 10) (q 11) 24 6 r3 f3, wF cy (q 12) (q 13) 32 8 r4 f4, wI cy p SJ MJ skJ scJ mkJ msJ mpJ, wF cy (p 6) (p 7) 20 5 r1J f1J, wF cy (p 8) (p 9) 24 6 r2J f2J, wF cy (p 10) (p 11) 24 6 r3J f3J, wF cy (p 12) (p 13) 32 8 r4J f4J, wI cy i0 SK MK skK scK mkK msK mpK, wF cy (i0 6) (i0 7) 20 5 r1K f1K, wF cy (i0 8) (i0 9) 24 6 r2K f2K, wF cy (i0 10) (i0 11) 24 6 r3K f3K, wF cy (i0 12) (i0 13) 32 8 r4K f4K, wI cy i1 SL ML skL scL mkL msL mpL, wF cy (i1 6) (i1 7) 20 5 r1L f1L, wF cy (i1 8) (i1 9) 24 6 r2L f2L, wF cy (i1 10) (i1 11) 24 6 r3L f3L, wF cy (i1 12) (i1 13) 32 8 r4L f4L, wX cy x ln tok st en va xb, wE cy e fk fm, wC cy cr fo wo cb, wQ cy t0 t1 te, wO cy o abR beR bl ta tl tk vl, wA cy (o 1) 192 g, wA cy (o 2) 384 kq, wZ cy (o 3) 2 ik, wR cy (o 4) 3 rf, wA cy (o 5) 36 hd, wA cy (o 6) 3 mkR, wA cy (o 7) 3 bm, wA cy (o 8) 8 gt, wT cy (o 9) 6 ter, wB cy (o 10) yb, wA cy (o 11) 104 an, wA cy (o 12) 3 vr]) H_ lo_ → lv_has ls_ 4 [(3, .int (zi i)), (2, .ref (o 0)), (1, .ref (b 0)), (0, .ref sb)] → W p_ l_ e_ room_1 s_ m_ ar_ be_ me_ c_ H_ lo_ 600000 7302250 Q_ (F0 m_ pc ls_ [])
theorem z_sld {p : Program} {l : Launch} {e : Env} {R : Room} {s : State} {m : MethodId} {args : Array Value} {below : List Frame} {meth : Method} {c : Code} {H : Heap} {locs : List Loc} {cells slots : Nat} {Q : State → Prop} {cc : ByteArray} {pc : Nat} {ls : Array Slot} {rest : List Value} {nL : Nat} {Ts : List Cond} {own : String} {D : va_G} {A : Nat → Prop} {sg : List va_W} {sb L : Nat} {xs : Nat → Int32} (F : CallFix p m c cc nL s args Ts own) (hX : va_X sb L xs s s.heap) (hbl : sb < s.heap.size) (hbA : ¬ A sb) (Wd : WD D A s.heap sg H locs) {i v : Int} (hv : v = sx xs i) (hi : 0 ≤ i ∧ i < (L : Int)) (hL : L ≤ 2560) (hdg : decode cc pc = .ok (.iaload, 1)) (k : W p l e R s m args below meth c H locs cells slots Q (F0 m (pc + 1) ls (.int (zi v) :: rest))) : W p l e R s m args below meth c H locs cells slots Q (F0 m pc ls (.int (zi i) :: .ref sb :: rest)) := by
  refine va_sld F.1 F.2.1 hX hbl hbA Wd.2.1 (zi_in hi (by omega)) hdg ?_
  have e : xs (zi i).toNatClampNeg = zi v := by rw [hv, zi_clamp (by omega)]; exact (zi_of _).symm
  rw [e]
  exact k
theorem z_same {p : Program} {l : Launch} {e : Env} {R : Room} {s : State} {m : MethodId} {args : Array Value} {below : List Frame} {meth : Method} {c : Code} {H : Heap} {locs : List Loc} {cells slots : Nat} {Q : State → Prop} {cc : ByteArray} {pc : Nat} {ls : Array Slot} {rest : List Value} {nL : Nat} {Ts : List Cond} {own : String} (F : CallFix p m c cc nL s args Ts own) {x y off : Int} {tgt : Nat} (h : x = y) (hdg : decode cc pc = .ok (.if_icmp .eq off, 3)) (ht : (pc : Int) + off = (tgt : Int)) (k : W p l e R s m args below meth c H locs cells slots Q (F0 m tgt ls rest)) : W p l e R s m args below meth c H locs cells slots Q (F0 m pc ls (.int (zi y) :: .int (zi x) :: rest)) := by
  subst h
  exact lv_icmp_eq F.1 F.2.1 hdg ht (fun _ => k) (fun q => absurd rfl q)
theorem cmp_same (v : Int64) : lg_cmp v v = zi 0 := by
  unfold lg_cmp
  rw [if_neg (by rw [gt_iff_lt, Int64.lt_iff_toInt_lt]; omega), if_pos rfl]
  rfl
theorem z_samel {p : Program} {l : Launch} {e : Env} {R : Room} {s : State} {m : MethodId} {args : Array Value} {below : List Frame} {meth : Method} {c : Code} {H : Heap} {locs : List Loc} {cells slots : Nat} {Q : State → Prop} {cc : ByteArray} {pc : Nat} {ls : Array Slot} {rest : List Value} {nL : Nat} {Ts : List Cond} {own : String} (F : CallFix p m c cc nL s args Ts own) {x y off : Int} {tgt : Nat} (h : x = y) (hdg : decode cc pc = .ok (.lcmp, 1)) (hdg2 : decode cc (pc + 1) = .ok (.ifCond .eq off, 3)) (ht : ((pc + 1 : Nat) : Int) + off = (tgt : Int)) (k : W p l e R s m args below meth c H locs cells slots Q (F0 m tgt ls rest)) : W p l e R s m args below meth c H locs cells slots Q (F0 m pc ls (.long (zl y) :: .long (zl x) :: rest)) := by
  subst h
  refine W.lcmp F.1 F.2.1 hdg ?_
  rw [cmp_same]
  exact z_if_eq F (by omega) hdg2 ht (fun _ => k) (fun q => absurd rfl q)
theorem REL_gs {S : Int} {M : Int} {sk : Int → Int} {sc : Int → Int} {mk : Int → Int} {ms : Int → Int} {mp : Int → Int} {r1 : Int} {f1 : Int → Int} {r2 : Int} {f2 : Int → Int} {r3 : Int} {f3 : Int → Int} {r4 : Int} {f4 : Int → Int} {g : Int → Int} (r : REL S M sk sc mk ms mp r1 f1 r2 f2 r3 f3 r4 f4 g) : (0 ≤ g 0 ∧ g 0 ≤ 8) ∧ (0 ≤ g 1 ∧ g 1 ≤ 3) ∧ (0 ≤ g 2 ∧ g 2 ≤ 5) ∧ (0 ≤ g 3 ∧ g 3 ≤ 6) ∧ (0 ≤ g 4 ∧ g 4 ≤ 6) ∧ (0 ≤ g 5 ∧ g 5 ≤ 8) := by
  have a := r.1.1
  have b := r.2.1
  have c := r.2.2.1
  have d := r.2.2.2.1
  have u := r.2.2.2.2.2
  have b1 := b.1
  have b2 := b.2.1
  have c1 := c.1
  have c2 := c.2.1
  have d1 := d.1
  have d2 := d.2.1
  have u1 := u.1
  have u2 := u.2.1
  clear b c d u r
  omega
theorem und_hu {S : Int} {M : Int} {sk : Int → Int} {sc : Int → Int} {mk : Int → Int} {ms : Int → Int} {mp : Int → Int} {r1 : Int} {f1 : Int → Int} {r2 : Int} {f2 : Int → Int} {r3 : Int} {f3 : Int → Int} {r4 : Int} {f4 : Int → Int} {g : Int → Int} (r : REL S M sk sc mk ms mp r1 f1 r2 f2 r3 f3 r4 f4 g) (h : 0 < r4) : (0 ≤ f4 (4 * (r4 - 1) + 0) ∧ f4 (4 * (r4 - 1) + 0) < S) ∧ (0 ≤ f4 (4 * (r4 - 1) + 2) ∧ f4 (4 * (r4 - 1) + 2) < M) ∧ 0 ≤ f4 (4 * (r4 - 1) + 1) ∧ f4 (4 * (r4 - 1) + 3) ≤ 2 := by
  have a := r.1.1
  have w := (r.2.2.2.2.2.2.2 (r4 - 1) (by omega) (by omega)).1
  exact ⟨w.1, w.2.2.1, w.2.1.1, by omega⟩
theorem TX_0 {ln bl : Int} {xb yb : Int → Int} (h : TX ln xb bl yb) : TX 0 xb 0 yb := ⟨rfl, h.2.1, by omega, by omega⟩
theorem rel_p {S M : Int} {sk sc mk ms mp g : Int → Int} (r : relI S M sk sc mk ms mp g) : ∀ k, 0 ≤ k → k < g 0 → g (6 + k) ≤ 3 := fun k q1 q2 => by
  have a := r.1
  have w := (r.2.2.1 k q1 (by omega)).2.2.2
  omega
