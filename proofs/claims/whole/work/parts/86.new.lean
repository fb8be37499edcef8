/-! objects and arrays that are made; contracts of constructors -/
theorem fl_push (sg : List va_W) (w : va_W) : (sg ++ [w]).flatten = sg.flatten ++ w := by simp
/-- a contract of a constructor: it makes mc cells of ms slots -/
def CTn (l : Launch) (D : va_G) (cy : Nat → ClassId) (E : State → Prop) (y : MethodName) (wy : List Cond) (rm : Room) (av : List Value) (wc : List va_W) {S : Type} (w1 : S → List va_W) (mc ms : Nat) : Prop :=
  ∀ sz : Nat, Met l y wy rm (va_Pc av (fun U => U.heap.size = sz ∧ va_P D vwCl wc.flatten U.heap ∧ va_K D vwCl (tyL cy) U ∧ va_D (fun _ => True) wc.flatten ∧ E U)) (va_Qv (fun (_ : S) => True) (fun u t => va_P D vwCl (w1 u).flatten t.heap ∧ va_K D vwCl (tyL cy) t ∧ va_D (va_A wc.flatten sz) (w1 u).flatten) (va_A wc.flatten sz)) mc ms (va_A wc.flatten sz)
theorem CTn.of {l : Launch} {D : va_G} {cy : Nat → ClassId} {y : MethodName} {wy ws0 : List Cond} {rm : Room} {av : List Value} {wc : List va_W} {S : Type} {w1 : S → List va_W} {mc ms : Nat} {E : State → Prop} (own : String) (cc : ByteArray) (maxL : Nat) (hown : y.cls = own) (hin : y.name = "<init>") (hy : plainName y.cls = true) (hw : wy = Cond.code y cc maxL none :: ws0) (hargs : (lg_sl av).length ≤ maxL)
    (body : ∀ (p : Program) (e : Env) (s : State) (m : MethodId) (args : Array Value) (below : List Frame) (meth : Method) (c : Code) (Q : State → Prop) (A : Nat → Prop) (ls : Array Slot), CallFix p m c cc maxL s args wy own → meth.name = "<init>" → va_K D vwCl (tyL cy) s → E s → WD D A s.heap wc s.heap [] → lv_has ls maxL (lv_args 0 av) → (∀ (pc : Nat) (ls : Array Slot) (H : Heap) (locs : List Loc) (u : S), decode cc pc = .ok (.return_, 1) → WD D A s.heap (w1 u) H locs → W p l e rm s m args below meth c H locs mc ms Q (F0 m pc ls [])) → W p l e rm s m args below meth c s.heap [] 0 0 Q (F0 m 0 ls [])) : CTn l D cy E y wy rm av wc w1 mc ms := by
  intro sz
  refine Met.ofW (cc := cc) (maxL := maxL) (ret := none) hy hw ?_
  intro p e s m args below meth c s₁ B hml hv
  obtain ⟨rfl, hsz, hP, hK, hD0, hE0⟩ := hv
  have hts := atoms_spec (ws := wy) B.pre
  have hfc : s.vm.findClass own = some m.cls := hown ▸ findClass_of_methodNamed B.named
  have hnm : meth.name = "<init>" := (name_of_methodNamed B.named B.method).1.trans hin
  have hlocks := B.notSynchronized
  subst hsz
  rw [lg_entry_eq]
  refine body p e s m av.toArray below meth c _ (va_A wc.flatten s.heap.size) _ ⟨B.exec, B.bytes, hml, hfc, hts⟩ hnm hK hE0 ⟨⟨hP, hD0.self⟩, va_S.rf, fun q h => Or.inr h⟩ (lv_entry av hargs) ?_
  intro pc ls H locs u hdg Wd
  exact W.vret B.exec B.bytes B.returns (fun t ht hW => ⟨⟨u, rfl, trivial, by rw [ht]; exact Wd.1.1, va_K.moved hW.alike hK, Wd.1.2⟩, Wd.2.1.F ht⟩) Wd.2.1.2.2 hdg
section ZN
variable {p : Program} {l : Launch} {e : Env} {R : Room} {s : State} {m : MethodId} {args : Array Value} {below : List Frame} {meth : Method} {c : Code} {H : Heap} {locs : List Loc} {cells slots : Nat} {Q : State → Prop} {cc : ByteArray} {pc : Nat} {ls : Array Slot} {rest : List Value} {nL : Nat} {Ts : List Cond} {own : String} {D : va_G} {A : Nat → Prop} {H0 : Heap} {sg : List va_W} {cy : Nat → ClassId}
theorem z_new (F : CallFix p m c cc nL s args Ts own) (K : va_K D vwCl (tyL cy) s) (Wd : WD D A H0 sg H locs) {C : String} {T : u_T} {N ci index : Nat} (ty : Nat → FieldType) (hty : ∀ k, k < N → parseFieldDescriptor (T k).2.2.1 = some (ty k)) (hin : ∀ w ∈ u_ws C T N, w ∈ Ts) (hcl : Cond.classLink own index C ∈ Ts) (hinst : Cond.instantiable C N ∈ Ts) (hini : Cond.initialized C ∈ Ts) (hc : vwCl[ci]? = some (C, T, N)) {fs : List Value} (hfs : ∀ j, j < N → defaultValue (ty j) = vp_V fs j) (hr : cells + 1 ≤ R.cells ∧ slots + N ≤ R.slots) (hdg : decode cc pc = .ok (.new index, 3)) (kk : ∀ (q : Nat) (H1 : Heap), WD D A H0 (sg ++ [[(q, .inr (ci, fs))]]) H1 locs → W p l e R s m args below meth c H1 locs (cells + 1) (slots + N) Q (F0 m (pc + 3) ls (.ref q :: rest))) : W p l e R s m args below meth c H locs cells slots Q (F0 m pc ls rest) :=
  va_new F.1 F.2.1 F.2.2.2.2 hin ty hty F.2.2.2.1 (F.2.2.2.2 _ hcl) (F.2.2.2.2 _ hinst) (F.2.2.2.2 _ hini) K Wd.1.1 Wd.1.2 Wd.2.1 Wd.2.2 hc hfs hr.1 hr.2 hdg (fun q H1 hP hD hS => kk q H1 ⟨⟨by rw [fl_push]; exact hP, by rw [fl_push]; exact hD⟩, hS, Wd.2.2⟩)
theorem z_newg (F : CallFix p m c cc nL s args Ts own) (K : va_K D vwCl (tyL cy) s) (Wd : WD D A H0 sg H locs) (atype : ArrayType) {ty : FieldType} (hty : newarray.typeOf atype = ty) (harr : Cond.arrayClass ty ∈ Ts) (k : Nat) (hk : (tyL cy)[k]? = some (cy k, ty)) (hRA : ∀ cA, va_RA s cA ty → s.vm.findClass ("[" ++ ty.toString) = some cA) (hdef : defaultValue ty = .int 0) (hcb : componentBytes ty ≤ 8) {n : Int} {N : Nat} (hn : 0 ≤ n ∧ n ≤ 1000) (hN : n.toNat = N) (hr : cells + 1 ≤ R.cells ∧ slots + N ≤ R.slots) (hdg : decode cc pc = .ok (.newarray atype, 2)) (kk : ∀ (q : Nat) (H1 : Heap), WD D A H0 (sg ++ [[(q, .inl (cy k, N, .inl (zA (fun _ => 0))))]]) H1 locs → W p l e R s m args below meth c H1 locs (cells + 1) (slots + N) Q (F0 m (pc + 2) ls (.ref q :: rest))) : W p l e R s m args below meth c H locs cells slots Q (F0 m pc ls (.int (zi n) :: rest)) := by
  have hNb : N ≤ 1000 := by omega
  refine va_newa (a0 := (N, .inl (zA (fun _ => 0)))) F.1 F.2.1 (by rw [hty]; exact F.2.2.2.2 _ harr) hty K Wd.1.1 Wd.1.2 Wd.2.1 Wd.2.2 (fun cA => ?_) ?_ ?_ ?_ hr.1 hr.2 hdg (fun q cA H1 hK1 hP hD hS => ?_)
  · rw [vp_cell_i, hdef]
    rfl
  · rw [show (0 : Int32) = zi 0 from rfl, zi_lt ⟨by omega, by omega⟩]
    omega
  · rw [zi_clamp (by omega)]
    exact hN
  · have := Nat.mul_le_mul hNb hcb
    omega
  · have e1 := hRA cA (hK1.2 4 (cA, ty) rfl).2
    have e2 := hRA _ (K.2 k _ hk).2
    have e3 : cA = cy k := Option.some.inj (e1.symm.trans e2)
    subst e3
    exact kk q H1 ⟨⟨by rw [fl_push]; exact hP, by rw [fl_push]; exact hD⟩, hS, Wd.2.2⟩
theorem z_newq (F : CallFix p m c cc nL s args Ts own) (K : va_K D vwCl (tyL cy) s) (Wd : WD D A H0 sg H locs) {C : String} {index : Nat} (hcl : Cond.classLink own index C ∈ Ts) (hover : va_AO C s) (k : Nat) (hk : (tyL cy)[k]? = some (cy k, .object C)) {n : Int} {N : Nat} (hn : 0 ≤ n ∧ n ≤ 1000) (hN : n.toNat = N) (hr : cells + 1 ≤ R.cells ∧ slots + N ≤ R.slots) (hdg : decode cc pc = .ok (.anewarray index, 3)) (kk : ∀ (q : Nat) (H1 : Heap), WD D A H0 (sg ++ [[(q, .inl (cy k, N, .inr (.inr (.inr (.inr (fun _ => none))))))]]) H1 locs → W p l e R s m args below meth c H1 locs (cells + 1) (slots + N) Q (F0 m (pc + 3) ls (.ref q :: rest))) : W p l e R s m args below meth c H locs cells slots Q (F0 m pc ls (.int (zi n) :: rest)) := by
  refine va_newq F.1 F.2.1 F.2.2.2.1 (F.2.2.2.2 _ hcl) hover K Wd.1.1 Wd.1.2 Wd.2.1 Wd.2.2 ?_ ?_ ?_ hr.1 hr.2 hdg (fun q cA H1 hK1 hP hD hS => ?_)
  · rw [show (0 : Int32) = zi 0 from rfl, zi_lt ⟨by omega, by omega⟩]
    omega
  · rw [zi_clamp (by omega)]
    exact hN
  · omega
  · obtain ⟨k1, c1, -, -, -, e1⟩ := (hK1.2 4 (cA, .object C) rfl).2
    obtain ⟨k2, c2, -, -, -, e2⟩ := (K.2 k _ hk).2
    have e3 : cA = cy k := Option.some.inj (e1.symm.trans e2)
    subst e3
    exact kk q H1 ⟨⟨by rw [fl_push]; exact hP, by rw [fl_push]; exact hD⟩, hS, Wd.2.2⟩
theorem z_putF (F : CallFix p m c cc nL s args Ts own) (K : va_K D vwCl (tyL cy) s) (Wd : WD D A H0 sg H locs) {C : String} {T : u_T} {N ci index : Nat} {a : Nat} (i0 j0 k : Nat) {w : va_W} {fs : List Value} {v : Value} {sg' : List va_W} (hi : ix sg i0 = some w) (he : ix w j0 = some (a, .inr (ci, fs))) (hw : sg.set i0 (w.set j0 (a, .inr (ci, fs.set k v))) = sg') (hc : vwCl[ci]? = some (C, T, N)) (hk : k < N ∧ k < fs.length) (ty0 : Nat → FieldType) (hty : ∀ k, k < N → parseFieldDescriptor (T k).2.2.1 = some (ty0 k)) (hnm : ∀ a, a < N → ∀ b, b < N → a ≠ b → (T a).2.1 ≠ (T b).2.1) (hfin : (T k).2.2.2 = true) (hin2 : meth.name = "<init>") (hdecl : (T k).1 = own) (hn : narrow (ty0 k) v = v) (hfit : fits (ty0 k) v = true) (hin : ∀ w ∈ u_ws C T N, w ∈ Ts) (hlink : Cond.fieldLink own index (T k).1 (T k).2.1 (T k).2.2.1 ∈ Ts) (hdg : decode cc pc = .ok (.putfield index, 3)) (kk : ∀ (H1 : Heap) (locs1 : List Loc), WD D A H0 sg' H1 locs1 → W p l e R s m args below meth c H1 locs1 cells slots Q (F0 m (pc + 3) ls rest)) : W p l e R s m args below meth c H locs cells slots Q (F0 m pc ls (v :: .ref a :: rest)) := by
  obtain ⟨k0, h1, h2⟩ := flat_at sg i0 j0 w _ hi he
  refine va_putF F.1 F.2.1 F.2.2.2.2 hin ty0 hty hnm F.2.2.2.1 K Wd.1.1 Wd.1.2 Wd.2.1 k0 h1 hc k hk.1 (F.2.2.2.2 _ hlink) (fun _ h => h) hfin hin2 hdecl (hty k hk.1) hn hfit hk.2 hdg (fun H1 locs1 hP hD hS => ?_)
  rw [h2, hw] at hP hD
  exact kk H1 locs1 ⟨⟨hP, hD⟩, hS, Wd.2.2⟩
theorem z_astq (F : CallFix p m c cc nL s args Ts own) (K : va_K D vwCl (tyL cy) s) (Wd : WD D A H0 sg H locs) {a v n : Nat} (i0 j0 i1 j1 ci k : Nat) {w w2 : va_W} {f : Nat → Option Nat} {vs : List Value} {r : vw_C} {sg' : List va_W} (hi : ix sg i0 = some w) (he : ix w j0 = some (a, .inl (cy k, n, .inr (.inr (.inr (.inr f)))))) (hi1 : ix sg i1 = some w2) (he1 : ix w2 j1 = some (v, .inr (ci, vs))) (hk : (tyL cy)[k]? = some (cy k, .object r.1)) (hc : vwCl[ci]? = some r) {i : Int} (hin : 0 ≤ i ∧ i < (n : Int)) (hn : n < 2147483648) (hw : sg.set i0 (w.set j0 (a, .inl (cy k, n, .inr (.inr (.inr (.inr (va_up f i.toNat (some v)))))))) = sg') (hdg : decode cc pc = .ok (.aastore, 1)) (kk : ∀ (H1 : Heap) (locs1 : List Loc), WD D A H0 sg' H1 locs1 → W p l e R s m args below meth c H1 locs1 cells slots Q (F0 m (pc + 1) ls rest)) : W p l e R s m args below meth c H locs cells slots Q (F0 m pc ls (.ref v :: .int (zi i) :: .ref a :: rest)) := by
  obtain ⟨k0, h1, h2⟩ := flat_at sg i0 j0 w _ hi he
  obtain ⟨k1, h3, -⟩ := flat_at sg i1 j1 w2 _ hi1 he1
  refine va_astq F.1 F.2.1 K Wd.1.1 Wd.1.2 Wd.2.1 k0 k k1 ci h1 hk h3 hc (zi_in hin hn) hdg (fun H1 locs1 hP hD hS => ?_)
  rw [zi_clamp ⟨hin.1, by omega⟩, h2, hw] at hP hD
  exact kk H1 locs1 ⟨⟨hP, hD⟩, hS, Wd.2.2⟩
theorem z_obj (F : CallFix p m c cc nL s args Ts own) {index a : Nat} (hl1 : Cond.methodLink own index objectInit ∈ Ts) (hl2 : Cond.instanceMethod objectInit ∈ Ts) (hl3 : Cond.code objectInit ⟨#[0xb1]⟩ 1 none ∈ Ts) (hls : ls.size = nL) (hf : 1 ≤ R.frames) (hlo : 12 ≤ R.locals) (hdg : decode cc pc = .ok (.invokespecial index, 3)) (kk : W p l e R s m args below meth c H locs cells slots Q (F0 m (pc + 3) ls [])) : W p l e R s m args below meth c H locs cells slots Q (F0 m pc ls [.ref a]) := by
  refine W.objInit F.1 F.2.1 F.2.2.2.1 (F.2.2.2.2 _ hl1) (F.2.2.2.2 _ hl2) (F.2.2.2.2 _ hl3) rfl (by rw [F.2.2.1]; exact hls) rfl hdg hf hlo ?_
  refine W.eq (g2 := F0 m (pc + 3) ls []) rfl ?_
  exact kk
theorem z_callIn (F : CallFix p m c cc nL s args Ts own) (K : va_K D vwCl (tyL cy) s) (Wd : WD D A H0 sg H locs) {C : String} {y : MethodName} {wy ws0 : List Cond} {rmc : Room} {wc : List va_W} {S : Type} {w1 : S → List va_W} {mc ms : Nat} {b : Nat} (As : List Value) {E : State → Prop} (hE : ∀ u U : State, u.vm = U.vm → E u → E U) (hE2 : ∀ U : State, s.WarmedH U.vm → E s → E U) (hE0 : E s) (hM : CTn l D cy E y wy rmc (.ref b :: As) wc w1 mc ms) {bytes : ByteArray} {maxL index : Nat} (nA : Nat) (hnA : As.length = nA) (hG : GoodIn Ts wy) (hw : wy = Cond.code y bytes maxL none :: ws0) (hini : Cond.initialized C ∈ Ts) (hC : y.cls = C) (hlink : Cond.methodLink own index y ∈ Ts) (hinst : Cond.instanceMethod y ∈ Ts) (hnm : y.name = "<init>") (hd : y.cls ≠ "java/lang/invoke/MethodHandle" ∧ y.cls ≠ "java/lang/invoke/VarHandle" ∧ (parseMethodDescriptor y.desc).map (fun d => d.parameters.length) = some nA) (hR : (rmc.frames + 1 ≤ R.frames ∧ 8 + (maxL + 11) + rmc.locals ≤ R.locals) ∧ rmc.cells = mc ∧ rmc.slots = ms ∧ cells + mc ≤ R.cells ∧ slots + ms ≤ R.slots) (hl : ls.size = nL) {st : List Value} (hst : st = As.reverse ++ .ref b :: rest) (hrest : (rest.map fun v => v.category).sum ≤ 8) (isC isR : List Nat) (wr : List va_W) (sg1 : S → List va_W) (nW : S → Nat) (isC1 isR1 : S → List Nat) (n0 : Nat) (hp : (isC ++ isR).Perm (List.range n0)) (hn0 : sg.length = n0) (hC0 : pk sg isC = wc) (hRr : pk sg isR = wr) (hp1 : ∀ u, (isC1 u ++ isR1 u).Perm (List.range (nW u))) (hn1 : ∀ u, (sg1 u).length = nW u) (hC1 : ∀ u, pk (sg1 u) (isC1 u) = w1 u) (hR1 : ∀ u, pk (sg1 u) (isR1 u) = wr) (hdg : decode cc pc = .ok (.invokespecial index, 3)) (kk : ∀ (u : S) (H1 : Heap) (locs1 : List Loc), WD D A H0 (sg1 u) H1 locs1 → W p l e R s m args below meth c H1 locs1 (cells + mc) (slots + ms) Q (F0 m (pc + 3) ls rest)) : W p l e R s m args below meth c H locs cells slots Q (F0 m pc ls st) := by
  subst hst
  have hWP := wd_front Wd hn0 hp hC0 hRr
  have hPc : va_P D vwCl wc.flatten H := (WP_left hWP).1
  have hDc : va_D (fun _ => True) wc.flatten := (WP_left hWP).2.weaken (fun _ _ _ _ => trivial)
  have hFc : ∀ q, va_A wc.flatten H.size q → A q := WP_free hWP Wd.2.1 Wd.2.2
  have fb : FrameBlind (va_Pc (.ref b :: As) (fun U => U.heap.size = H.size ∧ va_P D vwCl wc.flatten U.heap ∧ va_K D vwCl (tyL cy) U ∧ va_D (fun _ => True) wc.flatten ∧ E U)) := fun a U g mk q => by
    obtain ⟨q0, q1, qP, qK, qD, qE⟩ := q
    exact ⟨q0, q1, qP, va_K.moved (u := U) (U := U.calling g mk a) (Vm.Alike.refl U.vm) qK, qD, hE U (U.calling g mk a) rfl qE⟩
  refine va_callv (va_runI (As := As) (rest := rest) F (hM H.size) (cwI nA F.2.2.2.2 hG hw hR.2.1 hR.2.2.1 (F.2.2.2.2 _ (hC ▸ hini)) (F.2.2.2.2 _ hlink) (F.2.2.2.2 _ hinst) hnm hd hR.1) ⟨fb, fun U hU hW => ⟨rfl, by rw [hU], by rw [hU]; exact hPc, va_K.moved hW.alike K, hDc, hE2 _ hW hE0⟩⟩ rfl hnA hl rfl (lv_room hrest) hdg ⟨hR.2.2.2.1, hR.2.2.2.2⟩) Wd.2.1 (fun q _ h => hFc q h) hFc (fun u t H1 locs1 ht hvm hw hB hz1 hk1 hS => ?_)
  obtain ⟨hP1, hK1, hD1⟩ := hB
  rw [ht] at hP1
  exact kk u H1 locs1 (wd_back (hn1 u) (hp1 u) (hC1 u) (hR1 u) (WP_call hWP hFc hP1 hD1 hk1) hS Wd.2.2)
theorem z_callInN (F : CallFix p m c cc nL s args Ts own) (K : va_K D vwCl (tyL cy) s) (Wd : WD D A H0 sg H locs) {C : String} {y : MethodName} {wy ws0 : List Cond} {rmc : Room} {wc : List va_W} {S : Type} {w1 : S → List va_W} {mc ms : Nat} {b : Nat} (As : List Value) {E : State → Prop} (hE : ∀ u U : State, u.vm = U.vm → E u → E U) (hE2 : ∀ U : State, s.WarmedH U.vm → E s → E U) (hE0 : E s) (hM : CTn l D cy E y wy rmc (.ref b :: As) wc w1 mc ms) {bytes : ByteArray} {maxL index : Nat} (nA : Nat) (hnA : As.length = nA) (hG : GoodIn Ts wy) (hw : wy = Cond.code y bytes maxL none :: ws0) (hini : Cond.initialized C ∈ Ts) (hC : y.cls = C) {host : String} (hlink : va_Nw (.methodLinkNest own index y host) s) (hinst : Cond.instanceMethod y ∈ Ts) (hnm : y.name = "<init>") (hd : y.cls ≠ "java/lang/invoke/MethodHandle" ∧ y.cls ≠ "java/lang/invoke/VarHandle" ∧ (parseMethodDescriptor y.desc).map (fun d => d.parameters.length) = some nA) (hR : (rmc.frames + 1 ≤ R.frames ∧ 8 + (maxL + 11) + rmc.locals ≤ R.locals) ∧ rmc.cells = mc ∧ rmc.slots = ms ∧ cells + mc ≤ R.cells ∧ slots + ms ≤ R.slots) (hl : ls.size = nL) {st : List Value} (hst : st = As.reverse ++ .ref b :: rest) (hrest : (rest.map fun v => v.category).sum ≤ 8) (isC isR : List Nat) (wr : List va_W) (sg1 : S → List va_W) (nW : S → Nat) (isC1 isR1 : S → List Nat) (n0 : Nat) (hp : (isC ++ isR).Perm (List.range n0)) (hn0 : sg.length = n0) (hC0 : pk sg isC = wc) (hRr : pk sg isR = wr) (hp1 : ∀ u, (isC1 u ++ isR1 u).Perm (List.range (nW u))) (hn1 : ∀ u, (sg1 u).length = nW u) (hC1 : ∀ u, pk (sg1 u) (isC1 u) = w1 u) (hR1 : ∀ u, pk (sg1 u) (isR1 u) = wr) (hdg : decode cc pc = .ok (.invokespecial index, 3)) (kk : ∀ (u : S) (H1 : Heap) (locs1 : List Loc), WD D A H0 (sg1 u) H1 locs1 → W p l e R s m args below meth c H1 locs1 (cells + mc) (slots + ms) Q (F0 m (pc + 3) ls rest)) : W p l e R s m args below meth c H locs cells slots Q (F0 m pc ls st) := by
  subst hst
  have hWP := wd_front Wd hn0 hp hC0 hRr
  have hPc : va_P D vwCl wc.flatten H := (WP_left hWP).1
  have hDc : va_D (fun _ => True) wc.flatten := (WP_left hWP).2.weaken (fun _ _ _ _ => trivial)
  have hFc : ∀ q, va_A wc.flatten H.size q → A q := WP_free hWP Wd.2.1 Wd.2.2
  have fb : FrameBlind (va_Pc (.ref b :: As) (fun U => U.heap.size = H.size ∧ va_P D vwCl wc.flatten U.heap ∧ va_K D vwCl (tyL cy) U ∧ va_D (fun _ => True) wc.flatten ∧ E U)) := fun a U g mk q => by
    obtain ⟨q0, q1, qP, qK, qD, qE⟩ := q
    exact ⟨q0, q1, qP, va_K.moved (u := U) (U := U.calling g mk a) (Vm.Alike.refl U.vm) qK, qD, hE U (U.calling g mk a) rfl qE⟩
  refine va_callv (va_runIN (As := As) (rest := rest) F (hM H.size) ⟨va_cnB nA F.2.2.2.2 hG hw hR.2.1 hR.2.2.1 hlink (F.2.2.2.2 _ (hC ▸ hini)) hd hR.1, hnm, F.2.2.2.2 _ hinst⟩ ⟨fb, fun U hU hW => ⟨rfl, by rw [hU], by rw [hU]; exact hPc, va_K.moved hW.alike K, hDc, hE2 _ hW hE0⟩⟩ rfl hnA hl rfl (lv_room hrest) hdg ⟨hR.2.2.2.1, hR.2.2.2.2⟩) Wd.2.1 (fun q _ h => hFc q h) hFc (fun u t H1 locs1 ht hvm hw hB hz1 hk1 hS => ?_)
  obtain ⟨hP1, hK1, hD1⟩ := hB
  rw [ht] at hP1
  exact kk u H1 locs1 (wd_back (hn1 u) (hp1 u) (hC1 u) (hR1 u) (WP_call hWP hFc hP1 hD1 hk1) hS Wd.2.2)
theorem wd_cellq (Wd : WD D A H0 sg H locs) (i j : Nat) {w : va_W} {a n : Nat} {cA : ClassId} {f f' : Nat → Option Nat} {sg' : List va_W} (hs : ix sg i = some w) (ha : ix w j = some (a, .inl (cA, n, .inr (.inr (.inr (.inr f)))))) (hw : sg.set i (w.set j (a, .inl (cA, n, .inr (.inr (.inr (.inr f')))))) = sg') (h : ∀ k, k < n → f k = f' k) : WD D A H0 sg' H locs := by
  obtain ⟨k0, h1, h2⟩ := flat_at sg i j w _ hs ha
  have e : vp_cell cA (n, .inr (.inr (.inr (.inr f)))) = vp_cell cA (n, .inr (.inr (.inr (.inr f')))) := by
    rw [vp_cell_q, vp_cell_q]
    exact arrV_ext cA n (fun j hj => by rw [h j hj])
  have hat : va_at D vwCl (a, .inl (cA, n, .inr (.inr (.inr (.inr f'))))) H := by
    have h3 := Wd.1.1 k0 _ h1
    show H[a]? = some (vp_cell cA (n, .inr (.inr (.inr (.inr f')))))
    rw [← e]
    exact h3
  have hP := Wd.1.1.set Wd.1.2 h1 hat (fun _ _ => rfl)
  have hD := Wd.1.2.set (e := .inl (cA, n, .inr (.inr (.inr (.inr f'))))) h1
  rw [h2, hw] at hP hD
  exact ⟨⟨hP, hD⟩, Wd.2⟩
end ZN
/-- what the class' own constructor needs of the tables besides its words -/
def EX7 (U : State) : Prop := va_AO "LeftBehind$Isle" U ∧ va_Nw (.methodLinkNest RX7 9 yX4_init "LeftBehind") U ∧ va_Nw (.methodLinkNest RX7 29 yX6_init "LeftBehind") U ∧ va_Nw (.methodLinkNest RX7 36 yX1_init "LeftBehind") U ∧ va_Nw (.methodLinkNest RX7 43 yX0_init "LeftBehind") U ∧ va_Nw (.methodLinkNest RX7 50 yX3_init "LeftBehind") U
theorem EX7.same {u U : State} (h : u.vm = U.vm) (e : EX7 u) : EX7 U := by
  obtain ⟨a, b, c, d, f, g⟩ := e
  refine ⟨va_AO.moved (by rw [← h]; exact Vm.Alike.refl _) a, ?_, ?_, ?_, ?_, ?_⟩ <;> exact va_Nw.same rfl h (by assumption)
theorem EX7.warm {s U : State} (h : s.WarmedH U.vm) (e : EX7 s) : EX7 U := by
  obtain ⟨a, b, c, d, f, g⟩ := e
  exact ⟨va_AO.moved h.alike a, va_Nw.warmM h b, va_Nw.warmM h c, va_Nw.warmM h d, va_Nw.warmM h f, va_Nw.warmM h g⟩

