/-- a contract of a method that makes no object: world wc at the start, w1 u at the end -/
def CTi (l : Launch) (D : va_G) (cy : Nat → ClassId) (y : MethodName) (wy : List Cond) (rm : Room) (av : List Value) (wc : List va_W) {S : Type} (post : Int → S → Prop) (w1 : S → List va_W) : Prop :=
  ∀ sz : Nat, Met l y wy rm (va_Pc av (fun U => U.heap.size = sz ∧ va_P D vwCl wc.flatten U.heap ∧ va_K D vwCl (tyL cy) U ∧ va_D (fun _ => True) wc.flatten)) (va_Qi (fun (r : Int32) (u : Int × S) => r = zi u.1 ∧ post u.1 u.2) (fun u t => va_P D vwCl (w1 u.2).flatten t.heap ∧ va_K D vwCl (tyL cy) t ∧ va_D (va_A wc.flatten sz) (w1 u.2).flatten) (va_A wc.flatten sz)) 0 0 (va_A wc.flatten sz)
/-- a contract of a method that makes no object: world wc at the start, w1 u at the end -/
def CTl (l : Launch) (D : va_G) (cy : Nat → ClassId) (y : MethodName) (wy : List Cond) (rm : Room) (av : List Value) (wc : List va_W) {S : Type} (post : Int → S → Prop) (w1 : S → List va_W) : Prop :=
  ∀ sz : Nat, Met l y wy rm (va_Pc av (fun U => U.heap.size = sz ∧ va_P D vwCl wc.flatten U.heap ∧ va_K D vwCl (tyL cy) U ∧ va_D (fun _ => True) wc.flatten)) (va_Ql (fun (r : Int64) (u : Int × S) => r = zl u.1 ∧ post u.1 u.2) (fun u t => va_P D vwCl (w1 u.2).flatten t.heap ∧ va_K D vwCl (tyL cy) t ∧ va_D (va_A wc.flatten sz) (w1 u.2).flatten) (va_A wc.flatten sz)) 0 0 (va_A wc.flatten sz)
/-- a contract of a method that makes no object: world wc at the start, w1 u at the end -/
def CTv (l : Launch) (D : va_G) (cy : Nat → ClassId) (y : MethodName) (wy : List Cond) (rm : Room) (av : List Value) (wc : List va_W) {S : Type} (post : S → Prop) (w1 : S → List va_W) : Prop :=
  ∀ sz : Nat, Met l y wy rm (va_Pc av (fun U => U.heap.size = sz ∧ va_P D vwCl wc.flatten U.heap ∧ va_K D vwCl (tyL cy) U ∧ va_D (fun _ => True) wc.flatten)) (va_Qv (fun (u : S) => post u) (fun u t => va_P D vwCl (w1 u).flatten t.heap ∧ va_K D vwCl (tyL cy) t ∧ va_D (va_A wc.flatten sz) (w1 u).flatten) (va_A wc.flatten sz)) 0 0 (va_A wc.flatten sz)
theorem CTi.of {l : Launch} {D : va_G} {cy : Nat → ClassId} {y : MethodName} {wy ws0 : List Cond} {rm : Room} {av : List Value} {wc : List va_W} {S : Type} {w1 : S → List va_W} {post : Int → S → Prop} {ret : FieldType} (own : String) (cc : ByteArray) (maxL : Nat) (hown : y.cls = own) (hy : plainName y.cls = true) (hw : wy = Cond.code y cc maxL (some ret) :: ws0) (hret : ∀ z u, post z u → narrow ret (.int (zi z)) = .int (zi z)) (hargs : (lg_sl av).length ≤ maxL)
    (body : ∀ (p : Program) (e : Env) (s : State) (m : MethodId) (args : Array Value) (below : List Frame) (meth : Method) (c : Code) (Q : State → Prop) (A : Nat → Prop) (ls : Array Slot), CallFix p m c cc maxL s args wy own → va_K D vwCl (tyL cy) s → WD D A s.heap wc s.heap [] → lv_has ls maxL (lv_args 0 av) → (∀ (pc : Nat) (ls : Array Slot) (H : Heap) (locs : List Loc) (z : Int) (u : S), decode cc pc = .ok (.ireturn, 1) → post z u → WD D A s.heap (w1 u) H locs → W p l e rm s m args below meth c H locs 0 0 Q (F0 m pc ls [.int (zi z)])) → W p l e rm s m args below meth c s.heap [] 0 0 Q (F0 m 0 ls [])) : CTi l D cy y wy rm av wc post w1 := by
  intro sz
  refine Met.ofW (cc := cc) (maxL := maxL) (ret := (some ret)) hy hw ?_
  intro p e s m args below meth c s₁ B hml hv
  obtain ⟨rfl, hsz, hP, hK, hD0⟩ := hv
  have hts := atoms_spec (ws := wy) B.pre
  have hfc : s.vm.findClass own = some m.cls := hown ▸ findClass_of_methodNamed B.named
  have hlocks := B.notSynchronized
  subst hsz
  rw [lg_entry_eq]
  refine body p e s m av.toArray below meth c _ (va_A wc.flatten s.heap.size) _ ⟨B.exec, B.bytes, hml, hfc, hts⟩ hK ⟨⟨hP, hD0.self⟩, va_S.rf, fun q h => Or.inr h⟩ (lv_entry av hargs) ?_
  intro pc ls H locs z u hdg hp Wd
  exact W.zret B.exec B.bytes B.returns (hret z u hp) (fun t ht hW => ⟨⟨zi z, (z, u), rfl, ⟨rfl, hp⟩, by rw [ht]; exact Wd.1.1, va_K.moved hW.alike hK, Wd.1.2⟩, Wd.2.1.F ht⟩) Wd.2.1.2.2 hdg
theorem CTl.of {l : Launch} {D : va_G} {cy : Nat → ClassId} {y : MethodName} {wy ws0 : List Cond} {rm : Room} {av : List Value} {wc : List va_W} {S : Type} {w1 : S → List va_W} {post : Int → S → Prop} (own : String) (cc : ByteArray) (maxL : Nat) (hown : y.cls = own) (hy : plainName y.cls = true) (hw : wy = Cond.code y cc maxL (some .long) :: ws0) (hargs : (lg_sl av).length ≤ maxL)
    (body : ∀ (p : Program) (e : Env) (s : State) (m : MethodId) (args : Array Value) (below : List Frame) (meth : Method) (c : Code) (Q : State → Prop) (A : Nat → Prop) (ls : Array Slot), CallFix p m c cc maxL s args wy own → va_K D vwCl (tyL cy) s → WD D A s.heap wc s.heap [] → lv_has ls maxL (lv_args 0 av) → (∀ (pc : Nat) (ls : Array Slot) (H : Heap) (locs : List Loc) (z : Int) (u : S), decode cc pc = .ok (.lreturn, 1) → post z u → WD D A s.heap (w1 u) H locs → W p l e rm s m args below meth c H locs 0 0 Q (F0 m pc ls [.long (zl z)])) → W p l e rm s m args below meth c s.heap [] 0 0 Q (F0 m 0 ls [])) : CTl l D cy y wy rm av wc post w1 := by
  intro sz
  refine Met.ofW (cc := cc) (maxL := maxL) (ret := (some .long)) hy hw ?_
  intro p e s m args below meth c s₁ B hml hv
  obtain ⟨rfl, hsz, hP, hK, hD0⟩ := hv
  have hts := atoms_spec (ws := wy) B.pre
  have hfc : s.vm.findClass own = some m.cls := hown ▸ findClass_of_methodNamed B.named
  have hlocks := B.notSynchronized
  subst hsz
  rw [lg_entry_eq]
  refine body p e s m av.toArray below meth c _ (va_A wc.flatten s.heap.size) _ ⟨B.exec, B.bytes, hml, hfc, hts⟩ hK ⟨⟨hP, hD0.self⟩, va_S.rf, fun q h => Or.inr h⟩ (lv_entry av hargs) ?_
  intro pc ls H locs z u hdg hp Wd
  exact W.lret B.exec B.bytes B.returns (fun t ht hW => ⟨⟨zl z, (z, u), rfl, ⟨rfl, hp⟩, by rw [ht]; exact Wd.1.1, va_K.moved hW.alike hK, Wd.1.2⟩, Wd.2.1.F ht⟩) Wd.2.1.2.2 hdg
theorem CTv.of {l : Launch} {D : va_G} {cy : Nat → ClassId} {y : MethodName} {wy ws0 : List Cond} {rm : Room} {av : List Value} {wc : List va_W} {S : Type} {w1 : S → List va_W} {post : S → Prop} (own : String) (cc : ByteArray) (maxL : Nat) (hown : y.cls = own) (hy : plainName y.cls = true) (hw : wy = Cond.code y cc maxL none :: ws0) (hargs : (lg_sl av).length ≤ maxL)
    (body : ∀ (p : Program) (e : Env) (s : State) (m : MethodId) (args : Array Value) (below : List Frame) (meth : Method) (c : Code) (Q : State → Prop) (A : Nat → Prop) (ls : Array Slot), CallFix p m c cc maxL s args wy own → va_K D vwCl (tyL cy) s → WD D A s.heap wc s.heap [] → lv_has ls maxL (lv_args 0 av) → (∀ (pc : Nat) (ls : Array Slot) (H : Heap) (locs : List Loc) (u : S), decode cc pc = .ok (.return_, 1) → post u → WD D A s.heap (w1 u) H locs → W p l e rm s m args below meth c H locs 0 0 Q (F0 m pc ls [])) → W p l e rm s m args below meth c s.heap [] 0 0 Q (F0 m 0 ls [])) : CTv l D cy y wy rm av wc post w1 := by
  intro sz
  refine Met.ofW (cc := cc) (maxL := maxL) (ret := none) hy hw ?_
  intro p e s m args below meth c s₁ B hml hv
  obtain ⟨rfl, hsz, hP, hK, hD0⟩ := hv
  have hts := atoms_spec (ws := wy) B.pre
  have hfc : s.vm.findClass own = some m.cls := hown ▸ findClass_of_methodNamed B.named
  have hlocks := B.notSynchronized
  subst hsz
  rw [lg_entry_eq]
  refine body p e s m av.toArray below meth c _ (va_A wc.flatten s.heap.size) _ ⟨B.exec, B.bytes, hml, hfc, hts⟩ hK ⟨⟨hP, hD0.self⟩, va_S.rf, fun q h => Or.inr h⟩ (lv_entry av hargs) ?_
  intro pc ls H locs u hdg hp Wd
  exact W.vret B.exec B.bytes B.returns (fun t ht hW => ⟨⟨u, rfl, hp, by rw [ht]; exact Wd.1.1, va_K.moved hW.alike hK, Wd.1.2⟩, Wd.2.1.F ht⟩) Wd.2.1.2.2 hdg
section ZC
variable {p : Program} {l : Launch} {e : Env} {R : Room} {s : State} {m : MethodId} {args : Array Value} {below : List Frame} {meth : Method} {c : Code} {H : Heap} {locs : List Loc} {cells slots : Nat} {Q : State → Prop} {cc : ByteArray} {pc : Nat} {ls : Array Slot} {rest : List Value} {nL : Nat} {Ts : List Cond} {own : String} {D : va_G} {A : Nat → Prop} {H0 : Heap} {sg : List va_W} {cy : Nat → ClassId}
theorem z_callVi (F : CallFix p m c cc nL s args Ts own) (K : va_K D vwCl (tyL cy) s) (Wd : WD D A H0 sg H locs) {C : String} {y : MethodName} {wy ws0 : List Cond} {rmc : Room} {wc : List va_W} {S : Type} {post : Int → S → Prop} {w1 : S → List va_W} {b : Nat} (As : List Value) (hM : CTi l D cy y wy rmc (.ref b :: As) wc post w1) {bytes : ByteArray} {maxL index : Nat} {ret : Option FieldType} (nA : Nat) (hnA : As.length = nA) (hG : GoodIn Ts (wsV own index C y wy)) (hw : wy = Cond.code y bytes maxL ret :: ws0) (hd : y.cls = C ∧ y.cls ≠ "java/lang/invoke/MethodHandle" ∧ y.cls ≠ "java/lang/invoke/VarHandle" ∧ (parseMethodDescriptor y.desc).map (fun d => d.parameters.length) = some nA) (hR : (rmc.frames + 1 ≤ R.frames ∧ 8 + (maxL + 11) + rmc.locals ≤ R.locals) ∧ rmc.cells = 0 ∧ rmc.slots = 0 ∧ cells ≤ R.cells ∧ slots ≤ R.slots) (i0 j0 ci : Nat) {qv : vw_C} {fs : List Value} {w0 : va_W} (hi0 : ix wc i0 = some w0) (he : ix w0 j0 = some (b, .inr (ci, fs))) (hc : vwCl[ci]? = some qv) (hq : qv.1 = C) (hl : ls.size = nL) {st : List Value} (hst : st = As.reverse ++ .ref b :: rest) (hrest : (rest.map fun v => v.category).sum ≤ 8) (isC isR : List Nat) (wr : List va_W) (sg1 : S → List va_W) (nW : Nat) (hp : (isC ++ isR).Perm (List.range nW)) (hn : sg.length = nW) (hC : pk sg isC = wc) (hRr : pk sg isR = wr) (hn1 : ∀ u, (sg1 u).length = nW) (hC1 : ∀ u, pk (sg1 u) isC = w1 u) (hR1 : ∀ u, pk (sg1 u) isR = wr) (hdg : decode cc pc = .ok (.invokevirtual index, 3)) (kk : ∀ (z : Int) (u : S) (H1 : Heap) (locs1 : List Loc), post z u → WD D A H0 (sg1 u) H1 locs1 → W p l e R s m args below meth c H1 locs1 cells slots Q (F0 m (pc + 3) ls (.int (zi z) :: rest))) : W p l e R s m args below meth c H locs cells slots Q (F0 m pc ls st) := by
  subst hst
  have hWP := wd_front Wd hn hp hC hRr
  have hPc : va_P D vwCl wc.flatten H := (WP_left hWP).1
  have hDc : va_D (fun _ => True) wc.flatten := (WP_left hWP).2.weaken (fun _ _ _ _ => trivial)
  have hFc : ∀ q, va_A wc.flatten H.size q → A q := WP_free hWP Wd.2.1 Wd.2.2
  have fb : FrameBlind (va_Pc (.ref b :: As) (fun U => U.heap.size = H.size ∧ va_P D vwCl wc.flatten U.heap ∧ va_K D vwCl (tyL cy) U ∧ va_D (fun _ => True) wc.flatten)) := fun a U g mk q => by
    obtain ⟨q0, q1, qP, qK, qD⟩ := q
    exact ⟨q0, q1, qP, va_K.moved (u := U) (U := U.calling g mk a) (Vm.Alike.refl U.vm) qK, qD⟩
  refine va_calli (va_runV (As := As) (rest := rest) F (hM H.size) (cwV nA F.2.2.2.2 hG hw hR.2.1 hR.2.2.1 hd hR.1) ⟨fb, by obtain ⟨k0, h1, -⟩ := flat_at wc i0 j0 w0 _ hi0 he; rw [← hq]; exact va_recv K hPc hc h1, fun U hU hW => ⟨rfl, by rw [hU], by rw [hU]; exact hPc, va_K.moved hW.alike K, hDc⟩⟩ rfl hnA hl rfl (lv_room hrest) hdg ⟨hR.2.2.2.1, hR.2.2.2.2⟩) Wd.2.1 (fun q _ h => hFc q h) hFc (fun r u t H1 locs1 ht hvm hw hB hz1 hk1 hS => ?_)
  obtain ⟨z, u⟩ := u
  obtain ⟨hr, hw⟩ := hw
  obtain ⟨hP1, hK1, hD1⟩ := hB
  rw [ht] at hP1
  subst hr
  exact kk z u H1 locs1 hw (wd_back (hn1 u) hp (hC1 u) (hR1 u) (WP_call hWP hFc hP1 hD1 hk1) hS Wd.2.2)
theorem z_callVip (F : CallFix p m c cc nL s args Ts own) (K : va_K D vwCl (tyL cy) s) (Wd : WD D A H0 sg H locs) {C : String} {y : MethodName} {wy ws0 : List Cond} {rmc : Room} {wc : List va_W} {S : Type} {post : Int → S → Prop} {b : Nat} (As : List Value) (hM : CTi l D cy y wy rmc (.ref b :: As) wc post (fun _ => wc)) {bytes : ByteArray} {maxL index : Nat} {ret : Option FieldType} (nA : Nat) (hnA : As.length = nA) (hG : GoodIn Ts (wsV own index C y wy)) (hw : wy = Cond.code y bytes maxL ret :: ws0) (hd : y.cls = C ∧ y.cls ≠ "java/lang/invoke/MethodHandle" ∧ y.cls ≠ "java/lang/invoke/VarHandle" ∧ (parseMethodDescriptor y.desc).map (fun d => d.parameters.length) = some nA) (hR : (rmc.frames + 1 ≤ R.frames ∧ 8 + (maxL + 11) + rmc.locals ≤ R.locals) ∧ rmc.cells = 0 ∧ rmc.slots = 0 ∧ cells ≤ R.cells ∧ slots ≤ R.slots) (i0 j0 ci : Nat) {qv : vw_C} {fs : List Value} {w0 : va_W} (hi0 : ix wc i0 = some w0) (he : ix w0 j0 = some (b, .inr (ci, fs))) (hc : vwCl[ci]? = some qv) (hq : qv.1 = C) (hl : ls.size = nL) {st : List Value} (hst : st = As.reverse ++ .ref b :: rest) (hrest : (rest.map fun v => v.category).sum ≤ 8) (isC isR : List Nat) (wr : List va_W) (nW : Nat) (hp : (isC ++ isR).Perm (List.range nW)) (hn : sg.length = nW) (hC : pk sg isC = wc) (hRr : pk sg isR = wr) (hdg : decode cc pc = .ok (.invokevirtual index, 3)) (kk : ∀ (z : Int) (u : S) (H1 : Heap) (locs1 : List Loc), post z u → WD D A H0 sg H1 locs1 → W p l e R s m args below meth c H1 locs1 cells slots Q (F0 m (pc + 3) ls (.int (zi z) :: rest))) : W p l e R s m args below meth c H locs cells slots Q (F0 m pc ls st) := by
  subst hst
  have hWP := wd_front Wd hn hp hC hRr
  have hPc : va_P D vwCl wc.flatten H := (WP_left hWP).1
  have hDc : va_D (fun _ => True) wc.flatten := (WP_left hWP).2.weaken (fun _ _ _ _ => trivial)
  have hFc : ∀ q, va_A wc.flatten H.size q → A q := WP_free hWP Wd.2.1 Wd.2.2
  have fb : FrameBlind (va_Pc (.ref b :: As) (fun U => U.heap.size = H.size ∧ va_P D vwCl wc.flatten U.heap ∧ va_K D vwCl (tyL cy) U ∧ va_D (fun _ => True) wc.flatten)) := fun a U g mk q => by
    obtain ⟨q0, q1, qP, qK, qD⟩ := q
    exact ⟨q0, q1, qP, va_K.moved (u := U) (U := U.calling g mk a) (Vm.Alike.refl U.vm) qK, qD⟩
  refine va_calli (va_runV (As := As) (rest := rest) F (hM H.size) (cwV nA F.2.2.2.2 hG hw hR.2.1 hR.2.2.1 hd hR.1) ⟨fb, by obtain ⟨k0, h1, -⟩ := flat_at wc i0 j0 w0 _ hi0 he; rw [← hq]; exact va_recv K hPc hc h1, fun U hU hW => ⟨rfl, by rw [hU], by rw [hU]; exact hPc, va_K.moved hW.alike K, hDc⟩⟩ rfl hnA hl rfl (lv_room hrest) hdg ⟨hR.2.2.2.1, hR.2.2.2.2⟩) Wd.2.1 (fun q _ h => hFc q h) hFc (fun r u t H1 locs1 ht hvm hw hB hz1 hk1 hS => ?_)
  obtain ⟨z, u⟩ := u
  obtain ⟨hr, hw⟩ := hw
  obtain ⟨hP1, hK1, hD1⟩ := hB
  rw [ht] at hP1
  subst hr
  exact kk z u H1 locs1 hw (wd_back hn hp hC hRr (WP_call hWP hFc hP1 hD1 hk1) hS Wd.2.2)
theorem z_callSi (F : CallFix p m c cc nL s args Ts own) (K : va_K D vwCl (tyL cy) s) (Wd : WD D A H0 sg H locs) {y : MethodName} {wy ws0 : List Cond} {rmc : Room} {wc : List va_W} {S : Type} {post : Int → S → Prop} {w1 : S → List va_W} (As : List Value) (hM : CTi l D cy y wy rmc As wc post w1) {bytes : ByteArray} {maxL index : Nat} {ret : Option FieldType} (nA : Nat) (hnA : As.length = nA) (hG : GoodIn Ts (va_wsS own index y wy)) (hw : wy = Cond.code y bytes maxL ret :: ws0) (hd : y.cls ≠ "java/lang/invoke/MethodHandle" ∧ y.cls ≠ "java/lang/invoke/VarHandle" ∧ (parseMethodDescriptor y.desc).map (fun d => d.parameters.length) = some nA) (hR : (rmc.frames + 1 ≤ R.frames ∧ 8 + (maxL + 11) + rmc.locals ≤ R.locals) ∧ rmc.cells = 0 ∧ rmc.slots = 0 ∧ cells ≤ R.cells ∧ slots ≤ R.slots) (hl : ls.size = nL) {st : List Value} (hst : st = As.reverse ++ rest) (hrest : (rest.map fun v => v.category).sum ≤ 8) (isC isR : List Nat) (wr : List va_W) (sg1 : S → List va_W) (nW : Nat) (hp : (isC ++ isR).Perm (List.range nW)) (hn : sg.length = nW) (hC : pk sg isC = wc) (hRr : pk sg isR = wr) (hn1 : ∀ u, (sg1 u).length = nW) (hC1 : ∀ u, pk (sg1 u) isC = w1 u) (hR1 : ∀ u, pk (sg1 u) isR = wr) (hdg : decode cc pc = .ok (.invokestatic index, 3)) (kk : ∀ (z : Int) (u : S) (H1 : Heap) (locs1 : List Loc), post z u → WD D A H0 (sg1 u) H1 locs1 → W p l e R s m args below meth c H1 locs1 cells slots Q (F0 m (pc + 3) ls (.int (zi z) :: rest))) : W p l e R s m args below meth c H locs cells slots Q (F0 m pc ls st) := by
  subst hst
  have hWP := wd_front Wd hn hp hC hRr
  have hPc : va_P D vwCl wc.flatten H := (WP_left hWP).1
  have hDc : va_D (fun _ => True) wc.flatten := (WP_left hWP).2.weaken (fun _ _ _ _ => trivial)
  have hFc : ∀ q, va_A wc.flatten H.size q → A q := WP_free hWP Wd.2.1 Wd.2.2
  have fb : FrameBlind (va_Pc As (fun U => U.heap.size = H.size ∧ va_P D vwCl wc.flatten U.heap ∧ va_K D vwCl (tyL cy) U ∧ va_D (fun _ => True) wc.flatten)) := fun a U g mk q => by
    obtain ⟨q0, q1, qP, qK, qD⟩ := q
    exact ⟨q0, q1, qP, va_K.moved (u := U) (U := U.calling g mk a) (Vm.Alike.refl U.vm) qK, qD⟩
  refine va_calli (va_runS (As := As) (rest := rest) F (hM H.size) (va_cwS nA F.2.2.2.2 hG hw hR.2.1 hR.2.2.1 hd hR.1) ⟨fb, fun U hU hW => ⟨rfl, by rw [hU], by rw [hU]; exact hPc, va_K.moved hW.alike K, hDc⟩⟩ rfl hnA hl rfl (lv_room hrest) hdg ⟨hR.2.2.2.1, hR.2.2.2.2⟩) Wd.2.1 (fun q _ h => hFc q h) hFc (fun r u t H1 locs1 ht hvm hw hB hz1 hk1 hS => ?_)
  obtain ⟨z, u⟩ := u
  obtain ⟨hr, hw⟩ := hw
  obtain ⟨hP1, hK1, hD1⟩ := hB
  rw [ht] at hP1
  subst hr
  exact kk z u H1 locs1 hw (wd_back (hn1 u) hp (hC1 u) (hR1 u) (WP_call hWP hFc hP1 hD1 hk1) hS Wd.2.2)
theorem z_callSip (F : CallFix p m c cc nL s args Ts own) (K : va_K D vwCl (tyL cy) s) (Wd : WD D A H0 sg H locs) {y : MethodName} {wy ws0 : List Cond} {rmc : Room} {wc : List va_W} {S : Type} {post : Int → S → Prop} (As : List Value) (hM : CTi l D cy y wy rmc As wc post (fun _ => wc)) {bytes : ByteArray} {maxL index : Nat} {ret : Option FieldType} (nA : Nat) (hnA : As.length = nA) (hG : GoodIn Ts (va_wsS own index y wy)) (hw : wy = Cond.code y bytes maxL ret :: ws0) (hd : y.cls ≠ "java/lang/invoke/MethodHandle" ∧ y.cls ≠ "java/lang/invoke/VarHandle" ∧ (parseMethodDescriptor y.desc).map (fun d => d.parameters.length) = some nA) (hR : (rmc.frames + 1 ≤ R.frames ∧ 8 + (maxL + 11) + rmc.locals ≤ R.locals) ∧ rmc.cells = 0 ∧ rmc.slots = 0 ∧ cells ≤ R.cells ∧ slots ≤ R.slots) (hl : ls.size = nL) {st : List Value} (hst : st = As.reverse ++ rest) (hrest : (rest.map fun v => v.category).sum ≤ 8) (isC isR : List Nat) (wr : List va_W) (nW : Nat) (hp : (isC ++ isR).Perm (List.range nW)) (hn : sg.length = nW) (hC : pk sg isC = wc) (hRr : pk sg isR = wr) (hdg : decode cc pc = .ok (.invokestatic index, 3)) (kk : ∀ (z : Int) (u : S) (H1 : Heap) (locs1 : List Loc), post z u → WD D A H0 sg H1 locs1 → W p l e R s m args below meth c H1 locs1 cells slots Q (F0 m (pc + 3) ls (.int (zi z) :: rest))) : W p l e R s m args below meth c H locs cells slots Q (F0 m pc ls st) := by
  subst hst
  have hWP := wd_front Wd hn hp hC hRr
  have hPc : va_P D vwCl wc.flatten H := (WP_left hWP).1
  have hDc : va_D (fun _ => True) wc.flatten := (WP_left hWP).2.weaken (fun _ _ _ _ => trivial)
  have hFc : ∀ q, va_A wc.flatten H.size q → A q := WP_free hWP Wd.2.1 Wd.2.2
  have fb : FrameBlind (va_Pc As (fun U => U.heap.size = H.size ∧ va_P D vwCl wc.flatten U.heap ∧ va_K D vwCl (tyL cy) U ∧ va_D (fun _ => True) wc.flatten)) := fun a U g mk q => by
    obtain ⟨q0, q1, qP, qK, qD⟩ := q
    exact ⟨q0, q1, qP, va_K.moved (u := U) (U := U.calling g mk a) (Vm.Alike.refl U.vm) qK, qD⟩
  refine va_calli (va_runS (As := As) (rest := rest) F (hM H.size) (va_cwS nA F.2.2.2.2 hG hw hR.2.1 hR.2.2.1 hd hR.1) ⟨fb, fun U hU hW => ⟨rfl, by rw [hU], by rw [hU]; exact hPc, va_K.moved hW.alike K, hDc⟩⟩ rfl hnA hl rfl (lv_room hrest) hdg ⟨hR.2.2.2.1, hR.2.2.2.2⟩) Wd.2.1 (fun q _ h => hFc q h) hFc (fun r u t H1 locs1 ht hvm hw hB hz1 hk1 hS => ?_)
  obtain ⟨z, u⟩ := u
  obtain ⟨hr, hw⟩ := hw
  obtain ⟨hP1, hK1, hD1⟩ := hB
  rw [ht] at hP1
  subst hr
  exact kk z u H1 locs1 hw (wd_back hn hp hC hRr (WP_call hWP hFc hP1 hD1 hk1) hS Wd.2.2)
theorem z_callVl (F : CallFix p m c cc nL s args Ts own) (K : va_K D vwCl (tyL cy) s) (Wd : WD D A H0 sg H locs) {C : String} {y : MethodName} {wy ws0 : List Cond} {rmc : Room} {wc : List va_W} {S : Type} {post : Int → S → Prop} {w1 : S → List va_W} {b : Nat} (As : List Value) (hM : CTl l D cy y wy rmc (.ref b :: As) wc post w1) {bytes : ByteArray} {maxL index : Nat} {ret : Option FieldType} (nA : Nat) (hnA : As.length = nA) (hG : GoodIn Ts (wsV own index C y wy)) (hw : wy = Cond.code y bytes maxL ret :: ws0) (hd : y.cls = C ∧ y.cls ≠ "java/lang/invoke/MethodHandle" ∧ y.cls ≠ "java/lang/invoke/VarHandle" ∧ (parseMethodDescriptor y.desc).map (fun d => d.parameters.length) = some nA) (hR : (rmc.frames + 1 ≤ R.frames ∧ 8 + (maxL + 11) + rmc.locals ≤ R.locals) ∧ rmc.cells = 0 ∧ rmc.slots = 0 ∧ cells ≤ R.cells ∧ slots ≤ R.slots) (i0 j0 ci : Nat) {qv : vw_C} {fs : List Value} {w0 : va_W} (hi0 : ix wc i0 = some w0) (he : ix w0 j0 = some (b, .inr (ci, fs))) (hc : vwCl[ci]? = some qv) (hq : qv.1 = C) (hl : ls.size = nL) {st : List Value} (hst : st = As.reverse ++ .ref b :: rest) (hrest : (rest.map fun v => v.category).sum ≤ 8) (isC isR : List Nat) (wr : List va_W) (sg1 : S → List va_W) (nW : Nat) (hp : (isC ++ isR).Perm (List.range nW)) (hn : sg.length = nW) (hC : pk sg isC = wc) (hRr : pk sg isR = wr) (hn1 : ∀ u, (sg1 u).length = nW) (hC1 : ∀ u, pk (sg1 u) isC = w1 u) (hR1 : ∀ u, pk (sg1 u) isR = wr) (hdg : decode cc pc = .ok (.invokevirtual index, 3)) (kk : ∀ (z : Int) (u : S) (H1 : Heap) (locs1 : List Loc), post z u → WD D A H0 (sg1 u) H1 locs1 → W p l e R s m args below meth c H1 locs1 cells slots Q (F0 m (pc + 3) ls (.long (zl z) :: rest))) : W p l e R s m args below meth c H locs cells slots Q (F0 m pc ls st) := by
  subst hst
  have hWP := wd_front Wd hn hp hC hRr
  have hPc : va_P D vwCl wc.flatten H := (WP_left hWP).1
  have hDc : va_D (fun _ => True) wc.flatten := (WP_left hWP).2.weaken (fun _ _ _ _ => trivial)
  have hFc : ∀ q, va_A wc.flatten H.size q → A q := WP_free hWP Wd.2.1 Wd.2.2
  have fb : FrameBlind (va_Pc (.ref b :: As) (fun U => U.heap.size = H.size ∧ va_P D vwCl wc.flatten U.heap ∧ va_K D vwCl (tyL cy) U ∧ va_D (fun _ => True) wc.flatten)) := fun a U g mk q => by
    obtain ⟨q0, q1, qP, qK, qD⟩ := q
    exact ⟨q0, q1, qP, va_K.moved (u := U) (U := U.calling g mk a) (Vm.Alike.refl U.vm) qK, qD⟩
  refine va_calll (va_runV (As := As) (rest := rest) F (hM H.size) (cwV nA F.2.2.2.2 hG hw hR.2.1 hR.2.2.1 hd hR.1) ⟨fb, by obtain ⟨k0, h1, -⟩ := flat_at wc i0 j0 w0 _ hi0 he; rw [← hq]; exact va_recv K hPc hc h1, fun U hU hW => ⟨rfl, by rw [hU], by rw [hU]; exact hPc, va_K.moved hW.alike K, hDc⟩⟩ rfl hnA hl rfl (lv_room hrest) hdg ⟨hR.2.2.2.1, hR.2.2.2.2⟩) Wd.2.1 (fun q _ h => hFc q h) hFc (fun r u t H1 locs1 ht hvm hw hB hz1 hk1 hS => ?_)
  obtain ⟨z, u⟩ := u
  obtain ⟨hr, hw⟩ := hw
  obtain ⟨hP1, hK1, hD1⟩ := hB
  rw [ht] at hP1
  subst hr
  exact kk z u H1 locs1 hw (wd_back (hn1 u) hp (hC1 u) (hR1 u) (WP_call hWP hFc hP1 hD1 hk1) hS Wd.2.2)
theorem z_callVlp (F : CallFix p m c cc nL s args Ts own) (K : va_K D vwCl (tyL cy) s) (Wd : WD D A H0 sg H locs) {C : String} {y : MethodName} {wy ws0 : List Cond} {rmc : Room} {wc : List va_W} {S : Type} {post : Int → S → Prop} {b : Nat} (As : List Value) (hM : CTl l D cy y wy rmc (.ref b :: As) wc post (fun _ => wc)) {bytes : ByteArray} {maxL index : Nat} {ret : Option FieldType} (nA : Nat) (hnA : As.length = nA) (hG : GoodIn Ts (wsV own index C y wy)) (hw : wy = Cond.code y bytes maxL ret :: ws0) (hd : y.cls = C ∧ y.cls ≠ "java/lang/invoke/MethodHandle" ∧ y.cls ≠ "java/lang/invoke/VarHandle" ∧ (parseMethodDescriptor y.desc).map (fun d => d.parameters.length) = some nA) (hR : (rmc.frames + 1 ≤ R.frames ∧ 8 + (maxL + 11) + rmc.locals ≤ R.locals) ∧ rmc.cells = 0 ∧ rmc.slots = 0 ∧ cells ≤ R.cells ∧ slots ≤ R.slots) (i0 j0 ci : Nat) {qv : vw_C} {fs : List Value} {w0 : va_W} (hi0 : ix wc i0 = some w0) (he : ix w0 j0 = some (b, .inr (ci, fs))) (hc : vwCl[ci]? = some qv) (hq : qv.1 = C) (hl : ls.size = nL) {st : List Value} (hst : st = As.reverse ++ .ref b :: rest) (hrest : (rest.map fun v => v.category).sum ≤ 8) (isC isR : List Nat) (wr : List va_W) (nW : Nat) (hp : (isC ++ isR).Perm (List.range nW)) (hn : sg.length = nW) (hC : pk sg isC = wc) (hRr : pk sg isR = wr) (hdg : decode cc pc = .ok (.invokevirtual index, 3)) (kk : ∀ (z : Int) (u : S) (H1 : Heap) (locs1 : List Loc), post z u → WD D A H0 sg H1 locs1 → W p l e R s m args below meth c H1 locs1 cells slots Q (F0 m (pc + 3) ls (.long (zl z) :: rest))) : W p l e R s m args below meth c H locs cells slots Q (F0 m pc ls st) := by
  subst hst
  have hWP := wd_front Wd hn hp hC hRr
  have hPc : va_P D vwCl wc.flatten H := (WP_left hWP).1
  have hDc : va_D (fun _ => True) wc.flatten := (WP_left hWP).2.weaken (fun _ _ _ _ => trivial)
  have hFc : ∀ q, va_A wc.flatten H.size q → A q := WP_free hWP Wd.2.1 Wd.2.2
  have fb : FrameBlind (va_Pc (.ref b :: As) (fun U => U.heap.size = H.size ∧ va_P D vwCl wc.flatten U.heap ∧ va_K D vwCl (tyL cy) U ∧ va_D (fun _ => True) wc.flatten)) := fun a U g mk q => by
    obtain ⟨q0, q1, qP, qK, qD⟩ := q
    exact ⟨q0, q1, qP, va_K.moved (u := U) (U := U.calling g mk a) (Vm.Alike.refl U.vm) qK, qD⟩
  refine va_calll (va_runV (As := As) (rest := rest) F (hM H.size) (cwV nA F.2.2.2.2 hG hw hR.2.1 hR.2.2.1 hd hR.1) ⟨fb, by obtain ⟨k0, h1, -⟩ := flat_at wc i0 j0 w0 _ hi0 he; rw [← hq]; exact va_recv K hPc hc h1, fun U hU hW => ⟨rfl, by rw [hU], by rw [hU]; exact hPc, va_K.moved hW.alike K, hDc⟩⟩ rfl hnA hl rfl (lv_room hrest) hdg ⟨hR.2.2.2.1, hR.2.2.2.2⟩) Wd.2.1 (fun q _ h => hFc q h) hFc (fun r u t H1 locs1 ht hvm hw hB hz1 hk1 hS => ?_)
  obtain ⟨z, u⟩ := u
  obtain ⟨hr, hw⟩ := hw
  obtain ⟨hP1, hK1, hD1⟩ := hB
  rw [ht] at hP1
  subst hr
  exact kk z u H1 locs1 hw (wd_back hn hp hC hRr (WP_call hWP hFc hP1 hD1 hk1) hS Wd.2.2)
theorem z_callSl (F : CallFix p m c cc nL s args Ts own) (K : va_K D vwCl (tyL cy) s) (Wd : WD D A H0 sg H locs) {y : MethodName} {wy ws0 : List Cond} {rmc : Room} {wc : List va_W} {S : Type} {post : Int → S → Prop} {w1 : S → List va_W} (As : List Value) (hM : CTl l D cy y wy rmc As wc post w1) {bytes : ByteArray} {maxL index : Nat} {ret : Option FieldType} (nA : Nat) (hnA : As.length = nA) (hG : GoodIn Ts (va_wsS own index y wy)) (hw : wy = Cond.code y bytes maxL ret :: ws0) (hd : y.cls ≠ "java/lang/invoke/MethodHandle" ∧ y.cls ≠ "java/lang/invoke/VarHandle" ∧ (parseMethodDescriptor y.desc).map (fun d => d.parameters.length) = some nA) (hR : (rmc.frames + 1 ≤ R.frames ∧ 8 + (maxL + 11) + rmc.locals ≤ R.locals) ∧ rmc.cells = 0 ∧ rmc.slots = 0 ∧ cells ≤ R.cells ∧ slots ≤ R.slots) (hl : ls.size = nL) {st : List Value} (hst : st = As.reverse ++ rest) (hrest : (rest.map fun v => v.category).sum ≤ 8) (isC isR : List Nat) (wr : List va_W) (sg1 : S → List va_W) (nW : Nat) (hp : (isC ++ isR).Perm (List.range nW)) (hn : sg.length = nW) (hC : pk sg isC = wc) (hRr : pk sg isR = wr) (hn1 : ∀ u, (sg1 u).length = nW) (hC1 : ∀ u, pk (sg1 u) isC = w1 u) (hR1 : ∀ u, pk (sg1 u) isR = wr) (hdg : decode cc pc = .ok (.invokestatic index, 3)) (kk : ∀ (z : Int) (u : S) (H1 : Heap) (locs1 : List Loc), post z u → WD D A H0 (sg1 u) H1 locs1 → W p l e R s m args below meth c H1 locs1 cells slots Q (F0 m (pc + 3) ls (.long (zl z) :: rest))) : W p l e R s m args below meth c H locs cells slots Q (F0 m pc ls st) := by
  subst hst
  have hWP := wd_front Wd hn hp hC hRr
  have hPc : va_P D vwCl wc.flatten H := (WP_left hWP).1
  have hDc : va_D (fun _ => True) wc.flatten := (WP_left hWP).2.weaken (fun _ _ _ _ => trivial)
  have hFc : ∀ q, va_A wc.flatten H.size q → A q := WP_free hWP Wd.2.1 Wd.2.2
  have fb : FrameBlind (va_Pc As (fun U => U.heap.size = H.size ∧ va_P D vwCl wc.flatten U.heap ∧ va_K D vwCl (tyL cy) U ∧ va_D (fun _ => True) wc.flatten)) := fun a U g mk q => by
    obtain ⟨q0, q1, qP, qK, qD⟩ := q
    exact ⟨q0, q1, qP, va_K.moved (u := U) (U := U.calling g mk a) (Vm.Alike.refl U.vm) qK, qD⟩
  refine va_calll (va_runS (As := As) (rest := rest) F (hM H.size) (va_cwS nA F.2.2.2.2 hG hw hR.2.1 hR.2.2.1 hd hR.1) ⟨fb, fun U hU hW => ⟨rfl, by rw [hU], by rw [hU]; exact hPc, va_K.moved hW.alike K, hDc⟩⟩ rfl hnA hl rfl (lv_room hrest) hdg ⟨hR.2.2.2.1, hR.2.2.2.2⟩) Wd.2.1 (fun q _ h => hFc q h) hFc (fun r u t H1 locs1 ht hvm hw hB hz1 hk1 hS => ?_)
  obtain ⟨z, u⟩ := u
  obtain ⟨hr, hw⟩ := hw
  obtain ⟨hP1, hK1, hD1⟩ := hB
  rw [ht] at hP1
  subst hr
  exact kk z u H1 locs1 hw (wd_back (hn1 u) hp (hC1 u) (hR1 u) (WP_call hWP hFc hP1 hD1 hk1) hS Wd.2.2)
theorem z_callSlp (F : CallFix p m c cc nL s args Ts own) (K : va_K D vwCl (tyL cy) s) (Wd : WD D A H0 sg H locs) {y : MethodName} {wy ws0 : List Cond} {rmc : Room} {wc : List va_W} {S : Type} {post : Int → S → Prop} (As : List Value) (hM : CTl l D cy y wy rmc As wc post (fun _ => wc)) {bytes : ByteArray} {maxL index : Nat} {ret : Option FieldType} (nA : Nat) (hnA : As.length = nA) (hG : GoodIn Ts (va_wsS own index y wy)) (hw : wy = Cond.code y bytes maxL ret :: ws0) (hd : y.cls ≠ "java/lang/invoke/MethodHandle" ∧ y.cls ≠ "java/lang/invoke/VarHandle" ∧ (parseMethodDescriptor y.desc).map (fun d => d.parameters.length) = some nA) (hR : (rmc.frames + 1 ≤ R.frames ∧ 8 + (maxL + 11) + rmc.locals ≤ R.locals) ∧ rmc.cells = 0 ∧ rmc.slots = 0 ∧ cells ≤ R.cells ∧ slots ≤ R.slots) (hl : ls.size = nL) {st : List Value} (hst : st = As.reverse ++ rest) (hrest : (rest.map fun v => v.category).sum ≤ 8) (isC isR : List Nat) (wr : List va_W) (nW : Nat) (hp : (isC ++ isR).Perm (List.range nW)) (hn : sg.length = nW) (hC : pk sg isC = wc) (hRr : pk sg isR = wr) (hdg : decode cc pc = .ok (.invokestatic index, 3)) (kk : ∀ (z : Int) (u : S) (H1 : Heap) (locs1 : List Loc), post z u → WD D A H0 sg H1 locs1 → W p l e R s m args below meth c H1 locs1 cells slots Q (F0 m (pc + 3) ls (.long (zl z) :: rest))) : W p l e R s m args below meth c H locs cells slots Q (F0 m pc ls st) := by
  subst hst
  have hWP := wd_front Wd hn hp hC hRr
  have hPc : va_P D vwCl wc.flatten H := (WP_left hWP).1
  have hDc : va_D (fun _ => True) wc.flatten := (WP_left hWP).2.weaken (fun _ _ _ _ => trivial)
  have hFc : ∀ q, va_A wc.flatten H.size q → A q := WP_free hWP Wd.2.1 Wd.2.2
  have fb : FrameBlind (va_Pc As (fun U => U.heap.size = H.size ∧ va_P D vwCl wc.flatten U.heap ∧ va_K D vwCl (tyL cy) U ∧ va_D (fun _ => True) wc.flatten)) := fun a U g mk q => by
    obtain ⟨q0, q1, qP, qK, qD⟩ := q
    exact ⟨q0, q1, qP, va_K.moved (u := U) (U := U.calling g mk a) (Vm.Alike.refl U.vm) qK, qD⟩
  refine va_calll (va_runS (As := As) (rest := rest) F (hM H.size) (va_cwS nA F.2.2.2.2 hG hw hR.2.1 hR.2.2.1 hd hR.1) ⟨fb, fun U hU hW => ⟨rfl, by rw [hU], by rw [hU]; exact hPc, va_K.moved hW.alike K, hDc⟩⟩ rfl hnA hl rfl (lv_room hrest) hdg ⟨hR.2.2.2.1, hR.2.2.2.2⟩) Wd.2.1 (fun q _ h => hFc q h) hFc (fun r u t H1 locs1 ht hvm hw hB hz1 hk1 hS => ?_)
  obtain ⟨z, u⟩ := u
  obtain ⟨hr, hw⟩ := hw
  obtain ⟨hP1, hK1, hD1⟩ := hB
  rw [ht] at hP1
  subst hr
  exact kk z u H1 locs1 hw (wd_back hn hp hC hRr (WP_call hWP hFc hP1 hD1 hk1) hS Wd.2.2)
theorem z_callVv (F : CallFix p m c cc nL s args Ts own) (K : va_K D vwCl (tyL cy) s) (Wd : WD D A H0 sg H locs) {C : String} {y : MethodName} {wy ws0 : List Cond} {rmc : Room} {wc : List va_W} {S : Type} {post : S → Prop} {w1 : S → List va_W} {b : Nat} (As : List Value) (hM : CTv l D cy y wy rmc (.ref b :: As) wc post w1) {bytes : ByteArray} {maxL index : Nat} {ret : Option FieldType} (nA : Nat) (hnA : As.length = nA) (hG : GoodIn Ts (wsV own index C y wy)) (hw : wy = Cond.code y bytes maxL ret :: ws0) (hd : y.cls = C ∧ y.cls ≠ "java/lang/invoke/MethodHandle" ∧ y.cls ≠ "java/lang/invoke/VarHandle" ∧ (parseMethodDescriptor y.desc).map (fun d => d.parameters.length) = some nA) (hR : (rmc.frames + 1 ≤ R.frames ∧ 8 + (maxL + 11) + rmc.locals ≤ R.locals) ∧ rmc.cells = 0 ∧ rmc.slots = 0 ∧ cells ≤ R.cells ∧ slots ≤ R.slots) (i0 j0 ci : Nat) {qv : vw_C} {fs : List Value} {w0 : va_W} (hi0 : ix wc i0 = some w0) (he : ix w0 j0 = some (b, .inr (ci, fs))) (hc : vwCl[ci]? = some qv) (hq : qv.1 = C) (hl : ls.size = nL) {st : List Value} (hst : st = As.reverse ++ .ref b :: rest) (hrest : (rest.map fun v => v.category).sum ≤ 8) (isC isR : List Nat) (wr : List va_W) (sg1 : S → List va_W) (nW : Nat) (hp : (isC ++ isR).Perm (List.range nW)) (hn : sg.length = nW) (hC : pk sg isC = wc) (hRr : pk sg isR = wr) (hn1 : ∀ u, (sg1 u).length = nW) (hC1 : ∀ u, pk (sg1 u) isC = w1 u) (hR1 : ∀ u, pk (sg1 u) isR = wr) (hdg : decode cc pc = .ok (.invokevirtual index, 3)) (kk : ∀ (u : S) (H1 : Heap) (locs1 : List Loc), post u → WD D A H0 (sg1 u) H1 locs1 → W p l e R s m args below meth c H1 locs1 cells slots Q (F0 m (pc + 3) ls (rest))) : W p l e R s m args below meth c H locs cells slots Q (F0 m pc ls st) := by
  subst hst
  have hWP := wd_front Wd hn hp hC hRr
  have hPc : va_P D vwCl wc.flatten H := (WP_left hWP).1
  have hDc : va_D (fun _ => True) wc.flatten := (WP_left hWP).2.weaken (fun _ _ _ _ => trivial)
  have hFc : ∀ q, va_A wc.flatten H.size q → A q := WP_free hWP Wd.2.1 Wd.2.2
  have fb : FrameBlind (va_Pc (.ref b :: As) (fun U => U.heap.size = H.size ∧ va_P D vwCl wc.flatten U.heap ∧ va_K D vwCl (tyL cy) U ∧ va_D (fun _ => True) wc.flatten)) := fun a U g mk q => by
    obtain ⟨q0, q1, qP, qK, qD⟩ := q
    exact ⟨q0, q1, qP, va_K.moved (u := U) (U := U.calling g mk a) (Vm.Alike.refl U.vm) qK, qD⟩
  refine va_callv (va_runV (As := As) (rest := rest) F (hM H.size) (cwV nA F.2.2.2.2 hG hw hR.2.1 hR.2.2.1 hd hR.1) ⟨fb, by obtain ⟨k0, h1, -⟩ := flat_at wc i0 j0 w0 _ hi0 he; rw [← hq]; exact va_recv K hPc hc h1, fun U hU hW => ⟨rfl, by rw [hU], by rw [hU]; exact hPc, va_K.moved hW.alike K, hDc⟩⟩ rfl hnA hl rfl (lv_room hrest) hdg ⟨hR.2.2.2.1, hR.2.2.2.2⟩) Wd.2.1 (fun q _ h => hFc q h) hFc (fun u t H1 locs1 ht hvm hw hB hz1 hk1 hS => ?_)
  obtain ⟨hP1, hK1, hD1⟩ := hB
  rw [ht] at hP1
  exact kk u H1 locs1 hw (wd_back (hn1 u) hp (hC1 u) (hR1 u) (WP_call hWP hFc hP1 hD1 hk1) hS Wd.2.2)
theorem z_callSv (F : CallFix p m c cc nL s args Ts own) (K : va_K D vwCl (tyL cy) s) (Wd : WD D A H0 sg H locs) {y : MethodName} {wy ws0 : List Cond} {rmc : Room} {wc : List va_W} {S : Type} {post : S → Prop} {w1 : S → List va_W} (As : List Value) (hM : CTv l D cy y wy rmc As wc post w1) {bytes : ByteArray} {maxL index : Nat} {ret : Option FieldType} (nA : Nat) (hnA : As.length = nA) (hG : GoodIn Ts (va_wsS own index y wy)) (hw : wy = Cond.code y bytes maxL ret :: ws0) (hd : y.cls ≠ "java/lang/invoke/MethodHandle" ∧ y.cls ≠ "java/lang/invoke/VarHandle" ∧ (parseMethodDescriptor y.desc).map (fun d => d.parameters.length) = some nA) (hR : (rmc.frames + 1 ≤ R.frames ∧ 8 + (maxL + 11) + rmc.locals ≤ R.locals) ∧ rmc.cells = 0 ∧ rmc.slots = 0 ∧ cells ≤ R.cells ∧ slots ≤ R.slots) (hl : ls.size = nL) {st : List Value} (hst : st = As.reverse ++ rest) (hrest : (rest.map fun v => v.category).sum ≤ 8) (isC isR : List Nat) (wr : List va_W) (sg1 : S → List va_W) (nW : Nat) (hp : (isC ++ isR).Perm (List.range nW)) (hn : sg.length = nW) (hC : pk sg isC = wc) (hRr : pk sg isR = wr) (hn1 : ∀ u, (sg1 u).length = nW) (hC1 : ∀ u, pk (sg1 u) isC = w1 u) (hR1 : ∀ u, pk (sg1 u) isR = wr) (hdg : decode cc pc = .ok (.invokestatic index, 3)) (kk : ∀ (u : S) (H1 : Heap) (locs1 : List Loc), post u → WD D A H0 (sg1 u) H1 locs1 → W p l e R s m args below meth c H1 locs1 cells slots Q (F0 m (pc + 3) ls (rest))) : W p l e R s m args below meth c H locs cells slots Q (F0 m pc ls st) := by
  subst hst
  have hWP := wd_front Wd hn hp hC hRr
  have hPc : va_P D vwCl wc.flatten H := (WP_left hWP).1
  have hDc : va_D (fun _ => True) wc.flatten := (WP_left hWP).2.weaken (fun _ _ _ _ => trivial)
  have hFc : ∀ q, va_A wc.flatten H.size q → A q := WP_free hWP Wd.2.1 Wd.2.2
  have fb : FrameBlind (va_Pc As (fun U => U.heap.size = H.size ∧ va_P D vwCl wc.flatten U.heap ∧ va_K D vwCl (tyL cy) U ∧ va_D (fun _ => True) wc.flatten)) := fun a U g mk q => by
    obtain ⟨q0, q1, qP, qK, qD⟩ := q
    exact ⟨q0, q1, qP, va_K.moved (u := U) (U := U.calling g mk a) (Vm.Alike.refl U.vm) qK, qD⟩
  refine va_callv (va_runS (As := As) (rest := rest) F (hM H.size) (va_cwS nA F.2.2.2.2 hG hw hR.2.1 hR.2.2.1 hd hR.1) ⟨fb, fun U hU hW => ⟨rfl, by rw [hU], by rw [hU]; exact hPc, va_K.moved hW.alike K, hDc⟩⟩ rfl hnA hl rfl (lv_room hrest) hdg ⟨hR.2.2.2.1, hR.2.2.2.2⟩) Wd.2.1 (fun q _ h => hFc q h) hFc (fun u t H1 locs1 ht hvm hw hB hz1 hk1 hS => ?_)
  obtain ⟨hP1, hK1, hD1⟩ := hB
  rw [ht] at hP1
  exact kk u H1 locs1 hw (wd_back (hn1 u) hp (hC1 u) (hR1 u) (WP_call hWP hFc hP1 hD1 hk1) hS Wd.2.2)
end ZC
