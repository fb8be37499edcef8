/-! string constants: island ship man call board, by their places 0 .. 4 -/
def se_len : List Nat := [6, 4, 3, 4, 5]
def se_byt : List (List Int32) := [[105, 115, 108, 97, 110, 100], [115, 104, 105, 112], [109, 97, 110], [99, 97, 108, 108], [98, 111, 97, 114, 100]]
def se_idx : List Nat := [43, 49, 55, 60, 65]
def se_tx : List String := ["island", "ship", "man", "call", "board"]
def ceL (k : Nat) : Int := ((se_len.getD k 0 : Nat) : Int)
def ceC (k : Nat) (j : Int) : Int := ((se_byt.getD k []).getD j.toNat 0).toInt
theorem se_all : ∀ k, k < 5 → (1 ≤ se_len.getD k 0 ∧ se_len.getD k 0 ≤ 6) ∧ ∀ j, j < 6 → 0 ≤ ((se_byt.getD k []).getD j 0).toInt ∧ ((se_byt.getD k []).getD j 0).toInt < 128 := by decide +kernel
theorem ceL_b {k : Nat} (h : k < 5) : 1 ≤ ceL k ∧ ceL k ≤ 6 := by
  have := (se_all k h).1
  unfold ceL
  omega
theorem ceC_b {k : Nat} {j : Int} (h : k < 5) (hj : 0 ≤ j ∧ j < ceL k) : 0 ≤ ceC k j ∧ ceC k j < 128 := by
  have h1 := ceL_b h
  exact (se_all k h).2 j.toNat (by omega)
theorem ceC_i (k : Nat) (j : Int) : zi (ceC k j) = (se_byt.getD k []).getD j.toNat 0 := zi_of _
theorem zi_chr {v : Int} (h : 0 ≤ v ∧ v < 128) : ((zi v &&& zi 255).toUInt32 % 65536).toInt32 = zi v := by
  have key : ∀ j : Nat, j < 128 → ((nI j &&& zi 255).toUInt32 % 65536).toInt32 = nI j := by decide +kernel
  rw [zi_bv h.1]
  exact key _ (by omega)
theorem zi_narC {v : Int} (h : 0 ≤ v ∧ v < 128) : narrow .char (.int (zi v)) = .int (zi v) := by
  have key : ∀ j : Nat, j < 128 → narrow .char (.int (nI j)) = .int (nI j) := by decide +kernel
  rw [zi_bv h.1]
  exact key _ (by omega)
def SE (sa sv : Nat → Nat) (A : Nat → Prop) (U : State) (H : Heap) : Prop :=
  vk_S 5 se_len se_byt sa sv A U H ∧ va_Z RJ0 "COMPACT_STRINGS" "Z" (.int 1) A U H ∧ (∃ sf : Value, (sf = .null ∨ ∃ a, sf = .ref a) ∧ va_Z RJ3 "SIOOBE_FORMATTER" "Ljava/util/function/BiFunction;" sf A U H) ∧ ∀ i : Nat, i < 5 → vk_R RX6 (se_idx.getD i 0) (se_tx.getD i "") (sa i) U
theorem SE.same {sa sv : Nat → Nat} {A : Nat → Prop} {u U : State} {H : Heap} (hv : U.vm = u.vm) (h : SE sa sv A u H) : SE sa sv A U H := by
  have hal : u.vm.Alike U.vm := by rw [hv]; exact Vm.Alike.refl _
  obtain ⟨h1, h2, ⟨sf, h3, h4⟩, h5⟩ := h
  exact ⟨h1.moved hal, h2.moved hal, ⟨sf, h3, h4.moved hal⟩, fun i hi => vk_R.same hv (h5 i hi)⟩
theorem SE.go {sa sv : Nat → Nat} {A B : Nat → Prop} {s U : State} {H : Heap} {locs : List Loc} (h : SE sa sv A s s.heap) (hS : va_S A s.heap H locs) (hB : ∀ q, B q → A q) (hW : s.WarmedH U.vm) : SE sa sv B U H := by
  obtain ⟨h1, h2, ⟨sf, h3, h4⟩, h5⟩ := h
  exact ⟨((h1.kept hS.2.1).narrow hB).moved hW.alike, ((h2.kept hS.2.1).narrow hB).moved hW.alike, ⟨sf, h3, ((h4.kept hS.2.1).narrow hB).moved hW.alike⟩, fun i hi => vk_R.warm hW (h5 i hi)⟩
theorem z_rv {s : State} {H H0 : Heap} {D : va_G} {A : Nat → Prop} {sg : List va_W} {locs : List Loc} {cy : Nat → ClassId} (K : va_K D vwCl (tyL cy) s) (Wd : WD D A H0 sg H locs) (i0 j0 ci : Nat) {b : Nat} {qv : vw_C} {fs : List Value} {w0 : va_W} {C : String} (hi0 : ix sg i0 = some w0) (he : ix w0 j0 = some (b, .inr (ci, fs))) (hc : vwCl[ci]? = some qv) (hq : qv.1 = C) : ∃ cell : Cell, H[b]? = some cell ∧ cell.vm.isStatics = false ∧ s.vm.findClass C = some cell.cls := by
  obtain ⟨k0, h1, -⟩ := flat_at sg i0 j0 w0 _ hi0 he
  rw [← hq]
  exact va_recv K Wd.1.1 hc h1
/-- contracts that know the string constants -/
def CTis (l : Launch) (D : va_G) (cy : Nat → ClassId) (sa sv : Nat → Nat) (y : MethodName) (wy : List Cond) (rm : Room) (args : List Value) (wc : List va_W) {S : Type} (post : Int → S → Prop) (w1 : S → List va_W) : Prop :=
  ∀ sz : Nat, Met l y wy rm (va_Pc args (fun U => (U.heap.size = sz ∧ va_P D vwCl wc.flatten U.heap ∧ va_K D vwCl (tyL cy) U ∧ va_D (fun _ => True) wc.flatten) ∧ SE sa sv (va_A wc.flatten sz) U U.heap)) (va_Qi (fun (r : Int32) (u : Int × S) => r = zi u.1 ∧ post u.1 u.2) (fun u t => va_P D vwCl (w1 u.2).flatten t.heap ∧ va_K D vwCl (tyL cy) t ∧ va_D (va_A wc.flatten sz) (w1 u.2).flatten) (va_A wc.flatten sz)) 0 0 (va_A wc.flatten sz)
def CTvs (l : Launch) (D : va_G) (cy : Nat → ClassId) (sa sv : Nat → Nat) (y : MethodName) (wy : List Cond) (rm : Room) (args : List Value) (wc : List va_W) {S : Type} (post : S → Prop) (w1 : S → List va_W) : Prop :=
  ∀ sz : Nat, Met l y wy rm (va_Pc args (fun U => (U.heap.size = sz ∧ va_P D vwCl wc.flatten U.heap ∧ va_K D vwCl (tyL cy) U ∧ va_D (fun _ => True) wc.flatten) ∧ SE sa sv (va_A wc.flatten sz) U U.heap)) (va_Qv (fun (u : S) => post u) (fun u t => va_P D vwCl (w1 u).flatten t.heap ∧ va_K D vwCl (tyL cy) t ∧ va_D (va_A wc.flatten sz) (w1 u).flatten) (va_A wc.flatten sz)) 0 0 (va_A wc.flatten sz)
theorem CTis.of {sa sv : Nat → Nat} {l : Launch} {D : va_G} {cy : Nat → ClassId} {y : MethodName} {wy ws0 : List Cond} {rm : Room} {av : List Value} {wc : List va_W} {S : Type} {w1 : S → List va_W} {post : Int → S → Prop} {ret : FieldType} (own : String) (cc : ByteArray) (maxL : Nat) (hown : y.cls = own) (hy : plainName y.cls = true) (hw : wy = Cond.code y cc maxL (some ret) :: ws0) (hret : ∀ z u, post z u → narrow ret (.int (zi z)) = .int (zi z)) (hargs : (lg_sl av).length ≤ maxL)
    (body : ∀ (p : Program) (e : Env) (s : State) (m : MethodId) (args : Array Value) (below : List Frame) (meth : Method) (c : Code) (Q : State → Prop) (A : Nat → Prop) (ls : Array Slot), CallFix p m c cc maxL s args wy own → va_K D vwCl (tyL cy) s → WD D A s.heap wc s.heap [] → SE sa sv A s s.heap → lv_has ls maxL (lv_args 0 av) → (∀ (pc : Nat) (ls : Array Slot) (H : Heap) (locs : List Loc) (z : Int) (u : S), decode cc pc = .ok (.ireturn, 1) → post z u → WD D A s.heap (w1 u) H locs → W p l e rm s m args below meth c H locs 0 0 Q (F0 m pc ls [.int (zi z)])) → W p l e rm s m args below meth c s.heap [] 0 0 Q (F0 m 0 ls [])) : CTis l D cy sa sv y wy rm av wc post w1 := by
  intro sz
  refine Met.ofW (cc := cc) (maxL := maxL) (ret := (some ret)) hy hw ?_
  intro p e s m args below meth c s₁ B hml hv
  obtain ⟨rfl, ⟨hsz, hP, hK, hD0⟩, hE⟩ := hv
  have hts := atoms_spec (ws := wy) B.pre
  have hfc : s.vm.findClass own = some m.cls := hown ▸ findClass_of_methodNamed B.named
  have hlocks := B.notSynchronized
  subst hsz
  rw [lg_entry_eq]
  refine body p e s m av.toArray below meth c _ (va_A wc.flatten s.heap.size) _ ⟨B.exec, B.bytes, hml, hfc, hts⟩ hK ⟨⟨hP, hD0.self⟩, va_S.rf, fun q h => Or.inr h⟩ hE (lv_entry av hargs) ?_
  intro pc ls H locs z u hdg hp Wd
  exact W.zret B.exec B.bytes B.returns (hret z u hp) (fun t ht hW => ⟨⟨zi z, (z, u), rfl, ⟨rfl, hp⟩, by rw [ht]; exact Wd.1.1, va_K.moved hW.alike hK, Wd.1.2⟩, Wd.2.1.F ht⟩) Wd.2.1.2.2 hdg
theorem CTvs.of {sa sv : Nat → Nat} {l : Launch} {D : va_G} {cy : Nat → ClassId} {y : MethodName} {wy ws0 : List Cond} {rm : Room} {av : List Value} {wc : List va_W} {S : Type} {w1 : S → List va_W} {post : S → Prop} (own : String) (cc : ByteArray) (maxL : Nat) (hown : y.cls = own) (hy : plainName y.cls = true) (hw : wy = Cond.code y cc maxL none :: ws0) (hargs : (lg_sl av).length ≤ maxL)
    (body : ∀ (p : Program) (e : Env) (s : State) (m : MethodId) (args : Array Value) (below : List Frame) (meth : Method) (c : Code) (Q : State → Prop) (A : Nat → Prop) (ls : Array Slot), CallFix p m c cc maxL s args wy own → va_K D vwCl (tyL cy) s → WD D A s.heap wc s.heap [] → SE sa sv A s s.heap → lv_has ls maxL (lv_args 0 av) → (∀ (pc : Nat) (ls : Array Slot) (H : Heap) (locs : List Loc) (u : S), decode cc pc = .ok (.return_, 1) → post u → WD D A s.heap (w1 u) H locs → W p l e rm s m args below meth c H locs 0 0 Q (F0 m pc ls [])) → W p l e rm s m args below meth c s.heap [] 0 0 Q (F0 m 0 ls [])) : CTvs l D cy sa sv y wy rm av wc post w1 := by
  intro sz
  refine Met.ofW (cc := cc) (maxL := maxL) (ret := none) hy hw ?_
  intro p e s m args below meth c s₁ B hml hv
  obtain ⟨rfl, ⟨hsz, hP, hK, hD0⟩, hE⟩ := hv
  have hts := atoms_spec (ws := wy) B.pre
  have hfc : s.vm.findClass own = some m.cls := hown ▸ findClass_of_methodNamed B.named
  have hlocks := B.notSynchronized
  subst hsz
  rw [lg_entry_eq]
  refine body p e s m av.toArray below meth c _ (va_A wc.flatten s.heap.size) _ ⟨B.exec, B.bytes, hml, hfc, hts⟩ hK ⟨⟨hP, hD0.self⟩, va_S.rf, fun q h => Or.inr h⟩ hE (lv_entry av hargs) ?_
  intro pc ls H locs u hdg hp Wd
  exact W.vret B.exec B.bytes B.returns (fun t ht hW => ⟨⟨u, rfl, hp, by rw [ht]; exact Wd.1.1, va_K.moved hW.alike hK, Wd.1.2⟩, Wd.2.1.F ht⟩) Wd.2.1.2.2 hdg
section ZCS
variable {p : Program} {l : Launch} {e : Env} {R : Room} {s : State} {m : MethodId} {args : Array Value} {below : List Frame} {meth : Method} {c : Code} {H : Heap} {locs : List Loc} {cells slots : Nat} {Q : State → Prop} {cc : ByteArray} {pc : Nat} {ls : Array Slot} {rest : List Value} {nL : Nat} {Ts : List Cond} {own : String} {D : va_G} {A : Nat → Prop} {sg : List va_W} {cy : Nat → ClassId}
theorem z_callVis (F : CallFix p m c cc nL s args Ts own) (K : va_K D vwCl (tyL cy) s) (Wd : WD D A s.heap sg H locs) {sa sv : Nat → Nat} (E : SE sa sv A s s.heap) {C : String} {y : MethodName} {wy ws0 : List Cond} {rmc : Room} {wc : List va_W} {S : Type} {post : Int → S → Prop} {w1 : S → List va_W} {b : Nat} (As : List Value) (hM : CTis l D cy sa sv y wy rmc (.ref b :: As) wc post w1) {bytes : ByteArray} {maxL index : Nat} {ret : Option FieldType} (nA : Nat) (hnA : As.length = nA) (hG : GoodIn Ts (wsV own index C y wy)) (hw : wy = Cond.code y bytes maxL ret :: ws0) (hd : y.cls = C ∧ y.cls ≠ "java/lang/invoke/MethodHandle" ∧ y.cls ≠ "java/lang/invoke/VarHandle" ∧ (parseMethodDescriptor y.desc).map (fun d => d.parameters.length) = some nA) (hR : (rmc.frames + 1 ≤ R.frames ∧ 8 + (maxL + 11) + rmc.locals ≤ R.locals) ∧ rmc.cells = 0 ∧ rmc.slots = 0 ∧ cells ≤ R.cells ∧ slots ≤ R.slots) (hrv : ∃ cell : Cell, H[b]? = some cell ∧ cell.vm.isStatics = false ∧ s.vm.findClass C = some cell.cls) (hl : ls.size = nL) {st : List Value} (hst : st = As.reverse ++ .ref b :: rest) (hrest : (rest.map fun v => v.category).sum ≤ 8) (isC isR : List Nat) (wr : List va_W) (sg1 : S → List va_W) (nW : Nat) (hp : (isC ++ isR).Perm (List.range nW)) (hn : sg.length = nW) (hC : pk sg isC = wc) (hRr : pk sg isR = wr) (hn1 : ∀ u, (sg1 u).length = nW) (hC1 : ∀ u, pk (sg1 u) isC = w1 u) (hR1 : ∀ u, pk (sg1 u) isR = wr) (hdg : decode cc pc = .ok (.invokevirtual index, 3)) (kk : ∀ (z : Int) (u : S) (H1 : Heap) (locs1 : List Loc), post z u → WD D A s.heap (sg1 u) H1 locs1 → W p l e R s m args below meth c H1 locs1 cells slots Q (F0 m (pc + 3) ls (.int (zi z) :: rest))) : W p l e R s m args below meth c H locs cells slots Q (F0 m pc ls st) := by
  subst hst
  have hWP := wd_front Wd hn hp hC hRr
  have hPc : va_P D vwCl wc.flatten H := (WP_left hWP).1
  have hDc : va_D (fun _ => True) wc.flatten := (WP_left hWP).2.weaken (fun _ _ _ _ => trivial)
  have hFc : ∀ q, va_A wc.flatten H.size q → A q := WP_free hWP Wd.2.1 Wd.2.2
  have fb : FrameBlind (va_Pc (.ref b :: As) (fun U => (U.heap.size = H.size ∧ va_P D vwCl wc.flatten U.heap ∧ va_K D vwCl (tyL cy) U ∧ va_D (fun _ => True) wc.flatten) ∧ SE sa sv (va_A wc.flatten H.size) U U.heap)) := fun a U g mk q => by
    obtain ⟨q0, ⟨q1, qP, qK, qD⟩, qE⟩ := q
    exact ⟨q0, ⟨q1, qP, va_K.moved (u := U) (U := U.calling g mk a) (Vm.Alike.refl U.vm) qK, qD⟩, SE.same (u := U) (U := U.calling g mk a) rfl qE⟩
  refine va_calli (va_runV (As := As) (rest := rest) F (hM H.size) (cwV nA F.2.2.2.2 hG hw hR.2.1 hR.2.2.1 hd hR.1) ⟨fb, hrv, fun U hU hW => ⟨rfl, ⟨by rw [hU], by rw [hU]; exact hPc, va_K.moved hW.alike K, hDc⟩, by rw [hU]; exact E.go Wd.2.1 hFc hW⟩⟩ rfl hnA hl rfl (lv_room hrest) hdg ⟨hR.2.2.2.1, hR.2.2.2.2⟩) Wd.2.1 (fun q _ h => hFc q h) hFc (fun r u t H1 locs1 ht hvm hw hB hz1 hk1 hS => ?_)
  obtain ⟨z, u⟩ := u
  obtain ⟨hr, hw⟩ := hw
  obtain ⟨hP1, hK1, hD1⟩ := hB
  rw [ht] at hP1
  subst hr
  exact kk z u H1 locs1 hw (wd_back (hn1 u) hp (hC1 u) (hR1 u) (WP_call hWP hFc hP1 hD1 hk1) hS Wd.2.2)
theorem z_callVisp (F : CallFix p m c cc nL s args Ts own) (K : va_K D vwCl (tyL cy) s) (Wd : WD D A s.heap sg H locs) {sa sv : Nat → Nat} (E : SE sa sv A s s.heap) {C : String} {y : MethodName} {wy ws0 : List Cond} {rmc : Room} {wc : List va_W} {S : Type} {post : Int → S → Prop} {b : Nat} (As : List Value) (hM : CTis l D cy sa sv y wy rmc (.ref b :: As) wc post (fun _ => wc)) {bytes : ByteArray} {maxL index : Nat} {ret : Option FieldType} (nA : Nat) (hnA : As.length = nA) (hG : GoodIn Ts (wsV own index C y wy)) (hw : wy = Cond.code y bytes maxL ret :: ws0) (hd : y.cls = C ∧ y.cls ≠ "java/lang/invoke/MethodHandle" ∧ y.cls ≠ "java/lang/invoke/VarHandle" ∧ (parseMethodDescriptor y.desc).map (fun d => d.parameters.length) = some nA) (hR : (rmc.frames + 1 ≤ R.frames ∧ 8 + (maxL + 11) + rmc.locals ≤ R.locals) ∧ rmc.cells = 0 ∧ rmc.slots = 0 ∧ cells ≤ R.cells ∧ slots ≤ R.slots) (hrv : ∃ cell : Cell, H[b]? = some cell ∧ cell.vm.isStatics = false ∧ s.vm.findClass C = some cell.cls) (hl : ls.size = nL) {st : List Value} (hst : st = As.reverse ++ .ref b :: rest) (hrest : (rest.map fun v => v.category).sum ≤ 8) (isC isR : List Nat) (wr : List va_W) (nW : Nat) (hp : (isC ++ isR).Perm (List.range nW)) (hn : sg.length = nW) (hC : pk sg isC = wc) (hRr : pk sg isR = wr) (hdg : decode cc pc = .ok (.invokevirtual index, 3)) (kk : ∀ (z : Int) (u : S) (H1 : Heap) (locs1 : List Loc), post z u → WD D A s.heap sg H1 locs1 → W p l e R s m args below meth c H1 locs1 cells slots Q (F0 m (pc + 3) ls (.int (zi z) :: rest))) : W p l e R s m args below meth c H locs cells slots Q (F0 m pc ls st) := by
  subst hst
  have hWP := wd_front Wd hn hp hC hRr
  have hPc : va_P D vwCl wc.flatten H := (WP_left hWP).1
  have hDc : va_D (fun _ => True) wc.flatten := (WP_left hWP).2.weaken (fun _ _ _ _ => trivial)
  have hFc : ∀ q, va_A wc.flatten H.size q → A q := WP_free hWP Wd.2.1 Wd.2.2
  have fb : FrameBlind (va_Pc (.ref b :: As) (fun U => (U.heap.size = H.size ∧ va_P D vwCl wc.flatten U.heap ∧ va_K D vwCl (tyL cy) U ∧ va_D (fun _ => True) wc.flatten) ∧ SE sa sv (va_A wc.flatten H.size) U U.heap)) := fun a U g mk q => by
    obtain ⟨q0, ⟨q1, qP, qK, qD⟩, qE⟩ := q
    exact ⟨q0, ⟨q1, qP, va_K.moved (u := U) (U := U.calling g mk a) (Vm.Alike.refl U.vm) qK, qD⟩, SE.same (u := U) (U := U.calling g mk a) rfl qE⟩
  refine va_calli (va_runV (As := As) (rest := rest) F (hM H.size) (cwV nA F.2.2.2.2 hG hw hR.2.1 hR.2.2.1 hd hR.1) ⟨fb, hrv, fun U hU hW => ⟨rfl, ⟨by rw [hU], by rw [hU]; exact hPc, va_K.moved hW.alike K, hDc⟩, by rw [hU]; exact E.go Wd.2.1 hFc hW⟩⟩ rfl hnA hl rfl (lv_room hrest) hdg ⟨hR.2.2.2.1, hR.2.2.2.2⟩) Wd.2.1 (fun q _ h => hFc q h) hFc (fun r u t H1 locs1 ht hvm hw hB hz1 hk1 hS => ?_)
  obtain ⟨z, u⟩ := u
  obtain ⟨hr, hw⟩ := hw
  obtain ⟨hP1, hK1, hD1⟩ := hB
  rw [ht] at hP1
  subst hr
  exact kk z u H1 locs1 hw (wd_back hn hp hC hRr (WP_call hWP hFc hP1 hD1 hk1) hS Wd.2.2)
theorem z_callSisp (F : CallFix p m c cc nL s args Ts own) (K : va_K D vwCl (tyL cy) s) (Wd : WD D A s.heap sg H locs) {sa sv : Nat → Nat} (E : SE sa sv A s s.heap) {y : MethodName} {wy ws0 : List Cond} {rmc : Room} {wc : List va_W} {S : Type} {post : Int → S → Prop} (As : List Value) (hM : CTis l D cy sa sv y wy rmc As wc post (fun _ => wc)) {bytes : ByteArray} {maxL index : Nat} {ret : Option FieldType} (nA : Nat) (hnA : As.length = nA) (hG : GoodIn Ts (va_wsS own index y wy)) (hw : wy = Cond.code y bytes maxL ret :: ws0) (hd : y.cls ≠ "java/lang/invoke/MethodHandle" ∧ y.cls ≠ "java/lang/invoke/VarHandle" ∧ (parseMethodDescriptor y.desc).map (fun d => d.parameters.length) = some nA) (hR : (rmc.frames + 1 ≤ R.frames ∧ 8 + (maxL + 11) + rmc.locals ≤ R.locals) ∧ rmc.cells = 0 ∧ rmc.slots = 0 ∧ cells ≤ R.cells ∧ slots ≤ R.slots) (hl : ls.size = nL) {st : List Value} (hst : st = As.reverse ++ rest) (hrest : (rest.map fun v => v.category).sum ≤ 8) (isC isR : List Nat) (wr : List va_W) (nW : Nat) (hp : (isC ++ isR).Perm (List.range nW)) (hn : sg.length = nW) (hC : pk sg isC = wc) (hRr : pk sg isR = wr) (hdg : decode cc pc = .ok (.invokestatic index, 3)) (kk : ∀ (z : Int) (u : S) (H1 : Heap) (locs1 : List Loc), post z u → WD D A s.heap sg H1 locs1 → W p l e R s m args below meth c H1 locs1 cells slots Q (F0 m (pc + 3) ls (.int (zi z) :: rest))) : W p l e R s m args below meth c H locs cells slots Q (F0 m pc ls st) := by
  subst hst
  have hWP := wd_front Wd hn hp hC hRr
  have hPc : va_P D vwCl wc.flatten H := (WP_left hWP).1
  have hDc : va_D (fun _ => True) wc.flatten := (WP_left hWP).2.weaken (fun _ _ _ _ => trivial)
  have hFc : ∀ q, va_A wc.flatten H.size q → A q := WP_free hWP Wd.2.1 Wd.2.2
  have fb : FrameBlind (va_Pc As (fun U => (U.heap.size = H.size ∧ va_P D vwCl wc.flatten U.heap ∧ va_K D vwCl (tyL cy) U ∧ va_D (fun _ => True) wc.flatten) ∧ SE sa sv (va_A wc.flatten H.size) U U.heap)) := fun a U g mk q => by
    obtain ⟨q0, ⟨q1, qP, qK, qD⟩, qE⟩ := q
    exact ⟨q0, ⟨q1, qP, va_K.moved (u := U) (U := U.calling g mk a) (Vm.Alike.refl U.vm) qK, qD⟩, SE.same (u := U) (U := U.calling g mk a) rfl qE⟩
  refine va_calli (va_runS (As := As) (rest := rest) F (hM H.size) (va_cwS nA F.2.2.2.2 hG hw hR.2.1 hR.2.2.1 hd hR.1) ⟨fb, fun U hU hW => ⟨rfl, ⟨by rw [hU], by rw [hU]; exact hPc, va_K.moved hW.alike K, hDc⟩, by rw [hU]; exact E.go Wd.2.1 hFc hW⟩⟩ rfl hnA hl rfl (lv_room hrest) hdg ⟨hR.2.2.2.1, hR.2.2.2.2⟩) Wd.2.1 (fun q _ h => hFc q h) hFc (fun r u t H1 locs1 ht hvm hw hB hz1 hk1 hS => ?_)
  obtain ⟨z, u⟩ := u
  obtain ⟨hr, hw⟩ := hw
  obtain ⟨hP1, hK1, hD1⟩ := hB
  rw [ht] at hP1
  subst hr
  exact kk z u H1 locs1 hw (wd_back hn hp hC hRr (WP_call hWP hFc hP1 hD1 hk1) hS Wd.2.2)
theorem z_callSvs (F : CallFix p m c cc nL s args Ts own) (K : va_K D vwCl (tyL cy) s) (Wd : WD D A s.heap sg H locs) {sa sv : Nat → Nat} (E : SE sa sv A s s.heap) {y : MethodName} {wy ws0 : List Cond} {rmc : Room} {wc : List va_W} {S : Type} {post : S → Prop} {w1 : S → List va_W} (As : List Value) (hM : CTvs l D cy sa sv y wy rmc As wc post w1) {bytes : ByteArray} {maxL index : Nat} {ret : Option FieldType} (nA : Nat) (hnA : As.length = nA) (hG : GoodIn Ts (va_wsS own index y wy)) (hw : wy = Cond.code y bytes maxL ret :: ws0) (hd : y.cls ≠ "java/lang/invoke/MethodHandle" ∧ y.cls ≠ "java/lang/invoke/VarHandle" ∧ (parseMethodDescriptor y.desc).map (fun d => d.parameters.length) = some nA) (hR : (rmc.frames + 1 ≤ R.frames ∧ 8 + (maxL + 11) + rmc.locals ≤ R.locals) ∧ rmc.cells = 0 ∧ rmc.slots = 0 ∧ cells ≤ R.cells ∧ slots ≤ R.slots) (hl : ls.size = nL) {st : List Value} (hst : st = As.reverse ++ rest) (hrest : (rest.map fun v => v.category).sum ≤ 8) (isC isR : List Nat) (wr : List va_W) (sg1 : S → List va_W) (nW : Nat) (hp : (isC ++ isR).Perm (List.range nW)) (hn : sg.length = nW) (hC : pk sg isC = wc) (hRr : pk sg isR = wr) (hn1 : ∀ u, (sg1 u).length = nW) (hC1 : ∀ u, pk (sg1 u) isC = w1 u) (hR1 : ∀ u, pk (sg1 u) isR = wr) (hdg : decode cc pc = .ok (.invokestatic index, 3)) (kk : ∀ (u : S) (H1 : Heap) (locs1 : List Loc), post u → WD D A s.heap (sg1 u) H1 locs1 → W p l e R s m args below meth c H1 locs1 cells slots Q (F0 m (pc + 3) ls (rest))) : W p l e R s m args below meth c H locs cells slots Q (F0 m pc ls st) := by
  subst hst
  have hWP := wd_front Wd hn hp hC hRr
  have hPc : va_P D vwCl wc.flatten H := (WP_left hWP).1
  have hDc : va_D (fun _ => True) wc.flatten := (WP_left hWP).2.weaken (fun _ _ _ _ => trivial)
  have hFc : ∀ q, va_A wc.flatten H.size q → A q := WP_free hWP Wd.2.1 Wd.2.2
  have fb : FrameBlind (va_Pc As (fun U => (U.heap.size = H.size ∧ va_P D vwCl wc.flatten U.heap ∧ va_K D vwCl (tyL cy) U ∧ va_D (fun _ => True) wc.flatten) ∧ SE sa sv (va_A wc.flatten H.size) U U.heap)) := fun a U g mk q => by
    obtain ⟨q0, ⟨q1, qP, qK, qD⟩, qE⟩ := q
    exact ⟨q0, ⟨q1, qP, va_K.moved (u := U) (U := U.calling g mk a) (Vm.Alike.refl U.vm) qK, qD⟩, SE.same (u := U) (U := U.calling g mk a) rfl qE⟩
  refine va_callv (va_runS (As := As) (rest := rest) F (hM H.size) (va_cwS nA F.2.2.2.2 hG hw hR.2.1 hR.2.2.1 hd hR.1) ⟨fb, fun U hU hW => ⟨rfl, ⟨by rw [hU], by rw [hU]; exact hPc, va_K.moved hW.alike K, hDc⟩, by rw [hU]; exact E.go Wd.2.1 hFc hW⟩⟩ rfl hnA hl rfl (lv_room hrest) hdg ⟨hR.2.2.2.1, hR.2.2.2.2⟩) Wd.2.1 (fun q _ h => hFc q h) hFc (fun u t H1 locs1 ht hvm hw hB hz1 hk1 hS => ?_)
  obtain ⟨hP1, hK1, hD1⟩ := hB
  rw [ht] at hP1
  exact kk u H1 locs1 hw (wd_back (hn1 u) hp (hC1 u) (hR1 u) (WP_call hWP hFc hP1 hD1 hk1) hS Wd.2.2)
end ZCS
abbrev rJ0_coder_7d493 : Room := { frames := 0, cells := 0, slots := 0, locals := 0 }
set_option maxHeartbeats 1000000 in
set_option maxRecDepth 100000 in
theorem c_J0_coder_7d493 (l_ : Launch) (D : va_G) (cy : Nat → ClassId) (sa sv : Nat → Nat) (k : Nat) (hk : k < 5) : CTis l_ D cy sa sv yJ0_coder_7d493 wsJ0_coder_7d493 rJ0_coder_7d493 [.ref (sa k)] (([] : List va_W)) (fun (z : Int) (u : Unit) => (z = 0)) (fun (_ : Unit) => ([] : List va_W)) := by
  refine CTis.of RJ0 cJ0_coder_7d493 1 rfl (by decide) rfl (fun z u hz => by rw [hz]; decide +kernel) (Nat.le_of_ble_eq_true rfl) ?_
  intro p_ e_ s_ m_ ar_ be_ me_ c_ Q_ A_ ls_ F_ K_ W_ E_ hl hret
  have hl : lv_has ls_ 1 [(0, .ref (sa k))] := hl
  refine va_gets F_.1 F_.2.1 E_.2.1 W_.2.1 F_.2.2.2.1 (F_.2.2.2.2 _ (List.mem_of_getElem? (i := 1) rfl)) (fun x h => h) dJ0_coder_7d493_0 ?_
  refine lv_if_eq (tgt := 13) F_.1 F_.2.1 dJ0_coder_7d493_3 (by decide) (fun c => absurd c (by decide)) (fun _ => ?_)
  refine lv_aload_n F_.1 F_.2.1 dJ0_coder_7d493_6 rfl (lv_at hl 0 rfl) ?_
  refine vk_getf F_.1 F_.2.1 (E_.1.1 k hk).2.1 W_.2.1 F_.2.2.2.1 (F_.2.2.2.2 _ (List.mem_of_getElem? (i := 2) rfl)) (fun x h => h) dJ0_coder_7d493_7 ?_
  refine z_goto (tgt := 14) F_ dJ0_coder_7d493_10 (by decide) ?_
  exact hret _ _ _ _ 0 () dJ0_coder_7d493_14 rfl W_
abbrev rJ0_isLatin1_aae02 : Room := { frames := 0, cells := 0, slots := 0, locals := 0 }
set_option maxHeartbeats 1000000 in
set_option maxRecDepth 100000 in
theorem c_J0_isLatin1_aae02 (l_ : Launch) (D : va_G) (cy : Nat → ClassId) (sa sv : Nat → Nat) (k : Nat) (hk : k < 5) : CTis l_ D cy sa sv yJ0_isLatin1_aae02 wsJ0_isLatin1_aae02 rJ0_isLatin1_aae02 [.ref (sa k)] (([] : List va_W)) (fun (z : Int) (u : Unit) => (z = 1)) (fun (_ : Unit) => ([] : List va_W)) := by
  refine CTis.of RJ0 cJ0_isLatin1_aae02 1 rfl (by decide) rfl (fun z u hz => by rw [hz]; decide +kernel) (Nat.le_of_ble_eq_true rfl) ?_
  intro p_ e_ s_ m_ ar_ be_ me_ c_ Q_ A_ ls_ F_ K_ W_ E_ hl hret
  have hl : lv_has ls_ 1 [(0, .ref (sa k))] := hl
  refine va_gets F_.1 F_.2.1 E_.2.1 W_.2.1 F_.2.2.2.1 (F_.2.2.2.2 _ (List.mem_of_getElem? (i := 1) rfl)) (fun x h => h) dJ0_isLatin1_aae02_0 ?_
  refine lv_if_eq (tgt := 17) F_.1 F_.2.1 dJ0_isLatin1_aae02_3 (by decide) (fun c => absurd c (by decide)) (fun _ => ?_)
  refine lv_aload_n F_.1 F_.2.1 dJ0_isLatin1_aae02_6 rfl (lv_at hl 0 rfl) ?_
  refine vk_getf F_.1 F_.2.1 (E_.1.1 k hk).2.1 W_.2.1 F_.2.2.2.1 (F_.2.2.2.2 _ (List.mem_of_getElem? (i := 2) rfl)) (fun x h => h) dJ0_isLatin1_aae02_7 ?_
  refine lv_if_ne (tgt := 17) F_.1 F_.2.1 dJ0_isLatin1_aae02_10 (by decide) (fun c => absurd rfl c) (fun _ => ?_)
  refine z_iconst F_ dJ0_isLatin1_aae02_13 ?_
  refine z_goto (tgt := 18) F_ dJ0_isLatin1_aae02_14 (by decide) ?_
  exact hret _ _ _ _ 1 () dJ0_isLatin1_aae02_18 rfl W_
abbrev rJ0_length_8abf5 : Room := { frames := 1, cells := 0, slots := 0, locals := 20 }
set_option maxHeartbeats 1000000 in
set_option maxRecDepth 100000 in
theorem c_J0_length_8abf5 (l_ : Launch) (D : va_G) (cy : Nat → ClassId) (sa sv : Nat → Nat) (k : Nat) (hk : k < 5) : CTis l_ D cy sa sv yJ0_length_8abf5 wsJ0_length_8abf5 rJ0_length_8abf5 [.ref (sa k)] (([] : List va_W)) (fun (z : Int) (u : Unit) => (z = ceL k)) (fun (_ : Unit) => ([] : List va_W)) := by
  refine CTis.of RJ0 cJ0_length_8abf5 1 rfl (by decide) rfl (fun z u hz => rfl) (Nat.le_of_ble_eq_true rfl) ?_
  intro p_ e_ s_ m_ ar_ be_ me_ c_ Q_ A_ ls_ F_ K_ W_ E_ hl hret
  have hl : lv_has ls_ 1 [(0, .ref (sa k))] := hl
  have hb := ceL_b hk
  refine lv_aload_n F_.1 F_.2.1 dJ0_length_8abf5_0 rfl (lv_at hl 0 rfl) ?_
  refine vk_getf F_.1 F_.2.1 (E_.1.1 k hk).2.2.1 W_.2.1 F_.2.2.2.1 (F_.2.2.2.2 _ (List.mem_of_getElem? (i := 1) rfl)) (fun x h => h) dJ0_length_8abf5_1 ?_
  refine va_tlen (v := zi (ceL k)) F_.1 F_.2.1 (E_.1.1 k hk).2.2.2 W_.2.1 (zi_nat _).symm dJ0_length_8abf5_4 ?_
  refine lv_aload_n F_.1 F_.2.1 dJ0_length_8abf5_5 rfl (lv_at hl 0 rfl) ?_
  refine z_callVisp F_ K_ W_ E_ ([] : List Value) (c_J0_coder_7d493 l_ D cy sa sv k hk) 0 rfl gJ0_length_8abf5_J0_coder_7d493 rfl (by decide +kernel) ⟨⟨Nat.le_of_ble_eq_true rfl, Nat.le_of_ble_eq_true rfl⟩, rfl, rfl, Nat.zero_le _, Nat.zero_le _⟩ (vk_recv E_.1 hk W_.2.1) hl.1 rfl (Nat.le_of_ble_eq_true rfl) ([] : List Nat) ([] : List Nat) ([] : List va_W) 0 (by decide +kernel) rfl rfl rfl dJ0_length_8abf5_6 (fun z_1 _ H_ lo_ hw_ W_ => ?_)
  have hz1 : z_1 = 0 := hw_
  subst hz1
  refine z_ishr F_ (by omega) dJ0_length_8abf5_9 ?_
  exact hret _ _ _ _ _ () dJ0_length_8abf5_10 (by rw [zpw_0, Int.ediv_one]) W_
abbrev rJ3_checkIndex_8e157 : Room := { frames := 0, cells := 0, slots := 0, locals := 0 }
set_option maxHeartbeats 1000000 in
set_option maxRecDepth 100000 in
theorem c_J3_checkIndex_8e157 (l_ : Launch) (D : va_G) (cy : Nat → ClassId) (i n : Int) (sf : Value) (hsf : sf = .null ∨ ∃ a, sf = .ref a) (hi : 0 ≤ i ∧ i < n ∧ n ≤ 6) : CTi l_ D cy yJ3_checkIndex_8e157 wsJ3_checkIndex_8e157 rJ3_checkIndex_8e157 [.int (zi i), .int (zi n), sf] (([] : List va_W)) (fun (z : Int) (u : Unit) => (z = i)) (fun (_ : Unit) => ([] : List va_W)) := by
  refine CTi.of RJ3 cJ3_checkIndex_8e157 3 rfl (by decide) rfl (fun z u hz => rfl) (by rcases hsf with rfl | ⟨q, rfl⟩ <;> exact Nat.le_of_ble_eq_true rfl) ?_
  intro p_ e_ s_ m_ ar_ be_ me_ c_ Q_ A_ ls_ F_ K_ W_ hl hret
  have hl : lv_has ls_ 3 [(0, .int (zi i)), (1, .int (zi n)), (2, sf)] := hl
  refine lv_iload_n F_.1 F_.2.1 dJ3_checkIndex_8e157_0 rfl (lv_at hl 0 rfl) ?_
  refine z_if_lt (tgt := 9) F_ (by omega) dJ3_checkIndex_8e157_1 (by decide) (fun c => absurd c (by omega)) (fun _ => ?_)
  refine lv_iload_n F_.1 F_.2.1 dJ3_checkIndex_8e157_4 rfl (lv_at hl 0 rfl) ?_
  refine lv_iload_n F_.1 F_.2.1 dJ3_checkIndex_8e157_5 rfl (lv_at hl 1 rfl) ?_
  refine z_icmp_lt (tgt := 16) F_ (by omega) dJ3_checkIndex_8e157_6 (by decide) (fun _ => ?_) (fun c => absurd c (by omega))
  refine lv_iload_n F_.1 F_.2.1 dJ3_checkIndex_8e157_16 rfl (lv_at hl 0 rfl) ?_
  exact hret _ _ _ _ i () dJ3_checkIndex_8e157_17 rfl W_
abbrev rJ0_checkIndex_df160 : Room := { frames := 1, cells := 0, slots := 0, locals := 22 }
set_option maxHeartbeats 1000000 in
set_option maxRecDepth 100000 in
theorem c_J0_checkIndex_df160 (l_ : Launch) (D : va_G) (cy : Nat → ClassId) (sa sv : Nat → Nat) (i n : Int) (hi : 0 ≤ i ∧ i < n ∧ n ≤ 6) : CTvs l_ D cy sa sv yJ0_checkIndex_df160 wsJ0_checkIndex_df160 rJ0_checkIndex_df160 [.int (zi i), .int (zi n)] (([] : List va_W)) (fun (u : Unit) => (True)) (fun (_ : Unit) => ([] : List va_W)) := by
  refine CTvs.of RJ0 cJ0_checkIndex_df160 2 rfl (by decide) rfl (Nat.le_of_ble_eq_true rfl) ?_
  intro p_ e_ s_ m_ ar_ be_ me_ c_ Q_ A_ ls_ F_ K_ W_ E_ hl hret
  have hl : lv_has ls_ 2 [(0, .int (zi i)), (1, .int (zi n))] := hl
  refine lv_iload_n F_.1 F_.2.1 dJ0_checkIndex_df160_0 rfl (lv_at hl 0 rfl) ?_
  refine lv_iload_n F_.1 F_.2.1 dJ0_checkIndex_df160_1 rfl (lv_at hl 1 rfl) ?_
  obtain ⟨sf, hsf, hsz⟩ := E_.2.2.1
  refine va_gets F_.1 F_.2.1 hsz W_.2.1 F_.2.2.2.1 (F_.2.2.2.2 _ (List.mem_of_getElem? (i := 1) rfl)) (fun x h => h) dJ0_checkIndex_df160_2 ?_
  refine z_callSip F_ K_ W_  [.int (zi i), .int (zi n), sf] (c_J3_checkIndex_8e157 l_ D cy i n sf hsf hi) 3 rfl gJ0_checkIndex_df160_J3_checkIndex_8e157 rfl (by decide +kernel) ⟨⟨Nat.le_of_ble_eq_true rfl, Nat.le_of_ble_eq_true rfl⟩, rfl, rfl, Nat.zero_le _, Nat.zero_le _⟩ hl.1 rfl (Nat.le_of_ble_eq_true rfl) ([] : List Nat) ([] : List Nat) ([] : List va_W) 0 (by decide +kernel) rfl rfl rfl dJ0_checkIndex_df160_5 (fun z_1 _ H_ lo_ hw_ W_ => ?_)
  refine lv_pop F_.1 F_.2.1 dJ0_checkIndex_df160_8 rfl ?_
  exact hret _ _ _ _ () dJ0_checkIndex_df160_9 trivial W_
abbrev rJ1_charAt_3b067 : Room := { frames := 2, cells := 0, slots := 0, locals := 43 }
set_option maxHeartbeats 1000000 in
set_option maxRecDepth 100000 in
theorem c_J1_charAt_3b067 (l_ : Launch) (D : va_G) (cy : Nat → ClassId) (sa sv : Nat → Nat) (k : Nat) (hk : k < 5) (i : Int) (hi : 0 ≤ i ∧ i < ceL k) : CTis l_ D cy sa sv yJ1_charAt_3b067 wsJ1_charAt_3b067 rJ1_charAt_3b067 [.ref (sv k), .int (zi i)] (([] : List va_W)) (fun (z : Int) (u : Unit) => (z = ceC k i)) (fun (_ : Unit) => ([] : List va_W)) := by
  refine CTis.of RJ1 cJ1_charAt_3b067 2 rfl (by decide) rfl (fun z u hz => by rw [hz]; exact zi_narC (ceC_b hk hi)) (Nat.le_of_ble_eq_true rfl) ?_
  intro p_ e_ s_ m_ ar_ be_ me_ c_ Q_ A_ ls_ F_ K_ W_ E_ hl hret
  have hl : lv_has ls_ 2 [(0, .ref (sv k)), (1, .int (zi i))] := hl
  have hb := ceL_b hk
  have hcb := ceC_b hk hi
  refine lv_iload_n F_.1 F_.2.1 dJ1_charAt_3b067_0 rfl (lv_at hl 1 rfl) ?_
  refine lv_aload_n F_.1 F_.2.1 dJ1_charAt_3b067_1 rfl (lv_at hl 0 rfl) ?_
  refine va_tlen (v := zi (ceL k)) F_.1 F_.2.1 (E_.1.1 k hk).2.2.2 W_.2.1 (zi_nat _).symm dJ1_charAt_3b067_2 ?_
  refine z_callSvs F_ K_ W_ E_ [.int (zi i), .int (zi (ceL k))] (c_J0_checkIndex_df160 l_ D cy sa sv i (ceL k) (by omega)) 2 rfl gJ1_charAt_3b067_J0_checkIndex_df160 rfl (by decide +kernel) ⟨⟨Nat.le_of_ble_eq_true rfl, Nat.le_of_ble_eq_true rfl⟩, rfl, rfl, Nat.zero_le _, Nat.zero_le _⟩ hl.1 rfl (Nat.le_of_ble_eq_true rfl) ([] : List Nat) ([] : List Nat) ([] : List va_W) (fun (_ : Unit) => ([] : List va_W)) 0 (by decide +kernel) rfl rfl rfl (fun _ => rfl) (fun _ => rfl) (fun _ => rfl) dJ1_charAt_3b067_3 (fun _ H_ lo_ hw_ W_ => ?_)
  refine lv_aload_n F_.1 F_.2.1 dJ1_charAt_3b067_6 rfl (lv_at hl 0 rfl) ?_
  refine lv_iload_n F_.1 F_.2.1 dJ1_charAt_3b067_7 rfl (lv_at hl 1 rfl) ?_
  refine va_tb (v := .int (zi (ceC k i))) F_.1 F_.2.1 (E_.1.1 k hk).2.2.2 W_.2.1 (zi_in ⟨hi.1, hi.2⟩ (by unfold ceL at hb; omega)) (by rw [zi_clamp ⟨hi.1, by omega⟩, ceC_i]) dJ1_charAt_3b067_8 ?_
  refine z_sipush F_ (by decide) dJ1_charAt_3b067_9 ?_
  refine lv_iand F_.1 F_.2.1 dJ1_charAt_3b067_12 ?_
  refine lv_i2c F_.1 F_.2.1 dJ1_charAt_3b067_13 (zi_chr hcb) ?_
  exact hret _ _ _ _ (ceC k i) () dJ1_charAt_3b067_14 rfl W_
abbrev rJ0_charAt_5068e : Room := { frames := 3, cells := 0, slots := 0, locals := 64 }
set_option maxHeartbeats 1000000 in
set_option maxRecDepth 100000 in
theorem c_J0_charAt_5068e (l_ : Launch) (D : va_G) (cy : Nat → ClassId) (sa sv : Nat → Nat) (k : Nat) (i : Int) (hk : k < 5) (hi : 0 ≤ i ∧ i < ceL k) : CTis l_ D cy sa sv yJ0_charAt_5068e wsJ0_charAt_5068e rJ0_charAt_5068e [.ref (sa k), .int (zi i)] (([] : List va_W)) (fun (z : Int) (u : Unit) => (z = ceC k i)) (fun (_ : Unit) => ([] : List va_W)) := by
  refine CTis.of RJ0 cJ0_charAt_5068e 2 rfl (by decide) rfl (fun z u hz => by rw [hz]; exact zi_narC (ceC_b hk hi)) (Nat.le_of_ble_eq_true rfl) ?_
  intro p_ e_ s_ m_ ar_ be_ me_ c_ Q_ A_ ls_ F_ K_ W_ E_ hl hret
  have hl : lv_has ls_ 2 [(0, .ref (sa k)), (1, .int (zi i))] := hl
  refine lv_aload_n F_.1 F_.2.1 dJ0_charAt_5068e_0 rfl (lv_at hl 0 rfl) ?_
  refine z_callVisp F_ K_ W_ E_ ([] : List Value) (c_J0_isLatin1_aae02 l_ D cy sa sv k hk) 0 rfl gJ0_charAt_5068e_J0_isLatin1_aae02 rfl (by decide +kernel) ⟨⟨Nat.le_of_ble_eq_true rfl, Nat.le_of_ble_eq_true rfl⟩, rfl, rfl, Nat.zero_le _, Nat.zero_le _⟩ (vk_recv E_.1 hk W_.2.1) hl.1 rfl (Nat.le_of_ble_eq_true rfl) ([] : List Nat) ([] : List Nat) ([] : List va_W) 0 (by decide +kernel) rfl rfl rfl dJ0_charAt_5068e_1 (fun z_1 _ H_ lo_ hw_ W_ => ?_)
  have hz1 : z_1 = 1 := hw_
  subst hz1
  refine z_if_eq (tgt := 16) F_ (by omega) dJ0_charAt_5068e_4 (by decide) (fun c => absurd c (by decide)) (fun _ => ?_)
  refine lv_aload_n F_.1 F_.2.1 dJ0_charAt_5068e_7 rfl (lv_at hl 0 rfl) ?_
  refine vk_getf F_.1 F_.2.1 (E_.1.1 k hk).2.2.1 W_.2.1 F_.2.2.2.1 (F_.2.2.2.2 _ (List.mem_of_getElem? (i := 1) rfl)) (fun x h => h) dJ0_charAt_5068e_8 ?_
  refine lv_iload_n F_.1 F_.2.1 dJ0_charAt_5068e_11 rfl (lv_at hl 1 rfl) ?_
  refine z_callSisp F_ K_ W_ E_ [.ref (sv k), .int (zi i)] (c_J1_charAt_3b067 l_ D cy sa sv k hk i hi) 2 rfl gJ0_charAt_5068e_J1_charAt_3b067 rfl (by decide +kernel) ⟨⟨Nat.le_of_ble_eq_true rfl, Nat.le_of_ble_eq_true rfl⟩, rfl, rfl, Nat.zero_le _, Nat.zero_le _⟩ hl.1 rfl (Nat.le_of_ble_eq_true rfl) ([] : List Nat) ([] : List Nat) ([] : List va_W) 0 (by decide +kernel) rfl rfl rfl dJ0_charAt_5068e_12 (fun z_2 _ H_ lo_ hw_ W_ => ?_)
  exact hret _ _ _ _ z_2 () dJ0_charAt_5068e_15 hw_ W_
