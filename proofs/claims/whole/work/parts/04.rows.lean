theorem z_b0 : (-2147483648 : Int) ≤ 0 ∧ (0 : Int) < 2147483648 := ⟨by decide, by decide⟩
theorem zi_m31 {k : Int} (h : 0 ≤ k ∧ k < 32) : zi k &&& 31 = zi k := by
  have key : ∀ j : Nat, j < 32 → nI j &&& 31 = nI j := by decide +kernel
  rw [zi_bv h.1]
  exact key _ (by omega)
theorem zi_narB {v : Int} (h : 0 ≤ v ∧ v < 128) : vp_nar .byte (zi v) = zi v := by
  have key : ∀ j : Nat, j < 128 → vp_nar .byte (nI j) = nI j := by decide +kernel
  rw [zi_bv h.1]
  exact key _ (by omega)
theorem zi_narZ {v : Int} (h : v = 0 ∨ v = 1) : vp_nar .boolean (zi v) = zi v := by
  rcases h with rfl | rfl <;> decide +kernel
theorem zi_min {x y : Int} (h : (-2147483648 ≤ x ∧ x < 2147483648) ∧ (-2147483648 ≤ y ∧ y < 2147483648)) : (if zi y < zi x then zi y else zi x) = zi (min x y) := by
  by_cases q : y < x
  · rw [if_pos ((zi_lt ⟨h.2, h.1⟩).mpr q)]
    congr 1
    omega
  · rw [if_neg (fun z => q ((zi_lt ⟨h.2, h.1⟩).mp z))]
    congr 1
    omega
theorem zi_max {x y : Int} (h : (-2147483648 ≤ x ∧ x < 2147483648) ∧ (-2147483648 ≤ y ∧ y < 2147483648)) : (if zi x < zi y then zi y else zi x) = zi (max x y) := by
  by_cases q : x < y
  · rw [if_pos ((zi_lt h).mpr q)]
    congr 1
    omega
  · rw [if_neg (fun z => q ((zi_lt h).mp z))]
    congr 1
    omega
theorem zi_nneg {x : Int} (h : 0 ≤ x ∧ x < 2147483648) : ¬ zi x < 0 := fun q => by
  have := (zi_lt (b := 0) ⟨⟨by omega, by omega⟩, z_b0⟩).mp q
  omega
def zcp (f g : Int → Int) (sp dp n : Int) : Int → Int := fun j => if dp ≤ j ∧ j < dp + n then f (sp + (j - dp)) else g j
theorem zcp_in (f g : Int → Int) {sp dp n j : Int} (h : dp ≤ j ∧ j < dp + n) : zcp f g sp dp n j = f (sp + (j - dp)) := by simp only [zcp, if_pos h]
theorem zcp_out (f g : Int → Int) {sp dp n j : Int} (h : ¬ (dp ≤ j ∧ j < dp + n)) : zcp f g sp dp n j = g j := by simp only [zcp, if_neg h]
theorem zcp_b {f g : Int → Int} {sp dp n lo hi : Int} (hf : ∀ j, lo ≤ f j ∧ f j ≤ hi) (hg : ∀ j, lo ≤ g j ∧ g j ≤ hi) : ∀ j, lo ≤ zcp f g sp dp n j ∧ zcp f g sp dp n j ≤ hi := by
  intro j
  unfold zcp
  split
  · exact hf _
  · exact hg _
theorem zA_cpy {f g : Int → Int} {sp dp n : Int} (h : 0 ≤ sp ∧ 0 ≤ dp ∧ 0 ≤ n) : va_cpy (zA f) (zA g) sp.toNat dp.toNat n.toNat = zA (zcp f g sp dp n) := by
  funext k
  by_cases q : dp.toNat ≤ k ∧ k < dp.toNat + n.toNat
  · simp only [va_cpy, if_pos q, zA]
    rw [zcp_in _ _ (by omega)]
    congr 2
    omega
  · simp only [va_cpy, if_neg q, zA]
    rw [zcp_out _ _ (by omega)]
theorem z_bool {z : Int} (h : z = 0 ∨ z = 1) : narrow .boolean (.int (zi z)) = .int (zi z) := by
  rcases h with rfl | rfl <;> decide +kernel
theorem zl_inj {a b : Int} (h : (-9223372036854775808 ≤ a ∧ a < 9223372036854775808) ∧ (-9223372036854775808 ≤ b ∧ b < 9223372036854775808)) : zl a = zl b ↔ a = b := by
  rw [← Int64.toInt_inj, zl_toInt h.1, zl_toInt h.2]
theorem zl_lt {a b : Int} (h : (-9223372036854775808 ≤ a ∧ a < 9223372036854775808) ∧ (-9223372036854775808 ≤ b ∧ b < 9223372036854775808)) : zl a < zl b ↔ a < b := by
  rw [Int64.lt_iff_toInt_lt, zl_toInt h.1, zl_toInt h.2]
theorem zl_cmp {x y : Int} (h : (-9223372036854775808 ≤ x ∧ x < 9223372036854775808) ∧ (-9223372036854775808 ≤ y ∧ y < 9223372036854775808)) : lg_cmp (zl x) (zl y) = zi (if y < x then 1 else if x = y then 0 else -1) := by
  unfold lg_cmp
  simp only [gt_iff_lt, zl_lt ⟨h.2, h.1⟩, zl_inj h]
  split
  · rfl
  · split <;> rfl
section ZR
variable {p : Program} {l : Launch} {e : Env} {R : Room} {s : State} {m : MethodId} {args : Array Value} {below : List Frame} {meth : Method} {c : Code} {H : Heap} {locs : List Loc} {cells slots : Nat} {Q : State → Prop} {cc : ByteArray} {pc : Nat} {ls : Array Slot} {rest : List Value} {nL : Nat} {Ts : List Cond} {own : String} {D : va_G} {A : Nat → Prop} {H0 : Heap} {sg : List va_W} {cy : Nat → ClassId}
theorem z_iconst (F : CallFix p m c cc nL s args Ts own) {n : Int} (hdg : decode cc pc = .ok (.iconst n, 1)) (k : W p l e R s m args below meth c H locs cells slots Q (F0 m (pc + 1) ls (.int (zi n) :: rest))) : W p l e R s m args below meth c H locs cells slots Q (F0 m pc ls (rest)) := lv_iconst F.1 F.2.1 hdg rfl k
theorem z_bipush (F : CallFix p m c cc nL s args Ts own) {n : Int} (hn : (Int8.ofInt n).toInt32 = zi n) (hdg : decode cc pc = .ok (.bipush n, 2)) (k : W p l e R s m args below meth c H locs cells slots Q (F0 m (pc + 2) ls (.int (zi n) :: rest))) : W p l e R s m args below meth c H locs cells slots Q (F0 m pc ls (rest)) := lv_bipush F.1 F.2.1 hdg hn k
theorem z_sipush (F : CallFix p m c cc nL s args Ts own) {n : Int} (hn : (Int16.ofInt n).toInt32 = zi n) (hdg : decode cc pc = .ok (.sipush n, 3)) (k : W p l e R s m args below meth c H locs cells slots Q (F0 m (pc + 3) ls (.int (zi n) :: rest))) : W p l e R s m args below meth c H locs cells slots Q (F0 m pc ls (rest)) := lv_sipush F.1 F.2.1 hdg hn k
theorem z_lconst (F : CallFix p m c cc nL s args Ts own) {n : Fin 2} {z : Int} (hn : Int64.ofNat (n : Nat) = zl z) (hdg : decode cc pc = .ok (.lconst n, 1)) (k : W p l e R s m args below meth c H locs cells slots Q (F0 m (pc + 1) ls (.long (zl z) :: rest))) : W p l e R s m args below meth c H locs cells slots Q (F0 m pc ls (rest)) := lv_lconst F.1 F.2.1 hdg hn k
theorem z_ldc (F : CallFix p m c cc nL s args Ts own) {index : Nat} {v : Int32} {z : Int} (hc : (Cond.constant own index v).before args s = true) (hv : v = zi z) (hdg : decode cc pc = .ok (.ldc index, 2)) (k : W p l e R s m args below meth c H locs cells slots Q (F0 m (pc + 2) ls (.int (zi z) :: rest))) : W p l e R s m args below meth c H locs cells slots Q (F0 m pc ls (rest)) := lv_ldc F.1 F.2.1 F.2.2.2.1 (hv ▸ hc) hdg k
theorem z_ldcw (F : CallFix p m c cc nL s args Ts own) {index : Nat} {v : Int32} {z : Int} (hc : (Cond.constant own index v).before args s = true) (hv : v = zi z) (hdg : decode cc pc = .ok (.ldc_w index, 3)) (k : W p l e R s m args below meth c H locs cells slots Q (F0 m (pc + 3) ls (.int (zi z) :: rest))) : W p l e R s m args below meth c H locs cells slots Q (F0 m pc ls (rest)) := by subst hv; exact lv_ldcw F.1 F.2.1 F.2.2.2.1 hc hdg k
theorem z_ldc2 (F : CallFix p m c cc nL s args Ts own) {index : Nat} {v : Int64} {z : Int} (hc : (Cond.constantLong own index v).before args s = true) (hv : v = zl z) (hdg : decode cc pc = .ok (.ldc2_w index, 3)) (k : W p l e R s m args below meth c H locs cells slots Q (F0 m (pc + 3) ls (.long (zl z) :: rest))) : W p l e R s m args below meth c H locs cells slots Q (F0 m pc ls (rest)) := lv_ldc2 F.1 F.2.1 F.2.2.2.1 (hv ▸ hc) hdg k
theorem z_iadd (F : CallFix p m c cc nL s args Ts own) {x y : Int} (hdg : decode cc pc = .ok (.iadd, 1)) (k : W p l e R s m args below meth c H locs cells slots Q (F0 m (pc + 1) ls (.int (zi (x + y)) :: rest))) : W p l e R s m args below meth c H locs cells slots Q (F0 m pc ls (.int (zi y) :: .int (zi x) :: rest)) := lv_iadd F.1 F.2.1 hdg (by rw [zi_add]; exact k)
theorem z_isub (F : CallFix p m c cc nL s args Ts own) {x y : Int} (hdg : decode cc pc = .ok (.isub, 1)) (k : W p l e R s m args below meth c H locs cells slots Q (F0 m (pc + 1) ls (.int (zi (x - y)) :: rest))) : W p l e R s m args below meth c H locs cells slots Q (F0 m pc ls (.int (zi y) :: .int (zi x) :: rest)) := lv_isub F.1 F.2.1 hdg (by rw [zi_sub]; exact k)
theorem z_imul (F : CallFix p m c cc nL s args Ts own) {x y : Int} (hdg : decode cc pc = .ok (.imul, 1)) (k : W p l e R s m args below meth c H locs cells slots Q (F0 m (pc + 1) ls (.int (zi (x * y)) :: rest))) : W p l e R s m args below meth c H locs cells slots Q (F0 m pc ls (.int (zi y) :: .int (zi x) :: rest)) := lv_imul F.1 F.2.1 hdg (by rw [zi_mul]; exact k)
theorem z_ladd (F : CallFix p m c cc nL s args Ts own) {x y : Int} (hdg : decode cc pc = .ok (.ladd, 1)) (k : W p l e R s m args below meth c H locs cells slots Q (F0 m (pc + 1) ls (.long (zl (x + y)) :: rest))) : W p l e R s m args below meth c H locs cells slots Q (F0 m pc ls (.long (zl y) :: .long (zl x) :: rest)) := lv_ladd F.1 F.2.1 hdg (by rw [zl_add]; exact k)
theorem z_lsub (F : CallFix p m c cc nL s args Ts own) {x y : Int} (hdg : decode cc pc = .ok (.lsub, 1)) (k : W p l e R s m args below meth c H locs cells slots Q (F0 m (pc + 1) ls (.long (zl (x - y)) :: rest))) : W p l e R s m args below meth c H locs cells slots Q (F0 m pc ls (.long (zl y) :: .long (zl x) :: rest)) := lv_lsub F.1 F.2.1 hdg (by rw [zl_sub]; exact k)
theorem z_lmul (F : CallFix p m c cc nL s args Ts own) {x y : Int} (hdg : decode cc pc = .ok (.lmul, 1)) (k : W p l e R s m args below meth c H locs cells slots Q (F0 m (pc + 1) ls (.long (zl (x * y)) :: rest))) : W p l e R s m args below meth c H locs cells slots Q (F0 m pc ls (.long (zl y) :: .long (zl x) :: rest)) := lv_lmul F.1 F.2.1 hdg (by rw [zl_mul]; exact k)
theorem z_idiv (F : CallFix p m c cc nL s args Ts own) {x y : Int} (h : (0 ≤ x ∧ x < 2147483648) ∧ (0 < y ∧ y < 2147483648)) (hdg : decode cc pc = .ok (.idiv, 1)) (k : W p l e R s m args below meth c H locs cells slots Q (F0 m (pc + 1) ls (.int (zi (x / y)) :: rest))) : W p l e R s m args below meth c H locs cells slots Q (F0 m pc ls (.int (zi y) :: .int (zi x) :: rest)) := lv_idiv F.1 F.2.1 hdg (zi_ne0 h.2) (by rw [zi_div h]; exact k)
theorem z_irem (F : CallFix p m c cc nL s args Ts own) {x y : Int} (h : (0 ≤ x ∧ x < 2147483648) ∧ (0 < y ∧ y < 2147483648)) (hdg : decode cc pc = .ok (.irem, 1)) (k : W p l e R s m args below meth c H locs cells slots Q (F0 m (pc + 1) ls (.int (zi (x % y)) :: rest))) : W p l e R s m args below meth c H locs cells slots Q (F0 m pc ls (.int (zi y) :: .int (zi x) :: rest)) := lv_irem F.1 F.2.1 hdg (zi_ne0 h.2) (by rw [zi_rem h]; exact k)
theorem z_ldiv (F : CallFix p m c cc nL s args Ts own) {x y : Int} (h : (0 ≤ x ∧ x < 9223372036854775808) ∧ (0 < y ∧ y < 9223372036854775808)) (hdg : decode cc pc = .ok (.ldiv, 1)) (k : W p l e R s m args below meth c H locs cells slots Q (F0 m (pc + 1) ls (.long (zl (x / y)) :: rest))) : W p l e R s m args below meth c H locs cells slots Q (F0 m pc ls (.long (zl y) :: .long (zl x) :: rest)) := lv_ldiv F.1 F.2.1 hdg (zl_ne0 h.2) (by rw [zl_div h]; exact k)
theorem z_lrem (F : CallFix p m c cc nL s args Ts own) {x y : Int} (h : (0 ≤ x ∧ x < 9223372036854775808) ∧ (0 < y ∧ y < 9223372036854775808)) (hdg : decode cc pc = .ok (.lrem, 1)) (k : W p l e R s m args below meth c H locs cells slots Q (F0 m (pc + 1) ls (.long (zl (x % y)) :: rest))) : W p l e R s m args below meth c H locs cells slots Q (F0 m pc ls (.long (zl y) :: .long (zl x) :: rest)) := lv_lrem F.1 F.2.1 hdg (zl_ne0 h.2) (by rw [zl_rem h]; exact k)
theorem z_i2l (F : CallFix p m c cc nL s args Ts own) {x : Int} (h : -2147483648 ≤ x ∧ x < 2147483648) (hdg : decode cc pc = .ok (.i2l, 1)) (k : W p l e R s m args below meth c H locs cells slots Q (F0 m (pc + 1) ls (.long (zl x) :: rest))) : W p l e R s m args below meth c H locs cells slots Q (F0 m pc ls (.int (zi x) :: rest)) := lv_i2l F.1 F.2.1 hdg (zi_l h) k
theorem z_l2i (F : CallFix p m c cc nL s args Ts own) {x : Int} (h : -2147483648 ≤ x ∧ x < 2147483648) (hdg : decode cc pc = .ok (.l2i, 1)) (k : W p l e R s m args below meth c H locs cells slots Q (F0 m (pc + 1) ls (.int (zi x) :: rest))) : W p l e R s m args below meth c H locs cells slots Q (F0 m pc ls (.long (zl x) :: rest)) := lv_l2i F.1 F.2.1 hdg (zl_i h) k
theorem z_iand (F : CallFix p m c cc nL s args Ts own) {x y : Int} (h : (0 ≤ x ∧ x < 2147483648) ∧ (0 ≤ y ∧ y < 2147483648)) (hdg : decode cc pc = .ok (.iand, 1)) (k : W p l e R s m args below meth c H locs cells slots Q (F0 m (pc + 1) ls (.int (zi (zand x y)) :: rest))) : W p l e R s m args below meth c H locs cells slots Q (F0 m pc ls (.int (zi y) :: .int (zi x) :: rest)) := lv_iand F.1 F.2.1 hdg (by rw [zi_and h]; exact k)
theorem z_ior (F : CallFix p m c cc nL s args Ts own) {x y : Int} (h : (0 ≤ x ∧ x < 2147483648) ∧ (0 ≤ y ∧ y < 2147483648)) (hdg : decode cc pc = .ok (.ior, 1)) (k : W p l e R s m args below meth c H locs cells slots Q (F0 m (pc + 1) ls (.int (zi (zor x y)) :: rest))) : W p l e R s m args below meth c H locs cells slots Q (F0 m pc ls (.int (zi y) :: .int (zi x) :: rest)) := lv_ior F.1 F.2.1 hdg (by rw [zi_or h]; exact k)
theorem z_ixor (F : CallFix p m c cc nL s args Ts own) {x y : Int} (h : (0 ≤ x ∧ x < 2147483648) ∧ (0 ≤ y ∧ y < 2147483648)) (hdg : decode cc pc = .ok (.ixor, 1)) (k : W p l e R s m args below meth c H locs cells slots Q (F0 m (pc + 1) ls (.int (zi (zxor x y)) :: rest))) : W p l e R s m args below meth c H locs cells slots Q (F0 m pc ls (.int (zi y) :: .int (zi x) :: rest)) := lv_ixor F.1 F.2.1 hdg (by rw [zi_xor h]; exact k)
theorem z_ishr (F : CallFix p m c cc nL s args Ts own) {x y : Int} (h : (0 ≤ x ∧ x < 2147483648) ∧ (0 ≤ y ∧ y < 32)) (hdg : decode cc pc = .ok (.ishr, 1)) (k : W p l e R s m args below meth c H locs cells slots Q (F0 m (pc + 1) ls (.int (zi (x / zpw y)) :: rest))) : W p l e R s m args below meth c H locs cells slots Q (F0 m pc ls (.int (zi y) :: .int (zi x) :: rest)) := lv_ishr F.1 F.2.1 hdg (by rw [zi_m31 h.2, zi_shr h]; exact k)
theorem z_ishl (F : CallFix p m c cc nL s args Ts own) {x y : Int} (h : (0 ≤ x ∧ x * zpw y < 2147483648) ∧ (0 ≤ y ∧ y < 32)) (hdg : decode cc pc = .ok (.ishl, 1)) (k : W p l e R s m args below meth c H locs cells slots Q (F0 m (pc + 1) ls (.int (zi (x * zpw y)) :: rest))) : W p l e R s m args below meth c H locs cells slots Q (F0 m pc ls (.int (zi y) :: .int (zi x) :: rest)) := lv_ishl F.1 F.2.1 hdg (by rw [zi_m31 h.2, zi_shl h]; exact k)
theorem z_icmp_eq (F : CallFix p m c cc nL s args Ts own) {x y : Int} {off : Int} {tgt : Nat} (h : ((-2147483648 ≤ x ∧ x < 2147483648) ∧ (-2147483648 ≤ y ∧ y < 2147483648))) (hdg : decode cc pc = .ok (.if_icmp .eq off, 3)) (ht : (pc : Int) + off = (tgt : Int)) (kt : x = y → W p l e R s m args below meth c H locs cells slots Q (F0 m tgt ls rest)) (kf : ¬ x = y → W p l e R s m args below meth c H locs cells slots Q (F0 m (pc + 3) ls rest)) : W p l e R s m args below meth c H locs cells slots Q (F0 m pc ls (.int (zi y) :: .int (zi x) :: rest)) := by
  refine lv_icmp_eq F.1 F.2.1 hdg ht (fun q => ?_) (fun q => ?_)
  · exact kt (by first | exact (zi_inj h).mp q | exact (zi_inj h).mp (by simpa using q))
  · exact kf ((fun z => z) (fun z => q ((zi_inj h).mpr z)))
theorem z_if_eq (F : CallFix p m c cc nL s args Ts own) {x : Int} {off : Int} {tgt : Nat} (h : (-2147483648 ≤ x ∧ x < 2147483648)) (hdg : decode cc pc = .ok (.ifCond .eq off, 3)) (ht : (pc : Int) + off = (tgt : Int)) (kt : x = 0 → W p l e R s m args below meth c H locs cells slots Q (F0 m tgt ls rest)) (kf : ¬ x = 0 → W p l e R s m args below meth c H locs cells slots Q (F0 m (pc + 3) ls rest)) : W p l e R s m args below meth c H locs cells slots Q (F0 m pc ls (.int (zi x) :: rest)) := by
  refine lv_if_eq F.1 F.2.1 hdg ht (fun q => ?_) (fun q => ?_)
  · exact kt (by first | exact (zi_inj ⟨h, z_b0⟩).mp q | exact (zi_inj ⟨h, z_b0⟩).mp (by simpa using q))
  · exact kf ((fun z => z) (fun z => q ((zi_inj ⟨h, z_b0⟩).mpr z)))
theorem z_icmp_ne (F : CallFix p m c cc nL s args Ts own) {x y : Int} {off : Int} {tgt : Nat} (h : ((-2147483648 ≤ x ∧ x < 2147483648) ∧ (-2147483648 ≤ y ∧ y < 2147483648))) (hdg : decode cc pc = .ok (.if_icmp .ne off, 3)) (ht : (pc : Int) + off = (tgt : Int)) (kt : ¬ x = y → W p l e R s m args below meth c H locs cells slots Q (F0 m tgt ls rest)) (kf : x = y → W p l e R s m args below meth c H locs cells slots Q (F0 m (pc + 3) ls rest)) : W p l e R s m args below meth c H locs cells slots Q (F0 m pc ls (.int (zi y) :: .int (zi x) :: rest)) := by
  refine lv_icmp_ne F.1 F.2.1 hdg ht (fun q => ?_) (fun q => ?_)
  · exact kt (by first | exact (not_congr (zi_inj h)).mp q | exact (not_congr (zi_inj h)).mp (by simpa using q))
  · exact kf ((zi_inj h).mp q)
theorem z_if_ne (F : CallFix p m c cc nL s args Ts own) {x : Int} {off : Int} {tgt : Nat} (h : (-2147483648 ≤ x ∧ x < 2147483648)) (hdg : decode cc pc = .ok (.ifCond .ne off, 3)) (ht : (pc : Int) + off = (tgt : Int)) (kt : ¬ x = 0 → W p l e R s m args below meth c H locs cells slots Q (F0 m tgt ls rest)) (kf : x = 0 → W p l e R s m args below meth c H locs cells slots Q (F0 m (pc + 3) ls rest)) : W p l e R s m args below meth c H locs cells slots Q (F0 m pc ls (.int (zi x) :: rest)) := by
  refine lv_if_ne F.1 F.2.1 hdg ht (fun q => ?_) (fun q => ?_)
  · exact kt (by first | exact (not_congr (zi_inj ⟨h, z_b0⟩)).mp q | exact (not_congr (zi_inj ⟨h, z_b0⟩)).mp (by simpa using q))
  · exact kf ((zi_inj ⟨h, z_b0⟩).mp q)
theorem z_icmp_lt (F : CallFix p m c cc nL s args Ts own) {x y : Int} {off : Int} {tgt : Nat} (h : ((-2147483648 ≤ x ∧ x < 2147483648) ∧ (-2147483648 ≤ y ∧ y < 2147483648))) (hdg : decode cc pc = .ok (.if_icmp .lt off, 3)) (ht : (pc : Int) + off = (tgt : Int)) (kt : x < y → W p l e R s m args below meth c H locs cells slots Q (F0 m tgt ls rest)) (kf : y ≤ x → W p l e R s m args below meth c H locs cells slots Q (F0 m (pc + 3) ls rest)) : W p l e R s m args below meth c H locs cells slots Q (F0 m pc ls (.int (zi y) :: .int (zi x) :: rest)) := by
  refine lv_icmp_lt F.1 F.2.1 hdg ht (fun q => ?_) (fun q => ?_)
  · exact kt (by first | exact (zi_lt h).mp q | exact (zi_lt h).mp (by simpa using q))
  · exact kf ((fun z => Int.not_lt.mp z) (fun z => q ((zi_lt h).mpr z)))
theorem z_if_lt (F : CallFix p m c cc nL s args Ts own) {x : Int} {off : Int} {tgt : Nat} (h : (-2147483648 ≤ x ∧ x < 2147483648)) (hdg : decode cc pc = .ok (.ifCond .lt off, 3)) (ht : (pc : Int) + off = (tgt : Int)) (kt : x < 0 → W p l e R s m args below meth c H locs cells slots Q (F0 m tgt ls rest)) (kf : 0 ≤ x → W p l e R s m args below meth c H locs cells slots Q (F0 m (pc + 3) ls rest)) : W p l e R s m args below meth c H locs cells slots Q (F0 m pc ls (.int (zi x) :: rest)) := by
  refine lv_if_lt F.1 F.2.1 hdg ht (fun q => ?_) (fun q => ?_)
  · exact kt (by first | exact (zi_lt ⟨h, z_b0⟩).mp q | exact (zi_lt ⟨h, z_b0⟩).mp (by simpa using q))
  · exact kf ((fun z => Int.not_lt.mp z) (fun z => q ((zi_lt ⟨h, z_b0⟩).mpr z)))
theorem z_icmp_ge (F : CallFix p m c cc nL s args Ts own) {x y : Int} {off : Int} {tgt : Nat} (h : ((-2147483648 ≤ x ∧ x < 2147483648) ∧ (-2147483648 ≤ y ∧ y < 2147483648))) (hdg : decode cc pc = .ok (.if_icmp .ge off, 3)) (ht : (pc : Int) + off = (tgt : Int)) (kt : y ≤ x → W p l e R s m args below meth c H locs cells slots Q (F0 m tgt ls rest)) (kf : x < y → W p l e R s m args below meth c H locs cells slots Q (F0 m (pc + 3) ls rest)) : W p l e R s m args below meth c H locs cells slots Q (F0 m pc ls (.int (zi y) :: .int (zi x) :: rest)) := by
  refine lv_icmp_ge F.1 F.2.1 hdg ht (fun q => ?_) (fun q => ?_)
  · exact kt (by first | exact (zi_le ⟨h.2, h.1⟩).mp q | exact (zi_le ⟨h.2, h.1⟩).mp (by simpa using q))
  · exact kf ((fun z => Int.not_le.mp z) (fun z => q ((zi_le ⟨h.2, h.1⟩).mpr z)))
theorem z_if_ge (F : CallFix p m c cc nL s args Ts own) {x : Int} {off : Int} {tgt : Nat} (h : (-2147483648 ≤ x ∧ x < 2147483648)) (hdg : decode cc pc = .ok (.ifCond .ge off, 3)) (ht : (pc : Int) + off = (tgt : Int)) (kt : 0 ≤ x → W p l e R s m args below meth c H locs cells slots Q (F0 m tgt ls rest)) (kf : x < 0 → W p l e R s m args below meth c H locs cells slots Q (F0 m (pc + 3) ls rest)) : W p l e R s m args below meth c H locs cells slots Q (F0 m pc ls (.int (zi x) :: rest)) := by
  refine lv_if_ge F.1 F.2.1 hdg ht (fun q => ?_) (fun q => ?_)
  · exact kt (by first | exact (zi_le ⟨z_b0, h⟩).mp q | exact (zi_le ⟨z_b0, h⟩).mp (by simpa using q))
  · exact kf ((fun z => Int.not_le.mp z) (fun z => q ((zi_le ⟨z_b0, h⟩).mpr z)))
theorem z_icmp_gt (F : CallFix p m c cc nL s args Ts own) {x y : Int} {off : Int} {tgt : Nat} (h : ((-2147483648 ≤ x ∧ x < 2147483648) ∧ (-2147483648 ≤ y ∧ y < 2147483648))) (hdg : decode cc pc = .ok (.if_icmp .gt off, 3)) (ht : (pc : Int) + off = (tgt : Int)) (kt : y < x → W p l e R s m args below meth c H locs cells slots Q (F0 m tgt ls rest)) (kf : x ≤ y → W p l e R s m args below meth c H locs cells slots Q (F0 m (pc + 3) ls rest)) : W p l e R s m args below meth c H locs cells slots Q (F0 m pc ls (.int (zi y) :: .int (zi x) :: rest)) := by
  refine lv_icmp_gt F.1 F.2.1 hdg ht (fun q => ?_) (fun q => ?_)
  · exact kt (by first | exact (zi_lt ⟨h.2, h.1⟩).mp q | exact (zi_lt ⟨h.2, h.1⟩).mp (by simpa using q))
  · exact kf ((fun z => Int.not_lt.mp z) (fun z => q ((zi_lt ⟨h.2, h.1⟩).mpr z)))
theorem z_if_gt (F : CallFix p m c cc nL s args Ts own) {x : Int} {off : Int} {tgt : Nat} (h : (-2147483648 ≤ x ∧ x < 2147483648)) (hdg : decode cc pc = .ok (.ifCond .gt off, 3)) (ht : (pc : Int) + off = (tgt : Int)) (kt : 0 < x → W p l e R s m args below meth c H locs cells slots Q (F0 m tgt ls rest)) (kf : x ≤ 0 → W p l e R s m args below meth c H locs cells slots Q (F0 m (pc + 3) ls rest)) : W p l e R s m args below meth c H locs cells slots Q (F0 m pc ls (.int (zi x) :: rest)) := by
  refine lv_if_gt F.1 F.2.1 hdg ht (fun q => ?_) (fun q => ?_)
  · exact kt (by first | exact (zi_lt ⟨z_b0, h⟩).mp q | exact (zi_lt ⟨z_b0, h⟩).mp (by simpa using q))
  · exact kf ((fun z => Int.not_lt.mp z) (fun z => q ((zi_lt ⟨z_b0, h⟩).mpr z)))
theorem z_icmp_le (F : CallFix p m c cc nL s args Ts own) {x y : Int} {off : Int} {tgt : Nat} (h : ((-2147483648 ≤ x ∧ x < 2147483648) ∧ (-2147483648 ≤ y ∧ y < 2147483648))) (hdg : decode cc pc = .ok (.if_icmp .le off, 3)) (ht : (pc : Int) + off = (tgt : Int)) (kt : x ≤ y → W p l e R s m args below meth c H locs cells slots Q (F0 m tgt ls rest)) (kf : y < x → W p l e R s m args below meth c H locs cells slots Q (F0 m (pc + 3) ls rest)) : W p l e R s m args below meth c H locs cells slots Q (F0 m pc ls (.int (zi y) :: .int (zi x) :: rest)) := by
  refine lv_icmp_le F.1 F.2.1 hdg ht (fun q => ?_) (fun q => ?_)
  · exact kt (by first | exact (zi_le h).mp q | exact (zi_le h).mp (by simpa using q))
  · exact kf ((fun z => Int.not_le.mp z) (fun z => q ((zi_le h).mpr z)))
theorem z_if_le (F : CallFix p m c cc nL s args Ts own) {x : Int} {off : Int} {tgt : Nat} (h : (-2147483648 ≤ x ∧ x < 2147483648)) (hdg : decode cc pc = .ok (.ifCond .le off, 3)) (ht : (pc : Int) + off = (tgt : Int)) (kt : x ≤ 0 → W p l e R s m args below meth c H locs cells slots Q (F0 m tgt ls rest)) (kf : 0 < x → W p l e R s m args below meth c H locs cells slots Q (F0 m (pc + 3) ls rest)) : W p l e R s m args below meth c H locs cells slots Q (F0 m pc ls (.int (zi x) :: rest)) := by
  refine lv_if_le F.1 F.2.1 hdg ht (fun q => ?_) (fun q => ?_)
  · exact kt (by first | exact (zi_le ⟨h, z_b0⟩).mp q | exact (zi_le ⟨h, z_b0⟩).mp (by simpa using q))
  · exact kf ((fun z => Int.not_le.mp z) (fun z => q ((zi_le ⟨h, z_b0⟩).mpr z)))
theorem z_lcmp (F : CallFix p m c cc nL s args Ts own) {x y : Int} (h : (-9223372036854775808 ≤ x ∧ x < 9223372036854775808) ∧ (-9223372036854775808 ≤ y ∧ y < 9223372036854775808)) (hdg : decode cc pc = .ok (.lcmp, 1)) (k : W p l e R s m args below meth c H locs cells slots Q (F0 m (pc + 1) ls (.int (zi (if y < x then 1 else if x = y then 0 else -1)) :: rest))) : W p l e R s m args below meth c H locs cells slots Q (F0 m pc ls (.long (zl y) :: .long (zl x) :: rest)) := W.lcmp F.1 F.2.1 hdg (by rw [zl_cmp h]; exact k)
theorem z_iinc (F : CallFix p m c cc nL s args Ts own) {i nL' k : Nat} {n : Int} {x : Int} {lv lv' : List (Nat × Value)} (hdg : decode cc pc = .ok (.iinc i n, 3)) (h : lv_has ls nL' lv) (hk : lv[k]? = some (i, .int (zi x))) (hn : i < nL') (hl : (i, Value.int (zi (x + n))) :: lv.filter (fun q => !(q.1 == i) && !(q.1 + 1 == i && q.2.category == 2)) = lv') (kk : ∀ ls' : Array Slot, lv_has ls' nL' lv' → W p l e R s m args below meth c H locs cells slots Q (F0 m (pc + 3) ls' rest)) : W p l e R s m args below meth c H locs cells slots Q (F0 m pc ls rest) := lv_iinc F.1 F.2.1 hdg h hk (zi_add x n) hn hl kk
theorem z_goto (F : CallFix p m c cc nL s args Ts own) {off : Int} {tgt : Nat} (hdg : decode cc pc = .ok (.goto off, 3)) (ht : (pc : Int) + off = (tgt : Int)) (k : W p l e R s m args below meth c H locs cells slots Q (F0 m tgt ls rest)) : W p l e R s m args below meth c H locs cells slots Q (F0 m pc ls rest) := lv_goto F.1 F.2.1 hdg ht k
theorem z_tabIn (F : CallFix p m c cc nL s args Ts own) {dflt lo hi : Int} {offs : Array Int} {len : Nat} {x : Int} (v : Int) {off : Int} {tgt : Nat} (hx : x = v) (hv : (-2147483648 ≤ v ∧ v < 2147483648) ∧ lo ≤ v ∧ v ≤ hi) (hdg : decode cc pc = .ok (.tableswitch dflt lo hi offs, len)) (ho : offs[(v - lo).toNat]? = some off) (ht : (pc : Int) + off = (tgt : Int)) (k : W p l e R s m args below meth c H locs cells slots Q (F0 m tgt ls rest)) : W p l e R s m args below meth c H locs cells slots Q (F0 m pc ls (.int (zi x) :: rest)) := by
  subst hx
  have e := zi_toInt hv.1
  exact lv_tableIn F.1 F.2.1 hdg (by omega) (by omega) (by rw [e]; exact ho) ht k
theorem z_tabOut (F : CallFix p m c cc nL s args Ts own) {dflt lo hi : Int} {offs : Array Int} {len : Nat} {x : Int} {tgt : Nat} (hx : (-2147483648 ≤ x ∧ x < 2147483648) ∧ (x < lo ∨ hi < x)) (hdg : decode cc pc = .ok (.tableswitch dflt lo hi offs, len)) (ht : (pc : Int) + dflt = (tgt : Int)) (k : W p l e R s m args below meth c H locs cells slots Q (F0 m tgt ls rest)) : W p l e R s m args below meth c H locs cells slots Q (F0 m pc ls (.int (zi x) :: rest)) := by
  have e := zi_toInt hx.1
  exact lv_tableOut F.1 F.2.1 hdg (by omega) ht k
theorem z_get (F : CallFix p m c cc nL s args Ts own) (K : va_K D vwCl (tyL cy) s) (Wd : WD D A H0 sg H locs) {C : String} {T : u_T} {N ci index : Nat} {a : Nat} (i0 j0 k : Nat) {w : va_W} {fs : List Value} {v : Value} (hi : ix sg i0 = some w) (he : ix w j0 = some (a, .inr (ci, fs))) (hv : ix fs k = some v) (hc : vwCl[ci]? = some (C, T, N)) (hk : k < N) (hin : ∀ w ∈ u_ws C T N, w ∈ Ts) (hlink : Cond.fieldLink own index (T k).1 (T k).2.1 (T k).2.2.1 ∈ Ts) (hdg : decode cc pc = .ok (.getfield index, 3)) (kk : W p l e R s m args below meth c H locs cells slots Q (F0 m (pc + 3) ls (v :: rest))) : W p l e R s m args below meth c H locs cells slots Q (F0 m pc ls (.ref a :: rest)) := by
  obtain ⟨k0, h1, -⟩ := flat_at sg i0 j0 w _ hi he
  rw [ix_get] at hv
  exact va_get F.1 F.2.1 F.2.2.2.2 hin F.2.2.2.1 K Wd.1.1 k0 h1 hc k hk (F.2.2.2.2 _ hlink) (fun _ h => h) hv hdg kk
theorem z_put (F : CallFix p m c cc nL s args Ts own) (K : va_K D vwCl (tyL cy) s) (Wd : WD D A H0 sg H locs) {C : String} {T : u_T} {N ci index : Nat} {a : Nat} (i0 j0 k : Nat) {w : va_W} {fs : List Value} {v : Value} {sg' : List va_W} (hi : ix sg i0 = some w) (he : ix w j0 = some (a, .inr (ci, fs))) (hw : sg.set i0 (w.set j0 (a, .inr (ci, fs.set k v))) = sg') (hc : vwCl[ci]? = some (C, T, N)) (hk : k < N ∧ k < fs.length) (ty0 : Nat → FieldType) (hty : ∀ k, k < N → parseFieldDescriptor (T k).2.2.1 = some (ty0 k)) (hnm : ∀ a, a < N → ∀ b, b < N → a ≠ b → (T a).2.1 ≠ (T b).2.1) (hfin : (T k).2.2.2 = false) (hn : narrow (ty0 k) v = v) (hfit : fits (ty0 k) v = true) (hin : ∀ w ∈ u_ws C T N, w ∈ Ts) (hlink : Cond.fieldLink own index (T k).1 (T k).2.1 (T k).2.2.1 ∈ Ts) (hdg : decode cc pc = .ok (.putfield index, 3)) (kk : ∀ (H1 : Heap) (locs1 : List Loc), WD D A H0 sg' H1 locs1 → W p l e R s m args below meth c H1 locs1 cells slots Q (F0 m (pc + 3) ls rest)) : W p l e R s m args below meth c H locs cells slots Q (F0 m pc ls (v :: .ref a :: rest)) := by
  obtain ⟨k0, h1, h2⟩ := flat_at sg i0 j0 w _ hi he
  refine va_put F.1 F.2.1 F.2.2.2.2 hin ty0 hty hnm F.2.2.2.1 K Wd.1.1 Wd.1.2 Wd.2.1 k0 h1 hc k hk.1 (F.2.2.2.2 _ hlink) (fun _ h => h) hfin (hty k hk.1) hn hfit hk.2 hdg (fun H1 locs1 hP hD hS => ?_)
  rw [h2, hw] at hP hD
  exact kk H1 locs1 ⟨⟨hP, hD⟩, hS, Wd.2.2⟩
theorem z_iald (F : CallFix p m c cc nL s args Ts own) (K : va_K D vwCl (tyL cy) s) (Wd : WD D A H0 sg H locs) (i0 j0 : Nat) {w : va_W} {a n : Nat} {g : Int → Int} {i : Int} (hs : ix sg i0 = some w) (ha : ix w j0 = some (a, .inl (cy 0, n, .inl (zA g)))) (hi : 0 ≤ i ∧ i < (n : Int)) (hn : n < 2147483648) (hdg : decode cc pc = .ok (.iaload, 1)) (kk : W p l e R s m args below meth c H locs cells slots Q (F0 m (pc + 1) ls (.int (zi (g i)) :: rest))) : W p l e R s m args below meth c H locs cells slots Q (F0 m pc ls (.int (zi i) :: .ref a :: rest)) := by
  obtain ⟨k0, h1, -⟩ := flat_at sg i0 j0 w _ hs ha
  exact va_iald F.1 F.2.1 K Wd.1.1 k0 0 h1 rfl (zi_in hi hn) hdg (by rw [zA_at hi hn]; exact kk)
theorem z_bald (F : CallFix p m c cc nL s args Ts own) (K : va_K D vwCl (tyL cy) s) (Wd : WD D A H0 sg H locs) (i0 j0 : Nat) {w : va_W} {a n : Nat} {g : Int → Int} {i : Int} (hs : ix sg i0 = some w) (ha : ix w j0 = some (a, .inl (cy 1, n, .inl (zA g)))) (hi : 0 ≤ i ∧ i < (n : Int)) (hn : n < 2147483648) (hdg : decode cc pc = .ok (.baload, 1)) (kk : W p l e R s m args below meth c H locs cells slots Q (F0 m (pc + 1) ls (.int (zi (g i)) :: rest))) : W p l e R s m args below meth c H locs cells slots Q (F0 m pc ls (.int (zi i) :: .ref a :: rest)) := by
  obtain ⟨k0, h1, -⟩ := flat_at sg i0 j0 w _ hs ha
  exact va_bald F.1 F.2.1 K Wd.1.1 k0 1 h1 rfl (zi_in hi hn) hdg (by rw [zA_at hi hn]; exact kk)
theorem z_zald (F : CallFix p m c cc nL s args Ts own) (K : va_K D vwCl (tyL cy) s) (Wd : WD D A H0 sg H locs) (i0 j0 : Nat) {w : va_W} {a n : Nat} {g : Int → Int} {i : Int} (hs : ix sg i0 = some w) (ha : ix w j0 = some (a, .inl (cy 2, n, .inl (zA g)))) (hi : 0 ≤ i ∧ i < (n : Int)) (hn : n < 2147483648) (hdg : decode cc pc = .ok (.baload, 1)) (kk : W p l e R s m args below meth c H locs cells slots Q (F0 m (pc + 1) ls (.int (zi (g i)) :: rest))) : W p l e R s m args below meth c H locs cells slots Q (F0 m pc ls (.int (zi i) :: .ref a :: rest)) := by
  obtain ⟨k0, h1, -⟩ := flat_at sg i0 j0 w _ hs ha
  exact va_zald F.1 F.2.1 K Wd.1.1 k0 2 h1 rfl (zi_in hi hn) hdg (by rw [zA_at hi hn]; exact kk)
theorem z_iast (F : CallFix p m c cc nL s args Ts own) (K : va_K D vwCl (tyL cy) s) (Wd : WD D A H0 sg H locs) (i0 j0 : Nat) {w : va_W} {a n : Nat} {g : Int → Int} {i v : Int} {sg' : List va_W} (hs : ix sg i0 = some w) (ha : ix w j0 = some (a, .inl (cy 0, n, .inl (zA g)))) (hw : sg.set i0 (w.set j0 (a, .inl (cy 0, n, .inl (zA (zu g i v))))) = sg') (hi : 0 ≤ i ∧ i < (n : Int)) (hn : n < 2147483648)  (hdg : decode cc pc = .ok (.iastore, 1)) (kk : ∀ (H1 : Heap) (locs1 : List Loc), WD D A H0 sg' H1 locs1 → W p l e R s m args below meth c H1 locs1 cells slots Q (F0 m (pc + 1) ls rest)) : W p l e R s m args below meth c H locs cells slots Q (F0 m pc ls (.int (zi v) :: .int (zi i) :: .ref a :: rest)) := by
  obtain ⟨k0, h1, h2⟩ := flat_at sg i0 j0 w _ hs ha
  refine va_iast F.1 F.2.1 K Wd.1.1 Wd.1.2 Wd.2.1 k0 0 h1 rfl (zi_in hi hn) hdg (fun H1 locs1 hP hD hS => ?_)
  rw [zA_up hi hn, h2, hw] at hP hD
  exact kk H1 locs1 ⟨⟨hP, hD⟩, hS, Wd.2.2⟩
theorem z_bast (F : CallFix p m c cc nL s args Ts own) (K : va_K D vwCl (tyL cy) s) (Wd : WD D A H0 sg H locs) (i0 j0 : Nat) {w : va_W} {a n : Nat} {g : Int → Int} {i v : Int} {sg' : List va_W} (hs : ix sg i0 = some w) (ha : ix w j0 = some (a, .inl (cy 1, n, .inl (zA g)))) (hw : sg.set i0 (w.set j0 (a, .inl (cy 1, n, .inl (zA (zu g i v))))) = sg') (hi : 0 ≤ i ∧ i < (n : Int)) (hn : n < 2147483648) (hv : 0 ≤ v ∧ v < 128) (hdg : decode cc pc = .ok (.bastore, 1)) (kk : ∀ (H1 : Heap) (locs1 : List Loc), WD D A H0 sg' H1 locs1 → W p l e R s m args below meth c H1 locs1 cells slots Q (F0 m (pc + 1) ls rest)) : W p l e R s m args below meth c H locs cells slots Q (F0 m pc ls (.int (zi v) :: .int (zi i) :: .ref a :: rest)) := by
  obtain ⟨k0, h1, h2⟩ := flat_at sg i0 j0 w _ hs ha
  refine va_bast F.1 F.2.1 K Wd.1.1 Wd.1.2 Wd.2.1 k0 1 h1 rfl (zi_in hi hn) hdg (fun H1 locs1 hP hD hS => ?_)
  rw [zi_narB hv] at hP hD; rw [zA_up hi hn, h2, hw] at hP hD
  exact kk H1 locs1 ⟨⟨hP, hD⟩, hS, Wd.2.2⟩
theorem z_zast (F : CallFix p m c cc nL s args Ts own) (K : va_K D vwCl (tyL cy) s) (Wd : WD D A H0 sg H locs) (i0 j0 : Nat) {w : va_W} {a n : Nat} {g : Int → Int} {i v : Int} {sg' : List va_W} (hs : ix sg i0 = some w) (ha : ix w j0 = some (a, .inl (cy 2, n, .inl (zA g)))) (hw : sg.set i0 (w.set j0 (a, .inl (cy 2, n, .inl (zA (zu g i v))))) = sg') (hi : 0 ≤ i ∧ i < (n : Int)) (hn : n < 2147483648) (hv : v = 0 ∨ v = 1) (hdg : decode cc pc = .ok (.bastore, 1)) (kk : ∀ (H1 : Heap) (locs1 : List Loc), WD D A H0 sg' H1 locs1 → W p l e R s m args below meth c H1 locs1 cells slots Q (F0 m (pc + 1) ls rest)) : W p l e R s m args below meth c H locs cells slots Q (F0 m pc ls (.int (zi v) :: .int (zi i) :: .ref a :: rest)) := by
  obtain ⟨k0, h1, h2⟩ := flat_at sg i0 j0 w _ hs ha
  refine va_zast F.1 F.2.1 K Wd.1.1 Wd.1.2 Wd.2.1 k0 2 h1 rfl (zi_in hi hn) hdg (fun H1 locs1 hP hD hS => ?_)
  rw [zi_narZ hv] at hP hD; rw [zA_up hi hn, h2, hw] at hP hD
  exact kk H1 locs1 ⟨⟨hP, hD⟩, hS, Wd.2.2⟩
theorem z_min (F : CallFix p m c cc nL s args Ts own) {x y : Int} {index : Nat} (h : (-2147483648 ≤ x ∧ x < 2147483648) ∧ (-2147483648 ≤ y ∧ y < 2147483648)) (hl : ls.size = nL) (hlink : (Cond.methodLink own index Lib.Math.min.name).before args s = true) (hstat : (Cond.static Lib.Math.min.name).before args s = true) (hini : (Cond.initialized "java/lang/Math").before args s = true) (hcode : (Cond.code Lib.Math.min.name Lib.Math.min.code 2 (some .int)).before args s = true) (hfr : 1 ≤ R.frames) (hlo : (rest.map fun v => v.category).sum + 13 ≤ R.locals) (hc : cells ≤ R.cells) (hs : slots ≤ R.slots) (hdg : decode cc pc = .ok (.invokestatic index, 3)) (k : W p l e R s m args below meth c H locs cells slots Q (F0 m (pc + 3) ls (.int (zi (min x y)) :: rest))) : W p l e R s m args below meth c H locs cells slots Q (F0 m pc ls (.int (zi y) :: .int (zi x) :: rest)) :=
  va_mmin F.1 F.2.1 (F.2.2.1.trans hl.symm) F.2.2.2.1 hlink hstat hini hcode hfr hlo hc hs hdg (by rw [zi_min h]; exact k)
theorem z_max (F : CallFix p m c cc nL s args Ts own) {x y : Int} {index : Nat} (h : (-2147483648 ≤ x ∧ x < 2147483648) ∧ (-2147483648 ≤ y ∧ y < 2147483648)) (hl : ls.size = nL) (hlink : (Cond.methodLink own index Lib.Math.max.name).before args s = true) (hstat : (Cond.static Lib.Math.max.name).before args s = true) (hini : (Cond.initialized "java/lang/Math").before args s = true) (hcode : (Cond.code Lib.Math.max.name Lib.Math.max.code 2 (some .int)).before args s = true) (hfr : 1 ≤ R.frames) (hlo : (rest.map fun v => v.category).sum + 13 ≤ R.locals) (hc : cells ≤ R.cells) (hs : slots ≤ R.slots) (hdg : decode cc pc = .ok (.invokestatic index, 3)) (k : W p l e R s m args below meth c H locs cells slots Q (F0 m (pc + 3) ls (.int (zi (max x y)) :: rest))) : W p l e R s m args below meth c H locs cells slots Q (F0 m pc ls (.int (zi y) :: .int (zi x) :: rest)) :=
  va_mmax F.1 F.2.1 (F.2.2.1.trans hl.symm) F.2.2.2.1 hlink hstat hini hcode hfr hlo hc hs hdg (by rw [zi_max h]; exact k)
theorem z_acopy (F : CallFix p m c cc nL s args Ts own) (K : va_K D vwCl (tyL cy) s) (Wd : WD D A H0 sg H locs) {index : Nat} (hl : ls.size = nL) (hlink : (Cond.methodLink own index arraycopyName).before args s = true) (hnat : (Cond.native arraycopyName).before args s = true) (hstat : (Cond.static arraycopyName).before args s = true) (hini : (Cond.initialized "java/lang/System").before args s = true) (i0 j0 i1 j1 : Nat) {w0 w1 : va_W} {a a0 n0 n1 : Nat} {f g : Int → Int} {sg' : List va_W} {sp dp n : Int} (hs0 : ix sg i0 = some w0) (ha0 : ix w0 j0 = some (a0, .inl (cy 0, n0, .inl (zA f)))) (hs1 : ix sg i1 = some w1) (ha1 : ix w1 j1 = some (a, .inl (cy 0, n1, .inl (zA g)))) (hw : sg.set i1 (w1.set j1 (a, .inl (cy 0, n1, .inl (zA (zcp f g sp dp n))))) = sg') (h : 0 ≤ sp ∧ 0 ≤ dp ∧ 0 ≤ n ∧ sp + n ≤ (n0 : Int) ∧ dp + n ≤ (n1 : Int)) (hn0 : n0 < 2147483648) (hn1 : n1 < 2147483648) (hfr : 1 ≤ R.frames) (hlo : (rest.map fun v => v.category).sum + 18 ≤ R.locals) (hdg : decode cc pc = .ok (.invokestatic index, 3)) (kk : ∀ (H1 : Heap) (locs1 : List Loc), WD D A H0 sg' H1 locs1 → W p l e R s m args below meth c H1 locs1 cells slots Q (F0 m (pc + 3) ls rest)) : W p l e R s m args below meth c H locs cells slots Q (F0 m pc ls (.int (zi n) :: .int (zi dp) :: .ref a :: .int (zi sp) :: .ref a0 :: rest)) := by
  obtain ⟨k0, h1, -⟩ := flat_at sg i0 j0 w0 _ hs0 ha0
  obtain ⟨k1, h3, h4⟩ := flat_at sg i1 j1 w1 _ hs1 ha1
  have e1 := zi_clamp (z := sp) ⟨h.1, by omega⟩
  have e2 := zi_clamp (z := dp) ⟨h.2.1, by omega⟩
  have e3 := zi_clamp (z := n) ⟨h.2.2.1, by omega⟩
  refine va_copyi F.1 F.2.1 (F.2.2.1.trans hl.symm) F.2.2.2.1 hlink hnat hstat hini K Wd.1.1 Wd.1.2 Wd.2.1 k0 k1 0 0 h1 h3 rfl rfl rfl (zi_nneg ⟨h.1, by omega⟩) (zi_nneg ⟨h.2.1, by omega⟩) (zi_nneg ⟨h.2.2.1, by omega⟩) (by rw [e1, e3]; omega) (by rw [e2, e3]; omega) (fun _ _ => rfl) hfr hlo hdg (fun H1 locs1 hP hD hS => ?_)
  rw [e1, e2, e3, zA_cpy ⟨h.1, h.2.1, h.2.2.1⟩, h4, hw] at hP hD
  exact kk H1 locs1 ⟨⟨hP, hD⟩, hS, Wd.2.2⟩
end ZR
