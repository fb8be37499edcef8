/-! ints as Int: zi, zl; arrays by functions on Int: zA, zu -/
def zi (z : Int) : Int32 := Int32.ofInt z
def zl (z : Int) : Int64 := Int64.ofInt z
def zA (g : Int → Int) : Nat → Int32 := fun j => zi (g (j : Int))
def zu (g : Int → Int) (k v : Int) : Int → Int := fun j => if j = k then v else g j
theorem zu_at (g : Int → Int) (k v j : Int) : zu g k v j = if j = k then v else g j := rfl
theorem zu_s (g : Int → Int) (k v : Int) : zu g k v k = v := by simp [zu]
theorem zu_n (g : Int → Int) {k j : Int} (v : Int) (h : j ≠ k) : zu g k v j = g j := by simp [zu, h]
theorem zu_b {g : Int → Int} {k v lo hi : Int} (h : ∀ j, lo ≤ g j ∧ g j ≤ hi) (hv : lo ≤ v ∧ v ≤ hi) : ∀ j, lo ≤ zu g k v j ∧ zu g k v j ≤ hi := by
  intro j
  unfold zu
  split
  · exact hv
  · exact h j
theorem zi_toInt {z : Int} (h : -2147483648 ≤ z ∧ z < 2147483648) : (zi z).toInt = z := Int32.toInt_ofInt_of_le (by omega) (by omega)
theorem zl_toInt {z : Int} (h : -9223372036854775808 ≤ z ∧ z < 9223372036854775808) : (zl z).toInt = z := Int64.toInt_ofInt_of_le (by omega) (by omega)
theorem zi_of (x : Int32) : zi x.toInt = x := Int32.ofInt_toInt x
theorem zi_rng (x : Int32) : -2147483648 ≤ x.toInt ∧ x.toInt < 2147483648 := ⟨by have := Int32.le_toInt x; omega, by have := Int32.toInt_lt x; omega⟩
theorem zi_add (a b : Int) : zi a + zi b = zi (a + b) := (Int32.ofInt_add a b).symm
theorem zi_sub (a b : Int) : zi a - zi b = zi (a - b) := (Int32.ofInt_sub a b).symm
theorem zi_mul (a b : Int) : zi a * zi b = zi (a * b) := (Int32.ofInt_mul a b).symm
theorem zl_add (a b : Int) : zl a + zl b = zl (a + b) := (Int64.ofInt_add a b).symm
theorem zl_sub (a b : Int) : zl a - zl b = zl (a - b) := (Int64.ofInt_sub a b).symm
theorem zl_mul (a b : Int) : zl a * zl b = zl (a * b) := (Int64.ofInt_mul a b).symm
theorem zi_inj {a b : Int} (h : (-2147483648 ≤ a ∧ a < 2147483648) ∧ (-2147483648 ≤ b ∧ b < 2147483648)) : zi a = zi b ↔ a = b := by
  rw [← Int32.toInt_inj, zi_toInt h.1, zi_toInt h.2]
theorem zi_lt {a b : Int} (h : (-2147483648 ≤ a ∧ a < 2147483648) ∧ (-2147483648 ≤ b ∧ b < 2147483648)) : zi a < zi b ↔ a < b := by
  rw [Int32.lt_iff_toInt_lt, zi_toInt h.1, zi_toInt h.2]
theorem zi_le {a b : Int} (h : (-2147483648 ≤ a ∧ a < 2147483648) ∧ (-2147483648 ≤ b ∧ b < 2147483648)) : zi a ≤ zi b ↔ a ≤ b := by
  rw [Int32.le_iff_toInt_le, zi_toInt h.1, zi_toInt h.2]
theorem zi_0 : zi 0 = 0 := rfl
theorem zi_clamp {z : Int} (h : 0 ≤ z ∧ z < 2147483648) : (zi z).toNatClampNeg = z.toNat := by
  show (zi z).toInt.toNat = _
  rw [zi_toInt ⟨by omega, h.2⟩]
theorem zi_in {i : Int} {n : Nat} (h : 0 ≤ i ∧ i < (n : Int)) (hn : n < 2147483648) : vp_in (zi i) n := by
  rw [vp_in_iff, zi_toInt ⟨by omega, by omega⟩]
  exact h
theorem zA_at {g : Int → Int} {i : Int} {n : Nat} (h : 0 ≤ i ∧ i < (n : Int)) (hn : n < 2147483648) : zA g (zi i).toNatClampNeg = zi (g i) := by
  rw [zi_clamp ⟨h.1, by omega⟩]
  show zi (g ((i.toNat : Nat) : Int)) = _
  rw [Int.toNat_of_nonneg h.1]
theorem zA_up {g : Int → Int} {i v : Int} {n : Nat} (h : 0 ≤ i ∧ i < (n : Int)) (hn : n < 2147483648) : upd (zA g) (zi i).toNatClampNeg (zi v) = zA (zu g i v) := by
  rw [zi_clamp ⟨h.1, by omega⟩]
  funext j
  by_cases e : j = i.toNat
  · subst e
    simp only [upd, zA, zu, if_pos]
    rw [if_pos (Int.toNat_of_nonneg h.1)]
  · simp only [upd, zA, zu, if_neg e]
    rw [if_neg]
    omega
theorem zi_div {a b : Int} (h : (0 ≤ a ∧ a < 2147483648) ∧ (0 < b ∧ b < 2147483648)) : zi a / zi b = zi (a / b) := by
  have hq : 0 ≤ a / b := Int.ediv_nonneg h.1.1 (by omega)
  have hq2 : a / b ≤ a := Int.ediv_le_self _ h.1.1
  have hb : (zi b).toInt = b := zi_toInt ⟨by omega, by omega⟩
  have hne : zi b ≠ -1 := fun q => by
    have : (zi b).toInt = (-1 : Int32).toInt := by rw [q]
    rw [hb] at this
    have h1 : (-1 : Int32).toInt = -1 := rfl
    omega
  apply Int32.toInt_inj.mp
  rw [Int32.toInt_div_of_ne_right _ _ hne, hb, zi_toInt ⟨by omega, by omega⟩, zi_toInt ⟨by omega, by omega⟩, Int.tdiv_eq_ediv_of_nonneg h.1.1]
theorem zi_rem {a b : Int} (h : (0 ≤ a ∧ a < 2147483648) ∧ (0 < b ∧ b < 2147483648)) : zi a - zi a / zi b * zi b = zi (a % b) := by
  rw [zi_div h, zi_mul, zi_sub, Int.emod_def, Int.mul_comm]
theorem zl_div {a b : Int} (h : (0 ≤ a ∧ a < 9223372036854775808) ∧ (0 < b ∧ b < 9223372036854775808)) : zl a / zl b = zl (a / b) := by
  have hq : 0 ≤ a / b := Int.ediv_nonneg h.1.1 (by omega)
  have hq2 : a / b ≤ a := Int.ediv_le_self _ h.1.1
  have hb : (zl b).toInt = b := zl_toInt ⟨by omega, by omega⟩
  have hne : zl b ≠ -1 := fun q => by
    have : (zl b).toInt = (-1 : Int64).toInt := by rw [q]
    rw [hb] at this
    have h1 : (-1 : Int64).toInt = -1 := rfl
    omega
  apply Int64.toInt_inj.mp
  rw [Int64.toInt_div_of_ne_right _ _ hne, hb, zl_toInt ⟨by omega, by omega⟩, zl_toInt ⟨by omega, by omega⟩, Int.tdiv_eq_ediv_of_nonneg h.1.1]
theorem zl_rem {a b : Int} (h : (0 ≤ a ∧ a < 9223372036854775808) ∧ (0 < b ∧ b < 9223372036854775808)) : zl a - zl a / zl b * zl b = zl (a % b) := by
  rw [zl_div h, zl_mul, zl_sub, Int.emod_def, Int.mul_comm]
theorem zi_l {a : Int} (h : -2147483648 ≤ a ∧ a < 2147483648) : (zi a).toInt64 = zl a := by
  apply Int64.toInt_inj.mp
  rw [Int32.toInt_toInt64, zi_toInt h, zl_toInt ⟨by omega, by omega⟩]
theorem zl_i {a : Int} (h : -2147483648 ≤ a ∧ a < 2147483648) : (zl a).toInt32 = zi a := by
  rw [← Int32.ofInt_int64ToInt, zl_toInt ⟨by omega, by omega⟩]
  rfl
theorem zl_ne0 {a : Int} (h : 0 < a ∧ a < 9223372036854775808) : ¬ zl a = 0 := fun q => by
  have h1 : (zl a).toInt = (0 : Int64).toInt := by rw [q]
  rw [zl_toInt ⟨by omega, by omega⟩] at h1
  have h2 : (0 : Int64).toInt = 0 := rfl
  omega
theorem zi_ne0 {a : Int} (h : 0 < a ∧ a < 2147483648) : ¬ zi a = 0 := fun q => by
  have h1 : (zi a).toInt = (0 : Int32).toInt := by rw [q]
  rw [zi_toInt ⟨by omega, by omega⟩] at h1
  have h2 : (0 : Int32).toInt = 0 := rfl
  omega
/-! bits of numbers that are not below 0 -/
def zand (a b : Int) : Int := ((a.toNat &&& b.toNat : Nat) : Int)
def zor (a b : Int) : Int := ((a.toNat ||| b.toNat : Nat) : Int)
def zxor (a b : Int) : Int := ((a.toNat ^^^ b.toNat : Nat) : Int)
def zpw (k : Int) : Int := ((2 ^ k.toNat : Nat) : Int)
theorem zi_bv {a : Int} (h : 0 ≤ a) : zi a = nI a.toNat := by
  show Int32.ofInt a = Int32.ofNat a.toNat
  rw [← Int32.ofInt_eq_ofNat, Int.toNat_of_nonneg h]
theorem zi_nat (n : Nat) : zi (n : Int) = nI n := Int32.ofInt_eq_ofNat
theorem zi_and {a b : Int} (h : (0 ≤ a ∧ a < 2147483648) ∧ (0 ≤ b ∧ b < 2147483648)) : zi a &&& zi b = zi (zand a b) := by
  rw [zi_bv h.1.1, zi_bv h.2.1, zand, zi_nat]
  apply Int32.toBitVec_inj.mp
  apply BitVec.eq_of_toNat_eq
  have h1 : a.toNat < 2 ^ 32 := by omega
  have h2 : b.toNat < 2 ^ 32 := by omega
  have h3 : a.toNat &&& b.toNat < 2 ^ 32 := Nat.lt_of_le_of_lt Nat.and_le_left h1
  rw [Int32.toBitVec_and, BitVec.toNat_and, pk_tn h1, pk_tn h2, pk_tn h3]
theorem zi_or {a b : Int} (h : (0 ≤ a ∧ a < 2147483648) ∧ (0 ≤ b ∧ b < 2147483648)) : zi a ||| zi b = zi (zor a b) := by
  rw [zi_bv h.1.1, zi_bv h.2.1, zor, zi_nat]
  apply Int32.toBitVec_inj.mp
  apply BitVec.eq_of_toNat_eq
  have h1 : a.toNat < 2 ^ 32 := by omega
  have h2 : b.toNat < 2 ^ 32 := by omega
  have h3 : a.toNat ||| b.toNat < 2 ^ 32 := Nat.or_lt_two_pow h1 h2
  rw [Int32.toBitVec_or, BitVec.toNat_or, pk_tn h1, pk_tn h2, pk_tn h3]
theorem zi_xor {a b : Int} (h : (0 ≤ a ∧ a < 2147483648) ∧ (0 ≤ b ∧ b < 2147483648)) : zi a ^^^ zi b = zi (zxor a b) := by
  rw [zi_bv h.1.1, zi_bv h.2.1, zxor, zi_nat]
  apply Int32.toBitVec_inj.mp
  apply BitVec.eq_of_toNat_eq
  have h1 : a.toNat < 2 ^ 32 := by omega
  have h2 : b.toNat < 2 ^ 32 := by omega
  have h3 : a.toNat ^^^ b.toNat < 2 ^ 32 := Nat.xor_lt_two_pow h1 h2
  rw [Int32.toBitVec_xor, BitVec.toNat_xor, pk_tn h1, pk_tn h2, pk_tn h3]
theorem zi_smod {k : Nat} (h : k < 32) : ((nI k).toBitVec.smod 32).toNat = k := by
  have key : ∀ k, k < 32 → ((nI k).toBitVec.smod 32).toNat = k := by decide +kernel
  exact key k h
theorem zi_shr {a k : Int} (h : (0 ≤ a ∧ a < 2147483648) ∧ (0 ≤ k ∧ k < 32)) : zi a >>> zi k = zi (a / zpw k) := by
  rw [zi_bv h.1.1, zi_bv h.2.1, pk_shrN (by omega) _ _ (zi_smod (by omega)), ← zi_nat]
  congr 1
  rw [zpw, Int.natCast_ediv, Int.toNat_of_nonneg h.1.1]
theorem zi_shl {a k : Int} (h : (0 ≤ a ∧ a * zpw k < 2147483648) ∧ (0 ≤ k ∧ k < 32)) : zi a <<< zi k = zi (a * zpw k) := by
  have e : (a.toNat : Int) = a := Int.toNat_of_nonneg h.1.1
  have h3 : a.toNat * 2 ^ k.toNat < 2 ^ 32 := by
    have h4 := h.1.2
    rw [zpw, ← e, ← Int.natCast_mul] at h4
    omega
  rw [zi_bv h.1.1, zi_bv h.2.1, pk_shlN _ _ (zi_smod (by omega)) h3, ← zi_nat]
  congr 1
  rw [Int.natCast_mul, e]
  rfl
/-! the world of a walk -/
def WD (D : va_G) (A : Nat → Prop) (H0 : Heap) (ws : va_W) (H : Heap) (locs : List Loc) : Prop := va_P D vwCl ws H ∧ va_D A ws ∧ va_S A H0 H locs ∧ ∀ q : Nat, H0.size ≤ q → A q
abbrev tyL (cy : Nat → ClassId) : List (ClassId × FieldType) := [(cy 0, .int), (cy 1, .byte), (cy 2, .boolean), (cy 3, .object "LeftBehind$Isle")]
theorem wd_call {D : va_G} {A : Nat → Prop} {H0 H H1 : Heap} {ws wc w1 ws' : va_W} {locs locs1 : List Loc} (Wd : WD D A H0 ws H locs) (isC isR : List Nat) (hC : isC.map (fun i => ws[i]?) = wc.map some) (hC1 : isC.map (fun i => ws'[i]?) = w1.map some) (hR : isR.map (fun i => ws'[i]?) = isR.map (fun i => ws[i]?)) (hcov : ∀ k, k < ws'.length → k ∈ isC ∨ k ∈ isR) (hdis : ∀ i ∈ isR, i ∉ isC) (hP1 : va_P D vwCl w1 H1) (hD1 : va_D (va_A wc H.size) w1) (hk1 : ∀ q : Nat, q < H.size → ¬ va_A wc H.size q → H1[q]? = H[q]?) (hS1 : va_S A H0 H1 locs1) : WD D A H0 ws' H1 locs1 := by
  obtain ⟨hP, hD, hS, hA⟩ := Wd
  have hF : ∀ q, va_A wc H.size q → A q := va_free hD hS hA isC hC
  have atC : ∀ k ∈ isC, ∀ q, ws'[k]? = some q → ∃ j : Nat, isC[j]? = some k ∧ w1[j]? = some q := by
    intro k hk q hq
    obtain ⟨j, hj⟩ := List.getElem?_of_mem hk
    refine ⟨j, hj, ?_⟩
    have h1 : (isC.map (fun i => ws'[i]?))[j]? = some (some q) := by rw [List.getElem?_map, hj]; simp [hq]
    rw [hC1, List.getElem?_map] at h1
    cases hw : w1[j]? with
    | none => rw [hw] at h1; cases h1
    | some z => rw [hw] at h1; cases h1; rfl
  have atR : ∀ k ∈ isR, ∀ q, ws'[k]? = some q → ws[k]? = some q := by
    intro k hk q hq
    have h1 := List.map_inj_left.mp hR k hk
    rw [← h1]
    exact hq
  have kR : ∀ k ∈ isR, ∀ q, ws[k]? = some q → q.1 < H.size ∧ ¬ va_A wc H.size q.1 := by
    intro k hk q hq
    have hl := (hP k q hq).lt
    refine ⟨hl, fun h => ?_⟩
    rcases h with ⟨j, e, hj⟩ | h
    · have h1 : (isC.map (fun i => ws[i]?))[j]? = some (some (q.1, e)) := by rw [hC, List.getElem?_map, hj]; rfl
      rw [List.getElem?_map] at h1
      cases hi : isC[j]? with
      | none => rw [hi] at h1; cases h1
      | some i =>
        rw [hi] at h1
        have h2 : ws[i]? = some (q.1, e) := Option.some.inj h1
        have := hD.1 k i q (q.1, e) hq h2 rfl
        subst this
        exact hdis k hk (List.mem_of_getElem? hi)
    · omega
  have inb : ∀ (k : Nat) (q : Nat × va_E), ws'[k]? = some q → k ∈ isC ∨ k ∈ isR := fun k q h => hcov k (List.getElem?_eq_some_iff.mp h).1
  refine ⟨fun k q hk => ?_, ⟨fun i j x y hi hj hxy => ?_, fun k q hk => ?_⟩, hS1, hA⟩
  · rcases inb k q hk with h | h
    · obtain ⟨j, -, hj⟩ := atC k h q hk
      exact hP1 j q hj
    · have h0 := atR k h q hk
      obtain ⟨g1, g2⟩ := kR k h q h0
      exact (hP k q h0).kept (hk1 q.1 g1 g2)
  · rcases inb i x hi with h | h <;> rcases inb j y hj with h' | h'
    · obtain ⟨a, ha, hx⟩ := atC i h x hi
      obtain ⟨b, hb, hy⟩ := atC j h' y hj
      have := hD1.1 a b x y hx hy hxy
      subst this
      rw [ha] at hb
      exact Option.some.inj hb
    · obtain ⟨a, ha, hx⟩ := atC i h x hi
      exact absurd (hxy ▸ hD1.2 a x hx) (kR j h' y (atR j h' y hj)).2
    · obtain ⟨b, hb, hy⟩ := atC j h' y hj
      exact absurd (hxy.symm ▸ hD1.2 b y hy) (kR i h x (atR i h x hi)).2
    · exact hD.1 i j x y (atR i h x hi) (atR j h' y hj) hxy
  · rcases inb k q hk with h | h
    · obtain ⟨j, -, hj⟩ := atC k h q hk
      exact hF q.1 (hD1.2 j q hj)
    · exact hD.2 k q (atR k h q hk)
theorem wd_same {D : va_G} {A : Nat → Prop} {H0 H H1 : Heap} {ws wc : va_W} {locs locs1 : List Loc} (Wd : WD D A H0 ws H locs) (isC : List Nat) (hC : isC.map (fun i => ws[i]?) = wc.map some) (hP1 : va_P D vwCl wc H1) (hk1 : ∀ q : Nat, q < H.size → ¬ va_A wc H.size q → H1[q]? = H[q]?) (hS1 : va_S A H0 H1 locs1) : WD D A H0 ws H1 locs1 := by
  obtain ⟨hP, hD, hS, hA⟩ := Wd
  refine ⟨fun k q hk => ?_, hD, hS1, hA⟩
  by_cases hq : va_A wc H.size q.1
  · rcases hq with ⟨j, e, hj⟩ | h
    · have h1 : (isC.map (fun i => ws[i]?))[j]? = some (some (q.1, e)) := by rw [hC, List.getElem?_map, hj]; rfl
      rw [List.getElem?_map] at h1
      cases hi : isC[j]? with
      | none => rw [hi] at h1; cases h1
      | some i =>
        rw [hi] at h1
        have h2 : ws[i]? = some (q.1, e) := Option.some.inj h1
        have := hD.1 k i q (q.1, e) hk h2 rfl
        subst this
        rw [hk] at h2
        rw [Option.some.inj h2]
        exact hP1 j (q.1, e) hj
    · exact absurd (hP k q hk).lt (by omega)
  · exact (hP k q hk).kept (hk1 q.1 (hP k q hk).lt hq)
theorem WD.sub {D : va_G} {A : Nat → Prop} {H0 H : Heap} {ws ws' : va_W} {locs : List Loc} (Wd : WD D A H0 ws H locs) (is : List Nat) (hn : va_nd is = true) (hs : is.map (fun i => ws[i]?) = ws'.map some) : WD D A H0 ws' H locs :=
  ⟨Wd.1.sub is (by
    have h1 := congrArg (List.filterMap id) hs
    rw [List.filterMap_map, List.filterMap_map] at h1
    simpa using h1), Wd.2.1.sub is hn hs, Wd.2.2.1, Wd.2.2.2⟩
