/-! ints as Int: zi, zl; arrays by functions on Int: zA, zu -/
def zi (z : Int) : Int32 := Int32.ofInt z
def zl (z : Int) : Int64 := Int64.ofInt z
def zA (g : Int → Int) : Nat → Int32 := fun j => zi (g (j : Int))
def zu (g : Int → Int) (k v : Int) : Int → Int := fun j => if j = k then v else g j
theorem zu_at (g : Int → Int) (k v j : Int) : zu g k v j = if j = k then v else g j := rfl
theorem zu_s (g : Int → Int) (k v : Int) : zu g k v k = v := by simp [zu]
theorem zu_n (g : Int → Int) {k j : Int} (v : Int) (h : j ≠ k) : zu g k v j = g j := by simp [zu, h]
theorem zu_b {g : Int → Int} {k v lo hi : Int} (h : ∀ j, lo ≤ g j ∧ g j ≤ hi) (hv : lo ≤ v ∧ v ≤ hi) : ∀ j, lo ≤ zu g k v j ∧ zu g k v j ≤ hi := by
  intro j
  unfold zu
  split
  · exact hv
  · exact h j
theorem zi_toInt {z : Int} (h : -2147483648 ≤ z ∧ z < 2147483648) : (zi z).toInt = z := Int32.toInt_ofInt_of_le (by omega) (by omega)
theorem zl_toInt {z : Int} (h : -9223372036854775808 ≤ z ∧ z < 9223372036854775808) : (zl z).toInt = z := Int64.toInt_ofInt_of_le (by omega) (by omega)
theorem zi_of (x : Int32) : zi x.toInt = x := Int32.ofInt_toInt x
theorem zi_rng (x : Int32) : -2147483648 ≤ x.toInt ∧ x.toInt < 2147483648 := ⟨by have := Int32.le_toInt x; omega, by have := Int32.toInt_lt x; omega⟩
theorem zi_add (a b : Int) : zi a + zi b = zi (a + b) := (Int32.ofInt_add a b).symm
theorem zi_sub (a b : Int) : zi a - zi b = zi (a - b) := (Int32.ofInt_sub a b).symm
theorem zi_mul (a b : Int) : zi a * zi b = zi (a * b) := (Int32.ofInt_mul a b).symm
theorem zl_add (a b : Int) : zl a + zl b = zl (a + b) := (Int64.ofInt_add a b).symm
theorem zl_sub (a b : Int) : zl a - zl b = zl (a - b) := (Int64.ofInt_sub a b).symm
theorem zl_mul (a b : Int) : zl a * zl b = zl (a * b) := (Int64.ofInt_mul a b).symm
theorem zi_inj {a b : Int} (h : (-2147483648 ≤ a ∧ a < 2147483648) ∧ (-2147483648 ≤ b ∧ b < 2147483648)) : zi a = zi b ↔ a = b := by
  rw [← Int32.toInt_inj, zi_toInt h.1, zi_toInt h.2]
theorem zi_lt {a b : Int} (h : (-2147483648 ≤ a ∧ a < 2147483648) ∧ (-2147483648 ≤ b ∧ b < 2147483648)) : zi a < zi b ↔ a < b := by
  rw [Int32.lt_iff_toInt_lt, zi_toInt h.1, zi_toInt h.2]
theorem zi_le {a b : Int} (h : (-2147483648 ≤ a ∧ a < 2147483648) ∧ (-2147483648 ≤ b ∧ b < 2147483648)) : zi a ≤ zi b ↔ a ≤ b := by
  rw [Int32.le_iff_toInt_le, zi_toInt h.1, zi_toInt h.2]
theorem zi_0 : zi 0 = 0 := rfl
theorem zi_clamp {z : Int} (h : 0 ≤ z ∧ z < 2147483648) : (zi z).toNatClampNeg = z.toNat := by
  show (zi z).toInt.toNat = _
  rw [zi_toInt ⟨by omega, h.2⟩]
theorem zi_in {i : Int} {n : Nat} (h : 0 ≤ i ∧ i < (n : Int)) (hn : n < 2147483648) : vp_in (zi i) n := by
  rw [vp_in_iff, zi_toInt ⟨by omega, by omega⟩]
  exact h
theorem zA_at {g : Int → Int} {i : Int} {n : Nat} (h : 0 ≤ i ∧ i < (n : Int)) (hn : n < 2147483648) : zA g (zi i).toNatClampNeg = zi (g i) := by
  rw [zi_clamp ⟨h.1, by omega⟩]
  show zi (g ((i.toNat : Nat) : Int)) = _
  rw [Int.toNat_of_nonneg h.1]
theorem zA_up {g : Int → Int} {i v : Int} {n : Nat} (h : 0 ≤ i ∧ i < (n : Int)) (hn : n < 2147483648) : upd (zA g) (zi i).toNatClampNeg (zi v) = zA (zu g i v) := by
  rw [zi_clamp ⟨h.1, by omega⟩]
  funext j
  by_cases e : j = i.toNat
  · subst e
    simp only [upd, zA, zu, if_pos]
    rw [if_pos (Int.toNat_of_nonneg h.1)]
  · simp only [upd, zA, zu, if_neg e]
    rw [if_neg]
    omega
theorem zi_div {a b : Int} (h : (0 ≤ a ∧ a < 2147483648) ∧ (0 < b ∧ b < 2147483648)) : zi a / zi b = zi (a / b) := by
  have hq : 0 ≤ a / b := Int.ediv_nonneg h.1.1 (by omega)
  have hq2 : a / b ≤ a := Int.ediv_le_self _ h.1.1
  have hb : (zi b).toInt = b := zi_toInt ⟨by omega, by omega⟩
  have hne : zi b ≠ -1 := fun q => by
    have : (zi b).toInt = (-1 : Int32).toInt := by rw [q]
    rw [hb] at this
    have h1 : (-1 : Int32).toInt = -1 := rfl
    omega
  apply Int32.toInt_inj.mp
  rw [Int32.toInt_div_of_ne_right _ _ hne, hb, zi_toInt ⟨by omega, by omega⟩, zi_toInt ⟨by omega, by omega⟩, Int.tdiv_eq_ediv_of_nonneg h.1.1]
theorem zi_rem {a b : Int} (h : (0 ≤ a ∧ a < 2147483648) ∧ (0 < b ∧ b < 2147483648)) : zi a - zi a / zi b * zi b = zi (a % b) := by
  rw [zi_div h, zi_mul, zi_sub, Int.emod_def, Int.mul_comm]
theorem zl_div {a b : Int} (h : (0 ≤ a ∧ a < 9223372036854775808) ∧ (0 < b ∧ b < 9223372036854775808)) : zl a / zl b = zl (a / b) := by
  have hq : 0 ≤ a / b := Int.ediv_nonneg h.1.1 (by omega)
  have hq2 : a / b ≤ a := Int.ediv_le_self _ h.1.1
  have hb : (zl b).toInt = b := zl_toInt ⟨by omega, by omega⟩
  have hne : zl b ≠ -1 := fun q => by
    have : (zl b).toInt = (-1 : Int64).toInt := by rw [q]
    rw [hb] at this
    have h1 : (-1 : Int64).toInt = -1 := rfl
    omega
  apply Int64.toInt_inj.mp
  rw [Int64.toInt_div_of_ne_right _ _ hne, hb, zl_toInt ⟨by omega, by omega⟩, zl_toInt ⟨by omega, by omega⟩, Int.tdiv_eq_ediv_of_nonneg h.1.1]
theorem zl_rem {a b : Int} (h : (0 ≤ a ∧ a < 9223372036854775808) ∧ (0 < b ∧ b < 9223372036854775808)) : zl a - zl a / zl b * zl b = zl (a % b) := by
  rw [zl_div h, zl_mul, zl_sub, Int.emod_def, Int.mul_comm]
theorem zi_l {a : Int} (h : -2147483648 ≤ a ∧ a < 2147483648) : (zi a).toInt64 = zl a := by
  apply Int64.toInt_inj.mp
  rw [Int32.toInt_toInt64, zi_toInt h, zl_toInt ⟨by omega, by omega⟩]
theorem zl_i {a : Int} (h : -2147483648 ≤ a ∧ a < 2147483648) : (zl a).toInt32 = zi a := by
  rw [← Int32.ofInt_int64ToInt, zl_toInt ⟨by omega, by omega⟩]
  rfl
theorem zl_ne0 {a : Int} (h : 0 < a ∧ a < 9223372036854775808) : ¬ zl a = 0 := fun q => by
  have h1 : (zl a).toInt = (0 : Int64).toInt := by rw [q]
  rw [zl_toInt ⟨by omega, by omega⟩] at h1
  have h2 : (0 : Int64).toInt = 0 := rfl
  omega
theorem zi_ne0 {a : Int} (h : 0 < a ∧ a < 2147483648) : ¬ zi a = 0 := fun q => by
  have h1 : (zi a).toInt = (0 : Int32).toInt := by rw [q]
  rw [zi_toInt ⟨by omega, by omega⟩] at h1
  have h2 : (0 : Int32).toInt = 0 := rfl
  omega
/-! bits of numbers that are not below 0 -/
def zand (a b : Int) : Int := ((a.toNat &&& b.toNat : Nat) : Int)
def zor (a b : Int) : Int := ((a.toNat ||| b.toNat : Nat) : Int)
def zxor (a b : Int) : Int := ((a.toNat ^^^ b.toNat : Nat) : Int)
def zpw (k : Int) : Int := ((2 ^ k.toNat : Nat) : Int)
theorem zi_bv {a : Int} (h : 0 ≤ a) : zi a = nI a.toNat := by
  show Int32.ofInt a = Int32.ofNat a.toNat
  rw [← Int32.ofInt_eq_ofNat, Int.toNat_of_nonneg h]
theorem zi_nat (n : Nat) : zi (n : Int) = nI n := Int32.ofInt_eq_ofNat
theorem zi_and {a b : Int} (h : (0 ≤ a ∧ a < 2147483648) ∧ (0 ≤ b ∧ b < 2147483648)) : zi a &&& zi b = zi (zand a b) := by
  rw [zi_bv h.1.1, zi_bv h.2.1, zand, zi_nat]
  apply Int32.toBitVec_inj.mp
  apply BitVec.eq_of_toNat_eq
  have h1 : a.toNat < 2 ^ 32 := by omega
  have h2 : b.toNat < 2 ^ 32 := by omega
  have h3 : a.toNat &&& b.toNat < 2 ^ 32 := Nat.lt_of_le_of_lt Nat.and_le_left h1
  rw [Int32.toBitVec_and, BitVec.toNat_and, pk_tn h1, pk_tn h2, pk_tn h3]
theorem zi_or {a b : Int} (h : (0 ≤ a ∧ a < 2147483648) ∧ (0 ≤ b ∧ b < 2147483648)) : zi a ||| zi b = zi (zor a b) := by
  rw [zi_bv h.1.1, zi_bv h.2.1, zor, zi_nat]
  apply Int32.toBitVec_inj.mp
  apply BitVec.eq_of_toNat_eq
  have h1 : a.toNat < 2 ^ 32 := by omega
  have h2 : b.toNat < 2 ^ 32 := by omega
  have h3 : a.toNat ||| b.toNat < 2 ^ 32 := Nat.or_lt_two_pow h1 h2
  rw [Int32.toBitVec_or, BitVec.toNat_or, pk_tn h1, pk_tn h2, pk_tn h3]
theorem zi_xor {a b : Int} (h : (0 ≤ a ∧ a < 2147483648) ∧ (0 ≤ b ∧ b < 2147483648)) : zi a ^^^ zi b = zi (zxor a b) := by
  rw [zi_bv h.1.1, zi_bv h.2.1, zxor, zi_nat]
  apply Int32.toBitVec_inj.mp
  apply BitVec.eq_of_toNat_eq
  have h1 : a.toNat < 2 ^ 32 := by omega
  have h2 : b.toNat < 2 ^ 32 := by omega
  have h3 : a.toNat ^^^ b.toNat < 2 ^ 32 := Nat.xor_lt_two_pow h1 h2
  rw [Int32.toBitVec_xor, BitVec.toNat_xor, pk_tn h1, pk_tn h2, pk_tn h3]
theorem zi_smod {k : Nat} (h : k < 32) : ((nI k).toBitVec.smod 32).toNat = k := by
  have key : ∀ k, k < 32 → ((nI k).toBitVec.smod 32).toNat = k := by decide +kernel
  exact key k h
theorem zi_shr {a k : Int} (h : (0 ≤ a ∧ a < 2147483648) ∧ (0 ≤ k ∧ k < 32)) : zi a >>> zi k = zi (a / zpw k) := by
  rw [zi_bv h.1.1, zi_bv h.2.1, pk_shrN (by omega) _ _ (zi_smod (by omega)), ← zi_nat]
  congr 1
  rw [zpw, Int.natCast_ediv, Int.toNat_of_nonneg h.1.1]
theorem zi_shl {a k : Int} (h : (0 ≤ a ∧ a * zpw k < 2147483648) ∧ (0 ≤ k ∧ k < 32)) : zi a <<< zi k = zi (a * zpw k) := by
  have e : (a.toNat : Int) = a := Int.toNat_of_nonneg h.1.1
  have h3 : a.toNat * 2 ^ k.toNat < 2 ^ 32 := by
    have h4 := h.1.2
    rw [zpw, ← e, ← Int.natCast_mul] at h4
    omega
  rw [zi_bv h.1.1, zi_bv h.2.1, pk_shlN _ _ (zi_smod (by omega)) h3, ← zi_nat]
  congr 1
  rw [Int.natCast_mul, e]
  rfl
/-! the world of a walk: a list of segments, each a list of cells -/
def ix {α : Type} : List α → Nat → Option α
  | [], _ => none
  | a :: _, 0 => some a
  | _ :: l, n + 1 => ix l n
theorem ix_get {α : Type} : ∀ (l : List α) (i : Nat), ix l i = l[i]?
  | [], _ => rfl
  | _ :: _, 0 => rfl
  | _ :: l, i + 1 => by rw [List.getElem?_cons_succ]; exact ix_get l i
/-- the segments at some places -/
def pk (sg : List va_W) : List Nat → List va_W
  | [] => []
  | i :: is => (ix sg i).getD [] :: pk sg is
theorem pk_map (sg : List va_W) : ∀ is, pk sg is = is.map (fun i => (ix sg i).getD [])
  | [] => rfl
  | i :: is => by rw [pk, pk_map sg is]; rfl
theorem pk_range (sg : List va_W) : pk sg (List.range sg.length) = sg := by
  rw [pk_map]
  apply List.ext_getElem?
  intro n
  rw [List.getElem?_map]
  by_cases h : n < sg.length
  · rw [List.getElem?_range h, List.getElem?_eq_getElem h]
    show some ((ix sg n).getD []) = _
    rw [ix_get, List.getElem?_eq_getElem h]
    rfl
  · rw [List.getElem?_eq_none (by simpa using h), List.getElem?_eq_none (by omega)]
    rfl
def WP (D : va_G) (A : Nat → Prop) (ws : va_W) (H : Heap) : Prop := va_P D vwCl ws H ∧ va_D A ws
theorem va_P_mem {D : va_G} {cl : List vw_C} {ws : va_W} {H : Heap} : va_P D cl ws H ↔ ∀ q ∈ ws, va_at D cl q H :=
  ⟨fun h q hq => by obtain ⟨k, hk⟩ := List.getElem?_of_mem hq; exact h k q hk, fun h k q hk => h q (List.mem_of_getElem? hk)⟩
theorem va_D_nd {A : Nat → Prop} {ws : va_W} : va_D A ws ↔ (ws.map (fun q => q.1)).Nodup ∧ ∀ q ∈ ws, A q.1 := by
  constructor
  · intro h
    refine ⟨?_, fun q hq => by obtain ⟨k, hk⟩ := List.getElem?_of_mem hq; exact h.2 k q hk⟩
    show List.Pairwise (· ≠ ·) _
    rw [List.pairwise_iff_getElem]
    intro i j hi hj hij e
    rw [List.length_map] at hi hj
    rw [List.getElem_map, List.getElem_map] at e
    have := h.1 i j ws[i] ws[j] (List.getElem?_eq_getElem hi) (List.getElem?_eq_getElem hj) e
    omega
  · rintro ⟨h, hA⟩
    refine ⟨fun i j p q hi hj e => ?_, fun k q hk => hA q (List.mem_of_getElem? hk)⟩
    have h' : List.Pairwise (· ≠ ·) (ws.map (fun q => q.1)) := h
    rw [List.pairwise_iff_getElem] at h'
    obtain ⟨li, ei⟩ := List.getElem?_eq_some_iff.mp hi
    obtain ⟨lj, ej⟩ := List.getElem?_eq_some_iff.mp hj
    have fi : (ws.map (fun q => q.1))[i]'(by rw [List.length_map]; exact li) = p.1 := by rw [List.getElem_map, ei]
    have fj : (ws.map (fun q => q.1))[j]'(by rw [List.length_map]; exact lj) = q.1 := by rw [List.getElem_map, ej]
    rcases Nat.lt_or_ge i j with z | z
    · exact absurd (by rw [fi, fj, e]) (h' i j (by rw [List.length_map]; exact li) (by rw [List.length_map]; exact lj) z)
    · rcases Nat.lt_or_eq_of_le z with z | z
      · exact absurd (by rw [fi, fj, e]) (h' j i (by rw [List.length_map]; exact lj) (by rw [List.length_map]; exact li) z)
      · exact z.symm
theorem WP_perm {D : va_G} {A : Nat → Prop} {w1 w2 : va_W} {H : Heap} (hp : w1.Perm w2) (h : WP D A w1 H) : WP D A w2 H := by
  obtain ⟨hP, hD⟩ := h
  rw [va_P_mem] at hP
  rw [va_D_nd] at hD
  refine ⟨va_P_mem.mpr fun q hq => hP q (hp.mem_iff.mpr hq), va_D_nd.mpr ⟨(hp.map _).nodup_iff.mp hD.1, fun q hq => hD.2 q (hp.mem_iff.mpr hq)⟩⟩
theorem flat_perm {a b : List va_W} (h : a.Perm b) : a.flatten.Perm b.flatten := h.flatten
def WD (D : va_G) (A : Nat → Prop) (H0 : Heap) (sg : List va_W) (H : Heap) (locs : List Loc) : Prop := WP D A sg.flatten H ∧ va_S A H0 H locs ∧ ∀ q : Nat, H0.size ≤ q → A q
theorem pk_perm {sg : List va_W} {is : List Nat} {n : Nat} (hn : sg.length = n) (hp : is.Perm (List.range n)) : (pk sg is).flatten.Perm sg.flatten := by
  subst hn
  have h1 : (pk sg is).Perm (pk sg (List.range sg.length)) := by
    rw [pk_map, pk_map]
    exact hp.map _
  rw [pk_range] at h1
  exact flat_perm h1
theorem pk_app (sg : List va_W) (a b : List Nat) : pk sg (a ++ b) = pk sg a ++ pk sg b := by rw [pk_map, pk_map, pk_map, List.map_append]
abbrev tyL (cy : Nat → ClassId) : List (ClassId × FieldType) := [(cy 0, .int), (cy 1, .byte), (cy 2, .boolean), (cy 3, .object "LeftBehind$Isle")]
/-- the called one's cells in front -/
theorem wd_front {D : va_G} {A : Nat → Prop} {H0 H : Heap} {sg wc wr : List va_W} {locs : List Loc} (Wd : WD D A H0 sg H locs) {isC isR : List Nat} {n : Nat} (hn : sg.length = n) (hp : (isC ++ isR).Perm (List.range n)) (hC : pk sg isC = wc) (hR : pk sg isR = wr) : WP D A (wc.flatten ++ wr.flatten) H := by
  have h := pk_perm hn hp
  rw [pk_app, hC, hR, List.flatten_append] at h
  exact WP_perm h.symm Wd.1
theorem WP_left {D : va_G} {A : Nat → Prop} {a b : va_W} {H : Heap} (h : WP D A (a ++ b) H) : WP D A a H := by
  obtain ⟨hP, hD⟩ := h
  rw [va_P_mem] at hP
  rw [va_D_nd, List.map_append, List.nodup_append] at hD
  exact ⟨va_P_mem.mpr fun q hq => hP q (List.mem_append_left _ hq), va_D_nd.mpr ⟨hD.1.1, fun q hq => hD.2 q (List.mem_append_left _ hq)⟩⟩
theorem va_A_mem {ws : va_W} {sz q : Nat} : va_A ws sz q ↔ (∃ c ∈ ws, c.1 = q) ∨ sz ≤ q := by
  constructor
  · rintro (⟨k, e, h⟩ | h)
    · exact Or.inl ⟨(q, e), List.mem_of_getElem? h, rfl⟩
    · exact Or.inr h
  · rintro (⟨c, hc, rfl⟩ | h)
    · obtain ⟨k, hk⟩ := List.getElem?_of_mem hc
      exact Or.inl ⟨k, c.2, hk⟩
    · exact Or.inr h
theorem WP_free {D : va_G} {A : Nat → Prop} {H0 H : Heap} {a b : va_W} {locs : List Loc} (h : WP D A (a ++ b) H) (hS : va_S A H0 H locs) (hA : ∀ q : Nat, H0.size ≤ q → A q) : ∀ q, va_A a H.size q → A q := by
  intro q hq
  rcases va_A_mem.mp hq with ⟨c, hc, rfl⟩ | hq
  · exact (va_D_nd.mp h.2).2 c (List.mem_append_left _ hc)
  · exact hA q (Nat.le_trans hS.1 hq)
/-- behind a call: the called one's new cells in front of the others -/
theorem WP_call {D : va_G} {A : Nat → Prop} {H H1 : Heap} {a a1 b : va_W} (h : WP D A (a ++ b) H) (hF : ∀ q, va_A a H.size q → A q) (hP1 : va_P D vwCl a1 H1) (hD1 : va_D (va_A a H.size) a1) (hk1 : ∀ q : Nat, q < H.size → ¬ va_A a H.size q → H1[q]? = H[q]?) : WP D A (a1 ++ b) H1 := by
  obtain ⟨hP, hD⟩ := h
  have hnd := (va_D_nd.mp hD)
  rw [List.map_append, List.nodup_append] at hnd
  have ap : ∀ q ∈ b, q.1 < H.size ∧ ¬ va_A a H.size q.1 := by
    intro q hq
    have hl : q.1 < H.size := (va_P_mem.mp hP q (List.mem_append_right _ hq)).lt
    refine ⟨hl, fun z => ?_⟩
    rcases va_A_mem.mp z with ⟨c, hc, e⟩ | z
    · exact hnd.1.2.2 c.1 (List.mem_map_of_mem hc) q.1 (List.mem_map_of_mem hq) e
    · omega
  have hd1 := va_D_nd.mp hD1
  refine ⟨va_P_mem.mpr fun q hq => ?_, va_D_nd.mpr ⟨?_, fun q hq => ?_⟩⟩
  · rcases List.mem_append.mp hq with z | z
    · exact va_P_mem.mp hP1 q z
    · exact (va_P_mem.mp hP q (List.mem_append_right _ z)).kept (hk1 q.1 (ap q z).1 (ap q z).2)
  · rw [List.map_append, List.nodup_append]
    refine ⟨hd1.1, hnd.1.2.1, fun x hx y hy e => ?_⟩
    obtain ⟨c, hc, rfl⟩ := List.mem_map.mp hx
    obtain ⟨d, hd, rfl⟩ := List.mem_map.mp hy
    exact (ap d hd).2 (e ▸ hd1.2 c hc)
  · rcases List.mem_append.mp hq with z | z
    · exact hF q.1 (hd1.2 q z)
    · exact hnd.2 q (List.mem_append_right _ z)
theorem wd_back {D : va_G} {A : Nat → Prop} {H0 H1 : Heap} {sg wc wr : List va_W} {locs : List Loc} {isC isR : List Nat} {n : Nat} (hn : sg.length = n) (hp : (isC ++ isR).Perm (List.range n)) (hC : pk sg isC = wc) (hR : pk sg isR = wr) (h : WP D A (wc.flatten ++ wr.flatten) H1) (hS : va_S A H0 H1 locs) (hA : ∀ q : Nat, H0.size ≤ q → A q) : WD D A H0 sg H1 locs := by
  have z := pk_perm hn hp
  rw [pk_app, hC, hR, List.flatten_append] at z
  exact ⟨WP_perm z h, hS, hA⟩
/-- a cell by segment and place -/
theorem flat_at : ∀ (sg : List va_W) (i j : Nat) (w : va_W) (x : Nat × va_E), ix sg i = some w → ix w j = some x → ∃ k : Nat, sg.flatten[k]? = some x ∧ ∀ y, sg.flatten.set k y = (sg.set i (w.set j y)).flatten
  | [], _, _, _, _, h, _ => by cases h
  | a :: sg, 0, j, w, x, h, hx => by
    cases h
    rw [ix_get] at hx
    have hj := (List.getElem?_eq_some_iff.mp hx).1
    refine ⟨j, ?_, fun y => ?_⟩
    · rw [List.flatten_cons, List.getElem?_append_left hj]
      exact hx
    · rw [List.flatten_cons, List.set_append_left _ _ hj, List.set_cons_zero, List.flatten_cons]
  | a :: sg, i + 1, j, w, x, h, hx => by
    obtain ⟨k, h1, h2⟩ := flat_at sg i j w x h hx
    refine ⟨a.length + k, ?_, fun y => ?_⟩
    · rw [List.flatten_cons, List.getElem?_append_right (by omega), Nat.add_sub_cancel_left]
      exact h1
    · rw [List.flatten_cons, List.set_append_right _ _ (by omega), Nat.add_sub_cancel_left, h2, List.set_cons_succ, List.flatten_cons]
/-- another order, or a change of writing, of the segments -/
theorem WD.eqv {D : va_G} {A : Nat → Prop} {H0 H : Heap} {a b : List va_W} {locs : List Loc} (Wd : WD D A H0 a H locs) (is : List Nat) {n : Nat} (hn : a.length = n) (hp : is.Perm (List.range n)) (h : pk a is = b) : WD D A H0 b H locs := by
  have z := pk_perm hn hp
  rw [h] at z
  exact ⟨WP_perm z.symm Wd.1, Wd.2⟩
