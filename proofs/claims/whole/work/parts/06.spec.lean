/-! numbers that both sides are tied to -/
theorem z_bl {z : Int} {P N : Prop} (h : (z = 1 ∧ P) ∨ (z = 0 ∧ N)) : narrow .boolean (.int (zi z)) = .int (zi z) := z_bool (h.elim (fun q => Or.inr q.1) (fun q => Or.inl q.1))
def fI {α : Type} (f : Int → α → α) (a : α) : Nat → α
  | 0 => a
  | k + 1 => f (k : Int) (fI f a k)
def fZ {α : Type} (f : Int → α → α) (a : α) (m : Int) : α := fI f a m.toNat
theorem fZ_0 {α : Type} (f : Int → α → α) (a : α) : fZ f a 0 = a := rfl
theorem fZ_s {α : Type} (f : Int → α → α) (a : α) {m : Int} (h : 0 ≤ m) : fZ f a (m + 1) = f m (fZ f a m) := by
  obtain ⟨k, rfl⟩ := Int.eq_ofNat_of_zero_le h
  rfl
theorem fZ_ind {α : Type} {f : Int → α → α} {a : α} {P : Int → α → Prop} (h0 : P 0 a) {M : Int} (hs : ∀ k x, 0 ≤ k → k < M → P k x → P (k + 1) (f k x)) : ∀ m, 0 ≤ m → m ≤ M → P m (fZ f a m) := by
  intro m h1
  obtain ⟨k, rfl⟩ := Int.eq_ofNat_of_zero_le h1
  clear h1
  induction k with
  | zero => intro _; exact h0
  | succ k ih =>
    intro h2
    have e : ((k + 1 : Nat) : Int) = (k : Int) + 1 := by omega
    rw [e] at h2 ⊢
    rw [fZ_s f a (by omega)]
    exact hs _ _ (by omega) (by omega) (ih (by omega))
theorem fZ_rel {α β : Type} {f : Int → α → α} {g : Int → β → β} {a : α} {b : β} {P : Int → α → β → Prop} (h0 : P 0 a b) {M : Int} (hs : ∀ k x y, 0 ≤ k → k < M → P k x y → P (k + 1) (f k x) (g k y)) : ∀ m, 0 ≤ m → m ≤ M → P m (fZ f a m) (fZ g b m) := by
  intro m h1
  obtain ⟨k, rfl⟩ := Int.eq_ofNat_of_zero_le h1
  clear h1
  induction k with
  | zero => intro _; exact h0
  | succ k ih =>
    intro h2
    have e : ((k + 1 : Nat) : Int) = (k : Int) + 1 := by omega
    rw [e] at h2 ⊢
    rw [fZ_s f a (by omega), fZ_s g b (by omega)]
    exact hs _ _ _ (by omega) (by omega) (ih (by omega))
/-- how many k below m have f k = v -/
def cntZ (f : Int → Int) (v m : Int) : Int := fZ (fun k n => n + if f k = v then 1 else 0) 0 m
theorem cntZ_0 (f : Int → Int) (v : Int) : cntZ f v 0 = 0 := rfl
theorem cntZ_s (f : Int → Int) (v : Int) {m : Int} (h : 0 ≤ m) : cntZ f v (m + 1) = cntZ f v m + if f m = v then 1 else 0 := fZ_s _ _ h
theorem cntZ_b (f : Int → Int) (v : Int) {m : Int} (h : 0 ≤ m) : 0 ≤ cntZ f v m ∧ cntZ f v m ≤ m :=
  fZ_ind (P := fun k n => 0 ≤ n ∧ n ≤ k) ⟨by omega, by omega⟩ (M := m) (fun k x h1 h2 h3 => by split <;> omega) m h (Int.le_refl m)
/-- the g k together, of k below m with f k = v -/
def sumZ (f g : Int → Int) (v m : Int) : Int := fZ (fun k n => n + if f k = v then g k else 0) 0 m
theorem sumZ_0 (f g : Int → Int) (v : Int) : sumZ f g v 0 = 0 := rfl
theorem sumZ_s (f g : Int → Int) (v : Int) {m : Int} (h : 0 ≤ m) : sumZ f g v (m + 1) = sumZ f g v m + if f m = v then g m else 0 := fZ_s _ _ h
theorem sumZ_b (f g : Int → Int) (v : Int) {m : Int} (h : 0 ≤ m) {b : Int} (hg : ∀ j, 0 ≤ g j ∧ g j ≤ b) : 0 ≤ sumZ f g v m ∧ sumZ f g v m ≤ b * m := by
  refine fZ_ind (P := fun k n => 0 ≤ n ∧ n ≤ b * k) ⟨by omega, by simp⟩ (M := m) (fun k x h1 h2 h3 => ?_) m h (Int.le_refl m)
  have hb := hg k
  rw [Int.mul_add, Int.mul_one]
  split <;> omega
/-- bits of those k below m with f k = v -/
def bitZ (f : Int → Int) (v m : Int) : Int := fZ (fun k n => n + if f k = v then zpw k else 0) 0 m
theorem bitZ_0 (f : Int → Int) (v : Int) : bitZ f v 0 = 0 := rfl
theorem bitZ_s (f : Int → Int) (v : Int) {m : Int} (h : 0 ≤ m) : bitZ f v (m + 1) = bitZ f v m + if f m = v then zpw m else 0 := fZ_s _ _ h
theorem zpw_0 : zpw 0 = 1 := rfl
theorem zpw_s {m : Int} (h : 0 ≤ m) : zpw (m + 1) = 2 * zpw m := by
  obtain ⟨k, rfl⟩ := Int.eq_ofNat_of_zero_le h
  show ((2 ^ (k + 1) : Nat) : Int) = 2 * ((2 ^ k : Nat) : Int)
  rw [Nat.pow_succ, Nat.mul_comm]
  omega
theorem zpw_pos (m : Int) : 1 ≤ zpw m := by
  have : 0 < 2 ^ m.toNat := Nat.two_pow_pos _
  unfold zpw
  omega
theorem zpw_le {a b : Int} (h : a ≤ b) : zpw a ≤ zpw b := by
  have : 2 ^ a.toNat ≤ 2 ^ b.toNat := Nat.pow_le_pow_right (by decide) (by omega)
  unfold zpw
  omega
theorem bitZ_b (f : Int → Int) (v : Int) {m : Int} (h : 0 ≤ m) : 0 ≤ bitZ f v m ∧ bitZ f v m < zpw m := by
  refine fZ_ind (P := fun k n => 0 ≤ n ∧ n < zpw k) ⟨by omega, by decide⟩ (M := m) (fun k x h1 h2 h3 => ?_) m h (Int.le_refl m)
  rw [zpw_s h1]
  split <;> omega
/-- a number and a bit above it -/
theorem zor_pw {x k : Int} (h : 0 ≤ x ∧ x < zpw k) : zor x (zpw k) = x + zpw k := by
  have h1 : x.toNat < 2 ^ k.toNat := by have := h.2; unfold zpw at this; omega
  have h2 : (zpw k).toNat = 2 ^ k.toNat := by unfold zpw; omega
  unfold zor
  have h3 := Nat.two_pow_add_eq_or_of_lt h1 1
  rw [Nat.mul_one] at h3
  rw [h2, Nat.or_comm, ← h3]
  unfold zpw
  omega
theorem zor_0 {x : Int} (h : 0 ≤ x) : zor x 0 = x := by
  unfold zor
  simp
  omega
/-- bit k -/
def zbt (x k : Int) : Int := x / zpw k % 2
theorem zand_1 {x : Int} (h : 0 ≤ x) : zand x 1 = x % 2 := by
  unfold zand
  rw [show (1 : Int).toNat = 1 from rfl, Nat.and_one_is_mod]
  omega
/-- how many bits are set, below m -/
def popZ (x m : Int) : Int := fZ (fun k n => n + zbt x k) 0 m
theorem popZ_0 (x : Int) : popZ x 0 = 0 := rfl
theorem popZ_s (x : Int) {m : Int} (h : 0 ≤ m) : popZ x (m + 1) = popZ x m + zbt x m := fZ_s _ _ h
/-- what a ship needs, how liked a man is -/
def needZ (kind d n : Int) : Int :=
  if kind = 1 then 2 * d + 4 else if kind = 2 then d else if kind = 3 then (if 2 * d + 4 - 2 * n < 1 then 1 else 2 * d + 4 - 2 * n)
  else if kind = 4 then (if 4 ≤ n then 2 * d + 5 else 2 * d) else if kind = 5 then (if n ≤ 2 ∧ 9 < d then 9 else d) else 2 * d
def likedZ (kind s c : Int) : Int :=
  if kind = 1 then s + 5 else if kind = 2 then (if c < s then s - c else 0) else if kind = 3 then (if 2 ≤ c then 2 * (s + 5) else s + 5)
  else if kind = 4 then (if c < 3 then 0 else s) else if kind = 5 then (if c % 5 = 4 then 0 else (if c < s then s - c else 0) + 9) else s
theorem needZ_b (kind : Int) {d n : Int} (hd : 1 ≤ d ∧ d ≤ 30) (hn : 0 ≤ n ∧ n ≤ 99) : 1 ≤ needZ kind d n ∧ needZ kind d n ≤ 65 := by
  unfold needZ
  repeat' split
  all_goals omega
theorem likedZ_b (kind : Int) {s c : Int} (hs : 0 ≤ s ∧ s ≤ 9) (hc : 0 ≤ c ∧ c ≤ 99) : 0 ≤ likedZ kind s c ∧ likedZ kind s c ≤ 28 := by
  unfold likedZ
  repeat' split
  all_goals omega
/-- who is liked least (of like ones the first) of those k below m with f k = v; -1: nobody -/
def lstZ (f g : Int → Int) (v m : Int) : Int := fZ (fun k b => if f k = v ∧ (b = -1 ∨ g k < g b) then k else b) (-1) m
theorem lstZ_0 (f g : Int → Int) (v : Int) : lstZ f g v 0 = -1 := rfl
theorem lstZ_s (f g : Int → Int) (v : Int) {m : Int} (h : 0 ≤ m) : lstZ f g v (m + 1) = if f m = v ∧ (lstZ f g v m = -1 ∨ g m < g (lstZ f g v m)) then m else lstZ f g v m := fZ_s _ _ h
theorem lstZ_b (f g : Int → Int) (v : Int) {m : Int} (h : 0 ≤ m) : lstZ f g v m = -1 ∨ (0 ≤ lstZ f g v m ∧ lstZ f g v m < m ∧ f (lstZ f g v m) = v) :=
  fZ_ind (P := fun k b => b = -1 ∨ (0 ≤ b ∧ b < k ∧ f b = v)) (Or.inl rfl) (M := m) (fun k x h1 h2 h3 => by
    split
    · rename_i q
      exact Or.inr ⟨h1, by omega, q.1⟩
    · rcases h3 with h3 | h3
      · exact Or.inl h3
      · exact Or.inr ⟨h3.1, by omega, h3.2.2⟩) m h (Int.le_refl m)
