/-! what fits what was seen, noted, marked; the first best -/
/-- 1: all rows below n of i are so, by a skill (rows of four: whose, calls, the least other's, left or not) -/
def okZ (f : Int → Int) (kd i t n : Int) : Int := fZ (fun k x => if f (4 * k) = i → (likedZ kd t (f (4 * k + 1)) ≤ f (4 * k + 2) ↔ f (4 * k + 3) = 1) then x else 0) 1 n
theorem okZ_0 (f : Int → Int) (kd i t : Int) : okZ f kd i t 0 = 1 := rfl
theorem okZ_s (f : Int → Int) (kd i t : Int) {n : Int} (h : 0 ≤ n) : okZ f kd i t (n + 1) = if f (4 * n) = i → (likedZ kd t (f (4 * n + 1)) ≤ f (4 * n + 2) ↔ f (4 * n + 3) = 1) then okZ f kd i t n else 0 := fZ_s _ _ h
theorem okZ_b (f : Int → Int) (kd i t : Int) {n : Int} (h : 0 ≤ n) : okZ f kd i t n = 0 ∨ okZ f kd i t n = 1 :=
  fZ_ind (P := fun _ x => x = 0 ∨ x = 1) (Or.inr rfl) (M := n) (fun k x _ _ q => by split; exact q; exact Or.inl rfl) n h (Int.le_refl n)
theorem fZ_stay {f : Int → Int → Int} {a v : Int} (hs : ∀ k, f k v = v) {m n : Int} (hm : 0 ≤ m) (h : fZ f a m = v) (hn : m ≤ n) : fZ f a n = v := by
  obtain ⟨d, e⟩ := Int.eq_ofNat_of_zero_le (show 0 ≤ n - m by omega)
  have e2 : n = m + d := by omega
  subst e2
  clear hn e
  induction d with
  | zero => simpa using h
  | succ d ih =>
    have e : m + ((d + 1 : Nat) : Int) = (m + d) + 1 := by omega
    rw [e, fZ_s _ _ (by omega), ih, hs]
theorem okZ_stay {f : Int → Int} {kd i t m n : Int} (hm : 0 ≤ m) (h : okZ f kd i t m = 0) (hn : m ≤ n) : okZ f kd i t n = 0 :=
  fZ_stay (fun k => by split <;> rfl) hm h hn
/-- 1: all rows below n of i are so, by a value of two numbers -/
def fitZ (f : Int → Int) (val : Int → Int → Int) (i n : Int) : Int := fZ (fun k x => if f (4 * k) = i → val (f (4 * k + 1)) (f (4 * k + 2)) = f (4 * k + 3) then x else 0) 1 n
theorem fitZ_0 (f : Int → Int) (val : Int → Int → Int) (i : Int) : fitZ f val i 0 = 1 := rfl
theorem fitZ_s (f : Int → Int) (val : Int → Int → Int) (i : Int) {n : Int} (h : 0 ≤ n) : fitZ f val i (n + 1) = if f (4 * n) = i → val (f (4 * n + 1)) (f (4 * n + 2)) = f (4 * n + 3) then fitZ f val i n else 0 := fZ_s _ _ h
theorem fitZ_b (f : Int → Int) (val : Int → Int → Int) (i : Int) {n : Int} (h : 0 ≤ n) : fitZ f val i n = 0 ∨ fitZ f val i n = 1 :=
  fZ_ind (P := fun _ x => x = 0 ∨ x = 1) (Or.inr rfl) (M := n) (fun k x _ _ q => by split; exact q; exact Or.inl rfl) n h (Int.le_refl n)
theorem fitZ_stay {f : Int → Int} {val : Int → Int → Int} {i m n : Int} (hm : 0 ≤ m) (h : fitZ f val i m = 0) (hn : m ≤ n) : fitZ f val i n = 0 :=
  fZ_stay (fun k => by split <;> rfl) hm h hn
def noteB (f : Int → Int) (i n m : Int) : Int := bitZ (fun kd => fitZ f (needZ kd) i n) 1 m
def markB (f : Int → Int) (i n m : Int) : Int := bitZ (fun kd => fitZ f (likedZ kd) i n) 1 m
/-- the skills that fit (1: fits; 0 isn't a skill) -/
def okS (f : Int → Int) (kd i n : Int) : Int → Int := fun t => if 1 ≤ t then okZ f kd i t n else 0
/-- the first and the last k below m with f k = 1 -/
def fstZ (f : Int → Int) (m : Int) : Int := fZ (fun k b => if b = -1 ∧ f k = 1 then k else b) (-1) m
def lasZ (f : Int → Int) (m : Int) : Int := fZ (fun k b => if f k = 1 then k else b) (-1) m
theorem fstZ_s (f : Int → Int) {m : Int} (h : 0 ≤ m) : fstZ f (m + 1) = if fstZ f m = -1 ∧ f m = 1 then m else fstZ f m := fZ_s _ _ h
theorem lasZ_s (f : Int → Int) {m : Int} (h : 0 ≤ m) : lasZ f (m + 1) = if f m = 1 then m else lasZ f m := fZ_s _ _ h
theorem fstZ_b (f : Int → Int) {m : Int} (h : 0 ≤ m) : -1 ≤ fstZ f m ∧ (fstZ f m < m ∨ fstZ f m = -1) :=
  fZ_ind (P := fun k x => -1 ≤ x ∧ (x < k ∨ x = -1)) ⟨by omega, Or.inr rfl⟩ (M := m) (fun k x h1 h2 q => by split <;> omega) m h (Int.le_refl m)
/-- like answers: how many of the set's answer as a does; the most -/
def likeZ (t : Int → Int) (x a m : Int) : Int := fZ (fun b n => if zbt x b = 1 ∧ t a = t b then n + 1 else n) 0 m
theorem likeZ_s (t : Int → Int) (x a : Int) {m : Int} (h : 0 ≤ m) : likeZ t x a (m + 1) = if zbt x m = 1 ∧ t a = t m then likeZ t x a m + 1 else likeZ t x a m := fZ_s _ _ h
theorem likeZ_b (t : Int → Int) (x a : Int) {m : Int} (h : 0 ≤ m) : 0 ≤ likeZ t x a m ∧ likeZ t x a m ≤ m :=
  fZ_ind (P := fun k n => 0 ≤ n ∧ n ≤ k) ⟨by omega, by omega⟩ (M := m) (fun k x h1 h2 h3 => by split <;> omega) m h (Int.le_refl m)
def topZ (t : Int → Int) (x m : Int) : Int := fZ (fun a n => max n (if zbt x a = 1 then likeZ t x a 6 else 0)) 0 m
theorem topZ_s (t : Int → Int) (x : Int) {m : Int} (h : 0 ≤ m) : topZ t x (m + 1) = max (topZ t x m) (if zbt x m = 1 then likeZ t x m 6 else 0) := fZ_s _ _ h
theorem topZ_b (t : Int → Int) (x : Int) {m : Int} (h : 0 ≤ m) : 0 ≤ topZ t x m ∧ topZ t x m ≤ 6 :=
  fZ_ind (P := fun _ n => 0 ≤ n ∧ n ≤ 6) ⟨by omega, by omega⟩ (M := m) (fun k n h1 h2 h3 => by
    have := likeZ_b t x k (m := 6) (by omega)
    split <;> omega) m h (Int.le_refl m)
/-- the first j below n whose key is least (and above 0): what it is told as, and its key -/
def bstZ (key enc : Int → Int) (f0 n : Int) : Int × Int := fZ (fun j x => if 0 < key j ∧ key j < x.2 then (enc j, key j) else x) (-1, f0) n
theorem bstZ_0 (key enc : Int → Int) (f0 : Int) : bstZ key enc f0 0 = (-1, f0) := rfl
theorem bstZ_s (key enc : Int → Int) (f0 : Int) {n : Int} (h : 0 ≤ n) : bstZ key enc f0 (n + 1) = if 0 < key n ∧ key n < (bstZ key enc f0 n).2 then (enc n, key n) else bstZ key enc f0 n := fZ_s _ _ h
/-- by a skill: how many of those that fit are left, are not -/
def lvZ (ok : Int → Int) (kd c l m : Int) : Int := fZ (fun t x => if ok t = 1 ∧ likedZ kd t c ≤ l then x + 1 else x) 0 m
def ntZ (ok : Int → Int) (kd c l m : Int) : Int := fZ (fun t x => if ok t = 1 ∧ ¬ likedZ kd t c ≤ l then x + 1 else x) 0 m
theorem lvZ_s (ok : Int → Int) (kd c l : Int) {m : Int} (h : 0 ≤ m) : lvZ ok kd c l (m + 1) = if ok m = 1 ∧ likedZ kd m c ≤ l then lvZ ok kd c l m + 1 else lvZ ok kd c l m := fZ_s _ _ h
theorem ntZ_s (ok : Int → Int) (kd c l : Int) {m : Int} (h : 0 ≤ m) : ntZ ok kd c l (m + 1) = if ok m = 1 ∧ ¬ likedZ kd m c ≤ l then ntZ ok kd c l m + 1 else ntZ ok kd c l m := fZ_s _ _ h
theorem lvZ_b (ok : Int → Int) (kd c l : Int) {m : Int} (h : 0 ≤ m) : 0 ≤ lvZ ok kd c l m ∧ lvZ ok kd c l m ≤ m :=
  fZ_ind (P := fun k n => 0 ≤ n ∧ n ≤ k) ⟨by omega, by omega⟩ (M := m) (fun k x h1 h2 h3 => by split <;> omega) m h (Int.le_refl m)
theorem ntZ_b (ok : Int → Int) (kd c l : Int) {m : Int} (h : 0 ≤ m) : 0 ≤ ntZ ok kd c l m ∧ ntZ ok kd c l m ≤ m :=
  fZ_ind (P := fun k n => 0 ≤ n ∧ n ≤ k) ⟨by omega, by omega⟩ (M := m) (fun k x h1 h2 h3 => by split <;> omega) m h (Int.le_refl m)
def tellK (ok : Int → Int) (kd : Int) : Int → Int := fun j => max (lvZ ok kd (j / 31) (j % 31) 10) (ntZ ok kd (j / 31) (j % 31) 10)
def tellE : Int → Int := fun j => 100 * (j / 31) + j % 31
def lookK (x : Int) : Int → Int := fun j => topZ (fun kd => needZ kd (j / 9 + 1) (j % 9)) x 6
def lookE : Int → Int := fun j => 10 * (j / 9 + 1) + j % 9
def askK (t x : Int) : Int → Int := fun j => topZ (fun kd => likedZ kd t j) x 6
theorem likeZ_ext {t u : Int → Int} (x : Int) {a m : Int} (h0 : 0 ≤ m) (ha : t a = u a) (h : ∀ k, 0 ≤ k → k < m → t k = u k) : likeZ t x a m = likeZ u x a m :=
  fZ_rel (P := fun _ p q => p = q) rfl (M := m) (fun k p q h1 h2 e => by rw [ha, h k h1 h2, e]) m h0 (Int.le_refl m)
theorem topZ_ext {t u : Int → Int} (x : Int) (h : ∀ k, 0 ≤ k → k < 6 → t k = u k) : topZ t x 6 = topZ u x 6 :=
  fZ_rel (P := fun _ p q => p = q) rfl (M := 6) (fun k p q h1 h2 e => by rw [e, likeZ_ext x (by omega) (h k h1 h2) h]) 6 (by omega) (by omega)
