/-! what fits what was seen, noted, marked; the first best -/
/-- 1: all rows below n of i are so, by a skill (rows of four: whose, calls, the least other's, left or not) -/
def okZ (f : Int → Int) (kd i t n : Int) : Int := fZ (fun k x => if f (4 * k) = i → (likedZ kd t (f (4 * k + 1)) ≤ f (4 * k + 2) ↔ f (4 * k + 3) = 1) then x else 0) 1 n
theorem okZ_0 (f : Int → Int) (kd i t : Int) : okZ f kd i t 0 = 1 := rfl
theorem okZ_s (f : Int → Int) (kd i t : Int) {n : Int} (h : 0 ≤ n) : okZ f kd i t (n + 1) = if f (4 * n) = i → (likedZ kd t (f (4 * n + 1)) ≤ f (4 * n + 2) ↔ f (4 * n + 3) = 1) then okZ f kd i t n else 0 := fZ_s _ _ h
theorem okZ_b (f : Int → Int) (kd i t : Int) {n : Int} (h : 0 ≤ n) : okZ f kd i t n = 0 ∨ okZ f kd i t n = 1 :=
  fZ_ind (P := fun _ x => x = 0 ∨ x = 1) (Or.inr rfl) (M := n) (fun k x _ _ q => by split; exact q; exact Or.inl rfl) n h (Int.le_refl n)
theorem fZ_stay {f : Int → Int → Int} {a v : Int} (hs : ∀ k, f k v = v) {m n : Int} (hm : 0 ≤ m) (h : fZ f a m = v) (hn : m ≤ n) : fZ f a n = v := by
  obtain ⟨d, e⟩ := Int.eq_ofNat_of_zero_le (show 0 ≤ n - m by omega)
  have e2 : n = m + d := by omega
  subst e2
  clear hn e
  induction d with
  | zero => simpa using h
  | succ d ih =>
    have e : m + ((d + 1 : Nat) : Int) = (m + d) + 1 := by omega
    rw [e, fZ_s _ _ (by omega), ih, hs]
theorem okZ_stay {f : Int → Int} {kd i t m n : Int} (hm : 0 ≤ m) (h : okZ f kd i t m = 0) (hn : m ≤ n) : okZ f kd i t n = 0 :=
  fZ_stay (fun k => by split <;> rfl) hm h hn
/-- 1: all rows below n of i are so, by a value of two numbers -/
def fitZ (f : Int → Int) (val : Int → Int → Int) (i n : Int) : Int := fZ (fun k x => if f (4 * k) = i → val (f (4 * k + 1)) (f (4 * k + 2)) = f (4 * k + 3) then x else 0) 1 n
theorem fitZ_0 (f : Int → Int) (val : Int → Int → Int) (i : Int) : fitZ f val i 0 = 1 := rfl
theorem fitZ_s (f : Int → Int) (val : Int → Int → Int) (i : Int) {n : Int} (h : 0 ≤ n) : fitZ f val i (n + 1) = if f (4 * n) = i → val (f (4 * n + 1)) (f (4 * n + 2)) = f (4 * n + 3) then fitZ f val i n else 0 := fZ_s _ _ h
theorem fitZ_b (f : Int → Int) (val : Int → Int → Int) (i : Int) {n : Int} (h : 0 ≤ n) : fitZ f val i n = 0 ∨ fitZ f val i n = 1 :=
  fZ_ind (P := fun _ x => x = 0 ∨ x = 1) (Or.inr rfl) (M := n) (fun k x _ _ q => by split; exact q; exact Or.inl rfl) n h (Int.le_refl n)
theorem fitZ_stay {f : Int → Int} {val : Int → Int → Int} {i m n : Int} (hm : 0 ≤ m) (h : fitZ f val i m = 0) (hn : m ≤ n) : fitZ f val i n = 0 :=
  fZ_stay (fun k => by split <;> rfl) hm h hn
def noteB (f : Int → Int) (i n m : Int) : Int := bitZ (fun kd => fitZ f (needZ kd) i n) 1 m
def markB (f : Int → Int) (i n m : Int) : Int := bitZ (fun kd => fitZ f (likedZ kd) i n) 1 m
/-- the skills that fit (1: fits; 0 isn't a skill) -/
def okS (f : Int → Int) (kd i n : Int) : Int → Int := fun t => if 1 ≤ t then okZ f kd i t n else 0
/-- the first and the last k below m with f k = 1 -/
def fstZ (f : Int → Int) (m : Int) : Int := fZ (fun k b => if b = -1 ∧ f k = 1 then k else b) (-1) m
def lasZ (f : Int → Int) (m : Int) : Int := fZ (fun k b => if f k = 1 then k else b) (-1) m
theorem fstZ_s (f : Int → Int) {m : Int} (h : 0 ≤ m) : fstZ f (m + 1) = if fstZ f m = -1 ∧ f m = 1 then m else fstZ f m := fZ_s _ _ h
theorem lasZ_s (f : Int → Int) {m : Int} (h : 0 ≤ m) : lasZ f (m + 1) = if f m = 1 then m else lasZ f m := fZ_s _ _ h
theorem fstZ_b (f : Int → Int) {m : Int} (h : 0 ≤ m) : -1 ≤ fstZ f m ∧ (fstZ f m < m ∨ fstZ f m = -1) :=
  fZ_ind (P := fun k x => -1 ≤ x ∧ (x < k ∨ x = -1)) ⟨by omega, Or.inr rfl⟩ (M := m) (fun k x h1 h2 q => by split <;> omega) m h (Int.le_refl m)
/-- like answers: how many of the set's answer as a does; the most -/
def likeZ (t : Int → Int) (x a m : Int) : Int := fZ (fun b n => if zbt x b = 1 ∧ t a = t b then n + 1 else n) 0 m
theorem likeZ_s (t : Int → Int) (x a : Int) {m : Int} (h : 0 ≤ m) : likeZ t x a (m + 1) = if zbt x m = 1 ∧ t a = t m then likeZ t x a m + 1 else likeZ t x a m := fZ_s _ _ h
theorem likeZ_b (t : Int → Int) (x a : Int) {m : Int} (h : 0 ≤ m) : 0 ≤ likeZ t x a m ∧ likeZ t x a m ≤ m :=
  fZ_ind (P := fun k n => 0 ≤ n ∧ n ≤ k) ⟨by omega, by omega⟩ (M := m) (fun k x h1 h2 h3 => by split <;> omega) m h (Int.le_refl m)
def topZ (t : Int → Int) (x m : Int) : Int := fZ (fun a n => max n (if zbt x a = 1 then likeZ t x a 6 else 0)) 0 m
theorem topZ_s (t : Int → Int) (x : Int) {m : Int} (h : 0 ≤ m) : topZ t x (m + 1) = max (topZ t x m) (if zbt x m = 1 then likeZ t x m 6 else 0) := fZ_s _ _ h
theorem topZ_b (t : Int → Int) (x : Int) {m : Int} (h : 0 ≤ m) : 0 ≤ topZ t x m ∧ topZ t x m ≤ 6 :=
  fZ_ind (P := fun _ n => 0 ≤ n ∧ n ≤ 6) ⟨by omega, by omega⟩ (M := m) (fun k n h1 h2 h3 => by
    have := likeZ_b t x k (m := 6) (by omega)
    split <;> omega) m h (Int.le_refl m)
/-- the first j below n whose key is least (and above 0): what it is told as, and its key -/
def bstZ (key enc : Int → Int) (f0 n : Int) : Int × Int := fZ (fun j x => if 0 < key j ∧ key j < x.2 then (enc j, key j) else x) (-1, f0) n
theorem bstZ_0 (key enc : Int → Int) (f0 : Int) : bstZ key enc f0 0 = (-1, f0) := rfl
theorem bstZ_s (key enc : Int → Int) (f0 : Int) {n : Int} (h : 0 ≤ n) : bstZ key enc f0 (n + 1) = if 0 < key n ∧ key n < (bstZ key enc f0 n).2 then (enc n, key n) else bstZ key enc f0 n := fZ_s _ _ h
/-- by a skill: how many of those that fit are left, are not -/
def lvZ (ok : Int → Int) (kd c l m : Int) : Int := fZ (fun t x => if ok t = 1 ∧ likedZ kd t c ≤ l then x + 1 else x) 0 m
def ntZ (ok : Int → Int) (kd c l m : Int) : Int := fZ (fun t x => if ok t = 1 ∧ ¬ likedZ kd t c ≤ l then x + 1 else x) 0 m
theorem lvZ_s (ok : Int → Int) (kd c l : Int) {m : Int} (h : 0 ≤ m) : lvZ ok kd c l (m + 1) = if ok m = 1 ∧ likedZ kd m c ≤ l then lvZ ok kd c l m + 1 else lvZ ok kd c l m := fZ_s _ _ h
theorem ntZ_s (ok : Int → Int) (kd c l : Int) {m : Int} (h : 0 ≤ m) : ntZ ok kd c l (m + 1) = if ok m = 1 ∧ ¬ likedZ kd m c ≤ l then ntZ ok kd c l m + 1 else ntZ ok kd c l m := fZ_s _ _ h
theorem lvZ_b (ok : Int → Int) (kd c l : Int) {m : Int} (h : 0 ≤ m) : 0 ≤ lvZ ok kd c l m ∧ lvZ ok kd c l m ≤ m :=
  fZ_ind (P := fun k n => 0 ≤ n ∧ n ≤ k) ⟨by omega, by omega⟩ (M := m) (fun k x h1 h2 h3 => by split <;> omega) m h (Int.le_refl m)
theorem ntZ_b (ok : Int → Int) (kd c l : Int) {m : Int} (h : 0 ≤ m) : 0 ≤ ntZ ok kd c l m ∧ ntZ ok kd c l m ≤ m :=
  fZ_ind (P := fun k n => 0 ≤ n ∧ n ≤ k) ⟨by omega, by omega⟩ (M := m) (fun k x h1 h2 h3 => by split <;> omega) m h (Int.le_refl m)
def tellK (ok : Int → Int) (kd : Int) : Int → Int := fun j => max (lvZ ok kd (j / 31) (j % 31) 10) (ntZ ok kd (j / 31) (j % 31) 10)
def tellE : Int → Int := fun j => 100 * (j / 31) + j % 31
def lookK (x : Int) : Int → Int := fun j => topZ (fun kd => needZ kd (j / 9 + 1) (j % 9)) x 6
def lookE : Int → Int := fun j => 10 * (j / 9 + 1) + j % 9
def askK (t x : Int) : Int → Int := fun j => topZ (fun kd => likedZ kd t j) x 6
theorem likeZ_ext {t u : Int → Int} (x : Int) {a m : Int} (h0 : 0 ≤ m) (ha : t a = u a) (h : ∀ k, 0 ≤ k → k < m → t k = u k) : likeZ t x a m = likeZ u x a m :=
  fZ_rel (P := fun _ p q => p = q) rfl (M := m) (fun k p q h1 h2 e => by rw [ha, h k h1 h2, e]) m h0 (Int.le_refl m)
theorem topZ_ext {t u : Int → Int} (x : Int) (h : ∀ k, 0 ≤ k → k < 6 → t k = u k) : topZ t x 6 = topZ u x 6 :=
  fZ_rel (P := fun _ p q => p = q) rfl (M := 6) (fun k p q h1 h2 e => by rw [e, likeZ_ext x (by omega) (h k h1 h2) h]) 6 (by omega) (by omega)
def bstY (key enc : Int → Int) (f0 n : Int) : Int × Int := fZ (fun j x => if key j < x.2 then (enc j, key j) else x) (-1, f0) n
theorem bstY_0 (key enc : Int → Int) (f0 : Int) : bstY key enc f0 0 = (-1, f0) := rfl
theorem bstY_s (key enc : Int → Int) (f0 : Int) {n : Int} (h : 0 ≤ n) : bstY key enc f0 (n + 1) = if key n < (bstY key enc f0 n).2 then (enc n, key n) else bstY key enc f0 n := fZ_s _ _ h
theorem nat_ind1 {P : Int → Prop} (h1 : P 1) (hs : ∀ k, 1 ≤ k → P k → P (k + 1)) : ∀ n, 1 ≤ n → P n := by
  intro n hn
  obtain ⟨d, e⟩ := Int.eq_ofNat_of_zero_le (show 0 ≤ n - 1 by omega)
  have e2 : n = 1 + d := by omega
  subst e2
  clear hn e
  induction d with
  | zero => exact h1
  | succ d ih =>
    have e : (1 : Int) + ((d + 1 : Nat) : Int) = (1 + d) + 1 := by omega
    rw [e]
    exact hs _ (by omega) ih
theorem bstY_f0 {key enc : Int → Int} {f0 f1 : Int} (h0 : key 0 < f0) (h1 : key 0 < f1) : ∀ n, 1 ≤ n → bstY key enc f0 n = bstY key enc f1 n := by
  refine nat_ind1 ?_ (fun k hk e => ?_)
  · rw [show (1 : Int) = 0 + 1 by omega, bstY_s _ _ _ (by omega), bstY_s _ _ _ (by omega), bstY_0, bstY_0, if_pos h0, if_pos h1]
  · rw [bstY_s _ _ _ (by omega), bstY_s _ _ _ (by omega), e]
theorem bstZ_f0 {key enc : Int → Int} {f0 f1 : Int} (hp : 0 < key 0) (h0 : key 0 < f0) (h1 : key 0 < f1) : ∀ n, 1 ≤ n → bstZ key enc f0 n = bstZ key enc f1 n := by
  refine nat_ind1 ?_ (fun k hk e => ?_)
  · rw [show (1 : Int) = 0 + 1 by omega, bstZ_s _ _ _ (by omega), bstZ_s _ _ _ (by omega), bstZ_0, bstZ_0, if_pos ⟨hp, h0⟩, if_pos ⟨hp, h1⟩]
  · rw [bstZ_s _ _ _ (by omega), bstZ_s _ _ _ (by omega), e]
theorem zbt_b (x k : Int) : zbt x k = 0 ∨ zbt x k = 1 := by
  unfold zbt
  omega
theorem zshr_b {x : Int} (k : Int) (h : 0 ≤ x) : 0 ≤ x / zpw k ∧ x / zpw k ≤ x :=
  ⟨Int.ediv_nonneg h (by have := zpw_pos k; omega), Int.ediv_le_self _ h⟩
theorem zand_b {x y : Int} (h : 0 ≤ x) : 0 ≤ zand x y ∧ zand x y ≤ x := by
  unfold zand
  have : x.toNat &&& y.toNat ≤ x.toNat := Nat.and_le_left
  omega
theorem zand_odd {x y : Int} (hx : 0 ≤ x) (hy : 0 ≤ y) : (zand (zand x y) 1 = 1 ∧ x % 2 = 1 ∧ y % 2 = 1) ∨ (zand (zand x y) 1 = 0 ∧ ¬ (x % 2 = 1 ∧ y % 2 = 1)) := by
  rw [zand_1 (zand_b hx).1]
  have h := Nat.and_mod_two_pow (a := x.toNat) (b := y.toNat) (n := 1)
  have e : zand x y % 2 = (((x.toNat % 2 &&& y.toNat % 2 : Nat)) : Int) := by
    unfold zand
    rw [show (2 : Int) = ((2 : Nat) : Int) from rfl, ← Int.natCast_emod]
    congr 1
  rw [e]
  rcases Nat.mod_two_eq_zero_or_one x.toNat with h1 | h1 <;> rcases Nat.mod_two_eq_zero_or_one y.toNat with h2 | h2 <;> rw [h1, h2] <;> simp <;> omega
theorem tellK_at (ok : Int → Int) (kd : Int) {c l : Int} (hc : 0 ≤ c) (hl : 0 ≤ l ∧ l < 31) : tellK ok kd (31 * c + l) = max (lvZ ok kd c l 10) (ntZ ok kd c l 10) := by
  unfold tellK
  rw [show (31 * c + l) / 31 = c by omega, show (31 * c + l) % 31 = l by omega]
theorem tellE_at {c l : Int} (hc : 0 ≤ c) (hl : 0 ≤ l ∧ l < 31) : tellE (31 * c + l) = 100 * c + l := by
  unfold tellE
  omega
theorem lookK_at (x : Int) {d n : Int} (hn : 0 ≤ n ∧ n < 9) : lookK x (9 * (d - 1) + n) = topZ (fun kd => needZ kd d n) x 6 := by
  unfold lookK
  rw [show (9 * (d - 1) + n) / 9 + 1 = d by omega, show (9 * (d - 1) + n) % 9 = n by omega]
theorem lookE_at {d n : Int} (hn : 0 ≤ n ∧ n < 9) : lookE (9 * (d - 1) + n) = 10 * d + n := by
  unfold lookE
  omega
theorem okS_0 (f : Int → Int) (kd i n : Int) : okS f kd i n 0 = 0 := rfl
theorem okS_p (f : Int → Int) (kd i n : Int) {t : Int} (h : 1 ≤ t) : okS f kd i n t = okZ f kd i t n := by simp only [okS, if_pos h]
theorem lvZ_1 {ok : Int → Int} (kd c l : Int) (h : ok 0 = 0) : lvZ ok kd c l 1 = 0 := by
  rw [show (1 : Int) = 0 + 1 by omega, lvZ_s _ _ _ _ (by omega), if_neg (by omega)]; rfl
theorem ntZ_1 {ok : Int → Int} (kd c l : Int) (h : ok 0 = 0) : ntZ ok kd c l 1 = 0 := by
  rw [show (1 : Int) = 0 + 1 by omega, ntZ_s _ _ _ _ (by omega), if_neg (by omega)]; rfl
theorem cntZ_1 {ok : Int → Int} (h : ok 0 = 0) : cntZ ok 1 1 = 0 := by
  rw [show (1 : Int) = 0 + 1 by omega, cntZ_s _ _ (by omega), if_neg (by omega)]; rfl
theorem bitZ_1 {ok : Int → Int} (h : ok 0 = 0) : bitZ ok 1 1 = 0 := by
  rw [show (1 : Int) = 0 + 1 by omega, bitZ_s _ _ (by omega), if_neg (by omega)]; rfl
theorem fstZ_1 {ok : Int → Int} (h : ok 0 = 0) : fstZ ok 1 = -1 := by
  rw [show (1 : Int) = 0 + 1 by omega, fstZ_s _ (by omega), if_neg (by omega)]; rfl
theorem lasZ_1 {ok : Int → Int} (h : ok 0 = 0) : lasZ ok 1 = -1 := by
  rw [show (1 : Int) = 0 + 1 by omega, lasZ_s _ (by omega), if_neg (by omega)]; rfl
theorem lvnt (ok : Int → Int) (kd c l : Int) {m : Int} (h : 0 ≤ m) : lvZ ok kd c l m + ntZ ok kd c l m = cntZ ok 1 m := by
  have e : ∀ i, 0 ≤ i → i ≤ m → lvZ ok kd c l i + ntZ ok kd c l i = cntZ ok 1 i := by
    intro i hi
    obtain ⟨k, rfl⟩ := Int.eq_ofNat_of_zero_le hi
    clear hi
    induction k with
    | zero => intro _; rfl
    | succ k ih =>
      intro hk
      have e : ((k + 1 : Nat) : Int) = (k : Int) + 1 := by omega
      rw [e] at hk ⊢
      have := ih (by omega)
      rw [lvZ_s _ _ _ _ (by omega), ntZ_s _ _ _ _ (by omega), cntZ_s _ _ (by omega)]
      by_cases q : ok k = 1
      · by_cases w : likedZ kd k c ≤ l
        · rw [if_pos ⟨q, w⟩, if_neg (fun z => z.2 w), if_pos q]; omega
        · rw [if_neg (fun z => w z.2), if_pos ⟨q, w⟩, if_pos q]; omega
      · rw [if_neg (fun z => q z.1), if_neg (fun z => q z.1), if_neg q]; omega
  exact e m h (Int.le_refl m)
theorem bitZ_pos {f : Int → Int} {v m : Int} (h : 0 ≤ m) : (bitZ f v m = 0 ↔ cntZ f v m = 0) := by
  have e : ∀ i, 0 ≤ i → i ≤ m → (bitZ f v i = 0 ↔ cntZ f v i = 0) ∧ 0 ≤ bitZ f v i ∧ 0 ≤ cntZ f v i := by
    refine fZ_rel (P := fun i x y => (x = 0 ↔ y = 0) ∧ 0 ≤ x ∧ 0 ≤ y) ⟨Iff.rfl, by omega, by omega⟩ (M := m) (fun i x y q1 q2 e => ?_)
    have := zpw_pos i
    split <;> omega
  exact (e m h (Int.le_refl m)).1
theorem likeZ_pos {t : Int → Int} {x a : Int} (ha : 0 ≤ a ∧ a < 6) (h : zbt x a = 1) : 1 ≤ likeZ t x a 6 := by
  have e : ∀ i, 0 ≤ i → i ≤ 6 → 0 ≤ likeZ t x a i ∧ (a < i → 1 ≤ likeZ t x a i) := by
    refine fZ_ind (P := fun i n => 0 ≤ n ∧ (a < i → 1 ≤ n)) ⟨by omega, fun q => by omega⟩ (M := 6) (fun i n q1 q2 e => ?_)
    by_cases c : i = a
    · subst c
      rw [if_pos ⟨h, rfl⟩]
      omega
    · split <;> omega
  exact (e 6 (by omega) (by omega)).2 ha.2
theorem kinds_bit {f : Int → Int} {x : Int} (hx : x = bitZ f 1 6) (h : x ≠ 0) : ∃ a, 0 ≤ a ∧ a < 6 ∧ zbt x a = 1 := by
  refine Classical.byContradiction fun hn => h ?_
  rw [hx, bitZ_pos (by omega)]
  have e : ∀ i, 0 ≤ i → i ≤ 6 → cntZ f 1 i = 0 := by
    refine fZ_ind (P := fun i n => n = 0) rfl (M := 6) (fun i n q1 q2 e => ?_)
    rw [e, if_neg]
    · rfl
    · intro q
      refine hn ⟨i, q1, q2, ?_⟩
      rw [hx, zbt_bitZ f 1 q1 (by omega), if_pos ⟨q2, q⟩]
  exact e 6 (by omega) (by omega)
theorem topZ_pos {t f : Int → Int} {x : Int} (hx : x = bitZ f 1 6) (h : x ≠ 0) : 1 ≤ topZ t x 6 := by
  obtain ⟨a, h1, h2, h3⟩ := kinds_bit hx h
  have e : ∀ i, 0 ≤ i → i ≤ 6 → (a < i → 1 ≤ topZ t x i) := by
    refine fZ_ind (P := fun i n => a < i → 1 ≤ n) (fun q => by omega) (M := 6) (fun i n q1 q2 e q => ?_)
    by_cases c : i = a
    · subst c
      rw [if_pos h3]
      have := likeZ_pos (t := t) ⟨h1, h2⟩ h3
      omega
    · have := e (by omega)
      omega
  exact e 6 (by omega) (by omega) h2
