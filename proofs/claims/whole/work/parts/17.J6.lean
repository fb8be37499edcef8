/-! bits of sums; Integer.bitCount of small numbers -/
theorem zbt_lt {x k : Int} (h : 0 ≤ x ∧ x < zpw k) : zbt x k = 0 := by
  unfold zbt
  rw [Int.ediv_eq_zero_of_lt h.1 h.2]
  rfl
theorem zpw_add {a b : Int} (ha : 0 ≤ a) (hb : 0 ≤ b) : zpw (a + b) = zpw a * zpw b := by
  obtain ⟨i, rfl⟩ := Int.eq_ofNat_of_zero_le ha
  obtain ⟨j, rfl⟩ := Int.eq_ofNat_of_zero_le hb
  show ((2 ^ (i + j) : Nat) : Int) = ((2 ^ i : Nat) : Int) * ((2 ^ j : Nat) : Int)
  rw [Nat.pow_add]
  exact Int.natCast_mul _ _
theorem zbt_add {x k M : Int} (h : 0 ≤ x ∧ x < zpw M) (hk : 0 ≤ k) (hM : 0 ≤ M) : zbt (x + zpw M) k = if k = M then 1 else zbt x k := by
  have hp := zpw_pos k
  by_cases e : k = M
  · subst e
    rw [if_pos rfl]
    unfold zbt
    rw [Int.add_ediv_of_dvd_right ⟨1, by omega⟩, Int.ediv_eq_zero_of_lt h.1 h.2, Int.ediv_self (by omega)]
    rfl
  · rw [if_neg e]
    rcases Int.lt_or_lt_of_ne e with q | q
    · have e1 : zpw M = zpw k * (2 * zpw (M - k - 1)) := by
        rw [← zpw_s (by omega), ← zpw_add hk (by omega)]
        congr 1
        omega
      unfold zbt
      rw [e1, Int.add_mul_ediv_left _ _ (by omega)]
      omega
    · have h1 : zpw (M + 1) ≤ zpw k := zpw_le (by omega)
      rw [zpw_s hM] at h1
      rw [zbt_lt ⟨by omega, by omega⟩, zbt_lt ⟨h.1, by omega⟩]
theorem zbt_bitZ (f : Int → Int) (v : Int) {k m : Int} (hk : 0 ≤ k) (hm : 0 ≤ m) : zbt (bitZ f v m) k = if k < m ∧ f k = v then 1 else 0 := by
  refine (fZ_ind (f := fun k n => n + if f k = v then zpw k else 0) (a := 0) (P := fun m n => (0 ≤ n ∧ n < zpw m) ∧ zbt n k = if k < m ∧ f k = v then 1 else 0) ⟨⟨by omega, by decide⟩, ?_⟩ (M := m) (fun i x h1 h2 h3 => ?_) m hm (Int.le_refl m)).2
  · rw [if_neg (by omega), zbt_lt ⟨by omega, by have := zpw_pos k; omega⟩]
  · rw [zpw_s h1]
    by_cases q : f i = v
    · rw [if_pos q]
      refine ⟨by omega, ?_⟩
      rw [zbt_add h3.1 hk h1, h3.2]
      by_cases e : k = i
      · subst e
        rw [if_pos rfl, if_pos ⟨by omega, q⟩]
      · rw [if_neg e]
        by_cases z : k < i ∧ f k = v
        · rw [if_pos z, if_pos ⟨by omega, z.2⟩]
        · rw [if_neg z, if_neg (fun w => z ⟨by omega, w.2⟩)]
    · rw [if_neg q]
      refine ⟨by omega, ?_⟩
      rw [Int.add_zero, h3.2]
      by_cases z : k < i ∧ f k = v
      · rw [if_pos z, if_pos ⟨by omega, z.2⟩]
      · rw [if_neg z, if_neg]
        rintro ⟨w1, w2⟩
        rcases Int.lt_or_eq_of_le (show k ≤ i by omega) with w | w
        · exact z ⟨w, w2⟩
        · subst w
          exact q w2
theorem popZ_bitZ (f : Int → Int) (v : Int) {m n : Int} (hm : 0 ≤ m ∧ m ≤ n) : popZ (bitZ f v m) n = cntZ f v m := by
  have key : ∀ i, 0 ≤ i → i ≤ n → popZ (bitZ f v m) i = cntZ f v (min i m) := by
    refine fZ_ind (P := fun i x => x = cntZ f v (min i m)) ?_ (M := n) (fun i x h1 h2 h3 => ?_)
    · rw [Int.min_eq_left hm.1]
      rfl
    · rw [h3, zbt_bitZ f v h1 hm.1]
      by_cases q : i < m
      · rw [Int.min_eq_left (by omega), Int.min_eq_left (by omega), cntZ_s f v h1]
        congr 1
        by_cases z : f i = v
        · rw [if_pos z, if_pos ⟨q, z⟩]
        · rw [if_neg z, if_neg (fun w => z w.2)]
      · rw [Int.min_eq_right (by omega), Int.min_eq_right (by omega), if_neg (fun w => q w.1), Int.add_zero]
  rw [key n (by omega) (Int.le_refl n), Int.min_eq_right hm.2]
def us3 (x k : Int32) : Int32 := (x.toUInt32 >>> (k.toUInt32 &&& Int32.toUInt32 31)).toInt32
def bc1 (x : Int32) : Int32 := x - (us3 x (zi 1) &&& 1431655765)
def bc2 (x : Int32) : Int32 := (x &&& 858993459) + (us3 x (zi 2) &&& 858993459)
def bc3 (x : Int32) : Int32 := (x + us3 x (zi 4)) &&& 252645135
def bc4 (x : Int32) : Int32 := x + us3 x (zi 8)
def bc5 (x : Int32) : Int32 := (x + us3 x (zi 16)) &&& zi 63
theorem bc_nat : ∀ j : Nat, j < 1024 → bc5 (bc4 (bc3 (bc2 (bc1 (nI j))))) = zi (popZ (j : Int) 10) := by decide +kernel
theorem bc_ok {x : Int} (h : 0 ≤ x ∧ x < 1024) : bc5 (bc4 (bc3 (bc2 (bc1 (zi x))))) = zi (popZ x 10) := by
  have := bc_nat x.toNat (by omega)
  rw [← zi_bv h.1, Int.toNat_of_nonneg h.1] at this
  exact this

abbrev rJ6_bitCount_0f7a4 : Room := { frames := 0, cells := 0, slots := 0, locals := 0 }
set_option maxHeartbeats 8000000 in
set_option maxRecDepth 100000 in
theorem c_J6_bitCount_0f7a4 (l_ : Launch) (D : va_G) (cy : Nat → ClassId) (x : Int) (hx : 0 ≤ x ∧ x < 1024) : CTi l_ D cy yJ6_bitCount_0f7a4 wsJ6_bitCount_0f7a4 rJ6_bitCount_0f7a4 [.int (zi x)] ([] : List va_W) (fun (z : Int) (u : Unit) => (z = popZ x 10)) (fun (_ : Unit) => ([] : List va_W)) := by
  refine CTi.of RJ6 cJ6_bitCount_0f7a4 1 rfl (by decide) rfl (fun z u hz => rfl) (Nat.le_of_ble_eq_true rfl) ?_
  intro p_ e_ s_ m_ ar_ be_ me_ c_ Q_ A_ ls_ F_ K_ W_ hl hret
  have hl : lv_has ls_ 1 [(0, .int (zi x))] := hl
  refine lv_iload_n F_.1 F_.2.1 dJ6_bitCount_0f7a4_0 rfl (lv_at hl 0 rfl) ?_
  refine lv_iload_n F_.1 F_.2.1 dJ6_bitCount_0f7a4_1 rfl (lv_at hl 0 rfl) ?_
  refine z_iconst F_ dJ6_bitCount_0f7a4_2 ?_
  refine lv_iushr F_.1 F_.2.1 dJ6_bitCount_0f7a4_3 rfl ?_
  refine lv_ldcw (v := 1431655765) F_.1 F_.2.1 F_.2.2.2.1 (F_.2.2.2.2 _ (List.mem_of_getElem? (i := 1) rfl)) dJ6_bitCount_0f7a4_4 ?_
  refine lv_iand F_.1 F_.2.1 dJ6_bitCount_0f7a4_7 ?_
  refine lv_isub F_.1 F_.2.1 dJ6_bitCount_0f7a4_8 ?_
  refine lv_istore_n (lv' := [(0, .int (bc1 (zi x)))]) F_.1 F_.2.1 dJ6_bitCount_0f7a4_9 rfl hl (by decide) rfl (fun ls_ hl => ?_)
  refine lv_iload_n F_.1 F_.2.1 dJ6_bitCount_0f7a4_10 rfl (lv_at hl 0 rfl) ?_
  refine lv_ldcw (v := 858993459) F_.1 F_.2.1 F_.2.2.2.1 (F_.2.2.2.2 _ (List.mem_of_getElem? (i := 2) rfl)) dJ6_bitCount_0f7a4_11 ?_
  refine lv_iand F_.1 F_.2.1 dJ6_bitCount_0f7a4_14 ?_
  refine lv_iload_n F_.1 F_.2.1 dJ6_bitCount_0f7a4_15 rfl (lv_at hl 0 rfl) ?_
  refine z_iconst F_ dJ6_bitCount_0f7a4_16 ?_
  refine lv_iushr F_.1 F_.2.1 dJ6_bitCount_0f7a4_17 rfl ?_
  refine lv_ldcw (v := 858993459) F_.1 F_.2.1 F_.2.2.2.1 (F_.2.2.2.2 _ (List.mem_of_getElem? (i := 2) rfl)) dJ6_bitCount_0f7a4_18 ?_
  refine lv_iand F_.1 F_.2.1 dJ6_bitCount_0f7a4_21 ?_
  refine lv_iadd F_.1 F_.2.1 dJ6_bitCount_0f7a4_22 ?_
  refine lv_istore_n (lv' := [(0, .int (bc2 (bc1 (zi x))))]) F_.1 F_.2.1 dJ6_bitCount_0f7a4_23 rfl hl (by decide) rfl (fun ls_ hl => ?_)
  refine lv_iload_n F_.1 F_.2.1 dJ6_bitCount_0f7a4_24 rfl (lv_at hl 0 rfl) ?_
  refine lv_iload_n F_.1 F_.2.1 dJ6_bitCount_0f7a4_25 rfl (lv_at hl 0 rfl) ?_
  refine z_iconst F_ dJ6_bitCount_0f7a4_26 ?_
  refine lv_iushr F_.1 F_.2.1 dJ6_bitCount_0f7a4_27 rfl ?_
  refine lv_iadd F_.1 F_.2.1 dJ6_bitCount_0f7a4_28 ?_
  refine lv_ldcw (v := 252645135) F_.1 F_.2.1 F_.2.2.2.1 (F_.2.2.2.2 _ (List.mem_of_getElem? (i := 3) rfl)) dJ6_bitCount_0f7a4_29 ?_
  refine lv_iand F_.1 F_.2.1 dJ6_bitCount_0f7a4_32 ?_
  refine lv_istore_n (lv' := [(0, .int (bc3 (bc2 (bc1 (zi x)))))]) F_.1 F_.2.1 dJ6_bitCount_0f7a4_33 rfl hl (by decide) rfl (fun ls_ hl => ?_)
  refine lv_iload_n F_.1 F_.2.1 dJ6_bitCount_0f7a4_34 rfl (lv_at hl 0 rfl) ?_
  refine lv_iload_n F_.1 F_.2.1 dJ6_bitCount_0f7a4_35 rfl (lv_at hl 0 rfl) ?_
  refine z_bipush F_ (by decide) dJ6_bitCount_0f7a4_36 ?_
  refine lv_iushr F_.1 F_.2.1 dJ6_bitCount_0f7a4_38 rfl ?_
  refine lv_iadd F_.1 F_.2.1 dJ6_bitCount_0f7a4_39 ?_
  refine lv_istore_n (lv' := [(0, .int (bc4 (bc3 (bc2 (bc1 (zi x))))))]) F_.1 F_.2.1 dJ6_bitCount_0f7a4_40 rfl hl (by decide) rfl (fun ls_ hl => ?_)
  refine lv_iload_n F_.1 F_.2.1 dJ6_bitCount_0f7a4_41 rfl (lv_at hl 0 rfl) ?_
  refine lv_iload_n F_.1 F_.2.1 dJ6_bitCount_0f7a4_42 rfl (lv_at hl 0 rfl) ?_
  refine z_bipush F_ (by decide) dJ6_bitCount_0f7a4_43 ?_
  refine lv_iushr F_.1 F_.2.1 dJ6_bitCount_0f7a4_45 rfl ?_
  refine lv_iadd F_.1 F_.2.1 dJ6_bitCount_0f7a4_46 ?_
  refine lv_istore_n (lv' := [(0, .int (bc4 (bc3 (bc2 (bc1 (zi x)))) + us3 (bc4 (bc3 (bc2 (bc1 (zi x))))) (zi 16)))]) F_.1 F_.2.1 dJ6_bitCount_0f7a4_47 rfl hl (by decide) rfl (fun ls_ hl => ?_)
  refine lv_iload_n F_.1 F_.2.1 dJ6_bitCount_0f7a4_48 rfl (lv_at hl 0 rfl) ?_
  refine z_bipush F_ (by decide) dJ6_bitCount_0f7a4_49 ?_
  refine lv_iand F_.1 F_.2.1 dJ6_bitCount_0f7a4_51 ?_
  refine W.eq (g2 := F0 m_ 52 ls_ [.int (zi (popZ x 10))]) ?_ ?_
  · rw [← bc_ok hx]
    rfl
  exact hret _ _ _ _ _ () dJ6_bitCount_0f7a4_52 rfl W_
