/-! ===== sets of bits ===== -/
theorem nb_i (a : Nat) : (Int32.ofInt (a : Int)).toBitVec = BitVec.ofNat 32 a := by
  rw [Int32.toBitVec_ofInt, BitVec.ofInt_natCast]
theorem nb_ti {x : BitVec 32} {n : Nat} (h : x.toNat = n) (hn : n < 2 ^ 31) : (Int32.ofBitVec x).toInt = (n : Int) := by
  show x.toInt = _
  rw [BitVec.toInt_eq_toNat_of_lt (by omega), h]
theorem zand_n {a b : Nat} (ha : a < 2 ^ 31) (hb : b < 2 ^ 31) : zand a b = ((a &&& b : Nat) : Int) := by
  unfold zand
  have e : (Int32.ofInt (a : Int) &&& Int32.ofInt (b : Int)).toBitVec.toNat = a &&& b := by
    rw [Int32.toBitVec_and, nb_i, nb_i, BitVec.toNat_and, BitVec.toNat_ofNat, BitVec.toNat_ofNat, Nat.mod_eq_of_lt (by omega), Nat.mod_eq_of_lt (by omega)]
  exact nb_ti e (Nat.and_lt_two_pow _ hb)
theorem zor_n {a b : Nat} (ha : a < 2 ^ 31) (hb : b < 2 ^ 31) : zor a b = ((a ||| b : Nat) : Int) := by
  unfold zor
  have e : (Int32.ofInt (a : Int) ||| Int32.ofInt (b : Int)).toBitVec.toNat = a ||| b := by
    rw [Int32.toBitVec_or, nb_i, nb_i, BitVec.toNat_or, BitVec.toNat_ofNat, BitVec.toNat_ofNat, Nat.mod_eq_of_lt (by omega), Nat.mod_eq_of_lt (by omega)]
  exact nb_ti e (Nat.or_lt_two_pow ha hb)
theorem zushr_n {a : Nat} {k : Nat} (ha : a < 2 ^ 31) (hk : k < 32) : zushr a k = ((a >>> k : Nat) : Int) := by
  unfold zushr
  have c : ∀ l : Nat, l < 32 → (((Int32.ofInt ((l : Nat) : Int)).toUInt32 &&& Int32.toUInt32 31).toBitVec % 32).toNat = l := by decide +kernel
  have e : ((Int32.ofInt (a : Int)).toUInt32 >>> ((Int32.ofInt (k : Int)).toUInt32 &&& Int32.toUInt32 31)).toInt32.toBitVec.toNat = a >>> k := by
    show ((Int32.ofInt (a : Int)).toUInt32 >>> ((Int32.ofInt (k : Int)).toUInt32 &&& Int32.toUInt32 31)).toBitVec.toNat = _
    rw [UInt32.toBitVec_shiftRight, BitVec.ushiftRight_eq', BitVec.toNat_ushiftRight, c k hk]
    show (Int32.ofInt (a : Int)).toBitVec.toNat >>> k = _
    rw [nb_i, BitVec.toNat_ofNat, Nat.mod_eq_of_lt (by omega)]
  refine nb_ti e ?_
  rw [Nat.shiftRight_eq_div_pow]
  exact Nat.lt_of_le_of_lt (Nat.div_le_self _ _) ha
theorem zshl_n : ∀ k, k < 31 → zshl 1 ((k : Nat) : Int) = ((2 ^ k : Nat) : Int) := by decide +kernel
theorem zshl_i {k : Int} (h : 0 ≤ k ∧ k ≤ 16) : zshl 1 k = ((2 ^ k.toNat : Nat) : Int) := by
  have := zshl_n k.toNat (by omega)
  rw [show ((k.toNat : Nat) : Int) = k by omega] at this
  exact this
theorem pw_lt {k : Nat} (h : k < 16) : 2 ^ k < 65536 := by
  have := Nat.pow_lt_pow_right (a := 2) (by decide) h
  exact this
theorem zandn_n {a b : Nat} (ha : a < 65536) (hb : b < 65536) : zand a (zxor b (-1)) = ((a &&& (65535 ^^^ b) : Nat) : Int) := by
  unfold zand zxor
  have e : (Int32.ofInt (a : Int) &&& Int32.ofInt ((Int32.ofInt (b : Int) ^^^ Int32.ofInt (-1)).toInt)).toBitVec.toNat = a &&& (65535 ^^^ b) := by
    rw [Int32.ofInt_toInt, Int32.toBitVec_and, Int32.toBitVec_xor, nb_i, nb_i, show (Int32.ofInt (-1)).toBitVec = BitVec.ofNat 32 4294967295 from by decide, BitVec.toNat_and, BitVec.toNat_xor, BitVec.toNat_ofNat, BitVec.toNat_ofNat, BitVec.toNat_ofNat, Nat.mod_eq_of_lt (by omega), Nat.mod_eq_of_lt (by omega), show 4294967295 % 2 ^ 32 = 2 ^ 32 - 1 from rfl, show 65535 = 2 ^ 16 - 1 from rfl]
    apply Nat.eq_of_testBit_eq
    intro i
    rw [Nat.testBit_and, Nat.testBit_and, Nat.testBit_xor, Nat.testBit_xor, Nat.testBit_two_pow_sub_one, Nat.testBit_two_pow_sub_one]
    by_cases h : i < 16
    · rw [decide_eq_true h, decide_eq_true (show i < 32 by omega), Bool.xor_comm]
    · rw [Nat.testBit_lt_two_pow (x := a) (i := i) (Nat.lt_of_lt_of_le ha (Nat.pow_le_pow_right (n := 2) (by decide) (show 16 ≤ i by omega)))]
      simp
  refine nb_ti e (Nat.lt_of_le_of_lt Nat.and_le_left (by omega))
/-- the bits below n that are set -/
def pop : Nat → Nat → Nat
  | 0, _ => 0
  | n + 1, x => pop n x + if x.testBit n then 1 else 0
theorem pop_or {x k : Nat} (h : x.testBit k = false) : ∀ n, pop n (x ||| 2 ^ k) = pop n x + if k < n then 1 else 0
  | 0 => by simp [pop]
  | n + 1 => by
    unfold pop
    rw [pop_or h n, Nat.testBit_or, Nat.testBit_two_pow]
    by_cases e : k = n
    · subst e
      simp [h]
    · rw [decide_eq_false e, Bool.or_false]
      by_cases g : k < n
      · rw [if_pos g, if_pos (show k < n + 1 by omega)]; omega
      · rw [if_neg g, if_neg (show ¬ k < n + 1 by omega)]; omega
theorem pop_le : ∀ n x, pop n x ≤ n
  | 0, _ => Nat.le_refl _
  | n + 1, x => by
    have := pop_le n x
    unfold pop
    split <;> omega
theorem pop_up {x m : Nat} (h : ∀ i, m ≤ i → x.testBit i = false) : ∀ n, m ≤ n → pop n x = pop m x
  | 0, q => by rw [show m = 0 by omega]
  | n + 1, q => by
    by_cases e : m = n + 1
    · rw [e]
    · show pop n x + _ = _
      rw [h n (by omega), pop_up h n (by omega)]
      rfl
/-- the count of bits, as the library makes it -/
def bcN (x : Nat) : Nat :=
  let a := x - ((x >>> 1) &&& 1431655765)
  let b := (a &&& 858993459) + ((a >>> 2) &&& 858993459)
  let c := (b + (b >>> 4)) &&& 252645135
  let d := c + (c >>> 8)
  (d + (d >>> 16)) &&& 63
def ppN : Nat → Nat → Nat
  | 0, _ => 0
  | n + 1, x => x % 2 + ppN n (x / 2)
theorem ppN_pop : ∀ n x, ppN n x = pop n x := by
  have sh : ∀ n x, pop (n + 1) x = x % 2 + pop n (x / 2) := by
    intro n
    induction n with
    | zero =>
      intro x
      unfold pop pop
      rw [Nat.testBit_zero]
      rcases Nat.mod_two_eq_zero_or_one x with e | e <;> rw [e] <;> rfl
    | succ n ih =>
      intro x
      show pop (n + 1) x + _ = _ + (pop n (x / 2) + _)
      rw [ih x, Nat.testBit_succ]
      omega
  intro n
  induction n with
  | zero => intro x; rfl
  | succ n ih => intro x; rw [sh]; unfold ppN; rw [ih]
theorem land_sp (i : Nat) {u v m k : Nat} (hu : u < 2 ^ i) (hm : m < 2 ^ i) : (2 ^ i * v + u) &&& (2 ^ i * k + m) = 2 ^ i * (v &&& k) + (u &&& m) := by
  apply Nat.eq_of_testBit_eq
  intro j
  rw [Nat.testBit_and, Nat.testBit_two_pow_mul_add _ hu, Nat.testBit_two_pow_mul_add _ hm, Nat.testBit_two_pow_mul_add _ (Nat.lt_of_le_of_lt Nat.and_le_left hu)]
  split
  · rw [Nat.testBit_and]
  · rw [Nat.testBit_and]
theorem ppN_sp : ∀ (n m a b : Nat), a < 2 ^ n → ppN (n + m) (2 ^ n * b + a) = ppN n a + ppN m b
  | 0, m, a, b, h => by
    rw [show 2 ^ 0 * b + a = b by omega, Nat.zero_add]; show _ = 0 + _; omega
  | n + 1, m, a, b, h => by
    rw [show n + 1 + m = (n + m) + 1 by omega]
    show (2 ^ (n + 1) * b + a) % 2 + ppN (n + m) ((2 ^ (n + 1) * b + a) / 2) = (a % 2 + ppN n (a / 2)) + ppN m b
    have e : 2 ^ (n + 1) * b = 2 * (2 ^ n * b) := by rw [Nat.pow_succ, Nat.mul_comm (2 ^ n) 2, Nat.mul_assoc]
    have p : 2 ^ (n + 1) = 2 ^ n * 2 := rfl
    rw [e, show (2 * (2 ^ n * b) + a) / 2 = 2 ^ n * b + a / 2 by omega, ppN_sp n m (a / 2) b (by omega)]
    omega
def bA1 (a : Nat) : Nat := a - ((a / 2) &&& 85)
def bA2 (a : Nat) : Nat := (bA1 a &&& 51) + ((bA1 a / 4) &&& 51)
theorem bA_t : ∀ a, a < 256 → ((a / 2) &&& 85) ≤ a ∧ bA2 a ≤ 68 ∧ bA2 a % 16 ≤ 4 ∧ (bA2 a + bA2 a / 16) % 16 = ppN 8 a ∧ ppN 8 a ≤ 8 := by decide +kernel
theorem bcN_pop {x : Nat} (h : x < 65536) : bcN x = pop 16 x := by
  rw [← ppN_pop]
  obtain ⟨a, b, ha, hb, hx⟩ : ∃ a b : Nat, a < 256 ∧ b < 256 ∧ x = 2 ^ 8 * b + a := ⟨x % 256, x / 256, by omega, by omega, by omega⟩
  have ta := bA_t a ha
  have tb := bA_t b hb
  have e1 : x - ((x >>> 1) &&& 1431655765) = 2 ^ 8 * bA1 b + bA1 a := by
    rw [Nat.shiftRight_eq_div_pow, hx, show (2 ^ 8 * b + a) / 2 ^ 1 = 2 ^ 8 * (b / 2) + (2 ^ 7 * (b % 2) + a / 2) by omega, show 1431655765 = 2 ^ 8 * 5592405 + (2 ^ 7 * 0 + 85) from rfl, land_sp 8 (by omega) (by omega), land_sp 7 (by omega) (by omega), Nat.and_zero]
    have q : (b / 2) &&& 5592405 = (b / 2) &&& 85 := by
      have := land_sp 8 (u := b / 2) (v := 0) (m := 85) (k := 21845) (by omega) (by omega)
      rw [show 2 ^ 8 * 0 + b / 2 = b / 2 by omega, Nat.zero_and] at this
      rw [show 5592405 = 2 ^ 8 * 21845 + 85 from rfl, this]; omega
    rw [q]
    unfold bA1
    omega
  have l1 : ∀ c, bA1 c ≤ c := fun c => Nat.sub_le _ _
  have la := l1 a
  have lb := l1 b
  have an : ∀ (u k : Nat), u < 256 → u &&& (2 ^ 8 * k + 51) = u &&& 51 := fun u k q => by
    have := land_sp 8 (u := u) (v := 0) (m := 51) (k := k) q (by omega)
    rw [show 2 ^ 8 * 0 + u = u by omega, Nat.zero_and] at this
    rw [this]; omega
  have e2 : ((2 ^ 8 * bA1 b + bA1 a) &&& 858993459) + (((2 ^ 8 * bA1 b + bA1 a) >>> 2) &&& 858993459) = 2 ^ 8 * bA2 b + bA2 a := by
    rw [Nat.shiftRight_eq_div_pow, show (2 ^ 8 * bA1 b + bA1 a) / 2 ^ 2 = 2 ^ 8 * (bA1 b / 4) + (2 ^ 6 * (bA1 b % 4) + bA1 a / 4) by omega]
    have m1 : (2 ^ 8 * bA1 b + bA1 a) &&& 858993459 = 2 ^ 8 * (bA1 b &&& 51) + (bA1 a &&& 51) := by
      rw [show 858993459 = 2 ^ 8 * (2 ^ 8 * 13107 + 51) + 51 from rfl, land_sp 8 (by omega) (by omega), an _ _ (by omega)]
    have m2 : (2 ^ 8 * (bA1 b / 4) + (2 ^ 6 * (bA1 b % 4) + bA1 a / 4)) &&& 858993459 = 2 ^ 8 * ((bA1 b / 4) &&& 51) + ((bA1 a / 4) &&& 51) := by
      rw [show 858993459 = 2 ^ 8 * (2 ^ 8 * 13107 + 51) + (2 ^ 6 * 0 + 51) from rfl, land_sp 8 (by omega) (by omega), an _ _ (by omega), land_sp 6 (by omega) (by omega), Nat.and_zero]
      omega
    rw [m1, m2]
    unfold bA2
    omega
  have e3 : ((2 ^ 8 * bA2 b + bA2 a) + ((2 ^ 8 * bA2 b + bA2 a) >>> 4)) &&& 252645135 = 2 ^ 8 * ppN 8 b + ppN 8 a := by
    rw [Nat.shiftRight_eq_div_pow, show (2 ^ 8 * bA2 b + bA2 a) + (2 ^ 8 * bA2 b + bA2 a) / 2 ^ 4 = 2 ^ 8 * (bA2 b + bA2 b / 16) + (bA2 a + bA2 a / 16 + 16 * (bA2 b % 16)) by omega, show 252645135 = 2 ^ 8 * (2 ^ 8 * 3855 + 15) + 15 from rfl, land_sp 8 (by omega) (by omega)]
    have q := land_sp 8 (u := bA2 b + bA2 b / 16) (v := 0) (m := 15) (k := 3855) (by omega) (by omega)
    rw [show 2 ^ 8 * 0 + (bA2 b + bA2 b / 16) = bA2 b + bA2 b / 16 by omega, Nat.zero_and] at q
    have w : ∀ z : Nat, z &&& 15 = z % 16 := fun z => Nat.and_two_pow_sub_one_eq_mod z 4
    rw [q, w, w]
    omega
  unfold bcN
  dsimp only
  rw [e1, e2, e3, hx, ppN_sp 8 8 a b ha]
  have w : ∀ z : Nat, z &&& 63 = z % 64 := fun z => Nat.and_two_pow_sub_one_eq_mod z 6
  rw [w, Nat.shiftRight_eq_div_pow, Nat.shiftRight_eq_div_pow]
  have ta := ta.2.2.2.2
  have tb := tb.2.2.2.2
  generalize ppN 8 a = A at ta
  generalize ppN 8 b = B at tb
  rw [show (2 ^ 8 * B + A) / 2 ^ 8 = B by omega, show (2 ^ 8 * B + A + B) / 2 ^ 16 = 0 by omega]
  clear e1 e2 e3 an la lb l1 hx h
  show _ = A + B
  omega
set_option maxRecDepth 20000 in
theorem sJ6_bitCount_0f7a4_0 {G : ZG} {d : Nat} {A : AH} {K : Option AV → AH → Prop} {x0 : Int} (h : (-2147483648 ≤ (x0 - (zand (zushr x0 1) 1431655765)) ∧ (x0 - (zand (zushr x0 1) 1431655765)) ≤ 2147483647) ∧ (Z G mJ6_bitCount_0f7a4 d 0 0 10 [vi (x0 - (zand (zushr x0 1) 1431655765))] [] A K)) : Z G mJ6_bitCount_0f7a4 d 0 0 0 [vi x0] [] A K := (Z_iload_n (dJ6_bitCount_0f7a4 0) rfl (Z_iload_n (dJ6_bitCount_0f7a4 1) rfl (Z_iconst (dJ6_bitCount_0f7a4 2) ⟨by decide, by decide⟩ (Z_iushr (dJ6_bitCount_0f7a4 3) (Z_ldcw (dJ6_bitCount_0f7a4 4) lk_J6_265 (Z_iand (dJ6_bitCount_0f7a4 5) (Z_isub (dJ6_bitCount_0f7a4 6) h.1 (Z_istore_n (dJ6_bitCount_0f7a4 7) (Nat.le_of_ble_eq_true rfl) rfl h.2))))))))
set_option maxRecDepth 20000 in
theorem sJ6_bitCount_0f7a4_10 {G : ZG} {d : Nat} {A : AH} {K : Option AV → AH → Prop} {x0 : Int} (h : (-2147483648 ≤ ((zand x0 858993459) + (zand (zushr x0 2) 858993459)) ∧ ((zand x0 858993459) + (zand (zushr x0 2) 858993459)) ≤ 2147483647) ∧ (Z G mJ6_bitCount_0f7a4 d 0 0 24 [vi ((zand x0 858993459) + (zand (zushr x0 2) 858993459))] [] A K)) : Z G mJ6_bitCount_0f7a4 d 0 0 10 [vi x0] [] A K := (Z_iload_n (dJ6_bitCount_0f7a4 8) rfl (Z_ldcw (dJ6_bitCount_0f7a4 9) lk_J6_266 (Z_iand (dJ6_bitCount_0f7a4 10) (Z_iload_n (dJ6_bitCount_0f7a4 11) rfl (Z_iconst (dJ6_bitCount_0f7a4 12) ⟨by decide, by decide⟩ (Z_iushr (dJ6_bitCount_0f7a4 13) (Z_ldcw (dJ6_bitCount_0f7a4 14) lk_J6_266 (Z_iand (dJ6_bitCount_0f7a4 15) (Z_iadd (dJ6_bitCount_0f7a4 16) h.1 (Z_istore_n (dJ6_bitCount_0f7a4 17) (Nat.le_of_ble_eq_true rfl) rfl h.2))))))))))
set_option maxRecDepth 20000 in
theorem sJ6_bitCount_0f7a4_24 {G : ZG} {d : Nat} {A : AH} {K : Option AV → AH → Prop} {x0 : Int} (h : (-2147483648 ≤ (x0 + (zushr x0 4)) ∧ (x0 + (zushr x0 4)) ≤ 2147483647) ∧ (Z G mJ6_bitCount_0f7a4 d 0 0 34 [vi (zand (x0 + (zushr x0 4)) 252645135)] [] A K)) : Z G mJ6_bitCount_0f7a4 d 0 0 24 [vi x0] [] A K := (Z_iload_n (dJ6_bitCount_0f7a4 18) rfl (Z_iload_n (dJ6_bitCount_0f7a4 19) rfl (Z_iconst (dJ6_bitCount_0f7a4 20) ⟨by decide, by decide⟩ (Z_iushr (dJ6_bitCount_0f7a4 21) (Z_iadd (dJ6_bitCount_0f7a4 22) h.1 (Z_ldcw (dJ6_bitCount_0f7a4 23) lk_J6_267 (Z_iand (dJ6_bitCount_0f7a4 24) (Z_istore_n (dJ6_bitCount_0f7a4 25) (Nat.le_of_ble_eq_true rfl) rfl h.2))))))))
set_option maxRecDepth 20000 in
theorem sJ6_bitCount_0f7a4_34 {G : ZG} {d : Nat} {A : AH} {K : Option AV → AH → Prop} {x0 : Int} (h : (-2147483648 ≤ (x0 + (zushr x0 8)) ∧ (x0 + (zushr x0 8)) ≤ 2147483647) ∧ (Z G mJ6_bitCount_0f7a4 d 0 0 41 [vi (x0 + (zushr x0 8))] [] A K)) : Z G mJ6_bitCount_0f7a4 d 0 0 34 [vi x0] [] A K := (Z_iload_n (dJ6_bitCount_0f7a4 26) rfl (Z_iload_n (dJ6_bitCount_0f7a4 27) rfl (Z_bipush (dJ6_bitCount_0f7a4 28) ⟨by decide, by decide⟩ (Z_iushr (dJ6_bitCount_0f7a4 29) (Z_iadd (dJ6_bitCount_0f7a4 30) h.1 (Z_istore_n (dJ6_bitCount_0f7a4 31) (Nat.le_of_ble_eq_true rfl) rfl h.2))))))
set_option maxRecDepth 20000 in
theorem sJ6_bitCount_0f7a4_41 {G : ZG} {d : Nat} {A : AH} {K : Option AV → AH → Prop} {x0 : Int} (h : (-2147483648 ≤ (x0 + (zushr x0 16)) ∧ (x0 + (zushr x0 16)) ≤ 2147483647) ∧ (K (some (vi (zand (x0 + (zushr x0 16)) 63))) A)) : Z G mJ6_bitCount_0f7a4 d 0 0 41 [vi x0] [] A K := (Z_iload_n (dJ6_bitCount_0f7a4 32) rfl (Z_iload_n (dJ6_bitCount_0f7a4 33) rfl (Z_bipush (dJ6_bitCount_0f7a4 34) ⟨by decide, by decide⟩ (Z_iushr (dJ6_bitCount_0f7a4 35) (Z_iadd (dJ6_bitCount_0f7a4 36) h.1 (Z_istore_n (dJ6_bitCount_0f7a4 37) (Nat.le_of_ble_eq_true rfl) rfl (Z_iload_n (dJ6_bitCount_0f7a4 38) rfl (Z_bipush (dJ6_bitCount_0f7a4 39) ⟨by decide, by decide⟩ (Z_iand (dJ6_bitCount_0f7a4 40) (Z_ireturn (dJ6_bitCount_0f7a4 41) rfl h.2))))))))))
set_option maxRecDepth 20000 in
theorem sJ6_numberOfTrailingZeros_0f7a4_0 {G : ZG} {d : Nat} {A : AH} {K : Option AV → AH → Prop} {x0 : Int} (h : (-2147483648 ≤ (x0 - 1) ∧ (x0 - 1) ≤ 2147483647) ∧ (Z G mJ6_numberOfTrailingZeros_0f7a4 d 0 0 8 [vi (zand (zxor x0 (-1)) (x0 - 1)), vu] [] A K)) : Z G mJ6_numberOfTrailingZeros_0f7a4 d 0 0 0 [vi x0, vu] [] A K := (Z_iload_n (dJ6_numberOfTrailingZeros_0f7a4 0) rfl (Z_iconst (dJ6_numberOfTrailingZeros_0f7a4 1) ⟨by decide, by decide⟩ (Z_ixor (dJ6_numberOfTrailingZeros_0f7a4 2) (Z_iload_n (dJ6_numberOfTrailingZeros_0f7a4 3) rfl (Z_iconst (dJ6_numberOfTrailingZeros_0f7a4 4) ⟨by decide, by decide⟩ (Z_isub (dJ6_numberOfTrailingZeros_0f7a4 5) h.1 (Z_iand (dJ6_numberOfTrailingZeros_0f7a4 6) (Z_istore_n (dJ6_numberOfTrailingZeros_0f7a4 7) (Nat.le_of_ble_eq_true rfl) rfl h.2))))))))
set_option maxRecDepth 20000 in
theorem sJ6_numberOfTrailingZeros_0f7a4_8 {G : ZG} {d : Nat} {A : AH} {K : Option AV → AH → Prop} {x0 : Int} (h : (0 < x0 → ((x0 ≤ 65536 → (Z G mJ6_numberOfTrailingZeros_0f7a4 d 0 0 34 [vi x0, vi 1] [] A K)) ∧ (65536 < x0 → (Z G mJ6_numberOfTrailingZeros_0f7a4 d 0 0 34 [vi (zushr x0 16), vi (1 + 16)] [] A K)))) ∧ (x0 ≤ 0 → (K (some (vi (zand x0 32))) A))) : Z G mJ6_numberOfTrailingZeros_0f7a4 d 0 0 8 [vi x0, vu] [] A K := (Z_iload_n (dJ6_numberOfTrailingZeros_0f7a4 8) rfl (Z_if_gt (dJ6_numberOfTrailingZeros_0f7a4 9) rfl (fun c1 => (Z_iconst (dJ6_numberOfTrailingZeros_0f7a4 14) ⟨by decide, by decide⟩ (Z_istore_n (dJ6_numberOfTrailingZeros_0f7a4 15) (Nat.le_of_ble_eq_true rfl) rfl (Z_iload_n (dJ6_numberOfTrailingZeros_0f7a4 16) rfl (Z_ldcw (dJ6_numberOfTrailingZeros_0f7a4 17) lk_J6_264 (Z_icmp_le (dJ6_numberOfTrailingZeros_0f7a4 18) rfl (fun c3 => ((h.1 c1).1 c3)) (fun c4 => (Z_iinc (dJ6_numberOfTrailingZeros_0f7a4 19) rfl (Nat.le_of_ble_eq_true rfl) ⟨by decide, by decide⟩ rfl (Z_iload_n (dJ6_numberOfTrailingZeros_0f7a4 20) rfl (Z_bipush (dJ6_numberOfTrailingZeros_0f7a4 21) ⟨by decide, by decide⟩ (Z_iushr (dJ6_numberOfTrailingZeros_0f7a4 22) (Z_istore_n (dJ6_numberOfTrailingZeros_0f7a4 23) (Nat.le_of_ble_eq_true rfl) rfl ((h.1 c1).2 c4))))))))))))) (fun c2 => (Z_iload_n (dJ6_numberOfTrailingZeros_0f7a4 10) rfl (Z_bipush (dJ6_numberOfTrailingZeros_0f7a4 11) ⟨by decide, by decide⟩ (Z_iand (dJ6_numberOfTrailingZeros_0f7a4 12) (Z_ireturn (dJ6_numberOfTrailingZeros_0f7a4 13) rfl (h.2 c2))))))))
set_option maxRecDepth 20000 in
theorem sJ6_numberOfTrailingZeros_0f7a4_34 {G : ZG} {d : Nat} {A : AH} {K : Option AV → AH → Prop} {x0 x1 : Int} (h : (x0 ≤ 256 → (Z G mJ6_numberOfTrailingZeros_0f7a4 d 0 0 49 [vi x0, vi x1] [] A K)) ∧ (256 < x0 → ((-2147483648 ≤ (x1 + 8) ∧ (x1 + 8) ≤ 2147483647) ∧ (Z G mJ6_numberOfTrailingZeros_0f7a4 d 0 0 49 [vi (zushr x0 8), vi (x1 + 8)] [] A K)))) : Z G mJ6_numberOfTrailingZeros_0f7a4 d 0 0 34 [vi x0, vi x1] [] A K := (Z_iload_n (dJ6_numberOfTrailingZeros_0f7a4 24) rfl (Z_sipush (dJ6_numberOfTrailingZeros_0f7a4 25) ⟨by decide, by decide⟩ (Z_icmp_le (dJ6_numberOfTrailingZeros_0f7a4 26) rfl (fun c1 => (h.1 c1)) (fun c2 => (Z_iinc (dJ6_numberOfTrailingZeros_0f7a4 27) rfl (Nat.le_of_ble_eq_true rfl) (h.2 c2).1 rfl (Z_iload_n (dJ6_numberOfTrailingZeros_0f7a4 28) rfl (Z_bipush (dJ6_numberOfTrailingZeros_0f7a4 29) ⟨by decide, by decide⟩ (Z_iushr (dJ6_numberOfTrailingZeros_0f7a4 30) (Z_istore_n (dJ6_numberOfTrailingZeros_0f7a4 31) (Nat.le_of_ble_eq_true rfl) rfl (h.2 c2).2)))))))))
set_option maxRecDepth 20000 in
theorem sJ6_numberOfTrailingZeros_0f7a4_49 {G : ZG} {d : Nat} {A : AH} {K : Option AV → AH → Prop} {x0 x1 : Int} (h : (x0 ≤ 16 → (Z G mJ6_numberOfTrailingZeros_0f7a4 d 0 0 62 [vi x0, vi x1] [] A K)) ∧ (16 < x0 → ((-2147483648 ≤ (x1 + 4) ∧ (x1 + 4) ≤ 2147483647) ∧ (Z G mJ6_numberOfTrailingZeros_0f7a4 d 0 0 62 [vi (zushr x0 4), vi (x1 + 4)] [] A K)))) : Z G mJ6_numberOfTrailingZeros_0f7a4 d 0 0 49 [vi x0, vi x1] [] A K := (Z_iload_n (dJ6_numberOfTrailingZeros_0f7a4 32) rfl (Z_bipush (dJ6_numberOfTrailingZeros_0f7a4 33) ⟨by decide, by decide⟩ (Z_icmp_le (dJ6_numberOfTrailingZeros_0f7a4 34) rfl (fun c1 => (h.1 c1)) (fun c2 => (Z_iinc (dJ6_numberOfTrailingZeros_0f7a4 35) rfl (Nat.le_of_ble_eq_true rfl) (h.2 c2).1 rfl (Z_iload_n (dJ6_numberOfTrailingZeros_0f7a4 36) rfl (Z_iconst (dJ6_numberOfTrailingZeros_0f7a4 37) ⟨by decide, by decide⟩ (Z_iushr (dJ6_numberOfTrailingZeros_0f7a4 38) (Z_istore_n (dJ6_numberOfTrailingZeros_0f7a4 39) (Nat.le_of_ble_eq_true rfl) rfl (h.2 c2).2)))))))))
set_option maxRecDepth 20000 in
theorem sJ6_numberOfTrailingZeros_0f7a4_62 {G : ZG} {d : Nat} {A : AH} {K : Option AV → AH → Prop} {x0 x1 : Int} (h : (x0 ≤ 4 → (Z G mJ6_numberOfTrailingZeros_0f7a4 d 0 0 74 [vi x0, vi x1] [] A K)) ∧ (4 < x0 → ((-2147483648 ≤ (x1 + 2) ∧ (x1 + 2) ≤ 2147483647) ∧ (Z G mJ6_numberOfTrailingZeros_0f7a4 d 0 0 74 [vi (zushr x0 2), vi (x1 + 2)] [] A K)))) : Z G mJ6_numberOfTrailingZeros_0f7a4 d 0 0 62 [vi x0, vi x1] [] A K := (Z_iload_n (dJ6_numberOfTrailingZeros_0f7a4 40) rfl (Z_iconst (dJ6_numberOfTrailingZeros_0f7a4 41) ⟨by decide, by decide⟩ (Z_icmp_le (dJ6_numberOfTrailingZeros_0f7a4 42) rfl (fun c1 => (h.1 c1)) (fun c2 => (Z_iinc (dJ6_numberOfTrailingZeros_0f7a4 43) rfl (Nat.le_of_ble_eq_true rfl) (h.2 c2).1 rfl (Z_iload_n (dJ6_numberOfTrailingZeros_0f7a4 44) rfl (Z_iconst (dJ6_numberOfTrailingZeros_0f7a4 45) ⟨by decide, by decide⟩ (Z_iushr (dJ6_numberOfTrailingZeros_0f7a4 46) (Z_istore_n (dJ6_numberOfTrailingZeros_0f7a4 47) (Nat.le_of_ble_eq_true rfl) rfl (h.2 c2).2)))))))))
set_option maxRecDepth 20000 in
theorem sJ6_numberOfTrailingZeros_0f7a4_74 {G : ZG} {d : Nat} {A : AH} {K : Option AV → AH → Prop} {x0 x1 : Int} (h : (-2147483648 ≤ (x1 + (zushr x0 1)) ∧ (x1 + (zushr x0 1)) ≤ 2147483647) ∧ (K (some (vi (x1 + (zushr x0 1)))) A)) : Z G mJ6_numberOfTrailingZeros_0f7a4 d 0 0 74 [vi x0, vi x1] [] A K := (Z_iload_n (dJ6_numberOfTrailingZeros_0f7a4 48) rfl (Z_iload_n (dJ6_numberOfTrailingZeros_0f7a4 49) rfl (Z_iconst (dJ6_numberOfTrailingZeros_0f7a4 50) ⟨by decide, by decide⟩ (Z_iushr (dJ6_numberOfTrailingZeros_0f7a4 51) (Z_iadd (dJ6_numberOfTrailingZeros_0f7a4 52) h.1 (Z_ireturn (dJ6_numberOfTrailingZeros_0f7a4 53) rfl h.2))))))
theorem J_bitCount {G : ZG} {d : Nat} {A : AH} {K : Option AV → AH → Prop} {x : Nat} (h : x < 65536) (k : K (some (vi ((pop 16 x : Nat) : Int))) A) : Z G mJ6_bitCount_0f7a4 d 0 0 0 [vi (x : Int)] [] A K := by
  rw [← bcN_pop h] at k
  unfold bcN at k
  dsimp only at k
  apply sJ6_bitCount_0f7a4_0
  have sr : ∀ a j : Nat, a >>> j ≤ a := fun a j => by rw [Nat.shiftRight_eq_div_pow]; exact Nat.div_le_self _ _
  have l1 : (x >>> 1) &&& 1431655765 ≤ x := Nat.le_trans Nat.and_le_left (sr x 1)
  have e1 : (x : Int) - zand (zushr (x : Int) 1) 1431655765 = ((x - ((x >>> 1) &&& 1431655765) : Nat) : Int) := by
    have u : zushr (x : Int) 1 = ((x >>> 1 : Nat) : Int) := zushr_n (k := 1) (by omega) (by omega)
    have w : zand ((x >>> 1 : Nat) : Int) 1431655765 = (((x >>> 1) &&& 1431655765 : Nat) : Int) := zand_n (b := 1431655765) (by have := sr x 1; omega) (by omega)
    rw [u, w]
    omega
  rw [e1]
  generalize hA : x - ((x >>> 1) &&& 1431655765) = a at k ⊢
  have la : a < 65536 := by omega
  refine ⟨by omega, ?_⟩
  apply sJ6_bitCount_0f7a4_10
  have e2 : zand (a : Int) 858993459 + zand (zushr (a : Int) 2) 858993459 = (((a &&& 858993459) + ((a >>> 2) &&& 858993459) : Nat) : Int) := by
    have u : zushr (a : Int) 2 = ((a >>> 2 : Nat) : Int) := zushr_n (k := 2) (by omega) (by omega)
    have w : zand ((a >>> 2 : Nat) : Int) 858993459 = (((a >>> 2) &&& 858993459 : Nat) : Int) := zand_n (b := 858993459) (by have := sr a 2; omega) (by omega)
    have w2 : zand (a : Int) 858993459 = ((a &&& 858993459 : Nat) : Int) := zand_n (b := 858993459) (by omega) (by omega)
    rw [u, w, w2]
    omega
  have l2 : (a &&& 858993459) + ((a >>> 2) &&& 858993459) ≤ 131072 := by
    have p := Nat.and_le_left (n := a) (m := 858993459)
    have q := Nat.and_le_left (n := a >>> 2) (m := 858993459)
    have r := sr a 2
    omega
  rw [e2]
  generalize hB : (a &&& 858993459) + ((a >>> 2) &&& 858993459) = b at k l2 ⊢
  refine ⟨by omega, ?_⟩
  apply sJ6_bitCount_0f7a4_24
  have r4 := sr b 4
  have u4 : zushr (b : Int) 4 = ((b >>> 4 : Nat) : Int) := zushr_n (k := 4) (by omega) (by omega)
  rw [u4, show (b : Int) + ((b >>> 4 : Nat) : Int) = ((b + b >>> 4 : Nat) : Int) by omega, show zand ((b + b >>> 4 : Nat) : Int) 252645135 = (((b + b >>> 4) &&& 252645135 : Nat) : Int) from zand_n (b := 252645135) (by omega) (by omega)]
  have l3 : (b + b >>> 4) &&& 252645135 ≤ 262144 := by
    have p := Nat.and_le_left (n := b + b >>> 4) (m := 252645135)
    omega
  refine ⟨by omega, ?_⟩
  generalize hC : (b + b >>> 4) &&& 252645135 = c at k l3 ⊢
  apply sJ6_bitCount_0f7a4_34
  have r8 := sr c 8
  have u8 : zushr (c : Int) 8 = ((c >>> 8 : Nat) : Int) := zushr_n (k := 8) (by omega) (by omega)
  rw [u8, show (c : Int) + ((c >>> 8 : Nat) : Int) = ((c + c >>> 8 : Nat) : Int) by omega]
  refine ⟨by omega, ?_⟩
  have l4 : c + c >>> 8 ≤ 524288 := by omega
  generalize hD : c + c >>> 8 = e at k l4 ⊢
  apply sJ6_bitCount_0f7a4_41
  have r16 := sr e 16
  have u16 : zushr (e : Int) 16 = ((e >>> 16 : Nat) : Int) := zushr_n (k := 16) (by omega) (by omega)
  rw [u16, show (e : Int) + ((e >>> 16 : Nat) : Int) = ((e + e >>> 16 : Nat) : Int) by omega, show zand ((e + e >>> 16 : Nat) : Int) 63 = (((e + e >>> 16) &&& 63 : Nat) : Int) from zand_n (b := 63) (by omega) (by omega)]
  exact ⟨by omega, k⟩
theorem ntz_a {c q x : Nat} (hx : x = 2 ^ c * (2 * q + 1)) (h : x < 65536) : (x - 1) &&& (65535 ^^^ x) = 2 ^ c - 1 := by
  have p := Nat.two_pow_pos c
  have e : x - 1 = 2 ^ c * (2 * q) + (2 ^ c - 1) := by
    rw [hx, Nat.mul_add, Nat.mul_one]; omega
  apply Nat.eq_of_testBit_eq
  intro i
  rw [e, show x = 2 ^ c * (2 * q + 1) + 0 by omega, Nat.testBit_and, Nat.testBit_xor, Nat.testBit_two_pow_mul_add _ (by omega), Nat.testBit_two_pow_mul_add _ p, show 65535 = 2 ^ 16 - 1 from rfl, Nat.testBit_two_pow_sub_one, Nat.testBit_two_pow_sub_one]
  by_cases g : i < c
  · have c16 : c < 16 := by
      apply Classical.byContradiction
      intro n
      have := Nat.pow_le_pow_right (n := 2) (by decide) (show 16 ≤ c by omega)
      have t : 2 ^ c * 1 ≤ 2 ^ c * (2 * q + 1) := Nat.mul_le_mul_left _ (by omega)
      omega
    rw [if_pos g, if_pos g, Nat.zero_testBit, decide_eq_true g, decide_eq_true (show i < 16 by omega)]
    rfl
  · rw [if_neg g, if_neg g, decide_eq_false g]
    rcases Nat.eq_zero_or_pos (i - c) with z | z
    · rw [z, Nat.testBit_zero, show (2 * q) % 2 = 0 by omega]
      rfl
    · obtain ⟨j, hj⟩ : ∃ j, i - c = j + 1 := ⟨i - c - 1, by omega⟩
      rw [hj, Nat.testBit_succ, Nat.testBit_succ, show 2 * q / 2 = q by omega, show (2 * q + 1) / 2 = q by omega]
      by_cases t : q.testBit j = true
      · have : i < 16 := by
          apply Classical.byContradiction
          intro n
          have b := Nat.testBit_lt_two_pow (x := x) (i := i) (Nat.lt_of_lt_of_le h (Nat.pow_le_pow_right (n := 2) (by decide) (show 16 ≤ i by omega)))
          rw [show x = 2 ^ c * (2 * q + 1) + 0 by omega, Nat.testBit_two_pow_mul_add _ p, if_neg g, hj, Nat.testBit_succ, show (2 * q + 1) / 2 = q by omega, t] at b
          exact absurd b (by decide)
        rw [t, decide_eq_true this]; rfl
      · rw [Bool.not_eq_true] at t
        rw [t]; rfl
theorem J_ntz {G : ZG} {d : Nat} {A : AH} {K : Option AV → AH → Prop} {x c q : Nat} (hx : x = 2 ^ c * (2 * q + 1)) (h : x < 65536) (k : K (some (vi (c : Int))) A) : Z G mJ6_numberOfTrailingZeros_0f7a4 d 0 0 0 [vi (x : Int), vu] [] A K := by
  have p := Nat.two_pow_pos c
  have t : 2 ^ c * 1 ≤ 2 ^ c * (2 * q + 1) := Nat.mul_le_mul_left _ (by omega)
  have c16 : c < 16 := by
    apply Classical.byContradiction
    intro n
    have := Nat.pow_le_pow_right (n := 2) (by decide) (show 16 ≤ c by omega)
    omega
  apply sJ6_numberOfTrailingZeros_0f7a4_0
  have cm : ∀ a b : Int, zand a b = zand b a := fun a b => by
    unfold zand
    congr 1
    apply Int32.toBitVec_inj.mp
    rw [Int32.toBitVec_and, Int32.toBitVec_and, BitVec.and_comm]
  have e : zand (zxor (x : Int) (-1)) ((x : Int) - 1) = ((2 ^ c - 1 : Nat) : Int) := by
    rw [cm, show (x : Int) - 1 = ((x - 1 : Nat) : Int) by omega, zandn_n (by omega) h, ntz_a hx h]
  rw [e]
  refine ⟨by omega, ?_⟩
  apply sJ6_numberOfTrailingZeros_0f7a4_8
  clear e t hx p
  clear h
  have u : ∀ n, n < 16 → n = 0 ∨ n = 1 ∨ n = 2 ∨ n = 3 ∨ n = 4 ∨ n = 5 ∨ n = 6 ∨ n = 7 ∨ n = 8 ∨ n = 9 ∨ n = 10 ∨ n = 11 ∨ n = 12 ∨ n = 13 ∨ n = 14 ∨ n = 15 := by omega
  rcases u c c16 with e | e | e | e | e | e | e | e | e | e | e | e | e | e | e | e <;> subst e <;> clear u c16 <;>
  repeat' (first | apply sJ6_numberOfTrailingZeros_0f7a4_34 | apply sJ6_numberOfTrailingZeros_0f7a4_49 | apply sJ6_numberOfTrailingZeros_0f7a4_62 | apply sJ6_numberOfTrailingZeros_0f7a4_74 | exact (Eq.mp (congrArg (fun i => K (some (vi i)) A) (by decide +kernel)) k) | (refine ⟨?_, ?_⟩) | (intro hh; first | exact absurd hh (by decide +kernel) | clear hh) | decide +kernel)

