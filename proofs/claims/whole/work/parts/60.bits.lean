/-! bits of whole numbers that are no less than 0 -/
theorem i32bv (x : Int) : (Int32.ofInt x).toBitVec = BitVec.ofInt 32 x := rfl
theorem i64bv (x : Int) : (Int64.ofInt x).toBitVec = BitVec.ofInt 64 x := rfl
theorem tn32 {a : Nat} (h : a < 2147483648) : (BitVec.ofInt 32 (a : Int)).toNat = a := by
  rw [BitVec.ofInt_natCast, BitVec.toNat_ofNat]
  exact Nat.mod_eq_of_lt (by omega)
theorem tn64 {a : Nat} (h : a < 9223372036854775808) : (BitVec.ofInt 64 (a : Int)).toNat = a := by
  rw [BitVec.ofInt_natCast, BitVec.toNat_ofNat]
  exact Nat.mod_eq_of_lt (by omega)
theorem ti32 {v : BitVec 32} (h : v.toNat < 2147483648) : v.toInt = (v.toNat : Int) := BitVec.toInt_eq_toNat_of_lt (by omega)
theorem ti64 {v : BitVec 64} (h : v.toNat < 9223372036854775808) : v.toInt = (v.toNat : Int) := BitVec.toInt_eq_toNat_of_lt (by omega)
theorem band_nat {a b : Nat} (ha : a < 2147483648) (hb : b < 2147483648) : band a b = ((a &&& b : Nat) : Int) := by
  show ((Int32.ofInt a &&& Int32.ofInt b).toBitVec).toInt = _
  rw [Int32.toBitVec_and, i32bv, i32bv]
  have e : (BitVec.ofInt 32 (a : Int) &&& BitVec.ofInt 32 (b : Int)).toNat = a &&& b := by rw [BitVec.toNat_and, tn32 ha, tn32 hb]
  have lt : a &&& b < 2 ^ 31 := Nat.and_lt_two_pow _ hb
  rw [ti32 (by rw [e]; omega), e]
theorem bor_nat {a b : Nat} (ha : a < 2147483648) (hb : b < 2147483648) : bor a b = ((a ||| b : Nat) : Int) := by
  show ((Int32.ofInt a ||| Int32.ofInt b).toBitVec).toInt = _
  rw [Int32.toBitVec_or, i32bv, i32bv]
  have e : (BitVec.ofInt 32 (a : Int) ||| BitVec.ofInt 32 (b : Int)).toNat = a ||| b := by rw [BitVec.toNat_or, tn32 ha, tn32 hb]
  have lt : a ||| b < 2 ^ 31 := Nat.or_lt_two_pow ha hb
  rw [ti32 (by rw [e]; omega), e]
theorem lband_nat {a b : Nat} (ha : a < 9223372036854775808) (hb : b < 9223372036854775808) : lband a b = ((a &&& b : Nat) : Int) := by
  show ((Int64.ofInt a &&& Int64.ofInt b).toBitVec).toInt = _
  rw [Int64.toBitVec_and, i64bv, i64bv]
  have e : (BitVec.ofInt 64 (a : Int) &&& BitVec.ofInt 64 (b : Int)).toNat = a &&& b := by rw [BitVec.toNat_and, tn64 ha, tn64 hb]
  have lt : a &&& b < 2 ^ 63 := Nat.and_lt_two_pow _ hb
  rw [ti64 (by rw [e]; omega), e]
theorem lbor_nat {a b : Nat} (ha : a < 9223372036854775808) (hb : b < 9223372036854775808) : lbor a b = ((a ||| b : Nat) : Int) := by
  show ((Int64.ofInt a ||| Int64.ofInt b).toBitVec).toInt = _
  rw [Int64.toBitVec_or, i64bv, i64bv]
  have e : (BitVec.ofInt 64 (a : Int) ||| BitVec.ofInt 64 (b : Int)).toNat = a ||| b := by rw [BitVec.toNat_or, tn64 ha, tn64 hb]
  have lt : a ||| b < 2 ^ 63 := Nat.or_lt_two_pow ha hb
  rw [ti64 (by rw [e]; omega), e]
theorem bshl_1 : ∀ k : Nat, k < 31 → bshl 1 k = ((2 ^ k : Nat) : Int) := by decide +kernel
theorem lbshl_1 : ∀ k : Nat, k < 63 → lbshl 1 k = ((2 ^ k : Nat) : Int) := by decide +kernel
theorem sh32 : ∀ k : Nat, k < 32 → ((Int32.ofInt (k : Int) &&& 31).toBitVec.smod 32).toNat = k := by decide +kernel
theorem sh64 : ∀ k : Nat, k < 64 → (((Int32.ofInt (k : Int)).toInt64 &&& 63).toBitVec.smod 64).toNat = k := by decide +kernel
theorem bshr_nat {a k : Nat} (ha : a < 2147483648) (hk : k < 32) : bshr a k = ((a >>> k : Nat) : Int) := by
  show ((Int32.ofInt a >>> (Int32.ofInt k &&& 31)).toBitVec).toInt = _
  rw [Int32.toBitVec_shiftRight, i32bv, BitVec.sshiftRight_eq', sh32 k hk, BitVec.toInt_sshiftRight, ti32 (by rw [tn32 ha]; exact ha), tn32 ha]
  rfl
theorem lbshr_nat {a k : Nat} (ha : a < 9223372036854775808) (hk : k < 64) : lbshr a k = ((a >>> k : Nat) : Int) := by
  show ((Int64.ofInt a >>> ((Int32.ofInt k).toInt64 &&& 63)).toBitVec).toInt = _
  rw [Int64.toBitVec_shiftRight, i64bv, BitVec.sshiftRight_eq', sh64 k hk, BitVec.toInt_sshiftRight, ti64 (by rw [tn64 ha]; exact ha), tn64 ha]
  rfl
theorem bit_and1 (a : Nat) : (a &&& 1) = a % 2 := Nat.and_one_is_mod a
theorem bit_tb {a k : Nat} : (a >>> k) &&& 1 = if a.testBit k then 1 else 0 := by
  rw [bit_and1, Nat.testBit_eq_decide_div_mod_eq, Nat.shiftRight_eq_div_pow]
  have := Nat.mod_two_eq_zero_or_one (a / 2 ^ k)
  rcases this with e | e <;> simp [e]
/-- is the bit set, as the machine asks -/
theorem tb32 {a k : Nat} (ha : a < 2147483648) (hk : k < 32) : band (bshr a k) 1 = if a.testBit k then 1 else 0 := by
  rw [bshr_nat ha hk]
  have : a >>> k < 2147483648 := by rw [Nat.shiftRight_eq_div_pow]; exact Nat.lt_of_le_of_lt (Nat.div_le_self _ _) ha
  have e := band_nat (a := a >>> k) (b := 1) this (by decide)
  have e1 : ((1 : Nat) : Int) = 1 := rfl
  rw [e1] at e
  rw [e, bit_tb]
  split <;> rfl
theorem tb64 {a k : Nat} (ha : a < 9223372036854775808) (hk : k < 64) : lband (lbshr a k) 1 = if a.testBit k then 1 else 0 := by
  rw [lbshr_nat ha hk]
  have : a >>> k < 9223372036854775808 := by rw [Nat.shiftRight_eq_div_pow]; exact Nat.lt_of_le_of_lt (Nat.div_le_self _ _) ha
  have e := lband_nat (a := a >>> k) (b := 1) this (by decide)
  have e1 : ((1 : Nat) : Int) = 1 := rfl
  rw [e1] at e
  rw [e, bit_tb]
  split <;> rfl
theorem or_pow_tb {a k j : Nat} : (a ||| 2 ^ k).testBit j = (a.testBit j || decide (k = j)) := by
  rw [Nat.testBit_or, Nat.testBit_two_pow]
theorem band255 {x : Int} (h : -128 ≤ x ∧ x ≤ 127) : 0 ≤ band x 255 ∧ band x 255 ≤ 255 := by
  have all : ∀ n : Nat, n < 256 → 0 ≤ band ((n : Int) - 128) 255 ∧ band ((n : Int) - 128) 255 ≤ 255 := by decide +kernel
  have := all (x + 128).toNat (by omega)
  rwa [show (((x + 128).toNat : Nat) : Int) - 128 = x by omega] at this
