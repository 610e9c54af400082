/-! meets: bits, the row of what has been reckoned -/
theorem tb2 {t b i : Nat} (hb : b < 2) : (2 * t + b).testBit i = if i = 0 then decide (b = 1) else t.testBit (i - 1) := by
  cases i with
  | zero => rw [Nat.testBit_zero, if_pos rfl]; congr 1; simp; omega
  | succ i => rw [Nat.testBit_succ, if_neg (by omega), show (2 * t + b) / 2 = t by omega, show i + 1 - 1 = i by omega]
theorem xor2 {t b s c : Nat} (hb : b < 2) (hc : c < 2) : (2 * t + b) ^^^ (2 * s + c) = 2 * (t ^^^ s) + (b ^^^ c) := by
  have h2 : b ^^^ c < 2 := Nat.xor_lt_two_pow (n := 1) hb hc
  apply Nat.eq_of_testBit_eq
  intro i
  rw [Nat.testBit_xor, tb2 hb, tb2 hc, tb2 h2]
  split
  · have : b = 0 ∨ b = 1 := by omega
    have : c = 0 ∨ c = 1 := by omega
    rcases ‹b = 0 ∨ b = 1› with rfl | rfl <;> rcases ‹c = 0 ∨ c = 1› with rfl | rfl <;> decide
  · rw [Nat.testBit_xor]
theorem or2 {t b s c : Nat} (hb : b < 2) (hc : c < 2) : (2 * t + b) ||| (2 * s + c) = 2 * (t ||| s) + (b ||| c) := by
  have h2 : b ||| c < 2 := Nat.or_lt_two_pow (n := 1) hb hc
  apply Nat.eq_of_testBit_eq
  intro i
  rw [Nat.testBit_or, tb2 hb, tb2 hc, tb2 h2]
  split
  · have : b = 0 ∨ b = 1 := by omega
    have : c = 0 ∨ c = 1 := by omega
    rcases ‹b = 0 ∨ b = 1› with rfl | rfl <;> rcases ‹c = 0 ∨ c = 1› with rfl | rfl <;> decide
  · rw [Nat.testBit_or]
theorem and2 {t b s c : Nat} (hb : b < 2) (hc : c < 2) : (2 * t + b) &&& (2 * s + c) = 2 * (t &&& s) + (b &&& c) := by
  have h2 : b &&& c < 2 := Nat.and_lt_two_pow (n := 1) _ hc
  apply Nat.eq_of_testBit_eq
  intro i
  rw [Nat.testBit_and, tb2 hb, tb2 hc, tb2 h2]
  split
  · have : b = 0 ∨ b = 1 := by omega
    have : c = 0 ∨ c = 1 := by omega
    rcases ‹b = 0 ∨ b = 1› with rfl | rfl <;> rcases ‹c = 0 ∨ c = 1› with rfl | rfl <;> decide
  · rw [Nat.testBit_and]
theorem bxor_nat {a b : Nat} (ha : a < 2147483648) (hb : b < 2147483648) : bxor a b = ((a ^^^ b : Nat) : Int) := by
  show ((Int32.ofInt a ^^^ Int32.ofInt b).toBitVec).toInt = _
  rw [Int32.toBitVec_xor, i32bv, i32bv]
  have e : (BitVec.ofInt 32 (a : Int) ^^^ BitVec.ofInt 32 (b : Int)).toNat = a ^^^ b := by rw [BitVec.toNat_xor, tn32 ha, tn32 hb]
  have lt : a ^^^ b < 2 ^ 31 := Nat.xor_lt_two_pow ha hb
  rw [ti32 (by rw [e]; omega), e]
theorem bshl1 {a : Nat} (ha : a < 1073741824) : bshl a 1 = ((2 * a : Nat) : Int) := by
  show ((Int32.ofInt a <<< (Int32.ofInt ((1 : Nat) : Int) &&& 31)).toBitVec).toInt = _
  rw [Int32.toBitVec_shiftLeft, i32bv, BitVec.shiftLeft_eq', sh32 1 (by decide)]
  have e : (BitVec.ofInt 32 (a : Int) <<< 1).toNat = 2 * a := by
    rw [BitVec.toNat_shiftLeft, tn32 (by omega), Nat.shiftLeft_eq]
    omega
  rw [ti32 (by rw [e]; omega), e]
def vlB : List Bool → Nat
  | [] => 0
  | b :: t => 2 * vlB t + b.toNat
theorem vlB_lt : ∀ L : List Bool, vlB L < 2 ^ L.length
  | [] => by decide
  | b :: t => by
    have := vlB_lt t
    have hb := Bool.toNat_lt b
    show 2 * vlB t + b.toNat < 2 ^ (t.length + 1)
    rw [Nat.pow_succ]; omega
theorem vlB_20 {L : List Bool} (h : L.length ≤ 20) : vlB L < 1048577 := by
  have a := vlB_lt L
  have b : 2 ^ L.length ≤ 2 ^ 20 := Nat.pow_le_pow_right (by decide) h
  have c : (2 : Nat) ^ 20 = 1048576 := by decide
  omega
theorem vl_not {b : Bool} {t : List Bool} (h : (b :: t).length ≤ 20) : bxor (vlB (b :: t)) 1 = (vlB ((!b) :: t) : Int) := by
  have a := vlB_20 h
  have e := bxor_nat (a := vlB (b :: t)) (b := 1) (by omega) (by decide)
  refine e.trans ?_
  congr 1
  show (2 * vlB t + b.toNat) ^^^ (2 * 0 + 1) = 2 * vlB t + (!b).toNat
  rw [xor2 (Bool.toNat_lt b) (by decide), Nat.xor_zero]
  cases b <;> rfl
theorem vl_push {b : Bool} {t : List Bool} (h : t.length ≤ 20) : bor (bshl (vlB t) 1) (if b then 1 else 0) = (vlB (b :: t) : Int) := by
  have a := vlB_20 h
  rw [bshl1 (by omega)]
  have e := bor_nat (a := 2 * vlB t) (b := b.toNat) (by omega) (by have := Bool.toNat_lt b; omega)
  rw [show ((if b then 1 else 0 : Int)) = ((b.toNat : Nat) : Int) by cases b <;> rfl]
  refine e.trans ?_
  congr 1
  show (2 * vlB t) ||| b.toNat = 2 * vlB t + b.toNat
  have := or2 (t := vlB t) (b := 0) (s := 0) (c := b.toNat) (by decide) (Bool.toNat_lt b)
  rw [Nat.or_zero] at this
  simpa using this
theorem vl_half {b : Bool} {t : List Bool} (h : (b :: t).length ≤ 20) : bshr (vlB (b :: t)) 1 = (vlB t : Int) := by
  have a := vlB_20 h
  have e := bshr_nat (a := vlB (b :: t)) (k := 1) (by omega) (by decide)
  refine e.trans ?_
  congr 1
  rw [Nat.shiftRight_eq_div_pow]
  show (2 * vlB t + b.toNat) / 2 ^ 1 = vlB t
  have := Bool.toNat_lt b
  omega
theorem vl_low {b : Bool} {t : List Bool} (h : (b :: t).length ≤ 20) : band (vlB (b :: t)) 1 = if b then 1 else 0 := by
  have a := vlB_20 h
  have e := band_nat (a := vlB (b :: t)) (b := 1) (by omega) (by decide)
  refine e.trans ?_
  rw [bit_and1]
  show ((((2 * vlB t + b.toNat) % 2 : Nat)) : Int) = _
  cases b
  · rw [show (2 * vlB t + Bool.toNat false) % 2 = 0 by simp]; rfl
  · rw [show (2 * vlB t + Bool.toNat true) % 2 = 1 by simp [Nat.add_mod]]; rfl
theorem vl_or {b c : Bool} {t : List Bool} (h : (b :: c :: t).length ≤ 20) : bor (bshr (vlB (b :: c :: t)) 1) (band (vlB (b :: c :: t)) 1) = (vlB ((c || b) :: t) : Int) := by
  rw [vl_half h, vl_low h]
  have a := vlB_20 (L := c :: t) (by simp at h ⊢; omega)
  have e := bor_nat (a := vlB (c :: t)) (b := b.toNat) (by omega) (by have := Bool.toNat_lt b; omega)
  rw [show ((if b then 1 else 0 : Int)) = ((b.toNat : Nat) : Int) by cases b <;> rfl]
  refine e.trans ?_
  congr 1
  show (2 * vlB t + c.toNat) ||| b.toNat = 2 * vlB t + (c || b).toNat
  have := or2 (t := vlB t) (b := c.toNat) (s := 0) (c := b.toNat) (Bool.toNat_lt c) (Bool.toNat_lt b)
  rw [Nat.or_zero, Nat.mul_zero, Nat.zero_add] at this
  rw [this]
  cases b <;> cases c <;> rfl
theorem vl_and {b c : Bool} {t : List Bool} (h : (b :: c :: t).length ≤ 20) : band (bshr (vlB (b :: c :: t)) 1) (bor (vlB (b :: c :: t)) (-2)) = (vlB ((c && b) :: t) : Int) := by
  rw [vl_half h]
  have a := vlB_20 (L := c :: t) (by simp at h ⊢; omega)
  have a2 := vlB_20 h
  show ((Int32.ofInt (vlB (c :: t)) &&& Int32.ofInt ((Int32.ofInt (vlB (b :: c :: t)) ||| Int32.ofInt (-2)).toInt)).toBitVec).toInt = _
  rw [Int32.ofInt_toInt, Int32.toBitVec_and, Int32.toBitVec_or, i32bv, i32bv, i32bv]
  have e : (BitVec.ofInt 32 (vlB (c :: t) : Int) &&& (BitVec.ofInt 32 (vlB (b :: c :: t) : Int) ||| BitVec.ofInt 32 (-2))).toNat = vlB ((c && b) :: t) := by
    rw [BitVec.toNat_and, BitVec.toNat_or, tn32 (by omega), tn32 (by omega), show (BitVec.ofInt 32 (-2)).toNat = 2 * (2 ^ 31 - 1) + 0 from by decide]
    show (2 * vlB t + c.toNat) &&& ((2 * vlB (c :: t) + b.toNat) ||| (2 * (2 ^ 31 - 1) + 0)) = 2 * vlB t + (c && b).toNat
    rw [or2 (Bool.toNat_lt b) (by decide), and2 (Bool.toNat_lt c) (by have := Bool.toNat_lt b; rw [Nat.or_zero]; exact this)]
    have full : vlB t &&& (vlB (c :: t) ||| (2 ^ 31 - 1)) = vlB t := by
      apply Nat.eq_of_testBit_eq
      intro i
      rw [Nat.testBit_and, Nat.testBit_or, Nat.testBit_two_pow_sub_one]
      by_cases y : i < 31
      · simp [y]
      · have lt : vlB t < 2 ^ i := by
          have p : (2 : Nat) ^ 31 ≤ 2 ^ i := Nat.pow_le_pow_right (by decide) (by omega)
          have : 2 * vlB t ≤ vlB (c :: t) := Nat.le_add_right _ _
          omega
        rw [Nat.testBit_lt_two_pow lt]; rfl
    rw [full, Nat.or_zero]
    cases b <;> cases c <;> rfl
  have a3 := vlB_20 (L := (c && b) :: t) (by simp at h ⊢; omega)
  rw [ti32 (by rw [e]; omega), e]
