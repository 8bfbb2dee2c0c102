/-! bits of small numbers -/
theorem n32_bv (a : Nat) : (n32 a).toBitVec = BitVec.ofNat 32 a := rfl
theorem n32_and (a b : Nat) : n32 a &&& n32 b = n32 (a &&& b) := by
  apply Int32.toBitVec_inj.mp
  rw [Int32.toBitVec_and, n32_bv, n32_bv, n32_bv, BitVec.ofNat_and]
theorem n32_or' (a b : Nat) : n32 a ||| n32 b = n32 (a ||| b) := by
  apply Int32.toBitVec_inj.mp
  rw [Int32.toBitVec_or, n32_bv, n32_bv, n32_bv, BitVec.ofNat_or]
theorem n32_m31 {i : Nat} (h : i < 32) : n32 i &&& n32 31 = n32 i := by
  rw [n32_and, show (31 : Nat) = 2 ^ 5 - 1 from rfl, Nat.and_two_pow_sub_one_eq_mod, Nat.mod_eq_of_lt h]
theorem n32_sm {i : Nat} (h : i < 32) : ((n32 i).toBitVec.smod 32).toNat = i := by
  rw [n32_bv]
  have : ∀ j, j < 32 → (((BitVec.ofNat 32 j)).smod 32).toNat = j := by decide
  exact this i h
theorem n32_shl (a : Nat) {i : Nat} (h : i < 32) : n32 a <<< (n32 i &&& n32 31) = n32 (a <<< i) := by
  rw [n32_m31 h]
  apply Int32.toBitVec_inj.mp
  rw [Int32.toBitVec_shiftLeft, BitVec.shiftLeft_eq', n32_sm h, n32_bv, n32_bv]
  apply BitVec.eq_of_toNat_eq
  rw [BitVec.toNat_shiftLeft, BitVec.toNat_ofNat, BitVec.toNat_ofNat, Nat.shiftLeft_eq, Nat.shiftLeft_eq, Nat.mod_mul_mod]
theorem n32_shr {a i : Nat} (ha : a < 2147483648) (h : i < 32) : n32 a >>> (n32 i &&& n32 31) = n32 (a >>> i) := by
  rw [n32_m31 h]
  apply Int32.toBitVec_inj.mp
  rw [Int32.toBitVec_shiftRight]
  show BitVec.sshiftRight _ _ = _
  rw [n32_sm h, n32_bv, n32_bv, BitVec.sshiftRight_eq_of_msb_false]
  · apply BitVec.eq_of_toNat_eq
    rw [BitVec.toNat_ushiftRight, BitVec.toNat_ofNat, BitVec.toNat_ofNat, Nat.mod_eq_of_lt (show a < 2 ^ 32 by omega), Nat.mod_eq_of_lt]
    exact Nat.lt_of_le_of_lt (Nat.shiftRight_le a i) (by omega)
  · rw [BitVec.msb_eq_decide, BitVec.toNat_ofNat, Nat.mod_eq_of_lt (show a < 2 ^ 32 by omega)]
    exact decide_eq_false (by omega)
theorem bit_nat (a i : Nat) : (a >>> i) &&& 1 = (a.testBit i).toNat := by
  rw [Nat.and_one_is_mod, Nat.testBit_eq_decide_div_mod_eq, Nat.shiftRight_eq_div_pow]
  have := Nat.mod_lt (a / 2 ^ i) (show 2 > 0 by omega)
  by_cases h : a / 2 ^ i % 2 = 1
  · simp [h]
  · have h0 : a / 2 ^ i % 2 = 0 := by omega
    simp [h0]
theorem n32_bit {a i : Nat} (ha : a < 2147483648) (h : i < 32) : (n32 a >>> (n32 i &&& n32 31)) &&& n32 1 = n32 (a.testBit i).toNat := by
  rw [n32_shr ha h, n32_and, bit_nat]
theorem n32_b1 (b : Bool) : (n32 b.toNat = n32 1) = (b = true) := by cases b <;> decide
theorem n32_b0 (b : Bool) : (n32 b.toNat = n32 0) = (b = false) := by cases b <;> decide
theorem n32_one {i : Nat} (h : i < 32) : n32 1 <<< (n32 i &&& n32 31) = n32 (2 ^ i) := by rw [n32_shl 1 h, Nat.one_shiftLeft]
/-- a set without one of its own -/
theorem n32_without {a i : Nat} (ha : a < 128) (h : i < 7) : n32 a &&& ((n32 1 <<< (n32 i &&& n32 31)) ^^^ (-n32 1)) = n32 (if a.testBit i then a - 2 ^ i else a) := by
  have : ∀ a, a < 128 → ∀ i, i < 7 → n32 a &&& ((n32 1 <<< (n32 i &&& n32 31)) ^^^ (-n32 1)) = n32 (if a.testBit i then a - 2 ^ i else a) := by decide +kernel
  exact this a ha i h
theorem n32_div {a b : Nat} (ha : a < 2147483648) (hb : b < 2147483648) : n32 a / n32 b = n32 (a / b) := by
  apply Int32.toInt_inj.mp
  rw [Int32.toInt_div, n32_int ha, n32_int hb, n32_int (Nat.lt_of_le_of_lt (Nat.div_le_self a b) ha), ← Int.ofNat_tdiv]
  have := Nat.lt_of_le_of_lt (Nat.div_le_self a b) ha
  generalize a / b = q at this ⊢
  exact Int.bmod_eq_of_le (by omega) (by omega)
theorem n32_mod {a b : Nat} (ha : a < 2147483648) (hb : b < 2147483648) : n32 a - n32 a / n32 b * n32 b = n32 (a % b) := by
  rw [n32_div ha hb, n32_mul, n32_sub (Nat.div_mul_le_self a b)]
  congr 1
  have := Nat.div_add_mod a b
  rw [Nat.mul_comm] at this
  omega
theorem n32_subneg {a b : Nat} (h : a < b) (hb : b < 2147483648) : n32 a - n32 b < 0 := by
  rw [Int32.lt_iff_toInt_lt, Int32.toInt_sub, n32_int (by omega), n32_int hb, Int.bmod_eq_of_le (by omega) (by omega)]
  show _ < (0 : Int)
  omega
/-- how many of seven -/
def pop7 (a : Nat) : Nat := (a.testBit 0).toNat + (a.testBit 1).toNat + (a.testBit 2).toNat + (a.testBit 3).toNat + (a.testBit 4).toNat + (a.testBit 5).toNat + (a.testBit 6).toNat
theorem bitc_n {a : Nat} (h : a < 128) : bitc (n32 a) = n32 (pop7 a) := by
  have : ∀ a, a < 128 → bitc (n32 a) = n32 (pop7 a) := by decide +kernel
  exact this a h
theorem pop7_le (a : Nat) : pop7 a ≤ 7 := by
  have h : ∀ b : Bool, b.toNat ≤ 1 := by decide
  have := h (a.testBit 0); have := h (a.testBit 1); have := h (a.testBit 2); have := h (a.testBit 3); have := h (a.testBit 4); have := h (a.testBit 5); have := h (a.testBit 6)
  unfold pop7; omega
