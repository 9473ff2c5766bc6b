theorem nat_and2 {f a b : Nat} (hf : f < 536870912) (ha : a ≤ 1) (hb : b ≤ 1) : (2 * f + a) &&& ((2 * (2 * f + a) + b) ||| 4294967294) = 2 * f + min a b := by
  apply Nat.eq_of_testBit_eq
  intro i
  rw [Nat.testBit_and, Nat.testBit_or]
  cases i with
  | zero =>
    rw [Nat.testBit_zero, Nat.testBit_zero, Nat.testBit_zero, Nat.testBit_zero, mod2 ha, mod2 hb, mod2 (by omega)]
    have h : a = 0 ∨ a = 1 := by omega
    have h' : b = 0 ∨ b = 1 := by omega
    rcases h with rfl | rfl <;> rcases h' with rfl | rfl <;> rfl
  | succ i =>
    rw [Nat.testBit_succ, Nat.testBit_succ, Nat.testBit_succ, Nat.testBit_succ, div2 ha, div2 hb, div2 (by omega)]
    rw [show 4294967294 / 2 = 2 ^ 31 - 1 by decide, Nat.testBit_two_pow_sub_one]
    by_cases hi : i < 31
    · simp [hi]
    · have h1 : f < 2 ^ i := Nat.lt_of_lt_of_le (show f < 2 ^ 31 by omega) (Nat.pow_le_pow_right (by decide) (by omega))
      rw [Nat.testBit_lt_two_pow h1]
      simp
theorem iz_shr1 {x : Nat} (hx : x < 2147483648) : iz (x : Int) >>> (iz 1 &&& iz 31) = iz ((x / 2 : Nat) : Int) := by
  rw [show iz 1 &&& iz 31 = iz 1 by decide]
  apply Int32.toBitVec_inj.mp
  rw [Int32.toBitVec_shiftRight, iz_bv, iz_bv, show (iz 1).toBitVec.smod 32 = 1#32 by decide, BitVec.sshiftRight_eq', BitVec.sshiftRight_eq_of_msb_false]
  · apply BitVec.eq_of_toNat_eq
    rw [BitVec.toNat_ushiftRight, BitVec.toNat_ofNat, Nat.mod_eq_of_lt (by omega)]
    show x >>> 1 = (BitVec.ofNat 32 (x / 2)).toNat
    rw [BitVec.toNat_ofNat, Nat.mod_eq_of_lt (by omega), Nat.shiftRight_eq_div_pow]
  · rw [BitVec.msb_eq_false_iff_two_mul_lt, BitVec.toNat_ofNat, Nat.mod_eq_of_lt (by omega)]
    omega
