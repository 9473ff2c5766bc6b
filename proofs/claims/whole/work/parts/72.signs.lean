theorem iz_and2 {f a b : Nat} (hf : f < 134217728) (ha : a ≤ 1) (hb : b ≤ 1) : (iz ((2 * (2 * f + a) + b : Nat) : Int) >>> (iz 1 &&& iz 31)) &&& (iz ((2 * (2 * f + a) + b : Nat) : Int) ||| iz (-2)) = iz ((2 * f + min a b : Nat) : Int) := by
  rw [iz_shr1 (by omega), div2 hb]
  apply Int32.toBitVec_inj.mp
  rw [Int32.toBitVec_and, Int32.toBitVec_or, iz_bv, iz_bv, iz_bv, show (iz (-2)).toBitVec = BitVec.ofNat 32 4294967294 by decide]
  apply BitVec.eq_of_toNat_eq
  rw [BitVec.toNat_and, BitVec.toNat_or, BitVec.toNat_ofNat, BitVec.toNat_ofNat, BitVec.toNat_ofNat, BitVec.toNat_ofNat, Nat.mod_eq_of_lt (by omega), Nat.mod_eq_of_lt (by omega), Nat.mod_eq_of_lt (by decide), Nat.mod_eq_of_lt (by omega)]
  exact nat_and2 (by omega) ha hb
theorem iz_or2 {f a b : Nat} (hf : f < 134217728) (ha : a ≤ 1) (hb : b ≤ 1) : (iz ((2 * (2 * f + a) + b : Nat) : Int) >>> (iz 1 &&& iz 31)) ||| (iz ((2 * (2 * f + a) + b : Nat) : Int) &&& iz 1) = iz ((2 * f + max a b : Nat) : Int) := by
  rw [iz_shr1 (by omega), div2 hb, show iz 1 = iz ((1 : Nat) : Int) from rfl, iz_andN (by omega) (by omega), nat_and1 hb, iz_orN (by omega) (by omega), nat_or1 ha hb]
theorem iz_not2 {f v : Nat} (hf : f < 134217728) (hv : v ≤ 1) : iz ((2 * f + v : Nat) : Int) ^^^ iz 1 = iz ((2 * f + (1 - v) : Nat) : Int) := by
  rw [show iz 1 = iz ((1 : Nat) : Int) from rfl, iz_xorN (by omega) (by omega), nat_xor1 hv]
theorem iz_low {f v : Nat} (hf : f < 134217728) (hv : v ≤ 1) : iz ((2 * f + v : Nat) : Int) &&& iz 1 = iz ((v : Nat) : Int) := by
  rw [show iz 1 = iz ((1 : Nat) : Int) from rfl, iz_andN (by omega) (by omega), nat_and1 hv]
theorem iz_push {f v : Nat} (hf : f < 524288) (hv : v ≤ 1) : (iz ((f : Nat) : Int) <<< (iz 1 &&& iz 31)) ||| iz ((v : Nat) : Int) = iz ((2 * f + v : Nat) : Int) := by
  have e := iz_pack (x := f) (a := v) (k := 1) (by omega) (by omega) (by omega) (by omega) (by show (v : Int) < 2; omega)
  rw [show iz 1 &&& iz 31 = iz ((1 : Nat) : Int) by decide, e]
  congr 1
  rw [show (2 : Int) ^ 1 = 2 by decide]
  omega
