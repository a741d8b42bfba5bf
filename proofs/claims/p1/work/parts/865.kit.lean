/-! numbers: masks, shifts, amounts -/
theorem jland_255 (x : Int) : (Int64.ofInt x &&& Int64.ofInt 255).toInt = x % 256 := by
  have h : (Int64.ofInt x &&& Int64.ofInt 255).toBitVec.toNat = (x % 18446744073709551616).toNat % 256 := by
    rw [Int64.toBitVec_and, BitVec.toNat_and]
    show (BitVec.ofInt 64 x).toNat &&& (BitVec.ofInt 64 255).toNat = _
    rw [BitVec.toNat_ofInt, show (BitVec.ofInt 64 255).toNat = 2 ^ 8 - 1 from by decide, Nat.and_two_pow_sub_one_eq_mod]
    rfl
  show (Int64.ofInt x &&& Int64.ofInt 255).toBitVec.toInt = _
  rw [BitVec.toInt_eq_toNat_of_lt (by omega), h]
  omega
theorem jland_65535 (x : Int) : (Int64.ofInt x &&& Int64.ofInt 65535).toInt = x % 65536 := by
  have h : (Int64.ofInt x &&& Int64.ofInt 65535).toBitVec.toNat = (x % 18446744073709551616).toNat % 65536 := by
    rw [Int64.toBitVec_and, BitVec.toNat_and]
    show (BitVec.ofInt 64 x).toNat &&& (BitVec.ofInt 64 65535).toNat = _
    rw [BitVec.toNat_ofInt, show (BitVec.ofInt 64 65535).toNat = 2 ^ 16 - 1 from by decide, Nat.and_two_pow_sub_one_eq_mod]
    rfl
  show (Int64.ofInt x &&& Int64.ofInt 65535).toBitVec.toInt = _
  rw [BitVec.toInt_eq_toNat_of_lt (by omega), h]
  omega
theorem jiand_1 (x : Int) : (Int32.ofInt x &&& Int32.ofInt 1).toInt = x % 2 := by
  have h : (Int32.ofInt x &&& Int32.ofInt 1).toBitVec.toNat = (x % 4294967296).toNat % 2 := by
    rw [Int32.toBitVec_and, BitVec.toNat_and]
    show (BitVec.ofInt 32 x).toNat &&& (BitVec.ofInt 32 1).toNat = _
    rw [BitVec.toNat_ofInt, show (BitVec.ofInt 32 1).toNat = 2 ^ 1 - 1 from by decide, Nat.and_two_pow_sub_one_eq_mod]
    rfl
  show (Int32.ofInt x &&& Int32.ofInt 1).toBitVec.toInt = _
  rw [BitVec.toInt_eq_toNat_of_lt (by omega), h]
  omega
theorem jshr_0 {v : Int} (h1 : -9223372036854775808 ≤ v) (h2 : v < 9223372036854775808) : jshr v 0 = v := by
  unfold jshr
  have e : ((Int32.ofInt 0).toInt64 &&& 63) = 0 := by decide
  rw [e]
  have e2 : (Int64.ofInt v >>> (0 : Int64)).toInt = (Int64.ofInt v).toInt >>> 0 := by
    show ((Int64.ofInt v >>> (0 : Int64)).toBitVec).toInt = _
    rw [Int64.toBitVec_shiftRight, show ((0 : Int64).toBitVec.smod 64) = 0#64 from by decide]
    show ((Int64.ofInt v).toBitVec.sshiftRight 0).toInt = _
    rw [BitVec.toInt_sshiftRight]
    rfl
  rw [e2, Int64.toInt_ofInt, Int.shiftRight_eq_div_pow]
  rw [show Int.bmod v (2 ^ 64) = v from by unfold Int.bmod; simp only []; split <;> omega]
  omega
theorem jushr_0 {v : Int} (h1 : -9223372036854775808 ≤ v) (h2 : v < 9223372036854775808) : jushr v 0 = v := by
  unfold jushr
  have e : ((Int32.ofInt 0).toInt64.toUInt64 &&& Int64.toUInt64 63) = 0 := by decide
  rw [e]
  have e2 : ((Int64.ofInt v).toUInt64 >>> (0 : UInt64)).toNat = (v % 18446744073709551616).toNat >>> 0 := by
    rw [UInt64.toNat_shiftRight]
    show (BitVec.ofInt 64 v).toNat >>> _ = _
    rw [BitVec.toNat_ofInt]
    rfl
  rw [Nat.shiftRight_zero] at e2
  have e3 : ((Int64.ofInt v).toUInt64 >>> (0 : UInt64)) = (Int64.ofInt v).toUInt64 := by
    apply UInt64.toNat_inj.mp
    rw [e2]
    show _ = (BitVec.ofInt 64 v).toNat
    rw [BitVec.toNat_ofInt]
    rfl
  rw [e3]
  show (Int64.ofInt v).toInt = v
  rw [Int64.toInt_ofInt]
  exact (show Int.bmod v (2 ^ 64) = v from by unfold Int.bmod; simp only []; split <;> omega)
theorem jshr_8 {v : Int} (h1 : -9223372036854775808 ≤ v) (h2 : v < 9223372036854775808) : jshr v 8 = v / 256 := by
  unfold jshr
  have e : ((Int32.ofInt 8).toInt64 &&& 63) = 8 := by decide
  rw [e]
  have e2 : (Int64.ofInt v >>> (8 : Int64)).toInt = (Int64.ofInt v).toInt >>> 8 := by
    show ((Int64.ofInt v >>> (8 : Int64)).toBitVec).toInt = _
    rw [Int64.toBitVec_shiftRight, show ((8 : Int64).toBitVec.smod 64) = 8#64 from by decide]
    show ((Int64.ofInt v).toBitVec.sshiftRight 8).toInt = _
    rw [BitVec.toInt_sshiftRight]
    rfl
  rw [e2, Int64.toInt_ofInt, Int.shiftRight_eq_div_pow]
  rw [show Int.bmod v (2 ^ 64) = v from by unfold Int.bmod; simp only []; split <;> omega]
  rfl
theorem jshr_16 {v : Int} (h1 : -9223372036854775808 ≤ v) (h2 : v < 9223372036854775808) : jshr v 16 = v / 65536 := by
  unfold jshr
  have e : ((Int32.ofInt 16).toInt64 &&& 63) = 16 := by decide
  rw [e]
  have e2 : (Int64.ofInt v >>> (16 : Int64)).toInt = (Int64.ofInt v).toInt >>> 16 := by
    show ((Int64.ofInt v >>> (16 : Int64)).toBitVec).toInt = _
    rw [Int64.toBitVec_shiftRight, show ((16 : Int64).toBitVec.smod 64) = 16#64 from by decide]
    show ((Int64.ofInt v).toBitVec.sshiftRight 16).toInt = _
    rw [BitVec.toInt_sshiftRight]
    rfl
  rw [e2, Int64.toInt_ofInt, Int.shiftRight_eq_div_pow]
  rw [show Int.bmod v (2 ^ 64) = v from by unfold Int.bmod; simp only []; split <;> omega]
  rfl
theorem jshr_24 {v : Int} (h1 : -9223372036854775808 ≤ v) (h2 : v < 9223372036854775808) : jshr v 24 = v / 16777216 := by
  unfold jshr
  have e : ((Int32.ofInt 24).toInt64 &&& 63) = 24 := by decide
  rw [e]
  have e2 : (Int64.ofInt v >>> (24 : Int64)).toInt = (Int64.ofInt v).toInt >>> 24 := by
    show ((Int64.ofInt v >>> (24 : Int64)).toBitVec).toInt = _
    rw [Int64.toBitVec_shiftRight, show ((24 : Int64).toBitVec.smod 64) = 24#64 from by decide]
    show ((Int64.ofInt v).toBitVec.sshiftRight 24).toInt = _
    rw [BitVec.toInt_sshiftRight]
    rfl
  rw [e2, Int64.toInt_ofInt, Int.shiftRight_eq_div_pow]
  rw [show Int.bmod v (2 ^ 64) = v from by unfold Int.bmod; simp only []; split <;> omega]
  rfl
theorem jshr_32 {v : Int} (h1 : -9223372036854775808 ≤ v) (h2 : v < 9223372036854775808) : jshr v 32 = v / 4294967296 := by
  unfold jshr
  have e : ((Int32.ofInt 32).toInt64 &&& 63) = 32 := by decide
  rw [e]
  have e2 : (Int64.ofInt v >>> (32 : Int64)).toInt = (Int64.ofInt v).toInt >>> 32 := by
    show ((Int64.ofInt v >>> (32 : Int64)).toBitVec).toInt = _
    rw [Int64.toBitVec_shiftRight, show ((32 : Int64).toBitVec.smod 64) = 32#64 from by decide]
    show ((Int64.ofInt v).toBitVec.sshiftRight 32).toInt = _
    rw [BitVec.toInt_sshiftRight]
    rfl
  rw [e2, Int64.toInt_ofInt, Int.shiftRight_eq_div_pow]
  rw [show Int.bmod v (2 ^ 64) = v from by unfold Int.bmod; simp only []; split <;> omega]
  rfl
theorem jshr_40 {v : Int} (h1 : -9223372036854775808 ≤ v) (h2 : v < 9223372036854775808) : jshr v 40 = v / 1099511627776 := by
  unfold jshr
  have e : ((Int32.ofInt 40).toInt64 &&& 63) = 40 := by decide
  rw [e]
  have e2 : (Int64.ofInt v >>> (40 : Int64)).toInt = (Int64.ofInt v).toInt >>> 40 := by
    show ((Int64.ofInt v >>> (40 : Int64)).toBitVec).toInt = _
    rw [Int64.toBitVec_shiftRight, show ((40 : Int64).toBitVec.smod 64) = 40#64 from by decide]
    show ((Int64.ofInt v).toBitVec.sshiftRight 40).toInt = _
    rw [BitVec.toInt_sshiftRight]
    rfl
  rw [e2, Int64.toInt_ofInt, Int.shiftRight_eq_div_pow]
  rw [show Int.bmod v (2 ^ 64) = v from by unfold Int.bmod; simp only []; split <;> omega]
  rfl
theorem jshr_48 {v : Int} (h1 : -9223372036854775808 ≤ v) (h2 : v < 9223372036854775808) : jshr v 48 = v / 281474976710656 := by
  unfold jshr
  have e : ((Int32.ofInt 48).toInt64 &&& 63) = 48 := by decide
  rw [e]
  have e2 : (Int64.ofInt v >>> (48 : Int64)).toInt = (Int64.ofInt v).toInt >>> 48 := by
    show ((Int64.ofInt v >>> (48 : Int64)).toBitVec).toInt = _
    rw [Int64.toBitVec_shiftRight, show ((48 : Int64).toBitVec.smod 64) = 48#64 from by decide]
    show ((Int64.ofInt v).toBitVec.sshiftRight 48).toInt = _
    rw [BitVec.toInt_sshiftRight]
    rfl
  rw [e2, Int64.toInt_ofInt, Int.shiftRight_eq_div_pow]
  rw [show Int.bmod v (2 ^ 64) = v from by unfold Int.bmod; simp only []; split <;> omega]
  rfl
theorem jshr_56 {v : Int} (h1 : -9223372036854775808 ≤ v) (h2 : v < 9223372036854775808) : jshr v 56 = v / 72057594037927936 := by
  unfold jshr
  have e : ((Int32.ofInt 56).toInt64 &&& 63) = 56 := by decide
  rw [e]
  have e2 : (Int64.ofInt v >>> (56 : Int64)).toInt = (Int64.ofInt v).toInt >>> 56 := by
    show ((Int64.ofInt v >>> (56 : Int64)).toBitVec).toInt = _
    rw [Int64.toBitVec_shiftRight, show ((56 : Int64).toBitVec.smod 64) = 56#64 from by decide]
    show ((Int64.ofInt v).toBitVec.sshiftRight 56).toInt = _
    rw [BitVec.toInt_sshiftRight]
    rfl
  rw [e2, Int64.toInt_ofInt, Int.shiftRight_eq_div_pow]
  rw [show Int.bmod v (2 ^ 64) = v from by unfold Int.bmod; simp only []; split <;> omega]
  rfl
theorem jushr_8 {v : Int} (h1 : -9223372036854775808 ≤ v) (h2 : v < 9223372036854775808) : jushr v 8 = v % 18446744073709551616 / 256 := by
  unfold jushr
  have e : ((Int32.ofInt 8).toInt64.toUInt64 &&& Int64.toUInt64 63) = 8 := by decide
  rw [e]
  have e2 : ((Int64.ofInt v).toUInt64 >>> (8 : UInt64)).toNat = (v % 18446744073709551616).toNat >>> 8 := by
    rw [UInt64.toNat_shiftRight]
    show (BitVec.ofInt 64 v).toNat >>> _ = _
    rw [BitVec.toNat_ofInt]
    rfl
  rw [Nat.shiftRight_eq_div_pow] at e2
  show ((Int64.ofInt v).toUInt64 >>> (8 : UInt64)).toBitVec.toInt = _
  have e3 : ((Int64.ofInt v).toUInt64 >>> (8 : UInt64)).toBitVec.toNat = (v % 18446744073709551616).toNat / 2 ^ 8 := e2
  rw [BitVec.toInt_eq_toNat_of_lt (by omega), e3]
  omega
theorem jushr_16 {v : Int} (h1 : -9223372036854775808 ≤ v) (h2 : v < 9223372036854775808) : jushr v 16 = v % 18446744073709551616 / 65536 := by
  unfold jushr
  have e : ((Int32.ofInt 16).toInt64.toUInt64 &&& Int64.toUInt64 63) = 16 := by decide
  rw [e]
  have e2 : ((Int64.ofInt v).toUInt64 >>> (16 : UInt64)).toNat = (v % 18446744073709551616).toNat >>> 16 := by
    rw [UInt64.toNat_shiftRight]
    show (BitVec.ofInt 64 v).toNat >>> _ = _
    rw [BitVec.toNat_ofInt]
    rfl
  rw [Nat.shiftRight_eq_div_pow] at e2
  show ((Int64.ofInt v).toUInt64 >>> (16 : UInt64)).toBitVec.toInt = _
  have e3 : ((Int64.ofInt v).toUInt64 >>> (16 : UInt64)).toBitVec.toNat = (v % 18446744073709551616).toNat / 2 ^ 16 := e2
  rw [BitVec.toInt_eq_toNat_of_lt (by omega), e3]
  omega
theorem jushr_24 {v : Int} (h1 : -9223372036854775808 ≤ v) (h2 : v < 9223372036854775808) : jushr v 24 = v % 18446744073709551616 / 16777216 := by
  unfold jushr
  have e : ((Int32.ofInt 24).toInt64.toUInt64 &&& Int64.toUInt64 63) = 24 := by decide
  rw [e]
  have e2 : ((Int64.ofInt v).toUInt64 >>> (24 : UInt64)).toNat = (v % 18446744073709551616).toNat >>> 24 := by
    rw [UInt64.toNat_shiftRight]
    show (BitVec.ofInt 64 v).toNat >>> _ = _
    rw [BitVec.toNat_ofInt]
    rfl
  rw [Nat.shiftRight_eq_div_pow] at e2
  show ((Int64.ofInt v).toUInt64 >>> (24 : UInt64)).toBitVec.toInt = _
  have e3 : ((Int64.ofInt v).toUInt64 >>> (24 : UInt64)).toBitVec.toNat = (v % 18446744073709551616).toNat / 2 ^ 24 := e2
  rw [BitVec.toInt_eq_toNat_of_lt (by omega), e3]
  omega
theorem jushr_32 {v : Int} (h1 : -9223372036854775808 ≤ v) (h2 : v < 9223372036854775808) : jushr v 32 = v % 18446744073709551616 / 4294967296 := by
  unfold jushr
  have e : ((Int32.ofInt 32).toInt64.toUInt64 &&& Int64.toUInt64 63) = 32 := by decide
  rw [e]
  have e2 : ((Int64.ofInt v).toUInt64 >>> (32 : UInt64)).toNat = (v % 18446744073709551616).toNat >>> 32 := by
    rw [UInt64.toNat_shiftRight]
    show (BitVec.ofInt 64 v).toNat >>> _ = _
    rw [BitVec.toNat_ofInt]
    rfl
  rw [Nat.shiftRight_eq_div_pow] at e2
  show ((Int64.ofInt v).toUInt64 >>> (32 : UInt64)).toBitVec.toInt = _
  have e3 : ((Int64.ofInt v).toUInt64 >>> (32 : UInt64)).toBitVec.toNat = (v % 18446744073709551616).toNat / 2 ^ 32 := e2
  rw [BitVec.toInt_eq_toNat_of_lt (by omega), e3]
  omega
theorem jushr_40 {v : Int} (h1 : -9223372036854775808 ≤ v) (h2 : v < 9223372036854775808) : jushr v 40 = v % 18446744073709551616 / 1099511627776 := by
  unfold jushr
  have e : ((Int32.ofInt 40).toInt64.toUInt64 &&& Int64.toUInt64 63) = 40 := by decide
  rw [e]
  have e2 : ((Int64.ofInt v).toUInt64 >>> (40 : UInt64)).toNat = (v % 18446744073709551616).toNat >>> 40 := by
    rw [UInt64.toNat_shiftRight]
    show (BitVec.ofInt 64 v).toNat >>> _ = _
    rw [BitVec.toNat_ofInt]
    rfl
  rw [Nat.shiftRight_eq_div_pow] at e2
  show ((Int64.ofInt v).toUInt64 >>> (40 : UInt64)).toBitVec.toInt = _
  have e3 : ((Int64.ofInt v).toUInt64 >>> (40 : UInt64)).toBitVec.toNat = (v % 18446744073709551616).toNat / 2 ^ 40 := e2
  rw [BitVec.toInt_eq_toNat_of_lt (by omega), e3]
  omega
theorem jushr_48 {v : Int} (h1 : -9223372036854775808 ≤ v) (h2 : v < 9223372036854775808) : jushr v 48 = v % 18446744073709551616 / 281474976710656 := by
  unfold jushr
  have e : ((Int32.ofInt 48).toInt64.toUInt64 &&& Int64.toUInt64 63) = 48 := by decide
  rw [e]
  have e2 : ((Int64.ofInt v).toUInt64 >>> (48 : UInt64)).toNat = (v % 18446744073709551616).toNat >>> 48 := by
    rw [UInt64.toNat_shiftRight]
    show (BitVec.ofInt 64 v).toNat >>> _ = _
    rw [BitVec.toNat_ofInt]
    rfl
  rw [Nat.shiftRight_eq_div_pow] at e2
  show ((Int64.ofInt v).toUInt64 >>> (48 : UInt64)).toBitVec.toInt = _
  have e3 : ((Int64.ofInt v).toUInt64 >>> (48 : UInt64)).toBitVec.toNat = (v % 18446744073709551616).toNat / 2 ^ 48 := e2
  rw [BitVec.toInt_eq_toNat_of_lt (by omega), e3]
  omega
theorem jushr_56 {v : Int} (h1 : -9223372036854775808 ≤ v) (h2 : v < 9223372036854775808) : jushr v 56 = v % 18446744073709551616 / 72057594037927936 := by
  unfold jushr
  have e : ((Int32.ofInt 56).toInt64.toUInt64 &&& Int64.toUInt64 63) = 56 := by decide
  rw [e]
  have e2 : ((Int64.ofInt v).toUInt64 >>> (56 : UInt64)).toNat = (v % 18446744073709551616).toNat >>> 56 := by
    rw [UInt64.toNat_shiftRight]
    show (BitVec.ofInt 64 v).toNat >>> _ = _
    rw [BitVec.toNat_ofInt]
    rfl
  rw [Nat.shiftRight_eq_div_pow] at e2
  show ((Int64.ofInt v).toUInt64 >>> (56 : UInt64)).toBitVec.toInt = _
  have e3 : ((Int64.ofInt v).toUInt64 >>> (56 : UInt64)).toBitVec.toNat = (v % 18446744073709551616).toNat / 2 ^ 56 := e2
  rw [BitVec.toInt_eq_toNat_of_lt (by omega), e3]
  omega
theorem jabs_n {x : Int} (h : jwl x = x) : cond (decide (jwl x < 0)) (-x) x = ((x.natAbs : Nat) : Int) := by
  rw [h]
  by_cases h0 : x < 0
  · rw [decide_eq_true h0]; show -x = _; omega
  · rw [decide_eq_false h0]; show x = _; omega
theorem jmax_c {x y : Int} : cond (decide (y < x)) x y = max x y := by
  by_cases h0 : y < x
  · rw [decide_eq_true h0]; show x = _; omega
  · rw [decide_eq_false h0]; show y = _; omega
theorem jb54 {a : Int} (h1 : -9223372036854775808 ≤ a) (h2 : a ≤ 9223372036854775807) : a.natAbs < 1000000000 ^ 54 :=
  Nat.lt_of_lt_of_le (show a.natAbs < 9223372036854775809 by omega) (by decide +kernel)
def jb1 (b : Int) : Int := if b = 0 then 0 else 1
theorem jb1_0 {b : Int} (h : b = 0) : jb1 b = 0 := by unfold jb1; exact if_pos h
theorem jb1_1 {b : Int} (h : b ≠ 0) : jb1 b = 1 := by unfold jb1; exact if_neg h
theorem jb1_b (b : Int) : 0 ≤ jb1 b ∧ jb1 b ≤ 1 := by unfold jb1; split <;> omega
def jby (v : Int) : Int := jb1 (v % 256) + (jb1 (v / 256 % 256) + (jb1 (v / 65536 % 256) + (jb1 (v / 16777216 % 256) + (jb1 (v / 4294967296 % 256) + (jb1 (v / 1099511627776 % 256) + (jb1 (v / 281474976710656 % 256) + (jb1 (v / 72057594037927936 % 256))))))))
theorem jby_b (v : Int) : 0 ≤ jby v ∧ jby v ≤ 8 := by
  unfold jby
  have h0 := jb1_b (v % 256)
  have h1 := jb1_b (v / 256 % 256)
  have h2 := jb1_b (v / 65536 % 256)
  have h3 := jb1_b (v / 16777216 % 256)
  have h4 := jb1_b (v / 4294967296 % 256)
  have h5 := jb1_b (v / 1099511627776 % 256)
  have h6 := jb1_b (v / 281474976710656 % 256)
  have h7 := jb1_b (v / 72057594037927936 % 256)
  omega
theorem jmul_b2 {x y k l m n : Int} (h1 : k ≤ x) (h2 : x ≤ m) (h3 : l ≤ y) (h4 : y ≤ n) (hk : 0 ≤ k) (hl : 0 ≤ l) : k * l ≤ x * y ∧ x * y ≤ m * n :=
  ⟨Int.mul_le_mul h1 h3 hl (Int.le_trans hk h1), Int.mul_le_mul h2 h4 (Int.le_trans hl h3) (Int.le_trans hk (Int.le_trans h1 h2))⟩
