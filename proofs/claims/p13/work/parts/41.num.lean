/-! the little machine, part 5: numbers -/
theorem jw_bmod (x : Int) : jw x = Int.bmod x 4294967296 := by
  unfold jw Int.bmod
  simp only []
  split <;> omega
theorem jwl_bmod (x : Int) : jwl x = Int.bmod x 18446744073709551616 := by
  unfold jwl Int.bmod
  simp only []
  split <;> omega
theorem jw_toInt (x : Int) : (Int32.ofInt x).toInt = jw x := by rw [jw_bmod, Int32.toInt_ofInt]
theorem jwl_toInt (x : Int) : (Int64.ofInt x).toInt = jwl x := by rw [jwl_bmod, Int64.toInt_ofInt]
theorem jw_ofInt (x : Int) : Int32.ofInt (jw x) = Int32.ofInt x := by rw [← jw_toInt, Int32.ofInt_toInt]
theorem jwl_ofInt (x : Int) : Int64.ofInt (jwl x) = Int64.ofInt x := by rw [← jwl_toInt, Int64.ofInt_toInt]
theorem jw_lo (x : Int) : -2147483648 ≤ jw x := by unfold jw; omega
theorem jw_hi (x : Int) : jw x < 2147483648 := by unfold jw; omega
theorem jwl_lo (x : Int) : -9223372036854775808 ≤ jwl x := by unfold jwl; omega
theorem jwl_hi (x : Int) : jwl x < 9223372036854775808 := by unfold jwl; omega
theorem jw_id {x : Int} (h1 : -2147483648 ≤ x) (h2 : x < 2147483648) : jw x = x := by unfold jw; omega
theorem jwl_id {x : Int} (h1 : -9223372036854775808 ≤ x) (h2 : x < 9223372036854775808) : jwl x = x := by unfold jwl; omega
theorem jeq (x y : Int) : Int32.ofInt x = Int32.ofInt y ↔ jw x = jw y := by rw [← Int32.toInt_inj, jw_toInt, jw_toInt]
theorem jlt (x y : Int) : Int32.ofInt x < Int32.ofInt y ↔ jw x < jw y := by rw [Int32.lt_iff_toInt_lt, jw_toInt, jw_toInt]
theorem jle (x y : Int) : Int32.ofInt x ≤ Int32.ofInt y ↔ jw x ≤ jw y := by rw [Int32.le_iff_toInt_le, jw_toInt, jw_toInt]
theorem jleq (x y : Int) : Int64.ofInt x = Int64.ofInt y ↔ jwl x = jwl y := by rw [← Int64.toInt_inj, jwl_toInt, jwl_toInt]
theorem jllt (x y : Int) : Int64.ofInt x < Int64.ofInt y ↔ jwl x < jwl y := by rw [Int64.lt_iff_toInt_lt, jwl_toInt, jwl_toInt]
theorem jw_0 : jw 0 = 0 := by decide
theorem jwl_0 : jwl 0 = 0 := by decide
theorem j0 : (0 : Int32) = Int32.ofInt 0 := by decide
theorem j0l : (0 : Int64) = Int64.ofInt 0 := by decide
theorem jdiv {x y : Int} : Int32.ofInt ((jw x).tdiv (jw y)) = Int32.ofInt x / Int32.ofInt y := by
  rw [Int32.ofInt_tdiv (by have := jw_lo x; exact this) (by have := jw_hi x; show jw x ≤ 2147483647; omega) (by have := jw_lo y; exact this) (by have := jw_hi y; show jw y ≤ 2147483647; omega), jw_ofInt, jw_ofInt]
theorem jmod {x y : Int} : Int32.ofInt ((jw x).tmod (jw y)) = Int32.ofInt x - Int32.ofInt x / Int32.ofInt y * Int32.ofInt y := by
  rw [Int.tmod_def, Int32.ofInt_sub, Int32.ofInt_mul, jdiv, jw_ofInt, jw_ofInt, Int32.mul_comm]
theorem jldiv {x y : Int} : Int64.ofInt ((jwl x).tdiv (jwl y)) = Int64.ofInt x / Int64.ofInt y := by
  rw [Int64.ofInt_tdiv (by have := jwl_lo x; exact this) (by have := jwl_hi x; show jwl x ≤ 9223372036854775807; omega) (by have := jwl_lo y; exact this) (by have := jwl_hi y; show jwl y ≤ 9223372036854775807; omega), jwl_ofInt, jwl_ofInt]
theorem jlmod {x y : Int} : Int64.ofInt ((jwl x).tmod (jwl y)) = Int64.ofInt x - Int64.ofInt x / Int64.ofInt y * Int64.ofInt y := by
  rw [Int.tmod_def, Int64.ofInt_sub, Int64.ofInt_mul, jldiv, jwl_ofInt, jwl_ofInt, Int64.mul_comm]
theorem ji2l (x : Int) : (Int32.ofInt x).toInt64 = Int64.ofInt (jw x) := by
  apply Int64.toInt_inj.mp
  rw [Int32.toInt_toInt64, jw_toInt, jwl_toInt, jwl_id (by have := jw_lo x; omega) (by have := jw_hi x; omega)]
theorem jl2i (x : Int) : (Int64.ofInt x).toInt32 = Int32.ofInt x := by
  rw [← Int32.ofInt_int64ToInt, jwl_toInt, jeq]
  unfold jw jwl
  omega
theorem jb8 {x : Int} (h1 : -128 ≤ x) (h2 : x < 128) : (Int8.ofInt x).toInt32 = Int32.ofInt x := by
  apply Int32.toInt_inj.mp
  rw [Int8.toInt_toInt32, jw_toInt, Int8.toInt_ofInt, jw_id (by omega) (by omega)]
  unfold Int.bmod Int8.size
  simp only []
  split <;> omega
theorem js16 {x : Int} (h1 : -32768 ≤ x) (h2 : x < 32768) : (Int16.ofInt x).toInt32 = Int32.ofInt x := by
  apply Int32.toInt_inj.mp
  rw [Int16.toInt_toInt32, jw_toInt, Int16.toInt_ofInt, jw_id (by omega) (by omega)]
  unfold Int.bmod Int16.size
  simp only []
  split <;> omega
theorem ju64_of (x : UInt64) : ju64 ((x.toNat : Nat) : Int) = x := by
  show UInt64.ofNat (Int.toNat (Int.ofNat x.toNat)) = x
  simp
theorem jn64_ok {x : UInt64} (h : jn64 x = true) : vf_n64 x := by unfold vf_n64; unfold jn64 at h; exact of_decide_eq_true h
theorem jclamp {x : Int} {j : Nat} (h : jw x = .ofNat j) : (Int32.ofInt x).toNatClampNeg = j := by
  show (Int32.ofInt x).toInt.toNat = j
  rw [jw_toInt, h]; rfl
theorem jnneg {x : Int} {j : Nat} (h : jw x = .ofNat j) : ¬ Int32.ofInt x < 0 := by
  rw [j0, jlt, jw_0, h]
  exact Int.not_lt.mpr (Int.natCast_nonneg j)
theorem jin {x : Int} {j n : Nat} (h : jw x = .ofNat j) (hn : j < n) : vp_in (Int32.ofInt x) n := by
  rintro (h1 | h1)
  · exact jnneg h h1
  · rw [jclamp h] at h1; omega
