/-! commas: tables over the exponents of 3 and 5 -/
theorem jmul_bs {x y m n : Int} (h1 : -m ≤ x) (h2 : x ≤ m) (h3 : -n ≤ y) (h4 : y ≤ n) : -(m * n) ≤ x * y ∧ x * y ≤ m * n := by
  have hn : 0 ≤ n := by omega
  have h : (x * y).natAbs ≤ (m * n).natAbs := by
    rw [Int.natAbs_mul, Int.natAbs_mul]
    exact Nat.mul_le_mul (by omega) (by omega)
  have h5 : 0 ≤ m * n := Int.mul_nonneg (by omega) hn
  omega
def jcd (b c : Int) : Bool := decide (((108917793695 * b + 159561683699 * c) - ((b.natAbs : Nat) : Int) - ((c.natAbs : Nat) : Int)) / 68719476736 = (108917793695 * b + 159561683699 * c) / 68719476736) && decide (((108917793695 * b + 159561683699 * c) + ((b.natAbs : Nat) : Int) + ((c.natAbs : Nat) : Int)) / 68719476736 = (108917793695 * b + 159561683699 * c) / 68719476736) && (decide (b = 0 ∧ c = 0) || decide ((108917793695 * b + 159561683699 * c) / 68719476736 * 68719476736 + ((b.natAbs : Nat) : Int) + ((c.natAbs : Nat) : Int) < (108917793695 * b + 159561683699 * c)))
theorem jcdt : ((List.range 41).all fun i => (List.range 21).all fun j => jcd ((i : Int) - 20) ((j : Int) - 10)) = true := by decide +kernel
theorem jcd_t {b c : Int} (hb : -20 ≤ b ∧ b ≤ 20) (hc : -10 ≤ c ∧ c ≤ 10) : jcd b c = true := by
  have h := List.all_eq_true.mp (List.all_eq_true.mp jcdt (b + 20).toNat (List.mem_range.mpr (by omega))) (c + 10).toNat (List.mem_range.mpr (by omega))
  rw [Int.toNat_of_nonneg (show 0 ≤ b + 20 by omega), Int.toNat_of_nonneg (show 0 ≤ c + 10 by omega), show b + 20 - 20 = b by omega, show c + 10 - 10 = c by omega] at h
  exact h
theorem jcf {b c x : Int} (hb : -20 ≤ b ∧ b ≤ 20) (hc : -10 ≤ c ∧ c ≤ 10) (h1 : (108917793695 * b + 159561683699 * c) - ((b.natAbs : Nat) : Int) - ((c.natAbs : Nat) : Int) ≤ x) (h2 : x ≤ (108917793695 * b + 159561683699 * c) + ((b.natAbs : Nat) : Int) + ((c.natAbs : Nat) : Int)) : x / 68719476736 = (108917793695 * b + 159561683699 * c) / 68719476736 := by
  have h := jcd_t hb hc
  simp only [jcd, Bool.and_eq_true, decide_eq_true_eq] at h
  obtain ⟨⟨h3, h4⟩, -⟩ := h
  generalize (108917793695 * b + 159561683699 * c) = y at h1 h2 h3 h4 ⊢
  omega
theorem jcg {b c : Int} (hb : -20 ≤ b ∧ b ≤ 20) (hc : -10 ≤ c ∧ c ≤ 10) (h0 : ¬ (b = 0 ∧ c = 0)) : (108917793695 * b + 159561683699 * c) / 68719476736 * 68719476736 + ((b.natAbs : Nat) : Int) + ((c.natAbs : Nat) : Int) < (108917793695 * b + 159561683699 * c) := by
  have h := jcd_t hb hc
  simp only [jcd, Bool.and_eq_true, Bool.or_eq_true, decide_eq_true_eq] at h
  rcases h.2 with h | h
  · exact absurd h h0
  · exact h
def jkn (b c : Int) : Int := (b * 1098612288668109691395245236922525704647490557822749451734694333637494293218608966873615754813732088787970029065957865742368004225930519821052801870767277410603162769183381367179373698844028 + c * 1609437912434100374600759333226187639525601354268517721912647891474178987707657764630133878093179610799966303021715562899724005229324676199633616617463705727552179637497183245653492856201846) / 693147180559945309417232121458176568075500134360255254120680009493393621969694715605863326996418687542001481020570685733685520235758130557032670751635075961930727570828371435190307038623694
theorem jkn_b {b c : Int} (hb : -20 ≤ b ∧ b ≤ 20) (hc : -10 ≤ c ∧ c ≤ 10) : (-60) ≤ jkn b c ∧ jkn b c ≤ 60 := by
  unfold jkn
  omega
def jcr (b c : Int) : Bool := jn64 (FP.dmul (ju64 4609816855700290920) (ju64 (((FP.l2d (Int64.ofInt b)).toNat : Int)))) && jn64 (FP.dadd (ju64 0) (ju64 (((FP.dmul (ju64 4609816855700290920) (ju64 (((FP.l2d (Int64.ofInt b)).toNat : Int)))).toNat : Int)))) && jn64 (FP.dmul (ju64 4612410936051475313) (ju64 (((FP.l2d (Int64.ofInt c)).toNat : Int)))) && jn64 (FP.dadd (ju64 (((FP.dadd (ju64 0) (ju64 (((FP.dmul (ju64 4609816855700290920) (ju64 (((FP.l2d (Int64.ofInt b)).toNat : Int)))).toNat : Int)))).toNat : Int))) (ju64 (((FP.dmul (ju64 4612410936051475313) (ju64 (((FP.l2d (Int64.ofInt c)).toNat : Int)))).toNat : Int)))) && jn64 (FP.dadd (ju64 (((FP.dadd (ju64 (((FP.dadd (ju64 0) (ju64 (((FP.dmul (ju64 4609816855700290920) (ju64 (((FP.l2d (Int64.ofInt b)).toNat : Int)))).toNat : Int)))).toNat : Int))) (ju64 (((FP.dmul (ju64 4612410936051475313) (ju64 (((FP.l2d (Int64.ofInt c)).toNat : Int)))).toNat : Int)))).toNat : Int))) (ju64 0)) && jn64 (FP.dadd (ju64 (((FP.dadd (ju64 (((FP.dadd (ju64 (((FP.dadd (ju64 0) (ju64 (((FP.dmul (ju64 4609816855700290920) (ju64 (((FP.l2d (Int64.ofInt b)).toNat : Int)))).toNat : Int)))).toNat : Int))) (ju64 (((FP.dmul (ju64 4612410936051475313) (ju64 (((FP.l2d (Int64.ofInt c)).toNat : Int)))).toNat : Int)))).toNat : Int))) (ju64 0)).toNat : Int))) (ju64 0)) && jn64 (FP.dadd (ju64 (((FP.dadd (ju64 (((FP.dadd (ju64 (((FP.dadd (ju64 (((FP.dadd (ju64 0) (ju64 (((FP.dmul (ju64 4609816855700290920) (ju64 (((FP.l2d (Int64.ofInt b)).toNat : Int)))).toNat : Int)))).toNat : Int))) (ju64 (((FP.dmul (ju64 4612410936051475313) (ju64 (((FP.l2d (Int64.ofInt c)).toNat : Int)))).toNat : Int)))).toNat : Int))) (ju64 0)).toNat : Int))) (ju64 0)).toNat : Int))) (ju64 0)) && jn64 (FP.ddiv (ju64 (((FP.dadd (ju64 (((FP.dadd (ju64 (((FP.dadd (ju64 (((FP.dadd (ju64 (((FP.dadd (ju64 0) (ju64 (((FP.dmul (ju64 4609816855700290920) (ju64 (((FP.l2d (Int64.ofInt b)).toNat : Int)))).toNat : Int)))).toNat : Int))) (ju64 (((FP.dmul (ju64 4612410936051475313) (ju64 (((FP.l2d (Int64.ofInt c)).toNat : Int)))).toNat : Int)))).toNat : Int))) (ju64 0)).toNat : Int))) (ju64 0)).toNat : Int))) (ju64 0)).toNat : Int))) (ju64 4607182418800017408)) && decide (jkn b c ≤ ((FP.d2l (ju64 (((FP.ddiv (ju64 (((FP.dadd (ju64 (((FP.dadd (ju64 (((FP.dadd (ju64 (((FP.dadd (ju64 (((FP.dadd (ju64 0) (ju64 (((FP.dmul (ju64 4609816855700290920) (ju64 (((FP.l2d (Int64.ofInt b)).toNat : Int)))).toNat : Int)))).toNat : Int))) (ju64 (((FP.dmul (ju64 4612410936051475313) (ju64 (((FP.l2d (Int64.ofInt c)).toNat : Int)))).toNat : Int)))).toNat : Int))) (ju64 0)).toNat : Int))) (ju64 0)).toNat : Int))) (ju64 0)).toNat : Int))) (ju64 4607182418800017408)).toNat : Int)))).toInt)) && decide (((FP.d2l (ju64 (((FP.ddiv (ju64 (((FP.dadd (ju64 (((FP.dadd (ju64 (((FP.dadd (ju64 (((FP.dadd (ju64 (((FP.dadd (ju64 0) (ju64 (((FP.dmul (ju64 4609816855700290920) (ju64 (((FP.l2d (Int64.ofInt b)).toNat : Int)))).toNat : Int)))).toNat : Int))) (ju64 (((FP.dmul (ju64 4612410936051475313) (ju64 (((FP.l2d (Int64.ofInt c)).toNat : Int)))).toNat : Int)))).toNat : Int))) (ju64 0)).toNat : Int))) (ju64 0)).toNat : Int))) (ju64 0)).toNat : Int))) (ju64 4607182418800017408)).toNat : Int)))).toInt) ≤ jkn b c + 1)
theorem jcrt_0 : ((List.range 11).all fun i => (List.range 21).all fun j => jcr ((i : Int) - 20) ((j : Int) - 10)) = true := by decide +kernel
theorem jcrt_1 : ((List.range 10).all fun i => (List.range 21).all fun j => jcr ((i : Int) - 9) ((j : Int) - 10)) = true := by decide +kernel
theorem jcrt_2 : ((List.range 10).all fun i => (List.range 21).all fun j => jcr ((i : Int) + 1) ((j : Int) - 10)) = true := by decide +kernel
theorem jcrt_3 : ((List.range 10).all fun i => (List.range 21).all fun j => jcr ((i : Int) + 11) ((j : Int) - 10)) = true := by decide +kernel
theorem jcrt_u {b c : Int} (hb : -20 ≤ b ∧ b ≤ 20) (hc : -10 ≤ c ∧ c ≤ 10) : jcr b c = true := by
  rcases (show (-20 ≤ b ∧ b ≤ -10) ∨ (-9 ≤ b ∧ b ≤ 0) ∨ (1 ≤ b ∧ b ≤ 10) ∨ (11 ≤ b ∧ b ≤ 20) by omega) with g | g | g | g
  · have h2 := List.all_eq_true.mp (List.all_eq_true.mp jcrt_0 (b + 20).toNat (List.mem_range.mpr (by omega))) (c + 10).toNat (List.mem_range.mpr (by omega))
    rw [Int.toNat_of_nonneg (show 0 ≤ b + 20 by omega), Int.toNat_of_nonneg (show 0 ≤ c + 10 by omega), show b + 20 - 20 = b by omega, show c + 10 - 10 = c by omega] at h2
    exact h2
  · have h2 := List.all_eq_true.mp (List.all_eq_true.mp jcrt_1 (b + 9).toNat (List.mem_range.mpr (by omega))) (c + 10).toNat (List.mem_range.mpr (by omega))
    rw [Int.toNat_of_nonneg (show 0 ≤ b + 9 by omega), Int.toNat_of_nonneg (show 0 ≤ c + 10 by omega), show b + 9 - 9 = b by omega, show c + 10 - 10 = c by omega] at h2
    exact h2
  · have h2 := List.all_eq_true.mp (List.all_eq_true.mp jcrt_2 (b - 1).toNat (List.mem_range.mpr (by omega))) (c + 10).toNat (List.mem_range.mpr (by omega))
    rw [Int.toNat_of_nonneg (show 0 ≤ b - 1 by omega), Int.toNat_of_nonneg (show 0 ≤ c + 10 by omega), show b - 1 + 1 = b by omega, show c + 10 - 10 = c by omega] at h2
    exact h2
  · have h2 := List.all_eq_true.mp (List.all_eq_true.mp jcrt_3 (b - 11).toNat (List.mem_range.mpr (by omega))) (c + 10).toNat (List.mem_range.mpr (by omega))
    rw [Int.toNat_of_nonneg (show 0 ≤ b - 11 by omega), Int.toNat_of_nonneg (show 0 ≤ c + 10 by omega), show b - 11 + 11 = b by omega, show c + 10 - 10 = c by omega] at h2
    exact h2
theorem jkn_h {b c : Int} : 0 ≤ jlz (-(jkn b c)) b c 0 0 0 ∧ jlz (-(jkn b c) - 1) b c 0 0 0 < 0 := by
  constructor
  · unfold jlz jkn
    rw [jlgv_0, jlgv_1, jlgv_2, jlgv_3, jlgv_4, jlgv_5]
    omega
  · unfold jlz jkn
    rw [jlgv_0, jlgv_1, jlgv_2, jlgv_3, jlgv_4, jlgv_5]
    omega
theorem jkn_s {b c : Int} (hb : -20 ≤ b ∧ b ≤ 20) (hc : -10 ≤ c ∧ c ≤ 10) : 0 ≤ (jlz (-jkn b c) b c 0 0 0).sign := jsgn_p jkn_h.1
theorem jcx {b c : Int} (hb : -20 ≤ b ∧ b ≤ 20) (hc : -10 ≤ c ∧ c ≤ 10) : ∃ d1 d2 d3 d4 d5 d6 d7 d8 d9 d10 d11 : Int, ((FP.l2d (Int64.ofInt b)).toNat : Int) = d1 ∧ (jn64 (FP.dmul (ju64 4609816855700290920) (ju64 d1)) = true ∧ ((FP.dmul (ju64 4609816855700290920) (ju64 d1)).toNat : Int) = d2) ∧ (jn64 (FP.dadd (ju64 0) (ju64 d2)) = true ∧ ((FP.dadd (ju64 0) (ju64 d2)).toNat : Int) = d3) ∧ ((FP.l2d (Int64.ofInt c)).toNat : Int) = d4 ∧ (jn64 (FP.dmul (ju64 4612410936051475313) (ju64 d4)) = true ∧ ((FP.dmul (ju64 4612410936051475313) (ju64 d4)).toNat : Int) = d5) ∧ (jn64 (FP.dadd (ju64 d3) (ju64 d5)) = true ∧ ((FP.dadd (ju64 d3) (ju64 d5)).toNat : Int) = d6) ∧ (jn64 (FP.dadd (ju64 d6) (ju64 0)) = true ∧ ((FP.dadd (ju64 d6) (ju64 0)).toNat : Int) = d7) ∧ (jn64 (FP.dadd (ju64 d7) (ju64 0)) = true ∧ ((FP.dadd (ju64 d7) (ju64 0)).toNat : Int) = d8) ∧ (jn64 (FP.dadd (ju64 d8) (ju64 0)) = true ∧ ((FP.dadd (ju64 d8) (ju64 0)).toNat : Int) = d9) ∧ (jn64 (FP.ddiv (ju64 d9) (ju64 4607182418800017408)) = true ∧ ((FP.ddiv (ju64 d9) (ju64 4607182418800017408)).toNat : Int) = d10) ∧ (FP.d2l (ju64 d10)).toInt = d11 ∧ jkn b c ≤ d11 ∧ d11 ≤ jkn b c + 1 ∧ ((-1099511627776) ≤ jkn b c ∧ jkn b c ≤ 1099511627776) ∧ 0 ≤ jlz (-(jkn b c)) b c 0 0 0 ∧ jlz (-(jkn b c) - 1) b c 0 0 0 < 0 := by
  have h2 := jcrt_u hb hc
  simp only [jcr, Bool.and_eq_true, decide_eq_true_eq] at h2
  obtain ⟨⟨⟨⟨⟨⟨⟨⟨⟨q0, q1⟩, q2⟩, q3⟩, q4⟩, q5⟩, q6⟩, q7⟩, q8⟩, q9⟩ := h2
  have hb2 := jkn_b hb hc
  exact ⟨_, _, _, _, _, _, _, _, _, _, _, rfl, ⟨q0, rfl⟩, ⟨q1, rfl⟩, rfl, ⟨q2, rfl⟩, ⟨q3, rfl⟩, ⟨q4, rfl⟩, ⟨q5, rfl⟩, ⟨q6, rfl⟩, ⟨q7, rfl⟩, rfl, q8, q9, by omega, jkn_h.1, jkn_h.2⟩
