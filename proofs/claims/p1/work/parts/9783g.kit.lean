/-! best numbers of primes: the roughly reckoned ones are the whole ones or one more -/
theorem jlgv_0 : jlg 0 = 693147180559945309417232121458176568075500134360255254120680009493393621969694715605863326996418687542001481020570685733685520235758130557032670751635075961930727570828371435190307038623694 := by decide +kernel
theorem jlgv_1 : jlg 1 = 1098612288668109691395245236922525704647490557822749451734694333637494293218608966873615754813732088787970029065957865742368004225930519821052801870767277410603162769183381367179373698844028 := by decide +kernel
theorem jlgv_2 : jlg 2 = 1609437912434100374600759333226187639525601354268517721912647891474178987707657764630133878093179610799966303021715562899724005229324676199633616617463705727552179637497183245653492856201846 := by decide +kernel
theorem jlgv_3 : jlg 3 = 1945910149055313305105352743443179729637084729581861188459390149937579862752069267787658498587871526993061694205851140911723752257677786843148958095163900775907824468104274783382259349007948 := by decide +kernel
theorem jlgv_4 : jlg 4 = 2397895272798370544061943577965129299821706853937417175218567709130573623913236713075054708002634791414715725888137998522255569158595787395355302390801108065051641906680675096589460667937278 := by decide +kernel
theorem jlgv_5 : jlg 5 = 2564949357461536736053487441565318604805267944760207116419045510663464667324410179399574663440489488769258192092762721631532154491986587013825268116972297751783697080477562044104565901178606 := by decide +kernel
theorem jbcu_0 {p : Int} (h : 1 ≤ p ∧ p ≤ 1000) : jbc_0 p = true := by
  rcases (show (1 ≤ p ∧ p ≤ 250) ∨ (251 ≤ p ∧ p ≤ 500) ∨ (501 ≤ p ∧ p ≤ 750) ∨ (751 ≤ p ∧ p ≤ 1000) by omega) with g | g | g | g
  · have h2 : jbc_0 ((1 + (p - 1).toNat : Nat) : Int) = true := List.all_eq_true.mp jbct_0_0 (p - 1).toNat (List.mem_range.mpr (by omega))
    rw [show ((1 + (p - 1).toNat : Nat) : Int) = p by omega] at h2
    exact h2
  · have h2 : jbc_0 ((251 + (p - 251).toNat : Nat) : Int) = true := List.all_eq_true.mp jbct_0_1 (p - 251).toNat (List.mem_range.mpr (by omega))
    rw [show ((251 + (p - 251).toNat : Nat) : Int) = p by omega] at h2
    exact h2
  · have h2 : jbc_0 ((501 + (p - 501).toNat : Nat) : Int) = true := List.all_eq_true.mp jbct_0_2 (p - 501).toNat (List.mem_range.mpr (by omega))
    rw [show ((501 + (p - 501).toNat : Nat) : Int) = p by omega] at h2
    exact h2
  · have h2 : jbc_0 ((751 + (p - 751).toNat : Nat) : Int) = true := List.all_eq_true.mp jbct_0_3 (p - 751).toNat (List.mem_range.mpr (by omega))
    rw [show ((751 + (p - 751).toNat : Nat) : Int) = p by omega] at h2
    exact h2
theorem jbp_b0 {p : Int} (h : 1 ≤ p ∧ p ≤ 1000) : 1 ≤ jbp0 p ∧ jbp0 p ≤ 4001 := by
  unfold jbp0
  omega
theorem jbx_0 {p : Int} (h : 1 ≤ p ∧ p ≤ 1000) : ∃ d1 d2 d3 d4 d5 d6 d7 d8 : Int, ((FP.l2d (Int64.ofInt (2 * p + 1))).toNat : Int) = d1 ∧ (jn64 (FP.dadd (ju64 d1) (ju64 0)) = true ∧ ((FP.dadd (ju64 d1) (ju64 0)).toNat : Int) = d2) ∧ (jn64 (FP.dadd (ju64 d2) (ju64 0)) = true ∧ ((FP.dadd (ju64 d2) (ju64 0)).toNat : Int) = d3) ∧ (jn64 (FP.dadd (ju64 d3) (ju64 0)) = true ∧ ((FP.dadd (ju64 d3) (ju64 0)).toNat : Int) = d4) ∧ (jn64 (FP.dadd (ju64 d4) (ju64 0)) = true ∧ ((FP.dadd (ju64 d4) (ju64 0)).toNat : Int) = d5) ∧ (jn64 (FP.dadd (ju64 d5) (ju64 0)) = true ∧ ((FP.dadd (ju64 d5) (ju64 0)).toNat : Int) = d6) ∧ (jn64 (FP.ddiv (ju64 d6) (ju64 4611686018427387904)) = true ∧ ((FP.ddiv (ju64 d6) (ju64 4611686018427387904)).toNat : Int) = d7) ∧ (FP.d2l (ju64 d7)).toInt = d8 ∧ jbp0 p ≤ d8 ∧ d8 ≤ jbp0 p + 1 ∧ ((-1099511627776) ≤ jbp0 p ∧ jbp0 p ≤ 1099511627776) ∧ 0 ≤ jlz ((-2) * (jbp0 p) + 2 * p + 1) 0 0 0 0 0 ∧ jlz ((-2) * (jbp0 p) + 2 * p - 1) 0 0 0 0 0 < 0 := by
  have h2 := jbcu_0 h
  simp only [jbc_0, Bool.and_eq_true, decide_eq_true_eq] at h2
  obtain ⟨⟨⟨⟨⟨⟨⟨q0, q1⟩, q2⟩, q3⟩, q4⟩, q5⟩, q6⟩, q7⟩ := h2
  have hb := jbp_b0 h
  refine ⟨_, _, _, _, _, _, _, _, rfl, ⟨q0, rfl⟩, ⟨q1, rfl⟩, ⟨q2, rfl⟩, ⟨q3, rfl⟩, ⟨q4, rfl⟩, ⟨q5, rfl⟩, rfl, q6, q7, by omega, ?_, ?_⟩
  · unfold jlz jbp0
    rw [jlgv_0, jlgv_1, jlgv_2, jlgv_3, jlgv_4, jlgv_5]
    omega
  · unfold jlz jbp0
    rw [jlgv_0, jlgv_1, jlgv_2, jlgv_3, jlgv_4, jlgv_5]
    omega
theorem jbcu_1 {p : Int} (h : 1 ≤ p ∧ p ≤ 1000) : jbc_1 p = true := by
  rcases (show (1 ≤ p ∧ p ≤ 250) ∨ (251 ≤ p ∧ p ≤ 500) ∨ (501 ≤ p ∧ p ≤ 750) ∨ (751 ≤ p ∧ p ≤ 1000) by omega) with g | g | g | g
  · have h2 : jbc_1 ((1 + (p - 1).toNat : Nat) : Int) = true := List.all_eq_true.mp jbct_1_0 (p - 1).toNat (List.mem_range.mpr (by omega))
    rw [show ((1 + (p - 1).toNat : Nat) : Int) = p by omega] at h2
    exact h2
  · have h2 : jbc_1 ((251 + (p - 251).toNat : Nat) : Int) = true := List.all_eq_true.mp jbct_1_1 (p - 251).toNat (List.mem_range.mpr (by omega))
    rw [show ((251 + (p - 251).toNat : Nat) : Int) = p by omega] at h2
    exact h2
  · have h2 : jbc_1 ((501 + (p - 501).toNat : Nat) : Int) = true := List.all_eq_true.mp jbct_1_2 (p - 501).toNat (List.mem_range.mpr (by omega))
    rw [show ((501 + (p - 501).toNat : Nat) : Int) = p by omega] at h2
    exact h2
  · have h2 : jbc_1 ((751 + (p - 751).toNat : Nat) : Int) = true := List.all_eq_true.mp jbct_1_3 (p - 751).toNat (List.mem_range.mpr (by omega))
    rw [show ((751 + (p - 751).toNat : Nat) : Int) = p by omega] at h2
    exact h2
theorem jbp_b1 {p : Int} (h : 1 ≤ p ∧ p ≤ 1000) : 1 ≤ jbp1 p ∧ jbp1 p ≤ 4001 := by
  unfold jbp1
  omega
theorem jbx_1 {p : Int} (h : 1 ≤ p ∧ p ≤ 1000) : ∃ d1 d2 d3 d4 d5 d6 d7 d8 d9 : Int, ((FP.l2d (Int64.ofInt (2 * p))).toNat : Int) = d1 ∧ (jn64 (FP.dmul (ju64 4609816855700290920) (ju64 d1)) = true ∧ ((FP.dmul (ju64 4609816855700290920) (ju64 d1)).toNat : Int) = d2) ∧ (jn64 (FP.dadd (ju64 4607182418800017408) (ju64 d2)) = true ∧ ((FP.dadd (ju64 4607182418800017408) (ju64 d2)).toNat : Int) = d3) ∧ (jn64 (FP.dadd (ju64 d3) (ju64 0)) = true ∧ ((FP.dadd (ju64 d3) (ju64 0)).toNat : Int) = d4) ∧ (jn64 (FP.dadd (ju64 d4) (ju64 0)) = true ∧ ((FP.dadd (ju64 d4) (ju64 0)).toNat : Int) = d5) ∧ (jn64 (FP.dadd (ju64 d5) (ju64 0)) = true ∧ ((FP.dadd (ju64 d5) (ju64 0)).toNat : Int) = d6) ∧ (jn64 (FP.dadd (ju64 d6) (ju64 0)) = true ∧ ((FP.dadd (ju64 d6) (ju64 0)).toNat : Int) = d7) ∧ (jn64 (FP.ddiv (ju64 d7) (ju64 4611686018427387904)) = true ∧ ((FP.ddiv (ju64 d7) (ju64 4611686018427387904)).toNat : Int) = d8) ∧ (FP.d2l (ju64 d8)).toInt = d9 ∧ jbp1 p ≤ d9 ∧ d9 ≤ jbp1 p + 1 ∧ ((-1099511627776) ≤ jbp1 p ∧ jbp1 p ≤ 1099511627776) ∧ 0 ≤ jlz ((-2) * (jbp1 p) + 1) (2 * p) 0 0 0 0 ∧ jlz ((-2) * (jbp1 p) - 1) (2 * p) 0 0 0 0 < 0 := by
  have h2 := jbcu_1 h
  simp only [jbc_1, Bool.and_eq_true, decide_eq_true_eq] at h2
  obtain ⟨⟨⟨⟨⟨⟨⟨⟨q0, q1⟩, q2⟩, q3⟩, q4⟩, q5⟩, q6⟩, q7⟩, q8⟩ := h2
  have hb := jbp_b1 h
  refine ⟨_, _, _, _, _, _, _, _, _, rfl, ⟨q0, rfl⟩, ⟨q1, rfl⟩, ⟨q2, rfl⟩, ⟨q3, rfl⟩, ⟨q4, rfl⟩, ⟨q5, rfl⟩, ⟨q6, rfl⟩, rfl, q7, q8, by omega, ?_, ?_⟩
  · unfold jlz jbp1
    rw [jlgv_0, jlgv_1, jlgv_2, jlgv_3, jlgv_4, jlgv_5]
    omega
  · unfold jlz jbp1
    rw [jlgv_0, jlgv_1, jlgv_2, jlgv_3, jlgv_4, jlgv_5]
    omega
theorem jbcu_2 {p : Int} (h : 1 ≤ p ∧ p ≤ 1000) : jbc_2 p = true := by
  rcases (show (1 ≤ p ∧ p ≤ 250) ∨ (251 ≤ p ∧ p ≤ 500) ∨ (501 ≤ p ∧ p ≤ 750) ∨ (751 ≤ p ∧ p ≤ 1000) by omega) with g | g | g | g
  · have h2 : jbc_2 ((1 + (p - 1).toNat : Nat) : Int) = true := List.all_eq_true.mp jbct_2_0 (p - 1).toNat (List.mem_range.mpr (by omega))
    rw [show ((1 + (p - 1).toNat : Nat) : Int) = p by omega] at h2
    exact h2
  · have h2 : jbc_2 ((251 + (p - 251).toNat : Nat) : Int) = true := List.all_eq_true.mp jbct_2_1 (p - 251).toNat (List.mem_range.mpr (by omega))
    rw [show ((251 + (p - 251).toNat : Nat) : Int) = p by omega] at h2
    exact h2
  · have h2 : jbc_2 ((501 + (p - 501).toNat : Nat) : Int) = true := List.all_eq_true.mp jbct_2_2 (p - 501).toNat (List.mem_range.mpr (by omega))
    rw [show ((501 + (p - 501).toNat : Nat) : Int) = p by omega] at h2
    exact h2
  · have h2 : jbc_2 ((751 + (p - 751).toNat : Nat) : Int) = true := List.all_eq_true.mp jbct_2_3 (p - 751).toNat (List.mem_range.mpr (by omega))
    rw [show ((751 + (p - 751).toNat : Nat) : Int) = p by omega] at h2
    exact h2
theorem jbp_b2 {p : Int} (h : 1 ≤ p ∧ p ≤ 1000) : 1 ≤ jbp2 p ∧ jbp2 p ≤ 4001 := by
  unfold jbp2
  omega
theorem jbx_2 {p : Int} (h : 1 ≤ p ∧ p ≤ 1000) : ∃ d1 d2 d3 d4 d5 d6 d7 d8 : Int, ((FP.l2d (Int64.ofInt (2 * p))).toNat : Int) = d1 ∧ (jn64 (FP.dmul (ju64 4612410936051475313) (ju64 d1)) = true ∧ ((FP.dmul (ju64 4612410936051475313) (ju64 d1)).toNat : Int) = d2) ∧ (jn64 (FP.dadd (ju64 4607182418800017408) (ju64 d2)) = true ∧ ((FP.dadd (ju64 4607182418800017408) (ju64 d2)).toNat : Int) = d3) ∧ (jn64 (FP.dadd (ju64 d3) (ju64 0)) = true ∧ ((FP.dadd (ju64 d3) (ju64 0)).toNat : Int) = d4) ∧ (jn64 (FP.dadd (ju64 d4) (ju64 0)) = true ∧ ((FP.dadd (ju64 d4) (ju64 0)).toNat : Int) = d5) ∧ (jn64 (FP.dadd (ju64 d5) (ju64 0)) = true ∧ ((FP.dadd (ju64 d5) (ju64 0)).toNat : Int) = d6) ∧ (jn64 (FP.ddiv (ju64 d6) (ju64 4611686018427387904)) = true ∧ ((FP.ddiv (ju64 d6) (ju64 4611686018427387904)).toNat : Int) = d7) ∧ (FP.d2l (ju64 d7)).toInt = d8 ∧ jbp2 p ≤ d8 ∧ d8 ≤ jbp2 p + 1 ∧ ((-1099511627776) ≤ jbp2 p ∧ jbp2 p ≤ 1099511627776) ∧ 0 ≤ jlz ((-2) * (jbp2 p) + 1) 0 (2 * p) 0 0 0 ∧ jlz ((-2) * (jbp2 p) - 1) 0 (2 * p) 0 0 0 < 0 := by
  have h2 := jbcu_2 h
  simp only [jbc_2, Bool.and_eq_true, decide_eq_true_eq] at h2
  obtain ⟨⟨⟨⟨⟨⟨⟨q0, q1⟩, q2⟩, q3⟩, q4⟩, q5⟩, q6⟩, q7⟩ := h2
  have hb := jbp_b2 h
  refine ⟨_, _, _, _, _, _, _, _, rfl, ⟨q0, rfl⟩, ⟨q1, rfl⟩, ⟨q2, rfl⟩, ⟨q3, rfl⟩, ⟨q4, rfl⟩, ⟨q5, rfl⟩, rfl, q6, q7, by omega, ?_, ?_⟩
  · unfold jlz jbp2
    rw [jlgv_0, jlgv_1, jlgv_2, jlgv_3, jlgv_4, jlgv_5]
    omega
  · unfold jlz jbp2
    rw [jlgv_0, jlgv_1, jlgv_2, jlgv_3, jlgv_4, jlgv_5]
    omega
theorem jbcu_3 {p : Int} (h : 1 ≤ p ∧ p ≤ 1000) : jbc_3 p = true := by
  rcases (show (1 ≤ p ∧ p ≤ 250) ∨ (251 ≤ p ∧ p ≤ 500) ∨ (501 ≤ p ∧ p ≤ 750) ∨ (751 ≤ p ∧ p ≤ 1000) by omega) with g | g | g | g
  · have h2 : jbc_3 ((1 + (p - 1).toNat : Nat) : Int) = true := List.all_eq_true.mp jbct_3_0 (p - 1).toNat (List.mem_range.mpr (by omega))
    rw [show ((1 + (p - 1).toNat : Nat) : Int) = p by omega] at h2
    exact h2
  · have h2 : jbc_3 ((251 + (p - 251).toNat : Nat) : Int) = true := List.all_eq_true.mp jbct_3_1 (p - 251).toNat (List.mem_range.mpr (by omega))
    rw [show ((251 + (p - 251).toNat : Nat) : Int) = p by omega] at h2
    exact h2
  · have h2 : jbc_3 ((501 + (p - 501).toNat : Nat) : Int) = true := List.all_eq_true.mp jbct_3_2 (p - 501).toNat (List.mem_range.mpr (by omega))
    rw [show ((501 + (p - 501).toNat : Nat) : Int) = p by omega] at h2
    exact h2
  · have h2 : jbc_3 ((751 + (p - 751).toNat : Nat) : Int) = true := List.all_eq_true.mp jbct_3_3 (p - 751).toNat (List.mem_range.mpr (by omega))
    rw [show ((751 + (p - 751).toNat : Nat) : Int) = p by omega] at h2
    exact h2
theorem jbp_b3 {p : Int} (h : 1 ≤ p ∧ p ≤ 1000) : 1 ≤ jbp3 p ∧ jbp3 p ≤ 4001 := by
  unfold jbp3
  omega
theorem jbx_3 {p : Int} (h : 1 ≤ p ∧ p ≤ 1000) : ∃ d1 d2 d3 d4 d5 d6 d7 : Int, ((FP.l2d (Int64.ofInt (2 * p))).toNat : Int) = d1 ∧ (jn64 (FP.dmul (ju64 4613504020090455085) (ju64 d1)) = true ∧ ((FP.dmul (ju64 4613504020090455085) (ju64 d1)).toNat : Int) = d2) ∧ (jn64 (FP.dadd (ju64 4607182418800017408) (ju64 d2)) = true ∧ ((FP.dadd (ju64 4607182418800017408) (ju64 d2)).toNat : Int) = d3) ∧ (jn64 (FP.dadd (ju64 d3) (ju64 0)) = true ∧ ((FP.dadd (ju64 d3) (ju64 0)).toNat : Int) = d4) ∧ (jn64 (FP.dadd (ju64 d4) (ju64 0)) = true ∧ ((FP.dadd (ju64 d4) (ju64 0)).toNat : Int) = d5) ∧ (jn64 (FP.ddiv (ju64 d5) (ju64 4611686018427387904)) = true ∧ ((FP.ddiv (ju64 d5) (ju64 4611686018427387904)).toNat : Int) = d6) ∧ (FP.d2l (ju64 d6)).toInt = d7 ∧ jbp3 p ≤ d7 ∧ d7 ≤ jbp3 p + 1 ∧ ((-1099511627776) ≤ jbp3 p ∧ jbp3 p ≤ 1099511627776) ∧ 0 ≤ jlz ((-2) * (jbp3 p) + 1) 0 0 (2 * p) 0 0 ∧ jlz ((-2) * (jbp3 p) - 1) 0 0 (2 * p) 0 0 < 0 := by
  have h2 := jbcu_3 h
  simp only [jbc_3, Bool.and_eq_true, decide_eq_true_eq] at h2
  obtain ⟨⟨⟨⟨⟨⟨q0, q1⟩, q2⟩, q3⟩, q4⟩, q5⟩, q6⟩ := h2
  have hb := jbp_b3 h
  refine ⟨_, _, _, _, _, _, _, rfl, ⟨q0, rfl⟩, ⟨q1, rfl⟩, ⟨q2, rfl⟩, ⟨q3, rfl⟩, ⟨q4, rfl⟩, rfl, q5, q6, by omega, ?_, ?_⟩
  · unfold jlz jbp3
    rw [jlgv_0, jlgv_1, jlgv_2, jlgv_3, jlgv_4, jlgv_5]
    omega
  · unfold jlz jbp3
    rw [jlgv_0, jlgv_1, jlgv_2, jlgv_3, jlgv_4, jlgv_5]
    omega
theorem jbcu_4 {p : Int} (h : 1 ≤ p ∧ p ≤ 1000) : jbc_4 p = true := by
  rcases (show (1 ≤ p ∧ p ≤ 250) ∨ (251 ≤ p ∧ p ≤ 500) ∨ (501 ≤ p ∧ p ≤ 750) ∨ (751 ≤ p ∧ p ≤ 1000) by omega) with g | g | g | g
  · have h2 : jbc_4 ((1 + (p - 1).toNat : Nat) : Int) = true := List.all_eq_true.mp jbct_4_0 (p - 1).toNat (List.mem_range.mpr (by omega))
    rw [show ((1 + (p - 1).toNat : Nat) : Int) = p by omega] at h2
    exact h2
  · have h2 : jbc_4 ((251 + (p - 251).toNat : Nat) : Int) = true := List.all_eq_true.mp jbct_4_1 (p - 251).toNat (List.mem_range.mpr (by omega))
    rw [show ((251 + (p - 251).toNat : Nat) : Int) = p by omega] at h2
    exact h2
  · have h2 : jbc_4 ((501 + (p - 501).toNat : Nat) : Int) = true := List.all_eq_true.mp jbct_4_2 (p - 501).toNat (List.mem_range.mpr (by omega))
    rw [show ((501 + (p - 501).toNat : Nat) : Int) = p by omega] at h2
    exact h2
  · have h2 : jbc_4 ((751 + (p - 751).toNat : Nat) : Int) = true := List.all_eq_true.mp jbct_4_3 (p - 751).toNat (List.mem_range.mpr (by omega))
    rw [show ((751 + (p - 751).toNat : Nat) : Int) = p by omega] at h2
    exact h2
theorem jbp_b4 {p : Int} (h : 1 ≤ p ∧ p ≤ 1000) : 1 ≤ jbp4 p ∧ jbp4 p ≤ 4001 := by
  unfold jbp4
  omega
theorem jbx_4 {p : Int} (h : 1 ≤ p ∧ p ≤ 1000) : ∃ d1 d2 d3 d4 d5 d6 : Int, ((FP.l2d (Int64.ofInt (2 * p))).toNat : Int) = d1 ∧ (jn64 (FP.dmul (ju64 4614972366274321729) (ju64 d1)) = true ∧ ((FP.dmul (ju64 4614972366274321729) (ju64 d1)).toNat : Int) = d2) ∧ (jn64 (FP.dadd (ju64 4607182418800017408) (ju64 d2)) = true ∧ ((FP.dadd (ju64 4607182418800017408) (ju64 d2)).toNat : Int) = d3) ∧ (jn64 (FP.dadd (ju64 d3) (ju64 0)) = true ∧ ((FP.dadd (ju64 d3) (ju64 0)).toNat : Int) = d4) ∧ (jn64 (FP.ddiv (ju64 d4) (ju64 4611686018427387904)) = true ∧ ((FP.ddiv (ju64 d4) (ju64 4611686018427387904)).toNat : Int) = d5) ∧ (FP.d2l (ju64 d5)).toInt = d6 ∧ jbp4 p ≤ d6 ∧ d6 ≤ jbp4 p + 1 ∧ ((-1099511627776) ≤ jbp4 p ∧ jbp4 p ≤ 1099511627776) ∧ 0 ≤ jlz ((-2) * (jbp4 p) + 1) 0 0 0 (2 * p) 0 ∧ jlz ((-2) * (jbp4 p) - 1) 0 0 0 (2 * p) 0 < 0 := by
  have h2 := jbcu_4 h
  simp only [jbc_4, Bool.and_eq_true, decide_eq_true_eq] at h2
  obtain ⟨⟨⟨⟨⟨q0, q1⟩, q2⟩, q3⟩, q4⟩, q5⟩ := h2
  have hb := jbp_b4 h
  refine ⟨_, _, _, _, _, _, rfl, ⟨q0, rfl⟩, ⟨q1, rfl⟩, ⟨q2, rfl⟩, ⟨q3, rfl⟩, rfl, q4, q5, by omega, ?_, ?_⟩
  · unfold jlz jbp4
    rw [jlgv_0, jlgv_1, jlgv_2, jlgv_3, jlgv_4, jlgv_5]
    omega
  · unfold jlz jbp4
    rw [jlgv_0, jlgv_1, jlgv_2, jlgv_3, jlgv_4, jlgv_5]
    omega
theorem jbcu_5 {p : Int} (h : 1 ≤ p ∧ p ≤ 1000) : jbc_5 p = true := by
  rcases (show (1 ≤ p ∧ p ≤ 250) ∨ (251 ≤ p ∧ p ≤ 500) ∨ (501 ≤ p ∧ p ≤ 750) ∨ (751 ≤ p ∧ p ≤ 1000) by omega) with g | g | g | g
  · have h2 : jbc_5 ((1 + (p - 1).toNat : Nat) : Int) = true := List.all_eq_true.mp jbct_5_0 (p - 1).toNat (List.mem_range.mpr (by omega))
    rw [show ((1 + (p - 1).toNat : Nat) : Int) = p by omega] at h2
    exact h2
  · have h2 : jbc_5 ((251 + (p - 251).toNat : Nat) : Int) = true := List.all_eq_true.mp jbct_5_1 (p - 251).toNat (List.mem_range.mpr (by omega))
    rw [show ((251 + (p - 251).toNat : Nat) : Int) = p by omega] at h2
    exact h2
  · have h2 : jbc_5 ((501 + (p - 501).toNat : Nat) : Int) = true := List.all_eq_true.mp jbct_5_2 (p - 501).toNat (List.mem_range.mpr (by omega))
    rw [show ((501 + (p - 501).toNat : Nat) : Int) = p by omega] at h2
    exact h2
  · have h2 : jbc_5 ((751 + (p - 751).toNat : Nat) : Int) = true := List.all_eq_true.mp jbct_5_3 (p - 751).toNat (List.mem_range.mpr (by omega))
    rw [show ((751 + (p - 751).toNat : Nat) : Int) = p by omega] at h2
    exact h2
theorem jbp_b5 {p : Int} (h : 1 ≤ p ∧ p ≤ 1000) : 1 ≤ jbp5 p ∧ jbp5 p ≤ 4001 := by
  unfold jbp5
  omega
theorem jbx_5 {p : Int} (h : 1 ≤ p ∧ p ≤ 1000) : ∃ d1 d2 d3 d4 d5 : Int, ((FP.l2d (Int64.ofInt (2 * p))).toNat : Int) = d1 ∧ (jn64 (FP.dmul (ju64 4615515068267881011) (ju64 d1)) = true ∧ ((FP.dmul (ju64 4615515068267881011) (ju64 d1)).toNat : Int) = d2) ∧ (jn64 (FP.dadd (ju64 4607182418800017408) (ju64 d2)) = true ∧ ((FP.dadd (ju64 4607182418800017408) (ju64 d2)).toNat : Int) = d3) ∧ (jn64 (FP.ddiv (ju64 d3) (ju64 4611686018427387904)) = true ∧ ((FP.ddiv (ju64 d3) (ju64 4611686018427387904)).toNat : Int) = d4) ∧ (FP.d2l (ju64 d4)).toInt = d5 ∧ jbp5 p ≤ d5 ∧ d5 ≤ jbp5 p + 1 ∧ ((-1099511627776) ≤ jbp5 p ∧ jbp5 p ≤ 1099511627776) ∧ 0 ≤ jlz ((-2) * (jbp5 p) + 1) 0 0 0 0 (2 * p) ∧ jlz ((-2) * (jbp5 p) - 1) 0 0 0 0 (2 * p) < 0 := by
  have h2 := jbcu_5 h
  simp only [jbc_5, Bool.and_eq_true, decide_eq_true_eq] at h2
  obtain ⟨⟨⟨⟨q0, q1⟩, q2⟩, q3⟩, q4⟩ := h2
  have hb := jbp_b5 h
  refine ⟨_, _, _, _, _, rfl, ⟨q0, rfl⟩, ⟨q1, rfl⟩, ⟨q2, rfl⟩, rfl, q3, q4, by omega, ?_, ?_⟩
  · unfold jlz jbp5
    rw [jlgv_0, jlgv_1, jlgv_2, jlgv_3, jlgv_4, jlgv_5]
    omega
  · unfold jlz jbp5
    rw [jlgv_0, jlgv_1, jlgv_2, jlgv_3, jlgv_4, jlgv_5]
    omega
