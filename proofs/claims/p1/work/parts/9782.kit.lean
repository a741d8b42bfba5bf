/-! near forms: parts by names -/
theorem jIXK_373_8 : jmI (jm 373) 8 = (.lconst 0, 1) := by rfl
theorem jIXK_373_10 : jmI (jm 373) 10 = (.ifCond .ge 17, 3) := by rfl
theorem jIXK_373_27 : jmI (jm 373) 27 = (.lload 4, 2) := by rfl
theorem jIXK_373_13 : jmI (jm 373) 13 = (.lload 4, 2) := by rfl
theorem jIXK_373_15 : jmI (jm 373) 15 = (.lload_n 2, 1) := by rfl
theorem jIXK_373_16 : jmI (jm 373) 16 = (.lmul, 1) := by rfl
theorem jIXK_373_17 : jmI (jm 373) 17 = (.lload_n 0, 1) := by rfl
theorem jIXK_373_19 : jmI (jm 373) 19 = (.ifCond .eq 8, 3) := by rfl
theorem jIXK_373_22 : jmI (jm 373) 22 = (.lload 4, 2) := by rfl
theorem jIXK_373_24 : jmI (jm 373) 24 = (.lconst 1, 1) := by rfl
theorem jIXK_373_25 : jmI (jm 373) 25 = (.lsub, 1) := by rfl
theorem jT_fdJK {xs : List Int} {d : Nat} {x : Int} (h_x : (-9223372036854775808) ≤ x ∧ x ≤ 9223372036854775807) : jT xs d 373 0 0 [(0, (1, x)), (2, (1, 68719476736))] [] [] 0 0 (fun k v hsN => k = 0 ∧ v = (1, x / 68719476736) ∧ hsN = [] ++ []) := by
  refine jT_adv 2 (pcN := 2) (LN := [(0, (1, x)), (2, (1, 68719476736))]) (stN := [(1, 68719476736), (1, x)]) (hsN := []) (c1 := 0) (s1 := 0) (c2 := 0) (s2 := 0) (by exact rfl) ?_ (by omega) (by omega)
  refine jT_ldiv (a := x) (b := 68719476736) (by rfl) (by rfl) (jwl_idd (by omega) (by omega)) (jwl_idd (by omega) (by omega)) (by omega) ?_
  have hq := jtd_y (x := x) (y := 68719476736)
  generalize x.tdiv 68719476736 = q at hq ⊢
  refine jT_adv 3 (pcN := 7) (LN := [(4, (1, q)), (0, (1, x)), (2, (1, 68719476736))]) (stN := [(1, 68719476736), (1, x)]) (hsN := []) (c1 := 0) (s1 := 0) (c2 := 0) (s2 := 0) (by exact rfl) ?_ (by omega) (by omega)
  refine jT_adv 1 (pcN := 8) (LN := [(4, (1, q)), (0, (1, x)), (2, (1, 68719476736))]) (stN := [(1, (Int64.ofInt x ^^^ Int64.ofInt 68719476736).toInt)]) (hsN := []) (c1 := 0) (s1 := 0) (c2 := 0) (s2 := 0) (by exact rfl) ?_ (by omega) (by omega)
  have hx := jx64b x 68719476736
  rw [jwl_idd (x := x) (by omega) (by omega), jwl_idd (x := 68719476736) (by omega) (by omega)] at hx
  have hr1 : -9223372036854775808 ≤ (Int64.ofInt x ^^^ Int64.ofInt 68719476736).toInt := Int64.le_toInt _
  have hr2 : (Int64.ofInt x ^^^ Int64.ofInt 68719476736).toInt < 9223372036854775808 := Int64.toInt_lt _
  generalize (Int64.ofInt x ^^^ Int64.ofInt 68719476736).toInt = e at hx hr1 hr2 ⊢
  by_cases hx0 : 0 ≤ x
  · rw [if_pos hx0] at hq
    have he : 0 ≤ e := by
      by_cases h : 0 ≤ e
      · exact h
      · exact absurd (show x < 0 by have := hx.mp (by omega); simp at this; omega) (by omega)
    by_cases c0 : 0 ≤ e - 1
    · refine jT_xlconst (z := 0) (pcN := 9) jIXK_373_8 rfl rfl ?_
      refine jT_lcmp (a := e) (b := 0) (z := 1) (by rfl) (by rfl) (jwl_idd (by omega) (by omega)) (jwl_idd (by omega) (by omega)) (by rw [decide_eq_true (show (0 : Int) < e by omega)]; rfl) ?_
      refine jT_xifT (pcN := 27) jIXK_373_10 rfl (by decide +kernel) rfl ?_
      refine jT_xlload (v := (1, q)) (pcN := 29) jIXK_373_27 rfl rfl rfl ?_
      exact jT_ret rfl (by decide) (by decide) (by omega) (by omega) ⟨rfl, by rw [show q = x / 68719476736 by omega], rfl⟩
    · refine jT_xlconst (z := 0) (pcN := 9) jIXK_373_8 rfl rfl ?_
      refine jT_lcmp (a := e) (b := 0) (z := 0) (by rfl) (by rfl) (jwl_idd (by omega) (by omega)) (jwl_idd (by omega) (by omega)) (by rw [decide_eq_false (show ¬ ((0 : Int) < e) by omega), decide_eq_true (show (e : Int) = 0 by omega)]; rfl) ?_
      refine jT_xifT (pcN := 27) jIXK_373_10 rfl (by decide +kernel) rfl ?_
      refine jT_xlload (v := (1, q)) (pcN := 29) jIXK_373_27 rfl rfl rfl ?_
      exact jT_ret rfl (by decide) (by decide) (by omega) (by omega) ⟨rfl, by rw [show q = x / 68719476736 by omega], rfl⟩
  · rw [if_neg hx0] at hq
    have he : e < 0 := hx.mpr (by simp; omega)
    by_cases c0 : 0 ≤ 68719476736 * q - x - 1
    · refine jT_xlconst (z := 0) (pcN := 9) jIXK_373_8 rfl rfl ?_
      refine jT_lcmp (a := e) (b := 0) (z := (-1)) (by rfl) (by rfl) (jwl_idd (by omega) (by omega)) (jwl_idd (by omega) (by omega)) (by rw [decide_eq_false (show ¬ ((0 : Int) < e) by omega), decide_eq_false (show ¬ ((e : Int) = 0) by omega)]; rfl) ?_
      refine jT_xifF (t := 27) (pcN := 13) jIXK_373_10 rfl (by decide +kernel) rfl rfl ?_
      refine jT_xlload (v := (1, q)) (pcN := 15) jIXK_373_13 rfl rfl rfl ?_
      refine jT_xlload_n (v := (1, 68719476736)) (pcN := 16) jIXK_373_15 rfl rfl rfl ?_
      refine jT_xlmul (x := q) (y := 68719476736) (z := 68719476736 * q) (pcN := 17) jIXK_373_16 rfl (by omega) rfl ?_
      refine jT_xlload_n (v := (1, x)) (pcN := 18) jIXK_373_17 rfl rfl rfl ?_
      refine jT_lcmp (a := 68719476736 * q) (b := x) (z := 1) (by rfl) (by rfl) (jwl_idd (by omega) (by omega)) (jwl_idd (by omega) (by omega)) (by rw [decide_eq_true (show (x : Int) < 68719476736 * q by omega)]; rfl) ?_
      refine jT_xifF (t := 27) (pcN := 22) jIXK_373_19 rfl (by decide +kernel) rfl rfl ?_
      refine jT_xlload (v := (1, q)) (pcN := 24) jIXK_373_22 rfl rfl rfl ?_
      refine jT_xlconst (z := 1) (pcN := 25) jIXK_373_24 rfl rfl ?_
      refine jT_xlsub (x := q) (y := 1) (z := q - 1) (pcN := 26) jIXK_373_25 rfl (rfl) rfl ?_
      exact jT_ret rfl (by decide) (by decide) (by omega) (by omega) ⟨rfl, by rw [show q - 1 = x / 68719476736 by omega], rfl⟩
    · by_cases c1 : 68719476736 * q - x = 0
      · refine jT_xlconst (z := 0) (pcN := 9) jIXK_373_8 rfl rfl ?_
        refine jT_lcmp (a := e) (b := 0) (z := (-1)) (by rfl) (by rfl) (jwl_idd (by omega) (by omega)) (jwl_idd (by omega) (by omega)) (by rw [decide_eq_false (show ¬ ((0 : Int) < e) by omega), decide_eq_false (show ¬ ((e : Int) = 0) by omega)]; rfl) ?_
        refine jT_xifF (t := 27) (pcN := 13) jIXK_373_10 rfl (by decide +kernel) rfl rfl ?_
        refine jT_xlload (v := (1, q)) (pcN := 15) jIXK_373_13 rfl rfl rfl ?_
        refine jT_xlload_n (v := (1, 68719476736)) (pcN := 16) jIXK_373_15 rfl rfl rfl ?_
        refine jT_xlmul (x := q) (y := 68719476736) (z := 68719476736 * q) (pcN := 17) jIXK_373_16 rfl (by omega) rfl ?_
        refine jT_xlload_n (v := (1, x)) (pcN := 18) jIXK_373_17 rfl rfl rfl ?_
        refine jT_lcmp (a := 68719476736 * q) (b := x) (z := 0) (by rfl) (by rfl) (jwl_idd (by omega) (by omega)) (jwl_idd (by omega) (by omega)) (by rw [decide_eq_false (show ¬ ((x : Int) < 68719476736 * q) by omega), decide_eq_true (show (68719476736 * q : Int) = x by omega)]; rfl) ?_
        refine jT_xifT (pcN := 27) jIXK_373_19 rfl (by decide +kernel) rfl ?_
        refine jT_xlload (v := (1, q)) (pcN := 29) jIXK_373_27 rfl rfl rfl ?_
        exact jT_ret rfl (by decide) (by decide) (by omega) (by omega) ⟨rfl, by rw [show q = x / 68719476736 by omega], rfl⟩
      · rcases (show 68719476736 * q - x < 0 ∨ 0 < 68719476736 * q - x by omega) with c51 | c51
        · refine jT_xlconst (z := 0) (pcN := 9) jIXK_373_8 rfl rfl ?_
          refine jT_lcmp (a := e) (b := 0) (z := (-1)) (by rfl) (by rfl) (jwl_idd (by omega) (by omega)) (jwl_idd (by omega) (by omega)) (by rw [decide_eq_false (show ¬ ((0 : Int) < e) by omega), decide_eq_false (show ¬ ((e : Int) = 0) by omega)]; rfl) ?_
          refine jT_xifF (t := 27) (pcN := 13) jIXK_373_10 rfl (by decide +kernel) rfl rfl ?_
          refine jT_xlload (v := (1, q)) (pcN := 15) jIXK_373_13 rfl rfl rfl ?_
          refine jT_xlload_n (v := (1, 68719476736)) (pcN := 16) jIXK_373_15 rfl rfl rfl ?_
          refine jT_xlmul (x := q) (y := 68719476736) (z := 68719476736 * q) (pcN := 17) jIXK_373_16 rfl (by omega) rfl ?_
          refine jT_xlload_n (v := (1, x)) (pcN := 18) jIXK_373_17 rfl rfl rfl ?_
          refine jT_lcmp (a := 68719476736 * q) (b := x) (z := (-1)) (by rfl) (by rfl) (jwl_idd (by omega) (by omega)) (jwl_idd (by omega) (by omega)) (by rw [decide_eq_false (show ¬ ((x : Int) < 68719476736 * q) by omega), decide_eq_false (show ¬ ((68719476736 * q : Int) = x) by omega)]; rfl) ?_
          refine jT_xifF (t := 27) (pcN := 22) jIXK_373_19 rfl (by decide +kernel) rfl rfl ?_
          refine jT_xlload (v := (1, q)) (pcN := 24) jIXK_373_22 rfl rfl rfl ?_
          refine jT_xlconst (z := 1) (pcN := 25) jIXK_373_24 rfl rfl ?_
          refine jT_xlsub (x := q) (y := 1) (z := q - 1) (pcN := 26) jIXK_373_25 rfl (rfl) rfl ?_
          exact jT_ret rfl (by decide) (by decide) (by omega) (by omega) ⟨rfl, by rw [show q - 1 = x / 68719476736 by omega], rfl⟩
        · refine jT_xlconst (z := 0) (pcN := 9) jIXK_373_8 rfl rfl ?_
          refine jT_lcmp (a := e) (b := 0) (z := (-1)) (by rfl) (by rfl) (jwl_idd (by omega) (by omega)) (jwl_idd (by omega) (by omega)) (by rw [decide_eq_false (show ¬ ((0 : Int) < e) by omega), decide_eq_false (show ¬ ((e : Int) = 0) by omega)]; rfl) ?_
          refine jT_xifF (t := 27) (pcN := 13) jIXK_373_10 rfl (by decide +kernel) rfl rfl ?_
          refine jT_xlload (v := (1, q)) (pcN := 15) jIXK_373_13 rfl rfl rfl ?_
          refine jT_xlload_n (v := (1, 68719476736)) (pcN := 16) jIXK_373_15 rfl rfl rfl ?_
          refine jT_xlmul (x := q) (y := 68719476736) (z := 68719476736 * q) (pcN := 17) jIXK_373_16 rfl (by omega) rfl ?_
          refine jT_xlload_n (v := (1, x)) (pcN := 18) jIXK_373_17 rfl rfl rfl ?_
          refine jT_lcmp (a := 68719476736 * q) (b := x) (z := 0) (by rfl) (by rfl) (jwl_idd (by omega) (by omega)) (jwl_idd (by omega) (by omega)) (by rw [decide_eq_false (show ¬ ((x : Int) < 68719476736 * q) by omega), decide_eq_true (show (68719476736 * q : Int) = x by omega)]; rfl) ?_
          refine jT_xifT (pcN := 27) jIXK_373_19 rfl (by decide +kernel) rfl ?_
          refine jT_xlload (v := (1, q)) (pcN := 29) jIXK_373_27 rfl rfl rfl ?_
          exact jT_ret rfl (by decide) (by decide) (by omega) (by omega) ⟨rfl, by rw [show q = x / 68719476736 by omega], rfl⟩
theorem jT_fdJK2 {xs : List Int} {d : Nat} {x y : Int} (h_x : (-9223372036854775808) ≤ x ∧ x ≤ 9223372036854775807) (he : x / 68719476736 = y / 68719476736) : jT xs d 373 0 0 [(0, (1, x)), (2, (1, 68719476736))] [] [] 0 0 (fun k v hsN => k = 0 ∧ v = (1, y / 68719476736) ∧ hsN = [] ++ []) := by
  rw [← he]
  exact jT_fdJK h_x
theorem jdv_b {y : Int} (h1 : 1 ≤ y) (h2 : y ≤ 2000) : 4611686018427387 ≤ (9223372036854775807 : Int).tdiv y ∧ (9223372036854775807 : Int).tdiv y ≤ 9223372036854775807 := by
  refine ⟨?_, (jtd_b0 (by decide) h1).2⟩
  rw [Int.tdiv_eq_ediv_of_nonneg (by decide)]
  exact (Int.le_ediv_iff_mul_le (by omega)).mpr (by omega)
theorem jnrt_1 : ((List.range 1001).all fun p => decide (217835587392 * (p : Int) / 68719476736 = 217835587388 * (p : Int) / 68719476736)) = true := by decide +kernel
theorem jnr_1 {p : Int} (h : 1 ≤ p ∧ p ≤ 1000) : 217835587392 * p / 68719476736 = 217835587388 * p / 68719476736 := by
  have h2 := List.all_eq_true.mp jnrt_1 p.toNat (List.mem_range.mpr (by omega))
  have h3 := of_decide_eq_true h2
  rw [Int.toNat_of_nonneg (show 0 ≤ p by omega)] at h3
  exact h3
theorem jnrt_2 : ((List.range 1001).all fun p => decide (319123367400 * (p : Int) / 68719476736 = 319123367396 * (p : Int) / 68719476736)) = true := by decide +kernel
theorem jnr_2 {p : Int} (h : 1 ≤ p ∧ p ≤ 1000) : 319123367400 * p / 68719476736 = 319123367396 * p / 68719476736 := by
  have h2 := List.all_eq_true.mp jnrt_2 p.toNat (List.mem_range.mpr (by omega))
  have h3 := of_decide_eq_true h2
  rw [Int.toNat_of_nonneg (show 0 ≤ p by omega)] at h3
  exact h3
theorem jnrt_3 : ((List.range 1001).all fun p => decide (385839922514 * (p : Int) / 68719476736 = 385839922510 * (p : Int) / 68719476736)) = true := by decide +kernel
theorem jnr_3 {p : Int} (h : 1 ≤ p ∧ p ≤ 1000) : 385839922514 * p / 68719476736 = 385839922510 * p / 68719476736 := by
  have h2 := List.all_eq_true.mp jnrt_3 p.toNat (List.mem_range.mpr (by omega))
  have h3 := of_decide_eq_true h2
  rw [Int.toNat_of_nonneg (show 0 ≤ p by omega)] at h3
  exact h3
theorem jnrt_4 : ((List.range 1001).all fun p => decide (475460661274 * (p : Int) / 68719476736 = 475460661270 * (p : Int) / 68719476736)) = true := by decide +kernel
theorem jnr_4 {p : Int} (h : 1 ≤ p ∧ p ≤ 1000) : 475460661274 * p / 68719476736 = 475460661270 * p / 68719476736 := by
  have h2 := List.all_eq_true.mp jnrt_4 p.toNat (List.mem_range.mpr (by omega))
  have h3 := of_decide_eq_true h2
  rw [Int.toNat_of_nonneg (show 0 ≤ p by omega)] at h3
  exact h3
theorem jnrt_5 : ((List.range 1001).all fun p => decide (508584562248 * (p : Int) / 68719476736 = 508584562244 * (p : Int) / 68719476736)) = true := by decide +kernel
theorem jnr_5 {p : Int} (h : 1 ≤ p ∧ p ≤ 1000) : 508584562248 * p / 68719476736 = 508584562244 * p / 68719476736 := by
  have h2 := List.all_eq_true.mp jnrt_5 p.toNat (List.mem_range.mpr (by omega))
  have h3 := of_decide_eq_true h2
  rw [Int.toNat_of_nonneg (show 0 ≤ p by omega)] at h3
  exact h3
