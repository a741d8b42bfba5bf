/-! the JDK's floors, by told numbers -/
theorem jT_fdJ1 {xs : List Int} {d : Nat} {x : Int} (h_x : (-9223372036854775808) ≤ x ∧ x ≤ 9223372036854775807) : jT xs d 373 0 0 [(0, (1, x)), (2, (1, 1))] [] [] 0 0 (fun k v hsN => k = 0 ∧ v = (1, x / 1) ∧ hsN = [] ++ []) := by
  refine jT_adv 2 (pcN := 2) (LN := [(0, (1, x)), (2, (1, 1))]) (stN := [(1, 1), (1, x)]) (hsN := []) (c1 := 0) (s1 := 0) (c2 := 0) (s2 := 0) (by exact rfl) ?_ (by omega) (by omega)
  refine jT_ldiv (a := x) (b := 1) (by rfl) (by rfl) (jwl_idd (by omega) (by omega)) (jwl_idd (by omega) (by omega)) (by omega) ?_
  have hq := jtd_y (x := x) (y := 1)
  generalize x.tdiv 1 = q at hq ⊢
  refine jT_adv 3 (pcN := 7) (LN := [(4, (1, q)), (0, (1, x)), (2, (1, 1))]) (stN := [(1, 1), (1, x)]) (hsN := []) (c1 := 0) (s1 := 0) (c2 := 0) (s2 := 0) (by exact rfl) ?_ (by omega) (by omega)
  refine jT_adv 1 (pcN := 8) (LN := [(4, (1, q)), (0, (1, x)), (2, (1, 1))]) (stN := [(1, (Int64.ofInt x ^^^ Int64.ofInt 1).toInt)]) (hsN := []) (c1 := 0) (s1 := 0) (c2 := 0) (s2 := 0) (by exact rfl) ?_ (by omega) (by omega)
  have hx := jx64b x 1
  rw [jwl_idd (x := x) (by omega) (by omega), jwl_idd (x := 1) (by omega) (by omega)] at hx
  have hr1 : -9223372036854775808 ≤ (Int64.ofInt x ^^^ Int64.ofInt 1).toInt := Int64.le_toInt _
  have hr2 : (Int64.ofInt x ^^^ Int64.ofInt 1).toInt < 9223372036854775808 := Int64.toInt_lt _
  generalize (Int64.ofInt x ^^^ Int64.ofInt 1).toInt = e at hx hr1 hr2 ⊢
  by_cases hx0 : 0 ≤ x
  · rw [if_pos hx0] at hq
    have he : 0 ≤ e := by
      by_cases h : 0 ≤ e
      · exact h
      · exact absurd (show x < 0 by have := hx.mp (by omega); simp at this; omega) (by omega)
    by_cases c0 : 0 ≤ e - 1
    · refine jT_adv 1 (pcN := 9) (LN := [(4, (1, q)), (0, (1, x)), (2, (1, 1))]) (stN := [(1, 0), (1, e)]) (hsN := []) (c1 := 0) (s1 := 0) (c2 := 0) (s2 := 0) (by exact rfl) ?_ (by omega) (by omega)
      refine jT_lcmp (a := e) (b := 0) (z := 1) (by rfl) (by rfl) (jwl_idd (by omega) (by omega)) (jwl_idd (by omega) (by omega)) (by rw [decide_eq_true (show (0 : Int) < e by omega)]; rfl) ?_
      refine jT_adv 2 (pcN := 29) (LN := [(4, (1, q)), (0, (1, x)), (2, (1, 1))]) (stN := [(1, q)]) (hsN := []) (c1 := 0) (s1 := 0) (c2 := 0) (s2 := 0) (by exact rfl) ?_ (by omega) (by omega)
      exact jT_ret rfl (by decide) (by decide) (by omega) (by omega) ⟨rfl, by rw [show q = x / 1 by omega], rfl⟩
    · refine jT_adv 1 (pcN := 9) (LN := [(4, (1, q)), (0, (1, x)), (2, (1, 1))]) (stN := [(1, 0), (1, e)]) (hsN := []) (c1 := 0) (s1 := 0) (c2 := 0) (s2 := 0) (by exact rfl) ?_ (by omega) (by omega)
      refine jT_lcmp (a := e) (b := 0) (z := 0) (by rfl) (by rfl) (jwl_idd (by omega) (by omega)) (jwl_idd (by omega) (by omega)) (by rw [decide_eq_false (show ¬ ((0 : Int) < e) by omega), decide_eq_true (show (e : Int) = 0 by omega)]; rfl) ?_
      refine jT_adv 2 (pcN := 29) (LN := [(4, (1, q)), (0, (1, x)), (2, (1, 1))]) (stN := [(1, q)]) (hsN := []) (c1 := 0) (s1 := 0) (c2 := 0) (s2 := 0) (by exact rfl) ?_ (by omega) (by omega)
      exact jT_ret rfl (by decide) (by decide) (by omega) (by omega) ⟨rfl, by rw [show q = x / 1 by omega], rfl⟩
  · rw [if_neg hx0] at hq
    have he : e < 0 := hx.mpr (by simp; omega)
    by_cases c0 : 0 ≤ q - x - 1
    · refine jT_adv 1 (pcN := 9) (LN := [(4, (1, q)), (0, (1, x)), (2, (1, 1))]) (stN := [(1, 0), (1, e)]) (hsN := []) (c1 := 0) (s1 := 0) (c2 := 0) (s2 := 0) (by exact rfl) ?_ (by omega) (by omega)
      refine jT_lcmp (a := e) (b := 0) (z := (-1)) (by rfl) (by rfl) (jwl_idd (by omega) (by omega)) (jwl_idd (by omega) (by omega)) (by rw [decide_eq_false (show ¬ ((0 : Int) < e) by omega), decide_eq_false (show ¬ ((e : Int) = 0) by omega)]; rfl) ?_
      refine jT_adv 5 (pcN := 18) (LN := [(4, (1, q)), (0, (1, x)), (2, (1, 1))]) (stN := [(1, x), (1, q * 1)]) (hsN := []) (c1 := 0) (s1 := 0) (c2 := 0) (s2 := 0) (by exact rfl) ?_ (by omega) (by omega)
      refine jT_eq (LN := [(4, (1, q)), (0, (1, x)), (2, (1, 1))]) (stN := [(1, x), (1, q)]) (hsN := []) (rfl) (by simp only [List.cons.injEq, Prod.mk.injEq, and_true, true_and] <;> ((try unfold jw); (try unfold jwl); omega)) (rfl) ?_
      refine jT_lcmp (a := q) (b := x) (z := 1) (by rfl) (by rfl) (jwl_idd (by omega) (by omega)) (jwl_idd (by omega) (by omega)) (by rw [decide_eq_true (show (x : Int) < q by omega)]; rfl) ?_
      refine jT_adv 4 (pcN := 26) (LN := [(4, (1, q)), (0, (1, x)), (2, (1, 1))]) (stN := [(1, q - 1)]) (hsN := []) (c1 := 0) (s1 := 0) (c2 := 0) (s2 := 0) (by exact rfl) ?_ (by omega) (by omega)
      exact jT_ret rfl (by decide) (by decide) (by omega) (by omega) ⟨rfl, by rw [show q - 1 = x / 1 by omega], rfl⟩
    · by_cases c1 : q - x = 0
      · refine jT_adv 1 (pcN := 9) (LN := [(4, (1, q)), (0, (1, x)), (2, (1, 1))]) (stN := [(1, 0), (1, e)]) (hsN := []) (c1 := 0) (s1 := 0) (c2 := 0) (s2 := 0) (by exact rfl) ?_ (by omega) (by omega)
        refine jT_lcmp (a := e) (b := 0) (z := (-1)) (by rfl) (by rfl) (jwl_idd (by omega) (by omega)) (jwl_idd (by omega) (by omega)) (by rw [decide_eq_false (show ¬ ((0 : Int) < e) by omega), decide_eq_false (show ¬ ((e : Int) = 0) by omega)]; rfl) ?_
        refine jT_adv 5 (pcN := 18) (LN := [(4, (1, q)), (0, (1, x)), (2, (1, 1))]) (stN := [(1, x), (1, q * 1)]) (hsN := []) (c1 := 0) (s1 := 0) (c2 := 0) (s2 := 0) (by exact rfl) ?_ (by omega) (by omega)
        refine jT_eq (LN := [(4, (1, q)), (0, (1, x)), (2, (1, 1))]) (stN := [(1, x), (1, q)]) (hsN := []) (rfl) (by simp only [List.cons.injEq, Prod.mk.injEq, and_true, true_and] <;> ((try unfold jw); (try unfold jwl); omega)) (rfl) ?_
        refine jT_lcmp (a := q) (b := x) (z := 0) (by rfl) (by rfl) (jwl_idd (by omega) (by omega)) (jwl_idd (by omega) (by omega)) (by rw [decide_eq_false (show ¬ ((x : Int) < q) by omega), decide_eq_true (show (q : Int) = x by omega)]; rfl) ?_
        refine jT_adv 2 (pcN := 29) (LN := [(4, (1, q)), (0, (1, x)), (2, (1, 1))]) (stN := [(1, q)]) (hsN := []) (c1 := 0) (s1 := 0) (c2 := 0) (s2 := 0) (by exact rfl) ?_ (by omega) (by omega)
        exact jT_ret rfl (by decide) (by decide) (by omega) (by omega) ⟨rfl, by rw [show q = x / 1 by omega], rfl⟩
      · rcases (show q - x < 0 ∨ 0 < q - x by omega) with c51 | c51
        · refine jT_adv 1 (pcN := 9) (LN := [(4, (1, q)), (0, (1, x)), (2, (1, 1))]) (stN := [(1, 0), (1, e)]) (hsN := []) (c1 := 0) (s1 := 0) (c2 := 0) (s2 := 0) (by exact rfl) ?_ (by omega) (by omega)
          refine jT_lcmp (a := e) (b := 0) (z := (-1)) (by rfl) (by rfl) (jwl_idd (by omega) (by omega)) (jwl_idd (by omega) (by omega)) (by rw [decide_eq_false (show ¬ ((0 : Int) < e) by omega), decide_eq_false (show ¬ ((e : Int) = 0) by omega)]; rfl) ?_
          refine jT_adv 5 (pcN := 18) (LN := [(4, (1, q)), (0, (1, x)), (2, (1, 1))]) (stN := [(1, x), (1, q * 1)]) (hsN := []) (c1 := 0) (s1 := 0) (c2 := 0) (s2 := 0) (by exact rfl) ?_ (by omega) (by omega)
          refine jT_eq (LN := [(4, (1, q)), (0, (1, x)), (2, (1, 1))]) (stN := [(1, x), (1, q)]) (hsN := []) (rfl) (by simp only [List.cons.injEq, Prod.mk.injEq, and_true, true_and] <;> ((try unfold jw); (try unfold jwl); omega)) (rfl) ?_
          refine jT_lcmp (a := q) (b := x) (z := (-1)) (by rfl) (by rfl) (jwl_idd (by omega) (by omega)) (jwl_idd (by omega) (by omega)) (by rw [decide_eq_false (show ¬ ((x : Int) < q) by omega), decide_eq_false (show ¬ ((q : Int) = x) by omega)]; rfl) ?_
          refine jT_adv 4 (pcN := 26) (LN := [(4, (1, q)), (0, (1, x)), (2, (1, 1))]) (stN := [(1, q - 1)]) (hsN := []) (c1 := 0) (s1 := 0) (c2 := 0) (s2 := 0) (by exact rfl) ?_ (by omega) (by omega)
          exact jT_ret rfl (by decide) (by decide) (by omega) (by omega) ⟨rfl, by rw [show q - 1 = x / 1 by omega], rfl⟩
        · refine jT_adv 1 (pcN := 9) (LN := [(4, (1, q)), (0, (1, x)), (2, (1, 1))]) (stN := [(1, 0), (1, e)]) (hsN := []) (c1 := 0) (s1 := 0) (c2 := 0) (s2 := 0) (by exact rfl) ?_ (by omega) (by omega)
          refine jT_lcmp (a := e) (b := 0) (z := (-1)) (by rfl) (by rfl) (jwl_idd (by omega) (by omega)) (jwl_idd (by omega) (by omega)) (by rw [decide_eq_false (show ¬ ((0 : Int) < e) by omega), decide_eq_false (show ¬ ((e : Int) = 0) by omega)]; rfl) ?_
          refine jT_adv 5 (pcN := 18) (LN := [(4, (1, q)), (0, (1, x)), (2, (1, 1))]) (stN := [(1, x), (1, q * 1)]) (hsN := []) (c1 := 0) (s1 := 0) (c2 := 0) (s2 := 0) (by exact rfl) ?_ (by omega) (by omega)
          refine jT_eq (LN := [(4, (1, q)), (0, (1, x)), (2, (1, 1))]) (stN := [(1, x), (1, q)]) (hsN := []) (rfl) (by simp only [List.cons.injEq, Prod.mk.injEq, and_true, true_and] <;> ((try unfold jw); (try unfold jwl); omega)) (rfl) ?_
          refine jT_lcmp (a := q) (b := x) (z := 0) (by rfl) (by rfl) (jwl_idd (by omega) (by omega)) (jwl_idd (by omega) (by omega)) (by rw [decide_eq_false (show ¬ ((x : Int) < q) by omega), decide_eq_true (show (q : Int) = x by omega)]; rfl) ?_
          refine jT_adv 2 (pcN := 29) (LN := [(4, (1, q)), (0, (1, x)), (2, (1, 1))]) (stN := [(1, q)]) (hsN := []) (c1 := 0) (s1 := 0) (c2 := 0) (s2 := 0) (by exact rfl) ?_ (by omega) (by omega)
          exact jT_ret rfl (by decide) (by decide) (by omega) (by omega) ⟨rfl, by rw [show q = x / 1 by omega], rfl⟩
theorem jT_fdJ2 {xs : List Int} {d : Nat} {x : Int} (h_x : (-9223372036854775808) ≤ x ∧ x ≤ 9223372036854775807) : jT xs d 373 0 0 [(0, (1, x)), (2, (1, 2))] [] [] 0 0 (fun k v hsN => k = 0 ∧ v = (1, x / 2) ∧ hsN = [] ++ []) := by
  refine jT_adv 2 (pcN := 2) (LN := [(0, (1, x)), (2, (1, 2))]) (stN := [(1, 2), (1, x)]) (hsN := []) (c1 := 0) (s1 := 0) (c2 := 0) (s2 := 0) (by exact rfl) ?_ (by omega) (by omega)
  refine jT_ldiv (a := x) (b := 2) (by rfl) (by rfl) (jwl_idd (by omega) (by omega)) (jwl_idd (by omega) (by omega)) (by omega) ?_
  have hq := jtd_y (x := x) (y := 2)
  generalize x.tdiv 2 = q at hq ⊢
  refine jT_adv 3 (pcN := 7) (LN := [(4, (1, q)), (0, (1, x)), (2, (1, 2))]) (stN := [(1, 2), (1, x)]) (hsN := []) (c1 := 0) (s1 := 0) (c2 := 0) (s2 := 0) (by exact rfl) ?_ (by omega) (by omega)
  refine jT_adv 1 (pcN := 8) (LN := [(4, (1, q)), (0, (1, x)), (2, (1, 2))]) (stN := [(1, (Int64.ofInt x ^^^ Int64.ofInt 2).toInt)]) (hsN := []) (c1 := 0) (s1 := 0) (c2 := 0) (s2 := 0) (by exact rfl) ?_ (by omega) (by omega)
  have hx := jx64b x 2
  rw [jwl_idd (x := x) (by omega) (by omega), jwl_idd (x := 2) (by omega) (by omega)] at hx
  have hr1 : -9223372036854775808 ≤ (Int64.ofInt x ^^^ Int64.ofInt 2).toInt := Int64.le_toInt _
  have hr2 : (Int64.ofInt x ^^^ Int64.ofInt 2).toInt < 9223372036854775808 := Int64.toInt_lt _
  generalize (Int64.ofInt x ^^^ Int64.ofInt 2).toInt = e at hx hr1 hr2 ⊢
  by_cases hx0 : 0 ≤ x
  · rw [if_pos hx0] at hq
    have he : 0 ≤ e := by
      by_cases h : 0 ≤ e
      · exact h
      · exact absurd (show x < 0 by have := hx.mp (by omega); simp at this; omega) (by omega)
    by_cases c0 : 0 ≤ e - 1
    · refine jT_adv 1 (pcN := 9) (LN := [(4, (1, q)), (0, (1, x)), (2, (1, 2))]) (stN := [(1, 0), (1, e)]) (hsN := []) (c1 := 0) (s1 := 0) (c2 := 0) (s2 := 0) (by exact rfl) ?_ (by omega) (by omega)
      refine jT_lcmp (a := e) (b := 0) (z := 1) (by rfl) (by rfl) (jwl_idd (by omega) (by omega)) (jwl_idd (by omega) (by omega)) (by rw [decide_eq_true (show (0 : Int) < e by omega)]; rfl) ?_
      refine jT_adv 2 (pcN := 29) (LN := [(4, (1, q)), (0, (1, x)), (2, (1, 2))]) (stN := [(1, q)]) (hsN := []) (c1 := 0) (s1 := 0) (c2 := 0) (s2 := 0) (by exact rfl) ?_ (by omega) (by omega)
      exact jT_ret rfl (by decide) (by decide) (by omega) (by omega) ⟨rfl, by rw [show q = x / 2 by omega], rfl⟩
    · refine jT_adv 1 (pcN := 9) (LN := [(4, (1, q)), (0, (1, x)), (2, (1, 2))]) (stN := [(1, 0), (1, e)]) (hsN := []) (c1 := 0) (s1 := 0) (c2 := 0) (s2 := 0) (by exact rfl) ?_ (by omega) (by omega)
      refine jT_lcmp (a := e) (b := 0) (z := 0) (by rfl) (by rfl) (jwl_idd (by omega) (by omega)) (jwl_idd (by omega) (by omega)) (by rw [decide_eq_false (show ¬ ((0 : Int) < e) by omega), decide_eq_true (show (e : Int) = 0 by omega)]; rfl) ?_
      refine jT_adv 2 (pcN := 29) (LN := [(4, (1, q)), (0, (1, x)), (2, (1, 2))]) (stN := [(1, q)]) (hsN := []) (c1 := 0) (s1 := 0) (c2 := 0) (s2 := 0) (by exact rfl) ?_ (by omega) (by omega)
      exact jT_ret rfl (by decide) (by decide) (by omega) (by omega) ⟨rfl, by rw [show q = x / 2 by omega], rfl⟩
  · rw [if_neg hx0] at hq
    have he : e < 0 := hx.mpr (by simp; omega)
    by_cases c0 : 0 ≤ 2 * q - x - 1
    · refine jT_adv 1 (pcN := 9) (LN := [(4, (1, q)), (0, (1, x)), (2, (1, 2))]) (stN := [(1, 0), (1, e)]) (hsN := []) (c1 := 0) (s1 := 0) (c2 := 0) (s2 := 0) (by exact rfl) ?_ (by omega) (by omega)
      refine jT_lcmp (a := e) (b := 0) (z := (-1)) (by rfl) (by rfl) (jwl_idd (by omega) (by omega)) (jwl_idd (by omega) (by omega)) (by rw [decide_eq_false (show ¬ ((0 : Int) < e) by omega), decide_eq_false (show ¬ ((e : Int) = 0) by omega)]; rfl) ?_
      refine jT_adv 5 (pcN := 18) (LN := [(4, (1, q)), (0, (1, x)), (2, (1, 2))]) (stN := [(1, x), (1, q * 2)]) (hsN := []) (c1 := 0) (s1 := 0) (c2 := 0) (s2 := 0) (by exact rfl) ?_ (by omega) (by omega)
      refine jT_eq (LN := [(4, (1, q)), (0, (1, x)), (2, (1, 2))]) (stN := [(1, x), (1, 2 * q)]) (hsN := []) (rfl) (by simp only [List.cons.injEq, Prod.mk.injEq, and_true, true_and] <;> ((try unfold jw); (try unfold jwl); omega)) (rfl) ?_
      refine jT_lcmp (a := 2 * q) (b := x) (z := 1) (by rfl) (by rfl) (jwl_idd (by omega) (by omega)) (jwl_idd (by omega) (by omega)) (by rw [decide_eq_true (show (x : Int) < 2 * q by omega)]; rfl) ?_
      refine jT_adv 4 (pcN := 26) (LN := [(4, (1, q)), (0, (1, x)), (2, (1, 2))]) (stN := [(1, q - 1)]) (hsN := []) (c1 := 0) (s1 := 0) (c2 := 0) (s2 := 0) (by exact rfl) ?_ (by omega) (by omega)
      exact jT_ret rfl (by decide) (by decide) (by omega) (by omega) ⟨rfl, by rw [show q - 1 = x / 2 by omega], rfl⟩
    · by_cases c1 : 2 * q - x = 0
      · refine jT_adv 1 (pcN := 9) (LN := [(4, (1, q)), (0, (1, x)), (2, (1, 2))]) (stN := [(1, 0), (1, e)]) (hsN := []) (c1 := 0) (s1 := 0) (c2 := 0) (s2 := 0) (by exact rfl) ?_ (by omega) (by omega)
        refine jT_lcmp (a := e) (b := 0) (z := (-1)) (by rfl) (by rfl) (jwl_idd (by omega) (by omega)) (jwl_idd (by omega) (by omega)) (by rw [decide_eq_false (show ¬ ((0 : Int) < e) by omega), decide_eq_false (show ¬ ((e : Int) = 0) by omega)]; rfl) ?_
        refine jT_adv 5 (pcN := 18) (LN := [(4, (1, q)), (0, (1, x)), (2, (1, 2))]) (stN := [(1, x), (1, q * 2)]) (hsN := []) (c1 := 0) (s1 := 0) (c2 := 0) (s2 := 0) (by exact rfl) ?_ (by omega) (by omega)
        refine jT_eq (LN := [(4, (1, q)), (0, (1, x)), (2, (1, 2))]) (stN := [(1, x), (1, 2 * q)]) (hsN := []) (rfl) (by simp only [List.cons.injEq, Prod.mk.injEq, and_true, true_and] <;> ((try unfold jw); (try unfold jwl); omega)) (rfl) ?_
        refine jT_lcmp (a := 2 * q) (b := x) (z := 0) (by rfl) (by rfl) (jwl_idd (by omega) (by omega)) (jwl_idd (by omega) (by omega)) (by rw [decide_eq_false (show ¬ ((x : Int) < 2 * q) by omega), decide_eq_true (show (2 * q : Int) = x by omega)]; rfl) ?_
        refine jT_adv 2 (pcN := 29) (LN := [(4, (1, q)), (0, (1, x)), (2, (1, 2))]) (stN := [(1, q)]) (hsN := []) (c1 := 0) (s1 := 0) (c2 := 0) (s2 := 0) (by exact rfl) ?_ (by omega) (by omega)
        exact jT_ret rfl (by decide) (by decide) (by omega) (by omega) ⟨rfl, by rw [show q = x / 2 by omega], rfl⟩
      · rcases (show 2 * q - x < 0 ∨ 0 < 2 * q - x by omega) with c51 | c51
        · refine jT_adv 1 (pcN := 9) (LN := [(4, (1, q)), (0, (1, x)), (2, (1, 2))]) (stN := [(1, 0), (1, e)]) (hsN := []) (c1 := 0) (s1 := 0) (c2 := 0) (s2 := 0) (by exact rfl) ?_ (by omega) (by omega)
          refine jT_lcmp (a := e) (b := 0) (z := (-1)) (by rfl) (by rfl) (jwl_idd (by omega) (by omega)) (jwl_idd (by omega) (by omega)) (by rw [decide_eq_false (show ¬ ((0 : Int) < e) by omega), decide_eq_false (show ¬ ((e : Int) = 0) by omega)]; rfl) ?_
          refine jT_adv 5 (pcN := 18) (LN := [(4, (1, q)), (0, (1, x)), (2, (1, 2))]) (stN := [(1, x), (1, q * 2)]) (hsN := []) (c1 := 0) (s1 := 0) (c2 := 0) (s2 := 0) (by exact rfl) ?_ (by omega) (by omega)
          refine jT_eq (LN := [(4, (1, q)), (0, (1, x)), (2, (1, 2))]) (stN := [(1, x), (1, 2 * q)]) (hsN := []) (rfl) (by simp only [List.cons.injEq, Prod.mk.injEq, and_true, true_and] <;> ((try unfold jw); (try unfold jwl); omega)) (rfl) ?_
          refine jT_lcmp (a := 2 * q) (b := x) (z := (-1)) (by rfl) (by rfl) (jwl_idd (by omega) (by omega)) (jwl_idd (by omega) (by omega)) (by rw [decide_eq_false (show ¬ ((x : Int) < 2 * q) by omega), decide_eq_false (show ¬ ((2 * q : Int) = x) by omega)]; rfl) ?_
          refine jT_adv 4 (pcN := 26) (LN := [(4, (1, q)), (0, (1, x)), (2, (1, 2))]) (stN := [(1, q - 1)]) (hsN := []) (c1 := 0) (s1 := 0) (c2 := 0) (s2 := 0) (by exact rfl) ?_ (by omega) (by omega)
          exact jT_ret rfl (by decide) (by decide) (by omega) (by omega) ⟨rfl, by rw [show q - 1 = x / 2 by omega], rfl⟩
        · refine jT_adv 1 (pcN := 9) (LN := [(4, (1, q)), (0, (1, x)), (2, (1, 2))]) (stN := [(1, 0), (1, e)]) (hsN := []) (c1 := 0) (s1 := 0) (c2 := 0) (s2 := 0) (by exact rfl) ?_ (by omega) (by omega)
          refine jT_lcmp (a := e) (b := 0) (z := (-1)) (by rfl) (by rfl) (jwl_idd (by omega) (by omega)) (jwl_idd (by omega) (by omega)) (by rw [decide_eq_false (show ¬ ((0 : Int) < e) by omega), decide_eq_false (show ¬ ((e : Int) = 0) by omega)]; rfl) ?_
          refine jT_adv 5 (pcN := 18) (LN := [(4, (1, q)), (0, (1, x)), (2, (1, 2))]) (stN := [(1, x), (1, q * 2)]) (hsN := []) (c1 := 0) (s1 := 0) (c2 := 0) (s2 := 0) (by exact rfl) ?_ (by omega) (by omega)
          refine jT_eq (LN := [(4, (1, q)), (0, (1, x)), (2, (1, 2))]) (stN := [(1, x), (1, 2 * q)]) (hsN := []) (rfl) (by simp only [List.cons.injEq, Prod.mk.injEq, and_true, true_and] <;> ((try unfold jw); (try unfold jwl); omega)) (rfl) ?_
          refine jT_lcmp (a := 2 * q) (b := x) (z := 0) (by rfl) (by rfl) (jwl_idd (by omega) (by omega)) (jwl_idd (by omega) (by omega)) (by rw [decide_eq_false (show ¬ ((x : Int) < 2 * q) by omega), decide_eq_true (show (2 * q : Int) = x by omega)]; rfl) ?_
          refine jT_adv 2 (pcN := 29) (LN := [(4, (1, q)), (0, (1, x)), (2, (1, 2))]) (stN := [(1, q)]) (hsN := []) (c1 := 0) (s1 := 0) (c2 := 0) (s2 := 0) (by exact rfl) ?_ (by omega) (by omega)
          exact jT_ret rfl (by decide) (by decide) (by omega) (by omega) ⟨rfl, by rw [show q = x / 2 by omega], rfl⟩
theorem jT_fmI1 {xs : List Int} {d : Nat} {x : Int} (h_x : (-2147483648) ≤ x ∧ x ≤ 2147483647) : jT xs d 375 0 0 [(0, (0, x)), (1, (0, 1))] [] [] 0 0 (fun k v hsN => k = 0 ∧ v = (0, x % 1) ∧ hsN = [] ++ []) := by
  refine jT_adv 2 (pcN := 2) (LN := [(0, (0, x)), (1, (0, 1))]) (stN := [(0, 1), (0, x)]) (hsN := []) (c1 := 0) (s1 := 0) (c2 := 0) (s2 := 0) (by exact rfl) ?_ (by omega) (by omega)
  refine jT_irem (a := x) (b := 1) (by rfl) (by rfl) (jw_idd (by omega) (by omega)) (jw_idd (by omega) (by omega)) (by omega) ?_
  have hq := jtm_y (x := x) (y := 1)
  generalize x.tmod 1 = q at hq ⊢
  refine jT_adv 3 (pcN := 6) (LN := [(2, (0, q)), (0, (0, x)), (1, (0, 1))]) (stN := [(0, 1), (0, x)]) (hsN := []) (c1 := 0) (s1 := 0) (c2 := 0) (s2 := 0) (by exact rfl) ?_ (by omega) (by omega)
  refine jT_eq (LN := [(2, (0, 0)), (0, (0, x)), (1, (0, 1))]) (stN := [(0, 1), (0, x)]) (hsN := []) (by simp only [List.cons.injEq, Prod.mk.injEq, and_true, true_and] <;> ((try unfold jw); (try unfold jwl); omega)) (rfl) (rfl) ?_
  refine jT_adv 1 (pcN := 7) (LN := [(2, (0, 0)), (0, (0, x)), (1, (0, 1))]) (stN := [(0, (Int32.ofInt x ^^^ Int32.ofInt 1).toInt)]) (hsN := []) (c1 := 0) (s1 := 0) (c2 := 0) (s2 := 0) (by exact rfl) ?_ (by omega) (by omega)
  have hx := jx32b x 1
  rw [jw_idd (x := x) (by omega) (by omega), jw_idd (x := 1) (by omega) (by omega)] at hx
  have hr1 : -2147483648 ≤ (Int32.ofInt x ^^^ Int32.ofInt 1).toInt := Int32.le_toInt _
  have hr2 : (Int32.ofInt x ^^^ Int32.ofInt 1).toInt < 2147483648 := Int32.toInt_lt _
  generalize (Int32.ofInt x ^^^ Int32.ofInt 1).toInt = e at hx hr1 hr2 ⊢
  by_cases hx0 : 0 ≤ x
  · rw [if_pos hx0] at hq
    have he : 0 ≤ e := by
      by_cases h : 0 ≤ e
      · exact h
      · exact absurd (show x < 0 by have := hx.mp (by omega); simp at this; omega) (by omega)
    refine jT_ifT (a := e) (t := 18) (by rfl) (by rfl) (by rfl) (jw_idd (by omega) (by omega)) (by simp only [jcP] <;> omega) ?_
    refine jT_adv 1 (pcN := 19) (LN := [(2, (0, 0)), (0, (0, x)), (1, (0, 1))]) (stN := [(0, 0)]) (hsN := []) (c1 := 0) (s1 := 0) (c2 := 0) (s2 := 0) (by exact rfl) ?_ (by omega) (by omega)
    exact jT_ret rfl (by decide) (by decide) (by omega) (by omega) ⟨rfl, by rw [show 0 = x % 1 by omega], rfl⟩
  · rw [if_neg hx0] at hq
    have he : e < 0 := hx.mpr (by simp; omega)
    refine jT_ifF (a := e) (t := 18) (by rfl) (by rfl) (by rfl) (jw_idd (by omega) (by omega)) (by simp only [jcP] <;> omega) ?_
    refine jT_adv 3 (pcN := 19) (LN := [(2, (0, 0)), (0, (0, x)), (1, (0, 1))]) (stN := [(0, 0)]) (hsN := []) (c1 := 0) (s1 := 0) (c2 := 0) (s2 := 0) (by exact rfl) ?_ (by omega) (by omega)
    exact jT_ret rfl (by decide) (by decide) (by omega) (by omega) ⟨rfl, by rw [show 0 = x % 1 by omega], rfl⟩
theorem jT_fdI1 {xs : List Int} {d : Nat} {x : Int} (h_x : (-2147483648) ≤ x ∧ x ≤ 2147483647) : jT xs d 376 0 0 [(0, (0, x)), (1, (0, 1))] [] [] 0 0 (fun k v hsN => k = 0 ∧ v = (0, x / 1) ∧ hsN = [] ++ []) := by
  refine jT_adv 2 (pcN := 2) (LN := [(0, (0, x)), (1, (0, 1))]) (stN := [(0, 1), (0, x)]) (hsN := []) (c1 := 0) (s1 := 0) (c2 := 0) (s2 := 0) (by exact rfl) ?_ (by omega) (by omega)
  refine jT_idiv (a := x) (b := 1) (by rfl) (by rfl) (jw_idd (by omega) (by omega)) (jw_idd (by omega) (by omega)) (by omega) ?_
  have hq := jtd_y (x := x) (y := 1)
  generalize x.tdiv 1 = q at hq ⊢
  refine jT_adv 3 (pcN := 6) (LN := [(2, (0, q)), (0, (0, x)), (1, (0, 1))]) (stN := [(0, 1), (0, x)]) (hsN := []) (c1 := 0) (s1 := 0) (c2 := 0) (s2 := 0) (by exact rfl) ?_ (by omega) (by omega)
  refine jT_adv 1 (pcN := 7) (LN := [(2, (0, q)), (0, (0, x)), (1, (0, 1))]) (stN := [(0, (Int32.ofInt x ^^^ Int32.ofInt 1).toInt)]) (hsN := []) (c1 := 0) (s1 := 0) (c2 := 0) (s2 := 0) (by exact rfl) ?_ (by omega) (by omega)
  have hx := jx32b x 1
  rw [jw_idd (x := x) (by omega) (by omega), jw_idd (x := 1) (by omega) (by omega)] at hx
  have hr1 : -2147483648 ≤ (Int32.ofInt x ^^^ Int32.ofInt 1).toInt := Int32.le_toInt _
  have hr2 : (Int32.ofInt x ^^^ Int32.ofInt 1).toInt < 2147483648 := Int32.toInt_lt _
  generalize (Int32.ofInt x ^^^ Int32.ofInt 1).toInt = e at hx hr1 hr2 ⊢
  by_cases hx0 : 0 ≤ x
  · rw [if_pos hx0] at hq
    have he : 0 ≤ e := by
      by_cases h : 0 ≤ e
      · exact h
      · exact absurd (show x < 0 by have := hx.mp (by omega); simp at this; omega) (by omega)
    refine jT_ifT (a := e) (t := 21) (by rfl) (by rfl) (by rfl) (jw_idd (by omega) (by omega)) (by simp only [jcP] <;> omega) ?_
    refine jT_adv 1 (pcN := 22) (LN := [(2, (0, q)), (0, (0, x)), (1, (0, 1))]) (stN := [(0, q)]) (hsN := []) (c1 := 0) (s1 := 0) (c2 := 0) (s2 := 0) (by exact rfl) ?_ (by omega) (by omega)
    exact jT_ret rfl (by decide) (by decide) (by omega) (by omega) ⟨rfl, by rw [show q = x / 1 by omega], rfl⟩
  · rw [if_neg hx0] at hq
    have he : e < 0 := hx.mpr (by simp; omega)
    by_cases c0 : q - x = 0
    · refine jT_ifF (a := e) (t := 21) (by rfl) (by rfl) (by rfl) (jw_idd (by omega) (by omega)) (by simp only [jcP] <;> omega) ?_
      refine jT_adv 4 (pcN := 14) (LN := [(2, (0, q)), (0, (0, x)), (1, (0, 1))]) (stN := [(0, x), (0, q * 1)]) (hsN := []) (c1 := 0) (s1 := 0) (c2 := 0) (s2 := 0) (by exact rfl) ?_ (by omega) (by omega)
      refine jT_eq (LN := [(2, (0, q)), (0, (0, x)), (1, (0, 1))]) (stN := [(0, x), (0, q)]) (hsN := []) (rfl) (by simp only [List.cons.injEq, Prod.mk.injEq, and_true, true_and] <;> ((try unfold jw); (try unfold jwl); omega)) (rfl) ?_
      refine jT_icT (a := q) (b := x) (t := 21) (by rfl) (by rfl) (by rfl) (jw_idd (by omega) (by omega)) (jw_idd (by omega) (by omega)) (by simp only [jcP] <;> omega) ?_
      refine jT_adv 1 (pcN := 22) (LN := [(2, (0, q)), (0, (0, x)), (1, (0, 1))]) (stN := [(0, q)]) (hsN := []) (c1 := 0) (s1 := 0) (c2 := 0) (s2 := 0) (by exact rfl) ?_ (by omega) (by omega)
      exact jT_ret rfl (by decide) (by decide) (by omega) (by omega) ⟨rfl, by rw [show q = x / 1 by omega], rfl⟩
    · rcases (show q - x < 0 ∨ 0 < q - x by omega) with c50 | c50
      · refine jT_ifF (a := e) (t := 21) (by rfl) (by rfl) (by rfl) (jw_idd (by omega) (by omega)) (by simp only [jcP] <;> omega) ?_
        refine jT_adv 4 (pcN := 14) (LN := [(2, (0, q)), (0, (0, x)), (1, (0, 1))]) (stN := [(0, x), (0, q * 1)]) (hsN := []) (c1 := 0) (s1 := 0) (c2 := 0) (s2 := 0) (by exact rfl) ?_ (by omega) (by omega)
        refine jT_eq (LN := [(2, (0, q)), (0, (0, x)), (1, (0, 1))]) (stN := [(0, x), (0, q)]) (hsN := []) (rfl) (by simp only [List.cons.injEq, Prod.mk.injEq, and_true, true_and] <;> ((try unfold jw); (try unfold jwl); omega)) (rfl) ?_
        refine jT_icF (a := q) (b := x) (t := 21) (by rfl) (by rfl) (by rfl) (jw_idd (by omega) (by omega)) (jw_idd (by omega) (by omega)) (by simp only [jcP] <;> omega) ?_
        refine jT_adv 3 (pcN := 20) (LN := [(2, (0, q)), (0, (0, x)), (1, (0, 1))]) (stN := [(0, q - 1)]) (hsN := []) (c1 := 0) (s1 := 0) (c2 := 0) (s2 := 0) (by exact rfl) ?_ (by omega) (by omega)
        exact jT_ret rfl (by decide) (by decide) (by omega) (by omega) ⟨rfl, by rw [show q - 1 = x / 1 by omega], rfl⟩
      · refine jT_ifF (a := e) (t := 21) (by rfl) (by rfl) (by rfl) (jw_idd (by omega) (by omega)) (by simp only [jcP] <;> omega) ?_
        refine jT_adv 4 (pcN := 14) (LN := [(2, (0, q)), (0, (0, x)), (1, (0, 1))]) (stN := [(0, x), (0, q * 1)]) (hsN := []) (c1 := 0) (s1 := 0) (c2 := 0) (s2 := 0) (by exact rfl) ?_ (by omega) (by omega)
        refine jT_eq (LN := [(2, (0, q)), (0, (0, x)), (1, (0, 1))]) (stN := [(0, x), (0, q)]) (hsN := []) (rfl) (by simp only [List.cons.injEq, Prod.mk.injEq, and_true, true_and] <;> ((try unfold jw); (try unfold jwl); omega)) (rfl) ?_
        refine jT_icF (a := q) (b := x) (t := 21) (by rfl) (by rfl) (by rfl) (jw_idd (by omega) (by omega)) (jw_idd (by omega) (by omega)) (by simp only [jcP] <;> omega) ?_
        refine jT_adv 3 (pcN := 20) (LN := [(2, (0, q)), (0, (0, x)), (1, (0, 1))]) (stN := [(0, q - 1)]) (hsN := []) (c1 := 0) (s1 := 0) (c2 := 0) (s2 := 0) (by exact rfl) ?_ (by omega) (by omega)
        exact jT_ret rfl (by decide) (by decide) (by omega) (by omega) ⟨rfl, by rw [show q - 1 = x / 1 by omega], rfl⟩
