/-! the law, case by case: 45 -/
theorem jYl_ln_65_1 {xs : List Int} {d : Nat} {n : Int} (h_n : 3 ≤ n ∧ n ≤ 1000000000) : jT xs (d + 4) 311 22 7 [(3, (4, 16)), (2, (0, 2)), (0, (4, 0)), (1, (0, n))] [] [jzY_19, jgh, jgh, jgh, jgh, jgh, (130, [], [16, 17, 18, 19, 20, 21]), (101, [], [0, 0, 0, 0, 0, 0]), jgh, jgh, jgh, jgh, jgh, jgh, jgh, jgh, (100, [], (jenc (jlg 0))), (100, [], (jenc (jlg 1))), (100, [], (jenc (jlg 2))), (100, [], (jenc (jlg 3))), (100, [], (jenc (jlg 4))), (100, [], (jenc (jlg 5)))] 1731 96936 (fun k v hsN => k = 0 ∧ v = (4, 22) ∧ hsN = [jzY_19, jgh, jgh, jgh, jgh, jgh, (130, [], [16, 17, 18, 19, 20, 21]), (101, [], [0, 0, 0, 0, 0, 0]), jgh, jgh, jgh, jgh, jgh, jgh, jgh, jgh, (100, [], (jenc (jlg 0))), (100, [], (jenc (jlg 1))), (100, [], (jenc (jlg 2))), (100, [], (jenc (jlg 3))), (100, [], (jenc (jlg 4))), (100, [], (jenc (jlg 5)))] ++ [(100, [], jenc (jln n))]) := by
  rcases (show (0 ≤ -n + 3) ∨ (-n + 3 < 0) by omega) with g_0 | g_0
  · refine jT_adv 1 (pcN := 10) (LN := [(3, (4, 16)), (2, (0, 2)), (0, (4, 0)), (1, (0, n))]) (stN := [(1, 2)]) (hsN := jpY_271) (c1 := 0) (s1 := 0) (c2 := 1731) (s2 := 96936) (by exact rfl) ?_ (by omega) (by omega)
    refine jT_xiload_n (v := (0, 2)) (pcN := 11) jIY_311_10 rfl rfl rfl ?_
    refine jT_xi2l (x := 2) (z := 2) (pcN := 12) jIY_311_11 rfl (by decide +kernel) rfl ?_
    refine jT_xlmul (x := 2) (y := 2) (z := 4) (pcN := 13) jIY_311_12 rfl (by decide) rfl ?_
    refine jT_xiload_n (v := (0, n)) (pcN := 14) jIY_311_13 rfl rfl rfl ?_
    refine jT_xi2l (x := n) (z := n) (pcN := 15) jIY_311_14 rfl (jw_idd (by omega) (by omega)) rfl ?_
    refine jT_lcmp (a := 4) (b := n) (z := 1) (by rfl) (by rfl) (jwl_idd (by omega) (by omega)) (jwl_idd (by omega) (by omega)) (by rw [decide_eq_true (show (n : Int) < 4 by omega)]; rfl) ?_
    refine jT_xifT (pcN := 37) jIY_311_16 rfl (by decide +kernel) rfl ?_
    refine jT_xiload_n (v := (0, n)) (pcN := 38) jIY_311_37 rfl rfl rfl ?_
    refine jT_xiload_n (v := (0, 2)) (pcN := 39) jIY_311_38 rfl rfl rfl ?_
    refine jT_icT (a := n) (b := 2) (t := 46) (by rfl) (by rfl) (by rfl) (jw_idd (by omega) (by omega)) (jw_idd (by omega) (by omega)) (by simp only [jcP] <;> omega) ?_
    refine jT_xaload_n (v := (4, 16)) (pcN := 47) jIY_311_46 rfl rfl rfl ?_
    refine jT_xiload_n (v := (0, n)) (pcN := 48) jIY_311_47 rfl rfl rfl ?_
    refine jT_xiload_n (v := (0, 2)) (pcN := 49) jIY_311_48 rfl rfl rfl ?_
    refine jT_xisub (x := n) (y := 2) (z := n - 2) (pcN := 50) jIY_311_49 rfl (rfl) rfl ?_
    refine jT_xiload_n (v := (0, n)) (pcN := 51) jIY_311_50 rfl rfl rfl ?_
    refine jT_xiload_n (v := (0, 2)) (pcN := 52) jIY_311_51 rfl rfl rfl ?_
    refine jT_xiadd (x := n) (y := 2) (z := n + 2) (pcN := 53) jIY_311_52 rfl (rfl) rfl ?_
    refine jT_fA [] 22 (y := 176) (pcN := 56) (dC := 2) (bc1 := 1700) (bc2 := 95200) (c1 := 31) (c2 := 1736) (as := [(0, n - 2), (0, n + 2)]) (asC := [(0, n - 2), (0, n + 2)]) (LN := [(3, (4, 16)), (2, (0, 2)), (0, (4, 0)), (1, (0, n))]) (stN := [(4, 16)]) (hsC := []) (ex := [(100, [], (jenc ((jat (n - 2).toNat (n + 2).toNat : Nat) : Int)))]) (v := (4, 0)) (st2 := [(4, 22), (4, 16)]) (hs2 := [jzY_19, jgh, jgh, jgh, jgh, jgh, (130, [], [16, 17, 18, 19, 20, 21]), (101, [], [0, 0, 0, 0, 0, 0]), jgh, jgh, jgh, jgh, jgh, jgh, jgh, jgh, (100, [], (jenc (jlg 0))), (100, [], (jenc (jlg 1))), (100, [], (jenc (jlg 2))), (100, [], (jenc (jlg 3))), (100, [], (jenc (jlg 4))), (100, [], (jenc (jlg 5))), (100, [], (jenc ((jat (n - 2).toNat (n + 2).toNat : Nat) : Int)))]) (jT_atI (d := 0) (a := n - 2) (b := n + 2) (by omega) (by omega) (by omega)) (by rfl) (by rfl) (by decide +kernel) (by rfl) (by rfl) (by omega) (by omega) (by omega) (by omega) rfl rfl ?_
    refine jT_callA [22] (y := 183) (pcN := 59) (dC := 2) (bc1 := 1) (bc2 := 56) (c1 := 30) (c2 := 1680) (as := [(4, 22)]) (asC := [(4, 0)]) (LN := [(3, (4, 16)), (2, (0, 2)), (0, (4, 0)), (1, (0, n))]) (stN := [(4, 16)]) (hsC := [(100, [], (jenc ((jat (n - 2).toNat (n + 2).toNat : Nat) : Int)))]) (ex := [(100, [], (jenc (((jat (n - 2).toNat (n + 2).toNat : Nat) : Int) + ((jat (n - 2).toNat (n + 2).toNat : Nat) : Int))))]) (v := (4, 1)) (st2 := [(4, 23), (4, 16)]) (hs2 := [jzY_19, jgh, jgh, jgh, jgh, jgh, (130, [], [16, 17, 18, 19, 20, 21]), (101, [], [0, 0, 0, 0, 0, 0]), jgh, jgh, jgh, jgh, jgh, jgh, jgh, jgh, (100, [], (jenc (jlg 0))), (100, [], (jenc (jlg 1))), (100, [], (jenc (jlg 2))), (100, [], (jenc (jlg 3))), (100, [], (jenc (jlg 4))), (100, [], (jenc (jlg 5))), (100, [], (jenc ((jat (n - 2).toNat (n + 2).toNat : Nat) : Int))), (100, [], (jenc (((jat (n - 2).toNat (n + 2).toNat : Nat) : Int) + ((jat (n - 2).toNat (n + 2).toNat : Nat) : Int))))]) (jT_doubled (d := 0) (a := ((jat (n - 2).toNat (n + 2).toNat : Nat) : Int)) (jya (a := (n - 2).toNat) (b := (n + 2).toNat) (by omega) (by omega) (by omega)).1 (jy54 (Nat.lt_of_lt_of_le (jya (a := (n - 2).toNat) (b := (n + 2).toNat) (by omega) (by omega) (by omega)).2.2.1 (by decide))) (jy54 (Nat.lt_of_lt_of_le (jya (a := (n - 2).toNat) (b := (n + 2).toNat) (by omega) (by omega) (by omega)).2.2.2 (by decide)))) (by rfl) (by rfl) (by rfl) (by rfl) ⟨rfl, trivial⟩ (by rfl) (by rfl) (by omega) (by show 22 ≤ 23; omega) (by omega) (by omega) rfl rfl ?_
    refine jT_callA [16, 23] (y := 181) (pcN := 62) (dC := 1) (bc1 := 1) (bc2 := 56) (c1 := 29) (c2 := 1624) (as := [(4, 16), (4, 23)]) (asC := [(4, 0), (4, 1)]) (LN := [(3, (4, 16)), (2, (0, 2)), (0, (4, 0)), (1, (0, n))]) (stN := []) (hsC := [(100, [], (jenc (jlg 0))), (100, [], (jenc (((jat (n - 2).toNat (n + 2).toNat : Nat) : Int) + ((jat (n - 2).toNat (n + 2).toNat : Nat) : Int))))]) (ex := [(100, [], (jenc ((jlg 0) + (((jat (n - 2).toNat (n + 2).toNat : Nat) : Int) + ((jat (n - 2).toNat (n + 2).toNat : Nat) : Int)))))]) (v := (4, 2)) (st2 := [(4, 24)]) (hs2 := [jzY_19, jgh, jgh, jgh, jgh, jgh, (130, [], [16, 17, 18, 19, 20, 21]), (101, [], [0, 0, 0, 0, 0, 0]), jgh, jgh, jgh, jgh, jgh, jgh, jgh, jgh, (100, [], (jenc (jlg 0))), (100, [], (jenc (jlg 1))), (100, [], (jenc (jlg 2))), (100, [], (jenc (jlg 3))), (100, [], (jenc (jlg 4))), (100, [], (jenc (jlg 5))), (100, [], (jenc ((jat (n - 2).toNat (n + 2).toNat : Nat) : Int))), (100, [], (jenc (((jat (n - 2).toNat (n + 2).toNat : Nat) : Int) + ((jat (n - 2).toNat (n + 2).toNat : Nat) : Int)))), (100, [], (jenc ((jlg 0) + (((jat (n - 2).toNat (n + 2).toNat : Nat) : Int) + ((jat (n - 2).toNat (n + 2).toNat : Nat) : Int)))))]) (jT_added (d := 0) (a := jlg 0) (b := ((jat (n - 2).toNat (n + 2).toNat : Nat) : Int) + ((jat (n - 2).toNat (n + 2).toNat : Nat) : Int)) jyl0.1 (jya (a := (n - 2).toNat) (b := (n + 2).toNat) (by omega) (by omega) (by omega)).2.1 jyl0.2 (jy54 (Nat.lt_of_lt_of_le (jya (a := (n - 2).toNat) (b := (n + 2).toNat) (by omega) (by omega) (by omega)).2.2.2 (by decide))) (jykd (jya (a := (n - 2).toNat) (b := (n + 2).toNat) (by omega) (by omega) (by omega)).2.2.2)) (by rfl) (by rfl) (by rfl) (by rfl) ⟨rfl, rfl, trivial⟩ (by rfl) (by rfl) (by omega) (by show 22 ≤ 24; omega) (by omega) (by omega) rfl rfl ?_
    refine jT_loc (LN := [(0, (4, 0))]) (by show List.Nodup [0]; decide) (by intro q hq; simp only [List.mem_cons, List.not_mem_nil, or_false] at hq; rcases hq with rfl <;> rfl) ?_
    refine jT_eq (LN := [(0, (4, 0))]) (stN := [(4, 24)]) (hsN := [jzY_19, jgh, jgh, jgh, jgh, jgh, (130, [], [16, 17, 18, 19, 20, 21]), (101, [], [0, 0, 0, 0, 0, 0]), jgh, jgh, jgh, jgh, jgh, jgh, jgh, jgh, (100, [], (jenc (jlg 0))), (100, [], (jenc (jlg 1))), (100, [], (jenc (jlg 2))), (100, [], (jenc (jlg 3))), (100, [], (jenc (jlg 4))), (100, [], (jenc (jlg 5))), (100, [], (jenc ((jat (n - 2).toNat (n + 2).toNat : Nat) : Int))), (100, [], (jenc (((jat (n - 2).toNat (n + 2).toNat : Nat) : Int) + ((jat (n - 2).toNat (n + 2).toNat : Nat) : Int)))), (100, [], (jenc (jln n)))]) rfl rfl (by show [jzY_19, jgh, jgh, jgh, jgh, jgh, (130, [], [16, 17, 18, 19, 20, 21]), (101, [], [0, 0, 0, 0, 0, 0]), jgh, jgh, jgh, jgh, jgh, jgh, jgh, jgh, (100, [], (jenc (jlg 0))), (100, [], (jenc (jlg 1))), (100, [], (jenc (jlg 2))), (100, [], (jenc (jlg 3))), (100, [], (jenc (jlg 4))), (100, [], (jenc (jlg 5))), (100, [], (jenc ((jat (n - 2).toNat (n + 2).toNat : Nat) : Int))), (100, [], (jenc (((jat (n - 2).toNat (n + 2).toNat : Nat) : Int) + ((jat (n - 2).toNat (n + 2).toNat : Nat) : Int)))), (100, [], (jenc ((jlg 0) + (((jat (n - 2).toNat (n + 2).toNat : Nat) : Int) + ((jat (n - 2).toNat (n + 2).toNat : Nat) : Int)))))] = _; rw [show (jlg 0) + (((jat (n - 2).toNat (n + 2).toNat : Nat) : Int) + ((jat (n - 2).toNat (n + 2).toNat : Nat) : Int)) = jln n from (jln_k1 (by omega) (by omega)).symm]) ?_
    refine jT_gc [0, 1, 2, 3, 4, 5, 6, 7, 8, 9, 10, 11, 12, 13, 14, 15, 16, 17, 18, 19, 20, 21, 24] (hs0 := [jzY_19, jgh, jgh, jgh, jgh, jgh, (130, [], [16, 17, 18, 19, 20, 21]), (101, [], [0, 0, 0, 0, 0, 0]), jgh, jgh, jgh, jgh, jgh, jgh, jgh, jgh, (100, [], (jenc (jlg 0))), (100, [], (jenc (jlg 1))), (100, [], (jenc (jlg 2))), (100, [], (jenc (jlg 3))), (100, [], (jenc (jlg 4))), (100, [], (jenc (jlg 5))), (100, [], (jenc (jln n)))]) (L0 := [(0, (4, 0))]) (st0 := [(4, 22)]) (by show jgB [0, 1, 2, 3, 4, 5, 6, 7, 8, 9, 10, 11, 12, 13, 14, 15, 16, 17, 18, 19, 20, 21, 24] 25 = true; decide +kernel) rfl ⟨rfl, rfl, rfl, rfl, rfl, rfl, rfl, rfl, rfl, rfl, rfl, rfl, rfl, rfl, rfl, rfl, rfl, rfl, rfl, rfl, rfl, rfl, rfl, trivial⟩ rfl rfl (by decide +kernel) ?_
    exact jT_ret rfl (by decide) (by show 22 ≤ 23; decide) (by omega) (by omega) ⟨rfl, rfl, rfl⟩
  · rcases (show (0 ≤ -n + 4) ∨ (-n + 4 < 0) by omega) with g_1 | g_1
    · refine jT_adv 1 (pcN := 10) (LN := [(3, (4, 16)), (2, (0, 2)), (0, (4, 0)), (1, (0, n))]) (stN := [(1, 2)]) (hsN := jpY_271) (c1 := 0) (s1 := 0) (c2 := 1731) (s2 := 96936) (by exact rfl) ?_ (by omega) (by omega)
      refine jT_xiload_n (v := (0, 2)) (pcN := 11) jIY_311_10 rfl rfl rfl ?_
      refine jT_xi2l (x := 2) (z := 2) (pcN := 12) jIY_311_11 rfl (by decide +kernel) rfl ?_
      refine jT_xlmul (x := 2) (y := 2) (z := 4) (pcN := 13) jIY_311_12 rfl (by decide) rfl ?_
      refine jT_xiload_n (v := (0, n)) (pcN := 14) jIY_311_13 rfl rfl rfl ?_
      refine jT_xi2l (x := n) (z := n) (pcN := 15) jIY_311_14 rfl (jw_idd (by omega) (by omega)) rfl ?_
      refine jT_lcmp (a := 4) (b := n) (z := 0) (by rfl) (by rfl) (jwl_idd (by omega) (by omega)) (jwl_idd (by omega) (by omega)) (by rw [decide_eq_false (show ¬ ((n : Int) < 4) by omega), decide_eq_true (show (4 : Int) = n by omega)]; rfl) ?_
      refine jT_xifF (t := 37) (pcN := 19) jIY_311_16 rfl (by decide +kernel) rfl rfl ?_
      refine jT_xiload_n (v := (0, 2)) (pcN := 20) jIY_311_19 rfl rfl rfl ?_
      refine jT_xiconst (k := 2) (pcN := 21) jIY_311_20 rfl ?_
      refine jT_ximul (x := 2) (y := 2) (z := 4) (pcN := 22) jIY_311_21 rfl (by decide) rfl ?_
      refine jT_xistore_n (v := (0, 4)) (LN := [(2, (0, 4)), (3, (4, 16)), (0, (4, 0)), (1, (0, n))]) (pcN := 23) jIY_311_22 rfl rfl rfl rfl ?_
      refine jT_xaload_n (v := (4, 16)) (pcN := 24) jIY_311_23 rfl rfl rfl ?_
      refine jT_xaload_n (v := (4, 0)) (pcN := 25) jIY_311_24 rfl rfl rfl ?_
      refine jT_xgetf (a := 0) (t := 1) (ci := 14) (fi := 8) (c := jzY_19) (v := (4, 6)) (pcN := 28) jIY_311_25 rfl rfl rfl rfl rfl rfl rfl ?_
      refine jT_xiconst (k := 0) (pcN := 29) jIY_311_28 rfl ?_
      refine jT_aald (x := 16) (a := 6) (j := 0) (fs := []) (X := [16, 17, 18, 19, 20, 21]) (kd := 130) jIY_311_29 rfl rfl rfl rfl rfl ?_
      refine jT_eq (LN := [(2, (0, 4)), (3, (4, 16)), (0, (4, 0)), (1, (0, n))]) (stN := [(4, 16), (4, 16)]) (hsN := jpY_271) rfl rfl rfl ?_
      refine jT_fA [16] 22 (y := 181) (pcN := 33) (dC := 1) (bc1 := 1) (bc2 := 56) (c1 := 1730) (c2 := 96880) (as := [(4, 16), (4, 16)]) (asC := [(4, 0), (4, 0)]) (LN := [(2, (0, 4)), (3, (4, 16)), (0, (4, 0)), (1, (0, n))]) (stN := []) (hsC := [(100, [], (jenc (jlg 0)))]) (ex := [(100, [], (jenc (jlg 0 + jlg 0)))]) (v := (4, 1)) (st2 := [(4, 22)]) (hs2 := jpY_272) (jT_added1 (d := 0) (a := jlg 0) jyl0.1 jyl0.2 (by decide +kernel)) (by rfl) (by rfl) (by decide +kernel) (by rfl) (by rfl) (by omega) (by omega) (by omega) (by omega) rfl (by decide +kernel) ?_
      refine jT_xastore_n (v := (4, 22)) (LN := [(3, (4, 22)), (2, (0, 4)), (0, (4, 0)), (1, (0, n))]) (pcN := 34) jIY_311_33 rfl rfl rfl rfl ?_
      refine jT_xgoto (pcN := 7) jIY_311_34 rfl ?_
      refine jT_loc (LN := [(3, (4, 22)), (2, (0, 4)), (0, (4, 0)), (1, (0, n))]) (by show List.Nodup [3, 2, 0, 1]; decide) (by intro q hq; simp only [List.mem_cons, List.not_mem_nil, or_false] at hq; rcases hq with rfl | rfl | rfl | rfl <;> rfl) ?_
      refine jT_eq (LN := [(3, (4, 22)), (2, (0, 4)), (0, (4, 0)), (1, (0, n))]) (stN := []) (hsN := [jzY_19, jgh, jgh, jgh, jgh, jgh, (130, [], [16, 17, 18, 19, 20, 21]), (101, [], [0, 0, 0, 0, 0, 0]), jgh, jgh, jgh, jgh, jgh, jgh, jgh, jgh, (100, [], (jenc (jlg 0))), (100, [], (jenc (jlg 1))), (100, [], (jenc (jlg 2))), (100, [], (jenc (jlg 3))), (100, [], (jenc (jlg 4))), (100, [], (jenc (jlg 5))), (100, [], (jenc (2 * jlg 0)))]) rfl rfl (by show [jzY_19, jgh, jgh, jgh, jgh, jgh, (130, [], [16, 17, 18, 19, 20, 21]), (101, [], [0, 0, 0, 0, 0, 0]), jgh, jgh, jgh, jgh, jgh, jgh, jgh, jgh, (100, [], (jenc (jlg 0))), (100, [], (jenc (jlg 1))), (100, [], (jenc (jlg 2))), (100, [], (jenc (jlg 3))), (100, [], (jenc (jlg 4))), (100, [], (jenc (jlg 5))), (100, [], (jenc (jlg 0 + jlg 0)))] = _; rw [show jlg 0 + jlg 0 = 2 * jlg 0 from jy_s2]) ?_
      exact jT.mono (jYl_ln_65_2 (by omega)) (Nat.le_refl _) (by omega) (by omega) (fun _ _ _ h => h)
    · refine jT_adv 1 (pcN := 10) (LN := [(3, (4, 16)), (2, (0, 2)), (0, (4, 0)), (1, (0, n))]) (stN := [(1, 2)]) (hsN := jpY_271) (c1 := 0) (s1 := 0) (c2 := 1731) (s2 := 96936) (by exact rfl) ?_ (by omega) (by omega)
      refine jT_xiload_n (v := (0, 2)) (pcN := 11) jIY_311_10 rfl rfl rfl ?_
      refine jT_xi2l (x := 2) (z := 2) (pcN := 12) jIY_311_11 rfl (by decide +kernel) rfl ?_
      refine jT_xlmul (x := 2) (y := 2) (z := 4) (pcN := 13) jIY_311_12 rfl (by decide) rfl ?_
      refine jT_xiload_n (v := (0, n)) (pcN := 14) jIY_311_13 rfl rfl rfl ?_
      refine jT_xi2l (x := n) (z := n) (pcN := 15) jIY_311_14 rfl (jw_idd (by omega) (by omega)) rfl ?_
      refine jT_lcmp (a := 4) (b := n) (z := (-1)) (by rfl) (by rfl) (jwl_idd (by omega) (by omega)) (jwl_idd (by omega) (by omega)) (by rw [decide_eq_false (show ¬ ((n : Int) < 4) by omega), decide_eq_false (show ¬ ((4 : Int) = n) by omega)]; rfl) ?_
      refine jT_xifF (t := 37) (pcN := 19) jIY_311_16 rfl (by decide +kernel) rfl rfl ?_
      refine jT_xiload_n (v := (0, 2)) (pcN := 20) jIY_311_19 rfl rfl rfl ?_
      refine jT_xiconst (k := 2) (pcN := 21) jIY_311_20 rfl ?_
      refine jT_ximul (x := 2) (y := 2) (z := 4) (pcN := 22) jIY_311_21 rfl (by decide) rfl ?_
      refine jT_xistore_n (v := (0, 4)) (LN := [(2, (0, 4)), (3, (4, 16)), (0, (4, 0)), (1, (0, n))]) (pcN := 23) jIY_311_22 rfl rfl rfl rfl ?_
      refine jT_xaload_n (v := (4, 16)) (pcN := 24) jIY_311_23 rfl rfl rfl ?_
      refine jT_xaload_n (v := (4, 0)) (pcN := 25) jIY_311_24 rfl rfl rfl ?_
      refine jT_xgetf (a := 0) (t := 1) (ci := 14) (fi := 8) (c := jzY_19) (v := (4, 6)) (pcN := 28) jIY_311_25 rfl rfl rfl rfl rfl rfl rfl ?_
      refine jT_xiconst (k := 0) (pcN := 29) jIY_311_28 rfl ?_
      refine jT_aald (x := 16) (a := 6) (j := 0) (fs := []) (X := [16, 17, 18, 19, 20, 21]) (kd := 130) jIY_311_29 rfl rfl rfl rfl rfl ?_
      refine jT_eq (LN := [(2, (0, 4)), (3, (4, 16)), (0, (4, 0)), (1, (0, n))]) (stN := [(4, 16), (4, 16)]) (hsN := jpY_271) rfl rfl rfl ?_
      refine jT_fA [16] 22 (y := 181) (pcN := 33) (dC := 1) (bc1 := 1) (bc2 := 56) (c1 := 1730) (c2 := 96880) (as := [(4, 16), (4, 16)]) (asC := [(4, 0), (4, 0)]) (LN := [(2, (0, 4)), (3, (4, 16)), (0, (4, 0)), (1, (0, n))]) (stN := []) (hsC := [(100, [], (jenc (jlg 0)))]) (ex := [(100, [], (jenc (jlg 0 + jlg 0)))]) (v := (4, 1)) (st2 := [(4, 22)]) (hs2 := jpY_272) (jT_added1 (d := 0) (a := jlg 0) jyl0.1 jyl0.2 (by decide +kernel)) (by rfl) (by rfl) (by decide +kernel) (by rfl) (by rfl) (by omega) (by omega) (by omega) (by omega) rfl (by decide +kernel) ?_
      refine jT_xastore_n (v := (4, 22)) (LN := [(3, (4, 22)), (2, (0, 4)), (0, (4, 0)), (1, (0, n))]) (pcN := 34) jIY_311_33 rfl rfl rfl rfl ?_
      refine jT_xgoto (pcN := 7) jIY_311_34 rfl ?_
      refine jT_loc (LN := [(3, (4, 22)), (2, (0, 4)), (0, (4, 0)), (1, (0, n))]) (by show List.Nodup [3, 2, 0, 1]; decide) (by intro q hq; simp only [List.mem_cons, List.not_mem_nil, or_false] at hq; rcases hq with rfl | rfl | rfl | rfl <;> rfl) ?_
      refine jT_eq (LN := [(3, (4, 22)), (2, (0, 4)), (0, (4, 0)), (1, (0, n))]) (stN := []) (hsN := [jzY_19, jgh, jgh, jgh, jgh, jgh, (130, [], [16, 17, 18, 19, 20, 21]), (101, [], [0, 0, 0, 0, 0, 0]), jgh, jgh, jgh, jgh, jgh, jgh, jgh, jgh, (100, [], (jenc (jlg 0))), (100, [], (jenc (jlg 1))), (100, [], (jenc (jlg 2))), (100, [], (jenc (jlg 3))), (100, [], (jenc (jlg 4))), (100, [], (jenc (jlg 5))), (100, [], (jenc (2 * jlg 0)))]) rfl rfl (by show [jzY_19, jgh, jgh, jgh, jgh, jgh, (130, [], [16, 17, 18, 19, 20, 21]), (101, [], [0, 0, 0, 0, 0, 0]), jgh, jgh, jgh, jgh, jgh, jgh, jgh, jgh, (100, [], (jenc (jlg 0))), (100, [], (jenc (jlg 1))), (100, [], (jenc (jlg 2))), (100, [], (jenc (jlg 3))), (100, [], (jenc (jlg 4))), (100, [], (jenc (jlg 5))), (100, [], (jenc (jlg 0 + jlg 0)))] = _; rw [show jlg 0 + jlg 0 = 2 * jlg 0 from jy_s2]) ?_
      exact jT.mono (jYl_ln_65_2 (by omega)) (Nat.le_refl _) (by omega) (by omega) (fun _ _ _ h => h)
def jpY_273 : List JC := [jzY_19, jgh, jgh, jgh, jgh, jgh, (130, [], [16, 17, 18, 19, 20, 21]), (101, [], [0, 0, 0, 0, 0, 0]), jgh, jgh, jgh, jgh, jgh, jgh, jgh, jgh, (100, [], (jenc (jlg 0))), (100, [], (jenc (jlg 1))), (100, [], (jenc (jlg 2))), (100, [], (jenc (jlg 3))), (100, [], (jenc (jlg 4))), (100, [], (jenc (jlg 5))), (100, [], List.replicate 56 0)]
def jpY_274 : List JC := [jzY_19, jgh, jgh, jgh, jgh, jgh, (130, [], [16, 17, 18, 19, 20, 21]), (101, [], [0, 0, 0, 0, 0, 0]), jgh, jgh, jgh, jgh, jgh, jgh, jgh, jgh, (100, [], (jenc (jlg 0))), (100, [], (jenc (jlg 1))), (100, [], (jenc (jlg 2))), (100, [], (jenc (jlg 3))), (100, [], (jenc (jlg 4))), (100, [], (jenc (jlg 5))), (100, [], (jenc 0))]
theorem jIY_311_0 : jmI (jm 311) 0 = (.iconst 1, 1) := by rfl
theorem jIY_311_1 : jmI (jm 311) 1 = (.istore_n 2, 1) := by rfl
theorem jIY_311_2 : jmI (jm 311) 2 = (.bipush 56, 2) := by rfl
theorem jIY_311_6 : jmI (jm 311) 6 = (.astore_n 3, 1) := by rfl
theorem jYl_ln_65_A {xs : List Int} {d : Nat} {n : Int} (h_n : 1 ≤ n ∧ n ≤ 1000000000) (h2 : n ≠ 2) : jT xs (d + 4) 311 22 0 [(0, (4, 0)), (1, (0, n))] [] [jzY_19, jgh, jgh, jgh, jgh, jgh, (130, [], [16, 17, 18, 19, 20, 21]), (101, [], [0, 0, 0, 0, 0, 0]), jgh, jgh, jgh, jgh, jgh, jgh, jgh, jgh, (100, [], (jenc (jlg 0))), (100, [], (jenc (jlg 1))), (100, [], (jenc (jlg 2))), (100, [], (jenc (jlg 3))), (100, [], (jenc (jlg 4))), (100, [], (jenc (jlg 5)))] 1732 96992 (fun k v hsN => k = 0 ∧ v = (4, 22) ∧ hsN = [jzY_19, jgh, jgh, jgh, jgh, jgh, (130, [], [16, 17, 18, 19, 20, 21]), (101, [], [0, 0, 0, 0, 0, 0]), jgh, jgh, jgh, jgh, jgh, jgh, jgh, jgh, (100, [], (jenc (jlg 0))), (100, [], (jenc (jlg 1))), (100, [], (jenc (jlg 2))), (100, [], (jenc (jlg 3))), (100, [], (jenc (jlg 4))), (100, [], (jenc (jlg 5)))] ++ [(100, [], jenc (jln n))]) := by
  rcases (show n = 1 ∨ 3 ≤ n by omega) with g | g
  · subst g
    refine jT_advK 5 (pcN := 7) (LN := [(3, (4, 22)), (2, (0, 1)), (0, (4, 0)), (1, (0, 1))]) (stN := []) (hsN := jpY_273) (c1 := 1) (s1 := 56) (c2 := 1731) (s2 := 96936) (by decide +kernel) ?_ (by omega) (by omega)
    refine jT_loc (LN := [(3, (4, 22)), (2, (0, 1)), (0, (4, 0)), (1, (0, 1))]) (by show List.Nodup [3, 2, 0, 1]; decide) (by intro q hq; simp only [List.mem_cons, List.not_mem_nil, or_false] at hq; rcases hq with rfl | rfl | rfl | rfl <;> rfl) ?_
    refine jT_eq (LN := [(3, (4, 22)), (2, (0, 1)), (0, (4, 0)), (1, (0, 1))]) (stN := []) (hsN := [jzY_19, jgh, jgh, jgh, jgh, jgh, (130, [], [16, 17, 18, 19, 20, 21]), (101, [], [0, 0, 0, 0, 0, 0]), jgh, jgh, jgh, jgh, jgh, jgh, jgh, jgh, (100, [], (jenc (jlg 0))), (100, [], (jenc (jlg 1))), (100, [], (jenc (jlg 2))), (100, [], (jenc (jlg 3))), (100, [], (jenc (jlg 4))), (100, [], (jenc (jlg 5))), (100, [], (jenc 0))]) rfl rfl (by show [jzY_19, jgh, jgh, jgh, jgh, jgh, (130, [], [16, 17, 18, 19, 20, 21]), (101, [], [0, 0, 0, 0, 0, 0]), jgh, jgh, jgh, jgh, jgh, jgh, jgh, jgh, (100, [], (jenc (jlg 0))), (100, [], (jenc (jlg 1))), (100, [], (jenc (jlg 2))), (100, [], (jenc (jlg 3))), (100, [], (jenc (jlg 4))), (100, [], (jenc (jlg 5))), (100, [], List.replicate 56 0)] = _; rw [← jrep56e]) ?_
    refine jT_advK 13 (pcN := 62) (LN := [(3, (4, 22)), (2, (0, 1)), (0, (4, 0)), (1, (0, 1))]) (stN := [(4, 22)]) (hsN := jpY_274) (c1 := 0) (s1 := 0) (c2 := 1731) (s2 := 96936) (by decide +kernel) ?_ (by omega) (by omega)
    refine jT_loc (LN := [(0, (4, 0))]) (by show List.Nodup [0]; decide) (by intro q hq; simp only [List.mem_cons, List.not_mem_nil, or_false] at hq; rcases hq with rfl <;> rfl) ?_
    exact jT_ret rfl (by decide) (by show 22 ≤ 23; decide) (by omega) (by omega) ⟨rfl, rfl, by rw [jln_1] <;> rfl⟩
  · have h_n : 3 ≤ n ∧ n ≤ 1000000000 := ⟨g, h_n.2⟩
    refine jT_xiconst (k := 1) (pcN := 1) jIY_311_0 rfl ?_
    refine jT_xistore_n (v := (0, 1)) (LN := [(2, (0, 1)), (0, (4, 0)), (1, (0, n))]) (pcN := 2) jIY_311_1 rfl rfl rfl rfl ?_
    refine jT_xbipush (k := 56) (pcN := 4) jIY_311_2 (by decide) rfl ?_
    refine jT_adv 1 (pcN := 6) (LN := [(2, (0, 1)), (0, (4, 0)), (1, (0, n))]) (stN := [(4, 22)]) (hsN := jpY_273) (c1 := 1) (s1 := 56) (c2 := 1731) (s2 := 96936) (by exact rfl) ?_ (by omega) (by omega)
    refine jT_xastore_n (v := (4, 22)) (LN := [(3, (4, 22)), (2, (0, 1)), (0, (4, 0)), (1, (0, n))]) (pcN := 7) jIY_311_6 rfl rfl rfl rfl ?_
    refine jT_loc (LN := [(3, (4, 22)), (2, (0, 1)), (0, (4, 0)), (1, (0, n))]) (by show List.Nodup [3, 2, 0, 1]; decide) (by intro q hq; simp only [List.mem_cons, List.not_mem_nil, or_false] at hq; rcases hq with rfl | rfl | rfl | rfl <;> rfl) ?_
    refine jT_eq (LN := [(3, (4, 22)), (2, (0, 1)), (0, (4, 0)), (1, (0, n))]) (stN := []) (hsN := [jzY_19, jgh, jgh, jgh, jgh, jgh, (130, [], [16, 17, 18, 19, 20, 21]), (101, [], [0, 0, 0, 0, 0, 0]), jgh, jgh, jgh, jgh, jgh, jgh, jgh, jgh, (100, [], (jenc (jlg 0))), (100, [], (jenc (jlg 1))), (100, [], (jenc (jlg 2))), (100, [], (jenc (jlg 3))), (100, [], (jenc (jlg 4))), (100, [], (jenc (jlg 5))), (100, [], (jenc 0))]) rfl rfl (by show [jzY_19, jgh, jgh, jgh, jgh, jgh, (130, [], [16, 17, 18, 19, 20, 21]), (101, [], [0, 0, 0, 0, 0, 0]), jgh, jgh, jgh, jgh, jgh, jgh, jgh, jgh, (100, [], (jenc (jlg 0))), (100, [], (jenc (jlg 1))), (100, [], (jenc (jlg 2))), (100, [], (jenc (jlg 3))), (100, [], (jenc (jlg 4))), (100, [], (jenc (jlg 5))), (100, [], List.replicate 56 0)] = _; rw [← jrep56e]) ?_
    refine jT_adv 1 (pcN := 10) (LN := [(3, (4, 22)), (2, (0, 1)), (0, (4, 0)), (1, (0, n))]) (stN := [(1, 2)]) (hsN := jpY_274) (c1 := 0) (s1 := 0) (c2 := 1731) (s2 := 96936) (by exact rfl) ?_ (by omega) (by omega)
    refine jT_xiload_n (v := (0, 1)) (pcN := 11) jIY_311_10 rfl rfl rfl ?_
    refine jT_xi2l (x := 1) (z := 1) (pcN := 12) jIY_311_11 rfl (by decide +kernel) rfl ?_
    refine jT_xlmul (x := 2) (y := 1) (z := 2) (pcN := 13) jIY_311_12 rfl (by decide) rfl ?_
    refine jT_xiload_n (v := (0, n)) (pcN := 14) jIY_311_13 rfl rfl rfl ?_
    refine jT_xi2l (x := n) (z := n) (pcN := 15) jIY_311_14 rfl (jw_idd (by omega) (by omega)) rfl ?_
    refine jT_lcmp (a := 2) (b := n) (z := (-1)) (by rfl) (by rfl) (jwl_idd (by omega) (by omega)) (jwl_idd (by omega) (by omega)) (by rw [decide_eq_false (show ¬ ((n : Int) < 2) by omega), decide_eq_false (show ¬ ((2 : Int) = n) by omega)]; rfl) ?_
    refine jT_xifF (t := 37) (pcN := 19) jIY_311_16 rfl (by decide +kernel) rfl rfl ?_
    refine jT_xiload_n (v := (0, 1)) (pcN := 20) jIY_311_19 rfl rfl rfl ?_
    refine jT_xiconst (k := 2) (pcN := 21) jIY_311_20 rfl ?_
    refine jT_ximul (x := 1) (y := 2) (z := 2) (pcN := 22) jIY_311_21 rfl (by decide) rfl ?_
    refine jT_xistore_n (v := (0, 2)) (LN := [(2, (0, 2)), (3, (4, 22)), (0, (4, 0)), (1, (0, n))]) (pcN := 23) jIY_311_22 rfl rfl rfl rfl ?_
    refine jT_xaload_n (v := (4, 22)) (pcN := 24) jIY_311_23 rfl rfl rfl ?_
    refine jT_xaload_n (v := (4, 0)) (pcN := 25) jIY_311_24 rfl rfl rfl ?_
    refine jT_xgetf (a := 0) (t := 1) (ci := 14) (fi := 8) (c := jzY_19) (v := (4, 6)) (pcN := 28) jIY_311_25 rfl rfl rfl rfl rfl rfl rfl ?_
    refine jT_xiconst (k := 0) (pcN := 29) jIY_311_28 rfl ?_
    refine jT_aald (x := 16) (a := 6) (j := 0) (fs := []) (X := [16, 17, 18, 19, 20, 21]) (kd := 130) jIY_311_29 rfl rfl rfl rfl rfl ?_
    refine jT_eq (LN := [(2, (0, 2)), (3, (4, 22)), (0, (4, 0)), (1, (0, n))]) (stN := [(4, 16), (4, 22)]) (hsN := jpY_274) rfl rfl rfl ?_
    refine jT_fR [22, 16] 23 (y := 181) (pcN := 33) (dC := 0) (bc1 := 0) (bc2 := 0) (c1 := 1731) (c2 := 96936) (as := [(4, 22), (4, 16)]) (asC := [(4, 0), (4, 1)]) (LN := [(2, (0, 2)), (3, (4, 22)), (0, (4, 0)), (1, (0, n))]) (stN := []) (hsC := [(100, [], (jenc 0)), (100, [], (jenc (jlg 0)))]) (v := (4, 1)) (st2 := [(4, 16)]) (jT_added_0l (d := 0) (b := jlg 0)) (by rfl) (by rfl) (by decide +kernel) (by rfl) (by rfl) (by omega) (by omega) (by omega) (by omega) rfl ?_
    refine jT_xastore_n (v := (4, 16)) (LN := [(3, (4, 16)), (2, (0, 2)), (0, (4, 0)), (1, (0, n))]) (pcN := 34) jIY_311_33 rfl rfl rfl rfl ?_
    refine jT_xgoto (pcN := 7) jIY_311_34 rfl ?_
    refine jT_loc (LN := [(3, (4, 16)), (2, (0, 2)), (0, (4, 0)), (1, (0, n))]) (by show List.Nodup [3, 2, 0, 1]; decide) (by intro q hq; simp only [List.mem_cons, List.not_mem_nil, or_false] at hq; rcases hq with rfl | rfl | rfl | rfl <;> rfl) ?_
    refine jT_drop 22 (hs0 := [jzY_19, jgh, jgh, jgh, jgh, jgh, (130, [], [16, 17, 18, 19, 20, 21]), (101, [], [0, 0, 0, 0, 0, 0]), jgh, jgh, jgh, jgh, jgh, jgh, jgh, jgh, (100, [], (jenc (jlg 0))), (100, [], (jenc (jlg 1))), (100, [], (jenc (jlg 2))), (100, [], (jenc (jlg 3))), (100, [], (jenc (jlg 4))), (100, [], (jenc (jlg 5)))]) (ex := [(100, [], (jenc 0))]) rfl rfl rfl (by decide) ?_
    exact jT.mono (jYl_ln_65_1 (by omega)) (Nat.le_refl _) (by omega) (by omega) (fun _ _ _ h => h)
theorem jYl_ln_65_B {xs : List Int} {d : Nat} {n : Int} (h_n : n = 2) : jT xs (d + 4) 311 22 0 [(0, (4, 0)), (1, (0, n))] [] [jzY_19, jgh, jgh, jgh, jgh, jgh, (130, [], [16, 17, 18, 19, 20, 21]), (101, [], [0, 0, 0, 0, 0, 0]), jgh, jgh, jgh, jgh, jgh, jgh, jgh, jgh, (100, [], (jenc (jlg 0))), (100, [], (jenc (jlg 1))), (100, [], (jenc (jlg 2))), (100, [], (jenc (jlg 3))), (100, [], (jenc (jlg 4))), (100, [], (jenc (jlg 5)))] 1732 96992 (fun k v hsN => k = 0 ∧ v = (4, 16) ∧ hsN = [jzY_19, jgh, jgh, jgh, jgh, jgh, (130, [], [16, 17, 18, 19, 20, 21]), (101, [], [0, 0, 0, 0, 0, 0]), jgh, jgh, jgh, jgh, jgh, jgh, jgh, jgh, (100, [], (jenc (jlg 0))), (100, [], (jenc (jlg 1))), (100, [], (jenc (jlg 2))), (100, [], (jenc (jlg 3))), (100, [], (jenc (jlg 4))), (100, [], (jenc (jlg 5)))]) := by
  subst h_n
  refine jT_advK 5 (pcN := 7) (LN := [(3, (4, 22)), (2, (0, 1)), (0, (4, 0)), (1, (0, 2))]) (stN := []) (hsN := jpY_273) (c1 := 1) (s1 := 56) (c2 := 1731) (s2 := 96936) (by decide +kernel) ?_ (by omega) (by omega)
  refine jT_loc (LN := [(3, (4, 22)), (2, (0, 1)), (0, (4, 0)), (1, (0, 2))]) (by show List.Nodup [3, 2, 0, 1]; decide) (by intro q hq; simp only [List.mem_cons, List.not_mem_nil, or_false] at hq; rcases hq with rfl | rfl | rfl | rfl <;> rfl) ?_
  refine jT_eq (LN := [(3, (4, 22)), (2, (0, 1)), (0, (4, 0)), (1, (0, 2))]) (stN := []) (hsN := [jzY_19, jgh, jgh, jgh, jgh, jgh, (130, [], [16, 17, 18, 19, 20, 21]), (101, [], [0, 0, 0, 0, 0, 0]), jgh, jgh, jgh, jgh, jgh, jgh, jgh, jgh, (100, [], (jenc (jlg 0))), (100, [], (jenc (jlg 1))), (100, [], (jenc (jlg 2))), (100, [], (jenc (jlg 3))), (100, [], (jenc (jlg 4))), (100, [], (jenc (jlg 5))), (100, [], (jenc 0))]) rfl rfl (by show [jzY_19, jgh, jgh, jgh, jgh, jgh, (130, [], [16, 17, 18, 19, 20, 21]), (101, [], [0, 0, 0, 0, 0, 0]), jgh, jgh, jgh, jgh, jgh, jgh, jgh, jgh, (100, [], (jenc (jlg 0))), (100, [], (jenc (jlg 1))), (100, [], (jenc (jlg 2))), (100, [], (jenc (jlg 3))), (100, [], (jenc (jlg 4))), (100, [], (jenc (jlg 5))), (100, [], List.replicate 56 0)] = _; rw [← jrep56e]) ?_
  refine jT_advK 17 (pcN := 30) (LN := [(2, (0, 2)), (3, (4, 22)), (0, (4, 0)), (1, (0, 2))]) (stN := [(4, 16), (4, 22)]) (hsN := jpY_274) (c1 := 0) (s1 := 0) (c2 := 1731) (s2 := 96936) (by decide +kernel) ?_ (by omega) (by omega)
  refine jT_fR [22, 16] 23 (y := 181) (pcN := 33) (dC := 0) (bc1 := 0) (bc2 := 0) (c1 := 1731) (c2 := 96936) (as := [(4, 22), (4, 16)]) (asC := [(4, 0), (4, 1)]) (LN := [(2, (0, 2)), (3, (4, 22)), (0, (4, 0)), (1, (0, 2))]) (stN := []) (hsC := [(100, [], (jenc 0)), (100, [], (jenc (jlg 0)))]) (v := (4, 1)) (st2 := [(4, 16)]) (jT_added_0l (d := 0) (b := jlg 0)) (by rfl) (by rfl) (by decide +kernel) (by rfl) (by rfl) (by omega) (by omega) (by omega) (by omega) rfl ?_
  refine jT_advK 15 (pcN := 62) (LN := [(3, (4, 16)), (2, (0, 2)), (0, (4, 0)), (1, (0, 2))]) (stN := [(4, 16)]) (hsN := jpY_274) (c1 := 0) (s1 := 0) (c2 := 1731) (s2 := 96936) (by decide +kernel) ?_ (by omega) (by omega)
  refine jT_loc (LN := [(0, (4, 0))]) (by show List.Nodup [0]; decide) (by intro q hq; simp only [List.mem_cons, List.not_mem_nil, or_false] at hq; rcases hq with rfl <;> rfl) ?_
  refine jT_drop 22 (hs0 := [jzY_19, jgh, jgh, jgh, jgh, jgh, (130, [], [16, 17, 18, 19, 20, 21]), (101, [], [0, 0, 0, 0, 0, 0]), jgh, jgh, jgh, jgh, jgh, jgh, jgh, jgh, (100, [], (jenc (jlg 0))), (100, [], (jenc (jlg 1))), (100, [], (jenc (jlg 2))), (100, [], (jenc (jlg 3))), (100, [], (jenc (jlg 4))), (100, [], (jenc (jlg 5)))]) (ex := [(100, [], (jenc 0))]) rfl rfl rfl (by decide) ?_
  exact jT_ret rfl (by decide) (by show 22 ≤ 22; decide) (by omega) (by omega) ⟨rfl, rfl, rfl⟩
theorem jIY_312_0 : jmI (jm 312) 0 = (.bipush 6, 2) := by rfl
theorem jIY_312_4 : jmI (jm 312) 4 = (.astore 4, 2) := by rfl
theorem jIY_312_6 : jmI (jm 312) 6 = (.aload_n 0, 1) := by rfl
theorem jIY_312_7 : jmI (jm 312) 7 = (.getfield 31, 3) := by rfl
theorem jIY_312_10 : jmI (jm 312) 10 = (.iconst 0, 1) := by rfl
theorem jIY_312_11 : jmI (jm 312) 11 = (.aload 4, 2) := by rfl
theorem jIY_312_13 : jmI (jm 312) 13 = (.iconst 0, 1) := by rfl
theorem jIY_312_14 : jmI (jm 312) 14 = (.bipush 6, 2) := by rfl
theorem jIY_312_19 : jmI (jm 312) 19 = (.iload_n 1, 1) := by rfl
theorem jIY_312_20 : jmI (jm 312) 20 = (.istore 5, 2) := by rfl
theorem jIY_312_22 : jmI (jm 312) 22 = (.iload_n 2, 1) := by rfl
theorem jIY_312_23 : jmI (jm 312) 23 = (.istore 6, 2) := by rfl
theorem jIY_312_25 : jmI (jm 312) 25 = (.iconst 0, 1) := by rfl
theorem jIY_312_26 : jmI (jm 312) 26 = (.istore 7, 2) := by rfl
theorem jIY_312_28 : jmI (jm 312) 28 = (.iload 7, 2) := by rfl
theorem jIY_312_30 : jmI (jm 312) 30 = (.bipush 6, 2) := by rfl
theorem jIY_312_32 : jmI (jm 312) 32 = (.if_icmp .ge 85, 3) := by rfl
theorem jIY_312_35 : jmI (jm 312) 35 = (.iload 5, 2) := by rfl
theorem jIY_312_40 : jmI (jm 312) 40 = (.iload 7, 2) := by rfl
theorem jIY_312_44 : jmI (jm 312) 44 = (.ifCond .ne 29, 3) := by rfl
theorem jIY_312_47 : jmI (jm 312) 47 = (.iload 5, 2) := by rfl
theorem jIY_312_52 : jmI (jm 312) 52 = (.iload 7, 2) := by rfl
theorem jIY_312_56 : jmI (jm 312) 56 = (.istore 5, 2) := by rfl
theorem jIY_312_58 : jmI (jm 312) 58 = (.aload 4, 2) := by rfl
theorem jIY_312_60 : jmI (jm 312) 60 = (.iload 7, 2) := by rfl
theorem jIY_312_63 : jmI (jm 312) 63 = (.laload, 1) := by rfl
theorem jIY_312_64 : jmI (jm 312) 64 = (.aload_n 0, 1) := by rfl
theorem jIY_312_65 : jmI (jm 312) 65 = (.getfield 35, 3) := by rfl
theorem jIY_312_68 : jmI (jm 312) 68 = (.ladd, 1) := by rfl
theorem jIY_312_70 : jmI (jm 312) 70 = (.goto (-35), 3) := by rfl
theorem jYl_sr_67 {xs : List Int} {d b1 b2 : Nat} {Q : Nat → JV → List JC → Prop} {y6 y1 y2 e1 e2 e3 e4 e5 w : Int} : ∀ (n : Nat) (u e0 : Int), 1 ≤ u → u ≤ 1000000000 → u < jp2 n → jT xs d 312 23 73 [(5, (0, jsu 2 n u)), (6, (0, y6)), (7, (0, 0)), (4, (4, 23)), (0, (4, 0)), (1, (0, y1)), (2, (0, y2)), (3, (4, 22))] [] [jzY_19, jgh, jgh, jgh, jgh, jgh, (130, [], [16, 17, 18, 19, 20, 21]), (101, [], [0, 0, 0, 0, 0, 0]), jgh, jgh, jgh, jgh, jgh, jgh, jgh, jgh, (100, [], (jenc (jlg 0))), (100, [], (jenc (jlg 1))), (100, [], (jenc (jlg 2))), (100, [], (jenc (jlg 3))), (100, [], (jenc (jlg 4))), (100, [], (jenc (jlg 5))), (100, [], (jenc w)), (101, [], [e0 + jsc 2 n u, e1, e2, e3, e4, e5])] b1 b2 Q → jT xs d 312 23 35 [(5, (0, u)), (6, (0, y6)), (7, (0, 0)), (4, (4, 23)), (0, (4, 0)), (1, (0, y1)), (2, (0, y2)), (3, (4, 22))] [] [jzY_19, jgh, jgh, jgh, jgh, jgh, (130, [], [16, 17, 18, 19, 20, 21]), (101, [], [0, 0, 0, 0, 0, 0]), jgh, jgh, jgh, jgh, jgh, jgh, jgh, jgh, (100, [], (jenc (jlg 0))), (100, [], (jenc (jlg 1))), (100, [], (jenc (jlg 2))), (100, [], (jenc (jlg 3))), (100, [], (jenc (jlg 4))), (100, [], (jenc (jlg 5))), (100, [], (jenc w)), (101, [], [e0, e1, e2, e3, e4, e5])] b1 b2 Q := by
  intro n
  induction n with
  | zero =>
    intro u e0 h1 h2 hu h
    exact absurd (show u < 1 from hu) (by omega)
  | succ n ih =>
    intro u e0 h1 h2 hu h
    have h_u : 1 ≤ u ∧ u ≤ 1000000000 := ⟨h1, h2⟩
    rcases (show (0 ≤ (u.tmod 2) - 1) ∨ ((u.tmod 2) - 1 < 0) by omega) with g_0 | g_0
    · refine jT_xiload (v := (0, u)) (pcN := 37) jIY_312_35 rfl rfl rfl ?_
      refine jT_adv 1 (pcN := 40) (LN := [(5, (0, u)), (6, (0, y6)), (7, (0, 0)), (4, (4, 23)), (0, (4, 0)), (1, (0, y1)), (2, (0, y2)), (3, (4, 22))]) (stN := [(5, 5), (0, u)]) (hsN := [jzY_19, jgh, jgh, jgh, jgh, jgh, (130, [], [16, 17, 18, 19, 20, 21]), (101, [], [0, 0, 0, 0, 0, 0]), jgh, jgh, jgh, jgh, jgh, jgh, jgh, jgh, (100, [], (jenc (jlg 0))), (100, [], (jenc (jlg 1))), (100, [], (jenc (jlg 2))), (100, [], (jenc (jlg 3))), (100, [], (jenc (jlg 4))), (100, [], (jenc (jlg 5))), (100, [], (jenc w)), (101, [], [e0, e1, e2, e3, e4, e5])]) (c1 := 0) (s1 := 0) (c2 := b1) (s2 := b2) (by exact rfl) ?_ (by omega) (by omega)
      refine jT_xiload (v := (0, 0)) (pcN := 42) jIY_312_40 rfl rfl rfl ?_
      refine jT_adv 1 (pcN := 43) (LN := [(5, (0, u)), (6, (0, y6)), (7, (0, 0)), (4, (4, 23)), (0, (4, 0)), (1, (0, y1)), (2, (0, y2)), (3, (4, 22))]) (stN := [(0, 2), (0, u)]) (hsN := [jzY_19, jgh, jgh, jgh, jgh, jgh, (130, [], [16, 17, 18, 19, 20, 21]), (101, [], [0, 0, 0, 0, 0, 0]), jgh, jgh, jgh, jgh, jgh, jgh, jgh, jgh, (100, [], (jenc (jlg 0))), (100, [], (jenc (jlg 1))), (100, [], (jenc (jlg 2))), (100, [], (jenc (jlg 3))), (100, [], (jenc (jlg 4))), (100, [], (jenc (jlg 5))), (100, [], (jenc w)), (101, [], [e0, e1, e2, e3, e4, e5])]) (c1 := 0) (s1 := 0) (c2 := b1) (s2 := b2) (by exact rfl) ?_ (by omega) (by omega)
      refine jT_irem (a := u) (b := 2) (by rfl) (by rfl) (jw_idd (by omega) (by omega)) (jw_idd (by omega) (by omega)) (by omega) ?_
      have hb_q1 := jtm_b (x := u) (y := 2) (by omega) (by omega)
      have hb_q1 : 0 ≤ u.tmod 2 ∧ u.tmod 2 ≤ 1 := ⟨hb_q1.1, by omega⟩
      generalize hq_q1 : u.tmod 2 = q1 at hb_q1 g_0 ⊢
      refine jT_ifT (a := q1) (t := 73) (by rfl) (by rfl) (by rfl) (jw_idd (by omega) (by omega)) (by simp only [jcP] <;> omega) ?_
      refine jT_loc (LN := [(5, (0, u)), (6, (0, y6)), (7, (0, 0)), (4, (4, 23)), (0, (4, 0)), (1, (0, y1)), (2, (0, y2)), (3, (4, 22))]) (by show List.Nodup [5, 6, 7, 4, 0, 1, 2, 3]; decide) (by intro q hq; simp only [List.mem_cons, List.not_mem_nil, or_false] at hq; rcases hq with rfl | rfl | rfl | rfl | rfl | rfl | rfl | rfl <;> rfl) ?_
      rw [jsu_0 (by omega), jsc_0 (by omega), Int.add_zero] at h
      exact h
    · refine jT_xiload (v := (0, u)) (pcN := 37) jIY_312_35 rfl rfl rfl ?_
      refine jT_adv 1 (pcN := 40) (LN := [(5, (0, u)), (6, (0, y6)), (7, (0, 0)), (4, (4, 23)), (0, (4, 0)), (1, (0, y1)), (2, (0, y2)), (3, (4, 22))]) (stN := [(5, 5), (0, u)]) (hsN := [jzY_19, jgh, jgh, jgh, jgh, jgh, (130, [], [16, 17, 18, 19, 20, 21]), (101, [], [0, 0, 0, 0, 0, 0]), jgh, jgh, jgh, jgh, jgh, jgh, jgh, jgh, (100, [], (jenc (jlg 0))), (100, [], (jenc (jlg 1))), (100, [], (jenc (jlg 2))), (100, [], (jenc (jlg 3))), (100, [], (jenc (jlg 4))), (100, [], (jenc (jlg 5))), (100, [], (jenc w)), (101, [], [e0, e1, e2, e3, e4, e5])]) (c1 := 0) (s1 := 0) (c2 := b1) (s2 := b2) (by exact rfl) ?_ (by omega) (by omega)
      refine jT_xiload (v := (0, 0)) (pcN := 42) jIY_312_40 rfl rfl rfl ?_
      refine jT_adv 1 (pcN := 43) (LN := [(5, (0, u)), (6, (0, y6)), (7, (0, 0)), (4, (4, 23)), (0, (4, 0)), (1, (0, y1)), (2, (0, y2)), (3, (4, 22))]) (stN := [(0, 2), (0, u)]) (hsN := [jzY_19, jgh, jgh, jgh, jgh, jgh, (130, [], [16, 17, 18, 19, 20, 21]), (101, [], [0, 0, 0, 0, 0, 0]), jgh, jgh, jgh, jgh, jgh, jgh, jgh, jgh, (100, [], (jenc (jlg 0))), (100, [], (jenc (jlg 1))), (100, [], (jenc (jlg 2))), (100, [], (jenc (jlg 3))), (100, [], (jenc (jlg 4))), (100, [], (jenc (jlg 5))), (100, [], (jenc w)), (101, [], [e0, e1, e2, e3, e4, e5])]) (c1 := 0) (s1 := 0) (c2 := b1) (s2 := b2) (by exact rfl) ?_ (by omega) (by omega)
      refine jT_irem (a := u) (b := 2) (by rfl) (by rfl) (jw_idd (by omega) (by omega)) (jw_idd (by omega) (by omega)) (by omega) ?_
      have hb_q1 := jtm_b (x := u) (y := 2) (by omega) (by omega)
      have hb_q1 : 0 ≤ u.tmod 2 ∧ u.tmod 2 ≤ 1 := ⟨hb_q1.1, by omega⟩
      generalize hq_q1 : u.tmod 2 = q1 at hb_q1 g_0 ⊢
      refine jT_ifF (a := q1) (t := 73) (by rfl) (by rfl) (by rfl) (jw_idd (by omega) (by omega)) (by simp only [jcP] <;> omega) ?_
      refine jT_xiload (v := (0, u)) (pcN := 49) jIY_312_47 rfl rfl rfl ?_
      refine jT_adv 1 (pcN := 52) (LN := [(5, (0, u)), (6, (0, y6)), (7, (0, 0)), (4, (4, 23)), (0, (4, 0)), (1, (0, y1)), (2, (0, y2)), (3, (4, 22))]) (stN := [(5, 5), (0, u)]) (hsN := [jzY_19, jgh, jgh, jgh, jgh, jgh, (130, [], [16, 17, 18, 19, 20, 21]), (101, [], [0, 0, 0, 0, 0, 0]), jgh, jgh, jgh, jgh, jgh, jgh, jgh, jgh, (100, [], (jenc (jlg 0))), (100, [], (jenc (jlg 1))), (100, [], (jenc (jlg 2))), (100, [], (jenc (jlg 3))), (100, [], (jenc (jlg 4))), (100, [], (jenc (jlg 5))), (100, [], (jenc w)), (101, [], [e0, e1, e2, e3, e4, e5])]) (c1 := 0) (s1 := 0) (c2 := b1) (s2 := b2) (by exact rfl) ?_ (by omega) (by omega)
      refine jT_xiload (v := (0, 0)) (pcN := 54) jIY_312_52 rfl rfl rfl ?_
      refine jT_adv 1 (pcN := 55) (LN := [(5, (0, u)), (6, (0, y6)), (7, (0, 0)), (4, (4, 23)), (0, (4, 0)), (1, (0, y1)), (2, (0, y2)), (3, (4, 22))]) (stN := [(0, 2), (0, u)]) (hsN := [jzY_19, jgh, jgh, jgh, jgh, jgh, (130, [], [16, 17, 18, 19, 20, 21]), (101, [], [0, 0, 0, 0, 0, 0]), jgh, jgh, jgh, jgh, jgh, jgh, jgh, jgh, (100, [], (jenc (jlg 0))), (100, [], (jenc (jlg 1))), (100, [], (jenc (jlg 2))), (100, [], (jenc (jlg 3))), (100, [], (jenc (jlg 4))), (100, [], (jenc (jlg 5))), (100, [], (jenc w)), (101, [], [e0, e1, e2, e3, e4, e5])]) (c1 := 0) (s1 := 0) (c2 := b1) (s2 := b2) (by exact rfl) ?_ (by omega) (by omega)
      refine jT_idiv (a := u) (b := 2) (by rfl) (by rfl) (jw_idd (by omega) (by omega)) (jw_idd (by omega) (by omega)) (by omega) ?_
      have hb_q2 := jtd_b0 (x := u) (y := 2) (by omega) (by omega)
      have hb_q2 : 0 ≤ u.tdiv 2 ∧ u.tdiv 2 ≤ 1000000000 := ⟨hb_q2.1, by omega⟩
      generalize hq_q2 : u.tdiv 2 = q2 at hb_q2 ⊢
      refine jT_xistore (v := (0, q2)) (LN := [(5, (0, q2)), (6, (0, y6)), (7, (0, 0)), (4, (4, 23)), (0, (4, 0)), (1, (0, y1)), (2, (0, y2)), (3, (4, 22))]) (pcN := 58) jIY_312_56 rfl rfl rfl rfl ?_
      refine jT_xaload (v := (4, 23)) (pcN := 60) jIY_312_58 rfl rfl rfl ?_
      refine jT_xiload (v := (0, 0)) (pcN := 62) jIY_312_60 rfl rfl rfl ?_
      refine jT_adv 1 (pcN := 63) (LN := [(5, (0, q2)), (6, (0, y6)), (7, (0, 0)), (4, (4, 23)), (0, (4, 0)), (1, (0, y1)), (2, (0, y2)), (3, (4, 22))]) (stN := [(0, 0), (4, 23), (0, 0), (4, 23)]) (hsN := [jzY_19, jgh, jgh, jgh, jgh, jgh, (130, [], [16, 17, 18, 19, 20, 21]), (101, [], [0, 0, 0, 0, 0, 0]), jgh, jgh, jgh, jgh, jgh, jgh, jgh, jgh, (100, [], (jenc (jlg 0))), (100, [], (jenc (jlg 1))), (100, [], (jenc (jlg 2))), (100, [], (jenc (jlg 3))), (100, [], (jenc (jlg 4))), (100, [], (jenc (jlg 5))), (100, [], (jenc w)), (101, [], [e0, e1, e2, e3, e4, e5])]) (c1 := 0) (s1 := 0) (c2 := b1) (s2 := b2) (by exact rfl) ?_ (by omega) (by omega)
      refine jT_lald (x := e0) (a := 23) (j := 0) (fs := []) (X := [e0, e1, e2, e3, e4, e5]) jIY_312_63 rfl rfl rfl rfl ?_
      refine jT_eq (LN := [(5, (0, q2)), (6, (0, y6)), (7, (0, 0)), (4, (4, 23)), (0, (4, 0)), (1, (0, y1)), (2, (0, y2)), (3, (4, 22))]) (stN := [(1, e0), (0, 0), (4, 23)]) (hsN := [jzY_19, jgh, jgh, jgh, jgh, jgh, (130, [], [16, 17, 18, 19, 20, 21]), (101, [], [0, 0, 0, 0, 0, 0]), jgh, jgh, jgh, jgh, jgh, jgh, jgh, jgh, (100, [], (jenc (jlg 0))), (100, [], (jenc (jlg 1))), (100, [], (jenc (jlg 2))), (100, [], (jenc (jlg 3))), (100, [], (jenc (jlg 4))), (100, [], (jenc (jlg 5))), (100, [], (jenc w)), (101, [], [e0, e1, e2, e3, e4, e5])]) rfl rfl rfl ?_
      refine jT_xaload_n (v := (4, 0)) (pcN := 65) jIY_312_64 rfl rfl rfl ?_
      refine jT_xgetf (a := 0) (t := 1) (ci := 14) (fi := 10) (c := jzY_19) (v := (1, 1)) (pcN := 68) jIY_312_65 rfl rfl rfl rfl rfl rfl rfl ?_
      refine jT_xladd (x := e0) (y := 1) (z := e0 + 1) (pcN := 69) jIY_312_68 rfl (rfl) rfl ?_
      refine jT_adv 1 (pcN := 70) (LN := [(5, (0, q2)), (6, (0, y6)), (7, (0, 0)), (4, (4, 23)), (0, (4, 0)), (1, (0, y1)), (2, (0, y2)), (3, (4, 22))]) (stN := []) (hsN := [jzY_19, jgh, jgh, jgh, jgh, jgh, (130, [], [16, 17, 18, 19, 20, 21]), (101, [], [0, 0, 0, 0, 0, 0]), jgh, jgh, jgh, jgh, jgh, jgh, jgh, jgh, (100, [], (jenc (jlg 0))), (100, [], (jenc (jlg 1))), (100, [], (jenc (jlg 2))), (100, [], (jenc (jlg 3))), (100, [], (jenc (jlg 4))), (100, [], (jenc (jlg 5))), (100, [], (jenc w)), (101, [], [e0 + 1, e1, e2, e3, e4, e5])]) (c1 := 0) (s1 := 0) (c2 := b1) (s2 := b2) (by exact rfl) ?_ (by omega) (by omega)
      refine jT_xgoto (pcN := 35) jIY_312_70 rfl ?_
      refine jT_loc (LN := [(5, (0, q2)), (6, (0, y6)), (7, (0, 0)), (4, (4, 23)), (0, (4, 0)), (1, (0, y1)), (2, (0, y2)), (3, (4, 22))]) (by show List.Nodup [5, 6, 7, 4, 0, 1, 2, 3]; decide) (by intro q hq; simp only [List.mem_cons, List.not_mem_nil, or_false] at hq; rcases hq with rfl | rfl | rfl | rfl | rfl | rfl | rfl | rfl <;> rfl) ?_
      have hs := jst_s (P := 2) (u := u) (n := n) (by decide) h1 hu (by omega)
      rw [hq_q2] at hs
      rw [jsu_1 (by omega), jsc_1 (by omega), hq_q2, show e0 + (jsc 2 n q2 + 1) = e0 + 1 + jsc 2 n q2 by omega] at h
      exact ih q2 (e0 + 1) (by omega) (by omega) hs.2.1 h
theorem jIY_312_73 : jmI (jm 312) 73 = (.iload 6, 2) := by rfl
theorem jIY_312_78 : jmI (jm 312) 78 = (.iload 7, 2) := by rfl
theorem jIY_312_82 : jmI (jm 312) 82 = (.ifCond .ne 29, 3) := by rfl
theorem jIY_312_85 : jmI (jm 312) 85 = (.iload 6, 2) := by rfl
theorem jIY_312_90 : jmI (jm 312) 90 = (.iload 7, 2) := by rfl
theorem jIY_312_94 : jmI (jm 312) 94 = (.istore 6, 2) := by rfl
theorem jIY_312_96 : jmI (jm 312) 96 = (.aload 4, 2) := by rfl
theorem jIY_312_98 : jmI (jm 312) 98 = (.iload 7, 2) := by rfl
theorem jIY_312_101 : jmI (jm 312) 101 = (.laload, 1) := by rfl
theorem jIY_312_102 : jmI (jm 312) 102 = (.aload_n 0, 1) := by rfl
theorem jIY_312_103 : jmI (jm 312) 103 = (.getfield 35, 3) := by rfl
theorem jIY_312_106 : jmI (jm 312) 106 = (.lsub, 1) := by rfl
theorem jIY_312_108 : jmI (jm 312) 108 = (.goto (-35), 3) := by rfl
theorem jYl_sr_68 {xs : List Int} {d b1 b2 : Nat} {Q : Nat → JV → List JC → Prop} {y5 y1 y2 e1 e2 e3 e4 e5 w : Int} : ∀ (n : Nat) (u e0 : Int), 1 ≤ u → u ≤ 1000000000 → u < jp2 n → jT xs d 312 23 111 [(5, (0, y5)), (6, (0, jsu 2 n u)), (7, (0, 0)), (4, (4, 23)), (0, (4, 0)), (1, (0, y1)), (2, (0, y2)), (3, (4, 22))] [] [jzY_19, jgh, jgh, jgh, jgh, jgh, (130, [], [16, 17, 18, 19, 20, 21]), (101, [], [0, 0, 0, 0, 0, 0]), jgh, jgh, jgh, jgh, jgh, jgh, jgh, jgh, (100, [], (jenc (jlg 0))), (100, [], (jenc (jlg 1))), (100, [], (jenc (jlg 2))), (100, [], (jenc (jlg 3))), (100, [], (jenc (jlg 4))), (100, [], (jenc (jlg 5))), (100, [], (jenc w)), (101, [], [e0 - jsc 2 n u, e1, e2, e3, e4, e5])] b1 b2 Q → jT xs d 312 23 73 [(5, (0, y5)), (6, (0, u)), (7, (0, 0)), (4, (4, 23)), (0, (4, 0)), (1, (0, y1)), (2, (0, y2)), (3, (4, 22))] [] [jzY_19, jgh, jgh, jgh, jgh, jgh, (130, [], [16, 17, 18, 19, 20, 21]), (101, [], [0, 0, 0, 0, 0, 0]), jgh, jgh, jgh, jgh, jgh, jgh, jgh, jgh, (100, [], (jenc (jlg 0))), (100, [], (jenc (jlg 1))), (100, [], (jenc (jlg 2))), (100, [], (jenc (jlg 3))), (100, [], (jenc (jlg 4))), (100, [], (jenc (jlg 5))), (100, [], (jenc w)), (101, [], [e0, e1, e2, e3, e4, e5])] b1 b2 Q := by
  intro n
  induction n with
  | zero =>
    intro u e0 h1 h2 hu h
    exact absurd (show u < 1 from hu) (by omega)
  | succ n ih =>
    intro u e0 h1 h2 hu h
    have h_u : 1 ≤ u ∧ u ≤ 1000000000 := ⟨h1, h2⟩
    rcases (show (0 ≤ (u.tmod 2) - 1) ∨ ((u.tmod 2) - 1 < 0) by omega) with g_0 | g_0
    · refine jT_xiload (v := (0, u)) (pcN := 75) jIY_312_73 rfl rfl rfl ?_
      refine jT_adv 1 (pcN := 78) (LN := [(5, (0, y5)), (6, (0, u)), (7, (0, 0)), (4, (4, 23)), (0, (4, 0)), (1, (0, y1)), (2, (0, y2)), (3, (4, 22))]) (stN := [(5, 5), (0, u)]) (hsN := [jzY_19, jgh, jgh, jgh, jgh, jgh, (130, [], [16, 17, 18, 19, 20, 21]), (101, [], [0, 0, 0, 0, 0, 0]), jgh, jgh, jgh, jgh, jgh, jgh, jgh, jgh, (100, [], (jenc (jlg 0))), (100, [], (jenc (jlg 1))), (100, [], (jenc (jlg 2))), (100, [], (jenc (jlg 3))), (100, [], (jenc (jlg 4))), (100, [], (jenc (jlg 5))), (100, [], (jenc w)), (101, [], [e0, e1, e2, e3, e4, e5])]) (c1 := 0) (s1 := 0) (c2 := b1) (s2 := b2) (by exact rfl) ?_ (by omega) (by omega)
      refine jT_xiload (v := (0, 0)) (pcN := 80) jIY_312_78 rfl rfl rfl ?_
      refine jT_adv 1 (pcN := 81) (LN := [(5, (0, y5)), (6, (0, u)), (7, (0, 0)), (4, (4, 23)), (0, (4, 0)), (1, (0, y1)), (2, (0, y2)), (3, (4, 22))]) (stN := [(0, 2), (0, u)]) (hsN := [jzY_19, jgh, jgh, jgh, jgh, jgh, (130, [], [16, 17, 18, 19, 20, 21]), (101, [], [0, 0, 0, 0, 0, 0]), jgh, jgh, jgh, jgh, jgh, jgh, jgh, jgh, (100, [], (jenc (jlg 0))), (100, [], (jenc (jlg 1))), (100, [], (jenc (jlg 2))), (100, [], (jenc (jlg 3))), (100, [], (jenc (jlg 4))), (100, [], (jenc (jlg 5))), (100, [], (jenc w)), (101, [], [e0, e1, e2, e3, e4, e5])]) (c1 := 0) (s1 := 0) (c2 := b1) (s2 := b2) (by exact rfl) ?_ (by omega) (by omega)
      refine jT_irem (a := u) (b := 2) (by rfl) (by rfl) (jw_idd (by omega) (by omega)) (jw_idd (by omega) (by omega)) (by omega) ?_
      have hb_q1 := jtm_b (x := u) (y := 2) (by omega) (by omega)
      have hb_q1 : 0 ≤ u.tmod 2 ∧ u.tmod 2 ≤ 1 := ⟨hb_q1.1, by omega⟩
      generalize hq_q1 : u.tmod 2 = q1 at hb_q1 g_0 ⊢
      refine jT_ifT (a := q1) (t := 111) (by rfl) (by rfl) (by rfl) (jw_idd (by omega) (by omega)) (by simp only [jcP] <;> omega) ?_
      refine jT_loc (LN := [(5, (0, y5)), (6, (0, u)), (7, (0, 0)), (4, (4, 23)), (0, (4, 0)), (1, (0, y1)), (2, (0, y2)), (3, (4, 22))]) (by show List.Nodup [5, 6, 7, 4, 0, 1, 2, 3]; decide) (by intro q hq; simp only [List.mem_cons, List.not_mem_nil, or_false] at hq; rcases hq with rfl | rfl | rfl | rfl | rfl | rfl | rfl | rfl <;> rfl) ?_
      rw [jsu_0 (by omega), jsc_0 (by omega), Int.sub_zero] at h
      exact h
    · refine jT_xiload (v := (0, u)) (pcN := 75) jIY_312_73 rfl rfl rfl ?_
      refine jT_adv 1 (pcN := 78) (LN := [(5, (0, y5)), (6, (0, u)), (7, (0, 0)), (4, (4, 23)), (0, (4, 0)), (1, (0, y1)), (2, (0, y2)), (3, (4, 22))]) (stN := [(5, 5), (0, u)]) (hsN := [jzY_19, jgh, jgh, jgh, jgh, jgh, (130, [], [16, 17, 18, 19, 20, 21]), (101, [], [0, 0, 0, 0, 0, 0]), jgh, jgh, jgh, jgh, jgh, jgh, jgh, jgh, (100, [], (jenc (jlg 0))), (100, [], (jenc (jlg 1))), (100, [], (jenc (jlg 2))), (100, [], (jenc (jlg 3))), (100, [], (jenc (jlg 4))), (100, [], (jenc (jlg 5))), (100, [], (jenc w)), (101, [], [e0, e1, e2, e3, e4, e5])]) (c1 := 0) (s1 := 0) (c2 := b1) (s2 := b2) (by exact rfl) ?_ (by omega) (by omega)
      refine jT_xiload (v := (0, 0)) (pcN := 80) jIY_312_78 rfl rfl rfl ?_
      refine jT_adv 1 (pcN := 81) (LN := [(5, (0, y5)), (6, (0, u)), (7, (0, 0)), (4, (4, 23)), (0, (4, 0)), (1, (0, y1)), (2, (0, y2)), (3, (4, 22))]) (stN := [(0, 2), (0, u)]) (hsN := [jzY_19, jgh, jgh, jgh, jgh, jgh, (130, [], [16, 17, 18, 19, 20, 21]), (101, [], [0, 0, 0, 0, 0, 0]), jgh, jgh, jgh, jgh, jgh, jgh, jgh, jgh, (100, [], (jenc (jlg 0))), (100, [], (jenc (jlg 1))), (100, [], (jenc (jlg 2))), (100, [], (jenc (jlg 3))), (100, [], (jenc (jlg 4))), (100, [], (jenc (jlg 5))), (100, [], (jenc w)), (101, [], [e0, e1, e2, e3, e4, e5])]) (c1 := 0) (s1 := 0) (c2 := b1) (s2 := b2) (by exact rfl) ?_ (by omega) (by omega)
      refine jT_irem (a := u) (b := 2) (by rfl) (by rfl) (jw_idd (by omega) (by omega)) (jw_idd (by omega) (by omega)) (by omega) ?_
      have hb_q1 := jtm_b (x := u) (y := 2) (by omega) (by omega)
      have hb_q1 : 0 ≤ u.tmod 2 ∧ u.tmod 2 ≤ 1 := ⟨hb_q1.1, by omega⟩
      generalize hq_q1 : u.tmod 2 = q1 at hb_q1 g_0 ⊢
      refine jT_ifF (a := q1) (t := 111) (by rfl) (by rfl) (by rfl) (jw_idd (by omega) (by omega)) (by simp only [jcP] <;> omega) ?_
      refine jT_xiload (v := (0, u)) (pcN := 87) jIY_312_85 rfl rfl rfl ?_
      refine jT_adv 1 (pcN := 90) (LN := [(5, (0, y5)), (6, (0, u)), (7, (0, 0)), (4, (4, 23)), (0, (4, 0)), (1, (0, y1)), (2, (0, y2)), (3, (4, 22))]) (stN := [(5, 5), (0, u)]) (hsN := [jzY_19, jgh, jgh, jgh, jgh, jgh, (130, [], [16, 17, 18, 19, 20, 21]), (101, [], [0, 0, 0, 0, 0, 0]), jgh, jgh, jgh, jgh, jgh, jgh, jgh, jgh, (100, [], (jenc (jlg 0))), (100, [], (jenc (jlg 1))), (100, [], (jenc (jlg 2))), (100, [], (jenc (jlg 3))), (100, [], (jenc (jlg 4))), (100, [], (jenc (jlg 5))), (100, [], (jenc w)), (101, [], [e0, e1, e2, e3, e4, e5])]) (c1 := 0) (s1 := 0) (c2 := b1) (s2 := b2) (by exact rfl) ?_ (by omega) (by omega)
      refine jT_xiload (v := (0, 0)) (pcN := 92) jIY_312_90 rfl rfl rfl ?_
      refine jT_adv 1 (pcN := 93) (LN := [(5, (0, y5)), (6, (0, u)), (7, (0, 0)), (4, (4, 23)), (0, (4, 0)), (1, (0, y1)), (2, (0, y2)), (3, (4, 22))]) (stN := [(0, 2), (0, u)]) (hsN := [jzY_19, jgh, jgh, jgh, jgh, jgh, (130, [], [16, 17, 18, 19, 20, 21]), (101, [], [0, 0, 0, 0, 0, 0]), jgh, jgh, jgh, jgh, jgh, jgh, jgh, jgh, (100, [], (jenc (jlg 0))), (100, [], (jenc (jlg 1))), (100, [], (jenc (jlg 2))), (100, [], (jenc (jlg 3))), (100, [], (jenc (jlg 4))), (100, [], (jenc (jlg 5))), (100, [], (jenc w)), (101, [], [e0, e1, e2, e3, e4, e5])]) (c1 := 0) (s1 := 0) (c2 := b1) (s2 := b2) (by exact rfl) ?_ (by omega) (by omega)
      refine jT_idiv (a := u) (b := 2) (by rfl) (by rfl) (jw_idd (by omega) (by omega)) (jw_idd (by omega) (by omega)) (by omega) ?_
      have hb_q2 := jtd_b0 (x := u) (y := 2) (by omega) (by omega)
      have hb_q2 : 0 ≤ u.tdiv 2 ∧ u.tdiv 2 ≤ 1000000000 := ⟨hb_q2.1, by omega⟩
      generalize hq_q2 : u.tdiv 2 = q2 at hb_q2 ⊢
      refine jT_xistore (v := (0, q2)) (LN := [(6, (0, q2)), (5, (0, y5)), (7, (0, 0)), (4, (4, 23)), (0, (4, 0)), (1, (0, y1)), (2, (0, y2)), (3, (4, 22))]) (pcN := 96) jIY_312_94 rfl rfl rfl rfl ?_
      refine jT_xaload (v := (4, 23)) (pcN := 98) jIY_312_96 rfl rfl rfl ?_
      refine jT_xiload (v := (0, 0)) (pcN := 100) jIY_312_98 rfl rfl rfl ?_
      refine jT_adv 1 (pcN := 101) (LN := [(6, (0, q2)), (5, (0, y5)), (7, (0, 0)), (4, (4, 23)), (0, (4, 0)), (1, (0, y1)), (2, (0, y2)), (3, (4, 22))]) (stN := [(0, 0), (4, 23), (0, 0), (4, 23)]) (hsN := [jzY_19, jgh, jgh, jgh, jgh, jgh, (130, [], [16, 17, 18, 19, 20, 21]), (101, [], [0, 0, 0, 0, 0, 0]), jgh, jgh, jgh, jgh, jgh, jgh, jgh, jgh, (100, [], (jenc (jlg 0))), (100, [], (jenc (jlg 1))), (100, [], (jenc (jlg 2))), (100, [], (jenc (jlg 3))), (100, [], (jenc (jlg 4))), (100, [], (jenc (jlg 5))), (100, [], (jenc w)), (101, [], [e0, e1, e2, e3, e4, e5])]) (c1 := 0) (s1 := 0) (c2 := b1) (s2 := b2) (by exact rfl) ?_ (by omega) (by omega)
      refine jT_lald (x := e0) (a := 23) (j := 0) (fs := []) (X := [e0, e1, e2, e3, e4, e5]) jIY_312_101 rfl rfl rfl rfl ?_
      refine jT_eq (LN := [(6, (0, q2)), (5, (0, y5)), (7, (0, 0)), (4, (4, 23)), (0, (4, 0)), (1, (0, y1)), (2, (0, y2)), (3, (4, 22))]) (stN := [(1, e0), (0, 0), (4, 23)]) (hsN := [jzY_19, jgh, jgh, jgh, jgh, jgh, (130, [], [16, 17, 18, 19, 20, 21]), (101, [], [0, 0, 0, 0, 0, 0]), jgh, jgh, jgh, jgh, jgh, jgh, jgh, jgh, (100, [], (jenc (jlg 0))), (100, [], (jenc (jlg 1))), (100, [], (jenc (jlg 2))), (100, [], (jenc (jlg 3))), (100, [], (jenc (jlg 4))), (100, [], (jenc (jlg 5))), (100, [], (jenc w)), (101, [], [e0, e1, e2, e3, e4, e5])]) rfl rfl rfl ?_
      refine jT_xaload_n (v := (4, 0)) (pcN := 103) jIY_312_102 rfl rfl rfl ?_
      refine jT_xgetf (a := 0) (t := 1) (ci := 14) (fi := 10) (c := jzY_19) (v := (1, 1)) (pcN := 106) jIY_312_103 rfl rfl rfl rfl rfl rfl rfl ?_
      refine jT_xlsub (x := e0) (y := 1) (z := e0 - 1) (pcN := 107) jIY_312_106 rfl (rfl) rfl ?_
      refine jT_adv 1 (pcN := 108) (LN := [(6, (0, q2)), (5, (0, y5)), (7, (0, 0)), (4, (4, 23)), (0, (4, 0)), (1, (0, y1)), (2, (0, y2)), (3, (4, 22))]) (stN := []) (hsN := [jzY_19, jgh, jgh, jgh, jgh, jgh, (130, [], [16, 17, 18, 19, 20, 21]), (101, [], [0, 0, 0, 0, 0, 0]), jgh, jgh, jgh, jgh, jgh, jgh, jgh, jgh, (100, [], (jenc (jlg 0))), (100, [], (jenc (jlg 1))), (100, [], (jenc (jlg 2))), (100, [], (jenc (jlg 3))), (100, [], (jenc (jlg 4))), (100, [], (jenc (jlg 5))), (100, [], (jenc w)), (101, [], [e0 - 1, e1, e2, e3, e4, e5])]) (c1 := 0) (s1 := 0) (c2 := b1) (s2 := b2) (by exact rfl) ?_ (by omega) (by omega)
      refine jT_xgoto (pcN := 73) jIY_312_108 rfl ?_
      refine jT_loc (LN := [(5, (0, y5)), (6, (0, q2)), (7, (0, 0)), (4, (4, 23)), (0, (4, 0)), (1, (0, y1)), (2, (0, y2)), (3, (4, 22))]) (by show List.Nodup [5, 6, 7, 4, 0, 1, 2, 3]; decide) (by intro q hq; simp only [List.mem_cons, List.not_mem_nil, or_false] at hq; rcases hq with rfl | rfl | rfl | rfl | rfl | rfl | rfl | rfl <;> rfl) ?_
      have hs := jst_s (P := 2) (u := u) (n := n) (by decide) h1 hu (by omega)
      rw [hq_q2] at hs
      rw [jsu_1 (by omega), jsc_1 (by omega), hq_q2, show e0 - (jsc 2 n q2 + 1) = e0 - 1 - jsc 2 n q2 by omega] at h
      exact ih q2 (e0 - 1) (by omega) (by omega) hs.2.1 h
theorem jIY_312_111 : jmI (jm 312) 111 = (.iinc 7 1, 3) := by rfl
theorem jIY_312_114 : jmI (jm 312) 114 = (.goto (-86), 3) := by rfl
theorem jYl_sr_69 {xs : List Int} {d b1 b2 : Nat} {Q : Nat → JV → List JC → Prop} {y6 y1 y2 e0 e2 e3 e4 e5 w : Int} : ∀ (n : Nat) (u e1 : Int), 1 ≤ u → u ≤ 1000000000 → u < jp2 n → jT xs d 312 23 73 [(5, (0, jsu 3 n u)), (6, (0, y6)), (7, (0, 1)), (4, (4, 23)), (0, (4, 0)), (1, (0, y1)), (2, (0, y2)), (3, (4, 22))] [] [jzY_19, jgh, jgh, jgh, jgh, jgh, (130, [], [16, 17, 18, 19, 20, 21]), (101, [], [0, 0, 0, 0, 0, 0]), jgh, jgh, jgh, jgh, jgh, jgh, jgh, jgh, (100, [], (jenc (jlg 0))), (100, [], (jenc (jlg 1))), (100, [], (jenc (jlg 2))), (100, [], (jenc (jlg 3))), (100, [], (jenc (jlg 4))), (100, [], (jenc (jlg 5))), (100, [], (jenc w)), (101, [], [e0, e1 + jsc 3 n u, e2, e3, e4, e5])] b1 b2 Q → jT xs d 312 23 35 [(5, (0, u)), (6, (0, y6)), (7, (0, 1)), (4, (4, 23)), (0, (4, 0)), (1, (0, y1)), (2, (0, y2)), (3, (4, 22))] [] [jzY_19, jgh, jgh, jgh, jgh, jgh, (130, [], [16, 17, 18, 19, 20, 21]), (101, [], [0, 0, 0, 0, 0, 0]), jgh, jgh, jgh, jgh, jgh, jgh, jgh, jgh, (100, [], (jenc (jlg 0))), (100, [], (jenc (jlg 1))), (100, [], (jenc (jlg 2))), (100, [], (jenc (jlg 3))), (100, [], (jenc (jlg 4))), (100, [], (jenc (jlg 5))), (100, [], (jenc w)), (101, [], [e0, e1, e2, e3, e4, e5])] b1 b2 Q := by
  intro n
  induction n with
  | zero =>
    intro u e1 h1 h2 hu h
    exact absurd (show u < 1 from hu) (by omega)
  | succ n ih =>
    intro u e1 h1 h2 hu h
    have h_u : 1 ≤ u ∧ u ≤ 1000000000 := ⟨h1, h2⟩
    rcases (show (0 ≤ (u.tmod 3) - 1) ∨ ((u.tmod 3) - 1 < 0) by omega) with g_0 | g_0
    · refine jT_xiload (v := (0, u)) (pcN := 37) jIY_312_35 rfl rfl rfl ?_
      refine jT_adv 1 (pcN := 40) (LN := [(5, (0, u)), (6, (0, y6)), (7, (0, 1)), (4, (4, 23)), (0, (4, 0)), (1, (0, y1)), (2, (0, y2)), (3, (4, 22))]) (stN := [(5, 5), (0, u)]) (hsN := [jzY_19, jgh, jgh, jgh, jgh, jgh, (130, [], [16, 17, 18, 19, 20, 21]), (101, [], [0, 0, 0, 0, 0, 0]), jgh, jgh, jgh, jgh, jgh, jgh, jgh, jgh, (100, [], (jenc (jlg 0))), (100, [], (jenc (jlg 1))), (100, [], (jenc (jlg 2))), (100, [], (jenc (jlg 3))), (100, [], (jenc (jlg 4))), (100, [], (jenc (jlg 5))), (100, [], (jenc w)), (101, [], [e0, e1, e2, e3, e4, e5])]) (c1 := 0) (s1 := 0) (c2 := b1) (s2 := b2) (by exact rfl) ?_ (by omega) (by omega)
      refine jT_xiload (v := (0, 1)) (pcN := 42) jIY_312_40 rfl rfl rfl ?_
      refine jT_adv 1 (pcN := 43) (LN := [(5, (0, u)), (6, (0, y6)), (7, (0, 1)), (4, (4, 23)), (0, (4, 0)), (1, (0, y1)), (2, (0, y2)), (3, (4, 22))]) (stN := [(0, 3), (0, u)]) (hsN := [jzY_19, jgh, jgh, jgh, jgh, jgh, (130, [], [16, 17, 18, 19, 20, 21]), (101, [], [0, 0, 0, 0, 0, 0]), jgh, jgh, jgh, jgh, jgh, jgh, jgh, jgh, (100, [], (jenc (jlg 0))), (100, [], (jenc (jlg 1))), (100, [], (jenc (jlg 2))), (100, [], (jenc (jlg 3))), (100, [], (jenc (jlg 4))), (100, [], (jenc (jlg 5))), (100, [], (jenc w)), (101, [], [e0, e1, e2, e3, e4, e5])]) (c1 := 0) (s1 := 0) (c2 := b1) (s2 := b2) (by exact rfl) ?_ (by omega) (by omega)
      refine jT_irem (a := u) (b := 3) (by rfl) (by rfl) (jw_idd (by omega) (by omega)) (jw_idd (by omega) (by omega)) (by omega) ?_
      have hb_q1 := jtm_b (x := u) (y := 3) (by omega) (by omega)
      have hb_q1 : 0 ≤ u.tmod 3 ∧ u.tmod 3 ≤ 2 := ⟨hb_q1.1, by omega⟩
      generalize hq_q1 : u.tmod 3 = q1 at hb_q1 g_0 ⊢
      refine jT_ifT (a := q1) (t := 73) (by rfl) (by rfl) (by rfl) (jw_idd (by omega) (by omega)) (by simp only [jcP] <;> omega) ?_
      refine jT_loc (LN := [(5, (0, u)), (6, (0, y6)), (7, (0, 1)), (4, (4, 23)), (0, (4, 0)), (1, (0, y1)), (2, (0, y2)), (3, (4, 22))]) (by show List.Nodup [5, 6, 7, 4, 0, 1, 2, 3]; decide) (by intro q hq; simp only [List.mem_cons, List.not_mem_nil, or_false] at hq; rcases hq with rfl | rfl | rfl | rfl | rfl | rfl | rfl | rfl <;> rfl) ?_
      rw [jsu_0 (by omega), jsc_0 (by omega), Int.add_zero] at h
      exact h
    · refine jT_xiload (v := (0, u)) (pcN := 37) jIY_312_35 rfl rfl rfl ?_
      refine jT_adv 1 (pcN := 40) (LN := [(5, (0, u)), (6, (0, y6)), (7, (0, 1)), (4, (4, 23)), (0, (4, 0)), (1, (0, y1)), (2, (0, y2)), (3, (4, 22))]) (stN := [(5, 5), (0, u)]) (hsN := [jzY_19, jgh, jgh, jgh, jgh, jgh, (130, [], [16, 17, 18, 19, 20, 21]), (101, [], [0, 0, 0, 0, 0, 0]), jgh, jgh, jgh, jgh, jgh, jgh, jgh, jgh, (100, [], (jenc (jlg 0))), (100, [], (jenc (jlg 1))), (100, [], (jenc (jlg 2))), (100, [], (jenc (jlg 3))), (100, [], (jenc (jlg 4))), (100, [], (jenc (jlg 5))), (100, [], (jenc w)), (101, [], [e0, e1, e2, e3, e4, e5])]) (c1 := 0) (s1 := 0) (c2 := b1) (s2 := b2) (by exact rfl) ?_ (by omega) (by omega)
      refine jT_xiload (v := (0, 1)) (pcN := 42) jIY_312_40 rfl rfl rfl ?_
      refine jT_adv 1 (pcN := 43) (LN := [(5, (0, u)), (6, (0, y6)), (7, (0, 1)), (4, (4, 23)), (0, (4, 0)), (1, (0, y1)), (2, (0, y2)), (3, (4, 22))]) (stN := [(0, 3), (0, u)]) (hsN := [jzY_19, jgh, jgh, jgh, jgh, jgh, (130, [], [16, 17, 18, 19, 20, 21]), (101, [], [0, 0, 0, 0, 0, 0]), jgh, jgh, jgh, jgh, jgh, jgh, jgh, jgh, (100, [], (jenc (jlg 0))), (100, [], (jenc (jlg 1))), (100, [], (jenc (jlg 2))), (100, [], (jenc (jlg 3))), (100, [], (jenc (jlg 4))), (100, [], (jenc (jlg 5))), (100, [], (jenc w)), (101, [], [e0, e1, e2, e3, e4, e5])]) (c1 := 0) (s1 := 0) (c2 := b1) (s2 := b2) (by exact rfl) ?_ (by omega) (by omega)
      refine jT_irem (a := u) (b := 3) (by rfl) (by rfl) (jw_idd (by omega) (by omega)) (jw_idd (by omega) (by omega)) (by omega) ?_
      have hb_q1 := jtm_b (x := u) (y := 3) (by omega) (by omega)
      have hb_q1 : 0 ≤ u.tmod 3 ∧ u.tmod 3 ≤ 2 := ⟨hb_q1.1, by omega⟩
      generalize hq_q1 : u.tmod 3 = q1 at hb_q1 g_0 ⊢
      refine jT_ifF (a := q1) (t := 73) (by rfl) (by rfl) (by rfl) (jw_idd (by omega) (by omega)) (by simp only [jcP] <;> omega) ?_
      refine jT_xiload (v := (0, u)) (pcN := 49) jIY_312_47 rfl rfl rfl ?_
      refine jT_adv 1 (pcN := 52) (LN := [(5, (0, u)), (6, (0, y6)), (7, (0, 1)), (4, (4, 23)), (0, (4, 0)), (1, (0, y1)), (2, (0, y2)), (3, (4, 22))]) (stN := [(5, 5), (0, u)]) (hsN := [jzY_19, jgh, jgh, jgh, jgh, jgh, (130, [], [16, 17, 18, 19, 20, 21]), (101, [], [0, 0, 0, 0, 0, 0]), jgh, jgh, jgh, jgh, jgh, jgh, jgh, jgh, (100, [], (jenc (jlg 0))), (100, [], (jenc (jlg 1))), (100, [], (jenc (jlg 2))), (100, [], (jenc (jlg 3))), (100, [], (jenc (jlg 4))), (100, [], (jenc (jlg 5))), (100, [], (jenc w)), (101, [], [e0, e1, e2, e3, e4, e5])]) (c1 := 0) (s1 := 0) (c2 := b1) (s2 := b2) (by exact rfl) ?_ (by omega) (by omega)
      refine jT_xiload (v := (0, 1)) (pcN := 54) jIY_312_52 rfl rfl rfl ?_
      refine jT_adv 1 (pcN := 55) (LN := [(5, (0, u)), (6, (0, y6)), (7, (0, 1)), (4, (4, 23)), (0, (4, 0)), (1, (0, y1)), (2, (0, y2)), (3, (4, 22))]) (stN := [(0, 3), (0, u)]) (hsN := [jzY_19, jgh, jgh, jgh, jgh, jgh, (130, [], [16, 17, 18, 19, 20, 21]), (101, [], [0, 0, 0, 0, 0, 0]), jgh, jgh, jgh, jgh, jgh, jgh, jgh, jgh, (100, [], (jenc (jlg 0))), (100, [], (jenc (jlg 1))), (100, [], (jenc (jlg 2))), (100, [], (jenc (jlg 3))), (100, [], (jenc (jlg 4))), (100, [], (jenc (jlg 5))), (100, [], (jenc w)), (101, [], [e0, e1, e2, e3, e4, e5])]) (c1 := 0) (s1 := 0) (c2 := b1) (s2 := b2) (by exact rfl) ?_ (by omega) (by omega)
      refine jT_idiv (a := u) (b := 3) (by rfl) (by rfl) (jw_idd (by omega) (by omega)) (jw_idd (by omega) (by omega)) (by omega) ?_
      have hb_q2 := jtd_b0 (x := u) (y := 3) (by omega) (by omega)
      have hb_q2 : 0 ≤ u.tdiv 3 ∧ u.tdiv 3 ≤ 1000000000 := ⟨hb_q2.1, by omega⟩
      generalize hq_q2 : u.tdiv 3 = q2 at hb_q2 ⊢
      refine jT_xistore (v := (0, q2)) (LN := [(5, (0, q2)), (6, (0, y6)), (7, (0, 1)), (4, (4, 23)), (0, (4, 0)), (1, (0, y1)), (2, (0, y2)), (3, (4, 22))]) (pcN := 58) jIY_312_56 rfl rfl rfl rfl ?_
      refine jT_xaload (v := (4, 23)) (pcN := 60) jIY_312_58 rfl rfl rfl ?_
      refine jT_xiload (v := (0, 1)) (pcN := 62) jIY_312_60 rfl rfl rfl ?_
      refine jT_adv 1 (pcN := 63) (LN := [(5, (0, q2)), (6, (0, y6)), (7, (0, 1)), (4, (4, 23)), (0, (4, 0)), (1, (0, y1)), (2, (0, y2)), (3, (4, 22))]) (stN := [(0, 1), (4, 23), (0, 1), (4, 23)]) (hsN := [jzY_19, jgh, jgh, jgh, jgh, jgh, (130, [], [16, 17, 18, 19, 20, 21]), (101, [], [0, 0, 0, 0, 0, 0]), jgh, jgh, jgh, jgh, jgh, jgh, jgh, jgh, (100, [], (jenc (jlg 0))), (100, [], (jenc (jlg 1))), (100, [], (jenc (jlg 2))), (100, [], (jenc (jlg 3))), (100, [], (jenc (jlg 4))), (100, [], (jenc (jlg 5))), (100, [], (jenc w)), (101, [], [e0, e1, e2, e3, e4, e5])]) (c1 := 0) (s1 := 0) (c2 := b1) (s2 := b2) (by exact rfl) ?_ (by omega) (by omega)
      refine jT_lald (x := e1) (a := 23) (j := 1) (fs := []) (X := [e0, e1, e2, e3, e4, e5]) jIY_312_63 rfl rfl rfl rfl ?_
      refine jT_eq (LN := [(5, (0, q2)), (6, (0, y6)), (7, (0, 1)), (4, (4, 23)), (0, (4, 0)), (1, (0, y1)), (2, (0, y2)), (3, (4, 22))]) (stN := [(1, e1), (0, 1), (4, 23)]) (hsN := [jzY_19, jgh, jgh, jgh, jgh, jgh, (130, [], [16, 17, 18, 19, 20, 21]), (101, [], [0, 0, 0, 0, 0, 0]), jgh, jgh, jgh, jgh, jgh, jgh, jgh, jgh, (100, [], (jenc (jlg 0))), (100, [], (jenc (jlg 1))), (100, [], (jenc (jlg 2))), (100, [], (jenc (jlg 3))), (100, [], (jenc (jlg 4))), (100, [], (jenc (jlg 5))), (100, [], (jenc w)), (101, [], [e0, e1, e2, e3, e4, e5])]) rfl rfl rfl ?_
      refine jT_xaload_n (v := (4, 0)) (pcN := 65) jIY_312_64 rfl rfl rfl ?_
      refine jT_xgetf (a := 0) (t := 1) (ci := 14) (fi := 10) (c := jzY_19) (v := (1, 1)) (pcN := 68) jIY_312_65 rfl rfl rfl rfl rfl rfl rfl ?_
      refine jT_xladd (x := e1) (y := 1) (z := e1 + 1) (pcN := 69) jIY_312_68 rfl (rfl) rfl ?_
      refine jT_adv 1 (pcN := 70) (LN := [(5, (0, q2)), (6, (0, y6)), (7, (0, 1)), (4, (4, 23)), (0, (4, 0)), (1, (0, y1)), (2, (0, y2)), (3, (4, 22))]) (stN := []) (hsN := [jzY_19, jgh, jgh, jgh, jgh, jgh, (130, [], [16, 17, 18, 19, 20, 21]), (101, [], [0, 0, 0, 0, 0, 0]), jgh, jgh, jgh, jgh, jgh, jgh, jgh, jgh, (100, [], (jenc (jlg 0))), (100, [], (jenc (jlg 1))), (100, [], (jenc (jlg 2))), (100, [], (jenc (jlg 3))), (100, [], (jenc (jlg 4))), (100, [], (jenc (jlg 5))), (100, [], (jenc w)), (101, [], [e0, e1 + 1, e2, e3, e4, e5])]) (c1 := 0) (s1 := 0) (c2 := b1) (s2 := b2) (by exact rfl) ?_ (by omega) (by omega)
      refine jT_xgoto (pcN := 35) jIY_312_70 rfl ?_
      refine jT_loc (LN := [(5, (0, q2)), (6, (0, y6)), (7, (0, 1)), (4, (4, 23)), (0, (4, 0)), (1, (0, y1)), (2, (0, y2)), (3, (4, 22))]) (by show List.Nodup [5, 6, 7, 4, 0, 1, 2, 3]; decide) (by intro q hq; simp only [List.mem_cons, List.not_mem_nil, or_false] at hq; rcases hq with rfl | rfl | rfl | rfl | rfl | rfl | rfl | rfl <;> rfl) ?_
      have hs := jst_s (P := 3) (u := u) (n := n) (by decide) h1 hu (by omega)
      rw [hq_q2] at hs
      rw [jsu_1 (by omega), jsc_1 (by omega), hq_q2, show e1 + (jsc 3 n q2 + 1) = e1 + 1 + jsc 3 n q2 by omega] at h
      exact ih q2 (e1 + 1) (by omega) (by omega) hs.2.1 h
theorem jYl_sr_70 {xs : List Int} {d b1 b2 : Nat} {Q : Nat → JV → List JC → Prop} {y5 y1 y2 e0 e2 e3 e4 e5 w : Int} : ∀ (n : Nat) (u e1 : Int), 1 ≤ u → u ≤ 1000000000 → u < jp2 n → jT xs d 312 23 111 [(5, (0, y5)), (6, (0, jsu 3 n u)), (7, (0, 1)), (4, (4, 23)), (0, (4, 0)), (1, (0, y1)), (2, (0, y2)), (3, (4, 22))] [] [jzY_19, jgh, jgh, jgh, jgh, jgh, (130, [], [16, 17, 18, 19, 20, 21]), (101, [], [0, 0, 0, 0, 0, 0]), jgh, jgh, jgh, jgh, jgh, jgh, jgh, jgh, (100, [], (jenc (jlg 0))), (100, [], (jenc (jlg 1))), (100, [], (jenc (jlg 2))), (100, [], (jenc (jlg 3))), (100, [], (jenc (jlg 4))), (100, [], (jenc (jlg 5))), (100, [], (jenc w)), (101, [], [e0, e1 - jsc 3 n u, e2, e3, e4, e5])] b1 b2 Q → jT xs d 312 23 73 [(5, (0, y5)), (6, (0, u)), (7, (0, 1)), (4, (4, 23)), (0, (4, 0)), (1, (0, y1)), (2, (0, y2)), (3, (4, 22))] [] [jzY_19, jgh, jgh, jgh, jgh, jgh, (130, [], [16, 17, 18, 19, 20, 21]), (101, [], [0, 0, 0, 0, 0, 0]), jgh, jgh, jgh, jgh, jgh, jgh, jgh, jgh, (100, [], (jenc (jlg 0))), (100, [], (jenc (jlg 1))), (100, [], (jenc (jlg 2))), (100, [], (jenc (jlg 3))), (100, [], (jenc (jlg 4))), (100, [], (jenc (jlg 5))), (100, [], (jenc w)), (101, [], [e0, e1, e2, e3, e4, e5])] b1 b2 Q := by
  intro n
  induction n with
  | zero =>
    intro u e1 h1 h2 hu h
    exact absurd (show u < 1 from hu) (by omega)
  | succ n ih =>
    intro u e1 h1 h2 hu h
    have h_u : 1 ≤ u ∧ u ≤ 1000000000 := ⟨h1, h2⟩
    rcases (show (0 ≤ (u.tmod 3) - 1) ∨ ((u.tmod 3) - 1 < 0) by omega) with g_0 | g_0
    · refine jT_xiload (v := (0, u)) (pcN := 75) jIY_312_73 rfl rfl rfl ?_
      refine jT_adv 1 (pcN := 78) (LN := [(5, (0, y5)), (6, (0, u)), (7, (0, 1)), (4, (4, 23)), (0, (4, 0)), (1, (0, y1)), (2, (0, y2)), (3, (4, 22))]) (stN := [(5, 5), (0, u)]) (hsN := [jzY_19, jgh, jgh, jgh, jgh, jgh, (130, [], [16, 17, 18, 19, 20, 21]), (101, [], [0, 0, 0, 0, 0, 0]), jgh, jgh, jgh, jgh, jgh, jgh, jgh, jgh, (100, [], (jenc (jlg 0))), (100, [], (jenc (jlg 1))), (100, [], (jenc (jlg 2))), (100, [], (jenc (jlg 3))), (100, [], (jenc (jlg 4))), (100, [], (jenc (jlg 5))), (100, [], (jenc w)), (101, [], [e0, e1, e2, e3, e4, e5])]) (c1 := 0) (s1 := 0) (c2 := b1) (s2 := b2) (by exact rfl) ?_ (by omega) (by omega)
      refine jT_xiload (v := (0, 1)) (pcN := 80) jIY_312_78 rfl rfl rfl ?_
      refine jT_adv 1 (pcN := 81) (LN := [(5, (0, y5)), (6, (0, u)), (7, (0, 1)), (4, (4, 23)), (0, (4, 0)), (1, (0, y1)), (2, (0, y2)), (3, (4, 22))]) (stN := [(0, 3), (0, u)]) (hsN := [jzY_19, jgh, jgh, jgh, jgh, jgh, (130, [], [16, 17, 18, 19, 20, 21]), (101, [], [0, 0, 0, 0, 0, 0]), jgh, jgh, jgh, jgh, jgh, jgh, jgh, jgh, (100, [], (jenc (jlg 0))), (100, [], (jenc (jlg 1))), (100, [], (jenc (jlg 2))), (100, [], (jenc (jlg 3))), (100, [], (jenc (jlg 4))), (100, [], (jenc (jlg 5))), (100, [], (jenc w)), (101, [], [e0, e1, e2, e3, e4, e5])]) (c1 := 0) (s1 := 0) (c2 := b1) (s2 := b2) (by exact rfl) ?_ (by omega) (by omega)
      refine jT_irem (a := u) (b := 3) (by rfl) (by rfl) (jw_idd (by omega) (by omega)) (jw_idd (by omega) (by omega)) (by omega) ?_
      have hb_q1 := jtm_b (x := u) (y := 3) (by omega) (by omega)
      have hb_q1 : 0 ≤ u.tmod 3 ∧ u.tmod 3 ≤ 2 := ⟨hb_q1.1, by omega⟩
      generalize hq_q1 : u.tmod 3 = q1 at hb_q1 g_0 ⊢
      refine jT_ifT (a := q1) (t := 111) (by rfl) (by rfl) (by rfl) (jw_idd (by omega) (by omega)) (by simp only [jcP] <;> omega) ?_
      refine jT_loc (LN := [(5, (0, y5)), (6, (0, u)), (7, (0, 1)), (4, (4, 23)), (0, (4, 0)), (1, (0, y1)), (2, (0, y2)), (3, (4, 22))]) (by show List.Nodup [5, 6, 7, 4, 0, 1, 2, 3]; decide) (by intro q hq; simp only [List.mem_cons, List.not_mem_nil, or_false] at hq; rcases hq with rfl | rfl | rfl | rfl | rfl | rfl | rfl | rfl <;> rfl) ?_
      rw [jsu_0 (by omega), jsc_0 (by omega), Int.sub_zero] at h
      exact h
    · refine jT_xiload (v := (0, u)) (pcN := 75) jIY_312_73 rfl rfl rfl ?_
      refine jT_adv 1 (pcN := 78) (LN := [(5, (0, y5)), (6, (0, u)), (7, (0, 1)), (4, (4, 23)), (0, (4, 0)), (1, (0, y1)), (2, (0, y2)), (3, (4, 22))]) (stN := [(5, 5), (0, u)]) (hsN := [jzY_19, jgh, jgh, jgh, jgh, jgh, (130, [], [16, 17, 18, 19, 20, 21]), (101, [], [0, 0, 0, 0, 0, 0]), jgh, jgh, jgh, jgh, jgh, jgh, jgh, jgh, (100, [], (jenc (jlg 0))), (100, [], (jenc (jlg 1))), (100, [], (jenc (jlg 2))), (100, [], (jenc (jlg 3))), (100, [], (jenc (jlg 4))), (100, [], (jenc (jlg 5))), (100, [], (jenc w)), (101, [], [e0, e1, e2, e3, e4, e5])]) (c1 := 0) (s1 := 0) (c2 := b1) (s2 := b2) (by exact rfl) ?_ (by omega) (by omega)
      refine jT_xiload (v := (0, 1)) (pcN := 80) jIY_312_78 rfl rfl rfl ?_
      refine jT_adv 1 (pcN := 81) (LN := [(5, (0, y5)), (6, (0, u)), (7, (0, 1)), (4, (4, 23)), (0, (4, 0)), (1, (0, y1)), (2, (0, y2)), (3, (4, 22))]) (stN := [(0, 3), (0, u)]) (hsN := [jzY_19, jgh, jgh, jgh, jgh, jgh, (130, [], [16, 17, 18, 19, 20, 21]), (101, [], [0, 0, 0, 0, 0, 0]), jgh, jgh, jgh, jgh, jgh, jgh, jgh, jgh, (100, [], (jenc (jlg 0))), (100, [], (jenc (jlg 1))), (100, [], (jenc (jlg 2))), (100, [], (jenc (jlg 3))), (100, [], (jenc (jlg 4))), (100, [], (jenc (jlg 5))), (100, [], (jenc w)), (101, [], [e0, e1, e2, e3, e4, e5])]) (c1 := 0) (s1 := 0) (c2 := b1) (s2 := b2) (by exact rfl) ?_ (by omega) (by omega)
      refine jT_irem (a := u) (b := 3) (by rfl) (by rfl) (jw_idd (by omega) (by omega)) (jw_idd (by omega) (by omega)) (by omega) ?_
      have hb_q1 := jtm_b (x := u) (y := 3) (by omega) (by omega)
      have hb_q1 : 0 ≤ u.tmod 3 ∧ u.tmod 3 ≤ 2 := ⟨hb_q1.1, by omega⟩
      generalize hq_q1 : u.tmod 3 = q1 at hb_q1 g_0 ⊢
      refine jT_ifF (a := q1) (t := 111) (by rfl) (by rfl) (by rfl) (jw_idd (by omega) (by omega)) (by simp only [jcP] <;> omega) ?_
      refine jT_xiload (v := (0, u)) (pcN := 87) jIY_312_85 rfl rfl rfl ?_
      refine jT_adv 1 (pcN := 90) (LN := [(5, (0, y5)), (6, (0, u)), (7, (0, 1)), (4, (4, 23)), (0, (4, 0)), (1, (0, y1)), (2, (0, y2)), (3, (4, 22))]) (stN := [(5, 5), (0, u)]) (hsN := [jzY_19, jgh, jgh, jgh, jgh, jgh, (130, [], [16, 17, 18, 19, 20, 21]), (101, [], [0, 0, 0, 0, 0, 0]), jgh, jgh, jgh, jgh, jgh, jgh, jgh, jgh, (100, [], (jenc (jlg 0))), (100, [], (jenc (jlg 1))), (100, [], (jenc (jlg 2))), (100, [], (jenc (jlg 3))), (100, [], (jenc (jlg 4))), (100, [], (jenc (jlg 5))), (100, [], (jenc w)), (101, [], [e0, e1, e2, e3, e4, e5])]) (c1 := 0) (s1 := 0) (c2 := b1) (s2 := b2) (by exact rfl) ?_ (by omega) (by omega)
      refine jT_xiload (v := (0, 1)) (pcN := 92) jIY_312_90 rfl rfl rfl ?_
      refine jT_adv 1 (pcN := 93) (LN := [(5, (0, y5)), (6, (0, u)), (7, (0, 1)), (4, (4, 23)), (0, (4, 0)), (1, (0, y1)), (2, (0, y2)), (3, (4, 22))]) (stN := [(0, 3), (0, u)]) (hsN := [jzY_19, jgh, jgh, jgh, jgh, jgh, (130, [], [16, 17, 18, 19, 20, 21]), (101, [], [0, 0, 0, 0, 0, 0]), jgh, jgh, jgh, jgh, jgh, jgh, jgh, jgh, (100, [], (jenc (jlg 0))), (100, [], (jenc (jlg 1))), (100, [], (jenc (jlg 2))), (100, [], (jenc (jlg 3))), (100, [], (jenc (jlg 4))), (100, [], (jenc (jlg 5))), (100, [], (jenc w)), (101, [], [e0, e1, e2, e3, e4, e5])]) (c1 := 0) (s1 := 0) (c2 := b1) (s2 := b2) (by exact rfl) ?_ (by omega) (by omega)
      refine jT_idiv (a := u) (b := 3) (by rfl) (by rfl) (jw_idd (by omega) (by omega)) (jw_idd (by omega) (by omega)) (by omega) ?_
      have hb_q2 := jtd_b0 (x := u) (y := 3) (by omega) (by omega)
      have hb_q2 : 0 ≤ u.tdiv 3 ∧ u.tdiv 3 ≤ 1000000000 := ⟨hb_q2.1, by omega⟩
      generalize hq_q2 : u.tdiv 3 = q2 at hb_q2 ⊢
      refine jT_xistore (v := (0, q2)) (LN := [(6, (0, q2)), (5, (0, y5)), (7, (0, 1)), (4, (4, 23)), (0, (4, 0)), (1, (0, y1)), (2, (0, y2)), (3, (4, 22))]) (pcN := 96) jIY_312_94 rfl rfl rfl rfl ?_
      refine jT_xaload (v := (4, 23)) (pcN := 98) jIY_312_96 rfl rfl rfl ?_
      refine jT_xiload (v := (0, 1)) (pcN := 100) jIY_312_98 rfl rfl rfl ?_
      refine jT_adv 1 (pcN := 101) (LN := [(6, (0, q2)), (5, (0, y5)), (7, (0, 1)), (4, (4, 23)), (0, (4, 0)), (1, (0, y1)), (2, (0, y2)), (3, (4, 22))]) (stN := [(0, 1), (4, 23), (0, 1), (4, 23)]) (hsN := [jzY_19, jgh, jgh, jgh, jgh, jgh, (130, [], [16, 17, 18, 19, 20, 21]), (101, [], [0, 0, 0, 0, 0, 0]), jgh, jgh, jgh, jgh, jgh, jgh, jgh, jgh, (100, [], (jenc (jlg 0))), (100, [], (jenc (jlg 1))), (100, [], (jenc (jlg 2))), (100, [], (jenc (jlg 3))), (100, [], (jenc (jlg 4))), (100, [], (jenc (jlg 5))), (100, [], (jenc w)), (101, [], [e0, e1, e2, e3, e4, e5])]) (c1 := 0) (s1 := 0) (c2 := b1) (s2 := b2) (by exact rfl) ?_ (by omega) (by omega)
      refine jT_lald (x := e1) (a := 23) (j := 1) (fs := []) (X := [e0, e1, e2, e3, e4, e5]) jIY_312_101 rfl rfl rfl rfl ?_
      refine jT_eq (LN := [(6, (0, q2)), (5, (0, y5)), (7, (0, 1)), (4, (4, 23)), (0, (4, 0)), (1, (0, y1)), (2, (0, y2)), (3, (4, 22))]) (stN := [(1, e1), (0, 1), (4, 23)]) (hsN := [jzY_19, jgh, jgh, jgh, jgh, jgh, (130, [], [16, 17, 18, 19, 20, 21]), (101, [], [0, 0, 0, 0, 0, 0]), jgh, jgh, jgh, jgh, jgh, jgh, jgh, jgh, (100, [], (jenc (jlg 0))), (100, [], (jenc (jlg 1))), (100, [], (jenc (jlg 2))), (100, [], (jenc (jlg 3))), (100, [], (jenc (jlg 4))), (100, [], (jenc (jlg 5))), (100, [], (jenc w)), (101, [], [e0, e1, e2, e3, e4, e5])]) rfl rfl rfl ?_
      refine jT_xaload_n (v := (4, 0)) (pcN := 103) jIY_312_102 rfl rfl rfl ?_
      refine jT_xgetf (a := 0) (t := 1) (ci := 14) (fi := 10) (c := jzY_19) (v := (1, 1)) (pcN := 106) jIY_312_103 rfl rfl rfl rfl rfl rfl rfl ?_
      refine jT_xlsub (x := e1) (y := 1) (z := e1 - 1) (pcN := 107) jIY_312_106 rfl (rfl) rfl ?_
      refine jT_adv 1 (pcN := 108) (LN := [(6, (0, q2)), (5, (0, y5)), (7, (0, 1)), (4, (4, 23)), (0, (4, 0)), (1, (0, y1)), (2, (0, y2)), (3, (4, 22))]) (stN := []) (hsN := [jzY_19, jgh, jgh, jgh, jgh, jgh, (130, [], [16, 17, 18, 19, 20, 21]), (101, [], [0, 0, 0, 0, 0, 0]), jgh, jgh, jgh, jgh, jgh, jgh, jgh, jgh, (100, [], (jenc (jlg 0))), (100, [], (jenc (jlg 1))), (100, [], (jenc (jlg 2))), (100, [], (jenc (jlg 3))), (100, [], (jenc (jlg 4))), (100, [], (jenc (jlg 5))), (100, [], (jenc w)), (101, [], [e0, e1 - 1, e2, e3, e4, e5])]) (c1 := 0) (s1 := 0) (c2 := b1) (s2 := b2) (by exact rfl) ?_ (by omega) (by omega)
      refine jT_xgoto (pcN := 73) jIY_312_108 rfl ?_
      refine jT_loc (LN := [(5, (0, y5)), (6, (0, q2)), (7, (0, 1)), (4, (4, 23)), (0, (4, 0)), (1, (0, y1)), (2, (0, y2)), (3, (4, 22))]) (by show List.Nodup [5, 6, 7, 4, 0, 1, 2, 3]; decide) (by intro q hq; simp only [List.mem_cons, List.not_mem_nil, or_false] at hq; rcases hq with rfl | rfl | rfl | rfl | rfl | rfl | rfl | rfl <;> rfl) ?_
      have hs := jst_s (P := 3) (u := u) (n := n) (by decide) h1 hu (by omega)
      rw [hq_q2] at hs
      rw [jsu_1 (by omega), jsc_1 (by omega), hq_q2, show e1 - (jsc 3 n q2 + 1) = e1 - 1 - jsc 3 n q2 by omega] at h
      exact ih q2 (e1 - 1) (by omega) (by omega) hs.2.1 h
theorem jYl_sr_71 {xs : List Int} {d b1 b2 : Nat} {Q : Nat → JV → List JC → Prop} {y6 y1 y2 e0 e1 e3 e4 e5 w : Int} : ∀ (n : Nat) (u e2 : Int), 1 ≤ u → u ≤ 1000000000 → u < jp2 n → jT xs d 312 23 73 [(5, (0, jsu 5 n u)), (6, (0, y6)), (7, (0, 2)), (4, (4, 23)), (0, (4, 0)), (1, (0, y1)), (2, (0, y2)), (3, (4, 22))] [] [jzY_19, jgh, jgh, jgh, jgh, jgh, (130, [], [16, 17, 18, 19, 20, 21]), (101, [], [0, 0, 0, 0, 0, 0]), jgh, jgh, jgh, jgh, jgh, jgh, jgh, jgh, (100, [], (jenc (jlg 0))), (100, [], (jenc (jlg 1))), (100, [], (jenc (jlg 2))), (100, [], (jenc (jlg 3))), (100, [], (jenc (jlg 4))), (100, [], (jenc (jlg 5))), (100, [], (jenc w)), (101, [], [e0, e1, e2 + jsc 5 n u, e3, e4, e5])] b1 b2 Q → jT xs d 312 23 35 [(5, (0, u)), (6, (0, y6)), (7, (0, 2)), (4, (4, 23)), (0, (4, 0)), (1, (0, y1)), (2, (0, y2)), (3, (4, 22))] [] [jzY_19, jgh, jgh, jgh, jgh, jgh, (130, [], [16, 17, 18, 19, 20, 21]), (101, [], [0, 0, 0, 0, 0, 0]), jgh, jgh, jgh, jgh, jgh, jgh, jgh, jgh, (100, [], (jenc (jlg 0))), (100, [], (jenc (jlg 1))), (100, [], (jenc (jlg 2))), (100, [], (jenc (jlg 3))), (100, [], (jenc (jlg 4))), (100, [], (jenc (jlg 5))), (100, [], (jenc w)), (101, [], [e0, e1, e2, e3, e4, e5])] b1 b2 Q := by
  intro n
  induction n with
  | zero =>
    intro u e2 h1 h2 hu h
    exact absurd (show u < 1 from hu) (by omega)
  | succ n ih =>
    intro u e2 h1 h2 hu h
    have h_u : 1 ≤ u ∧ u ≤ 1000000000 := ⟨h1, h2⟩
    rcases (show (0 ≤ (u.tmod 5) - 1) ∨ ((u.tmod 5) - 1 < 0) by omega) with g_0 | g_0
    · refine jT_xiload (v := (0, u)) (pcN := 37) jIY_312_35 rfl rfl rfl ?_
      refine jT_adv 1 (pcN := 40) (LN := [(5, (0, u)), (6, (0, y6)), (7, (0, 2)), (4, (4, 23)), (0, (4, 0)), (1, (0, y1)), (2, (0, y2)), (3, (4, 22))]) (stN := [(5, 5), (0, u)]) (hsN := [jzY_19, jgh, jgh, jgh, jgh, jgh, (130, [], [16, 17, 18, 19, 20, 21]), (101, [], [0, 0, 0, 0, 0, 0]), jgh, jgh, jgh, jgh, jgh, jgh, jgh, jgh, (100, [], (jenc (jlg 0))), (100, [], (jenc (jlg 1))), (100, [], (jenc (jlg 2))), (100, [], (jenc (jlg 3))), (100, [], (jenc (jlg 4))), (100, [], (jenc (jlg 5))), (100, [], (jenc w)), (101, [], [e0, e1, e2, e3, e4, e5])]) (c1 := 0) (s1 := 0) (c2 := b1) (s2 := b2) (by exact rfl) ?_ (by omega) (by omega)
      refine jT_xiload (v := (0, 2)) (pcN := 42) jIY_312_40 rfl rfl rfl ?_
      refine jT_adv 1 (pcN := 43) (LN := [(5, (0, u)), (6, (0, y6)), (7, (0, 2)), (4, (4, 23)), (0, (4, 0)), (1, (0, y1)), (2, (0, y2)), (3, (4, 22))]) (stN := [(0, 5), (0, u)]) (hsN := [jzY_19, jgh, jgh, jgh, jgh, jgh, (130, [], [16, 17, 18, 19, 20, 21]), (101, [], [0, 0, 0, 0, 0, 0]), jgh, jgh, jgh, jgh, jgh, jgh, jgh, jgh, (100, [], (jenc (jlg 0))), (100, [], (jenc (jlg 1))), (100, [], (jenc (jlg 2))), (100, [], (jenc (jlg 3))), (100, [], (jenc (jlg 4))), (100, [], (jenc (jlg 5))), (100, [], (jenc w)), (101, [], [e0, e1, e2, e3, e4, e5])]) (c1 := 0) (s1 := 0) (c2 := b1) (s2 := b2) (by exact rfl) ?_ (by omega) (by omega)
      refine jT_irem (a := u) (b := 5) (by rfl) (by rfl) (jw_idd (by omega) (by omega)) (jw_idd (by omega) (by omega)) (by omega) ?_
      have hb_q1 := jtm_b (x := u) (y := 5) (by omega) (by omega)
      have hb_q1 : 0 ≤ u.tmod 5 ∧ u.tmod 5 ≤ 4 := ⟨hb_q1.1, by omega⟩
      generalize hq_q1 : u.tmod 5 = q1 at hb_q1 g_0 ⊢
      refine jT_ifT (a := q1) (t := 73) (by rfl) (by rfl) (by rfl) (jw_idd (by omega) (by omega)) (by simp only [jcP] <;> omega) ?_
      refine jT_loc (LN := [(5, (0, u)), (6, (0, y6)), (7, (0, 2)), (4, (4, 23)), (0, (4, 0)), (1, (0, y1)), (2, (0, y2)), (3, (4, 22))]) (by show List.Nodup [5, 6, 7, 4, 0, 1, 2, 3]; decide) (by intro q hq; simp only [List.mem_cons, List.not_mem_nil, or_false] at hq; rcases hq with rfl | rfl | rfl | rfl | rfl | rfl | rfl | rfl <;> rfl) ?_
      rw [jsu_0 (by omega), jsc_0 (by omega), Int.add_zero] at h
      exact h
    · refine jT_xiload (v := (0, u)) (pcN := 37) jIY_312_35 rfl rfl rfl ?_
      refine jT_adv 1 (pcN := 40) (LN := [(5, (0, u)), (6, (0, y6)), (7, (0, 2)), (4, (4, 23)), (0, (4, 0)), (1, (0, y1)), (2, (0, y2)), (3, (4, 22))]) (stN := [(5, 5), (0, u)]) (hsN := [jzY_19, jgh, jgh, jgh, jgh, jgh, (130, [], [16, 17, 18, 19, 20, 21]), (101, [], [0, 0, 0, 0, 0, 0]), jgh, jgh, jgh, jgh, jgh, jgh, jgh, jgh, (100, [], (jenc (jlg 0))), (100, [], (jenc (jlg 1))), (100, [], (jenc (jlg 2))), (100, [], (jenc (jlg 3))), (100, [], (jenc (jlg 4))), (100, [], (jenc (jlg 5))), (100, [], (jenc w)), (101, [], [e0, e1, e2, e3, e4, e5])]) (c1 := 0) (s1 := 0) (c2 := b1) (s2 := b2) (by exact rfl) ?_ (by omega) (by omega)
      refine jT_xiload (v := (0, 2)) (pcN := 42) jIY_312_40 rfl rfl rfl ?_
      refine jT_adv 1 (pcN := 43) (LN := [(5, (0, u)), (6, (0, y6)), (7, (0, 2)), (4, (4, 23)), (0, (4, 0)), (1, (0, y1)), (2, (0, y2)), (3, (4, 22))]) (stN := [(0, 5), (0, u)]) (hsN := [jzY_19, jgh, jgh, jgh, jgh, jgh, (130, [], [16, 17, 18, 19, 20, 21]), (101, [], [0, 0, 0, 0, 0, 0]), jgh, jgh, jgh, jgh, jgh, jgh, jgh, jgh, (100, [], (jenc (jlg 0))), (100, [], (jenc (jlg 1))), (100, [], (jenc (jlg 2))), (100, [], (jenc (jlg 3))), (100, [], (jenc (jlg 4))), (100, [], (jenc (jlg 5))), (100, [], (jenc w)), (101, [], [e0, e1, e2, e3, e4, e5])]) (c1 := 0) (s1 := 0) (c2 := b1) (s2 := b2) (by exact rfl) ?_ (by omega) (by omega)
      refine jT_irem (a := u) (b := 5) (by rfl) (by rfl) (jw_idd (by omega) (by omega)) (jw_idd (by omega) (by omega)) (by omega) ?_
      have hb_q1 := jtm_b (x := u) (y := 5) (by omega) (by omega)
      have hb_q1 : 0 ≤ u.tmod 5 ∧ u.tmod 5 ≤ 4 := ⟨hb_q1.1, by omega⟩
      generalize hq_q1 : u.tmod 5 = q1 at hb_q1 g_0 ⊢
      refine jT_ifF (a := q1) (t := 73) (by rfl) (by rfl) (by rfl) (jw_idd (by omega) (by omega)) (by simp only [jcP] <;> omega) ?_
      refine jT_xiload (v := (0, u)) (pcN := 49) jIY_312_47 rfl rfl rfl ?_
      refine jT_adv 1 (pcN := 52) (LN := [(5, (0, u)), (6, (0, y6)), (7, (0, 2)), (4, (4, 23)), (0, (4, 0)), (1, (0, y1)), (2, (0, y2)), (3, (4, 22))]) (stN := [(5, 5), (0, u)]) (hsN := [jzY_19, jgh, jgh, jgh, jgh, jgh, (130, [], [16, 17, 18, 19, 20, 21]), (101, [], [0, 0, 0, 0, 0, 0]), jgh, jgh, jgh, jgh, jgh, jgh, jgh, jgh, (100, [], (jenc (jlg 0))), (100, [], (jenc (jlg 1))), (100, [], (jenc (jlg 2))), (100, [], (jenc (jlg 3))), (100, [], (jenc (jlg 4))), (100, [], (jenc (jlg 5))), (100, [], (jenc w)), (101, [], [e0, e1, e2, e3, e4, e5])]) (c1 := 0) (s1 := 0) (c2 := b1) (s2 := b2) (by exact rfl) ?_ (by omega) (by omega)
      refine jT_xiload (v := (0, 2)) (pcN := 54) jIY_312_52 rfl rfl rfl ?_
      refine jT_adv 1 (pcN := 55) (LN := [(5, (0, u)), (6, (0, y6)), (7, (0, 2)), (4, (4, 23)), (0, (4, 0)), (1, (0, y1)), (2, (0, y2)), (3, (4, 22))]) (stN := [(0, 5), (0, u)]) (hsN := [jzY_19, jgh, jgh, jgh, jgh, jgh, (130, [], [16, 17, 18, 19, 20, 21]), (101, [], [0, 0, 0, 0, 0, 0]), jgh, jgh, jgh, jgh, jgh, jgh, jgh, jgh, (100, [], (jenc (jlg 0))), (100, [], (jenc (jlg 1))), (100, [], (jenc (jlg 2))), (100, [], (jenc (jlg 3))), (100, [], (jenc (jlg 4))), (100, [], (jenc (jlg 5))), (100, [], (jenc w)), (101, [], [e0, e1, e2, e3, e4, e5])]) (c1 := 0) (s1 := 0) (c2 := b1) (s2 := b2) (by exact rfl) ?_ (by omega) (by omega)
      refine jT_idiv (a := u) (b := 5) (by rfl) (by rfl) (jw_idd (by omega) (by omega)) (jw_idd (by omega) (by omega)) (by omega) ?_
      have hb_q2 := jtd_b0 (x := u) (y := 5) (by omega) (by omega)
      have hb_q2 : 0 ≤ u.tdiv 5 ∧ u.tdiv 5 ≤ 1000000000 := ⟨hb_q2.1, by omega⟩
      generalize hq_q2 : u.tdiv 5 = q2 at hb_q2 ⊢
      refine jT_xistore (v := (0, q2)) (LN := [(5, (0, q2)), (6, (0, y6)), (7, (0, 2)), (4, (4, 23)), (0, (4, 0)), (1, (0, y1)), (2, (0, y2)), (3, (4, 22))]) (pcN := 58) jIY_312_56 rfl rfl rfl rfl ?_
      refine jT_xaload (v := (4, 23)) (pcN := 60) jIY_312_58 rfl rfl rfl ?_
      refine jT_xiload (v := (0, 2)) (pcN := 62) jIY_312_60 rfl rfl rfl ?_
      refine jT_adv 1 (pcN := 63) (LN := [(5, (0, q2)), (6, (0, y6)), (7, (0, 2)), (4, (4, 23)), (0, (4, 0)), (1, (0, y1)), (2, (0, y2)), (3, (4, 22))]) (stN := [(0, 2), (4, 23), (0, 2), (4, 23)]) (hsN := [jzY_19, jgh, jgh, jgh, jgh, jgh, (130, [], [16, 17, 18, 19, 20, 21]), (101, [], [0, 0, 0, 0, 0, 0]), jgh, jgh, jgh, jgh, jgh, jgh, jgh, jgh, (100, [], (jenc (jlg 0))), (100, [], (jenc (jlg 1))), (100, [], (jenc (jlg 2))), (100, [], (jenc (jlg 3))), (100, [], (jenc (jlg 4))), (100, [], (jenc (jlg 5))), (100, [], (jenc w)), (101, [], [e0, e1, e2, e3, e4, e5])]) (c1 := 0) (s1 := 0) (c2 := b1) (s2 := b2) (by exact rfl) ?_ (by omega) (by omega)
      refine jT_lald (x := e2) (a := 23) (j := 2) (fs := []) (X := [e0, e1, e2, e3, e4, e5]) jIY_312_63 rfl rfl rfl rfl ?_
      refine jT_eq (LN := [(5, (0, q2)), (6, (0, y6)), (7, (0, 2)), (4, (4, 23)), (0, (4, 0)), (1, (0, y1)), (2, (0, y2)), (3, (4, 22))]) (stN := [(1, e2), (0, 2), (4, 23)]) (hsN := [jzY_19, jgh, jgh, jgh, jgh, jgh, (130, [], [16, 17, 18, 19, 20, 21]), (101, [], [0, 0, 0, 0, 0, 0]), jgh, jgh, jgh, jgh, jgh, jgh, jgh, jgh, (100, [], (jenc (jlg 0))), (100, [], (jenc (jlg 1))), (100, [], (jenc (jlg 2))), (100, [], (jenc (jlg 3))), (100, [], (jenc (jlg 4))), (100, [], (jenc (jlg 5))), (100, [], (jenc w)), (101, [], [e0, e1, e2, e3, e4, e5])]) rfl rfl rfl ?_
      refine jT_xaload_n (v := (4, 0)) (pcN := 65) jIY_312_64 rfl rfl rfl ?_
      refine jT_xgetf (a := 0) (t := 1) (ci := 14) (fi := 10) (c := jzY_19) (v := (1, 1)) (pcN := 68) jIY_312_65 rfl rfl rfl rfl rfl rfl rfl ?_
      refine jT_xladd (x := e2) (y := 1) (z := e2 + 1) (pcN := 69) jIY_312_68 rfl (rfl) rfl ?_
      refine jT_adv 1 (pcN := 70) (LN := [(5, (0, q2)), (6, (0, y6)), (7, (0, 2)), (4, (4, 23)), (0, (4, 0)), (1, (0, y1)), (2, (0, y2)), (3, (4, 22))]) (stN := []) (hsN := [jzY_19, jgh, jgh, jgh, jgh, jgh, (130, [], [16, 17, 18, 19, 20, 21]), (101, [], [0, 0, 0, 0, 0, 0]), jgh, jgh, jgh, jgh, jgh, jgh, jgh, jgh, (100, [], (jenc (jlg 0))), (100, [], (jenc (jlg 1))), (100, [], (jenc (jlg 2))), (100, [], (jenc (jlg 3))), (100, [], (jenc (jlg 4))), (100, [], (jenc (jlg 5))), (100, [], (jenc w)), (101, [], [e0, e1, e2 + 1, e3, e4, e5])]) (c1 := 0) (s1 := 0) (c2 := b1) (s2 := b2) (by exact rfl) ?_ (by omega) (by omega)
      refine jT_xgoto (pcN := 35) jIY_312_70 rfl ?_
      refine jT_loc (LN := [(5, (0, q2)), (6, (0, y6)), (7, (0, 2)), (4, (4, 23)), (0, (4, 0)), (1, (0, y1)), (2, (0, y2)), (3, (4, 22))]) (by show List.Nodup [5, 6, 7, 4, 0, 1, 2, 3]; decide) (by intro q hq; simp only [List.mem_cons, List.not_mem_nil, or_false] at hq; rcases hq with rfl | rfl | rfl | rfl | rfl | rfl | rfl | rfl <;> rfl) ?_
      have hs := jst_s (P := 5) (u := u) (n := n) (by decide) h1 hu (by omega)
      rw [hq_q2] at hs
      rw [jsu_1 (by omega), jsc_1 (by omega), hq_q2, show e2 + (jsc 5 n q2 + 1) = e2 + 1 + jsc 5 n q2 by omega] at h
      exact ih q2 (e2 + 1) (by omega) (by omega) hs.2.1 h
theorem jYl_sr_72 {xs : List Int} {d b1 b2 : Nat} {Q : Nat → JV → List JC → Prop} {y5 y1 y2 e0 e1 e3 e4 e5 w : Int} : ∀ (n : Nat) (u e2 : Int), 1 ≤ u → u ≤ 1000000000 → u < jp2 n → jT xs d 312 23 111 [(5, (0, y5)), (6, (0, jsu 5 n u)), (7, (0, 2)), (4, (4, 23)), (0, (4, 0)), (1, (0, y1)), (2, (0, y2)), (3, (4, 22))] [] [jzY_19, jgh, jgh, jgh, jgh, jgh, (130, [], [16, 17, 18, 19, 20, 21]), (101, [], [0, 0, 0, 0, 0, 0]), jgh, jgh, jgh, jgh, jgh, jgh, jgh, jgh, (100, [], (jenc (jlg 0))), (100, [], (jenc (jlg 1))), (100, [], (jenc (jlg 2))), (100, [], (jenc (jlg 3))), (100, [], (jenc (jlg 4))), (100, [], (jenc (jlg 5))), (100, [], (jenc w)), (101, [], [e0, e1, e2 - jsc 5 n u, e3, e4, e5])] b1 b2 Q → jT xs d 312 23 73 [(5, (0, y5)), (6, (0, u)), (7, (0, 2)), (4, (4, 23)), (0, (4, 0)), (1, (0, y1)), (2, (0, y2)), (3, (4, 22))] [] [jzY_19, jgh, jgh, jgh, jgh, jgh, (130, [], [16, 17, 18, 19, 20, 21]), (101, [], [0, 0, 0, 0, 0, 0]), jgh, jgh, jgh, jgh, jgh, jgh, jgh, jgh, (100, [], (jenc (jlg 0))), (100, [], (jenc (jlg 1))), (100, [], (jenc (jlg 2))), (100, [], (jenc (jlg 3))), (100, [], (jenc (jlg 4))), (100, [], (jenc (jlg 5))), (100, [], (jenc w)), (101, [], [e0, e1, e2, e3, e4, e5])] b1 b2 Q := by
  intro n
  induction n with
  | zero =>
    intro u e2 h1 h2 hu h
    exact absurd (show u < 1 from hu) (by omega)
  | succ n ih =>
    intro u e2 h1 h2 hu h
    have h_u : 1 ≤ u ∧ u ≤ 1000000000 := ⟨h1, h2⟩
    rcases (show (0 ≤ (u.tmod 5) - 1) ∨ ((u.tmod 5) - 1 < 0) by omega) with g_0 | g_0
    · refine jT_xiload (v := (0, u)) (pcN := 75) jIY_312_73 rfl rfl rfl ?_
      refine jT_adv 1 (pcN := 78) (LN := [(5, (0, y5)), (6, (0, u)), (7, (0, 2)), (4, (4, 23)), (0, (4, 0)), (1, (0, y1)), (2, (0, y2)), (3, (4, 22))]) (stN := [(5, 5), (0, u)]) (hsN := [jzY_19, jgh, jgh, jgh, jgh, jgh, (130, [], [16, 17, 18, 19, 20, 21]), (101, [], [0, 0, 0, 0, 0, 0]), jgh, jgh, jgh, jgh, jgh, jgh, jgh, jgh, (100, [], (jenc (jlg 0))), (100, [], (jenc (jlg 1))), (100, [], (jenc (jlg 2))), (100, [], (jenc (jlg 3))), (100, [], (jenc (jlg 4))), (100, [], (jenc (jlg 5))), (100, [], (jenc w)), (101, [], [e0, e1, e2, e3, e4, e5])]) (c1 := 0) (s1 := 0) (c2 := b1) (s2 := b2) (by exact rfl) ?_ (by omega) (by omega)
      refine jT_xiload (v := (0, 2)) (pcN := 80) jIY_312_78 rfl rfl rfl ?_
      refine jT_adv 1 (pcN := 81) (LN := [(5, (0, y5)), (6, (0, u)), (7, (0, 2)), (4, (4, 23)), (0, (4, 0)), (1, (0, y1)), (2, (0, y2)), (3, (4, 22))]) (stN := [(0, 5), (0, u)]) (hsN := [jzY_19, jgh, jgh, jgh, jgh, jgh, (130, [], [16, 17, 18, 19, 20, 21]), (101, [], [0, 0, 0, 0, 0, 0]), jgh, jgh, jgh, jgh, jgh, jgh, jgh, jgh, (100, [], (jenc (jlg 0))), (100, [], (jenc (jlg 1))), (100, [], (jenc (jlg 2))), (100, [], (jenc (jlg 3))), (100, [], (jenc (jlg 4))), (100, [], (jenc (jlg 5))), (100, [], (jenc w)), (101, [], [e0, e1, e2, e3, e4, e5])]) (c1 := 0) (s1 := 0) (c2 := b1) (s2 := b2) (by exact rfl) ?_ (by omega) (by omega)
      refine jT_irem (a := u) (b := 5) (by rfl) (by rfl) (jw_idd (by omega) (by omega)) (jw_idd (by omega) (by omega)) (by omega) ?_
      have hb_q1 := jtm_b (x := u) (y := 5) (by omega) (by omega)
      have hb_q1 : 0 ≤ u.tmod 5 ∧ u.tmod 5 ≤ 4 := ⟨hb_q1.1, by omega⟩
      generalize hq_q1 : u.tmod 5 = q1 at hb_q1 g_0 ⊢
      refine jT_ifT (a := q1) (t := 111) (by rfl) (by rfl) (by rfl) (jw_idd (by omega) (by omega)) (by simp only [jcP] <;> omega) ?_
      refine jT_loc (LN := [(5, (0, y5)), (6, (0, u)), (7, (0, 2)), (4, (4, 23)), (0, (4, 0)), (1, (0, y1)), (2, (0, y2)), (3, (4, 22))]) (by show List.Nodup [5, 6, 7, 4, 0, 1, 2, 3]; decide) (by intro q hq; simp only [List.mem_cons, List.not_mem_nil, or_false] at hq; rcases hq with rfl | rfl | rfl | rfl | rfl | rfl | rfl | rfl <;> rfl) ?_
      rw [jsu_0 (by omega), jsc_0 (by omega), Int.sub_zero] at h
      exact h
    · refine jT_xiload (v := (0, u)) (pcN := 75) jIY_312_73 rfl rfl rfl ?_
      refine jT_adv 1 (pcN := 78) (LN := [(5, (0, y5)), (6, (0, u)), (7, (0, 2)), (4, (4, 23)), (0, (4, 0)), (1, (0, y1)), (2, (0, y2)), (3, (4, 22))]) (stN := [(5, 5), (0, u)]) (hsN := [jzY_19, jgh, jgh, jgh, jgh, jgh, (130, [], [16, 17, 18, 19, 20, 21]), (101, [], [0, 0, 0, 0, 0, 0]), jgh, jgh, jgh, jgh, jgh, jgh, jgh, jgh, (100, [], (jenc (jlg 0))), (100, [], (jenc (jlg 1))), (100, [], (jenc (jlg 2))), (100, [], (jenc (jlg 3))), (100, [], (jenc (jlg 4))), (100, [], (jenc (jlg 5))), (100, [], (jenc w)), (101, [], [e0, e1, e2, e3, e4, e5])]) (c1 := 0) (s1 := 0) (c2 := b1) (s2 := b2) (by exact rfl) ?_ (by omega) (by omega)
      refine jT_xiload (v := (0, 2)) (pcN := 80) jIY_312_78 rfl rfl rfl ?_
      refine jT_adv 1 (pcN := 81) (LN := [(5, (0, y5)), (6, (0, u)), (7, (0, 2)), (4, (4, 23)), (0, (4, 0)), (1, (0, y1)), (2, (0, y2)), (3, (4, 22))]) (stN := [(0, 5), (0, u)]) (hsN := [jzY_19, jgh, jgh, jgh, jgh, jgh, (130, [], [16, 17, 18, 19, 20, 21]), (101, [], [0, 0, 0, 0, 0, 0]), jgh, jgh, jgh, jgh, jgh, jgh, jgh, jgh, (100, [], (jenc (jlg 0))), (100, [], (jenc (jlg 1))), (100, [], (jenc (jlg 2))), (100, [], (jenc (jlg 3))), (100, [], (jenc (jlg 4))), (100, [], (jenc (jlg 5))), (100, [], (jenc w)), (101, [], [e0, e1, e2, e3, e4, e5])]) (c1 := 0) (s1 := 0) (c2 := b1) (s2 := b2) (by exact rfl) ?_ (by omega) (by omega)
      refine jT_irem (a := u) (b := 5) (by rfl) (by rfl) (jw_idd (by omega) (by omega)) (jw_idd (by omega) (by omega)) (by omega) ?_
      have hb_q1 := jtm_b (x := u) (y := 5) (by omega) (by omega)
      have hb_q1 : 0 ≤ u.tmod 5 ∧ u.tmod 5 ≤ 4 := ⟨hb_q1.1, by omega⟩
      generalize hq_q1 : u.tmod 5 = q1 at hb_q1 g_0 ⊢
      refine jT_ifF (a := q1) (t := 111) (by rfl) (by rfl) (by rfl) (jw_idd (by omega) (by omega)) (by simp only [jcP] <;> omega) ?_
      refine jT_xiload (v := (0, u)) (pcN := 87) jIY_312_85 rfl rfl rfl ?_
      refine jT_adv 1 (pcN := 90) (LN := [(5, (0, y5)), (6, (0, u)), (7, (0, 2)), (4, (4, 23)), (0, (4, 0)), (1, (0, y1)), (2, (0, y2)), (3, (4, 22))]) (stN := [(5, 5), (0, u)]) (hsN := [jzY_19, jgh, jgh, jgh, jgh, jgh, (130, [], [16, 17, 18, 19, 20, 21]), (101, [], [0, 0, 0, 0, 0, 0]), jgh, jgh, jgh, jgh, jgh, jgh, jgh, jgh, (100, [], (jenc (jlg 0))), (100, [], (jenc (jlg 1))), (100, [], (jenc (jlg 2))), (100, [], (jenc (jlg 3))), (100, [], (jenc (jlg 4))), (100, [], (jenc (jlg 5))), (100, [], (jenc w)), (101, [], [e0, e1, e2, e3, e4, e5])]) (c1 := 0) (s1 := 0) (c2 := b1) (s2 := b2) (by exact rfl) ?_ (by omega) (by omega)
      refine jT_xiload (v := (0, 2)) (pcN := 92) jIY_312_90 rfl rfl rfl ?_
      refine jT_adv 1 (pcN := 93) (LN := [(5, (0, y5)), (6, (0, u)), (7, (0, 2)), (4, (4, 23)), (0, (4, 0)), (1, (0, y1)), (2, (0, y2)), (3, (4, 22))]) (stN := [(0, 5), (0, u)]) (hsN := [jzY_19, jgh, jgh, jgh, jgh, jgh, (130, [], [16, 17, 18, 19, 20, 21]), (101, [], [0, 0, 0, 0, 0, 0]), jgh, jgh, jgh, jgh, jgh, jgh, jgh, jgh, (100, [], (jenc (jlg 0))), (100, [], (jenc (jlg 1))), (100, [], (jenc (jlg 2))), (100, [], (jenc (jlg 3))), (100, [], (jenc (jlg 4))), (100, [], (jenc (jlg 5))), (100, [], (jenc w)), (101, [], [e0, e1, e2, e3, e4, e5])]) (c1 := 0) (s1 := 0) (c2 := b1) (s2 := b2) (by exact rfl) ?_ (by omega) (by omega)
      refine jT_idiv (a := u) (b := 5) (by rfl) (by rfl) (jw_idd (by omega) (by omega)) (jw_idd (by omega) (by omega)) (by omega) ?_
      have hb_q2 := jtd_b0 (x := u) (y := 5) (by omega) (by omega)
      have hb_q2 : 0 ≤ u.tdiv 5 ∧ u.tdiv 5 ≤ 1000000000 := ⟨hb_q2.1, by omega⟩
      generalize hq_q2 : u.tdiv 5 = q2 at hb_q2 ⊢
      refine jT_xistore (v := (0, q2)) (LN := [(6, (0, q2)), (5, (0, y5)), (7, (0, 2)), (4, (4, 23)), (0, (4, 0)), (1, (0, y1)), (2, (0, y2)), (3, (4, 22))]) (pcN := 96) jIY_312_94 rfl rfl rfl rfl ?_
      refine jT_xaload (v := (4, 23)) (pcN := 98) jIY_312_96 rfl rfl rfl ?_
      refine jT_xiload (v := (0, 2)) (pcN := 100) jIY_312_98 rfl rfl rfl ?_
      refine jT_adv 1 (pcN := 101) (LN := [(6, (0, q2)), (5, (0, y5)), (7, (0, 2)), (4, (4, 23)), (0, (4, 0)), (1, (0, y1)), (2, (0, y2)), (3, (4, 22))]) (stN := [(0, 2), (4, 23), (0, 2), (4, 23)]) (hsN := [jzY_19, jgh, jgh, jgh, jgh, jgh, (130, [], [16, 17, 18, 19, 20, 21]), (101, [], [0, 0, 0, 0, 0, 0]), jgh, jgh, jgh, jgh, jgh, jgh, jgh, jgh, (100, [], (jenc (jlg 0))), (100, [], (jenc (jlg 1))), (100, [], (jenc (jlg 2))), (100, [], (jenc (jlg 3))), (100, [], (jenc (jlg 4))), (100, [], (jenc (jlg 5))), (100, [], (jenc w)), (101, [], [e0, e1, e2, e3, e4, e5])]) (c1 := 0) (s1 := 0) (c2 := b1) (s2 := b2) (by exact rfl) ?_ (by omega) (by omega)
      refine jT_lald (x := e2) (a := 23) (j := 2) (fs := []) (X := [e0, e1, e2, e3, e4, e5]) jIY_312_101 rfl rfl rfl rfl ?_
      refine jT_eq (LN := [(6, (0, q2)), (5, (0, y5)), (7, (0, 2)), (4, (4, 23)), (0, (4, 0)), (1, (0, y1)), (2, (0, y2)), (3, (4, 22))]) (stN := [(1, e2), (0, 2), (4, 23)]) (hsN := [jzY_19, jgh, jgh, jgh, jgh, jgh, (130, [], [16, 17, 18, 19, 20, 21]), (101, [], [0, 0, 0, 0, 0, 0]), jgh, jgh, jgh, jgh, jgh, jgh, jgh, jgh, (100, [], (jenc (jlg 0))), (100, [], (jenc (jlg 1))), (100, [], (jenc (jlg 2))), (100, [], (jenc (jlg 3))), (100, [], (jenc (jlg 4))), (100, [], (jenc (jlg 5))), (100, [], (jenc w)), (101, [], [e0, e1, e2, e3, e4, e5])]) rfl rfl rfl ?_
      refine jT_xaload_n (v := (4, 0)) (pcN := 103) jIY_312_102 rfl rfl rfl ?_
      refine jT_xgetf (a := 0) (t := 1) (ci := 14) (fi := 10) (c := jzY_19) (v := (1, 1)) (pcN := 106) jIY_312_103 rfl rfl rfl rfl rfl rfl rfl ?_
      refine jT_xlsub (x := e2) (y := 1) (z := e2 - 1) (pcN := 107) jIY_312_106 rfl (rfl) rfl ?_
      refine jT_adv 1 (pcN := 108) (LN := [(6, (0, q2)), (5, (0, y5)), (7, (0, 2)), (4, (4, 23)), (0, (4, 0)), (1, (0, y1)), (2, (0, y2)), (3, (4, 22))]) (stN := []) (hsN := [jzY_19, jgh, jgh, jgh, jgh, jgh, (130, [], [16, 17, 18, 19, 20, 21]), (101, [], [0, 0, 0, 0, 0, 0]), jgh, jgh, jgh, jgh, jgh, jgh, jgh, jgh, (100, [], (jenc (jlg 0))), (100, [], (jenc (jlg 1))), (100, [], (jenc (jlg 2))), (100, [], (jenc (jlg 3))), (100, [], (jenc (jlg 4))), (100, [], (jenc (jlg 5))), (100, [], (jenc w)), (101, [], [e0, e1, e2 - 1, e3, e4, e5])]) (c1 := 0) (s1 := 0) (c2 := b1) (s2 := b2) (by exact rfl) ?_ (by omega) (by omega)
      refine jT_xgoto (pcN := 73) jIY_312_108 rfl ?_
      refine jT_loc (LN := [(5, (0, y5)), (6, (0, q2)), (7, (0, 2)), (4, (4, 23)), (0, (4, 0)), (1, (0, y1)), (2, (0, y2)), (3, (4, 22))]) (by show List.Nodup [5, 6, 7, 4, 0, 1, 2, 3]; decide) (by intro q hq; simp only [List.mem_cons, List.not_mem_nil, or_false] at hq; rcases hq with rfl | rfl | rfl | rfl | rfl | rfl | rfl | rfl <;> rfl) ?_
      have hs := jst_s (P := 5) (u := u) (n := n) (by decide) h1 hu (by omega)
      rw [hq_q2] at hs
      rw [jsu_1 (by omega), jsc_1 (by omega), hq_q2, show e2 - (jsc 5 n q2 + 1) = e2 - 1 - jsc 5 n q2 by omega] at h
      exact ih q2 (e2 - 1) (by omega) (by omega) hs.2.1 h
theorem jYl_sr_73 {xs : List Int} {d b1 b2 : Nat} {Q : Nat → JV → List JC → Prop} {y6 y1 y2 e0 e1 e2 e4 e5 w : Int} : ∀ (n : Nat) (u e3 : Int), 1 ≤ u → u ≤ 1000000000 → u < jp2 n → jT xs d 312 23 73 [(5, (0, jsu 7 n u)), (6, (0, y6)), (7, (0, 3)), (4, (4, 23)), (0, (4, 0)), (1, (0, y1)), (2, (0, y2)), (3, (4, 22))] [] [jzY_19, jgh, jgh, jgh, jgh, jgh, (130, [], [16, 17, 18, 19, 20, 21]), (101, [], [0, 0, 0, 0, 0, 0]), jgh, jgh, jgh, jgh, jgh, jgh, jgh, jgh, (100, [], (jenc (jlg 0))), (100, [], (jenc (jlg 1))), (100, [], (jenc (jlg 2))), (100, [], (jenc (jlg 3))), (100, [], (jenc (jlg 4))), (100, [], (jenc (jlg 5))), (100, [], (jenc w)), (101, [], [e0, e1, e2, e3 + jsc 7 n u, e4, e5])] b1 b2 Q → jT xs d 312 23 35 [(5, (0, u)), (6, (0, y6)), (7, (0, 3)), (4, (4, 23)), (0, (4, 0)), (1, (0, y1)), (2, (0, y2)), (3, (4, 22))] [] [jzY_19, jgh, jgh, jgh, jgh, jgh, (130, [], [16, 17, 18, 19, 20, 21]), (101, [], [0, 0, 0, 0, 0, 0]), jgh, jgh, jgh, jgh, jgh, jgh, jgh, jgh, (100, [], (jenc (jlg 0))), (100, [], (jenc (jlg 1))), (100, [], (jenc (jlg 2))), (100, [], (jenc (jlg 3))), (100, [], (jenc (jlg 4))), (100, [], (jenc (jlg 5))), (100, [], (jenc w)), (101, [], [e0, e1, e2, e3, e4, e5])] b1 b2 Q := by
  intro n
  induction n with
  | zero =>
    intro u e3 h1 h2 hu h
    exact absurd (show u < 1 from hu) (by omega)
  | succ n ih =>
    intro u e3 h1 h2 hu h
    have h_u : 1 ≤ u ∧ u ≤ 1000000000 := ⟨h1, h2⟩
    rcases (show (0 ≤ (u.tmod 7) - 1) ∨ ((u.tmod 7) - 1 < 0) by omega) with g_0 | g_0
    · refine jT_xiload (v := (0, u)) (pcN := 37) jIY_312_35 rfl rfl rfl ?_
      refine jT_adv 1 (pcN := 40) (LN := [(5, (0, u)), (6, (0, y6)), (7, (0, 3)), (4, (4, 23)), (0, (4, 0)), (1, (0, y1)), (2, (0, y2)), (3, (4, 22))]) (stN := [(5, 5), (0, u)]) (hsN := [jzY_19, jgh, jgh, jgh, jgh, jgh, (130, [], [16, 17, 18, 19, 20, 21]), (101, [], [0, 0, 0, 0, 0, 0]), jgh, jgh, jgh, jgh, jgh, jgh, jgh, jgh, (100, [], (jenc (jlg 0))), (100, [], (jenc (jlg 1))), (100, [], (jenc (jlg 2))), (100, [], (jenc (jlg 3))), (100, [], (jenc (jlg 4))), (100, [], (jenc (jlg 5))), (100, [], (jenc w)), (101, [], [e0, e1, e2, e3, e4, e5])]) (c1 := 0) (s1 := 0) (c2 := b1) (s2 := b2) (by exact rfl) ?_ (by omega) (by omega)
      refine jT_xiload (v := (0, 3)) (pcN := 42) jIY_312_40 rfl rfl rfl ?_
      refine jT_adv 1 (pcN := 43) (LN := [(5, (0, u)), (6, (0, y6)), (7, (0, 3)), (4, (4, 23)), (0, (4, 0)), (1, (0, y1)), (2, (0, y2)), (3, (4, 22))]) (stN := [(0, 7), (0, u)]) (hsN := [jzY_19, jgh, jgh, jgh, jgh, jgh, (130, [], [16, 17, 18, 19, 20, 21]), (101, [], [0, 0, 0, 0, 0, 0]), jgh, jgh, jgh, jgh, jgh, jgh, jgh, jgh, (100, [], (jenc (jlg 0))), (100, [], (jenc (jlg 1))), (100, [], (jenc (jlg 2))), (100, [], (jenc (jlg 3))), (100, [], (jenc (jlg 4))), (100, [], (jenc (jlg 5))), (100, [], (jenc w)), (101, [], [e0, e1, e2, e3, e4, e5])]) (c1 := 0) (s1 := 0) (c2 := b1) (s2 := b2) (by exact rfl) ?_ (by omega) (by omega)
      refine jT_irem (a := u) (b := 7) (by rfl) (by rfl) (jw_idd (by omega) (by omega)) (jw_idd (by omega) (by omega)) (by omega) ?_
      have hb_q1 := jtm_b (x := u) (y := 7) (by omega) (by omega)
      have hb_q1 : 0 ≤ u.tmod 7 ∧ u.tmod 7 ≤ 6 := ⟨hb_q1.1, by omega⟩
      generalize hq_q1 : u.tmod 7 = q1 at hb_q1 g_0 ⊢
      refine jT_ifT (a := q1) (t := 73) (by rfl) (by rfl) (by rfl) (jw_idd (by omega) (by omega)) (by simp only [jcP] <;> omega) ?_
      refine jT_loc (LN := [(5, (0, u)), (6, (0, y6)), (7, (0, 3)), (4, (4, 23)), (0, (4, 0)), (1, (0, y1)), (2, (0, y2)), (3, (4, 22))]) (by show List.Nodup [5, 6, 7, 4, 0, 1, 2, 3]; decide) (by intro q hq; simp only [List.mem_cons, List.not_mem_nil, or_false] at hq; rcases hq with rfl | rfl | rfl | rfl | rfl | rfl | rfl | rfl <;> rfl) ?_
      rw [jsu_0 (by omega), jsc_0 (by omega), Int.add_zero] at h
      exact h
    · refine jT_xiload (v := (0, u)) (pcN := 37) jIY_312_35 rfl rfl rfl ?_
      refine jT_adv 1 (pcN := 40) (LN := [(5, (0, u)), (6, (0, y6)), (7, (0, 3)), (4, (4, 23)), (0, (4, 0)), (1, (0, y1)), (2, (0, y2)), (3, (4, 22))]) (stN := [(5, 5), (0, u)]) (hsN := [jzY_19, jgh, jgh, jgh, jgh, jgh, (130, [], [16, 17, 18, 19, 20, 21]), (101, [], [0, 0, 0, 0, 0, 0]), jgh, jgh, jgh, jgh, jgh, jgh, jgh, jgh, (100, [], (jenc (jlg 0))), (100, [], (jenc (jlg 1))), (100, [], (jenc (jlg 2))), (100, [], (jenc (jlg 3))), (100, [], (jenc (jlg 4))), (100, [], (jenc (jlg 5))), (100, [], (jenc w)), (101, [], [e0, e1, e2, e3, e4, e5])]) (c1 := 0) (s1 := 0) (c2 := b1) (s2 := b2) (by exact rfl) ?_ (by omega) (by omega)
      refine jT_xiload (v := (0, 3)) (pcN := 42) jIY_312_40 rfl rfl rfl ?_
      refine jT_adv 1 (pcN := 43) (LN := [(5, (0, u)), (6, (0, y6)), (7, (0, 3)), (4, (4, 23)), (0, (4, 0)), (1, (0, y1)), (2, (0, y2)), (3, (4, 22))]) (stN := [(0, 7), (0, u)]) (hsN := [jzY_19, jgh, jgh, jgh, jgh, jgh, (130, [], [16, 17, 18, 19, 20, 21]), (101, [], [0, 0, 0, 0, 0, 0]), jgh, jgh, jgh, jgh, jgh, jgh, jgh, jgh, (100, [], (jenc (jlg 0))), (100, [], (jenc (jlg 1))), (100, [], (jenc (jlg 2))), (100, [], (jenc (jlg 3))), (100, [], (jenc (jlg 4))), (100, [], (jenc (jlg 5))), (100, [], (jenc w)), (101, [], [e0, e1, e2, e3, e4, e5])]) (c1 := 0) (s1 := 0) (c2 := b1) (s2 := b2) (by exact rfl) ?_ (by omega) (by omega)
      refine jT_irem (a := u) (b := 7) (by rfl) (by rfl) (jw_idd (by omega) (by omega)) (jw_idd (by omega) (by omega)) (by omega) ?_
      have hb_q1 := jtm_b (x := u) (y := 7) (by omega) (by omega)
      have hb_q1 : 0 ≤ u.tmod 7 ∧ u.tmod 7 ≤ 6 := ⟨hb_q1.1, by omega⟩
      generalize hq_q1 : u.tmod 7 = q1 at hb_q1 g_0 ⊢
      refine jT_ifF (a := q1) (t := 73) (by rfl) (by rfl) (by rfl) (jw_idd (by omega) (by omega)) (by simp only [jcP] <;> omega) ?_
      refine jT_xiload (v := (0, u)) (pcN := 49) jIY_312_47 rfl rfl rfl ?_
      refine jT_adv 1 (pcN := 52) (LN := [(5, (0, u)), (6, (0, y6)), (7, (0, 3)), (4, (4, 23)), (0, (4, 0)), (1, (0, y1)), (2, (0, y2)), (3, (4, 22))]) (stN := [(5, 5), (0, u)]) (hsN := [jzY_19, jgh, jgh, jgh, jgh, jgh, (130, [], [16, 17, 18, 19, 20, 21]), (101, [], [0, 0, 0, 0, 0, 0]), jgh, jgh, jgh, jgh, jgh, jgh, jgh, jgh, (100, [], (jenc (jlg 0))), (100, [], (jenc (jlg 1))), (100, [], (jenc (jlg 2))), (100, [], (jenc (jlg 3))), (100, [], (jenc (jlg 4))), (100, [], (jenc (jlg 5))), (100, [], (jenc w)), (101, [], [e0, e1, e2, e3, e4, e5])]) (c1 := 0) (s1 := 0) (c2 := b1) (s2 := b2) (by exact rfl) ?_ (by omega) (by omega)
      refine jT_xiload (v := (0, 3)) (pcN := 54) jIY_312_52 rfl rfl rfl ?_
      refine jT_adv 1 (pcN := 55) (LN := [(5, (0, u)), (6, (0, y6)), (7, (0, 3)), (4, (4, 23)), (0, (4, 0)), (1, (0, y1)), (2, (0, y2)), (3, (4, 22))]) (stN := [(0, 7), (0, u)]) (hsN := [jzY_19, jgh, jgh, jgh, jgh, jgh, (130, [], [16, 17, 18, 19, 20, 21]), (101, [], [0, 0, 0, 0, 0, 0]), jgh, jgh, jgh, jgh, jgh, jgh, jgh, jgh, (100, [], (jenc (jlg 0))), (100, [], (jenc (jlg 1))), (100, [], (jenc (jlg 2))), (100, [], (jenc (jlg 3))), (100, [], (jenc (jlg 4))), (100, [], (jenc (jlg 5))), (100, [], (jenc w)), (101, [], [e0, e1, e2, e3, e4, e5])]) (c1 := 0) (s1 := 0) (c2 := b1) (s2 := b2) (by exact rfl) ?_ (by omega) (by omega)
      refine jT_idiv (a := u) (b := 7) (by rfl) (by rfl) (jw_idd (by omega) (by omega)) (jw_idd (by omega) (by omega)) (by omega) ?_
      have hb_q2 := jtd_b0 (x := u) (y := 7) (by omega) (by omega)
      have hb_q2 : 0 ≤ u.tdiv 7 ∧ u.tdiv 7 ≤ 1000000000 := ⟨hb_q2.1, by omega⟩
      generalize hq_q2 : u.tdiv 7 = q2 at hb_q2 ⊢
      refine jT_xistore (v := (0, q2)) (LN := [(5, (0, q2)), (6, (0, y6)), (7, (0, 3)), (4, (4, 23)), (0, (4, 0)), (1, (0, y1)), (2, (0, y2)), (3, (4, 22))]) (pcN := 58) jIY_312_56 rfl rfl rfl rfl ?_
      refine jT_xaload (v := (4, 23)) (pcN := 60) jIY_312_58 rfl rfl rfl ?_
      refine jT_xiload (v := (0, 3)) (pcN := 62) jIY_312_60 rfl rfl rfl ?_
      refine jT_adv 1 (pcN := 63) (LN := [(5, (0, q2)), (6, (0, y6)), (7, (0, 3)), (4, (4, 23)), (0, (4, 0)), (1, (0, y1)), (2, (0, y2)), (3, (4, 22))]) (stN := [(0, 3), (4, 23), (0, 3), (4, 23)]) (hsN := [jzY_19, jgh, jgh, jgh, jgh, jgh, (130, [], [16, 17, 18, 19, 20, 21]), (101, [], [0, 0, 0, 0, 0, 0]), jgh, jgh, jgh, jgh, jgh, jgh, jgh, jgh, (100, [], (jenc (jlg 0))), (100, [], (jenc (jlg 1))), (100, [], (jenc (jlg 2))), (100, [], (jenc (jlg 3))), (100, [], (jenc (jlg 4))), (100, [], (jenc (jlg 5))), (100, [], (jenc w)), (101, [], [e0, e1, e2, e3, e4, e5])]) (c1 := 0) (s1 := 0) (c2 := b1) (s2 := b2) (by exact rfl) ?_ (by omega) (by omega)
      refine jT_lald (x := e3) (a := 23) (j := 3) (fs := []) (X := [e0, e1, e2, e3, e4, e5]) jIY_312_63 rfl rfl rfl rfl ?_
      refine jT_eq (LN := [(5, (0, q2)), (6, (0, y6)), (7, (0, 3)), (4, (4, 23)), (0, (4, 0)), (1, (0, y1)), (2, (0, y2)), (3, (4, 22))]) (stN := [(1, e3), (0, 3), (4, 23)]) (hsN := [jzY_19, jgh, jgh, jgh, jgh, jgh, (130, [], [16, 17, 18, 19, 20, 21]), (101, [], [0, 0, 0, 0, 0, 0]), jgh, jgh, jgh, jgh, jgh, jgh, jgh, jgh, (100, [], (jenc (jlg 0))), (100, [], (jenc (jlg 1))), (100, [], (jenc (jlg 2))), (100, [], (jenc (jlg 3))), (100, [], (jenc (jlg 4))), (100, [], (jenc (jlg 5))), (100, [], (jenc w)), (101, [], [e0, e1, e2, e3, e4, e5])]) rfl rfl rfl ?_
      refine jT_xaload_n (v := (4, 0)) (pcN := 65) jIY_312_64 rfl rfl rfl ?_
      refine jT_xgetf (a := 0) (t := 1) (ci := 14) (fi := 10) (c := jzY_19) (v := (1, 1)) (pcN := 68) jIY_312_65 rfl rfl rfl rfl rfl rfl rfl ?_
      refine jT_xladd (x := e3) (y := 1) (z := e3 + 1) (pcN := 69) jIY_312_68 rfl (rfl) rfl ?_
      refine jT_adv 1 (pcN := 70) (LN := [(5, (0, q2)), (6, (0, y6)), (7, (0, 3)), (4, (4, 23)), (0, (4, 0)), (1, (0, y1)), (2, (0, y2)), (3, (4, 22))]) (stN := []) (hsN := [jzY_19, jgh, jgh, jgh, jgh, jgh, (130, [], [16, 17, 18, 19, 20, 21]), (101, [], [0, 0, 0, 0, 0, 0]), jgh, jgh, jgh, jgh, jgh, jgh, jgh, jgh, (100, [], (jenc (jlg 0))), (100, [], (jenc (jlg 1))), (100, [], (jenc (jlg 2))), (100, [], (jenc (jlg 3))), (100, [], (jenc (jlg 4))), (100, [], (jenc (jlg 5))), (100, [], (jenc w)), (101, [], [e0, e1, e2, e3 + 1, e4, e5])]) (c1 := 0) (s1 := 0) (c2 := b1) (s2 := b2) (by exact rfl) ?_ (by omega) (by omega)
      refine jT_xgoto (pcN := 35) jIY_312_70 rfl ?_
      refine jT_loc (LN := [(5, (0, q2)), (6, (0, y6)), (7, (0, 3)), (4, (4, 23)), (0, (4, 0)), (1, (0, y1)), (2, (0, y2)), (3, (4, 22))]) (by show List.Nodup [5, 6, 7, 4, 0, 1, 2, 3]; decide) (by intro q hq; simp only [List.mem_cons, List.not_mem_nil, or_false] at hq; rcases hq with rfl | rfl | rfl | rfl | rfl | rfl | rfl | rfl <;> rfl) ?_
      have hs := jst_s (P := 7) (u := u) (n := n) (by decide) h1 hu (by omega)
      rw [hq_q2] at hs
      rw [jsu_1 (by omega), jsc_1 (by omega), hq_q2, show e3 + (jsc 7 n q2 + 1) = e3 + 1 + jsc 7 n q2 by omega] at h
      exact ih q2 (e3 + 1) (by omega) (by omega) hs.2.1 h
theorem jYl_sr_74 {xs : List Int} {d b1 b2 : Nat} {Q : Nat → JV → List JC → Prop} {y5 y1 y2 e0 e1 e2 e4 e5 w : Int} : ∀ (n : Nat) (u e3 : Int), 1 ≤ u → u ≤ 1000000000 → u < jp2 n → jT xs d 312 23 111 [(5, (0, y5)), (6, (0, jsu 7 n u)), (7, (0, 3)), (4, (4, 23)), (0, (4, 0)), (1, (0, y1)), (2, (0, y2)), (3, (4, 22))] [] [jzY_19, jgh, jgh, jgh, jgh, jgh, (130, [], [16, 17, 18, 19, 20, 21]), (101, [], [0, 0, 0, 0, 0, 0]), jgh, jgh, jgh, jgh, jgh, jgh, jgh, jgh, (100, [], (jenc (jlg 0))), (100, [], (jenc (jlg 1))), (100, [], (jenc (jlg 2))), (100, [], (jenc (jlg 3))), (100, [], (jenc (jlg 4))), (100, [], (jenc (jlg 5))), (100, [], (jenc w)), (101, [], [e0, e1, e2, e3 - jsc 7 n u, e4, e5])] b1 b2 Q → jT xs d 312 23 73 [(5, (0, y5)), (6, (0, u)), (7, (0, 3)), (4, (4, 23)), (0, (4, 0)), (1, (0, y1)), (2, (0, y2)), (3, (4, 22))] [] [jzY_19, jgh, jgh, jgh, jgh, jgh, (130, [], [16, 17, 18, 19, 20, 21]), (101, [], [0, 0, 0, 0, 0, 0]), jgh, jgh, jgh, jgh, jgh, jgh, jgh, jgh, (100, [], (jenc (jlg 0))), (100, [], (jenc (jlg 1))), (100, [], (jenc (jlg 2))), (100, [], (jenc (jlg 3))), (100, [], (jenc (jlg 4))), (100, [], (jenc (jlg 5))), (100, [], (jenc w)), (101, [], [e0, e1, e2, e3, e4, e5])] b1 b2 Q := by
  intro n
  induction n with
  | zero =>
    intro u e3 h1 h2 hu h
    exact absurd (show u < 1 from hu) (by omega)
  | succ n ih =>
    intro u e3 h1 h2 hu h
    have h_u : 1 ≤ u ∧ u ≤ 1000000000 := ⟨h1, h2⟩
    rcases (show (0 ≤ (u.tmod 7) - 1) ∨ ((u.tmod 7) - 1 < 0) by omega) with g_0 | g_0
    · refine jT_xiload (v := (0, u)) (pcN := 75) jIY_312_73 rfl rfl rfl ?_
      refine jT_adv 1 (pcN := 78) (LN := [(5, (0, y5)), (6, (0, u)), (7, (0, 3)), (4, (4, 23)), (0, (4, 0)), (1, (0, y1)), (2, (0, y2)), (3, (4, 22))]) (stN := [(5, 5), (0, u)]) (hsN := [jzY_19, jgh, jgh, jgh, jgh, jgh, (130, [], [16, 17, 18, 19, 20, 21]), (101, [], [0, 0, 0, 0, 0, 0]), jgh, jgh, jgh, jgh, jgh, jgh, jgh, jgh, (100, [], (jenc (jlg 0))), (100, [], (jenc (jlg 1))), (100, [], (jenc (jlg 2))), (100, [], (jenc (jlg 3))), (100, [], (jenc (jlg 4))), (100, [], (jenc (jlg 5))), (100, [], (jenc w)), (101, [], [e0, e1, e2, e3, e4, e5])]) (c1 := 0) (s1 := 0) (c2 := b1) (s2 := b2) (by exact rfl) ?_ (by omega) (by omega)
      refine jT_xiload (v := (0, 3)) (pcN := 80) jIY_312_78 rfl rfl rfl ?_
      refine jT_adv 1 (pcN := 81) (LN := [(5, (0, y5)), (6, (0, u)), (7, (0, 3)), (4, (4, 23)), (0, (4, 0)), (1, (0, y1)), (2, (0, y2)), (3, (4, 22))]) (stN := [(0, 7), (0, u)]) (hsN := [jzY_19, jgh, jgh, jgh, jgh, jgh, (130, [], [16, 17, 18, 19, 20, 21]), (101, [], [0, 0, 0, 0, 0, 0]), jgh, jgh, jgh, jgh, jgh, jgh, jgh, jgh, (100, [], (jenc (jlg 0))), (100, [], (jenc (jlg 1))), (100, [], (jenc (jlg 2))), (100, [], (jenc (jlg 3))), (100, [], (jenc (jlg 4))), (100, [], (jenc (jlg 5))), (100, [], (jenc w)), (101, [], [e0, e1, e2, e3, e4, e5])]) (c1 := 0) (s1 := 0) (c2 := b1) (s2 := b2) (by exact rfl) ?_ (by omega) (by omega)
      refine jT_irem (a := u) (b := 7) (by rfl) (by rfl) (jw_idd (by omega) (by omega)) (jw_idd (by omega) (by omega)) (by omega) ?_
      have hb_q1 := jtm_b (x := u) (y := 7) (by omega) (by omega)
      have hb_q1 : 0 ≤ u.tmod 7 ∧ u.tmod 7 ≤ 6 := ⟨hb_q1.1, by omega⟩
      generalize hq_q1 : u.tmod 7 = q1 at hb_q1 g_0 ⊢
      refine jT_ifT (a := q1) (t := 111) (by rfl) (by rfl) (by rfl) (jw_idd (by omega) (by omega)) (by simp only [jcP] <;> omega) ?_
      refine jT_loc (LN := [(5, (0, y5)), (6, (0, u)), (7, (0, 3)), (4, (4, 23)), (0, (4, 0)), (1, (0, y1)), (2, (0, y2)), (3, (4, 22))]) (by show List.Nodup [5, 6, 7, 4, 0, 1, 2, 3]; decide) (by intro q hq; simp only [List.mem_cons, List.not_mem_nil, or_false] at hq; rcases hq with rfl | rfl | rfl | rfl | rfl | rfl | rfl | rfl <;> rfl) ?_
      rw [jsu_0 (by omega), jsc_0 (by omega), Int.sub_zero] at h
      exact h
    · refine jT_xiload (v := (0, u)) (pcN := 75) jIY_312_73 rfl rfl rfl ?_
      refine jT_adv 1 (pcN := 78) (LN := [(5, (0, y5)), (6, (0, u)), (7, (0, 3)), (4, (4, 23)), (0, (4, 0)), (1, (0, y1)), (2, (0, y2)), (3, (4, 22))]) (stN := [(5, 5), (0, u)]) (hsN := [jzY_19, jgh, jgh, jgh, jgh, jgh, (130, [], [16, 17, 18, 19, 20, 21]), (101, [], [0, 0, 0, 0, 0, 0]), jgh, jgh, jgh, jgh, jgh, jgh, jgh, jgh, (100, [], (jenc (jlg 0))), (100, [], (jenc (jlg 1))), (100, [], (jenc (jlg 2))), (100, [], (jenc (jlg 3))), (100, [], (jenc (jlg 4))), (100, [], (jenc (jlg 5))), (100, [], (jenc w)), (101, [], [e0, e1, e2, e3, e4, e5])]) (c1 := 0) (s1 := 0) (c2 := b1) (s2 := b2) (by exact rfl) ?_ (by omega) (by omega)
      refine jT_xiload (v := (0, 3)) (pcN := 80) jIY_312_78 rfl rfl rfl ?_
      refine jT_adv 1 (pcN := 81) (LN := [(5, (0, y5)), (6, (0, u)), (7, (0, 3)), (4, (4, 23)), (0, (4, 0)), (1, (0, y1)), (2, (0, y2)), (3, (4, 22))]) (stN := [(0, 7), (0, u)]) (hsN := [jzY_19, jgh, jgh, jgh, jgh, jgh, (130, [], [16, 17, 18, 19, 20, 21]), (101, [], [0, 0, 0, 0, 0, 0]), jgh, jgh, jgh, jgh, jgh, jgh, jgh, jgh, (100, [], (jenc (jlg 0))), (100, [], (jenc (jlg 1))), (100, [], (jenc (jlg 2))), (100, [], (jenc (jlg 3))), (100, [], (jenc (jlg 4))), (100, [], (jenc (jlg 5))), (100, [], (jenc w)), (101, [], [e0, e1, e2, e3, e4, e5])]) (c1 := 0) (s1 := 0) (c2 := b1) (s2 := b2) (by exact rfl) ?_ (by omega) (by omega)
      refine jT_irem (a := u) (b := 7) (by rfl) (by rfl) (jw_idd (by omega) (by omega)) (jw_idd (by omega) (by omega)) (by omega) ?_
      have hb_q1 := jtm_b (x := u) (y := 7) (by omega) (by omega)
      have hb_q1 : 0 ≤ u.tmod 7 ∧ u.tmod 7 ≤ 6 := ⟨hb_q1.1, by omega⟩
      generalize hq_q1 : u.tmod 7 = q1 at hb_q1 g_0 ⊢
      refine jT_ifF (a := q1) (t := 111) (by rfl) (by rfl) (by rfl) (jw_idd (by omega) (by omega)) (by simp only [jcP] <;> omega) ?_
      refine jT_xiload (v := (0, u)) (pcN := 87) jIY_312_85 rfl rfl rfl ?_
      refine jT_adv 1 (pcN := 90) (LN := [(5, (0, y5)), (6, (0, u)), (7, (0, 3)), (4, (4, 23)), (0, (4, 0)), (1, (0, y1)), (2, (0, y2)), (3, (4, 22))]) (stN := [(5, 5), (0, u)]) (hsN := [jzY_19, jgh, jgh, jgh, jgh, jgh, (130, [], [16, 17, 18, 19, 20, 21]), (101, [], [0, 0, 0, 0, 0, 0]), jgh, jgh, jgh, jgh, jgh, jgh, jgh, jgh, (100, [], (jenc (jlg 0))), (100, [], (jenc (jlg 1))), (100, [], (jenc (jlg 2))), (100, [], (jenc (jlg 3))), (100, [], (jenc (jlg 4))), (100, [], (jenc (jlg 5))), (100, [], (jenc w)), (101, [], [e0, e1, e2, e3, e4, e5])]) (c1 := 0) (s1 := 0) (c2 := b1) (s2 := b2) (by exact rfl) ?_ (by omega) (by omega)
      refine jT_xiload (v := (0, 3)) (pcN := 92) jIY_312_90 rfl rfl rfl ?_
      refine jT_adv 1 (pcN := 93) (LN := [(5, (0, y5)), (6, (0, u)), (7, (0, 3)), (4, (4, 23)), (0, (4, 0)), (1, (0, y1)), (2, (0, y2)), (3, (4, 22))]) (stN := [(0, 7), (0, u)]) (hsN := [jzY_19, jgh, jgh, jgh, jgh, jgh, (130, [], [16, 17, 18, 19, 20, 21]), (101, [], [0, 0, 0, 0, 0, 0]), jgh, jgh, jgh, jgh, jgh, jgh, jgh, jgh, (100, [], (jenc (jlg 0))), (100, [], (jenc (jlg 1))), (100, [], (jenc (jlg 2))), (100, [], (jenc (jlg 3))), (100, [], (jenc (jlg 4))), (100, [], (jenc (jlg 5))), (100, [], (jenc w)), (101, [], [e0, e1, e2, e3, e4, e5])]) (c1 := 0) (s1 := 0) (c2 := b1) (s2 := b2) (by exact rfl) ?_ (by omega) (by omega)
      refine jT_idiv (a := u) (b := 7) (by rfl) (by rfl) (jw_idd (by omega) (by omega)) (jw_idd (by omega) (by omega)) (by omega) ?_
      have hb_q2 := jtd_b0 (x := u) (y := 7) (by omega) (by omega)
      have hb_q2 : 0 ≤ u.tdiv 7 ∧ u.tdiv 7 ≤ 1000000000 := ⟨hb_q2.1, by omega⟩
      generalize hq_q2 : u.tdiv 7 = q2 at hb_q2 ⊢
      refine jT_xistore (v := (0, q2)) (LN := [(6, (0, q2)), (5, (0, y5)), (7, (0, 3)), (4, (4, 23)), (0, (4, 0)), (1, (0, y1)), (2, (0, y2)), (3, (4, 22))]) (pcN := 96) jIY_312_94 rfl rfl rfl rfl ?_
      refine jT_xaload (v := (4, 23)) (pcN := 98) jIY_312_96 rfl rfl rfl ?_
      refine jT_xiload (v := (0, 3)) (pcN := 100) jIY_312_98 rfl rfl rfl ?_
      refine jT_adv 1 (pcN := 101) (LN := [(6, (0, q2)), (5, (0, y5)), (7, (0, 3)), (4, (4, 23)), (0, (4, 0)), (1, (0, y1)), (2, (0, y2)), (3, (4, 22))]) (stN := [(0, 3), (4, 23), (0, 3), (4, 23)]) (hsN := [jzY_19, jgh, jgh, jgh, jgh, jgh, (130, [], [16, 17, 18, 19, 20, 21]), (101, [], [0, 0, 0, 0, 0, 0]), jgh, jgh, jgh, jgh, jgh, jgh, jgh, jgh, (100, [], (jenc (jlg 0))), (100, [], (jenc (jlg 1))), (100, [], (jenc (jlg 2))), (100, [], (jenc (jlg 3))), (100, [], (jenc (jlg 4))), (100, [], (jenc (jlg 5))), (100, [], (jenc w)), (101, [], [e0, e1, e2, e3, e4, e5])]) (c1 := 0) (s1 := 0) (c2 := b1) (s2 := b2) (by exact rfl) ?_ (by omega) (by omega)
      refine jT_lald (x := e3) (a := 23) (j := 3) (fs := []) (X := [e0, e1, e2, e3, e4, e5]) jIY_312_101 rfl rfl rfl rfl ?_
      refine jT_eq (LN := [(6, (0, q2)), (5, (0, y5)), (7, (0, 3)), (4, (4, 23)), (0, (4, 0)), (1, (0, y1)), (2, (0, y2)), (3, (4, 22))]) (stN := [(1, e3), (0, 3), (4, 23)]) (hsN := [jzY_19, jgh, jgh, jgh, jgh, jgh, (130, [], [16, 17, 18, 19, 20, 21]), (101, [], [0, 0, 0, 0, 0, 0]), jgh, jgh, jgh, jgh, jgh, jgh, jgh, jgh, (100, [], (jenc (jlg 0))), (100, [], (jenc (jlg 1))), (100, [], (jenc (jlg 2))), (100, [], (jenc (jlg 3))), (100, [], (jenc (jlg 4))), (100, [], (jenc (jlg 5))), (100, [], (jenc w)), (101, [], [e0, e1, e2, e3, e4, e5])]) rfl rfl rfl ?_
      refine jT_xaload_n (v := (4, 0)) (pcN := 103) jIY_312_102 rfl rfl rfl ?_
      refine jT_xgetf (a := 0) (t := 1) (ci := 14) (fi := 10) (c := jzY_19) (v := (1, 1)) (pcN := 106) jIY_312_103 rfl rfl rfl rfl rfl rfl rfl ?_
      refine jT_xlsub (x := e3) (y := 1) (z := e3 - 1) (pcN := 107) jIY_312_106 rfl (rfl) rfl ?_
      refine jT_adv 1 (pcN := 108) (LN := [(6, (0, q2)), (5, (0, y5)), (7, (0, 3)), (4, (4, 23)), (0, (4, 0)), (1, (0, y1)), (2, (0, y2)), (3, (4, 22))]) (stN := []) (hsN := [jzY_19, jgh, jgh, jgh, jgh, jgh, (130, [], [16, 17, 18, 19, 20, 21]), (101, [], [0, 0, 0, 0, 0, 0]), jgh, jgh, jgh, jgh, jgh, jgh, jgh, jgh, (100, [], (jenc (jlg 0))), (100, [], (jenc (jlg 1))), (100, [], (jenc (jlg 2))), (100, [], (jenc (jlg 3))), (100, [], (jenc (jlg 4))), (100, [], (jenc (jlg 5))), (100, [], (jenc w)), (101, [], [e0, e1, e2, e3 - 1, e4, e5])]) (c1 := 0) (s1 := 0) (c2 := b1) (s2 := b2) (by exact rfl) ?_ (by omega) (by omega)
      refine jT_xgoto (pcN := 73) jIY_312_108 rfl ?_
      refine jT_loc (LN := [(5, (0, y5)), (6, (0, q2)), (7, (0, 3)), (4, (4, 23)), (0, (4, 0)), (1, (0, y1)), (2, (0, y2)), (3, (4, 22))]) (by show List.Nodup [5, 6, 7, 4, 0, 1, 2, 3]; decide) (by intro q hq; simp only [List.mem_cons, List.not_mem_nil, or_false] at hq; rcases hq with rfl | rfl | rfl | rfl | rfl | rfl | rfl | rfl <;> rfl) ?_
      have hs := jst_s (P := 7) (u := u) (n := n) (by decide) h1 hu (by omega)
      rw [hq_q2] at hs
      rw [jsu_1 (by omega), jsc_1 (by omega), hq_q2, show e3 - (jsc 7 n q2 + 1) = e3 - 1 - jsc 7 n q2 by omega] at h
      exact ih q2 (e3 - 1) (by omega) (by omega) hs.2.1 h
theorem jYl_sr_75 {xs : List Int} {d b1 b2 : Nat} {Q : Nat → JV → List JC → Prop} {y6 y1 y2 e0 e1 e2 e3 e5 w : Int} : ∀ (n : Nat) (u e4 : Int), 1 ≤ u → u ≤ 1000000000 → u < jp2 n → jT xs d 312 23 73 [(5, (0, jsu 11 n u)), (6, (0, y6)), (7, (0, 4)), (4, (4, 23)), (0, (4, 0)), (1, (0, y1)), (2, (0, y2)), (3, (4, 22))] [] [jzY_19, jgh, jgh, jgh, jgh, jgh, (130, [], [16, 17, 18, 19, 20, 21]), (101, [], [0, 0, 0, 0, 0, 0]), jgh, jgh, jgh, jgh, jgh, jgh, jgh, jgh, (100, [], (jenc (jlg 0))), (100, [], (jenc (jlg 1))), (100, [], (jenc (jlg 2))), (100, [], (jenc (jlg 3))), (100, [], (jenc (jlg 4))), (100, [], (jenc (jlg 5))), (100, [], (jenc w)), (101, [], [e0, e1, e2, e3, e4 + jsc 11 n u, e5])] b1 b2 Q → jT xs d 312 23 35 [(5, (0, u)), (6, (0, y6)), (7, (0, 4)), (4, (4, 23)), (0, (4, 0)), (1, (0, y1)), (2, (0, y2)), (3, (4, 22))] [] [jzY_19, jgh, jgh, jgh, jgh, jgh, (130, [], [16, 17, 18, 19, 20, 21]), (101, [], [0, 0, 0, 0, 0, 0]), jgh, jgh, jgh, jgh, jgh, jgh, jgh, jgh, (100, [], (jenc (jlg 0))), (100, [], (jenc (jlg 1))), (100, [], (jenc (jlg 2))), (100, [], (jenc (jlg 3))), (100, [], (jenc (jlg 4))), (100, [], (jenc (jlg 5))), (100, [], (jenc w)), (101, [], [e0, e1, e2, e3, e4, e5])] b1 b2 Q := by
  intro n
  induction n with
  | zero =>
    intro u e4 h1 h2 hu h
    exact absurd (show u < 1 from hu) (by omega)
  | succ n ih =>
    intro u e4 h1 h2 hu h
    have h_u : 1 ≤ u ∧ u ≤ 1000000000 := ⟨h1, h2⟩
    rcases (show (0 ≤ (u.tmod 11) - 1) ∨ ((u.tmod 11) - 1 < 0) by omega) with g_0 | g_0
    · refine jT_xiload (v := (0, u)) (pcN := 37) jIY_312_35 rfl rfl rfl ?_
      refine jT_adv 1 (pcN := 40) (LN := [(5, (0, u)), (6, (0, y6)), (7, (0, 4)), (4, (4, 23)), (0, (4, 0)), (1, (0, y1)), (2, (0, y2)), (3, (4, 22))]) (stN := [(5, 5), (0, u)]) (hsN := [jzY_19, jgh, jgh, jgh, jgh, jgh, (130, [], [16, 17, 18, 19, 20, 21]), (101, [], [0, 0, 0, 0, 0, 0]), jgh, jgh, jgh, jgh, jgh, jgh, jgh, jgh, (100, [], (jenc (jlg 0))), (100, [], (jenc (jlg 1))), (100, [], (jenc (jlg 2))), (100, [], (jenc (jlg 3))), (100, [], (jenc (jlg 4))), (100, [], (jenc (jlg 5))), (100, [], (jenc w)), (101, [], [e0, e1, e2, e3, e4, e5])]) (c1 := 0) (s1 := 0) (c2 := b1) (s2 := b2) (by exact rfl) ?_ (by omega) (by omega)
      refine jT_xiload (v := (0, 4)) (pcN := 42) jIY_312_40 rfl rfl rfl ?_
      refine jT_adv 1 (pcN := 43) (LN := [(5, (0, u)), (6, (0, y6)), (7, (0, 4)), (4, (4, 23)), (0, (4, 0)), (1, (0, y1)), (2, (0, y2)), (3, (4, 22))]) (stN := [(0, 11), (0, u)]) (hsN := [jzY_19, jgh, jgh, jgh, jgh, jgh, (130, [], [16, 17, 18, 19, 20, 21]), (101, [], [0, 0, 0, 0, 0, 0]), jgh, jgh, jgh, jgh, jgh, jgh, jgh, jgh, (100, [], (jenc (jlg 0))), (100, [], (jenc (jlg 1))), (100, [], (jenc (jlg 2))), (100, [], (jenc (jlg 3))), (100, [], (jenc (jlg 4))), (100, [], (jenc (jlg 5))), (100, [], (jenc w)), (101, [], [e0, e1, e2, e3, e4, e5])]) (c1 := 0) (s1 := 0) (c2 := b1) (s2 := b2) (by exact rfl) ?_ (by omega) (by omega)
      refine jT_irem (a := u) (b := 11) (by rfl) (by rfl) (jw_idd (by omega) (by omega)) (jw_idd (by omega) (by omega)) (by omega) ?_
      have hb_q1 := jtm_b (x := u) (y := 11) (by omega) (by omega)
      have hb_q1 : 0 ≤ u.tmod 11 ∧ u.tmod 11 ≤ 10 := ⟨hb_q1.1, by omega⟩
      generalize hq_q1 : u.tmod 11 = q1 at hb_q1 g_0 ⊢
      refine jT_ifT (a := q1) (t := 73) (by rfl) (by rfl) (by rfl) (jw_idd (by omega) (by omega)) (by simp only [jcP] <;> omega) ?_
      refine jT_loc (LN := [(5, (0, u)), (6, (0, y6)), (7, (0, 4)), (4, (4, 23)), (0, (4, 0)), (1, (0, y1)), (2, (0, y2)), (3, (4, 22))]) (by show List.Nodup [5, 6, 7, 4, 0, 1, 2, 3]; decide) (by intro q hq; simp only [List.mem_cons, List.not_mem_nil, or_false] at hq; rcases hq with rfl | rfl | rfl | rfl | rfl | rfl | rfl | rfl <;> rfl) ?_
      rw [jsu_0 (by omega), jsc_0 (by omega), Int.add_zero] at h
      exact h
    · refine jT_xiload (v := (0, u)) (pcN := 37) jIY_312_35 rfl rfl rfl ?_
      refine jT_adv 1 (pcN := 40) (LN := [(5, (0, u)), (6, (0, y6)), (7, (0, 4)), (4, (4, 23)), (0, (4, 0)), (1, (0, y1)), (2, (0, y2)), (3, (4, 22))]) (stN := [(5, 5), (0, u)]) (hsN := [jzY_19, jgh, jgh, jgh, jgh, jgh, (130, [], [16, 17, 18, 19, 20, 21]), (101, [], [0, 0, 0, 0, 0, 0]), jgh, jgh, jgh, jgh, jgh, jgh, jgh, jgh, (100, [], (jenc (jlg 0))), (100, [], (jenc (jlg 1))), (100, [], (jenc (jlg 2))), (100, [], (jenc (jlg 3))), (100, [], (jenc (jlg 4))), (100, [], (jenc (jlg 5))), (100, [], (jenc w)), (101, [], [e0, e1, e2, e3, e4, e5])]) (c1 := 0) (s1 := 0) (c2 := b1) (s2 := b2) (by exact rfl) ?_ (by omega) (by omega)
      refine jT_xiload (v := (0, 4)) (pcN := 42) jIY_312_40 rfl rfl rfl ?_
      refine jT_adv 1 (pcN := 43) (LN := [(5, (0, u)), (6, (0, y6)), (7, (0, 4)), (4, (4, 23)), (0, (4, 0)), (1, (0, y1)), (2, (0, y2)), (3, (4, 22))]) (stN := [(0, 11), (0, u)]) (hsN := [jzY_19, jgh, jgh, jgh, jgh, jgh, (130, [], [16, 17, 18, 19, 20, 21]), (101, [], [0, 0, 0, 0, 0, 0]), jgh, jgh, jgh, jgh, jgh, jgh, jgh, jgh, (100, [], (jenc (jlg 0))), (100, [], (jenc (jlg 1))), (100, [], (jenc (jlg 2))), (100, [], (jenc (jlg 3))), (100, [], (jenc (jlg 4))), (100, [], (jenc (jlg 5))), (100, [], (jenc w)), (101, [], [e0, e1, e2, e3, e4, e5])]) (c1 := 0) (s1 := 0) (c2 := b1) (s2 := b2) (by exact rfl) ?_ (by omega) (by omega)
      refine jT_irem (a := u) (b := 11) (by rfl) (by rfl) (jw_idd (by omega) (by omega)) (jw_idd (by omega) (by omega)) (by omega) ?_
      have hb_q1 := jtm_b (x := u) (y := 11) (by omega) (by omega)
      have hb_q1 : 0 ≤ u.tmod 11 ∧ u.tmod 11 ≤ 10 := ⟨hb_q1.1, by omega⟩
      generalize hq_q1 : u.tmod 11 = q1 at hb_q1 g_0 ⊢
      refine jT_ifF (a := q1) (t := 73) (by rfl) (by rfl) (by rfl) (jw_idd (by omega) (by omega)) (by simp only [jcP] <;> omega) ?_
      refine jT_xiload (v := (0, u)) (pcN := 49) jIY_312_47 rfl rfl rfl ?_
      refine jT_adv 1 (pcN := 52) (LN := [(5, (0, u)), (6, (0, y6)), (7, (0, 4)), (4, (4, 23)), (0, (4, 0)), (1, (0, y1)), (2, (0, y2)), (3, (4, 22))]) (stN := [(5, 5), (0, u)]) (hsN := [jzY_19, jgh, jgh, jgh, jgh, jgh, (130, [], [16, 17, 18, 19, 20, 21]), (101, [], [0, 0, 0, 0, 0, 0]), jgh, jgh, jgh, jgh, jgh, jgh, jgh, jgh, (100, [], (jenc (jlg 0))), (100, [], (jenc (jlg 1))), (100, [], (jenc (jlg 2))), (100, [], (jenc (jlg 3))), (100, [], (jenc (jlg 4))), (100, [], (jenc (jlg 5))), (100, [], (jenc w)), (101, [], [e0, e1, e2, e3, e4, e5])]) (c1 := 0) (s1 := 0) (c2 := b1) (s2 := b2) (by exact rfl) ?_ (by omega) (by omega)
      refine jT_xiload (v := (0, 4)) (pcN := 54) jIY_312_52 rfl rfl rfl ?_
      refine jT_adv 1 (pcN := 55) (LN := [(5, (0, u)), (6, (0, y6)), (7, (0, 4)), (4, (4, 23)), (0, (4, 0)), (1, (0, y1)), (2, (0, y2)), (3, (4, 22))]) (stN := [(0, 11), (0, u)]) (hsN := [jzY_19, jgh, jgh, jgh, jgh, jgh, (130, [], [16, 17, 18, 19, 20, 21]), (101, [], [0, 0, 0, 0, 0, 0]), jgh, jgh, jgh, jgh, jgh, jgh, jgh, jgh, (100, [], (jenc (jlg 0))), (100, [], (jenc (jlg 1))), (100, [], (jenc (jlg 2))), (100, [], (jenc (jlg 3))), (100, [], (jenc (jlg 4))), (100, [], (jenc (jlg 5))), (100, [], (jenc w)), (101, [], [e0, e1, e2, e3, e4, e5])]) (c1 := 0) (s1 := 0) (c2 := b1) (s2 := b2) (by exact rfl) ?_ (by omega) (by omega)
      refine jT_idiv (a := u) (b := 11) (by rfl) (by rfl) (jw_idd (by omega) (by omega)) (jw_idd (by omega) (by omega)) (by omega) ?_
      have hb_q2 := jtd_b0 (x := u) (y := 11) (by omega) (by omega)
      have hb_q2 : 0 ≤ u.tdiv 11 ∧ u.tdiv 11 ≤ 1000000000 := ⟨hb_q2.1, by omega⟩
      generalize hq_q2 : u.tdiv 11 = q2 at hb_q2 ⊢
      refine jT_xistore (v := (0, q2)) (LN := [(5, (0, q2)), (6, (0, y6)), (7, (0, 4)), (4, (4, 23)), (0, (4, 0)), (1, (0, y1)), (2, (0, y2)), (3, (4, 22))]) (pcN := 58) jIY_312_56 rfl rfl rfl rfl ?_
      refine jT_xaload (v := (4, 23)) (pcN := 60) jIY_312_58 rfl rfl rfl ?_
      refine jT_xiload (v := (0, 4)) (pcN := 62) jIY_312_60 rfl rfl rfl ?_
      refine jT_adv 1 (pcN := 63) (LN := [(5, (0, q2)), (6, (0, y6)), (7, (0, 4)), (4, (4, 23)), (0, (4, 0)), (1, (0, y1)), (2, (0, y2)), (3, (4, 22))]) (stN := [(0, 4), (4, 23), (0, 4), (4, 23)]) (hsN := [jzY_19, jgh, jgh, jgh, jgh, jgh, (130, [], [16, 17, 18, 19, 20, 21]), (101, [], [0, 0, 0, 0, 0, 0]), jgh, jgh, jgh, jgh, jgh, jgh, jgh, jgh, (100, [], (jenc (jlg 0))), (100, [], (jenc (jlg 1))), (100, [], (jenc (jlg 2))), (100, [], (jenc (jlg 3))), (100, [], (jenc (jlg 4))), (100, [], (jenc (jlg 5))), (100, [], (jenc w)), (101, [], [e0, e1, e2, e3, e4, e5])]) (c1 := 0) (s1 := 0) (c2 := b1) (s2 := b2) (by exact rfl) ?_ (by omega) (by omega)
      refine jT_lald (x := e4) (a := 23) (j := 4) (fs := []) (X := [e0, e1, e2, e3, e4, e5]) jIY_312_63 rfl rfl rfl rfl ?_
      refine jT_eq (LN := [(5, (0, q2)), (6, (0, y6)), (7, (0, 4)), (4, (4, 23)), (0, (4, 0)), (1, (0, y1)), (2, (0, y2)), (3, (4, 22))]) (stN := [(1, e4), (0, 4), (4, 23)]) (hsN := [jzY_19, jgh, jgh, jgh, jgh, jgh, (130, [], [16, 17, 18, 19, 20, 21]), (101, [], [0, 0, 0, 0, 0, 0]), jgh, jgh, jgh, jgh, jgh, jgh, jgh, jgh, (100, [], (jenc (jlg 0))), (100, [], (jenc (jlg 1))), (100, [], (jenc (jlg 2))), (100, [], (jenc (jlg 3))), (100, [], (jenc (jlg 4))), (100, [], (jenc (jlg 5))), (100, [], (jenc w)), (101, [], [e0, e1, e2, e3, e4, e5])]) rfl rfl rfl ?_
      refine jT_xaload_n (v := (4, 0)) (pcN := 65) jIY_312_64 rfl rfl rfl ?_
      refine jT_xgetf (a := 0) (t := 1) (ci := 14) (fi := 10) (c := jzY_19) (v := (1, 1)) (pcN := 68) jIY_312_65 rfl rfl rfl rfl rfl rfl rfl ?_
      refine jT_xladd (x := e4) (y := 1) (z := e4 + 1) (pcN := 69) jIY_312_68 rfl (rfl) rfl ?_
      refine jT_adv 1 (pcN := 70) (LN := [(5, (0, q2)), (6, (0, y6)), (7, (0, 4)), (4, (4, 23)), (0, (4, 0)), (1, (0, y1)), (2, (0, y2)), (3, (4, 22))]) (stN := []) (hsN := [jzY_19, jgh, jgh, jgh, jgh, jgh, (130, [], [16, 17, 18, 19, 20, 21]), (101, [], [0, 0, 0, 0, 0, 0]), jgh, jgh, jgh, jgh, jgh, jgh, jgh, jgh, (100, [], (jenc (jlg 0))), (100, [], (jenc (jlg 1))), (100, [], (jenc (jlg 2))), (100, [], (jenc (jlg 3))), (100, [], (jenc (jlg 4))), (100, [], (jenc (jlg 5))), (100, [], (jenc w)), (101, [], [e0, e1, e2, e3, e4 + 1, e5])]) (c1 := 0) (s1 := 0) (c2 := b1) (s2 := b2) (by exact rfl) ?_ (by omega) (by omega)
      refine jT_xgoto (pcN := 35) jIY_312_70 rfl ?_
      refine jT_loc (LN := [(5, (0, q2)), (6, (0, y6)), (7, (0, 4)), (4, (4, 23)), (0, (4, 0)), (1, (0, y1)), (2, (0, y2)), (3, (4, 22))]) (by show List.Nodup [5, 6, 7, 4, 0, 1, 2, 3]; decide) (by intro q hq; simp only [List.mem_cons, List.not_mem_nil, or_false] at hq; rcases hq with rfl | rfl | rfl | rfl | rfl | rfl | rfl | rfl <;> rfl) ?_
      have hs := jst_s (P := 11) (u := u) (n := n) (by decide) h1 hu (by omega)
      rw [hq_q2] at hs
      rw [jsu_1 (by omega), jsc_1 (by omega), hq_q2, show e4 + (jsc 11 n q2 + 1) = e4 + 1 + jsc 11 n q2 by omega] at h
      exact ih q2 (e4 + 1) (by omega) (by omega) hs.2.1 h
theorem jYl_sr_76 {xs : List Int} {d b1 b2 : Nat} {Q : Nat → JV → List JC → Prop} {y5 y1 y2 e0 e1 e2 e3 e5 w : Int} : ∀ (n : Nat) (u e4 : Int), 1 ≤ u → u ≤ 1000000000 → u < jp2 n → jT xs d 312 23 111 [(5, (0, y5)), (6, (0, jsu 11 n u)), (7, (0, 4)), (4, (4, 23)), (0, (4, 0)), (1, (0, y1)), (2, (0, y2)), (3, (4, 22))] [] [jzY_19, jgh, jgh, jgh, jgh, jgh, (130, [], [16, 17, 18, 19, 20, 21]), (101, [], [0, 0, 0, 0, 0, 0]), jgh, jgh, jgh, jgh, jgh, jgh, jgh, jgh, (100, [], (jenc (jlg 0))), (100, [], (jenc (jlg 1))), (100, [], (jenc (jlg 2))), (100, [], (jenc (jlg 3))), (100, [], (jenc (jlg 4))), (100, [], (jenc (jlg 5))), (100, [], (jenc w)), (101, [], [e0, e1, e2, e3, e4 - jsc 11 n u, e5])] b1 b2 Q → jT xs d 312 23 73 [(5, (0, y5)), (6, (0, u)), (7, (0, 4)), (4, (4, 23)), (0, (4, 0)), (1, (0, y1)), (2, (0, y2)), (3, (4, 22))] [] [jzY_19, jgh, jgh, jgh, jgh, jgh, (130, [], [16, 17, 18, 19, 20, 21]), (101, [], [0, 0, 0, 0, 0, 0]), jgh, jgh, jgh, jgh, jgh, jgh, jgh, jgh, (100, [], (jenc (jlg 0))), (100, [], (jenc (jlg 1))), (100, [], (jenc (jlg 2))), (100, [], (jenc (jlg 3))), (100, [], (jenc (jlg 4))), (100, [], (jenc (jlg 5))), (100, [], (jenc w)), (101, [], [e0, e1, e2, e3, e4, e5])] b1 b2 Q := by
  intro n
  induction n with
  | zero =>
    intro u e4 h1 h2 hu h
    exact absurd (show u < 1 from hu) (by omega)
  | succ n ih =>
    intro u e4 h1 h2 hu h
    have h_u : 1 ≤ u ∧ u ≤ 1000000000 := ⟨h1, h2⟩
    rcases (show (0 ≤ (u.tmod 11) - 1) ∨ ((u.tmod 11) - 1 < 0) by omega) with g_0 | g_0
    · refine jT_xiload (v := (0, u)) (pcN := 75) jIY_312_73 rfl rfl rfl ?_
      refine jT_adv 1 (pcN := 78) (LN := [(5, (0, y5)), (6, (0, u)), (7, (0, 4)), (4, (4, 23)), (0, (4, 0)), (1, (0, y1)), (2, (0, y2)), (3, (4, 22))]) (stN := [(5, 5), (0, u)]) (hsN := [jzY_19, jgh, jgh, jgh, jgh, jgh, (130, [], [16, 17, 18, 19, 20, 21]), (101, [], [0, 0, 0, 0, 0, 0]), jgh, jgh, jgh, jgh, jgh, jgh, jgh, jgh, (100, [], (jenc (jlg 0))), (100, [], (jenc (jlg 1))), (100, [], (jenc (jlg 2))), (100, [], (jenc (jlg 3))), (100, [], (jenc (jlg 4))), (100, [], (jenc (jlg 5))), (100, [], (jenc w)), (101, [], [e0, e1, e2, e3, e4, e5])]) (c1 := 0) (s1 := 0) (c2 := b1) (s2 := b2) (by exact rfl) ?_ (by omega) (by omega)
      refine jT_xiload (v := (0, 4)) (pcN := 80) jIY_312_78 rfl rfl rfl ?_
      refine jT_adv 1 (pcN := 81) (LN := [(5, (0, y5)), (6, (0, u)), (7, (0, 4)), (4, (4, 23)), (0, (4, 0)), (1, (0, y1)), (2, (0, y2)), (3, (4, 22))]) (stN := [(0, 11), (0, u)]) (hsN := [jzY_19, jgh, jgh, jgh, jgh, jgh, (130, [], [16, 17, 18, 19, 20, 21]), (101, [], [0, 0, 0, 0, 0, 0]), jgh, jgh, jgh, jgh, jgh, jgh, jgh, jgh, (100, [], (jenc (jlg 0))), (100, [], (jenc (jlg 1))), (100, [], (jenc (jlg 2))), (100, [], (jenc (jlg 3))), (100, [], (jenc (jlg 4))), (100, [], (jenc (jlg 5))), (100, [], (jenc w)), (101, [], [e0, e1, e2, e3, e4, e5])]) (c1 := 0) (s1 := 0) (c2 := b1) (s2 := b2) (by exact rfl) ?_ (by omega) (by omega)
      refine jT_irem (a := u) (b := 11) (by rfl) (by rfl) (jw_idd (by omega) (by omega)) (jw_idd (by omega) (by omega)) (by omega) ?_
      have hb_q1 := jtm_b (x := u) (y := 11) (by omega) (by omega)
      have hb_q1 : 0 ≤ u.tmod 11 ∧ u.tmod 11 ≤ 10 := ⟨hb_q1.1, by omega⟩
      generalize hq_q1 : u.tmod 11 = q1 at hb_q1 g_0 ⊢
      refine jT_ifT (a := q1) (t := 111) (by rfl) (by rfl) (by rfl) (jw_idd (by omega) (by omega)) (by simp only [jcP] <;> omega) ?_
      refine jT_loc (LN := [(5, (0, y5)), (6, (0, u)), (7, (0, 4)), (4, (4, 23)), (0, (4, 0)), (1, (0, y1)), (2, (0, y2)), (3, (4, 22))]) (by show List.Nodup [5, 6, 7, 4, 0, 1, 2, 3]; decide) (by intro q hq; simp only [List.mem_cons, List.not_mem_nil, or_false] at hq; rcases hq with rfl | rfl | rfl | rfl | rfl | rfl | rfl | rfl <;> rfl) ?_
      rw [jsu_0 (by omega), jsc_0 (by omega), Int.sub_zero] at h
      exact h
    · refine jT_xiload (v := (0, u)) (pcN := 75) jIY_312_73 rfl rfl rfl ?_
      refine jT_adv 1 (pcN := 78) (LN := [(5, (0, y5)), (6, (0, u)), (7, (0, 4)), (4, (4, 23)), (0, (4, 0)), (1, (0, y1)), (2, (0, y2)), (3, (4, 22))]) (stN := [(5, 5), (0, u)]) (hsN := [jzY_19, jgh, jgh, jgh, jgh, jgh, (130, [], [16, 17, 18, 19, 20, 21]), (101, [], [0, 0, 0, 0, 0, 0]), jgh, jgh, jgh, jgh, jgh, jgh, jgh, jgh, (100, [], (jenc (jlg 0))), (100, [], (jenc (jlg 1))), (100, [], (jenc (jlg 2))), (100, [], (jenc (jlg 3))), (100, [], (jenc (jlg 4))), (100, [], (jenc (jlg 5))), (100, [], (jenc w)), (101, [], [e0, e1, e2, e3, e4, e5])]) (c1 := 0) (s1 := 0) (c2 := b1) (s2 := b2) (by exact rfl) ?_ (by omega) (by omega)
      refine jT_xiload (v := (0, 4)) (pcN := 80) jIY_312_78 rfl rfl rfl ?_
      refine jT_adv 1 (pcN := 81) (LN := [(5, (0, y5)), (6, (0, u)), (7, (0, 4)), (4, (4, 23)), (0, (4, 0)), (1, (0, y1)), (2, (0, y2)), (3, (4, 22))]) (stN := [(0, 11), (0, u)]) (hsN := [jzY_19, jgh, jgh, jgh, jgh, jgh, (130, [], [16, 17, 18, 19, 20, 21]), (101, [], [0, 0, 0, 0, 0, 0]), jgh, jgh, jgh, jgh, jgh, jgh, jgh, jgh, (100, [], (jenc (jlg 0))), (100, [], (jenc (jlg 1))), (100, [], (jenc (jlg 2))), (100, [], (jenc (jlg 3))), (100, [], (jenc (jlg 4))), (100, [], (jenc (jlg 5))), (100, [], (jenc w)), (101, [], [e0, e1, e2, e3, e4, e5])]) (c1 := 0) (s1 := 0) (c2 := b1) (s2 := b2) (by exact rfl) ?_ (by omega) (by omega)
      refine jT_irem (a := u) (b := 11) (by rfl) (by rfl) (jw_idd (by omega) (by omega)) (jw_idd (by omega) (by omega)) (by omega) ?_
      have hb_q1 := jtm_b (x := u) (y := 11) (by omega) (by omega)
      have hb_q1 : 0 ≤ u.tmod 11 ∧ u.tmod 11 ≤ 10 := ⟨hb_q1.1, by omega⟩
      generalize hq_q1 : u.tmod 11 = q1 at hb_q1 g_0 ⊢
      refine jT_ifF (a := q1) (t := 111) (by rfl) (by rfl) (by rfl) (jw_idd (by omega) (by omega)) (by simp only [jcP] <;> omega) ?_
      refine jT_xiload (v := (0, u)) (pcN := 87) jIY_312_85 rfl rfl rfl ?_
      refine jT_adv 1 (pcN := 90) (LN := [(5, (0, y5)), (6, (0, u)), (7, (0, 4)), (4, (4, 23)), (0, (4, 0)), (1, (0, y1)), (2, (0, y2)), (3, (4, 22))]) (stN := [(5, 5), (0, u)]) (hsN := [jzY_19, jgh, jgh, jgh, jgh, jgh, (130, [], [16, 17, 18, 19, 20, 21]), (101, [], [0, 0, 0, 0, 0, 0]), jgh, jgh, jgh, jgh, jgh, jgh, jgh, jgh, (100, [], (jenc (jlg 0))), (100, [], (jenc (jlg 1))), (100, [], (jenc (jlg 2))), (100, [], (jenc (jlg 3))), (100, [], (jenc (jlg 4))), (100, [], (jenc (jlg 5))), (100, [], (jenc w)), (101, [], [e0, e1, e2, e3, e4, e5])]) (c1 := 0) (s1 := 0) (c2 := b1) (s2 := b2) (by exact rfl) ?_ (by omega) (by omega)
      refine jT_xiload (v := (0, 4)) (pcN := 92) jIY_312_90 rfl rfl rfl ?_
      refine jT_adv 1 (pcN := 93) (LN := [(5, (0, y5)), (6, (0, u)), (7, (0, 4)), (4, (4, 23)), (0, (4, 0)), (1, (0, y1)), (2, (0, y2)), (3, (4, 22))]) (stN := [(0, 11), (0, u)]) (hsN := [jzY_19, jgh, jgh, jgh, jgh, jgh, (130, [], [16, 17, 18, 19, 20, 21]), (101, [], [0, 0, 0, 0, 0, 0]), jgh, jgh, jgh, jgh, jgh, jgh, jgh, jgh, (100, [], (jenc (jlg 0))), (100, [], (jenc (jlg 1))), (100, [], (jenc (jlg 2))), (100, [], (jenc (jlg 3))), (100, [], (jenc (jlg 4))), (100, [], (jenc (jlg 5))), (100, [], (jenc w)), (101, [], [e0, e1, e2, e3, e4, e5])]) (c1 := 0) (s1 := 0) (c2 := b1) (s2 := b2) (by exact rfl) ?_ (by omega) (by omega)
      refine jT_idiv (a := u) (b := 11) (by rfl) (by rfl) (jw_idd (by omega) (by omega)) (jw_idd (by omega) (by omega)) (by omega) ?_
      have hb_q2 := jtd_b0 (x := u) (y := 11) (by omega) (by omega)
      have hb_q2 : 0 ≤ u.tdiv 11 ∧ u.tdiv 11 ≤ 1000000000 := ⟨hb_q2.1, by omega⟩
      generalize hq_q2 : u.tdiv 11 = q2 at hb_q2 ⊢
      refine jT_xistore (v := (0, q2)) (LN := [(6, (0, q2)), (5, (0, y5)), (7, (0, 4)), (4, (4, 23)), (0, (4, 0)), (1, (0, y1)), (2, (0, y2)), (3, (4, 22))]) (pcN := 96) jIY_312_94 rfl rfl rfl rfl ?_
      refine jT_xaload (v := (4, 23)) (pcN := 98) jIY_312_96 rfl rfl rfl ?_
      refine jT_xiload (v := (0, 4)) (pcN := 100) jIY_312_98 rfl rfl rfl ?_
      refine jT_adv 1 (pcN := 101) (LN := [(6, (0, q2)), (5, (0, y5)), (7, (0, 4)), (4, (4, 23)), (0, (4, 0)), (1, (0, y1)), (2, (0, y2)), (3, (4, 22))]) (stN := [(0, 4), (4, 23), (0, 4), (4, 23)]) (hsN := [jzY_19, jgh, jgh, jgh, jgh, jgh, (130, [], [16, 17, 18, 19, 20, 21]), (101, [], [0, 0, 0, 0, 0, 0]), jgh, jgh, jgh, jgh, jgh, jgh, jgh, jgh, (100, [], (jenc (jlg 0))), (100, [], (jenc (jlg 1))), (100, [], (jenc (jlg 2))), (100, [], (jenc (jlg 3))), (100, [], (jenc (jlg 4))), (100, [], (jenc (jlg 5))), (100, [], (jenc w)), (101, [], [e0, e1, e2, e3, e4, e5])]) (c1 := 0) (s1 := 0) (c2 := b1) (s2 := b2) (by exact rfl) ?_ (by omega) (by omega)
      refine jT_lald (x := e4) (a := 23) (j := 4) (fs := []) (X := [e0, e1, e2, e3, e4, e5]) jIY_312_101 rfl rfl rfl rfl ?_
      refine jT_eq (LN := [(6, (0, q2)), (5, (0, y5)), (7, (0, 4)), (4, (4, 23)), (0, (4, 0)), (1, (0, y1)), (2, (0, y2)), (3, (4, 22))]) (stN := [(1, e4), (0, 4), (4, 23)]) (hsN := [jzY_19, jgh, jgh, jgh, jgh, jgh, (130, [], [16, 17, 18, 19, 20, 21]), (101, [], [0, 0, 0, 0, 0, 0]), jgh, jgh, jgh, jgh, jgh, jgh, jgh, jgh, (100, [], (jenc (jlg 0))), (100, [], (jenc (jlg 1))), (100, [], (jenc (jlg 2))), (100, [], (jenc (jlg 3))), (100, [], (jenc (jlg 4))), (100, [], (jenc (jlg 5))), (100, [], (jenc w)), (101, [], [e0, e1, e2, e3, e4, e5])]) rfl rfl rfl ?_
      refine jT_xaload_n (v := (4, 0)) (pcN := 103) jIY_312_102 rfl rfl rfl ?_
      refine jT_xgetf (a := 0) (t := 1) (ci := 14) (fi := 10) (c := jzY_19) (v := (1, 1)) (pcN := 106) jIY_312_103 rfl rfl rfl rfl rfl rfl rfl ?_
      refine jT_xlsub (x := e4) (y := 1) (z := e4 - 1) (pcN := 107) jIY_312_106 rfl (rfl) rfl ?_
      refine jT_adv 1 (pcN := 108) (LN := [(6, (0, q2)), (5, (0, y5)), (7, (0, 4)), (4, (4, 23)), (0, (4, 0)), (1, (0, y1)), (2, (0, y2)), (3, (4, 22))]) (stN := []) (hsN := [jzY_19, jgh, jgh, jgh, jgh, jgh, (130, [], [16, 17, 18, 19, 20, 21]), (101, [], [0, 0, 0, 0, 0, 0]), jgh, jgh, jgh, jgh, jgh, jgh, jgh, jgh, (100, [], (jenc (jlg 0))), (100, [], (jenc (jlg 1))), (100, [], (jenc (jlg 2))), (100, [], (jenc (jlg 3))), (100, [], (jenc (jlg 4))), (100, [], (jenc (jlg 5))), (100, [], (jenc w)), (101, [], [e0, e1, e2, e3, e4 - 1, e5])]) (c1 := 0) (s1 := 0) (c2 := b1) (s2 := b2) (by exact rfl) ?_ (by omega) (by omega)
      refine jT_xgoto (pcN := 73) jIY_312_108 rfl ?_
      refine jT_loc (LN := [(5, (0, y5)), (6, (0, q2)), (7, (0, 4)), (4, (4, 23)), (0, (4, 0)), (1, (0, y1)), (2, (0, y2)), (3, (4, 22))]) (by show List.Nodup [5, 6, 7, 4, 0, 1, 2, 3]; decide) (by intro q hq; simp only [List.mem_cons, List.not_mem_nil, or_false] at hq; rcases hq with rfl | rfl | rfl | rfl | rfl | rfl | rfl | rfl <;> rfl) ?_
      have hs := jst_s (P := 11) (u := u) (n := n) (by decide) h1 hu (by omega)
      rw [hq_q2] at hs
      rw [jsu_1 (by omega), jsc_1 (by omega), hq_q2, show e4 - (jsc 11 n q2 + 1) = e4 - 1 - jsc 11 n q2 by omega] at h
      exact ih q2 (e4 - 1) (by omega) (by omega) hs.2.1 h
theorem jYl_sr_77 {xs : List Int} {d b1 b2 : Nat} {Q : Nat → JV → List JC → Prop} {y6 y1 y2 e0 e1 e2 e3 e4 w : Int} : ∀ (n : Nat) (u e5 : Int), 1 ≤ u → u ≤ 1000000000 → u < jp2 n → jT xs d 312 23 73 [(5, (0, jsu 13 n u)), (6, (0, y6)), (7, (0, 5)), (4, (4, 23)), (0, (4, 0)), (1, (0, y1)), (2, (0, y2)), (3, (4, 22))] [] [jzY_19, jgh, jgh, jgh, jgh, jgh, (130, [], [16, 17, 18, 19, 20, 21]), (101, [], [0, 0, 0, 0, 0, 0]), jgh, jgh, jgh, jgh, jgh, jgh, jgh, jgh, (100, [], (jenc (jlg 0))), (100, [], (jenc (jlg 1))), (100, [], (jenc (jlg 2))), (100, [], (jenc (jlg 3))), (100, [], (jenc (jlg 4))), (100, [], (jenc (jlg 5))), (100, [], (jenc w)), (101, [], [e0, e1, e2, e3, e4, e5 + jsc 13 n u])] b1 b2 Q → jT xs d 312 23 35 [(5, (0, u)), (6, (0, y6)), (7, (0, 5)), (4, (4, 23)), (0, (4, 0)), (1, (0, y1)), (2, (0, y2)), (3, (4, 22))] [] [jzY_19, jgh, jgh, jgh, jgh, jgh, (130, [], [16, 17, 18, 19, 20, 21]), (101, [], [0, 0, 0, 0, 0, 0]), jgh, jgh, jgh, jgh, jgh, jgh, jgh, jgh, (100, [], (jenc (jlg 0))), (100, [], (jenc (jlg 1))), (100, [], (jenc (jlg 2))), (100, [], (jenc (jlg 3))), (100, [], (jenc (jlg 4))), (100, [], (jenc (jlg 5))), (100, [], (jenc w)), (101, [], [e0, e1, e2, e3, e4, e5])] b1 b2 Q := by
  intro n
  induction n with
  | zero =>
    intro u e5 h1 h2 hu h
    exact absurd (show u < 1 from hu) (by omega)
  | succ n ih =>
    intro u e5 h1 h2 hu h
    have h_u : 1 ≤ u ∧ u ≤ 1000000000 := ⟨h1, h2⟩
    rcases (show (0 ≤ (u.tmod 13) - 1) ∨ ((u.tmod 13) - 1 < 0) by omega) with g_0 | g_0
    · refine jT_xiload (v := (0, u)) (pcN := 37) jIY_312_35 rfl rfl rfl ?_
      refine jT_adv 1 (pcN := 40) (LN := [(5, (0, u)), (6, (0, y6)), (7, (0, 5)), (4, (4, 23)), (0, (4, 0)), (1, (0, y1)), (2, (0, y2)), (3, (4, 22))]) (stN := [(5, 5), (0, u)]) (hsN := [jzY_19, jgh, jgh, jgh, jgh, jgh, (130, [], [16, 17, 18, 19, 20, 21]), (101, [], [0, 0, 0, 0, 0, 0]), jgh, jgh, jgh, jgh, jgh, jgh, jgh, jgh, (100, [], (jenc (jlg 0))), (100, [], (jenc (jlg 1))), (100, [], (jenc (jlg 2))), (100, [], (jenc (jlg 3))), (100, [], (jenc (jlg 4))), (100, [], (jenc (jlg 5))), (100, [], (jenc w)), (101, [], [e0, e1, e2, e3, e4, e5])]) (c1 := 0) (s1 := 0) (c2 := b1) (s2 := b2) (by exact rfl) ?_ (by omega) (by omega)
      refine jT_xiload (v := (0, 5)) (pcN := 42) jIY_312_40 rfl rfl rfl ?_
      refine jT_adv 1 (pcN := 43) (LN := [(5, (0, u)), (6, (0, y6)), (7, (0, 5)), (4, (4, 23)), (0, (4, 0)), (1, (0, y1)), (2, (0, y2)), (3, (4, 22))]) (stN := [(0, 13), (0, u)]) (hsN := [jzY_19, jgh, jgh, jgh, jgh, jgh, (130, [], [16, 17, 18, 19, 20, 21]), (101, [], [0, 0, 0, 0, 0, 0]), jgh, jgh, jgh, jgh, jgh, jgh, jgh, jgh, (100, [], (jenc (jlg 0))), (100, [], (jenc (jlg 1))), (100, [], (jenc (jlg 2))), (100, [], (jenc (jlg 3))), (100, [], (jenc (jlg 4))), (100, [], (jenc (jlg 5))), (100, [], (jenc w)), (101, [], [e0, e1, e2, e3, e4, e5])]) (c1 := 0) (s1 := 0) (c2 := b1) (s2 := b2) (by exact rfl) ?_ (by omega) (by omega)
      refine jT_irem (a := u) (b := 13) (by rfl) (by rfl) (jw_idd (by omega) (by omega)) (jw_idd (by omega) (by omega)) (by omega) ?_
      have hb_q1 := jtm_b (x := u) (y := 13) (by omega) (by omega)
      have hb_q1 : 0 ≤ u.tmod 13 ∧ u.tmod 13 ≤ 12 := ⟨hb_q1.1, by omega⟩
      generalize hq_q1 : u.tmod 13 = q1 at hb_q1 g_0 ⊢
      refine jT_ifT (a := q1) (t := 73) (by rfl) (by rfl) (by rfl) (jw_idd (by omega) (by omega)) (by simp only [jcP] <;> omega) ?_
      refine jT_loc (LN := [(5, (0, u)), (6, (0, y6)), (7, (0, 5)), (4, (4, 23)), (0, (4, 0)), (1, (0, y1)), (2, (0, y2)), (3, (4, 22))]) (by show List.Nodup [5, 6, 7, 4, 0, 1, 2, 3]; decide) (by intro q hq; simp only [List.mem_cons, List.not_mem_nil, or_false] at hq; rcases hq with rfl | rfl | rfl | rfl | rfl | rfl | rfl | rfl <;> rfl) ?_
      rw [jsu_0 (by omega), jsc_0 (by omega), Int.add_zero] at h
      exact h
    · refine jT_xiload (v := (0, u)) (pcN := 37) jIY_312_35 rfl rfl rfl ?_
      refine jT_adv 1 (pcN := 40) (LN := [(5, (0, u)), (6, (0, y6)), (7, (0, 5)), (4, (4, 23)), (0, (4, 0)), (1, (0, y1)), (2, (0, y2)), (3, (4, 22))]) (stN := [(5, 5), (0, u)]) (hsN := [jzY_19, jgh, jgh, jgh, jgh, jgh, (130, [], [16, 17, 18, 19, 20, 21]), (101, [], [0, 0, 0, 0, 0, 0]), jgh, jgh, jgh, jgh, jgh, jgh, jgh, jgh, (100, [], (jenc (jlg 0))), (100, [], (jenc (jlg 1))), (100, [], (jenc (jlg 2))), (100, [], (jenc (jlg 3))), (100, [], (jenc (jlg 4))), (100, [], (jenc (jlg 5))), (100, [], (jenc w)), (101, [], [e0, e1, e2, e3, e4, e5])]) (c1 := 0) (s1 := 0) (c2 := b1) (s2 := b2) (by exact rfl) ?_ (by omega) (by omega)
      refine jT_xiload (v := (0, 5)) (pcN := 42) jIY_312_40 rfl rfl rfl ?_
      refine jT_adv 1 (pcN := 43) (LN := [(5, (0, u)), (6, (0, y6)), (7, (0, 5)), (4, (4, 23)), (0, (4, 0)), (1, (0, y1)), (2, (0, y2)), (3, (4, 22))]) (stN := [(0, 13), (0, u)]) (hsN := [jzY_19, jgh, jgh, jgh, jgh, jgh, (130, [], [16, 17, 18, 19, 20, 21]), (101, [], [0, 0, 0, 0, 0, 0]), jgh, jgh, jgh, jgh, jgh, jgh, jgh, jgh, (100, [], (jenc (jlg 0))), (100, [], (jenc (jlg 1))), (100, [], (jenc (jlg 2))), (100, [], (jenc (jlg 3))), (100, [], (jenc (jlg 4))), (100, [], (jenc (jlg 5))), (100, [], (jenc w)), (101, [], [e0, e1, e2, e3, e4, e5])]) (c1 := 0) (s1 := 0) (c2 := b1) (s2 := b2) (by exact rfl) ?_ (by omega) (by omega)
      refine jT_irem (a := u) (b := 13) (by rfl) (by rfl) (jw_idd (by omega) (by omega)) (jw_idd (by omega) (by omega)) (by omega) ?_
      have hb_q1 := jtm_b (x := u) (y := 13) (by omega) (by omega)
      have hb_q1 : 0 ≤ u.tmod 13 ∧ u.tmod 13 ≤ 12 := ⟨hb_q1.1, by omega⟩
      generalize hq_q1 : u.tmod 13 = q1 at hb_q1 g_0 ⊢
      refine jT_ifF (a := q1) (t := 73) (by rfl) (by rfl) (by rfl) (jw_idd (by omega) (by omega)) (by simp only [jcP] <;> omega) ?_
      refine jT_xiload (v := (0, u)) (pcN := 49) jIY_312_47 rfl rfl rfl ?_
      refine jT_adv 1 (pcN := 52) (LN := [(5, (0, u)), (6, (0, y6)), (7, (0, 5)), (4, (4, 23)), (0, (4, 0)), (1, (0, y1)), (2, (0, y2)), (3, (4, 22))]) (stN := [(5, 5), (0, u)]) (hsN := [jzY_19, jgh, jgh, jgh, jgh, jgh, (130, [], [16, 17, 18, 19, 20, 21]), (101, [], [0, 0, 0, 0, 0, 0]), jgh, jgh, jgh, jgh, jgh, jgh, jgh, jgh, (100, [], (jenc (jlg 0))), (100, [], (jenc (jlg 1))), (100, [], (jenc (jlg 2))), (100, [], (jenc (jlg 3))), (100, [], (jenc (jlg 4))), (100, [], (jenc (jlg 5))), (100, [], (jenc w)), (101, [], [e0, e1, e2, e3, e4, e5])]) (c1 := 0) (s1 := 0) (c2 := b1) (s2 := b2) (by exact rfl) ?_ (by omega) (by omega)
      refine jT_xiload (v := (0, 5)) (pcN := 54) jIY_312_52 rfl rfl rfl ?_
      refine jT_adv 1 (pcN := 55) (LN := [(5, (0, u)), (6, (0, y6)), (7, (0, 5)), (4, (4, 23)), (0, (4, 0)), (1, (0, y1)), (2, (0, y2)), (3, (4, 22))]) (stN := [(0, 13), (0, u)]) (hsN := [jzY_19, jgh, jgh, jgh, jgh, jgh, (130, [], [16, 17, 18, 19, 20, 21]), (101, [], [0, 0, 0, 0, 0, 0]), jgh, jgh, jgh, jgh, jgh, jgh, jgh, jgh, (100, [], (jenc (jlg 0))), (100, [], (jenc (jlg 1))), (100, [], (jenc (jlg 2))), (100, [], (jenc (jlg 3))), (100, [], (jenc (jlg 4))), (100, [], (jenc (jlg 5))), (100, [], (jenc w)), (101, [], [e0, e1, e2, e3, e4, e5])]) (c1 := 0) (s1 := 0) (c2 := b1) (s2 := b2) (by exact rfl) ?_ (by omega) (by omega)
      refine jT_idiv (a := u) (b := 13) (by rfl) (by rfl) (jw_idd (by omega) (by omega)) (jw_idd (by omega) (by omega)) (by omega) ?_
      have hb_q2 := jtd_b0 (x := u) (y := 13) (by omega) (by omega)
      have hb_q2 : 0 ≤ u.tdiv 13 ∧ u.tdiv 13 ≤ 1000000000 := ⟨hb_q2.1, by omega⟩
      generalize hq_q2 : u.tdiv 13 = q2 at hb_q2 ⊢
      refine jT_xistore (v := (0, q2)) (LN := [(5, (0, q2)), (6, (0, y6)), (7, (0, 5)), (4, (4, 23)), (0, (4, 0)), (1, (0, y1)), (2, (0, y2)), (3, (4, 22))]) (pcN := 58) jIY_312_56 rfl rfl rfl rfl ?_
      refine jT_xaload (v := (4, 23)) (pcN := 60) jIY_312_58 rfl rfl rfl ?_
      refine jT_xiload (v := (0, 5)) (pcN := 62) jIY_312_60 rfl rfl rfl ?_
      refine jT_adv 1 (pcN := 63) (LN := [(5, (0, q2)), (6, (0, y6)), (7, (0, 5)), (4, (4, 23)), (0, (4, 0)), (1, (0, y1)), (2, (0, y2)), (3, (4, 22))]) (stN := [(0, 5), (4, 23), (0, 5), (4, 23)]) (hsN := [jzY_19, jgh, jgh, jgh, jgh, jgh, (130, [], [16, 17, 18, 19, 20, 21]), (101, [], [0, 0, 0, 0, 0, 0]), jgh, jgh, jgh, jgh, jgh, jgh, jgh, jgh, (100, [], (jenc (jlg 0))), (100, [], (jenc (jlg 1))), (100, [], (jenc (jlg 2))), (100, [], (jenc (jlg 3))), (100, [], (jenc (jlg 4))), (100, [], (jenc (jlg 5))), (100, [], (jenc w)), (101, [], [e0, e1, e2, e3, e4, e5])]) (c1 := 0) (s1 := 0) (c2 := b1) (s2 := b2) (by exact rfl) ?_ (by omega) (by omega)
      refine jT_lald (x := e5) (a := 23) (j := 5) (fs := []) (X := [e0, e1, e2, e3, e4, e5]) jIY_312_63 rfl rfl rfl rfl ?_
      refine jT_eq (LN := [(5, (0, q2)), (6, (0, y6)), (7, (0, 5)), (4, (4, 23)), (0, (4, 0)), (1, (0, y1)), (2, (0, y2)), (3, (4, 22))]) (stN := [(1, e5), (0, 5), (4, 23)]) (hsN := [jzY_19, jgh, jgh, jgh, jgh, jgh, (130, [], [16, 17, 18, 19, 20, 21]), (101, [], [0, 0, 0, 0, 0, 0]), jgh, jgh, jgh, jgh, jgh, jgh, jgh, jgh, (100, [], (jenc (jlg 0))), (100, [], (jenc (jlg 1))), (100, [], (jenc (jlg 2))), (100, [], (jenc (jlg 3))), (100, [], (jenc (jlg 4))), (100, [], (jenc (jlg 5))), (100, [], (jenc w)), (101, [], [e0, e1, e2, e3, e4, e5])]) rfl rfl rfl ?_
      refine jT_xaload_n (v := (4, 0)) (pcN := 65) jIY_312_64 rfl rfl rfl ?_
      refine jT_xgetf (a := 0) (t := 1) (ci := 14) (fi := 10) (c := jzY_19) (v := (1, 1)) (pcN := 68) jIY_312_65 rfl rfl rfl rfl rfl rfl rfl ?_
      refine jT_xladd (x := e5) (y := 1) (z := e5 + 1) (pcN := 69) jIY_312_68 rfl (rfl) rfl ?_
      refine jT_adv 1 (pcN := 70) (LN := [(5, (0, q2)), (6, (0, y6)), (7, (0, 5)), (4, (4, 23)), (0, (4, 0)), (1, (0, y1)), (2, (0, y2)), (3, (4, 22))]) (stN := []) (hsN := [jzY_19, jgh, jgh, jgh, jgh, jgh, (130, [], [16, 17, 18, 19, 20, 21]), (101, [], [0, 0, 0, 0, 0, 0]), jgh, jgh, jgh, jgh, jgh, jgh, jgh, jgh, (100, [], (jenc (jlg 0))), (100, [], (jenc (jlg 1))), (100, [], (jenc (jlg 2))), (100, [], (jenc (jlg 3))), (100, [], (jenc (jlg 4))), (100, [], (jenc (jlg 5))), (100, [], (jenc w)), (101, [], [e0, e1, e2, e3, e4, e5 + 1])]) (c1 := 0) (s1 := 0) (c2 := b1) (s2 := b2) (by exact rfl) ?_ (by omega) (by omega)
      refine jT_xgoto (pcN := 35) jIY_312_70 rfl ?_
      refine jT_loc (LN := [(5, (0, q2)), (6, (0, y6)), (7, (0, 5)), (4, (4, 23)), (0, (4, 0)), (1, (0, y1)), (2, (0, y2)), (3, (4, 22))]) (by show List.Nodup [5, 6, 7, 4, 0, 1, 2, 3]; decide) (by intro q hq; simp only [List.mem_cons, List.not_mem_nil, or_false] at hq; rcases hq with rfl | rfl | rfl | rfl | rfl | rfl | rfl | rfl <;> rfl) ?_
      have hs := jst_s (P := 13) (u := u) (n := n) (by decide) h1 hu (by omega)
      rw [hq_q2] at hs
      rw [jsu_1 (by omega), jsc_1 (by omega), hq_q2, show e5 + (jsc 13 n q2 + 1) = e5 + 1 + jsc 13 n q2 by omega] at h
      exact ih q2 (e5 + 1) (by omega) (by omega) hs.2.1 h
theorem jYl_sr_78 {xs : List Int} {d b1 b2 : Nat} {Q : Nat → JV → List JC → Prop} {y5 y1 y2 e0 e1 e2 e3 e4 w : Int} : ∀ (n : Nat) (u e5 : Int), 1 ≤ u → u ≤ 1000000000 → u < jp2 n → jT xs d 312 23 111 [(5, (0, y5)), (6, (0, jsu 13 n u)), (7, (0, 5)), (4, (4, 23)), (0, (4, 0)), (1, (0, y1)), (2, (0, y2)), (3, (4, 22))] [] [jzY_19, jgh, jgh, jgh, jgh, jgh, (130, [], [16, 17, 18, 19, 20, 21]), (101, [], [0, 0, 0, 0, 0, 0]), jgh, jgh, jgh, jgh, jgh, jgh, jgh, jgh, (100, [], (jenc (jlg 0))), (100, [], (jenc (jlg 1))), (100, [], (jenc (jlg 2))), (100, [], (jenc (jlg 3))), (100, [], (jenc (jlg 4))), (100, [], (jenc (jlg 5))), (100, [], (jenc w)), (101, [], [e0, e1, e2, e3, e4, e5 - jsc 13 n u])] b1 b2 Q → jT xs d 312 23 73 [(5, (0, y5)), (6, (0, u)), (7, (0, 5)), (4, (4, 23)), (0, (4, 0)), (1, (0, y1)), (2, (0, y2)), (3, (4, 22))] [] [jzY_19, jgh, jgh, jgh, jgh, jgh, (130, [], [16, 17, 18, 19, 20, 21]), (101, [], [0, 0, 0, 0, 0, 0]), jgh, jgh, jgh, jgh, jgh, jgh, jgh, jgh, (100, [], (jenc (jlg 0))), (100, [], (jenc (jlg 1))), (100, [], (jenc (jlg 2))), (100, [], (jenc (jlg 3))), (100, [], (jenc (jlg 4))), (100, [], (jenc (jlg 5))), (100, [], (jenc w)), (101, [], [e0, e1, e2, e3, e4, e5])] b1 b2 Q := by
  intro n
  induction n with
  | zero =>
    intro u e5 h1 h2 hu h
    exact absurd (show u < 1 from hu) (by omega)
  | succ n ih =>
    intro u e5 h1 h2 hu h
    have h_u : 1 ≤ u ∧ u ≤ 1000000000 := ⟨h1, h2⟩
    rcases (show (0 ≤ (u.tmod 13) - 1) ∨ ((u.tmod 13) - 1 < 0) by omega) with g_0 | g_0
    · refine jT_xiload (v := (0, u)) (pcN := 75) jIY_312_73 rfl rfl rfl ?_
      refine jT_adv 1 (pcN := 78) (LN := [(5, (0, y5)), (6, (0, u)), (7, (0, 5)), (4, (4, 23)), (0, (4, 0)), (1, (0, y1)), (2, (0, y2)), (3, (4, 22))]) (stN := [(5, 5), (0, u)]) (hsN := [jzY_19, jgh, jgh, jgh, jgh, jgh, (130, [], [16, 17, 18, 19, 20, 21]), (101, [], [0, 0, 0, 0, 0, 0]), jgh, jgh, jgh, jgh, jgh, jgh, jgh, jgh, (100, [], (jenc (jlg 0))), (100, [], (jenc (jlg 1))), (100, [], (jenc (jlg 2))), (100, [], (jenc (jlg 3))), (100, [], (jenc (jlg 4))), (100, [], (jenc (jlg 5))), (100, [], (jenc w)), (101, [], [e0, e1, e2, e3, e4, e5])]) (c1 := 0) (s1 := 0) (c2 := b1) (s2 := b2) (by exact rfl) ?_ (by omega) (by omega)
      refine jT_xiload (v := (0, 5)) (pcN := 80) jIY_312_78 rfl rfl rfl ?_
      refine jT_adv 1 (pcN := 81) (LN := [(5, (0, y5)), (6, (0, u)), (7, (0, 5)), (4, (4, 23)), (0, (4, 0)), (1, (0, y1)), (2, (0, y2)), (3, (4, 22))]) (stN := [(0, 13), (0, u)]) (hsN := [jzY_19, jgh, jgh, jgh, jgh, jgh, (130, [], [16, 17, 18, 19, 20, 21]), (101, [], [0, 0, 0, 0, 0, 0]), jgh, jgh, jgh, jgh, jgh, jgh, jgh, jgh, (100, [], (jenc (jlg 0))), (100, [], (jenc (jlg 1))), (100, [], (jenc (jlg 2))), (100, [], (jenc (jlg 3))), (100, [], (jenc (jlg 4))), (100, [], (jenc (jlg 5))), (100, [], (jenc w)), (101, [], [e0, e1, e2, e3, e4, e5])]) (c1 := 0) (s1 := 0) (c2 := b1) (s2 := b2) (by exact rfl) ?_ (by omega) (by omega)
      refine jT_irem (a := u) (b := 13) (by rfl) (by rfl) (jw_idd (by omega) (by omega)) (jw_idd (by omega) (by omega)) (by omega) ?_
      have hb_q1 := jtm_b (x := u) (y := 13) (by omega) (by omega)
      have hb_q1 : 0 ≤ u.tmod 13 ∧ u.tmod 13 ≤ 12 := ⟨hb_q1.1, by omega⟩
      generalize hq_q1 : u.tmod 13 = q1 at hb_q1 g_0 ⊢
      refine jT_ifT (a := q1) (t := 111) (by rfl) (by rfl) (by rfl) (jw_idd (by omega) (by omega)) (by simp only [jcP] <;> omega) ?_
      refine jT_loc (LN := [(5, (0, y5)), (6, (0, u)), (7, (0, 5)), (4, (4, 23)), (0, (4, 0)), (1, (0, y1)), (2, (0, y2)), (3, (4, 22))]) (by show List.Nodup [5, 6, 7, 4, 0, 1, 2, 3]; decide) (by intro q hq; simp only [List.mem_cons, List.not_mem_nil, or_false] at hq; rcases hq with rfl | rfl | rfl | rfl | rfl | rfl | rfl | rfl <;> rfl) ?_
      rw [jsu_0 (by omega), jsc_0 (by omega), Int.sub_zero] at h
      exact h
    · refine jT_xiload (v := (0, u)) (pcN := 75) jIY_312_73 rfl rfl rfl ?_
      refine jT_adv 1 (pcN := 78) (LN := [(5, (0, y5)), (6, (0, u)), (7, (0, 5)), (4, (4, 23)), (0, (4, 0)), (1, (0, y1)), (2, (0, y2)), (3, (4, 22))]) (stN := [(5, 5), (0, u)]) (hsN := [jzY_19, jgh, jgh, jgh, jgh, jgh, (130, [], [16, 17, 18, 19, 20, 21]), (101, [], [0, 0, 0, 0, 0, 0]), jgh, jgh, jgh, jgh, jgh, jgh, jgh, jgh, (100, [], (jenc (jlg 0))), (100, [], (jenc (jlg 1))), (100, [], (jenc (jlg 2))), (100, [], (jenc (jlg 3))), (100, [], (jenc (jlg 4))), (100, [], (jenc (jlg 5))), (100, [], (jenc w)), (101, [], [e0, e1, e2, e3, e4, e5])]) (c1 := 0) (s1 := 0) (c2 := b1) (s2 := b2) (by exact rfl) ?_ (by omega) (by omega)
      refine jT_xiload (v := (0, 5)) (pcN := 80) jIY_312_78 rfl rfl rfl ?_
      refine jT_adv 1 (pcN := 81) (LN := [(5, (0, y5)), (6, (0, u)), (7, (0, 5)), (4, (4, 23)), (0, (4, 0)), (1, (0, y1)), (2, (0, y2)), (3, (4, 22))]) (stN := [(0, 13), (0, u)]) (hsN := [jzY_19, jgh, jgh, jgh, jgh, jgh, (130, [], [16, 17, 18, 19, 20, 21]), (101, [], [0, 0, 0, 0, 0, 0]), jgh, jgh, jgh, jgh, jgh, jgh, jgh, jgh, (100, [], (jenc (jlg 0))), (100, [], (jenc (jlg 1))), (100, [], (jenc (jlg 2))), (100, [], (jenc (jlg 3))), (100, [], (jenc (jlg 4))), (100, [], (jenc (jlg 5))), (100, [], (jenc w)), (101, [], [e0, e1, e2, e3, e4, e5])]) (c1 := 0) (s1 := 0) (c2 := b1) (s2 := b2) (by exact rfl) ?_ (by omega) (by omega)
      refine jT_irem (a := u) (b := 13) (by rfl) (by rfl) (jw_idd (by omega) (by omega)) (jw_idd (by omega) (by omega)) (by omega) ?_
      have hb_q1 := jtm_b (x := u) (y := 13) (by omega) (by omega)
      have hb_q1 : 0 ≤ u.tmod 13 ∧ u.tmod 13 ≤ 12 := ⟨hb_q1.1, by omega⟩
      generalize hq_q1 : u.tmod 13 = q1 at hb_q1 g_0 ⊢
      refine jT_ifF (a := q1) (t := 111) (by rfl) (by rfl) (by rfl) (jw_idd (by omega) (by omega)) (by simp only [jcP] <;> omega) ?_
      refine jT_xiload (v := (0, u)) (pcN := 87) jIY_312_85 rfl rfl rfl ?_
      refine jT_adv 1 (pcN := 90) (LN := [(5, (0, y5)), (6, (0, u)), (7, (0, 5)), (4, (4, 23)), (0, (4, 0)), (1, (0, y1)), (2, (0, y2)), (3, (4, 22))]) (stN := [(5, 5), (0, u)]) (hsN := [jzY_19, jgh, jgh, jgh, jgh, jgh, (130, [], [16, 17, 18, 19, 20, 21]), (101, [], [0, 0, 0, 0, 0, 0]), jgh, jgh, jgh, jgh, jgh, jgh, jgh, jgh, (100, [], (jenc (jlg 0))), (100, [], (jenc (jlg 1))), (100, [], (jenc (jlg 2))), (100, [], (jenc (jlg 3))), (100, [], (jenc (jlg 4))), (100, [], (jenc (jlg 5))), (100, [], (jenc w)), (101, [], [e0, e1, e2, e3, e4, e5])]) (c1 := 0) (s1 := 0) (c2 := b1) (s2 := b2) (by exact rfl) ?_ (by omega) (by omega)
      refine jT_xiload (v := (0, 5)) (pcN := 92) jIY_312_90 rfl rfl rfl ?_
      refine jT_adv 1 (pcN := 93) (LN := [(5, (0, y5)), (6, (0, u)), (7, (0, 5)), (4, (4, 23)), (0, (4, 0)), (1, (0, y1)), (2, (0, y2)), (3, (4, 22))]) (stN := [(0, 13), (0, u)]) (hsN := [jzY_19, jgh, jgh, jgh, jgh, jgh, (130, [], [16, 17, 18, 19, 20, 21]), (101, [], [0, 0, 0, 0, 0, 0]), jgh, jgh, jgh, jgh, jgh, jgh, jgh, jgh, (100, [], (jenc (jlg 0))), (100, [], (jenc (jlg 1))), (100, [], (jenc (jlg 2))), (100, [], (jenc (jlg 3))), (100, [], (jenc (jlg 4))), (100, [], (jenc (jlg 5))), (100, [], (jenc w)), (101, [], [e0, e1, e2, e3, e4, e5])]) (c1 := 0) (s1 := 0) (c2 := b1) (s2 := b2) (by exact rfl) ?_ (by omega) (by omega)
      refine jT_idiv (a := u) (b := 13) (by rfl) (by rfl) (jw_idd (by omega) (by omega)) (jw_idd (by omega) (by omega)) (by omega) ?_
      have hb_q2 := jtd_b0 (x := u) (y := 13) (by omega) (by omega)
      have hb_q2 : 0 ≤ u.tdiv 13 ∧ u.tdiv 13 ≤ 1000000000 := ⟨hb_q2.1, by omega⟩
      generalize hq_q2 : u.tdiv 13 = q2 at hb_q2 ⊢
      refine jT_xistore (v := (0, q2)) (LN := [(6, (0, q2)), (5, (0, y5)), (7, (0, 5)), (4, (4, 23)), (0, (4, 0)), (1, (0, y1)), (2, (0, y2)), (3, (4, 22))]) (pcN := 96) jIY_312_94 rfl rfl rfl rfl ?_
      refine jT_xaload (v := (4, 23)) (pcN := 98) jIY_312_96 rfl rfl rfl ?_
      refine jT_xiload (v := (0, 5)) (pcN := 100) jIY_312_98 rfl rfl rfl ?_
      refine jT_adv 1 (pcN := 101) (LN := [(6, (0, q2)), (5, (0, y5)), (7, (0, 5)), (4, (4, 23)), (0, (4, 0)), (1, (0, y1)), (2, (0, y2)), (3, (4, 22))]) (stN := [(0, 5), (4, 23), (0, 5), (4, 23)]) (hsN := [jzY_19, jgh, jgh, jgh, jgh, jgh, (130, [], [16, 17, 18, 19, 20, 21]), (101, [], [0, 0, 0, 0, 0, 0]), jgh, jgh, jgh, jgh, jgh, jgh, jgh, jgh, (100, [], (jenc (jlg 0))), (100, [], (jenc (jlg 1))), (100, [], (jenc (jlg 2))), (100, [], (jenc (jlg 3))), (100, [], (jenc (jlg 4))), (100, [], (jenc (jlg 5))), (100, [], (jenc w)), (101, [], [e0, e1, e2, e3, e4, e5])]) (c1 := 0) (s1 := 0) (c2 := b1) (s2 := b2) (by exact rfl) ?_ (by omega) (by omega)
      refine jT_lald (x := e5) (a := 23) (j := 5) (fs := []) (X := [e0, e1, e2, e3, e4, e5]) jIY_312_101 rfl rfl rfl rfl ?_
      refine jT_eq (LN := [(6, (0, q2)), (5, (0, y5)), (7, (0, 5)), (4, (4, 23)), (0, (4, 0)), (1, (0, y1)), (2, (0, y2)), (3, (4, 22))]) (stN := [(1, e5), (0, 5), (4, 23)]) (hsN := [jzY_19, jgh, jgh, jgh, jgh, jgh, (130, [], [16, 17, 18, 19, 20, 21]), (101, [], [0, 0, 0, 0, 0, 0]), jgh, jgh, jgh, jgh, jgh, jgh, jgh, jgh, (100, [], (jenc (jlg 0))), (100, [], (jenc (jlg 1))), (100, [], (jenc (jlg 2))), (100, [], (jenc (jlg 3))), (100, [], (jenc (jlg 4))), (100, [], (jenc (jlg 5))), (100, [], (jenc w)), (101, [], [e0, e1, e2, e3, e4, e5])]) rfl rfl rfl ?_
      refine jT_xaload_n (v := (4, 0)) (pcN := 103) jIY_312_102 rfl rfl rfl ?_
      refine jT_xgetf (a := 0) (t := 1) (ci := 14) (fi := 10) (c := jzY_19) (v := (1, 1)) (pcN := 106) jIY_312_103 rfl rfl rfl rfl rfl rfl rfl ?_
      refine jT_xlsub (x := e5) (y := 1) (z := e5 - 1) (pcN := 107) jIY_312_106 rfl (rfl) rfl ?_
      refine jT_adv 1 (pcN := 108) (LN := [(6, (0, q2)), (5, (0, y5)), (7, (0, 5)), (4, (4, 23)), (0, (4, 0)), (1, (0, y1)), (2, (0, y2)), (3, (4, 22))]) (stN := []) (hsN := [jzY_19, jgh, jgh, jgh, jgh, jgh, (130, [], [16, 17, 18, 19, 20, 21]), (101, [], [0, 0, 0, 0, 0, 0]), jgh, jgh, jgh, jgh, jgh, jgh, jgh, jgh, (100, [], (jenc (jlg 0))), (100, [], (jenc (jlg 1))), (100, [], (jenc (jlg 2))), (100, [], (jenc (jlg 3))), (100, [], (jenc (jlg 4))), (100, [], (jenc (jlg 5))), (100, [], (jenc w)), (101, [], [e0, e1, e2, e3, e4, e5 - 1])]) (c1 := 0) (s1 := 0) (c2 := b1) (s2 := b2) (by exact rfl) ?_ (by omega) (by omega)
      refine jT_xgoto (pcN := 73) jIY_312_108 rfl ?_
      refine jT_loc (LN := [(5, (0, y5)), (6, (0, q2)), (7, (0, 5)), (4, (4, 23)), (0, (4, 0)), (1, (0, y1)), (2, (0, y2)), (3, (4, 22))]) (by show List.Nodup [5, 6, 7, 4, 0, 1, 2, 3]; decide) (by intro q hq; simp only [List.mem_cons, List.not_mem_nil, or_false] at hq; rcases hq with rfl | rfl | rfl | rfl | rfl | rfl | rfl | rfl <;> rfl) ?_
      have hs := jst_s (P := 13) (u := u) (n := n) (by decide) h1 hu (by omega)
      rw [hq_q2] at hs
      rw [jsu_1 (by omega), jsc_1 (by omega), hq_q2, show e5 - (jsc 13 n q2 + 1) = e5 - 1 - jsc 13 n q2 by omega] at h
      exact ih q2 (e5 - 1) (by omega) (by omega) hs.2.1 h
set_option maxHeartbeats 20000000 in
theorem jYl_sh_66_S {xs : List Int} {d b1 b2 : Nat} {Q : Nat → JV → List JC → Prop} {p1 p2 w : Int} (h_p1 : 1 ≤ p1 ∧ p1 ≤ 1000000000) (h_p2 : 1 ≤ p2 ∧ p2 ≤ 1000000000) (h : jT xs d 312 23 117 [(5, (0, jyu5 p1)), (6, (0, jyu5 p2)), (4, (4, 23)), (0, (4, 0)), (1, (0, p1)), (3, (4, 22))] [] [jzY_19, jgh, jgh, jgh, jgh, jgh, (130, [], [16, 17, 18, 19, 20, 21]), (101, [], [0, 0, 0, 0, 0, 0]), jgh, jgh, jgh, jgh, jgh, jgh, jgh, jgh, (100, [], (jenc (jlg 0))), (100, [], (jenc (jlg 1))), (100, [], (jenc (jlg 2))), (100, [], (jenc (jlg 3))), (100, [], (jenc (jlg 4))), (100, [], (jenc (jlg 5))), (100, [], (jenc w)), (101, [], [jyc0 p1 - jyc0 p2, jyc1 p1 - jyc1 p2, jyc2 p1 - jyc2 p2, jyc3 p1 - jyc3 p2, jyc4 p1 - jyc4 p2, jyc5 p1 - jyc5 p2])] b1 b2 Q) : jT xs d 312 23 0 [(0, (4, 0)), (1, (0, p1)), (2, (0, p2)), (3, (4, 22))] [] [jzY_19, jgh, jgh, jgh, jgh, jgh, (130, [], [16, 17, 18, 19, 20, 21]), (101, [], [0, 0, 0, 0, 0, 0]), jgh, jgh, jgh, jgh, jgh, jgh, jgh, jgh, (100, [], (jenc (jlg 0))), (100, [], (jenc (jlg 1))), (100, [], (jenc (jlg 2))), (100, [], (jenc (jlg 3))), (100, [], (jenc (jlg 4))), (100, [], (jenc (jlg 5))), (100, [], (jenc w))] (b1 + 1) (b2 + 6) Q := by
  refine jT_xbipush (k := 6) (pcN := 2) jIY_312_0 (by decide) rfl ?_
  refine jT_adv 1 (pcN := 4) (LN := [(0, (4, 0)), (1, (0, p1)), (2, (0, p2)), (3, (4, 22))]) (stN := [(4, 23)]) (hsN := [jzY_19, jgh, jgh, jgh, jgh, jgh, (130, [], [16, 17, 18, 19, 20, 21]), (101, [], [0, 0, 0, 0, 0, 0]), jgh, jgh, jgh, jgh, jgh, jgh, jgh, jgh, (100, [], (jenc (jlg 0))), (100, [], (jenc (jlg 1))), (100, [], (jenc (jlg 2))), (100, [], (jenc (jlg 3))), (100, [], (jenc (jlg 4))), (100, [], (jenc (jlg 5))), (100, [], (jenc w)), (101, [], [0, 0, 0, 0, 0, 0])]) (c1 := 1) (s1 := 6) (c2 := (b1 + 0)) (s2 := (b2 + 0)) (by exact rfl) ?_ (by omega) (by omega)
  refine jT_xastore (v := (4, 23)) (LN := [(4, (4, 23)), (0, (4, 0)), (1, (0, p1)), (2, (0, p2)), (3, (4, 22))]) (pcN := 6) jIY_312_4 rfl rfl rfl rfl ?_
  refine jT_xaload_n (v := (4, 0)) (pcN := 7) jIY_312_6 rfl rfl rfl ?_
  refine jT_xgetf (a := 0) (t := 1) (ci := 14) (fi := 9) (c := jzY_19) (v := (4, 7)) (pcN := 10) jIY_312_7 rfl rfl rfl rfl rfl rfl rfl ?_
  refine jT_xiconst (k := 0) (pcN := 11) jIY_312_10 rfl ?_
  refine jT_xaload (v := (4, 23)) (pcN := 13) jIY_312_11 rfl rfl rfl ?_
  refine jT_xiconst (k := 0) (pcN := 14) jIY_312_13 rfl ?_
  refine jT_xbipush (k := 6) (pcN := 16) jIY_312_14 (by decide) rfl ?_
  refine jT_adv 1 (pcN := 19) (LN := [(4, (4, 23)), (0, (4, 0)), (1, (0, p1)), (2, (0, p2)), (3, (4, 22))]) (stN := []) (hsN := [jzY_19, jgh, jgh, jgh, jgh, jgh, (130, [], [16, 17, 18, 19, 20, 21]), (101, [], [0, 0, 0, 0, 0, 0]), jgh, jgh, jgh, jgh, jgh, jgh, jgh, jgh, (100, [], (jenc (jlg 0))), (100, [], (jenc (jlg 1))), (100, [], (jenc (jlg 2))), (100, [], (jenc (jlg 3))), (100, [], (jenc (jlg 4))), (100, [], (jenc (jlg 5))), (100, [], (jenc w)), (101, [], [0, 0, 0, 0, 0, 0])]) (c1 := 0) (s1 := 0) (c2 := (b1 + 0)) (s2 := (b2 + 0)) (by exact rfl) ?_ (by omega) (by omega)
  refine jT_xiload_n (v := (0, p1)) (pcN := 20) jIY_312_19 rfl rfl rfl ?_
  refine jT_xistore (v := (0, p1)) (LN := [(5, (0, p1)), (4, (4, 23)), (0, (4, 0)), (1, (0, p1)), (2, (0, p2)), (3, (4, 22))]) (pcN := 22) jIY_312_20 rfl rfl rfl rfl ?_
  refine jT_xiload_n (v := (0, p2)) (pcN := 23) jIY_312_22 rfl rfl rfl ?_
  refine jT_xistore (v := (0, p2)) (LN := [(6, (0, p2)), (5, (0, p1)), (4, (4, 23)), (0, (4, 0)), (1, (0, p1)), (2, (0, p2)), (3, (4, 22))]) (pcN := 25) jIY_312_23 rfl rfl rfl rfl ?_
  refine jT_xiconst (k := 0) (pcN := 26) jIY_312_25 rfl ?_
  refine jT_xistore (v := (0, 0)) (LN := [(7, (0, 0)), (6, (0, p2)), (5, (0, p1)), (4, (4, 23)), (0, (4, 0)), (1, (0, p1)), (2, (0, p2)), (3, (4, 22))]) (pcN := 28) jIY_312_26 rfl rfl rfl rfl ?_
  refine jT_xiload (v := (0, 0)) (pcN := 30) jIY_312_28 rfl rfl rfl ?_
  refine jT_xbipush (k := 6) (pcN := 32) jIY_312_30 (by decide) rfl ?_
  refine jT_xicF (t := 117) (pcN := 35) jIY_312_32 rfl (by decide +kernel) rfl rfl ?_
  refine jT_loc (LN := [(5, (0, p1)), (6, (0, p2)), (7, (0, 0)), (4, (4, 23)), (0, (4, 0)), (1, (0, p1)), (2, (0, p2)), (3, (4, 22))]) (by show List.Nodup [5, 6, 7, 4, 0, 1, 2, 3]; decide) (by intro q hq; simp only [List.mem_cons, List.not_mem_nil, or_false] at hq; rcases hq with rfl | rfl | rfl | rfl | rfl | rfl | rfl | rfl <;> rfl) ?_
  refine jYl_sr_67 (y6 := p2) (y1 := p1) (y2 := p2) (e1 := 0) (e2 := 0) (e3 := 0) (e4 := 0) (e5 := 0) 30 p1 0 (by omega) (by omega) (Int.lt_of_le_of_lt (show p1 ≤ (1000000000 : Int) by omega) (by decide)) ?_
  have hb_q1 := jysu_b (P := 2) (by decide) (n := 30) (m := 1000000000) (u := p1) (by omega) (by omega)
  generalize hq_q1 : jsu 2 30 p1 = q1 at hb_q1 ⊢
  have hb_q2 := jsc_b (P := 2) (n := 30) (u := p1)
  have hb_q2 : 0 ≤ jsc 2 30 p1 ∧ jsc 2 30 p1 ≤ 30 := ⟨hb_q2.1, by omega⟩
  generalize hq_q2 : jsc 2 30 p1 = q2 at hb_q2 ⊢
  refine jT_eq (LN := [(5, (0, q1)), (6, (0, p2)), (7, (0, 0)), (4, (4, 23)), (0, (4, 0)), (1, (0, p1)), (2, (0, p2)), (3, (4, 22))]) (stN := []) (hsN := [jzY_19, jgh, jgh, jgh, jgh, jgh, (130, [], [16, 17, 18, 19, 20, 21]), (101, [], [0, 0, 0, 0, 0, 0]), jgh, jgh, jgh, jgh, jgh, jgh, jgh, jgh, (100, [], (jenc (jlg 0))), (100, [], (jenc (jlg 1))), (100, [], (jenc (jlg 2))), (100, [], (jenc (jlg 3))), (100, [], (jenc (jlg 4))), (100, [], (jenc (jlg 5))), (100, [], (jenc w)), (101, [], [q2, 0, 0, 0, 0, 0])]) (rfl) (rfl) (by simp only [List.cons.injEq, Prod.mk.injEq, and_true, true_and] <;> ((try unfold jw); (try unfold jwl); omega)) ?_
  refine jT_loc (LN := [(5, (0, q1)), (6, (0, p2)), (7, (0, 0)), (4, (4, 23)), (0, (4, 0)), (1, (0, p1)), (2, (0, p2)), (3, (4, 22))]) (by show List.Nodup [5, 6, 7, 4, 0, 1, 2, 3]; decide) (by intro q hq; simp only [List.mem_cons, List.not_mem_nil, or_false] at hq; rcases hq with rfl | rfl | rfl | rfl | rfl | rfl | rfl | rfl <;> rfl) ?_
  refine jYl_sr_68 (y5 := q1) (y1 := p1) (y2 := p2) (e1 := 0) (e2 := 0) (e3 := 0) (e4 := 0) (e5 := 0) 30 p2 q2 (by omega) (by omega) (Int.lt_of_le_of_lt (show p2 ≤ (1000000000 : Int) by omega) (by decide)) ?_
  have hb_q3 := jysu_b (P := 2) (by decide) (n := 30) (m := 1000000000) (u := p2) (by omega) (by omega)
  generalize hq_q3 : jsu 2 30 p2 = q3 at hb_q3 ⊢
  have hb_q4 := jsc_b (P := 2) (n := 30) (u := p2)
  have hb_q4 : 0 ≤ jsc 2 30 p2 ∧ jsc 2 30 p2 ≤ 30 := ⟨hb_q4.1, by omega⟩
  generalize hq_q4 : jsc 2 30 p2 = q4 at hb_q4 ⊢
  refine jT_xiinc (x := 0) (z := 1) (LN := [(7, (0, 1)), (5, (0, q1)), (6, (0, q3)), (4, (4, 23)), (0, (4, 0)), (1, (0, p1)), (2, (0, p2)), (3, (4, 22))]) (pcN := 114) jIY_312_111 rfl rfl (by decide) rfl rfl ?_
  refine jT_xgoto (pcN := 28) jIY_312_114 rfl ?_
  refine jT_xiload (v := (0, 1)) (pcN := 30) jIY_312_28 rfl rfl rfl ?_
  refine jT_xbipush (k := 6) (pcN := 32) jIY_312_30 (by decide) rfl ?_
  refine jT_xicF (t := 117) (pcN := 35) jIY_312_32 rfl (by decide +kernel) rfl rfl ?_
  refine jT_loc (LN := [(5, (0, q1)), (6, (0, q3)), (7, (0, 1)), (4, (4, 23)), (0, (4, 0)), (1, (0, p1)), (2, (0, p2)), (3, (4, 22))]) (by show List.Nodup [5, 6, 7, 4, 0, 1, 2, 3]; decide) (by intro q hq; simp only [List.mem_cons, List.not_mem_nil, or_false] at hq; rcases hq with rfl | rfl | rfl | rfl | rfl | rfl | rfl | rfl <;> rfl) ?_
  refine jYl_sr_69 (y6 := q3) (y1 := p1) (y2 := p2) (e0 := q2 - q4) (e2 := 0) (e3 := 0) (e4 := 0) (e5 := 0) 30 q1 0 (by omega) (by omega) (Int.lt_of_le_of_lt (show q1 ≤ (1000000000 : Int) by omega) (by decide)) ?_
  have hb_q5 := jysu_b (P := 3) (by decide) (n := 30) (m := 1000000000) (u := q1) (by omega) (by omega)
  generalize hq_q5 : jsu 3 30 q1 = q5 at hb_q5 ⊢
  have hb_q6 := jsc_b (P := 3) (n := 30) (u := q1)
  have hb_q6 : 0 ≤ jsc 3 30 q1 ∧ jsc 3 30 q1 ≤ 30 := ⟨hb_q6.1, by omega⟩
  generalize hq_q6 : jsc 3 30 q1 = q6 at hb_q6 ⊢
  refine jT_eq (LN := [(5, (0, q5)), (6, (0, q3)), (7, (0, 1)), (4, (4, 23)), (0, (4, 0)), (1, (0, p1)), (2, (0, p2)), (3, (4, 22))]) (stN := []) (hsN := [jzY_19, jgh, jgh, jgh, jgh, jgh, (130, [], [16, 17, 18, 19, 20, 21]), (101, [], [0, 0, 0, 0, 0, 0]), jgh, jgh, jgh, jgh, jgh, jgh, jgh, jgh, (100, [], (jenc (jlg 0))), (100, [], (jenc (jlg 1))), (100, [], (jenc (jlg 2))), (100, [], (jenc (jlg 3))), (100, [], (jenc (jlg 4))), (100, [], (jenc (jlg 5))), (100, [], (jenc w)), (101, [], [q2 - q4, q6, 0, 0, 0, 0])]) (rfl) (rfl) (by simp only [List.cons.injEq, Prod.mk.injEq, and_true, true_and] <;> ((try unfold jw); (try unfold jwl); omega)) ?_
  refine jT_loc (LN := [(5, (0, q5)), (6, (0, q3)), (7, (0, 1)), (4, (4, 23)), (0, (4, 0)), (1, (0, p1)), (2, (0, p2)), (3, (4, 22))]) (by show List.Nodup [5, 6, 7, 4, 0, 1, 2, 3]; decide) (by intro q hq; simp only [List.mem_cons, List.not_mem_nil, or_false] at hq; rcases hq with rfl | rfl | rfl | rfl | rfl | rfl | rfl | rfl <;> rfl) ?_
  refine jYl_sr_70 (y5 := q5) (y1 := p1) (y2 := p2) (e0 := q2 - q4) (e2 := 0) (e3 := 0) (e4 := 0) (e5 := 0) 30 q3 q6 (by omega) (by omega) (Int.lt_of_le_of_lt (show q3 ≤ (1000000000 : Int) by omega) (by decide)) ?_
  have hb_q7 := jysu_b (P := 3) (by decide) (n := 30) (m := 1000000000) (u := q3) (by omega) (by omega)
  generalize hq_q7 : jsu 3 30 q3 = q7 at hb_q7 ⊢
  have hb_q8 := jsc_b (P := 3) (n := 30) (u := q3)
  have hb_q8 : 0 ≤ jsc 3 30 q3 ∧ jsc 3 30 q3 ≤ 30 := ⟨hb_q8.1, by omega⟩
  generalize hq_q8 : jsc 3 30 q3 = q8 at hb_q8 ⊢
  refine jT_xiinc (x := 1) (z := 2) (LN := [(7, (0, 2)), (5, (0, q5)), (6, (0, q7)), (4, (4, 23)), (0, (4, 0)), (1, (0, p1)), (2, (0, p2)), (3, (4, 22))]) (pcN := 114) jIY_312_111 rfl rfl (by decide) rfl rfl ?_
  refine jT_xgoto (pcN := 28) jIY_312_114 rfl ?_
  refine jT_xiload (v := (0, 2)) (pcN := 30) jIY_312_28 rfl rfl rfl ?_
  refine jT_xbipush (k := 6) (pcN := 32) jIY_312_30 (by decide) rfl ?_
  refine jT_xicF (t := 117) (pcN := 35) jIY_312_32 rfl (by decide +kernel) rfl rfl ?_
  refine jT_loc (LN := [(5, (0, q5)), (6, (0, q7)), (7, (0, 2)), (4, (4, 23)), (0, (4, 0)), (1, (0, p1)), (2, (0, p2)), (3, (4, 22))]) (by show List.Nodup [5, 6, 7, 4, 0, 1, 2, 3]; decide) (by intro q hq; simp only [List.mem_cons, List.not_mem_nil, or_false] at hq; rcases hq with rfl | rfl | rfl | rfl | rfl | rfl | rfl | rfl <;> rfl) ?_
  refine jYl_sr_71 (y6 := q7) (y1 := p1) (y2 := p2) (e0 := q2 - q4) (e1 := q6 - q8) (e3 := 0) (e4 := 0) (e5 := 0) 30 q5 0 (by omega) (by omega) (Int.lt_of_le_of_lt (show q5 ≤ (1000000000 : Int) by omega) (by decide)) ?_
  have hb_q9 := jysu_b (P := 5) (by decide) (n := 30) (m := 1000000000) (u := q5) (by omega) (by omega)
  generalize hq_q9 : jsu 5 30 q5 = q9 at hb_q9 ⊢
  have hb_q10 := jsc_b (P := 5) (n := 30) (u := q5)
  have hb_q10 : 0 ≤ jsc 5 30 q5 ∧ jsc 5 30 q5 ≤ 30 := ⟨hb_q10.1, by omega⟩
  generalize hq_q10 : jsc 5 30 q5 = q10 at hb_q10 ⊢
  refine jT_eq (LN := [(5, (0, q9)), (6, (0, q7)), (7, (0, 2)), (4, (4, 23)), (0, (4, 0)), (1, (0, p1)), (2, (0, p2)), (3, (4, 22))]) (stN := []) (hsN := [jzY_19, jgh, jgh, jgh, jgh, jgh, (130, [], [16, 17, 18, 19, 20, 21]), (101, [], [0, 0, 0, 0, 0, 0]), jgh, jgh, jgh, jgh, jgh, jgh, jgh, jgh, (100, [], (jenc (jlg 0))), (100, [], (jenc (jlg 1))), (100, [], (jenc (jlg 2))), (100, [], (jenc (jlg 3))), (100, [], (jenc (jlg 4))), (100, [], (jenc (jlg 5))), (100, [], (jenc w)), (101, [], [q2 - q4, q6 - q8, q10, 0, 0, 0])]) (rfl) (rfl) (by simp only [List.cons.injEq, Prod.mk.injEq, and_true, true_and] <;> ((try unfold jw); (try unfold jwl); omega)) ?_
  refine jT_loc (LN := [(5, (0, q9)), (6, (0, q7)), (7, (0, 2)), (4, (4, 23)), (0, (4, 0)), (1, (0, p1)), (2, (0, p2)), (3, (4, 22))]) (by show List.Nodup [5, 6, 7, 4, 0, 1, 2, 3]; decide) (by intro q hq; simp only [List.mem_cons, List.not_mem_nil, or_false] at hq; rcases hq with rfl | rfl | rfl | rfl | rfl | rfl | rfl | rfl <;> rfl) ?_
  refine jYl_sr_72 (y5 := q9) (y1 := p1) (y2 := p2) (e0 := q2 - q4) (e1 := q6 - q8) (e3 := 0) (e4 := 0) (e5 := 0) 30 q7 q10 (by omega) (by omega) (Int.lt_of_le_of_lt (show q7 ≤ (1000000000 : Int) by omega) (by decide)) ?_
  have hb_q11 := jysu_b (P := 5) (by decide) (n := 30) (m := 1000000000) (u := q7) (by omega) (by omega)
  generalize hq_q11 : jsu 5 30 q7 = q11 at hb_q11 ⊢
  have hb_q12 := jsc_b (P := 5) (n := 30) (u := q7)
  have hb_q12 : 0 ≤ jsc 5 30 q7 ∧ jsc 5 30 q7 ≤ 30 := ⟨hb_q12.1, by omega⟩
  generalize hq_q12 : jsc 5 30 q7 = q12 at hb_q12 ⊢
  refine jT_xiinc (x := 2) (z := 3) (LN := [(7, (0, 3)), (5, (0, q9)), (6, (0, q11)), (4, (4, 23)), (0, (4, 0)), (1, (0, p1)), (2, (0, p2)), (3, (4, 22))]) (pcN := 114) jIY_312_111 rfl rfl (by decide) rfl rfl ?_
  refine jT_xgoto (pcN := 28) jIY_312_114 rfl ?_
  refine jT_xiload (v := (0, 3)) (pcN := 30) jIY_312_28 rfl rfl rfl ?_
  refine jT_xbipush (k := 6) (pcN := 32) jIY_312_30 (by decide) rfl ?_
  refine jT_xicF (t := 117) (pcN := 35) jIY_312_32 rfl (by decide +kernel) rfl rfl ?_
  refine jT_loc (LN := [(5, (0, q9)), (6, (0, q11)), (7, (0, 3)), (4, (4, 23)), (0, (4, 0)), (1, (0, p1)), (2, (0, p2)), (3, (4, 22))]) (by show List.Nodup [5, 6, 7, 4, 0, 1, 2, 3]; decide) (by intro q hq; simp only [List.mem_cons, List.not_mem_nil, or_false] at hq; rcases hq with rfl | rfl | rfl | rfl | rfl | rfl | rfl | rfl <;> rfl) ?_
  refine jYl_sr_73 (y6 := q11) (y1 := p1) (y2 := p2) (e0 := q2 - q4) (e1 := q6 - q8) (e2 := q10 - q12) (e4 := 0) (e5 := 0) 30 q9 0 (by omega) (by omega) (Int.lt_of_le_of_lt (show q9 ≤ (1000000000 : Int) by omega) (by decide)) ?_
  have hb_q13 := jysu_b (P := 7) (by decide) (n := 30) (m := 1000000000) (u := q9) (by omega) (by omega)
  generalize hq_q13 : jsu 7 30 q9 = q13 at hb_q13 ⊢
  have hb_q14 := jsc_b (P := 7) (n := 30) (u := q9)
  have hb_q14 : 0 ≤ jsc 7 30 q9 ∧ jsc 7 30 q9 ≤ 30 := ⟨hb_q14.1, by omega⟩
  generalize hq_q14 : jsc 7 30 q9 = q14 at hb_q14 ⊢
  refine jT_eq (LN := [(5, (0, q13)), (6, (0, q11)), (7, (0, 3)), (4, (4, 23)), (0, (4, 0)), (1, (0, p1)), (2, (0, p2)), (3, (4, 22))]) (stN := []) (hsN := [jzY_19, jgh, jgh, jgh, jgh, jgh, (130, [], [16, 17, 18, 19, 20, 21]), (101, [], [0, 0, 0, 0, 0, 0]), jgh, jgh, jgh, jgh, jgh, jgh, jgh, jgh, (100, [], (jenc (jlg 0))), (100, [], (jenc (jlg 1))), (100, [], (jenc (jlg 2))), (100, [], (jenc (jlg 3))), (100, [], (jenc (jlg 4))), (100, [], (jenc (jlg 5))), (100, [], (jenc w)), (101, [], [q2 - q4, q6 - q8, q10 - q12, q14, 0, 0])]) (rfl) (rfl) (by simp only [List.cons.injEq, Prod.mk.injEq, and_true, true_and] <;> ((try unfold jw); (try unfold jwl); omega)) ?_
  refine jT_loc (LN := [(5, (0, q13)), (6, (0, q11)), (7, (0, 3)), (4, (4, 23)), (0, (4, 0)), (1, (0, p1)), (2, (0, p2)), (3, (4, 22))]) (by show List.Nodup [5, 6, 7, 4, 0, 1, 2, 3]; decide) (by intro q hq; simp only [List.mem_cons, List.not_mem_nil, or_false] at hq; rcases hq with rfl | rfl | rfl | rfl | rfl | rfl | rfl | rfl <;> rfl) ?_
  refine jYl_sr_74 (y5 := q13) (y1 := p1) (y2 := p2) (e0 := q2 - q4) (e1 := q6 - q8) (e2 := q10 - q12) (e4 := 0) (e5 := 0) 30 q11 q14 (by omega) (by omega) (Int.lt_of_le_of_lt (show q11 ≤ (1000000000 : Int) by omega) (by decide)) ?_
  have hb_q15 := jysu_b (P := 7) (by decide) (n := 30) (m := 1000000000) (u := q11) (by omega) (by omega)
  generalize hq_q15 : jsu 7 30 q11 = q15 at hb_q15 ⊢
  have hb_q16 := jsc_b (P := 7) (n := 30) (u := q11)
  have hb_q16 : 0 ≤ jsc 7 30 q11 ∧ jsc 7 30 q11 ≤ 30 := ⟨hb_q16.1, by omega⟩
  generalize hq_q16 : jsc 7 30 q11 = q16 at hb_q16 ⊢
  refine jT_xiinc (x := 3) (z := 4) (LN := [(7, (0, 4)), (5, (0, q13)), (6, (0, q15)), (4, (4, 23)), (0, (4, 0)), (1, (0, p1)), (2, (0, p2)), (3, (4, 22))]) (pcN := 114) jIY_312_111 rfl rfl (by decide) rfl rfl ?_
  refine jT_xgoto (pcN := 28) jIY_312_114 rfl ?_
  refine jT_xiload (v := (0, 4)) (pcN := 30) jIY_312_28 rfl rfl rfl ?_
  refine jT_xbipush (k := 6) (pcN := 32) jIY_312_30 (by decide) rfl ?_
  refine jT_xicF (t := 117) (pcN := 35) jIY_312_32 rfl (by decide +kernel) rfl rfl ?_
  refine jT_loc (LN := [(5, (0, q13)), (6, (0, q15)), (7, (0, 4)), (4, (4, 23)), (0, (4, 0)), (1, (0, p1)), (2, (0, p2)), (3, (4, 22))]) (by show List.Nodup [5, 6, 7, 4, 0, 1, 2, 3]; decide) (by intro q hq; simp only [List.mem_cons, List.not_mem_nil, or_false] at hq; rcases hq with rfl | rfl | rfl | rfl | rfl | rfl | rfl | rfl <;> rfl) ?_
  refine jYl_sr_75 (y6 := q15) (y1 := p1) (y2 := p2) (e0 := q2 - q4) (e1 := q6 - q8) (e2 := q10 - q12) (e3 := q14 - q16) (e5 := 0) 30 q13 0 (by omega) (by omega) (Int.lt_of_le_of_lt (show q13 ≤ (1000000000 : Int) by omega) (by decide)) ?_
  have hb_q17 := jysu_b (P := 11) (by decide) (n := 30) (m := 1000000000) (u := q13) (by omega) (by omega)
  generalize hq_q17 : jsu 11 30 q13 = q17 at hb_q17 ⊢
  have hb_q18 := jsc_b (P := 11) (n := 30) (u := q13)
  have hb_q18 : 0 ≤ jsc 11 30 q13 ∧ jsc 11 30 q13 ≤ 30 := ⟨hb_q18.1, by omega⟩
  generalize hq_q18 : jsc 11 30 q13 = q18 at hb_q18 ⊢
  refine jT_eq (LN := [(5, (0, q17)), (6, (0, q15)), (7, (0, 4)), (4, (4, 23)), (0, (4, 0)), (1, (0, p1)), (2, (0, p2)), (3, (4, 22))]) (stN := []) (hsN := [jzY_19, jgh, jgh, jgh, jgh, jgh, (130, [], [16, 17, 18, 19, 20, 21]), (101, [], [0, 0, 0, 0, 0, 0]), jgh, jgh, jgh, jgh, jgh, jgh, jgh, jgh, (100, [], (jenc (jlg 0))), (100, [], (jenc (jlg 1))), (100, [], (jenc (jlg 2))), (100, [], (jenc (jlg 3))), (100, [], (jenc (jlg 4))), (100, [], (jenc (jlg 5))), (100, [], (jenc w)), (101, [], [q2 - q4, q6 - q8, q10 - q12, q14 - q16, q18, 0])]) (rfl) (rfl) (by simp only [List.cons.injEq, Prod.mk.injEq, and_true, true_and] <;> ((try unfold jw); (try unfold jwl); omega)) ?_
  refine jT_loc (LN := [(5, (0, q17)), (6, (0, q15)), (7, (0, 4)), (4, (4, 23)), (0, (4, 0)), (1, (0, p1)), (2, (0, p2)), (3, (4, 22))]) (by show List.Nodup [5, 6, 7, 4, 0, 1, 2, 3]; decide) (by intro q hq; simp only [List.mem_cons, List.not_mem_nil, or_false] at hq; rcases hq with rfl | rfl | rfl | rfl | rfl | rfl | rfl | rfl <;> rfl) ?_
  refine jYl_sr_76 (y5 := q17) (y1 := p1) (y2 := p2) (e0 := q2 - q4) (e1 := q6 - q8) (e2 := q10 - q12) (e3 := q14 - q16) (e5 := 0) 30 q15 q18 (by omega) (by omega) (Int.lt_of_le_of_lt (show q15 ≤ (1000000000 : Int) by omega) (by decide)) ?_
  have hb_q19 := jysu_b (P := 11) (by decide) (n := 30) (m := 1000000000) (u := q15) (by omega) (by omega)
  generalize hq_q19 : jsu 11 30 q15 = q19 at hb_q19 ⊢
  have hb_q20 := jsc_b (P := 11) (n := 30) (u := q15)
  have hb_q20 : 0 ≤ jsc 11 30 q15 ∧ jsc 11 30 q15 ≤ 30 := ⟨hb_q20.1, by omega⟩
  generalize hq_q20 : jsc 11 30 q15 = q20 at hb_q20 ⊢
  refine jT_xiinc (x := 4) (z := 5) (LN := [(7, (0, 5)), (5, (0, q17)), (6, (0, q19)), (4, (4, 23)), (0, (4, 0)), (1, (0, p1)), (2, (0, p2)), (3, (4, 22))]) (pcN := 114) jIY_312_111 rfl rfl (by decide) rfl rfl ?_
  refine jT_xgoto (pcN := 28) jIY_312_114 rfl ?_
  refine jT_xiload (v := (0, 5)) (pcN := 30) jIY_312_28 rfl rfl rfl ?_
  refine jT_xbipush (k := 6) (pcN := 32) jIY_312_30 (by decide) rfl ?_
  refine jT_xicF (t := 117) (pcN := 35) jIY_312_32 rfl (by decide +kernel) rfl rfl ?_
  refine jT_loc (LN := [(5, (0, q17)), (6, (0, q19)), (7, (0, 5)), (4, (4, 23)), (0, (4, 0)), (1, (0, p1)), (2, (0, p2)), (3, (4, 22))]) (by show List.Nodup [5, 6, 7, 4, 0, 1, 2, 3]; decide) (by intro q hq; simp only [List.mem_cons, List.not_mem_nil, or_false] at hq; rcases hq with rfl | rfl | rfl | rfl | rfl | rfl | rfl | rfl <;> rfl) ?_
  refine jYl_sr_77 (y6 := q19) (y1 := p1) (y2 := p2) (e0 := q2 - q4) (e1 := q6 - q8) (e2 := q10 - q12) (e3 := q14 - q16) (e4 := q18 - q20) 30 q17 0 (by omega) (by omega) (Int.lt_of_le_of_lt (show q17 ≤ (1000000000 : Int) by omega) (by decide)) ?_
  have hb_q21 := jysu_b (P := 13) (by decide) (n := 30) (m := 1000000000) (u := q17) (by omega) (by omega)
  generalize hq_q21 : jsu 13 30 q17 = q21 at hb_q21 ⊢
  have hb_q22 := jsc_b (P := 13) (n := 30) (u := q17)
  have hb_q22 : 0 ≤ jsc 13 30 q17 ∧ jsc 13 30 q17 ≤ 30 := ⟨hb_q22.1, by omega⟩
  generalize hq_q22 : jsc 13 30 q17 = q22 at hb_q22 ⊢
  refine jT_eq (LN := [(5, (0, q21)), (6, (0, q19)), (7, (0, 5)), (4, (4, 23)), (0, (4, 0)), (1, (0, p1)), (2, (0, p2)), (3, (4, 22))]) (stN := []) (hsN := [jzY_19, jgh, jgh, jgh, jgh, jgh, (130, [], [16, 17, 18, 19, 20, 21]), (101, [], [0, 0, 0, 0, 0, 0]), jgh, jgh, jgh, jgh, jgh, jgh, jgh, jgh, (100, [], (jenc (jlg 0))), (100, [], (jenc (jlg 1))), (100, [], (jenc (jlg 2))), (100, [], (jenc (jlg 3))), (100, [], (jenc (jlg 4))), (100, [], (jenc (jlg 5))), (100, [], (jenc w)), (101, [], [q2 - q4, q6 - q8, q10 - q12, q14 - q16, q18 - q20, q22])]) (rfl) (rfl) (by simp only [List.cons.injEq, Prod.mk.injEq, and_true, true_and] <;> ((try unfold jw); (try unfold jwl); omega)) ?_
  refine jT_loc (LN := [(5, (0, q21)), (6, (0, q19)), (7, (0, 5)), (4, (4, 23)), (0, (4, 0)), (1, (0, p1)), (2, (0, p2)), (3, (4, 22))]) (by show List.Nodup [5, 6, 7, 4, 0, 1, 2, 3]; decide) (by intro q hq; simp only [List.mem_cons, List.not_mem_nil, or_false] at hq; rcases hq with rfl | rfl | rfl | rfl | rfl | rfl | rfl | rfl <;> rfl) ?_
  refine jYl_sr_78 (y5 := q21) (y1 := p1) (y2 := p2) (e0 := q2 - q4) (e1 := q6 - q8) (e2 := q10 - q12) (e3 := q14 - q16) (e4 := q18 - q20) 30 q19 q22 (by omega) (by omega) (Int.lt_of_le_of_lt (show q19 ≤ (1000000000 : Int) by omega) (by decide)) ?_
  have hb_q23 := jysu_b (P := 13) (by decide) (n := 30) (m := 1000000000) (u := q19) (by omega) (by omega)
  generalize hq_q23 : jsu 13 30 q19 = q23 at hb_q23 ⊢
  have hb_q24 := jsc_b (P := 13) (n := 30) (u := q19)
  have hb_q24 : 0 ≤ jsc 13 30 q19 ∧ jsc 13 30 q19 ≤ 30 := ⟨hb_q24.1, by omega⟩
  generalize hq_q24 : jsc 13 30 q19 = q24 at hb_q24 ⊢
  refine jT_xiinc (x := 5) (z := 6) (LN := [(7, (0, 6)), (5, (0, q21)), (6, (0, q23)), (4, (4, 23)), (0, (4, 0)), (1, (0, p1)), (2, (0, p2)), (3, (4, 22))]) (pcN := 114) jIY_312_111 rfl rfl (by decide) rfl rfl ?_
  refine jT_xgoto (pcN := 28) jIY_312_114 rfl ?_
  refine jT_xiload (v := (0, 6)) (pcN := 30) jIY_312_28 rfl rfl rfl ?_
  refine jT_xbipush (k := 6) (pcN := 32) jIY_312_30 (by decide) rfl ?_
  refine jT_xicT (pcN := 117) jIY_312_32 rfl (by decide +kernel) rfl ?_
  refine jT_loc (LN := [(5, (0, q21)), (6, (0, q23)), (4, (4, 23)), (0, (4, 0)), (1, (0, p1)), (3, (4, 22))]) (by show List.Nodup [5, 6, 4, 0, 1, 3]; decide) (by intro q hq; simp only [List.mem_cons, List.not_mem_nil, or_false] at hq; rcases hq with rfl | rfl | rfl | rfl | rfl | rfl <;> rfl) ?_
  subst hq_q24
  subst hq_q23
  subst hq_q22
  subst hq_q21
  subst hq_q20
  subst hq_q19
  subst hq_q18
  subst hq_q17
  subst hq_q16
  subst hq_q15
  subst hq_q14
  subst hq_q13
  subst hq_q12
  subst hq_q11
  subst hq_q10
  subst hq_q9
  subst hq_q8
  subst hq_q7
  subst hq_q6
  subst hq_q5
  subst hq_q4
  subst hq_q3
  subst hq_q2
  subst hq_q1
  exact h
theorem jIY_312_117 : jmI (jm 312) 117 = (.iload 5, 2) := by rfl
theorem jIY_312_119 : jmI (jm 312) 119 = (.iload 6, 2) := by rfl
theorem jIY_312_121 : jmI (jm 312) 121 = (.if_icmp .ne 18, 3) := by rfl
theorem jIY_312_124 : jmI (jm 312) 124 = (.aload_n 0, 1) := by rfl
theorem jIY_312_125 : jmI (jm 312) 125 = (.aload 4, 2) := by rfl
def jzY_329 : JC := (14, [(0, 0), (4, 2), (4, 3), (4, 4), (4, 5), (0, 0), (4, 6), (0, 0), (4, 7), (4, 8), (1, 1), (4, 9), (0, 0), (4, 10), (0, 0), (0, 0), (0, 0), (0, 0), (0, 0), (0, 0), (0, 0), (4, 11), (4, 12), (4, 13), (4, 14), (4, 15), (4, 16), (0, 0)], [])
theorem jIY_213_0 : jmI (jm 213) 0 = (.aload_n 1, 1) := by rfl
theorem jIY_200_0 : jmI (jm 200) 0 = (.iconst 0, 1) := by rfl
theorem jIY_200_1 : jmI (jm 200) 1 = (.istore_n 1, 1) := by rfl
theorem jIY_200_2 : jmI (jm 200) 2 = (.iload_n 1, 1) := by rfl
theorem jIY_200_3 : jmI (jm 200) 3 = (.bipush 6, 2) := by rfl
theorem jIY_200_5 : jmI (jm 200) 5 = (.if_icmp .ge 19, 3) := by rfl
theorem jIY_200_8 : jmI (jm 200) 8 = (.aload_n 0, 1) := by rfl
theorem jIY_200_9 : jmI (jm 200) 9 = (.iload_n 1, 1) := by rfl
theorem jIY_200_10 : jmI (jm 200) 10 = (.laload, 1) := by rfl
theorem jIY_200_11 : jmI (jm 200) 11 = (.lconst 0, 1) := by rfl
theorem jIY_200_13 : jmI (jm 200) 13 = (.ifCond .eq 5, 3) := by rfl
theorem jIY_200_16 : jmI (jm 200) 16 = (.iconst 0, 1) := by rfl
theorem jY_200_80 {xs : List Int} {d : Nat} {e0 e1 e2 e3 e4 e5 : Int} (h_e0 : (-4611686018427387903) ≤ e0 ∧ e0 ≤ 4611686018427387903) (h_e1 : (-4611686018427387903) ≤ e1 ∧ e1 ≤ 4611686018427387903) (h_e2 : (-4611686018427387903) ≤ e2 ∧ e2 ≤ 4611686018427387903) (h_e3 : (-4611686018427387903) ≤ e3 ∧ e3 ≤ 4611686018427387903) (h_e4 : (-4611686018427387903) ≤ e4 ∧ e4 ≤ 4611686018427387903) (h_e5 : (-4611686018427387903) ≤ e5 ∧ e5 ≤ 4611686018427387903) (g_0 : 0 ≤ e0 - 1) : jT xs d 200 1 0 [(0, (4, 0))] [] [(101, [], [e0, e1, e2, e3, e4, e5])] 0 0 (fun k v hsN => k = 0 ∧ v = (0, 0) ∧ hsN = [(101, [], [e0, e1, e2, e3, e4, e5])] ++ []) := by
  refine jT_xiconst (k := 0) (pcN := 1) jIY_200_0 rfl ?_
  refine jT_xistore_n (v := (0, 0)) (LN := [(1, (0, 0)), (0, (4, 0))]) (pcN := 2) jIY_200_1 rfl rfl rfl rfl ?_
  refine jT_xiload_n (v := (0, 0)) (pcN := 3) jIY_200_2 rfl rfl rfl ?_
  refine jT_xbipush (k := 6) (pcN := 5) jIY_200_3 (by decide) rfl ?_
  refine jT_xicF (t := 24) (pcN := 8) jIY_200_5 rfl (by decide +kernel) rfl rfl ?_
  refine jT_xaload_n (v := (4, 0)) (pcN := 9) jIY_200_8 rfl rfl rfl ?_
  refine jT_xiload_n (v := (0, 0)) (pcN := 10) jIY_200_9 rfl rfl rfl ?_
  refine jT_lald (x := e0) (a := 0) (j := 0) (fs := []) (X := [e0, e1, e2, e3, e4, e5]) jIY_200_10 rfl rfl rfl rfl ?_
  refine jT_eq (LN := [(1, (0, 0)), (0, (4, 0))]) (stN := [(1, e0)]) (hsN := [(101, [], [e0, e1, e2, e3, e4, e5])]) rfl rfl rfl ?_
  refine jT_xlconst (z := 0) (pcN := 12) jIY_200_11 rfl rfl ?_
  refine jT_lcmp (a := e0) (b := 0) (z := 1) (by rfl) (by rfl) (jwl_idd (by omega) (by omega)) (jwl_idd (by omega) (by omega)) (by rw [decide_eq_true (show (0 : Int) < e0 by omega)]; rfl) ?_
  refine jT_xifF (t := 18) (pcN := 16) jIY_200_13 rfl (by decide +kernel) rfl rfl ?_
  refine jT_xiconst (k := 0) (pcN := 17) jIY_200_16 rfl ?_
  exact jT_ret rfl (by decide) (by show 1 ≤ 1; omega) (by omega) (by omega) ⟨rfl, rfl, rfl⟩
theorem jIY_213_4 : jmI (jm 213) 4 = (.ifCond .eq 7, 3) := by rfl
theorem jIY_213_11 : jmI (jm 213) 11 = (.aload_n 0, 1) := by rfl
theorem jIY_213_12 : jmI (jm 213) 12 = (.aload_n 1, 1) := by rfl
theorem jIY_214_7 : jmI (jm 214) 7 = (.iload_n 3, 1) := by rfl
theorem jIY_214_8 : jmI (jm 214) 8 = (.bipush 6, 2) := by rfl
theorem jIY_214_10 : jmI (jm 214) 10 = (.if_icmp .ge 37, 3) := by rfl
theorem jYl_lg_81_6 {xs : List Int} {d b1 b2 : Nat} {Q : Nat → JV → List JC → Prop} (hd : 1 < d) {a w e0 e1 e2 e3 e4 e5 : Int} (h_e0 : -4611686018427387903 ≤ e0 ∧ e0 ≤ 4611686018427387903) (h_e1 : -4611686018427387903 ≤ e1 ∧ e1 ≤ 4611686018427387903) (h_e2 : -4611686018427387903 ≤ e2 ∧ e2 ≤ 4611686018427387903) (h_e3 : -4611686018427387903 ≤ e3 ∧ e3 ≤ 4611686018427387903) (h_e4 : -4611686018427387903 ≤ e4 ∧ e4 ≤ 4611686018427387903) (h_e5 : -4611686018427387903 ≤ e5 ∧ e5 ≤ 4611686018427387903) (ha : a.natAbs ≤ 6 * 10 ^ 220) (hw : a + (0) = w) (h : jT xs d 214 23 47 [(2, (4, 23))] [] [jzY_329, (101, [], [e0, e1, e2, e3, e4, e5]), jgh, jgh, jgh, jgh, jgh, (130, [], [17, 18, 19, 20, 21, 22]), jgh, jgh, jgh, jgh, jgh, jgh, jgh, jgh, jgh, (100, [], (jenc (jlg 0))), (100, [], (jenc (jlg 1))), (100, [], (jenc (jlg 2))), (100, [], (jenc (jlg 3))), (100, [], (jenc (jlg 4))), (100, [], (jenc (jlg 5))), (100, [], jenc w)] b1 b2 Q) : jT xs d 214 23 7 [(3, (0, 6)), (2, (4, 23)), (0, (4, 0)), (1, (4, 1))] [] [jzY_329, (101, [], [e0, e1, e2, e3, e4, e5]), jgh, jgh, jgh, jgh, jgh, (130, [], [17, 18, 19, 20, 21, 22]), jgh, jgh, jgh, jgh, jgh, jgh, jgh, jgh, jgh, (100, [], (jenc (jlg 0))), (100, [], (jenc (jlg 1))), (100, [], (jenc (jlg 2))), (100, [], (jenc (jlg 3))), (100, [], (jenc (jlg 4))), (100, [], (jenc (jlg 5))), (100, [], jenc a)] (b1 + 0) (b2 + 0) Q := by
  have e : a = w := by omega
  subst e
  refine jT.mono (b1 := b1) (b2 := b2) ?_ (Nat.le_refl _) (by omega) (by omega) (fun _ _ _ z => z)
  refine jT_xiload_n (v := (0, 6)) (pcN := 8) jIY_214_7 rfl rfl rfl ?_
  refine jT_xbipush (k := 6) (pcN := 10) jIY_214_8 (by decide) rfl ?_
  refine jT_xicT (pcN := 47) jIY_214_10 rfl (by decide +kernel) rfl ?_
  refine jT_loc (LN := [(2, (4, 23))]) (by show List.Nodup [2]; decide) (by intro q hq; simp only [List.mem_cons, List.not_mem_nil, or_false] at hq; rcases hq with rfl <;> rfl) ?_
  exact h
theorem jIY_214_13 : jmI (jm 214) 13 = (.aload_n 1, 1) := by rfl
theorem jIY_214_14 : jmI (jm 214) 14 = (.iload_n 3, 1) := by rfl
theorem jIY_214_15 : jmI (jm 214) 15 = (.laload, 1) := by rfl
theorem jIY_214_16 : jmI (jm 214) 16 = (.lconst 0, 1) := by rfl
theorem jIY_214_18 : jmI (jm 214) 18 = (.ifCond .eq 23, 3) := by rfl
theorem jIY_214_21 : jmI (jm 214) 21 = (.aload_n 2, 1) := by rfl
theorem jIY_214_22 : jmI (jm 214) 22 = (.aload_n 1, 1) := by rfl
theorem jIY_214_23 : jmI (jm 214) 23 = (.iload_n 3, 1) := by rfl
theorem jIY_214_24 : jmI (jm 214) 24 = (.laload, 1) := by rfl
theorem jIY_214_28 : jmI (jm 214) 28 = (.aload_n 0, 1) := by rfl
theorem jIY_214_29 : jmI (jm 214) 29 = (.getfield 28, 3) := by rfl
theorem jIY_214_32 : jmI (jm 214) 32 = (.iload_n 3, 1) := by rfl
theorem jIY_214_33 : jmI (jm 214) 33 = (.aaload, 1) := by rfl
theorem jIY_214_40 : jmI (jm 214) 40 = (.astore_n 2, 1) := by rfl
theorem jIY_214_41 : jmI (jm 214) 41 = (.iinc 3 1, 3) := by rfl
theorem jIY_214_44 : jmI (jm 214) 44 = (.goto (-37), 3) := by rfl
theorem jYl_lg_81_5 {xs : List Int} {d b1 b2 : Nat} {Q : Nat → JV → List JC → Prop} (hd : 1 < d) {a w e0 e1 e2 e3 e4 e5 : Int} (h_e0 : -4611686018427387903 ≤ e0 ∧ e0 ≤ 4611686018427387903) (h_e1 : -4611686018427387903 ≤ e1 ∧ e1 ≤ 4611686018427387903) (h_e2 : -4611686018427387903 ≤ e2 ∧ e2 ≤ 4611686018427387903) (h_e3 : -4611686018427387903 ≤ e3 ∧ e3 ≤ 4611686018427387903) (h_e4 : -4611686018427387903 ≤ e4 ∧ e4 ≤ 4611686018427387903) (h_e5 : -4611686018427387903 ≤ e5 ∧ e5 ≤ 4611686018427387903) (ha : a.natAbs ≤ 5 * 10 ^ 220) (hw : a + (e5 * jlg 5) = w) (h : jT xs d 214 23 47 [(2, (4, 23))] [] [jzY_329, (101, [], [e0, e1, e2, e3, e4, e5]), jgh, jgh, jgh, jgh, jgh, (130, [], [17, 18, 19, 20, 21, 22]), jgh, jgh, jgh, jgh, jgh, jgh, jgh, jgh, jgh, (100, [], (jenc (jlg 0))), (100, [], (jenc (jlg 1))), (100, [], (jenc (jlg 2))), (100, [], (jenc (jlg 3))), (100, [], (jenc (jlg 4))), (100, [], (jenc (jlg 5))), (100, [], jenc w)] b1 b2 Q) : jT xs d 214 23 7 [(3, (0, 5)), (2, (4, 23)), (0, (4, 0)), (1, (4, 1))] [] [jzY_329, (101, [], [e0, e1, e2, e3, e4, e5]), jgh, jgh, jgh, jgh, jgh, (130, [], [17, 18, 19, 20, 21, 22]), jgh, jgh, jgh, jgh, jgh, jgh, jgh, jgh, jgh, (100, [], (jenc (jlg 0))), (100, [], (jenc (jlg 1))), (100, [], (jenc (jlg 2))), (100, [], (jenc (jlg 3))), (100, [], (jenc (jlg 4))), (100, [], (jenc (jlg 5))), (100, [], jenc a)] (b1 + 3) (b2 + 168) Q := by
  rcases (show (e5 < 0) ∨ (e5 = 0) ∨ (0 < e5) by omega) with g_0 | g_0 | g_0
  · have hp := jlz_m (k := 5) (e := e5) (by decide) (by omega) (by omega)
    rcases (show (a = 0) ∨ (a ≠ 0) by omega) with ga | ga
    · subst ga
      refine jT_xiload_n (v := (0, 5)) (pcN := 8) jIY_214_7 rfl rfl rfl ?_
      refine jT_xbipush (k := 6) (pcN := 10) jIY_214_8 (by decide) rfl ?_
      refine jT_xicF (t := 47) (pcN := 13) jIY_214_10 rfl (by decide +kernel) rfl rfl ?_
      refine jT_xaload_n (v := (4, 1)) (pcN := 14) jIY_214_13 rfl rfl rfl ?_
      refine jT_xiload_n (v := (0, 5)) (pcN := 15) jIY_214_14 rfl rfl rfl ?_
      refine jT_lald (x := e5) (a := 1) (j := 5) (fs := []) (X := [e0, e1, e2, e3, e4, e5]) jIY_214_15 rfl rfl rfl rfl ?_
      refine jT_eq (LN := [(3, (0, 5)), (2, (4, 23)), (0, (4, 0)), (1, (4, 1))]) (stN := [(1, e5)]) (hsN := [jzY_329, (101, [], [e0, e1, e2, e3, e4, e5]), jgh, jgh, jgh, jgh, jgh, (130, [], [17, 18, 19, 20, 21, 22]), jgh, jgh, jgh, jgh, jgh, jgh, jgh, jgh, jgh, (100, [], (jenc (jlg 0))), (100, [], (jenc (jlg 1))), (100, [], (jenc (jlg 2))), (100, [], (jenc (jlg 3))), (100, [], (jenc (jlg 4))), (100, [], (jenc (jlg 5))), (100, [], (jenc 0))]) rfl rfl rfl ?_
      refine jT_xlconst (z := 0) (pcN := 17) jIY_214_16 rfl rfl ?_
      refine jT_lcmp (a := e5) (b := 0) (z := (-1)) (by rfl) (by rfl) (jwl_idd (by omega) (by omega)) (jwl_idd (by omega) (by omega)) (by rw [decide_eq_false (show ¬ ((0 : Int) < e5) by omega), decide_eq_false (show ¬ ((e5 : Int) = 0) by omega)]; rfl) ?_
      refine jT_xifF (t := 41) (pcN := 21) jIY_214_18 rfl (by decide +kernel) rfl rfl ?_
      refine jT_xaload_n (v := (4, 23)) (pcN := 22) jIY_214_21 rfl rfl rfl ?_
      refine jT_xaload_n (v := (4, 1)) (pcN := 23) jIY_214_22 rfl rfl rfl ?_
      refine jT_xiload_n (v := (0, 5)) (pcN := 24) jIY_214_23 rfl rfl rfl ?_
      refine jT_lald (x := e5) (a := 1) (j := 5) (fs := []) (X := [e0, e1, e2, e3, e4, e5]) jIY_214_24 rfl rfl rfl rfl ?_
      refine jT_eq (LN := [(3, (0, 5)), (2, (4, 23)), (0, (4, 0)), (1, (4, 1))]) (stN := [(1, e5), (4, 23)]) (hsN := [jzY_329, (101, [], [e0, e1, e2, e3, e4, e5]), jgh, jgh, jgh, jgh, jgh, (130, [], [17, 18, 19, 20, 21, 22]), jgh, jgh, jgh, jgh, jgh, jgh, jgh, jgh, jgh, (100, [], (jenc (jlg 0))), (100, [], (jenc (jlg 1))), (100, [], (jenc (jlg 2))), (100, [], (jenc (jlg 3))), (100, [], (jenc (jlg 4))), (100, [], (jenc (jlg 5))), (100, [], (jenc 0))]) rfl rfl rfl ?_
      refine jT_callA [] (y := 178) (pcN := 28) (dC := 1) (bc1 := 1) (bc2 := 56) (c1 := (b1 + 2)) (c2 := (b2 + 112)) (as := [(1, e5)]) (asC := [(1, e5)]) (LN := [(3, (0, 5)), (2, (4, 23)), (0, (4, 0)), (1, (4, 1))]) (stN := [(4, 23)]) (hsC := []) (ex := [(100, [], (jenc e5))]) (v := (4, 0)) (st2 := [(4, 24), (4, 23)]) (hs2 := [jzY_329, (101, [], [e0, e1, e2, e3, e4, e5]), jgh, jgh, jgh, jgh, jgh, (130, [], [17, 18, 19, 20, 21, 22]), jgh, jgh, jgh, jgh, jgh, jgh, jgh, jgh, jgh, (100, [], (jenc (jlg 0))), (100, [], (jenc (jlg 1))), (100, [], (jenc (jlg 2))), (100, [], (jenc (jlg 3))), (100, [], (jenc (jlg 4))), (100, [], (jenc (jlg 5))), (100, [], (jenc 0)), (100, [], (jenc e5))]) (jT_big (d := 0) (v := e5) (by omega) (by omega)) (by rfl) (by rfl) (by rfl) (by rfl) trivial (by rfl) (by rfl) (by omega) (by show 23 ≤ 24; omega) (by omega) (by omega) rfl rfl ?_
      refine jT_xaload_n (v := (4, 0)) (pcN := 29) jIY_214_28 rfl rfl rfl ?_
      refine jT_xgetf (a := 0) (t := 1) (ci := 14) (fi := 8) (c := jzY_329) (v := (4, 7)) (pcN := 32) jIY_214_29 rfl rfl rfl rfl rfl rfl rfl ?_
      refine jT_xiload_n (v := (0, 5)) (pcN := 33) jIY_214_32 rfl rfl rfl ?_
      refine jT_aald (x := 22) (a := 7) (j := 5) (fs := []) (X := [17, 18, 19, 20, 21, 22]) (kd := 130) jIY_214_33 rfl rfl rfl rfl rfl ?_
      refine jT_eq (LN := [(3, (0, 5)), (2, (4, 23)), (0, (4, 0)), (1, (4, 1))]) (stN := [(4, 22), (4, 24), (4, 23)]) (hsN := [jzY_329, (101, [], [e0, e1, e2, e3, e4, e5]), jgh, jgh, jgh, jgh, jgh, (130, [], [17, 18, 19, 20, 21, 22]), jgh, jgh, jgh, jgh, jgh, jgh, jgh, jgh, jgh, (100, [], (jenc (jlg 0))), (100, [], (jenc (jlg 1))), (100, [], (jenc (jlg 2))), (100, [], (jenc (jlg 3))), (100, [], (jenc (jlg 4))), (100, [], (jenc (jlg 5))), (100, [], (jenc 0)), (100, [], (jenc e5))]) rfl rfl rfl ?_
      refine jT_callA [24, 22] (y := 179) (pcN := 37) (dC := 1) (bc1 := 1) (bc2 := 56) (c1 := (b1 + 1)) (c2 := (b2 + 56)) (as := [(4, 24), (4, 22)]) (asC := [(4, 0), (4, 1)]) (LN := [(3, (0, 5)), (2, (4, 23)), (0, (4, 0)), (1, (4, 1))]) (stN := [(4, 23)]) (hsC := [(100, [], (jenc e5)), (100, [], (jenc (jlg 5)))]) (ex := [(100, [], (jenc (e5 * jlg 5)))]) (v := (4, 2)) (st2 := [(4, 25), (4, 23)]) (hs2 := [jzY_329, (101, [], [e0, e1, e2, e3, e4, e5]), jgh, jgh, jgh, jgh, jgh, (130, [], [17, 18, 19, 20, 21, 22]), jgh, jgh, jgh, jgh, jgh, jgh, jgh, jgh, jgh, (100, [], (jenc (jlg 0))), (100, [], (jenc (jlg 1))), (100, [], (jenc (jlg 2))), (100, [], (jenc (jlg 3))), (100, [], (jenc (jlg 4))), (100, [], (jenc (jlg 5))), (100, [], (jenc 0)), (100, [], (jenc e5)), (100, [], (jenc (e5 * jlg 5)))]) (jT_product (d := 0) (a := e5) (b := jlg 5) (jb54 (by omega) (by omega)) hp.1) (by rfl) (by rfl) (by rfl) (by rfl) ⟨rfl, rfl, trivial⟩ (by rfl) (by rfl) (by omega) (by show 23 ≤ 25; omega) (by omega) (by omega) rfl rfl ?_
      refine jT_callA [23, 25] (y := 181) (pcN := 40) (dC := 0) (bc1 := 0) (bc2 := 0) (c1 := (b1 + 1)) (c2 := (b2 + 56)) (as := [(4, 23), (4, 25)]) (asC := [(4, 0), (4, 1)]) (LN := [(3, (0, 5)), (2, (4, 23)), (0, (4, 0)), (1, (4, 1))]) (stN := []) (hsC := [(100, [], (jenc 0)), (100, [], (jenc (e5 * jlg 5)))]) (ex := []) (v := (4, 1)) (st2 := [(4, 25)]) (hs2 := [jzY_329, (101, [], [e0, e1, e2, e3, e4, e5]), jgh, jgh, jgh, jgh, jgh, (130, [], [17, 18, 19, 20, 21, 22]), jgh, jgh, jgh, jgh, jgh, jgh, jgh, jgh, jgh, (100, [], (jenc (jlg 0))), (100, [], (jenc (jlg 1))), (100, [], (jenc (jlg 2))), (100, [], (jenc (jlg 3))), (100, [], (jenc (jlg 4))), (100, [], (jenc (jlg 5))), (100, [], (jenc 0)), (100, [], (jenc e5)), (100, [], (jenc (e5 * jlg 5)))]) (jT_added_0l (d := 0) (b := e5 * jlg 5)) (by rfl) (by rfl) (by rfl) (by rfl) ⟨rfl, rfl, trivial⟩ (by rfl) (by rfl) (by omega) (by show 23 ≤ 26; omega) (by omega) (by omega) rfl rfl ?_
      refine jT_xastore_n (v := (4, 25)) (LN := [(2, (4, 25)), (3, (0, 5)), (0, (4, 0)), (1, (4, 1))]) (pcN := 41) jIY_214_40 rfl rfl rfl rfl ?_
      refine jT_xiinc (x := 5) (z := 6) (LN := [(3, (0, 6)), (2, (4, 25)), (0, (4, 0)), (1, (4, 1))]) (pcN := 44) jIY_214_41 rfl rfl (by decide) rfl rfl ?_
      refine jT_xgoto (pcN := 7) jIY_214_44 rfl ?_
      refine jT_loc (LN := [(3, (0, 6)), (2, (4, 25)), (0, (4, 0)), (1, (4, 1))]) (by show List.Nodup [3, 2, 0, 1]; decide) (by intro q hq; simp only [List.mem_cons, List.not_mem_nil, or_false] at hq; rcases hq with rfl | rfl | rfl | rfl <;> rfl) ?_
      refine jT_gc [0, 1, 2, 3, 4, 5, 6, 7, 8, 9, 10, 11, 12, 13, 14, 15, 16, 17, 18, 19, 20, 21, 22, 25] (hs0 := [jzY_329, (101, [], [e0, e1, e2, e3, e4, e5]), jgh, jgh, jgh, jgh, jgh, (130, [], [17, 18, 19, 20, 21, 22]), jgh, jgh, jgh, jgh, jgh, jgh, jgh, jgh, jgh, (100, [], (jenc (jlg 0))), (100, [], (jenc (jlg 1))), (100, [], (jenc (jlg 2))), (100, [], (jenc (jlg 3))), (100, [], (jenc (jlg 4))), (100, [], (jenc (jlg 5))), (100, [], jenc (e5 * jlg 5))]) (L0 := [(3, (0, 6)), (2, (4, 23)), (0, (4, 0)), (1, (4, 1))]) (st0 := []) (by show jgB [0, 1, 2, 3, 4, 5, 6, 7, 8, 9, 10, 11, 12, 13, 14, 15, 16, 17, 18, 19, 20, 21, 22, 25] 26 = true; decide +kernel) rfl ⟨rfl, rfl, rfl, rfl, rfl, rfl, rfl, rfl, rfl, rfl, rfl, rfl, rfl, rfl, rfl, rfl, rfl, rfl, rfl, rfl, rfl, rfl, rfl, rfl, trivial⟩ rfl rfl (by decide +kernel) ?_
      exact jT.mono (jYl_lg_81_6 hd h_e0 h_e1 h_e2 h_e3 h_e4 h_e5 (Nat.le_trans hp.2.2 (by decide)) (by rw [Int.zero_add] at hw; omega) h) (Nat.le_refl _) (by omega) (by omega) (fun _ _ _ z => z)
    · refine jT_xiload_n (v := (0, 5)) (pcN := 8) jIY_214_7 rfl rfl rfl ?_
      refine jT_xbipush (k := 6) (pcN := 10) jIY_214_8 (by decide) rfl ?_
      refine jT_xicF (t := 47) (pcN := 13) jIY_214_10 rfl (by decide +kernel) rfl rfl ?_
      refine jT_xaload_n (v := (4, 1)) (pcN := 14) jIY_214_13 rfl rfl rfl ?_
      refine jT_xiload_n (v := (0, 5)) (pcN := 15) jIY_214_14 rfl rfl rfl ?_
      refine jT_lald (x := e5) (a := 1) (j := 5) (fs := []) (X := [e0, e1, e2, e3, e4, e5]) jIY_214_15 rfl rfl rfl rfl ?_
      refine jT_eq (LN := [(3, (0, 5)), (2, (4, 23)), (0, (4, 0)), (1, (4, 1))]) (stN := [(1, e5)]) (hsN := [jzY_329, (101, [], [e0, e1, e2, e3, e4, e5]), jgh, jgh, jgh, jgh, jgh, (130, [], [17, 18, 19, 20, 21, 22]), jgh, jgh, jgh, jgh, jgh, jgh, jgh, jgh, jgh, (100, [], (jenc (jlg 0))), (100, [], (jenc (jlg 1))), (100, [], (jenc (jlg 2))), (100, [], (jenc (jlg 3))), (100, [], (jenc (jlg 4))), (100, [], (jenc (jlg 5))), (100, [], (jenc a))]) rfl rfl rfl ?_
      refine jT_xlconst (z := 0) (pcN := 17) jIY_214_16 rfl rfl ?_
      refine jT_lcmp (a := e5) (b := 0) (z := (-1)) (by rfl) (by rfl) (jwl_idd (by omega) (by omega)) (jwl_idd (by omega) (by omega)) (by rw [decide_eq_false (show ¬ ((0 : Int) < e5) by omega), decide_eq_false (show ¬ ((e5 : Int) = 0) by omega)]; rfl) ?_
      refine jT_xifF (t := 41) (pcN := 21) jIY_214_18 rfl (by decide +kernel) rfl rfl ?_
      refine jT_xaload_n (v := (4, 23)) (pcN := 22) jIY_214_21 rfl rfl rfl ?_
      refine jT_xaload_n (v := (4, 1)) (pcN := 23) jIY_214_22 rfl rfl rfl ?_
      refine jT_xiload_n (v := (0, 5)) (pcN := 24) jIY_214_23 rfl rfl rfl ?_
      refine jT_lald (x := e5) (a := 1) (j := 5) (fs := []) (X := [e0, e1, e2, e3, e4, e5]) jIY_214_24 rfl rfl rfl rfl ?_
      refine jT_eq (LN := [(3, (0, 5)), (2, (4, 23)), (0, (4, 0)), (1, (4, 1))]) (stN := [(1, e5), (4, 23)]) (hsN := [jzY_329, (101, [], [e0, e1, e2, e3, e4, e5]), jgh, jgh, jgh, jgh, jgh, (130, [], [17, 18, 19, 20, 21, 22]), jgh, jgh, jgh, jgh, jgh, jgh, jgh, jgh, jgh, (100, [], (jenc (jlg 0))), (100, [], (jenc (jlg 1))), (100, [], (jenc (jlg 2))), (100, [], (jenc (jlg 3))), (100, [], (jenc (jlg 4))), (100, [], (jenc (jlg 5))), (100, [], (jenc a))]) rfl rfl rfl ?_
      refine jT_callA [] (y := 178) (pcN := 28) (dC := 1) (bc1 := 1) (bc2 := 56) (c1 := (b1 + 2)) (c2 := (b2 + 112)) (as := [(1, e5)]) (asC := [(1, e5)]) (LN := [(3, (0, 5)), (2, (4, 23)), (0, (4, 0)), (1, (4, 1))]) (stN := [(4, 23)]) (hsC := []) (ex := [(100, [], (jenc e5))]) (v := (4, 0)) (st2 := [(4, 24), (4, 23)]) (hs2 := [jzY_329, (101, [], [e0, e1, e2, e3, e4, e5]), jgh, jgh, jgh, jgh, jgh, (130, [], [17, 18, 19, 20, 21, 22]), jgh, jgh, jgh, jgh, jgh, jgh, jgh, jgh, jgh, (100, [], (jenc (jlg 0))), (100, [], (jenc (jlg 1))), (100, [], (jenc (jlg 2))), (100, [], (jenc (jlg 3))), (100, [], (jenc (jlg 4))), (100, [], (jenc (jlg 5))), (100, [], (jenc a)), (100, [], (jenc e5))]) (jT_big (d := 0) (v := e5) (by omega) (by omega)) (by rfl) (by rfl) (by rfl) (by rfl) trivial (by rfl) (by rfl) (by omega) (by show 23 ≤ 24; omega) (by omega) (by omega) rfl rfl ?_
      refine jT_xaload_n (v := (4, 0)) (pcN := 29) jIY_214_28 rfl rfl rfl ?_
      refine jT_xgetf (a := 0) (t := 1) (ci := 14) (fi := 8) (c := jzY_329) (v := (4, 7)) (pcN := 32) jIY_214_29 rfl rfl rfl rfl rfl rfl rfl ?_
      refine jT_xiload_n (v := (0, 5)) (pcN := 33) jIY_214_32 rfl rfl rfl ?_
      refine jT_aald (x := 22) (a := 7) (j := 5) (fs := []) (X := [17, 18, 19, 20, 21, 22]) (kd := 130) jIY_214_33 rfl rfl rfl rfl rfl ?_
      refine jT_eq (LN := [(3, (0, 5)), (2, (4, 23)), (0, (4, 0)), (1, (4, 1))]) (stN := [(4, 22), (4, 24), (4, 23)]) (hsN := [jzY_329, (101, [], [e0, e1, e2, e3, e4, e5]), jgh, jgh, jgh, jgh, jgh, (130, [], [17, 18, 19, 20, 21, 22]), jgh, jgh, jgh, jgh, jgh, jgh, jgh, jgh, jgh, (100, [], (jenc (jlg 0))), (100, [], (jenc (jlg 1))), (100, [], (jenc (jlg 2))), (100, [], (jenc (jlg 3))), (100, [], (jenc (jlg 4))), (100, [], (jenc (jlg 5))), (100, [], (jenc a)), (100, [], (jenc e5))]) rfl rfl rfl ?_
      refine jT_callA [24, 22] (y := 179) (pcN := 37) (dC := 1) (bc1 := 1) (bc2 := 56) (c1 := (b1 + 1)) (c2 := (b2 + 56)) (as := [(4, 24), (4, 22)]) (asC := [(4, 0), (4, 1)]) (LN := [(3, (0, 5)), (2, (4, 23)), (0, (4, 0)), (1, (4, 1))]) (stN := [(4, 23)]) (hsC := [(100, [], (jenc e5)), (100, [], (jenc (jlg 5)))]) (ex := [(100, [], (jenc (e5 * jlg 5)))]) (v := (4, 2)) (st2 := [(4, 25), (4, 23)]) (hs2 := [jzY_329, (101, [], [e0, e1, e2, e3, e4, e5]), jgh, jgh, jgh, jgh, jgh, (130, [], [17, 18, 19, 20, 21, 22]), jgh, jgh, jgh, jgh, jgh, jgh, jgh, jgh, jgh, (100, [], (jenc (jlg 0))), (100, [], (jenc (jlg 1))), (100, [], (jenc (jlg 2))), (100, [], (jenc (jlg 3))), (100, [], (jenc (jlg 4))), (100, [], (jenc (jlg 5))), (100, [], (jenc a)), (100, [], (jenc e5)), (100, [], (jenc (e5 * jlg 5)))]) (jT_product (d := 0) (a := e5) (b := jlg 5) (jb54 (by omega) (by omega)) hp.1) (by rfl) (by rfl) (by rfl) (by rfl) ⟨rfl, rfl, trivial⟩ (by rfl) (by rfl) (by omega) (by show 23 ≤ 25; omega) (by omega) (by omega) rfl rfl ?_
      refine jT_callA [23, 25] (y := 181) (pcN := 40) (dC := 1) (bc1 := 1) (bc2 := 56) (c1 := (b1 + 0)) (c2 := (b2 + 0)) (as := [(4, 23), (4, 25)]) (asC := [(4, 0), (4, 1)]) (LN := [(3, (0, 5)), (2, (4, 23)), (0, (4, 0)), (1, (4, 1))]) (stN := []) (hsC := [(100, [], (jenc a)), (100, [], (jenc (e5 * jlg 5)))]) (ex := [(100, [], (jenc (a + (e5 * jlg 5))))]) (v := (4, 2)) (st2 := [(4, 26)]) (hs2 := [jzY_329, (101, [], [e0, e1, e2, e3, e4, e5]), jgh, jgh, jgh, jgh, jgh, (130, [], [17, 18, 19, 20, 21, 22]), jgh, jgh, jgh, jgh, jgh, jgh, jgh, jgh, jgh, (100, [], (jenc (jlg 0))), (100, [], (jenc (jlg 1))), (100, [], (jenc (jlg 2))), (100, [], (jenc (jlg 3))), (100, [], (jenc (jlg 4))), (100, [], (jenc (jlg 5))), (100, [], (jenc a)), (100, [], (jenc e5)), (100, [], (jenc (e5 * jlg 5))), (100, [], (jenc (a + (e5 * jlg 5))))]) (jT_added (d := 0) (a := a) (b := e5 * jlg 5) ga hp.2.1 (jb54k ha (by decide)) hp.1 (jb54a ha hp.2.2 (by decide))) (by rfl) (by rfl) (by rfl) (by rfl) ⟨rfl, rfl, trivial⟩ (by rfl) (by rfl) (by omega) (by show 23 ≤ 26; omega) (by omega) (by omega) rfl rfl ?_
      refine jT_xastore_n (v := (4, 26)) (LN := [(2, (4, 26)), (3, (0, 5)), (0, (4, 0)), (1, (4, 1))]) (pcN := 41) jIY_214_40 rfl rfl rfl rfl ?_
      refine jT_xiinc (x := 5) (z := 6) (LN := [(3, (0, 6)), (2, (4, 26)), (0, (4, 0)), (1, (4, 1))]) (pcN := 44) jIY_214_41 rfl rfl (by decide) rfl rfl ?_
      refine jT_xgoto (pcN := 7) jIY_214_44 rfl ?_
      refine jT_loc (LN := [(3, (0, 6)), (2, (4, 26)), (0, (4, 0)), (1, (4, 1))]) (by show List.Nodup [3, 2, 0, 1]; decide) (by intro q hq; simp only [List.mem_cons, List.not_mem_nil, or_false] at hq; rcases hq with rfl | rfl | rfl | rfl <;> rfl) ?_
      refine jT_gc [0, 1, 2, 3, 4, 5, 6, 7, 8, 9, 10, 11, 12, 13, 14, 15, 16, 17, 18, 19, 20, 21, 22, 26] (hs0 := [jzY_329, (101, [], [e0, e1, e2, e3, e4, e5]), jgh, jgh, jgh, jgh, jgh, (130, [], [17, 18, 19, 20, 21, 22]), jgh, jgh, jgh, jgh, jgh, jgh, jgh, jgh, jgh, (100, [], (jenc (jlg 0))), (100, [], (jenc (jlg 1))), (100, [], (jenc (jlg 2))), (100, [], (jenc (jlg 3))), (100, [], (jenc (jlg 4))), (100, [], (jenc (jlg 5))), (100, [], jenc (a + (e5 * jlg 5)))]) (L0 := [(3, (0, 6)), (2, (4, 23)), (0, (4, 0)), (1, (4, 1))]) (st0 := []) (by show jgB [0, 1, 2, 3, 4, 5, 6, 7, 8, 9, 10, 11, 12, 13, 14, 15, 16, 17, 18, 19, 20, 21, 22, 26] 27 = true; decide +kernel) rfl ⟨rfl, rfl, rfl, rfl, rfl, rfl, rfl, rfl, rfl, rfl, rfl, rfl, rfl, rfl, rfl, rfl, rfl, rfl, rfl, rfl, rfl, rfl, rfl, rfl, trivial⟩ rfl rfl (by decide +kernel) ?_
      exact jT.mono (jYl_lg_81_6 hd h_e0 h_e1 h_e2 h_e3 h_e4 h_e5 (jb1c ha hp.2.2 (by decide)) (by omega) h) (Nat.le_refl _) (by omega) (by omega) (fun _ _ _ z => z)
  · refine jT_xiload_n (v := (0, 5)) (pcN := 8) jIY_214_7 rfl rfl rfl ?_
    refine jT_xbipush (k := 6) (pcN := 10) jIY_214_8 (by decide) rfl ?_
    refine jT_xicF (t := 47) (pcN := 13) jIY_214_10 rfl (by decide +kernel) rfl rfl ?_
    refine jT_xaload_n (v := (4, 1)) (pcN := 14) jIY_214_13 rfl rfl rfl ?_
    refine jT_xiload_n (v := (0, 5)) (pcN := 15) jIY_214_14 rfl rfl rfl ?_
    refine jT_lald (x := e5) (a := 1) (j := 5) (fs := []) (X := [e0, e1, e2, e3, e4, e5]) jIY_214_15 rfl rfl rfl rfl ?_
    refine jT_eq (LN := [(3, (0, 5)), (2, (4, 23)), (0, (4, 0)), (1, (4, 1))]) (stN := [(1, e5)]) (hsN := [jzY_329, (101, [], [e0, e1, e2, e3, e4, e5]), jgh, jgh, jgh, jgh, jgh, (130, [], [17, 18, 19, 20, 21, 22]), jgh, jgh, jgh, jgh, jgh, jgh, jgh, jgh, jgh, (100, [], (jenc (jlg 0))), (100, [], (jenc (jlg 1))), (100, [], (jenc (jlg 2))), (100, [], (jenc (jlg 3))), (100, [], (jenc (jlg 4))), (100, [], (jenc (jlg 5))), (100, [], (jenc a))]) rfl rfl rfl ?_
    refine jT_xlconst (z := 0) (pcN := 17) jIY_214_16 rfl rfl ?_
    refine jT_lcmp (a := e5) (b := 0) (z := 0) (by rfl) (by rfl) (jwl_idd (by omega) (by omega)) (jwl_idd (by omega) (by omega)) (by rw [decide_eq_false (show ¬ ((0 : Int) < e5) by omega), decide_eq_true (show (e5 : Int) = 0 by omega)]; rfl) ?_
    refine jT_xifT (pcN := 41) jIY_214_18 rfl (by decide +kernel) rfl ?_
    refine jT_xiinc (x := 5) (z := 6) (LN := [(3, (0, 6)), (2, (4, 23)), (0, (4, 0)), (1, (4, 1))]) (pcN := 44) jIY_214_41 rfl rfl (by decide) rfl rfl ?_
    refine jT_xgoto (pcN := 7) jIY_214_44 rfl ?_
    refine jT_loc (LN := [(3, (0, 6)), (2, (4, 23)), (0, (4, 0)), (1, (4, 1))]) (by show List.Nodup [3, 2, 0, 1]; decide) (by intro q hq; simp only [List.mem_cons, List.not_mem_nil, or_false] at hq; rcases hq with rfl | rfl | rfl | rfl <;> rfl) ?_
    exact jT.mono (jYl_lg_81_6 hd h_e0 h_e1 h_e2 h_e3 h_e4 h_e5 (by omega) (by rw [g_0, Int.zero_mul] at hw; omega) h) (Nat.le_refl _) (by omega) (by omega) (fun _ _ _ z => z)
  · have hp := jlz_m (k := 5) (e := e5) (by decide) (by omega) (by omega)
    rcases (show (a = 0) ∨ (a ≠ 0) by omega) with ga | ga
    · subst ga
      refine jT_xiload_n (v := (0, 5)) (pcN := 8) jIY_214_7 rfl rfl rfl ?_
      refine jT_xbipush (k := 6) (pcN := 10) jIY_214_8 (by decide) rfl ?_
      refine jT_xicF (t := 47) (pcN := 13) jIY_214_10 rfl (by decide +kernel) rfl rfl ?_
      refine jT_xaload_n (v := (4, 1)) (pcN := 14) jIY_214_13 rfl rfl rfl ?_
      refine jT_xiload_n (v := (0, 5)) (pcN := 15) jIY_214_14 rfl rfl rfl ?_
      refine jT_lald (x := e5) (a := 1) (j := 5) (fs := []) (X := [e0, e1, e2, e3, e4, e5]) jIY_214_15 rfl rfl rfl rfl ?_
      refine jT_eq (LN := [(3, (0, 5)), (2, (4, 23)), (0, (4, 0)), (1, (4, 1))]) (stN := [(1, e5)]) (hsN := [jzY_329, (101, [], [e0, e1, e2, e3, e4, e5]), jgh, jgh, jgh, jgh, jgh, (130, [], [17, 18, 19, 20, 21, 22]), jgh, jgh, jgh, jgh, jgh, jgh, jgh, jgh, jgh, (100, [], (jenc (jlg 0))), (100, [], (jenc (jlg 1))), (100, [], (jenc (jlg 2))), (100, [], (jenc (jlg 3))), (100, [], (jenc (jlg 4))), (100, [], (jenc (jlg 5))), (100, [], (jenc 0))]) rfl rfl rfl ?_
      refine jT_xlconst (z := 0) (pcN := 17) jIY_214_16 rfl rfl ?_
      refine jT_lcmp (a := e5) (b := 0) (z := 1) (by rfl) (by rfl) (jwl_idd (by omega) (by omega)) (jwl_idd (by omega) (by omega)) (by rw [decide_eq_true (show (0 : Int) < e5 by omega)]; rfl) ?_
      refine jT_xifF (t := 41) (pcN := 21) jIY_214_18 rfl (by decide +kernel) rfl rfl ?_
      refine jT_xaload_n (v := (4, 23)) (pcN := 22) jIY_214_21 rfl rfl rfl ?_
      refine jT_xaload_n (v := (4, 1)) (pcN := 23) jIY_214_22 rfl rfl rfl ?_
      refine jT_xiload_n (v := (0, 5)) (pcN := 24) jIY_214_23 rfl rfl rfl ?_
      refine jT_lald (x := e5) (a := 1) (j := 5) (fs := []) (X := [e0, e1, e2, e3, e4, e5]) jIY_214_24 rfl rfl rfl rfl ?_
      refine jT_eq (LN := [(3, (0, 5)), (2, (4, 23)), (0, (4, 0)), (1, (4, 1))]) (stN := [(1, e5), (4, 23)]) (hsN := [jzY_329, (101, [], [e0, e1, e2, e3, e4, e5]), jgh, jgh, jgh, jgh, jgh, (130, [], [17, 18, 19, 20, 21, 22]), jgh, jgh, jgh, jgh, jgh, jgh, jgh, jgh, jgh, (100, [], (jenc (jlg 0))), (100, [], (jenc (jlg 1))), (100, [], (jenc (jlg 2))), (100, [], (jenc (jlg 3))), (100, [], (jenc (jlg 4))), (100, [], (jenc (jlg 5))), (100, [], (jenc 0))]) rfl rfl rfl ?_
      refine jT_callA [] (y := 178) (pcN := 28) (dC := 1) (bc1 := 1) (bc2 := 56) (c1 := (b1 + 2)) (c2 := (b2 + 112)) (as := [(1, e5)]) (asC := [(1, e5)]) (LN := [(3, (0, 5)), (2, (4, 23)), (0, (4, 0)), (1, (4, 1))]) (stN := [(4, 23)]) (hsC := []) (ex := [(100, [], (jenc e5))]) (v := (4, 0)) (st2 := [(4, 24), (4, 23)]) (hs2 := [jzY_329, (101, [], [e0, e1, e2, e3, e4, e5]), jgh, jgh, jgh, jgh, jgh, (130, [], [17, 18, 19, 20, 21, 22]), jgh, jgh, jgh, jgh, jgh, jgh, jgh, jgh, jgh, (100, [], (jenc (jlg 0))), (100, [], (jenc (jlg 1))), (100, [], (jenc (jlg 2))), (100, [], (jenc (jlg 3))), (100, [], (jenc (jlg 4))), (100, [], (jenc (jlg 5))), (100, [], (jenc 0)), (100, [], (jenc e5))]) (jT_big (d := 0) (v := e5) (by omega) (by omega)) (by rfl) (by rfl) (by rfl) (by rfl) trivial (by rfl) (by rfl) (by omega) (by show 23 ≤ 24; omega) (by omega) (by omega) rfl rfl ?_
      refine jT_xaload_n (v := (4, 0)) (pcN := 29) jIY_214_28 rfl rfl rfl ?_
      refine jT_xgetf (a := 0) (t := 1) (ci := 14) (fi := 8) (c := jzY_329) (v := (4, 7)) (pcN := 32) jIY_214_29 rfl rfl rfl rfl rfl rfl rfl ?_
      refine jT_xiload_n (v := (0, 5)) (pcN := 33) jIY_214_32 rfl rfl rfl ?_
      refine jT_aald (x := 22) (a := 7) (j := 5) (fs := []) (X := [17, 18, 19, 20, 21, 22]) (kd := 130) jIY_214_33 rfl rfl rfl rfl rfl ?_
      refine jT_eq (LN := [(3, (0, 5)), (2, (4, 23)), (0, (4, 0)), (1, (4, 1))]) (stN := [(4, 22), (4, 24), (4, 23)]) (hsN := [jzY_329, (101, [], [e0, e1, e2, e3, e4, e5]), jgh, jgh, jgh, jgh, jgh, (130, [], [17, 18, 19, 20, 21, 22]), jgh, jgh, jgh, jgh, jgh, jgh, jgh, jgh, jgh, (100, [], (jenc (jlg 0))), (100, [], (jenc (jlg 1))), (100, [], (jenc (jlg 2))), (100, [], (jenc (jlg 3))), (100, [], (jenc (jlg 4))), (100, [], (jenc (jlg 5))), (100, [], (jenc 0)), (100, [], (jenc e5))]) rfl rfl rfl ?_
      refine jT_callA [24, 22] (y := 179) (pcN := 37) (dC := 1) (bc1 := 1) (bc2 := 56) (c1 := (b1 + 1)) (c2 := (b2 + 56)) (as := [(4, 24), (4, 22)]) (asC := [(4, 0), (4, 1)]) (LN := [(3, (0, 5)), (2, (4, 23)), (0, (4, 0)), (1, (4, 1))]) (stN := [(4, 23)]) (hsC := [(100, [], (jenc e5)), (100, [], (jenc (jlg 5)))]) (ex := [(100, [], (jenc (e5 * jlg 5)))]) (v := (4, 2)) (st2 := [(4, 25), (4, 23)]) (hs2 := [jzY_329, (101, [], [e0, e1, e2, e3, e4, e5]), jgh, jgh, jgh, jgh, jgh, (130, [], [17, 18, 19, 20, 21, 22]), jgh, jgh, jgh, jgh, jgh, jgh, jgh, jgh, jgh, (100, [], (jenc (jlg 0))), (100, [], (jenc (jlg 1))), (100, [], (jenc (jlg 2))), (100, [], (jenc (jlg 3))), (100, [], (jenc (jlg 4))), (100, [], (jenc (jlg 5))), (100, [], (jenc 0)), (100, [], (jenc e5)), (100, [], (jenc (e5 * jlg 5)))]) (jT_product (d := 0) (a := e5) (b := jlg 5) (jb54 (by omega) (by omega)) hp.1) (by rfl) (by rfl) (by rfl) (by rfl) ⟨rfl, rfl, trivial⟩ (by rfl) (by rfl) (by omega) (by show 23 ≤ 25; omega) (by omega) (by omega) rfl rfl ?_
      refine jT_callA [23, 25] (y := 181) (pcN := 40) (dC := 0) (bc1 := 0) (bc2 := 0) (c1 := (b1 + 1)) (c2 := (b2 + 56)) (as := [(4, 23), (4, 25)]) (asC := [(4, 0), (4, 1)]) (LN := [(3, (0, 5)), (2, (4, 23)), (0, (4, 0)), (1, (4, 1))]) (stN := []) (hsC := [(100, [], (jenc 0)), (100, [], (jenc (e5 * jlg 5)))]) (ex := []) (v := (4, 1)) (st2 := [(4, 25)]) (hs2 := [jzY_329, (101, [], [e0, e1, e2, e3, e4, e5]), jgh, jgh, jgh, jgh, jgh, (130, [], [17, 18, 19, 20, 21, 22]), jgh, jgh, jgh, jgh, jgh, jgh, jgh, jgh, jgh, (100, [], (jenc (jlg 0))), (100, [], (jenc (jlg 1))), (100, [], (jenc (jlg 2))), (100, [], (jenc (jlg 3))), (100, [], (jenc (jlg 4))), (100, [], (jenc (jlg 5))), (100, [], (jenc 0)), (100, [], (jenc e5)), (100, [], (jenc (e5 * jlg 5)))]) (jT_added_0l (d := 0) (b := e5 * jlg 5)) (by rfl) (by rfl) (by rfl) (by rfl) ⟨rfl, rfl, trivial⟩ (by rfl) (by rfl) (by omega) (by show 23 ≤ 26; omega) (by omega) (by omega) rfl rfl ?_
      refine jT_xastore_n (v := (4, 25)) (LN := [(2, (4, 25)), (3, (0, 5)), (0, (4, 0)), (1, (4, 1))]) (pcN := 41) jIY_214_40 rfl rfl rfl rfl ?_
      refine jT_xiinc (x := 5) (z := 6) (LN := [(3, (0, 6)), (2, (4, 25)), (0, (4, 0)), (1, (4, 1))]) (pcN := 44) jIY_214_41 rfl rfl (by decide) rfl rfl ?_
      refine jT_xgoto (pcN := 7) jIY_214_44 rfl ?_
      refine jT_loc (LN := [(3, (0, 6)), (2, (4, 25)), (0, (4, 0)), (1, (4, 1))]) (by show List.Nodup [3, 2, 0, 1]; decide) (by intro q hq; simp only [List.mem_cons, List.not_mem_nil, or_false] at hq; rcases hq with rfl | rfl | rfl | rfl <;> rfl) ?_
      refine jT_gc [0, 1, 2, 3, 4, 5, 6, 7, 8, 9, 10, 11, 12, 13, 14, 15, 16, 17, 18, 19, 20, 21, 22, 25] (hs0 := [jzY_329, (101, [], [e0, e1, e2, e3, e4, e5]), jgh, jgh, jgh, jgh, jgh, (130, [], [17, 18, 19, 20, 21, 22]), jgh, jgh, jgh, jgh, jgh, jgh, jgh, jgh, jgh, (100, [], (jenc (jlg 0))), (100, [], (jenc (jlg 1))), (100, [], (jenc (jlg 2))), (100, [], (jenc (jlg 3))), (100, [], (jenc (jlg 4))), (100, [], (jenc (jlg 5))), (100, [], jenc (e5 * jlg 5))]) (L0 := [(3, (0, 6)), (2, (4, 23)), (0, (4, 0)), (1, (4, 1))]) (st0 := []) (by show jgB [0, 1, 2, 3, 4, 5, 6, 7, 8, 9, 10, 11, 12, 13, 14, 15, 16, 17, 18, 19, 20, 21, 22, 25] 26 = true; decide +kernel) rfl ⟨rfl, rfl, rfl, rfl, rfl, rfl, rfl, rfl, rfl, rfl, rfl, rfl, rfl, rfl, rfl, rfl, rfl, rfl, rfl, rfl, rfl, rfl, rfl, rfl, trivial⟩ rfl rfl (by decide +kernel) ?_
      exact jT.mono (jYl_lg_81_6 hd h_e0 h_e1 h_e2 h_e3 h_e4 h_e5 (Nat.le_trans hp.2.2 (by decide)) (by rw [Int.zero_add] at hw; omega) h) (Nat.le_refl _) (by omega) (by omega) (fun _ _ _ z => z)
    · refine jT_xiload_n (v := (0, 5)) (pcN := 8) jIY_214_7 rfl rfl rfl ?_
      refine jT_xbipush (k := 6) (pcN := 10) jIY_214_8 (by decide) rfl ?_
      refine jT_xicF (t := 47) (pcN := 13) jIY_214_10 rfl (by decide +kernel) rfl rfl ?_
      refine jT_xaload_n (v := (4, 1)) (pcN := 14) jIY_214_13 rfl rfl rfl ?_
      refine jT_xiload_n (v := (0, 5)) (pcN := 15) jIY_214_14 rfl rfl rfl ?_
      refine jT_lald (x := e5) (a := 1) (j := 5) (fs := []) (X := [e0, e1, e2, e3, e4, e5]) jIY_214_15 rfl rfl rfl rfl ?_
      refine jT_eq (LN := [(3, (0, 5)), (2, (4, 23)), (0, (4, 0)), (1, (4, 1))]) (stN := [(1, e5)]) (hsN := [jzY_329, (101, [], [e0, e1, e2, e3, e4, e5]), jgh, jgh, jgh, jgh, jgh, (130, [], [17, 18, 19, 20, 21, 22]), jgh, jgh, jgh, jgh, jgh, jgh, jgh, jgh, jgh, (100, [], (jenc (jlg 0))), (100, [], (jenc (jlg 1))), (100, [], (jenc (jlg 2))), (100, [], (jenc (jlg 3))), (100, [], (jenc (jlg 4))), (100, [], (jenc (jlg 5))), (100, [], (jenc a))]) rfl rfl rfl ?_
      refine jT_xlconst (z := 0) (pcN := 17) jIY_214_16 rfl rfl ?_
      refine jT_lcmp (a := e5) (b := 0) (z := 1) (by rfl) (by rfl) (jwl_idd (by omega) (by omega)) (jwl_idd (by omega) (by omega)) (by rw [decide_eq_true (show (0 : Int) < e5 by omega)]; rfl) ?_
      refine jT_xifF (t := 41) (pcN := 21) jIY_214_18 rfl (by decide +kernel) rfl rfl ?_
      refine jT_xaload_n (v := (4, 23)) (pcN := 22) jIY_214_21 rfl rfl rfl ?_
      refine jT_xaload_n (v := (4, 1)) (pcN := 23) jIY_214_22 rfl rfl rfl ?_
      refine jT_xiload_n (v := (0, 5)) (pcN := 24) jIY_214_23 rfl rfl rfl ?_
      refine jT_lald (x := e5) (a := 1) (j := 5) (fs := []) (X := [e0, e1, e2, e3, e4, e5]) jIY_214_24 rfl rfl rfl rfl ?_
      refine jT_eq (LN := [(3, (0, 5)), (2, (4, 23)), (0, (4, 0)), (1, (4, 1))]) (stN := [(1, e5), (4, 23)]) (hsN := [jzY_329, (101, [], [e0, e1, e2, e3, e4, e5]), jgh, jgh, jgh, jgh, jgh, (130, [], [17, 18, 19, 20, 21, 22]), jgh, jgh, jgh, jgh, jgh, jgh, jgh, jgh, jgh, (100, [], (jenc (jlg 0))), (100, [], (jenc (jlg 1))), (100, [], (jenc (jlg 2))), (100, [], (jenc (jlg 3))), (100, [], (jenc (jlg 4))), (100, [], (jenc (jlg 5))), (100, [], (jenc a))]) rfl rfl rfl ?_
      refine jT_callA [] (y := 178) (pcN := 28) (dC := 1) (bc1 := 1) (bc2 := 56) (c1 := (b1 + 2)) (c2 := (b2 + 112)) (as := [(1, e5)]) (asC := [(1, e5)]) (LN := [(3, (0, 5)), (2, (4, 23)), (0, (4, 0)), (1, (4, 1))]) (stN := [(4, 23)]) (hsC := []) (ex := [(100, [], (jenc e5))]) (v := (4, 0)) (st2 := [(4, 24), (4, 23)]) (hs2 := [jzY_329, (101, [], [e0, e1, e2, e3, e4, e5]), jgh, jgh, jgh, jgh, jgh, (130, [], [17, 18, 19, 20, 21, 22]), jgh, jgh, jgh, jgh, jgh, jgh, jgh, jgh, jgh, (100, [], (jenc (jlg 0))), (100, [], (jenc (jlg 1))), (100, [], (jenc (jlg 2))), (100, [], (jenc (jlg 3))), (100, [], (jenc (jlg 4))), (100, [], (jenc (jlg 5))), (100, [], (jenc a)), (100, [], (jenc e5))]) (jT_big (d := 0) (v := e5) (by omega) (by omega)) (by rfl) (by rfl) (by rfl) (by rfl) trivial (by rfl) (by rfl) (by omega) (by show 23 ≤ 24; omega) (by omega) (by omega) rfl rfl ?_
      refine jT_xaload_n (v := (4, 0)) (pcN := 29) jIY_214_28 rfl rfl rfl ?_
      refine jT_xgetf (a := 0) (t := 1) (ci := 14) (fi := 8) (c := jzY_329) (v := (4, 7)) (pcN := 32) jIY_214_29 rfl rfl rfl rfl rfl rfl rfl ?_
      refine jT_xiload_n (v := (0, 5)) (pcN := 33) jIY_214_32 rfl rfl rfl ?_
      refine jT_aald (x := 22) (a := 7) (j := 5) (fs := []) (X := [17, 18, 19, 20, 21, 22]) (kd := 130) jIY_214_33 rfl rfl rfl rfl rfl ?_
      refine jT_eq (LN := [(3, (0, 5)), (2, (4, 23)), (0, (4, 0)), (1, (4, 1))]) (stN := [(4, 22), (4, 24), (4, 23)]) (hsN := [jzY_329, (101, [], [e0, e1, e2, e3, e4, e5]), jgh, jgh, jgh, jgh, jgh, (130, [], [17, 18, 19, 20, 21, 22]), jgh, jgh, jgh, jgh, jgh, jgh, jgh, jgh, jgh, (100, [], (jenc (jlg 0))), (100, [], (jenc (jlg 1))), (100, [], (jenc (jlg 2))), (100, [], (jenc (jlg 3))), (100, [], (jenc (jlg 4))), (100, [], (jenc (jlg 5))), (100, [], (jenc a)), (100, [], (jenc e5))]) rfl rfl rfl ?_
      refine jT_callA [24, 22] (y := 179) (pcN := 37) (dC := 1) (bc1 := 1) (bc2 := 56) (c1 := (b1 + 1)) (c2 := (b2 + 56)) (as := [(4, 24), (4, 22)]) (asC := [(4, 0), (4, 1)]) (LN := [(3, (0, 5)), (2, (4, 23)), (0, (4, 0)), (1, (4, 1))]) (stN := [(4, 23)]) (hsC := [(100, [], (jenc e5)), (100, [], (jenc (jlg 5)))]) (ex := [(100, [], (jenc (e5 * jlg 5)))]) (v := (4, 2)) (st2 := [(4, 25), (4, 23)]) (hs2 := [jzY_329, (101, [], [e0, e1, e2, e3, e4, e5]), jgh, jgh, jgh, jgh, jgh, (130, [], [17, 18, 19, 20, 21, 22]), jgh, jgh, jgh, jgh, jgh, jgh, jgh, jgh, jgh, (100, [], (jenc (jlg 0))), (100, [], (jenc (jlg 1))), (100, [], (jenc (jlg 2))), (100, [], (jenc (jlg 3))), (100, [], (jenc (jlg 4))), (100, [], (jenc (jlg 5))), (100, [], (jenc a)), (100, [], (jenc e5)), (100, [], (jenc (e5 * jlg 5)))]) (jT_product (d := 0) (a := e5) (b := jlg 5) (jb54 (by omega) (by omega)) hp.1) (by rfl) (by rfl) (by rfl) (by rfl) ⟨rfl, rfl, trivial⟩ (by rfl) (by rfl) (by omega) (by show 23 ≤ 25; omega) (by omega) (by omega) rfl rfl ?_
      refine jT_callA [23, 25] (y := 181) (pcN := 40) (dC := 1) (bc1 := 1) (bc2 := 56) (c1 := (b1 + 0)) (c2 := (b2 + 0)) (as := [(4, 23), (4, 25)]) (asC := [(4, 0), (4, 1)]) (LN := [(3, (0, 5)), (2, (4, 23)), (0, (4, 0)), (1, (4, 1))]) (stN := []) (hsC := [(100, [], (jenc a)), (100, [], (jenc (e5 * jlg 5)))]) (ex := [(100, [], (jenc (a + (e5 * jlg 5))))]) (v := (4, 2)) (st2 := [(4, 26)]) (hs2 := [jzY_329, (101, [], [e0, e1, e2, e3, e4, e5]), jgh, jgh, jgh, jgh, jgh, (130, [], [17, 18, 19, 20, 21, 22]), jgh, jgh, jgh, jgh, jgh, jgh, jgh, jgh, jgh, (100, [], (jenc (jlg 0))), (100, [], (jenc (jlg 1))), (100, [], (jenc (jlg 2))), (100, [], (jenc (jlg 3))), (100, [], (jenc (jlg 4))), (100, [], (jenc (jlg 5))), (100, [], (jenc a)), (100, [], (jenc e5)), (100, [], (jenc (e5 * jlg 5))), (100, [], (jenc (a + (e5 * jlg 5))))]) (jT_added (d := 0) (a := a) (b := e5 * jlg 5) ga hp.2.1 (jb54k ha (by decide)) hp.1 (jb54a ha hp.2.2 (by decide))) (by rfl) (by rfl) (by rfl) (by rfl) ⟨rfl, rfl, trivial⟩ (by rfl) (by rfl) (by omega) (by show 23 ≤ 26; omega) (by omega) (by omega) rfl rfl ?_
      refine jT_xastore_n (v := (4, 26)) (LN := [(2, (4, 26)), (3, (0, 5)), (0, (4, 0)), (1, (4, 1))]) (pcN := 41) jIY_214_40 rfl rfl rfl rfl ?_
      refine jT_xiinc (x := 5) (z := 6) (LN := [(3, (0, 6)), (2, (4, 26)), (0, (4, 0)), (1, (4, 1))]) (pcN := 44) jIY_214_41 rfl rfl (by decide) rfl rfl ?_
      refine jT_xgoto (pcN := 7) jIY_214_44 rfl ?_
      refine jT_loc (LN := [(3, (0, 6)), (2, (4, 26)), (0, (4, 0)), (1, (4, 1))]) (by show List.Nodup [3, 2, 0, 1]; decide) (by intro q hq; simp only [List.mem_cons, List.not_mem_nil, or_false] at hq; rcases hq with rfl | rfl | rfl | rfl <;> rfl) ?_
      refine jT_gc [0, 1, 2, 3, 4, 5, 6, 7, 8, 9, 10, 11, 12, 13, 14, 15, 16, 17, 18, 19, 20, 21, 22, 26] (hs0 := [jzY_329, (101, [], [e0, e1, e2, e3, e4, e5]), jgh, jgh, jgh, jgh, jgh, (130, [], [17, 18, 19, 20, 21, 22]), jgh, jgh, jgh, jgh, jgh, jgh, jgh, jgh, jgh, (100, [], (jenc (jlg 0))), (100, [], (jenc (jlg 1))), (100, [], (jenc (jlg 2))), (100, [], (jenc (jlg 3))), (100, [], (jenc (jlg 4))), (100, [], (jenc (jlg 5))), (100, [], jenc (a + (e5 * jlg 5)))]) (L0 := [(3, (0, 6)), (2, (4, 23)), (0, (4, 0)), (1, (4, 1))]) (st0 := []) (by show jgB [0, 1, 2, 3, 4, 5, 6, 7, 8, 9, 10, 11, 12, 13, 14, 15, 16, 17, 18, 19, 20, 21, 22, 26] 27 = true; decide +kernel) rfl ⟨rfl, rfl, rfl, rfl, rfl, rfl, rfl, rfl, rfl, rfl, rfl, rfl, rfl, rfl, rfl, rfl, rfl, rfl, rfl, rfl, rfl, rfl, rfl, rfl, trivial⟩ rfl rfl (by decide +kernel) ?_
      exact jT.mono (jYl_lg_81_6 hd h_e0 h_e1 h_e2 h_e3 h_e4 h_e5 (jb1c ha hp.2.2 (by decide)) (by omega) h) (Nat.le_refl _) (by omega) (by omega) (fun _ _ _ z => z)
theorem jYl_lg_81_4 {xs : List Int} {d b1 b2 : Nat} {Q : Nat → JV → List JC → Prop} (hd : 1 < d) {a w e0 e1 e2 e3 e4 e5 : Int} (h_e0 : -4611686018427387903 ≤ e0 ∧ e0 ≤ 4611686018427387903) (h_e1 : -4611686018427387903 ≤ e1 ∧ e1 ≤ 4611686018427387903) (h_e2 : -4611686018427387903 ≤ e2 ∧ e2 ≤ 4611686018427387903) (h_e3 : -4611686018427387903 ≤ e3 ∧ e3 ≤ 4611686018427387903) (h_e4 : -4611686018427387903 ≤ e4 ∧ e4 ≤ 4611686018427387903) (h_e5 : -4611686018427387903 ≤ e5 ∧ e5 ≤ 4611686018427387903) (ha : a.natAbs ≤ 4 * 10 ^ 220) (hw : a + (e4 * jlg 4 + (e5 * jlg 5)) = w) (h : jT xs d 214 23 47 [(2, (4, 23))] [] [jzY_329, (101, [], [e0, e1, e2, e3, e4, e5]), jgh, jgh, jgh, jgh, jgh, (130, [], [17, 18, 19, 20, 21, 22]), jgh, jgh, jgh, jgh, jgh, jgh, jgh, jgh, jgh, (100, [], (jenc (jlg 0))), (100, [], (jenc (jlg 1))), (100, [], (jenc (jlg 2))), (100, [], (jenc (jlg 3))), (100, [], (jenc (jlg 4))), (100, [], (jenc (jlg 5))), (100, [], jenc w)] b1 b2 Q) : jT xs d 214 23 7 [(3, (0, 4)), (2, (4, 23)), (0, (4, 0)), (1, (4, 1))] [] [jzY_329, (101, [], [e0, e1, e2, e3, e4, e5]), jgh, jgh, jgh, jgh, jgh, (130, [], [17, 18, 19, 20, 21, 22]), jgh, jgh, jgh, jgh, jgh, jgh, jgh, jgh, jgh, (100, [], (jenc (jlg 0))), (100, [], (jenc (jlg 1))), (100, [], (jenc (jlg 2))), (100, [], (jenc (jlg 3))), (100, [], (jenc (jlg 4))), (100, [], (jenc (jlg 5))), (100, [], jenc a)] (b1 + 6) (b2 + 336) Q := by
  rcases (show (e4 < 0) ∨ (e4 = 0) ∨ (0 < e4) by omega) with g_0 | g_0 | g_0
  · have hp := jlz_m (k := 4) (e := e4) (by decide) (by omega) (by omega)
    rcases (show (a = 0) ∨ (a ≠ 0) by omega) with ga | ga
    · subst ga
      refine jT_xiload_n (v := (0, 4)) (pcN := 8) jIY_214_7 rfl rfl rfl ?_
      refine jT_xbipush (k := 6) (pcN := 10) jIY_214_8 (by decide) rfl ?_
      refine jT_xicF (t := 47) (pcN := 13) jIY_214_10 rfl (by decide +kernel) rfl rfl ?_
      refine jT_xaload_n (v := (4, 1)) (pcN := 14) jIY_214_13 rfl rfl rfl ?_
      refine jT_xiload_n (v := (0, 4)) (pcN := 15) jIY_214_14 rfl rfl rfl ?_
      refine jT_lald (x := e4) (a := 1) (j := 4) (fs := []) (X := [e0, e1, e2, e3, e4, e5]) jIY_214_15 rfl rfl rfl rfl ?_
      refine jT_eq (LN := [(3, (0, 4)), (2, (4, 23)), (0, (4, 0)), (1, (4, 1))]) (stN := [(1, e4)]) (hsN := [jzY_329, (101, [], [e0, e1, e2, e3, e4, e5]), jgh, jgh, jgh, jgh, jgh, (130, [], [17, 18, 19, 20, 21, 22]), jgh, jgh, jgh, jgh, jgh, jgh, jgh, jgh, jgh, (100, [], (jenc (jlg 0))), (100, [], (jenc (jlg 1))), (100, [], (jenc (jlg 2))), (100, [], (jenc (jlg 3))), (100, [], (jenc (jlg 4))), (100, [], (jenc (jlg 5))), (100, [], (jenc 0))]) rfl rfl rfl ?_
      refine jT_xlconst (z := 0) (pcN := 17) jIY_214_16 rfl rfl ?_
      refine jT_lcmp (a := e4) (b := 0) (z := (-1)) (by rfl) (by rfl) (jwl_idd (by omega) (by omega)) (jwl_idd (by omega) (by omega)) (by rw [decide_eq_false (show ¬ ((0 : Int) < e4) by omega), decide_eq_false (show ¬ ((e4 : Int) = 0) by omega)]; rfl) ?_
      refine jT_xifF (t := 41) (pcN := 21) jIY_214_18 rfl (by decide +kernel) rfl rfl ?_
      refine jT_xaload_n (v := (4, 23)) (pcN := 22) jIY_214_21 rfl rfl rfl ?_
      refine jT_xaload_n (v := (4, 1)) (pcN := 23) jIY_214_22 rfl rfl rfl ?_
      refine jT_xiload_n (v := (0, 4)) (pcN := 24) jIY_214_23 rfl rfl rfl ?_
      refine jT_lald (x := e4) (a := 1) (j := 4) (fs := []) (X := [e0, e1, e2, e3, e4, e5]) jIY_214_24 rfl rfl rfl rfl ?_
      refine jT_eq (LN := [(3, (0, 4)), (2, (4, 23)), (0, (4, 0)), (1, (4, 1))]) (stN := [(1, e4), (4, 23)]) (hsN := [jzY_329, (101, [], [e0, e1, e2, e3, e4, e5]), jgh, jgh, jgh, jgh, jgh, (130, [], [17, 18, 19, 20, 21, 22]), jgh, jgh, jgh, jgh, jgh, jgh, jgh, jgh, jgh, (100, [], (jenc (jlg 0))), (100, [], (jenc (jlg 1))), (100, [], (jenc (jlg 2))), (100, [], (jenc (jlg 3))), (100, [], (jenc (jlg 4))), (100, [], (jenc (jlg 5))), (100, [], (jenc 0))]) rfl rfl rfl ?_
      refine jT_callA [] (y := 178) (pcN := 28) (dC := 1) (bc1 := 1) (bc2 := 56) (c1 := (b1 + 5)) (c2 := (b2 + 280)) (as := [(1, e4)]) (asC := [(1, e4)]) (LN := [(3, (0, 4)), (2, (4, 23)), (0, (4, 0)), (1, (4, 1))]) (stN := [(4, 23)]) (hsC := []) (ex := [(100, [], (jenc e4))]) (v := (4, 0)) (st2 := [(4, 24), (4, 23)]) (hs2 := [jzY_329, (101, [], [e0, e1, e2, e3, e4, e5]), jgh, jgh, jgh, jgh, jgh, (130, [], [17, 18, 19, 20, 21, 22]), jgh, jgh, jgh, jgh, jgh, jgh, jgh, jgh, jgh, (100, [], (jenc (jlg 0))), (100, [], (jenc (jlg 1))), (100, [], (jenc (jlg 2))), (100, [], (jenc (jlg 3))), (100, [], (jenc (jlg 4))), (100, [], (jenc (jlg 5))), (100, [], (jenc 0)), (100, [], (jenc e4))]) (jT_big (d := 0) (v := e4) (by omega) (by omega)) (by rfl) (by rfl) (by rfl) (by rfl) trivial (by rfl) (by rfl) (by omega) (by show 23 ≤ 24; omega) (by omega) (by omega) rfl rfl ?_
      refine jT_xaload_n (v := (4, 0)) (pcN := 29) jIY_214_28 rfl rfl rfl ?_
      refine jT_xgetf (a := 0) (t := 1) (ci := 14) (fi := 8) (c := jzY_329) (v := (4, 7)) (pcN := 32) jIY_214_29 rfl rfl rfl rfl rfl rfl rfl ?_
      refine jT_xiload_n (v := (0, 4)) (pcN := 33) jIY_214_32 rfl rfl rfl ?_
      refine jT_aald (x := 21) (a := 7) (j := 4) (fs := []) (X := [17, 18, 19, 20, 21, 22]) (kd := 130) jIY_214_33 rfl rfl rfl rfl rfl ?_
      refine jT_eq (LN := [(3, (0, 4)), (2, (4, 23)), (0, (4, 0)), (1, (4, 1))]) (stN := [(4, 21), (4, 24), (4, 23)]) (hsN := [jzY_329, (101, [], [e0, e1, e2, e3, e4, e5]), jgh, jgh, jgh, jgh, jgh, (130, [], [17, 18, 19, 20, 21, 22]), jgh, jgh, jgh, jgh, jgh, jgh, jgh, jgh, jgh, (100, [], (jenc (jlg 0))), (100, [], (jenc (jlg 1))), (100, [], (jenc (jlg 2))), (100, [], (jenc (jlg 3))), (100, [], (jenc (jlg 4))), (100, [], (jenc (jlg 5))), (100, [], (jenc 0)), (100, [], (jenc e4))]) rfl rfl rfl ?_
      refine jT_callA [24, 21] (y := 179) (pcN := 37) (dC := 1) (bc1 := 1) (bc2 := 56) (c1 := (b1 + 4)) (c2 := (b2 + 224)) (as := [(4, 24), (4, 21)]) (asC := [(4, 0), (4, 1)]) (LN := [(3, (0, 4)), (2, (4, 23)), (0, (4, 0)), (1, (4, 1))]) (stN := [(4, 23)]) (hsC := [(100, [], (jenc e4)), (100, [], (jenc (jlg 4)))]) (ex := [(100, [], (jenc (e4 * jlg 4)))]) (v := (4, 2)) (st2 := [(4, 25), (4, 23)]) (hs2 := [jzY_329, (101, [], [e0, e1, e2, e3, e4, e5]), jgh, jgh, jgh, jgh, jgh, (130, [], [17, 18, 19, 20, 21, 22]), jgh, jgh, jgh, jgh, jgh, jgh, jgh, jgh, jgh, (100, [], (jenc (jlg 0))), (100, [], (jenc (jlg 1))), (100, [], (jenc (jlg 2))), (100, [], (jenc (jlg 3))), (100, [], (jenc (jlg 4))), (100, [], (jenc (jlg 5))), (100, [], (jenc 0)), (100, [], (jenc e4)), (100, [], (jenc (e4 * jlg 4)))]) (jT_product (d := 0) (a := e4) (b := jlg 4) (jb54 (by omega) (by omega)) hp.1) (by rfl) (by rfl) (by rfl) (by rfl) ⟨rfl, rfl, trivial⟩ (by rfl) (by rfl) (by omega) (by show 23 ≤ 25; omega) (by omega) (by omega) rfl rfl ?_
      refine jT_callA [23, 25] (y := 181) (pcN := 40) (dC := 0) (bc1 := 0) (bc2 := 0) (c1 := (b1 + 4)) (c2 := (b2 + 224)) (as := [(4, 23), (4, 25)]) (asC := [(4, 0), (4, 1)]) (LN := [(3, (0, 4)), (2, (4, 23)), (0, (4, 0)), (1, (4, 1))]) (stN := []) (hsC := [(100, [], (jenc 0)), (100, [], (jenc (e4 * jlg 4)))]) (ex := []) (v := (4, 1)) (st2 := [(4, 25)]) (hs2 := [jzY_329, (101, [], [e0, e1, e2, e3, e4, e5]), jgh, jgh, jgh, jgh, jgh, (130, [], [17, 18, 19, 20, 21, 22]), jgh, jgh, jgh, jgh, jgh, jgh, jgh, jgh, jgh, (100, [], (jenc (jlg 0))), (100, [], (jenc (jlg 1))), (100, [], (jenc (jlg 2))), (100, [], (jenc (jlg 3))), (100, [], (jenc (jlg 4))), (100, [], (jenc (jlg 5))), (100, [], (jenc 0)), (100, [], (jenc e4)), (100, [], (jenc (e4 * jlg 4)))]) (jT_added_0l (d := 0) (b := e4 * jlg 4)) (by rfl) (by rfl) (by rfl) (by rfl) ⟨rfl, rfl, trivial⟩ (by rfl) (by rfl) (by omega) (by show 23 ≤ 26; omega) (by omega) (by omega) rfl rfl ?_
      refine jT_xastore_n (v := (4, 25)) (LN := [(2, (4, 25)), (3, (0, 4)), (0, (4, 0)), (1, (4, 1))]) (pcN := 41) jIY_214_40 rfl rfl rfl rfl ?_
      refine jT_xiinc (x := 4) (z := 5) (LN := [(3, (0, 5)), (2, (4, 25)), (0, (4, 0)), (1, (4, 1))]) (pcN := 44) jIY_214_41 rfl rfl (by decide) rfl rfl ?_
      refine jT_xgoto (pcN := 7) jIY_214_44 rfl ?_
      refine jT_loc (LN := [(3, (0, 5)), (2, (4, 25)), (0, (4, 0)), (1, (4, 1))]) (by show List.Nodup [3, 2, 0, 1]; decide) (by intro q hq; simp only [List.mem_cons, List.not_mem_nil, or_false] at hq; rcases hq with rfl | rfl | rfl | rfl <;> rfl) ?_
      refine jT_gc [0, 1, 2, 3, 4, 5, 6, 7, 8, 9, 10, 11, 12, 13, 14, 15, 16, 17, 18, 19, 20, 21, 22, 25] (hs0 := [jzY_329, (101, [], [e0, e1, e2, e3, e4, e5]), jgh, jgh, jgh, jgh, jgh, (130, [], [17, 18, 19, 20, 21, 22]), jgh, jgh, jgh, jgh, jgh, jgh, jgh, jgh, jgh, (100, [], (jenc (jlg 0))), (100, [], (jenc (jlg 1))), (100, [], (jenc (jlg 2))), (100, [], (jenc (jlg 3))), (100, [], (jenc (jlg 4))), (100, [], (jenc (jlg 5))), (100, [], jenc (e4 * jlg 4))]) (L0 := [(3, (0, 5)), (2, (4, 23)), (0, (4, 0)), (1, (4, 1))]) (st0 := []) (by show jgB [0, 1, 2, 3, 4, 5, 6, 7, 8, 9, 10, 11, 12, 13, 14, 15, 16, 17, 18, 19, 20, 21, 22, 25] 26 = true; decide +kernel) rfl ⟨rfl, rfl, rfl, rfl, rfl, rfl, rfl, rfl, rfl, rfl, rfl, rfl, rfl, rfl, rfl, rfl, rfl, rfl, rfl, rfl, rfl, rfl, rfl, rfl, trivial⟩ rfl rfl (by decide +kernel) ?_
      exact jT.mono (jYl_lg_81_5 hd h_e0 h_e1 h_e2 h_e3 h_e4 h_e5 (Nat.le_trans hp.2.2 (by decide)) (by rw [Int.zero_add] at hw; exact hw) h) (Nat.le_refl _) (by omega) (by omega) (fun _ _ _ z => z)
    · refine jT_xiload_n (v := (0, 4)) (pcN := 8) jIY_214_7 rfl rfl rfl ?_
      refine jT_xbipush (k := 6) (pcN := 10) jIY_214_8 (by decide) rfl ?_
      refine jT_xicF (t := 47) (pcN := 13) jIY_214_10 rfl (by decide +kernel) rfl rfl ?_
      refine jT_xaload_n (v := (4, 1)) (pcN := 14) jIY_214_13 rfl rfl rfl ?_
      refine jT_xiload_n (v := (0, 4)) (pcN := 15) jIY_214_14 rfl rfl rfl ?_
      refine jT_lald (x := e4) (a := 1) (j := 4) (fs := []) (X := [e0, e1, e2, e3, e4, e5]) jIY_214_15 rfl rfl rfl rfl ?_
      refine jT_eq (LN := [(3, (0, 4)), (2, (4, 23)), (0, (4, 0)), (1, (4, 1))]) (stN := [(1, e4)]) (hsN := [jzY_329, (101, [], [e0, e1, e2, e3, e4, e5]), jgh, jgh, jgh, jgh, jgh, (130, [], [17, 18, 19, 20, 21, 22]), jgh, jgh, jgh, jgh, jgh, jgh, jgh, jgh, jgh, (100, [], (jenc (jlg 0))), (100, [], (jenc (jlg 1))), (100, [], (jenc (jlg 2))), (100, [], (jenc (jlg 3))), (100, [], (jenc (jlg 4))), (100, [], (jenc (jlg 5))), (100, [], (jenc a))]) rfl rfl rfl ?_
      refine jT_xlconst (z := 0) (pcN := 17) jIY_214_16 rfl rfl ?_
      refine jT_lcmp (a := e4) (b := 0) (z := (-1)) (by rfl) (by rfl) (jwl_idd (by omega) (by omega)) (jwl_idd (by omega) (by omega)) (by rw [decide_eq_false (show ¬ ((0 : Int) < e4) by omega), decide_eq_false (show ¬ ((e4 : Int) = 0) by omega)]; rfl) ?_
      refine jT_xifF (t := 41) (pcN := 21) jIY_214_18 rfl (by decide +kernel) rfl rfl ?_
      refine jT_xaload_n (v := (4, 23)) (pcN := 22) jIY_214_21 rfl rfl rfl ?_
      refine jT_xaload_n (v := (4, 1)) (pcN := 23) jIY_214_22 rfl rfl rfl ?_
      refine jT_xiload_n (v := (0, 4)) (pcN := 24) jIY_214_23 rfl rfl rfl ?_
      refine jT_lald (x := e4) (a := 1) (j := 4) (fs := []) (X := [e0, e1, e2, e3, e4, e5]) jIY_214_24 rfl rfl rfl rfl ?_
      refine jT_eq (LN := [(3, (0, 4)), (2, (4, 23)), (0, (4, 0)), (1, (4, 1))]) (stN := [(1, e4), (4, 23)]) (hsN := [jzY_329, (101, [], [e0, e1, e2, e3, e4, e5]), jgh, jgh, jgh, jgh, jgh, (130, [], [17, 18, 19, 20, 21, 22]), jgh, jgh, jgh, jgh, jgh, jgh, jgh, jgh, jgh, (100, [], (jenc (jlg 0))), (100, [], (jenc (jlg 1))), (100, [], (jenc (jlg 2))), (100, [], (jenc (jlg 3))), (100, [], (jenc (jlg 4))), (100, [], (jenc (jlg 5))), (100, [], (jenc a))]) rfl rfl rfl ?_
      refine jT_callA [] (y := 178) (pcN := 28) (dC := 1) (bc1 := 1) (bc2 := 56) (c1 := (b1 + 5)) (c2 := (b2 + 280)) (as := [(1, e4)]) (asC := [(1, e4)]) (LN := [(3, (0, 4)), (2, (4, 23)), (0, (4, 0)), (1, (4, 1))]) (stN := [(4, 23)]) (hsC := []) (ex := [(100, [], (jenc e4))]) (v := (4, 0)) (st2 := [(4, 24), (4, 23)]) (hs2 := [jzY_329, (101, [], [e0, e1, e2, e3, e4, e5]), jgh, jgh, jgh, jgh, jgh, (130, [], [17, 18, 19, 20, 21, 22]), jgh, jgh, jgh, jgh, jgh, jgh, jgh, jgh, jgh, (100, [], (jenc (jlg 0))), (100, [], (jenc (jlg 1))), (100, [], (jenc (jlg 2))), (100, [], (jenc (jlg 3))), (100, [], (jenc (jlg 4))), (100, [], (jenc (jlg 5))), (100, [], (jenc a)), (100, [], (jenc e4))]) (jT_big (d := 0) (v := e4) (by omega) (by omega)) (by rfl) (by rfl) (by rfl) (by rfl) trivial (by rfl) (by rfl) (by omega) (by show 23 ≤ 24; omega) (by omega) (by omega) rfl rfl ?_
      refine jT_xaload_n (v := (4, 0)) (pcN := 29) jIY_214_28 rfl rfl rfl ?_
      refine jT_xgetf (a := 0) (t := 1) (ci := 14) (fi := 8) (c := jzY_329) (v := (4, 7)) (pcN := 32) jIY_214_29 rfl rfl rfl rfl rfl rfl rfl ?_
      refine jT_xiload_n (v := (0, 4)) (pcN := 33) jIY_214_32 rfl rfl rfl ?_
      refine jT_aald (x := 21) (a := 7) (j := 4) (fs := []) (X := [17, 18, 19, 20, 21, 22]) (kd := 130) jIY_214_33 rfl rfl rfl rfl rfl ?_
      refine jT_eq (LN := [(3, (0, 4)), (2, (4, 23)), (0, (4, 0)), (1, (4, 1))]) (stN := [(4, 21), (4, 24), (4, 23)]) (hsN := [jzY_329, (101, [], [e0, e1, e2, e3, e4, e5]), jgh, jgh, jgh, jgh, jgh, (130, [], [17, 18, 19, 20, 21, 22]), jgh, jgh, jgh, jgh, jgh, jgh, jgh, jgh, jgh, (100, [], (jenc (jlg 0))), (100, [], (jenc (jlg 1))), (100, [], (jenc (jlg 2))), (100, [], (jenc (jlg 3))), (100, [], (jenc (jlg 4))), (100, [], (jenc (jlg 5))), (100, [], (jenc a)), (100, [], (jenc e4))]) rfl rfl rfl ?_
      refine jT_callA [24, 21] (y := 179) (pcN := 37) (dC := 1) (bc1 := 1) (bc2 := 56) (c1 := (b1 + 4)) (c2 := (b2 + 224)) (as := [(4, 24), (4, 21)]) (asC := [(4, 0), (4, 1)]) (LN := [(3, (0, 4)), (2, (4, 23)), (0, (4, 0)), (1, (4, 1))]) (stN := [(4, 23)]) (hsC := [(100, [], (jenc e4)), (100, [], (jenc (jlg 4)))]) (ex := [(100, [], (jenc (e4 * jlg 4)))]) (v := (4, 2)) (st2 := [(4, 25), (4, 23)]) (hs2 := [jzY_329, (101, [], [e0, e1, e2, e3, e4, e5]), jgh, jgh, jgh, jgh, jgh, (130, [], [17, 18, 19, 20, 21, 22]), jgh, jgh, jgh, jgh, jgh, jgh, jgh, jgh, jgh, (100, [], (jenc (jlg 0))), (100, [], (jenc (jlg 1))), (100, [], (jenc (jlg 2))), (100, [], (jenc (jlg 3))), (100, [], (jenc (jlg 4))), (100, [], (jenc (jlg 5))), (100, [], (jenc a)), (100, [], (jenc e4)), (100, [], (jenc (e4 * jlg 4)))]) (jT_product (d := 0) (a := e4) (b := jlg 4) (jb54 (by omega) (by omega)) hp.1) (by rfl) (by rfl) (by rfl) (by rfl) ⟨rfl, rfl, trivial⟩ (by rfl) (by rfl) (by omega) (by show 23 ≤ 25; omega) (by omega) (by omega) rfl rfl ?_
      refine jT_callA [23, 25] (y := 181) (pcN := 40) (dC := 1) (bc1 := 1) (bc2 := 56) (c1 := (b1 + 3)) (c2 := (b2 + 168)) (as := [(4, 23), (4, 25)]) (asC := [(4, 0), (4, 1)]) (LN := [(3, (0, 4)), (2, (4, 23)), (0, (4, 0)), (1, (4, 1))]) (stN := []) (hsC := [(100, [], (jenc a)), (100, [], (jenc (e4 * jlg 4)))]) (ex := [(100, [], (jenc (a + (e4 * jlg 4))))]) (v := (4, 2)) (st2 := [(4, 26)]) (hs2 := [jzY_329, (101, [], [e0, e1, e2, e3, e4, e5]), jgh, jgh, jgh, jgh, jgh, (130, [], [17, 18, 19, 20, 21, 22]), jgh, jgh, jgh, jgh, jgh, jgh, jgh, jgh, jgh, (100, [], (jenc (jlg 0))), (100, [], (jenc (jlg 1))), (100, [], (jenc (jlg 2))), (100, [], (jenc (jlg 3))), (100, [], (jenc (jlg 4))), (100, [], (jenc (jlg 5))), (100, [], (jenc a)), (100, [], (jenc e4)), (100, [], (jenc (e4 * jlg 4))), (100, [], (jenc (a + (e4 * jlg 4))))]) (jT_added (d := 0) (a := a) (b := e4 * jlg 4) ga hp.2.1 (jb54k ha (by decide)) hp.1 (jb54a ha hp.2.2 (by decide))) (by rfl) (by rfl) (by rfl) (by rfl) ⟨rfl, rfl, trivial⟩ (by rfl) (by rfl) (by omega) (by show 23 ≤ 26; omega) (by omega) (by omega) rfl rfl ?_
      refine jT_xastore_n (v := (4, 26)) (LN := [(2, (4, 26)), (3, (0, 4)), (0, (4, 0)), (1, (4, 1))]) (pcN := 41) jIY_214_40 rfl rfl rfl rfl ?_
      refine jT_xiinc (x := 4) (z := 5) (LN := [(3, (0, 5)), (2, (4, 26)), (0, (4, 0)), (1, (4, 1))]) (pcN := 44) jIY_214_41 rfl rfl (by decide) rfl rfl ?_
      refine jT_xgoto (pcN := 7) jIY_214_44 rfl ?_
      refine jT_loc (LN := [(3, (0, 5)), (2, (4, 26)), (0, (4, 0)), (1, (4, 1))]) (by show List.Nodup [3, 2, 0, 1]; decide) (by intro q hq; simp only [List.mem_cons, List.not_mem_nil, or_false] at hq; rcases hq with rfl | rfl | rfl | rfl <;> rfl) ?_
      refine jT_gc [0, 1, 2, 3, 4, 5, 6, 7, 8, 9, 10, 11, 12, 13, 14, 15, 16, 17, 18, 19, 20, 21, 22, 26] (hs0 := [jzY_329, (101, [], [e0, e1, e2, e3, e4, e5]), jgh, jgh, jgh, jgh, jgh, (130, [], [17, 18, 19, 20, 21, 22]), jgh, jgh, jgh, jgh, jgh, jgh, jgh, jgh, jgh, (100, [], (jenc (jlg 0))), (100, [], (jenc (jlg 1))), (100, [], (jenc (jlg 2))), (100, [], (jenc (jlg 3))), (100, [], (jenc (jlg 4))), (100, [], (jenc (jlg 5))), (100, [], jenc (a + (e4 * jlg 4)))]) (L0 := [(3, (0, 5)), (2, (4, 23)), (0, (4, 0)), (1, (4, 1))]) (st0 := []) (by show jgB [0, 1, 2, 3, 4, 5, 6, 7, 8, 9, 10, 11, 12, 13, 14, 15, 16, 17, 18, 19, 20, 21, 22, 26] 27 = true; decide +kernel) rfl ⟨rfl, rfl, rfl, rfl, rfl, rfl, rfl, rfl, rfl, rfl, rfl, rfl, rfl, rfl, rfl, rfl, rfl, rfl, rfl, rfl, rfl, rfl, rfl, rfl, trivial⟩ rfl rfl (by decide +kernel) ?_
      exact jT.mono (jYl_lg_81_5 hd h_e0 h_e1 h_e2 h_e3 h_e4 h_e5 (jb1c ha hp.2.2 (by decide)) (by rw [← Int.add_assoc] at hw; exact hw) h) (Nat.le_refl _) (by omega) (by omega) (fun _ _ _ z => z)
  · refine jT_xiload_n (v := (0, 4)) (pcN := 8) jIY_214_7 rfl rfl rfl ?_
    refine jT_xbipush (k := 6) (pcN := 10) jIY_214_8 (by decide) rfl ?_
    refine jT_xicF (t := 47) (pcN := 13) jIY_214_10 rfl (by decide +kernel) rfl rfl ?_
    refine jT_xaload_n (v := (4, 1)) (pcN := 14) jIY_214_13 rfl rfl rfl ?_
    refine jT_xiload_n (v := (0, 4)) (pcN := 15) jIY_214_14 rfl rfl rfl ?_
    refine jT_lald (x := e4) (a := 1) (j := 4) (fs := []) (X := [e0, e1, e2, e3, e4, e5]) jIY_214_15 rfl rfl rfl rfl ?_
    refine jT_eq (LN := [(3, (0, 4)), (2, (4, 23)), (0, (4, 0)), (1, (4, 1))]) (stN := [(1, e4)]) (hsN := [jzY_329, (101, [], [e0, e1, e2, e3, e4, e5]), jgh, jgh, jgh, jgh, jgh, (130, [], [17, 18, 19, 20, 21, 22]), jgh, jgh, jgh, jgh, jgh, jgh, jgh, jgh, jgh, (100, [], (jenc (jlg 0))), (100, [], (jenc (jlg 1))), (100, [], (jenc (jlg 2))), (100, [], (jenc (jlg 3))), (100, [], (jenc (jlg 4))), (100, [], (jenc (jlg 5))), (100, [], (jenc a))]) rfl rfl rfl ?_
    refine jT_xlconst (z := 0) (pcN := 17) jIY_214_16 rfl rfl ?_
    refine jT_lcmp (a := e4) (b := 0) (z := 0) (by rfl) (by rfl) (jwl_idd (by omega) (by omega)) (jwl_idd (by omega) (by omega)) (by rw [decide_eq_false (show ¬ ((0 : Int) < e4) by omega), decide_eq_true (show (e4 : Int) = 0 by omega)]; rfl) ?_
    refine jT_xifT (pcN := 41) jIY_214_18 rfl (by decide +kernel) rfl ?_
    refine jT_xiinc (x := 4) (z := 5) (LN := [(3, (0, 5)), (2, (4, 23)), (0, (4, 0)), (1, (4, 1))]) (pcN := 44) jIY_214_41 rfl rfl (by decide) rfl rfl ?_
    refine jT_xgoto (pcN := 7) jIY_214_44 rfl ?_
    refine jT_loc (LN := [(3, (0, 5)), (2, (4, 23)), (0, (4, 0)), (1, (4, 1))]) (by show List.Nodup [3, 2, 0, 1]; decide) (by intro q hq; simp only [List.mem_cons, List.not_mem_nil, or_false] at hq; rcases hq with rfl | rfl | rfl | rfl <;> rfl) ?_
    exact jT.mono (jYl_lg_81_5 hd h_e0 h_e1 h_e2 h_e3 h_e4 h_e5 (by omega) (by rw [g_0, Int.zero_mul] at hw; omega) h) (Nat.le_refl _) (by omega) (by omega) (fun _ _ _ z => z)
  · have hp := jlz_m (k := 4) (e := e4) (by decide) (by omega) (by omega)
    rcases (show (a = 0) ∨ (a ≠ 0) by omega) with ga | ga
    · subst ga
      refine jT_xiload_n (v := (0, 4)) (pcN := 8) jIY_214_7 rfl rfl rfl ?_
      refine jT_xbipush (k := 6) (pcN := 10) jIY_214_8 (by decide) rfl ?_
      refine jT_xicF (t := 47) (pcN := 13) jIY_214_10 rfl (by decide +kernel) rfl rfl ?_
      refine jT_xaload_n (v := (4, 1)) (pcN := 14) jIY_214_13 rfl rfl rfl ?_
      refine jT_xiload_n (v := (0, 4)) (pcN := 15) jIY_214_14 rfl rfl rfl ?_
      refine jT_lald (x := e4) (a := 1) (j := 4) (fs := []) (X := [e0, e1, e2, e3, e4, e5]) jIY_214_15 rfl rfl rfl rfl ?_
      refine jT_eq (LN := [(3, (0, 4)), (2, (4, 23)), (0, (4, 0)), (1, (4, 1))]) (stN := [(1, e4)]) (hsN := [jzY_329, (101, [], [e0, e1, e2, e3, e4, e5]), jgh, jgh, jgh, jgh, jgh, (130, [], [17, 18, 19, 20, 21, 22]), jgh, jgh, jgh, jgh, jgh, jgh, jgh, jgh, jgh, (100, [], (jenc (jlg 0))), (100, [], (jenc (jlg 1))), (100, [], (jenc (jlg 2))), (100, [], (jenc (jlg 3))), (100, [], (jenc (jlg 4))), (100, [], (jenc (jlg 5))), (100, [], (jenc 0))]) rfl rfl rfl ?_
      refine jT_xlconst (z := 0) (pcN := 17) jIY_214_16 rfl rfl ?_
      refine jT_lcmp (a := e4) (b := 0) (z := 1) (by rfl) (by rfl) (jwl_idd (by omega) (by omega)) (jwl_idd (by omega) (by omega)) (by rw [decide_eq_true (show (0 : Int) < e4 by omega)]; rfl) ?_
      refine jT_xifF (t := 41) (pcN := 21) jIY_214_18 rfl (by decide +kernel) rfl rfl ?_
      refine jT_xaload_n (v := (4, 23)) (pcN := 22) jIY_214_21 rfl rfl rfl ?_
      refine jT_xaload_n (v := (4, 1)) (pcN := 23) jIY_214_22 rfl rfl rfl ?_
      refine jT_xiload_n (v := (0, 4)) (pcN := 24) jIY_214_23 rfl rfl rfl ?_
      refine jT_lald (x := e4) (a := 1) (j := 4) (fs := []) (X := [e0, e1, e2, e3, e4, e5]) jIY_214_24 rfl rfl rfl rfl ?_
      refine jT_eq (LN := [(3, (0, 4)), (2, (4, 23)), (0, (4, 0)), (1, (4, 1))]) (stN := [(1, e4), (4, 23)]) (hsN := [jzY_329, (101, [], [e0, e1, e2, e3, e4, e5]), jgh, jgh, jgh, jgh, jgh, (130, [], [17, 18, 19, 20, 21, 22]), jgh, jgh, jgh, jgh, jgh, jgh, jgh, jgh, jgh, (100, [], (jenc (jlg 0))), (100, [], (jenc (jlg 1))), (100, [], (jenc (jlg 2))), (100, [], (jenc (jlg 3))), (100, [], (jenc (jlg 4))), (100, [], (jenc (jlg 5))), (100, [], (jenc 0))]) rfl rfl rfl ?_
      refine jT_callA [] (y := 178) (pcN := 28) (dC := 1) (bc1 := 1) (bc2 := 56) (c1 := (b1 + 5)) (c2 := (b2 + 280)) (as := [(1, e4)]) (asC := [(1, e4)]) (LN := [(3, (0, 4)), (2, (4, 23)), (0, (4, 0)), (1, (4, 1))]) (stN := [(4, 23)]) (hsC := []) (ex := [(100, [], (jenc e4))]) (v := (4, 0)) (st2 := [(4, 24), (4, 23)]) (hs2 := [jzY_329, (101, [], [e0, e1, e2, e3, e4, e5]), jgh, jgh, jgh, jgh, jgh, (130, [], [17, 18, 19, 20, 21, 22]), jgh, jgh, jgh, jgh, jgh, jgh, jgh, jgh, jgh, (100, [], (jenc (jlg 0))), (100, [], (jenc (jlg 1))), (100, [], (jenc (jlg 2))), (100, [], (jenc (jlg 3))), (100, [], (jenc (jlg 4))), (100, [], (jenc (jlg 5))), (100, [], (jenc 0)), (100, [], (jenc e4))]) (jT_big (d := 0) (v := e4) (by omega) (by omega)) (by rfl) (by rfl) (by rfl) (by rfl) trivial (by rfl) (by rfl) (by omega) (by show 23 ≤ 24; omega) (by omega) (by omega) rfl rfl ?_
      refine jT_xaload_n (v := (4, 0)) (pcN := 29) jIY_214_28 rfl rfl rfl ?_
      refine jT_xgetf (a := 0) (t := 1) (ci := 14) (fi := 8) (c := jzY_329) (v := (4, 7)) (pcN := 32) jIY_214_29 rfl rfl rfl rfl rfl rfl rfl ?_
      refine jT_xiload_n (v := (0, 4)) (pcN := 33) jIY_214_32 rfl rfl rfl ?_
      refine jT_aald (x := 21) (a := 7) (j := 4) (fs := []) (X := [17, 18, 19, 20, 21, 22]) (kd := 130) jIY_214_33 rfl rfl rfl rfl rfl ?_
      refine jT_eq (LN := [(3, (0, 4)), (2, (4, 23)), (0, (4, 0)), (1, (4, 1))]) (stN := [(4, 21), (4, 24), (4, 23)]) (hsN := [jzY_329, (101, [], [e0, e1, e2, e3, e4, e5]), jgh, jgh, jgh, jgh, jgh, (130, [], [17, 18, 19, 20, 21, 22]), jgh, jgh, jgh, jgh, jgh, jgh, jgh, jgh, jgh, (100, [], (jenc (jlg 0))), (100, [], (jenc (jlg 1))), (100, [], (jenc (jlg 2))), (100, [], (jenc (jlg 3))), (100, [], (jenc (jlg 4))), (100, [], (jenc (jlg 5))), (100, [], (jenc 0)), (100, [], (jenc e4))]) rfl rfl rfl ?_
      refine jT_callA [24, 21] (y := 179) (pcN := 37) (dC := 1) (bc1 := 1) (bc2 := 56) (c1 := (b1 + 4)) (c2 := (b2 + 224)) (as := [(4, 24), (4, 21)]) (asC := [(4, 0), (4, 1)]) (LN := [(3, (0, 4)), (2, (4, 23)), (0, (4, 0)), (1, (4, 1))]) (stN := [(4, 23)]) (hsC := [(100, [], (jenc e4)), (100, [], (jenc (jlg 4)))]) (ex := [(100, [], (jenc (e4 * jlg 4)))]) (v := (4, 2)) (st2 := [(4, 25), (4, 23)]) (hs2 := [jzY_329, (101, [], [e0, e1, e2, e3, e4, e5]), jgh, jgh, jgh, jgh, jgh, (130, [], [17, 18, 19, 20, 21, 22]), jgh, jgh, jgh, jgh, jgh, jgh, jgh, jgh, jgh, (100, [], (jenc (jlg 0))), (100, [], (jenc (jlg 1))), (100, [], (jenc (jlg 2))), (100, [], (jenc (jlg 3))), (100, [], (jenc (jlg 4))), (100, [], (jenc (jlg 5))), (100, [], (jenc 0)), (100, [], (jenc e4)), (100, [], (jenc (e4 * jlg 4)))]) (jT_product (d := 0) (a := e4) (b := jlg 4) (jb54 (by omega) (by omega)) hp.1) (by rfl) (by rfl) (by rfl) (by rfl) ⟨rfl, rfl, trivial⟩ (by rfl) (by rfl) (by omega) (by show 23 ≤ 25; omega) (by omega) (by omega) rfl rfl ?_
      refine jT_callA [23, 25] (y := 181) (pcN := 40) (dC := 0) (bc1 := 0) (bc2 := 0) (c1 := (b1 + 4)) (c2 := (b2 + 224)) (as := [(4, 23), (4, 25)]) (asC := [(4, 0), (4, 1)]) (LN := [(3, (0, 4)), (2, (4, 23)), (0, (4, 0)), (1, (4, 1))]) (stN := []) (hsC := [(100, [], (jenc 0)), (100, [], (jenc (e4 * jlg 4)))]) (ex := []) (v := (4, 1)) (st2 := [(4, 25)]) (hs2 := [jzY_329, (101, [], [e0, e1, e2, e3, e4, e5]), jgh, jgh, jgh, jgh, jgh, (130, [], [17, 18, 19, 20, 21, 22]), jgh, jgh, jgh, jgh, jgh, jgh, jgh, jgh, jgh, (100, [], (jenc (jlg 0))), (100, [], (jenc (jlg 1))), (100, [], (jenc (jlg 2))), (100, [], (jenc (jlg 3))), (100, [], (jenc (jlg 4))), (100, [], (jenc (jlg 5))), (100, [], (jenc 0)), (100, [], (jenc e4)), (100, [], (jenc (e4 * jlg 4)))]) (jT_added_0l (d := 0) (b := e4 * jlg 4)) (by rfl) (by rfl) (by rfl) (by rfl) ⟨rfl, rfl, trivial⟩ (by rfl) (by rfl) (by omega) (by show 23 ≤ 26; omega) (by omega) (by omega) rfl rfl ?_
      refine jT_xastore_n (v := (4, 25)) (LN := [(2, (4, 25)), (3, (0, 4)), (0, (4, 0)), (1, (4, 1))]) (pcN := 41) jIY_214_40 rfl rfl rfl rfl ?_
      refine jT_xiinc (x := 4) (z := 5) (LN := [(3, (0, 5)), (2, (4, 25)), (0, (4, 0)), (1, (4, 1))]) (pcN := 44) jIY_214_41 rfl rfl (by decide) rfl rfl ?_
      refine jT_xgoto (pcN := 7) jIY_214_44 rfl ?_
      refine jT_loc (LN := [(3, (0, 5)), (2, (4, 25)), (0, (4, 0)), (1, (4, 1))]) (by show List.Nodup [3, 2, 0, 1]; decide) (by intro q hq; simp only [List.mem_cons, List.not_mem_nil, or_false] at hq; rcases hq with rfl | rfl | rfl | rfl <;> rfl) ?_
      refine jT_gc [0, 1, 2, 3, 4, 5, 6, 7, 8, 9, 10, 11, 12, 13, 14, 15, 16, 17, 18, 19, 20, 21, 22, 25] (hs0 := [jzY_329, (101, [], [e0, e1, e2, e3, e4, e5]), jgh, jgh, jgh, jgh, jgh, (130, [], [17, 18, 19, 20, 21, 22]), jgh, jgh, jgh, jgh, jgh, jgh, jgh, jgh, jgh, (100, [], (jenc (jlg 0))), (100, [], (jenc (jlg 1))), (100, [], (jenc (jlg 2))), (100, [], (jenc (jlg 3))), (100, [], (jenc (jlg 4))), (100, [], (jenc (jlg 5))), (100, [], jenc (e4 * jlg 4))]) (L0 := [(3, (0, 5)), (2, (4, 23)), (0, (4, 0)), (1, (4, 1))]) (st0 := []) (by show jgB [0, 1, 2, 3, 4, 5, 6, 7, 8, 9, 10, 11, 12, 13, 14, 15, 16, 17, 18, 19, 20, 21, 22, 25] 26 = true; decide +kernel) rfl ⟨rfl, rfl, rfl, rfl, rfl, rfl, rfl, rfl, rfl, rfl, rfl, rfl, rfl, rfl, rfl, rfl, rfl, rfl, rfl, rfl, rfl, rfl, rfl, rfl, trivial⟩ rfl rfl (by decide +kernel) ?_
      exact jT.mono (jYl_lg_81_5 hd h_e0 h_e1 h_e2 h_e3 h_e4 h_e5 (Nat.le_trans hp.2.2 (by decide)) (by rw [Int.zero_add] at hw; exact hw) h) (Nat.le_refl _) (by omega) (by omega) (fun _ _ _ z => z)
    · refine jT_xiload_n (v := (0, 4)) (pcN := 8) jIY_214_7 rfl rfl rfl ?_
      refine jT_xbipush (k := 6) (pcN := 10) jIY_214_8 (by decide) rfl ?_
      refine jT_xicF (t := 47) (pcN := 13) jIY_214_10 rfl (by decide +kernel) rfl rfl ?_
      refine jT_xaload_n (v := (4, 1)) (pcN := 14) jIY_214_13 rfl rfl rfl ?_
      refine jT_xiload_n (v := (0, 4)) (pcN := 15) jIY_214_14 rfl rfl rfl ?_
      refine jT_lald (x := e4) (a := 1) (j := 4) (fs := []) (X := [e0, e1, e2, e3, e4, e5]) jIY_214_15 rfl rfl rfl rfl ?_
      refine jT_eq (LN := [(3, (0, 4)), (2, (4, 23)), (0, (4, 0)), (1, (4, 1))]) (stN := [(1, e4)]) (hsN := [jzY_329, (101, [], [e0, e1, e2, e3, e4, e5]), jgh, jgh, jgh, jgh, jgh, (130, [], [17, 18, 19, 20, 21, 22]), jgh, jgh, jgh, jgh, jgh, jgh, jgh, jgh, jgh, (100, [], (jenc (jlg 0))), (100, [], (jenc (jlg 1))), (100, [], (jenc (jlg 2))), (100, [], (jenc (jlg 3))), (100, [], (jenc (jlg 4))), (100, [], (jenc (jlg 5))), (100, [], (jenc a))]) rfl rfl rfl ?_
      refine jT_xlconst (z := 0) (pcN := 17) jIY_214_16 rfl rfl ?_
      refine jT_lcmp (a := e4) (b := 0) (z := 1) (by rfl) (by rfl) (jwl_idd (by omega) (by omega)) (jwl_idd (by omega) (by omega)) (by rw [decide_eq_true (show (0 : Int) < e4 by omega)]; rfl) ?_
      refine jT_xifF (t := 41) (pcN := 21) jIY_214_18 rfl (by decide +kernel) rfl rfl ?_
      refine jT_xaload_n (v := (4, 23)) (pcN := 22) jIY_214_21 rfl rfl rfl ?_
      refine jT_xaload_n (v := (4, 1)) (pcN := 23) jIY_214_22 rfl rfl rfl ?_
      refine jT_xiload_n (v := (0, 4)) (pcN := 24) jIY_214_23 rfl rfl rfl ?_
      refine jT_lald (x := e4) (a := 1) (j := 4) (fs := []) (X := [e0, e1, e2, e3, e4, e5]) jIY_214_24 rfl rfl rfl rfl ?_
      refine jT_eq (LN := [(3, (0, 4)), (2, (4, 23)), (0, (4, 0)), (1, (4, 1))]) (stN := [(1, e4), (4, 23)]) (hsN := [jzY_329, (101, [], [e0, e1, e2, e3, e4, e5]), jgh, jgh, jgh, jgh, jgh, (130, [], [17, 18, 19, 20, 21, 22]), jgh, jgh, jgh, jgh, jgh, jgh, jgh, jgh, jgh, (100, [], (jenc (jlg 0))), (100, [], (jenc (jlg 1))), (100, [], (jenc (jlg 2))), (100, [], (jenc (jlg 3))), (100, [], (jenc (jlg 4))), (100, [], (jenc (jlg 5))), (100, [], (jenc a))]) rfl rfl rfl ?_
      refine jT_callA [] (y := 178) (pcN := 28) (dC := 1) (bc1 := 1) (bc2 := 56) (c1 := (b1 + 5)) (c2 := (b2 + 280)) (as := [(1, e4)]) (asC := [(1, e4)]) (LN := [(3, (0, 4)), (2, (4, 23)), (0, (4, 0)), (1, (4, 1))]) (stN := [(4, 23)]) (hsC := []) (ex := [(100, [], (jenc e4))]) (v := (4, 0)) (st2 := [(4, 24), (4, 23)]) (hs2 := [jzY_329, (101, [], [e0, e1, e2, e3, e4, e5]), jgh, jgh, jgh, jgh, jgh, (130, [], [17, 18, 19, 20, 21, 22]), jgh, jgh, jgh, jgh, jgh, jgh, jgh, jgh, jgh, (100, [], (jenc (jlg 0))), (100, [], (jenc (jlg 1))), (100, [], (jenc (jlg 2))), (100, [], (jenc (jlg 3))), (100, [], (jenc (jlg 4))), (100, [], (jenc (jlg 5))), (100, [], (jenc a)), (100, [], (jenc e4))]) (jT_big (d := 0) (v := e4) (by omega) (by omega)) (by rfl) (by rfl) (by rfl) (by rfl) trivial (by rfl) (by rfl) (by omega) (by show 23 ≤ 24; omega) (by omega) (by omega) rfl rfl ?_
      refine jT_xaload_n (v := (4, 0)) (pcN := 29) jIY_214_28 rfl rfl rfl ?_
      refine jT_xgetf (a := 0) (t := 1) (ci := 14) (fi := 8) (c := jzY_329) (v := (4, 7)) (pcN := 32) jIY_214_29 rfl rfl rfl rfl rfl rfl rfl ?_
      refine jT_xiload_n (v := (0, 4)) (pcN := 33) jIY_214_32 rfl rfl rfl ?_
      refine jT_aald (x := 21) (a := 7) (j := 4) (fs := []) (X := [17, 18, 19, 20, 21, 22]) (kd := 130) jIY_214_33 rfl rfl rfl rfl rfl ?_
      refine jT_eq (LN := [(3, (0, 4)), (2, (4, 23)), (0, (4, 0)), (1, (4, 1))]) (stN := [(4, 21), (4, 24), (4, 23)]) (hsN := [jzY_329, (101, [], [e0, e1, e2, e3, e4, e5]), jgh, jgh, jgh, jgh, jgh, (130, [], [17, 18, 19, 20, 21, 22]), jgh, jgh, jgh, jgh, jgh, jgh, jgh, jgh, jgh, (100, [], (jenc (jlg 0))), (100, [], (jenc (jlg 1))), (100, [], (jenc (jlg 2))), (100, [], (jenc (jlg 3))), (100, [], (jenc (jlg 4))), (100, [], (jenc (jlg 5))), (100, [], (jenc a)), (100, [], (jenc e4))]) rfl rfl rfl ?_
      refine jT_callA [24, 21] (y := 179) (pcN := 37) (dC := 1) (bc1 := 1) (bc2 := 56) (c1 := (b1 + 4)) (c2 := (b2 + 224)) (as := [(4, 24), (4, 21)]) (asC := [(4, 0), (4, 1)]) (LN := [(3, (0, 4)), (2, (4, 23)), (0, (4, 0)), (1, (4, 1))]) (stN := [(4, 23)]) (hsC := [(100, [], (jenc e4)), (100, [], (jenc (jlg 4)))]) (ex := [(100, [], (jenc (e4 * jlg 4)))]) (v := (4, 2)) (st2 := [(4, 25), (4, 23)]) (hs2 := [jzY_329, (101, [], [e0, e1, e2, e3, e4, e5]), jgh, jgh, jgh, jgh, jgh, (130, [], [17, 18, 19, 20, 21, 22]), jgh, jgh, jgh, jgh, jgh, jgh, jgh, jgh, jgh, (100, [], (jenc (jlg 0))), (100, [], (jenc (jlg 1))), (100, [], (jenc (jlg 2))), (100, [], (jenc (jlg 3))), (100, [], (jenc (jlg 4))), (100, [], (jenc (jlg 5))), (100, [], (jenc a)), (100, [], (jenc e4)), (100, [], (jenc (e4 * jlg 4)))]) (jT_product (d := 0) (a := e4) (b := jlg 4) (jb54 (by omega) (by omega)) hp.1) (by rfl) (by rfl) (by rfl) (by rfl) ⟨rfl, rfl, trivial⟩ (by rfl) (by rfl) (by omega) (by show 23 ≤ 25; omega) (by omega) (by omega) rfl rfl ?_
      refine jT_callA [23, 25] (y := 181) (pcN := 40) (dC := 1) (bc1 := 1) (bc2 := 56) (c1 := (b1 + 3)) (c2 := (b2 + 168)) (as := [(4, 23), (4, 25)]) (asC := [(4, 0), (4, 1)]) (LN := [(3, (0, 4)), (2, (4, 23)), (0, (4, 0)), (1, (4, 1))]) (stN := []) (hsC := [(100, [], (jenc a)), (100, [], (jenc (e4 * jlg 4)))]) (ex := [(100, [], (jenc (a + (e4 * jlg 4))))]) (v := (4, 2)) (st2 := [(4, 26)]) (hs2 := [jzY_329, (101, [], [e0, e1, e2, e3, e4, e5]), jgh, jgh, jgh, jgh, jgh, (130, [], [17, 18, 19, 20, 21, 22]), jgh, jgh, jgh, jgh, jgh, jgh, jgh, jgh, jgh, (100, [], (jenc (jlg 0))), (100, [], (jenc (jlg 1))), (100, [], (jenc (jlg 2))), (100, [], (jenc (jlg 3))), (100, [], (jenc (jlg 4))), (100, [], (jenc (jlg 5))), (100, [], (jenc a)), (100, [], (jenc e4)), (100, [], (jenc (e4 * jlg 4))), (100, [], (jenc (a + (e4 * jlg 4))))]) (jT_added (d := 0) (a := a) (b := e4 * jlg 4) ga hp.2.1 (jb54k ha (by decide)) hp.1 (jb54a ha hp.2.2 (by decide))) (by rfl) (by rfl) (by rfl) (by rfl) ⟨rfl, rfl, trivial⟩ (by rfl) (by rfl) (by omega) (by show 23 ≤ 26; omega) (by omega) (by omega) rfl rfl ?_
      refine jT_xastore_n (v := (4, 26)) (LN := [(2, (4, 26)), (3, (0, 4)), (0, (4, 0)), (1, (4, 1))]) (pcN := 41) jIY_214_40 rfl rfl rfl rfl ?_
      refine jT_xiinc (x := 4) (z := 5) (LN := [(3, (0, 5)), (2, (4, 26)), (0, (4, 0)), (1, (4, 1))]) (pcN := 44) jIY_214_41 rfl rfl (by decide) rfl rfl ?_
      refine jT_xgoto (pcN := 7) jIY_214_44 rfl ?_
      refine jT_loc (LN := [(3, (0, 5)), (2, (4, 26)), (0, (4, 0)), (1, (4, 1))]) (by show List.Nodup [3, 2, 0, 1]; decide) (by intro q hq; simp only [List.mem_cons, List.not_mem_nil, or_false] at hq; rcases hq with rfl | rfl | rfl | rfl <;> rfl) ?_
      refine jT_gc [0, 1, 2, 3, 4, 5, 6, 7, 8, 9, 10, 11, 12, 13, 14, 15, 16, 17, 18, 19, 20, 21, 22, 26] (hs0 := [jzY_329, (101, [], [e0, e1, e2, e3, e4, e5]), jgh, jgh, jgh, jgh, jgh, (130, [], [17, 18, 19, 20, 21, 22]), jgh, jgh, jgh, jgh, jgh, jgh, jgh, jgh, jgh, (100, [], (jenc (jlg 0))), (100, [], (jenc (jlg 1))), (100, [], (jenc (jlg 2))), (100, [], (jenc (jlg 3))), (100, [], (jenc (jlg 4))), (100, [], (jenc (jlg 5))), (100, [], jenc (a + (e4 * jlg 4)))]) (L0 := [(3, (0, 5)), (2, (4, 23)), (0, (4, 0)), (1, (4, 1))]) (st0 := []) (by show jgB [0, 1, 2, 3, 4, 5, 6, 7, 8, 9, 10, 11, 12, 13, 14, 15, 16, 17, 18, 19, 20, 21, 22, 26] 27 = true; decide +kernel) rfl ⟨rfl, rfl, rfl, rfl, rfl, rfl, rfl, rfl, rfl, rfl, rfl, rfl, rfl, rfl, rfl, rfl, rfl, rfl, rfl, rfl, rfl, rfl, rfl, rfl, trivial⟩ rfl rfl (by decide +kernel) ?_
      exact jT.mono (jYl_lg_81_5 hd h_e0 h_e1 h_e2 h_e3 h_e4 h_e5 (jb1c ha hp.2.2 (by decide)) (by rw [← Int.add_assoc] at hw; exact hw) h) (Nat.le_refl _) (by omega) (by omega) (fun _ _ _ z => z)
theorem jYl_lg_81_3 {xs : List Int} {d b1 b2 : Nat} {Q : Nat → JV → List JC → Prop} (hd : 1 < d) {a w e0 e1 e2 e3 e4 e5 : Int} (h_e0 : -4611686018427387903 ≤ e0 ∧ e0 ≤ 4611686018427387903) (h_e1 : -4611686018427387903 ≤ e1 ∧ e1 ≤ 4611686018427387903) (h_e2 : -4611686018427387903 ≤ e2 ∧ e2 ≤ 4611686018427387903) (h_e3 : -4611686018427387903 ≤ e3 ∧ e3 ≤ 4611686018427387903) (h_e4 : -4611686018427387903 ≤ e4 ∧ e4 ≤ 4611686018427387903) (h_e5 : -4611686018427387903 ≤ e5 ∧ e5 ≤ 4611686018427387903) (ha : a.natAbs ≤ 3 * 10 ^ 220) (hw : a + (e3 * jlg 3 + (e4 * jlg 4 + (e5 * jlg 5))) = w) (h : jT xs d 214 23 47 [(2, (4, 23))] [] [jzY_329, (101, [], [e0, e1, e2, e3, e4, e5]), jgh, jgh, jgh, jgh, jgh, (130, [], [17, 18, 19, 20, 21, 22]), jgh, jgh, jgh, jgh, jgh, jgh, jgh, jgh, jgh, (100, [], (jenc (jlg 0))), (100, [], (jenc (jlg 1))), (100, [], (jenc (jlg 2))), (100, [], (jenc (jlg 3))), (100, [], (jenc (jlg 4))), (100, [], (jenc (jlg 5))), (100, [], jenc w)] b1 b2 Q) : jT xs d 214 23 7 [(3, (0, 3)), (2, (4, 23)), (0, (4, 0)), (1, (4, 1))] [] [jzY_329, (101, [], [e0, e1, e2, e3, e4, e5]), jgh, jgh, jgh, jgh, jgh, (130, [], [17, 18, 19, 20, 21, 22]), jgh, jgh, jgh, jgh, jgh, jgh, jgh, jgh, jgh, (100, [], (jenc (jlg 0))), (100, [], (jenc (jlg 1))), (100, [], (jenc (jlg 2))), (100, [], (jenc (jlg 3))), (100, [], (jenc (jlg 4))), (100, [], (jenc (jlg 5))), (100, [], jenc a)] (b1 + 9) (b2 + 504) Q := by
  rcases (show (e3 < 0) ∨ (e3 = 0) ∨ (0 < e3) by omega) with g_0 | g_0 | g_0
  · have hp := jlz_m (k := 3) (e := e3) (by decide) (by omega) (by omega)
    rcases (show (a = 0) ∨ (a ≠ 0) by omega) with ga | ga
    · subst ga
      refine jT_xiload_n (v := (0, 3)) (pcN := 8) jIY_214_7 rfl rfl rfl ?_
      refine jT_xbipush (k := 6) (pcN := 10) jIY_214_8 (by decide) rfl ?_
      refine jT_xicF (t := 47) (pcN := 13) jIY_214_10 rfl (by decide +kernel) rfl rfl ?_
      refine jT_xaload_n (v := (4, 1)) (pcN := 14) jIY_214_13 rfl rfl rfl ?_
      refine jT_xiload_n (v := (0, 3)) (pcN := 15) jIY_214_14 rfl rfl rfl ?_
      refine jT_lald (x := e3) (a := 1) (j := 3) (fs := []) (X := [e0, e1, e2, e3, e4, e5]) jIY_214_15 rfl rfl rfl rfl ?_
      refine jT_eq (LN := [(3, (0, 3)), (2, (4, 23)), (0, (4, 0)), (1, (4, 1))]) (stN := [(1, e3)]) (hsN := [jzY_329, (101, [], [e0, e1, e2, e3, e4, e5]), jgh, jgh, jgh, jgh, jgh, (130, [], [17, 18, 19, 20, 21, 22]), jgh, jgh, jgh, jgh, jgh, jgh, jgh, jgh, jgh, (100, [], (jenc (jlg 0))), (100, [], (jenc (jlg 1))), (100, [], (jenc (jlg 2))), (100, [], (jenc (jlg 3))), (100, [], (jenc (jlg 4))), (100, [], (jenc (jlg 5))), (100, [], (jenc 0))]) rfl rfl rfl ?_
      refine jT_xlconst (z := 0) (pcN := 17) jIY_214_16 rfl rfl ?_
      refine jT_lcmp (a := e3) (b := 0) (z := (-1)) (by rfl) (by rfl) (jwl_idd (by omega) (by omega)) (jwl_idd (by omega) (by omega)) (by rw [decide_eq_false (show ¬ ((0 : Int) < e3) by omega), decide_eq_false (show ¬ ((e3 : Int) = 0) by omega)]; rfl) ?_
      refine jT_xifF (t := 41) (pcN := 21) jIY_214_18 rfl (by decide +kernel) rfl rfl ?_
      refine jT_xaload_n (v := (4, 23)) (pcN := 22) jIY_214_21 rfl rfl rfl ?_
      refine jT_xaload_n (v := (4, 1)) (pcN := 23) jIY_214_22 rfl rfl rfl ?_
      refine jT_xiload_n (v := (0, 3)) (pcN := 24) jIY_214_23 rfl rfl rfl ?_
      refine jT_lald (x := e3) (a := 1) (j := 3) (fs := []) (X := [e0, e1, e2, e3, e4, e5]) jIY_214_24 rfl rfl rfl rfl ?_
      refine jT_eq (LN := [(3, (0, 3)), (2, (4, 23)), (0, (4, 0)), (1, (4, 1))]) (stN := [(1, e3), (4, 23)]) (hsN := [jzY_329, (101, [], [e0, e1, e2, e3, e4, e5]), jgh, jgh, jgh, jgh, jgh, (130, [], [17, 18, 19, 20, 21, 22]), jgh, jgh, jgh, jgh, jgh, jgh, jgh, jgh, jgh, (100, [], (jenc (jlg 0))), (100, [], (jenc (jlg 1))), (100, [], (jenc (jlg 2))), (100, [], (jenc (jlg 3))), (100, [], (jenc (jlg 4))), (100, [], (jenc (jlg 5))), (100, [], (jenc 0))]) rfl rfl rfl ?_
      refine jT_callA [] (y := 178) (pcN := 28) (dC := 1) (bc1 := 1) (bc2 := 56) (c1 := (b1 + 8)) (c2 := (b2 + 448)) (as := [(1, e3)]) (asC := [(1, e3)]) (LN := [(3, (0, 3)), (2, (4, 23)), (0, (4, 0)), (1, (4, 1))]) (stN := [(4, 23)]) (hsC := []) (ex := [(100, [], (jenc e3))]) (v := (4, 0)) (st2 := [(4, 24), (4, 23)]) (hs2 := [jzY_329, (101, [], [e0, e1, e2, e3, e4, e5]), jgh, jgh, jgh, jgh, jgh, (130, [], [17, 18, 19, 20, 21, 22]), jgh, jgh, jgh, jgh, jgh, jgh, jgh, jgh, jgh, (100, [], (jenc (jlg 0))), (100, [], (jenc (jlg 1))), (100, [], (jenc (jlg 2))), (100, [], (jenc (jlg 3))), (100, [], (jenc (jlg 4))), (100, [], (jenc (jlg 5))), (100, [], (jenc 0)), (100, [], (jenc e3))]) (jT_big (d := 0) (v := e3) (by omega) (by omega)) (by rfl) (by rfl) (by rfl) (by rfl) trivial (by rfl) (by rfl) (by omega) (by show 23 ≤ 24; omega) (by omega) (by omega) rfl rfl ?_
      refine jT_xaload_n (v := (4, 0)) (pcN := 29) jIY_214_28 rfl rfl rfl ?_
      refine jT_xgetf (a := 0) (t := 1) (ci := 14) (fi := 8) (c := jzY_329) (v := (4, 7)) (pcN := 32) jIY_214_29 rfl rfl rfl rfl rfl rfl rfl ?_
      refine jT_xiload_n (v := (0, 3)) (pcN := 33) jIY_214_32 rfl rfl rfl ?_
      refine jT_aald (x := 20) (a := 7) (j := 3) (fs := []) (X := [17, 18, 19, 20, 21, 22]) (kd := 130) jIY_214_33 rfl rfl rfl rfl rfl ?_
      refine jT_eq (LN := [(3, (0, 3)), (2, (4, 23)), (0, (4, 0)), (1, (4, 1))]) (stN := [(4, 20), (4, 24), (4, 23)]) (hsN := [jzY_329, (101, [], [e0, e1, e2, e3, e4, e5]), jgh, jgh, jgh, jgh, jgh, (130, [], [17, 18, 19, 20, 21, 22]), jgh, jgh, jgh, jgh, jgh, jgh, jgh, jgh, jgh, (100, [], (jenc (jlg 0))), (100, [], (jenc (jlg 1))), (100, [], (jenc (jlg 2))), (100, [], (jenc (jlg 3))), (100, [], (jenc (jlg 4))), (100, [], (jenc (jlg 5))), (100, [], (jenc 0)), (100, [], (jenc e3))]) rfl rfl rfl ?_
      refine jT_callA [24, 20] (y := 179) (pcN := 37) (dC := 1) (bc1 := 1) (bc2 := 56) (c1 := (b1 + 7)) (c2 := (b2 + 392)) (as := [(4, 24), (4, 20)]) (asC := [(4, 0), (4, 1)]) (LN := [(3, (0, 3)), (2, (4, 23)), (0, (4, 0)), (1, (4, 1))]) (stN := [(4, 23)]) (hsC := [(100, [], (jenc e3)), (100, [], (jenc (jlg 3)))]) (ex := [(100, [], (jenc (e3 * jlg 3)))]) (v := (4, 2)) (st2 := [(4, 25), (4, 23)]) (hs2 := [jzY_329, (101, [], [e0, e1, e2, e3, e4, e5]), jgh, jgh, jgh, jgh, jgh, (130, [], [17, 18, 19, 20, 21, 22]), jgh, jgh, jgh, jgh, jgh, jgh, jgh, jgh, jgh, (100, [], (jenc (jlg 0))), (100, [], (jenc (jlg 1))), (100, [], (jenc (jlg 2))), (100, [], (jenc (jlg 3))), (100, [], (jenc (jlg 4))), (100, [], (jenc (jlg 5))), (100, [], (jenc 0)), (100, [], (jenc e3)), (100, [], (jenc (e3 * jlg 3)))]) (jT_product (d := 0) (a := e3) (b := jlg 3) (jb54 (by omega) (by omega)) hp.1) (by rfl) (by rfl) (by rfl) (by rfl) ⟨rfl, rfl, trivial⟩ (by rfl) (by rfl) (by omega) (by show 23 ≤ 25; omega) (by omega) (by omega) rfl rfl ?_
      refine jT_callA [23, 25] (y := 181) (pcN := 40) (dC := 0) (bc1 := 0) (bc2 := 0) (c1 := (b1 + 7)) (c2 := (b2 + 392)) (as := [(4, 23), (4, 25)]) (asC := [(4, 0), (4, 1)]) (LN := [(3, (0, 3)), (2, (4, 23)), (0, (4, 0)), (1, (4, 1))]) (stN := []) (hsC := [(100, [], (jenc 0)), (100, [], (jenc (e3 * jlg 3)))]) (ex := []) (v := (4, 1)) (st2 := [(4, 25)]) (hs2 := [jzY_329, (101, [], [e0, e1, e2, e3, e4, e5]), jgh, jgh, jgh, jgh, jgh, (130, [], [17, 18, 19, 20, 21, 22]), jgh, jgh, jgh, jgh, jgh, jgh, jgh, jgh, jgh, (100, [], (jenc (jlg 0))), (100, [], (jenc (jlg 1))), (100, [], (jenc (jlg 2))), (100, [], (jenc (jlg 3))), (100, [], (jenc (jlg 4))), (100, [], (jenc (jlg 5))), (100, [], (jenc 0)), (100, [], (jenc e3)), (100, [], (jenc (e3 * jlg 3)))]) (jT_added_0l (d := 0) (b := e3 * jlg 3)) (by rfl) (by rfl) (by rfl) (by rfl) ⟨rfl, rfl, trivial⟩ (by rfl) (by rfl) (by omega) (by show 23 ≤ 26; omega) (by omega) (by omega) rfl rfl ?_
      refine jT_xastore_n (v := (4, 25)) (LN := [(2, (4, 25)), (3, (0, 3)), (0, (4, 0)), (1, (4, 1))]) (pcN := 41) jIY_214_40 rfl rfl rfl rfl ?_
      refine jT_xiinc (x := 3) (z := 4) (LN := [(3, (0, 4)), (2, (4, 25)), (0, (4, 0)), (1, (4, 1))]) (pcN := 44) jIY_214_41 rfl rfl (by decide) rfl rfl ?_
      refine jT_xgoto (pcN := 7) jIY_214_44 rfl ?_
      refine jT_loc (LN := [(3, (0, 4)), (2, (4, 25)), (0, (4, 0)), (1, (4, 1))]) (by show List.Nodup [3, 2, 0, 1]; decide) (by intro q hq; simp only [List.mem_cons, List.not_mem_nil, or_false] at hq; rcases hq with rfl | rfl | rfl | rfl <;> rfl) ?_
      refine jT_gc [0, 1, 2, 3, 4, 5, 6, 7, 8, 9, 10, 11, 12, 13, 14, 15, 16, 17, 18, 19, 20, 21, 22, 25] (hs0 := [jzY_329, (101, [], [e0, e1, e2, e3, e4, e5]), jgh, jgh, jgh, jgh, jgh, (130, [], [17, 18, 19, 20, 21, 22]), jgh, jgh, jgh, jgh, jgh, jgh, jgh, jgh, jgh, (100, [], (jenc (jlg 0))), (100, [], (jenc (jlg 1))), (100, [], (jenc (jlg 2))), (100, [], (jenc (jlg 3))), (100, [], (jenc (jlg 4))), (100, [], (jenc (jlg 5))), (100, [], jenc (e3 * jlg 3))]) (L0 := [(3, (0, 4)), (2, (4, 23)), (0, (4, 0)), (1, (4, 1))]) (st0 := []) (by show jgB [0, 1, 2, 3, 4, 5, 6, 7, 8, 9, 10, 11, 12, 13, 14, 15, 16, 17, 18, 19, 20, 21, 22, 25] 26 = true; decide +kernel) rfl ⟨rfl, rfl, rfl, rfl, rfl, rfl, rfl, rfl, rfl, rfl, rfl, rfl, rfl, rfl, rfl, rfl, rfl, rfl, rfl, rfl, rfl, rfl, rfl, rfl, trivial⟩ rfl rfl (by decide +kernel) ?_
      exact jT.mono (jYl_lg_81_4 hd h_e0 h_e1 h_e2 h_e3 h_e4 h_e5 (Nat.le_trans hp.2.2 (by decide)) (by rw [Int.zero_add] at hw; exact hw) h) (Nat.le_refl _) (by omega) (by omega) (fun _ _ _ z => z)
    · refine jT_xiload_n (v := (0, 3)) (pcN := 8) jIY_214_7 rfl rfl rfl ?_
      refine jT_xbipush (k := 6) (pcN := 10) jIY_214_8 (by decide) rfl ?_
      refine jT_xicF (t := 47) (pcN := 13) jIY_214_10 rfl (by decide +kernel) rfl rfl ?_
      refine jT_xaload_n (v := (4, 1)) (pcN := 14) jIY_214_13 rfl rfl rfl ?_
      refine jT_xiload_n (v := (0, 3)) (pcN := 15) jIY_214_14 rfl rfl rfl ?_
      refine jT_lald (x := e3) (a := 1) (j := 3) (fs := []) (X := [e0, e1, e2, e3, e4, e5]) jIY_214_15 rfl rfl rfl rfl ?_
      refine jT_eq (LN := [(3, (0, 3)), (2, (4, 23)), (0, (4, 0)), (1, (4, 1))]) (stN := [(1, e3)]) (hsN := [jzY_329, (101, [], [e0, e1, e2, e3, e4, e5]), jgh, jgh, jgh, jgh, jgh, (130, [], [17, 18, 19, 20, 21, 22]), jgh, jgh, jgh, jgh, jgh, jgh, jgh, jgh, jgh, (100, [], (jenc (jlg 0))), (100, [], (jenc (jlg 1))), (100, [], (jenc (jlg 2))), (100, [], (jenc (jlg 3))), (100, [], (jenc (jlg 4))), (100, [], (jenc (jlg 5))), (100, [], (jenc a))]) rfl rfl rfl ?_
      refine jT_xlconst (z := 0) (pcN := 17) jIY_214_16 rfl rfl ?_
      refine jT_lcmp (a := e3) (b := 0) (z := (-1)) (by rfl) (by rfl) (jwl_idd (by omega) (by omega)) (jwl_idd (by omega) (by omega)) (by rw [decide_eq_false (show ¬ ((0 : Int) < e3) by omega), decide_eq_false (show ¬ ((e3 : Int) = 0) by omega)]; rfl) ?_
      refine jT_xifF (t := 41) (pcN := 21) jIY_214_18 rfl (by decide +kernel) rfl rfl ?_
      refine jT_xaload_n (v := (4, 23)) (pcN := 22) jIY_214_21 rfl rfl rfl ?_
      refine jT_xaload_n (v := (4, 1)) (pcN := 23) jIY_214_22 rfl rfl rfl ?_
      refine jT_xiload_n (v := (0, 3)) (pcN := 24) jIY_214_23 rfl rfl rfl ?_
      refine jT_lald (x := e3) (a := 1) (j := 3) (fs := []) (X := [e0, e1, e2, e3, e4, e5]) jIY_214_24 rfl rfl rfl rfl ?_
      refine jT_eq (LN := [(3, (0, 3)), (2, (4, 23)), (0, (4, 0)), (1, (4, 1))]) (stN := [(1, e3), (4, 23)]) (hsN := [jzY_329, (101, [], [e0, e1, e2, e3, e4, e5]), jgh, jgh, jgh, jgh, jgh, (130, [], [17, 18, 19, 20, 21, 22]), jgh, jgh, jgh, jgh, jgh, jgh, jgh, jgh, jgh, (100, [], (jenc (jlg 0))), (100, [], (jenc (jlg 1))), (100, [], (jenc (jlg 2))), (100, [], (jenc (jlg 3))), (100, [], (jenc (jlg 4))), (100, [], (jenc (jlg 5))), (100, [], (jenc a))]) rfl rfl rfl ?_
      refine jT_callA [] (y := 178) (pcN := 28) (dC := 1) (bc1 := 1) (bc2 := 56) (c1 := (b1 + 8)) (c2 := (b2 + 448)) (as := [(1, e3)]) (asC := [(1, e3)]) (LN := [(3, (0, 3)), (2, (4, 23)), (0, (4, 0)), (1, (4, 1))]) (stN := [(4, 23)]) (hsC := []) (ex := [(100, [], (jenc e3))]) (v := (4, 0)) (st2 := [(4, 24), (4, 23)]) (hs2 := [jzY_329, (101, [], [e0, e1, e2, e3, e4, e5]), jgh, jgh, jgh, jgh, jgh, (130, [], [17, 18, 19, 20, 21, 22]), jgh, jgh, jgh, jgh, jgh, jgh, jgh, jgh, jgh, (100, [], (jenc (jlg 0))), (100, [], (jenc (jlg 1))), (100, [], (jenc (jlg 2))), (100, [], (jenc (jlg 3))), (100, [], (jenc (jlg 4))), (100, [], (jenc (jlg 5))), (100, [], (jenc a)), (100, [], (jenc e3))]) (jT_big (d := 0) (v := e3) (by omega) (by omega)) (by rfl) (by rfl) (by rfl) (by rfl) trivial (by rfl) (by rfl) (by omega) (by show 23 ≤ 24; omega) (by omega) (by omega) rfl rfl ?_
      refine jT_xaload_n (v := (4, 0)) (pcN := 29) jIY_214_28 rfl rfl rfl ?_
      refine jT_xgetf (a := 0) (t := 1) (ci := 14) (fi := 8) (c := jzY_329) (v := (4, 7)) (pcN := 32) jIY_214_29 rfl rfl rfl rfl rfl rfl rfl ?_
      refine jT_xiload_n (v := (0, 3)) (pcN := 33) jIY_214_32 rfl rfl rfl ?_
      refine jT_aald (x := 20) (a := 7) (j := 3) (fs := []) (X := [17, 18, 19, 20, 21, 22]) (kd := 130) jIY_214_33 rfl rfl rfl rfl rfl ?_
      refine jT_eq (LN := [(3, (0, 3)), (2, (4, 23)), (0, (4, 0)), (1, (4, 1))]) (stN := [(4, 20), (4, 24), (4, 23)]) (hsN := [jzY_329, (101, [], [e0, e1, e2, e3, e4, e5]), jgh, jgh, jgh, jgh, jgh, (130, [], [17, 18, 19, 20, 21, 22]), jgh, jgh, jgh, jgh, jgh, jgh, jgh, jgh, jgh, (100, [], (jenc (jlg 0))), (100, [], (jenc (jlg 1))), (100, [], (jenc (jlg 2))), (100, [], (jenc (jlg 3))), (100, [], (jenc (jlg 4))), (100, [], (jenc (jlg 5))), (100, [], (jenc a)), (100, [], (jenc e3))]) rfl rfl rfl ?_
      refine jT_callA [24, 20] (y := 179) (pcN := 37) (dC := 1) (bc1 := 1) (bc2 := 56) (c1 := (b1 + 7)) (c2 := (b2 + 392)) (as := [(4, 24), (4, 20)]) (asC := [(4, 0), (4, 1)]) (LN := [(3, (0, 3)), (2, (4, 23)), (0, (4, 0)), (1, (4, 1))]) (stN := [(4, 23)]) (hsC := [(100, [], (jenc e3)), (100, [], (jenc (jlg 3)))]) (ex := [(100, [], (jenc (e3 * jlg 3)))]) (v := (4, 2)) (st2 := [(4, 25), (4, 23)]) (hs2 := [jzY_329, (101, [], [e0, e1, e2, e3, e4, e5]), jgh, jgh, jgh, jgh, jgh, (130, [], [17, 18, 19, 20, 21, 22]), jgh, jgh, jgh, jgh, jgh, jgh, jgh, jgh, jgh, (100, [], (jenc (jlg 0))), (100, [], (jenc (jlg 1))), (100, [], (jenc (jlg 2))), (100, [], (jenc (jlg 3))), (100, [], (jenc (jlg 4))), (100, [], (jenc (jlg 5))), (100, [], (jenc a)), (100, [], (jenc e3)), (100, [], (jenc (e3 * jlg 3)))]) (jT_product (d := 0) (a := e3) (b := jlg 3) (jb54 (by omega) (by omega)) hp.1) (by rfl) (by rfl) (by rfl) (by rfl) ⟨rfl, rfl, trivial⟩ (by rfl) (by rfl) (by omega) (by show 23 ≤ 25; omega) (by omega) (by omega) rfl rfl ?_
      refine jT_callA [23, 25] (y := 181) (pcN := 40) (dC := 1) (bc1 := 1) (bc2 := 56) (c1 := (b1 + 6)) (c2 := (b2 + 336)) (as := [(4, 23), (4, 25)]) (asC := [(4, 0), (4, 1)]) (LN := [(3, (0, 3)), (2, (4, 23)), (0, (4, 0)), (1, (4, 1))]) (stN := []) (hsC := [(100, [], (jenc a)), (100, [], (jenc (e3 * jlg 3)))]) (ex := [(100, [], (jenc (a + (e3 * jlg 3))))]) (v := (4, 2)) (st2 := [(4, 26)]) (hs2 := [jzY_329, (101, [], [e0, e1, e2, e3, e4, e5]), jgh, jgh, jgh, jgh, jgh, (130, [], [17, 18, 19, 20, 21, 22]), jgh, jgh, jgh, jgh, jgh, jgh, jgh, jgh, jgh, (100, [], (jenc (jlg 0))), (100, [], (jenc (jlg 1))), (100, [], (jenc (jlg 2))), (100, [], (jenc (jlg 3))), (100, [], (jenc (jlg 4))), (100, [], (jenc (jlg 5))), (100, [], (jenc a)), (100, [], (jenc e3)), (100, [], (jenc (e3 * jlg 3))), (100, [], (jenc (a + (e3 * jlg 3))))]) (jT_added (d := 0) (a := a) (b := e3 * jlg 3) ga hp.2.1 (jb54k ha (by decide)) hp.1 (jb54a ha hp.2.2 (by decide))) (by rfl) (by rfl) (by rfl) (by rfl) ⟨rfl, rfl, trivial⟩ (by rfl) (by rfl) (by omega) (by show 23 ≤ 26; omega) (by omega) (by omega) rfl rfl ?_
      refine jT_xastore_n (v := (4, 26)) (LN := [(2, (4, 26)), (3, (0, 3)), (0, (4, 0)), (1, (4, 1))]) (pcN := 41) jIY_214_40 rfl rfl rfl rfl ?_
      refine jT_xiinc (x := 3) (z := 4) (LN := [(3, (0, 4)), (2, (4, 26)), (0, (4, 0)), (1, (4, 1))]) (pcN := 44) jIY_214_41 rfl rfl (by decide) rfl rfl ?_
      refine jT_xgoto (pcN := 7) jIY_214_44 rfl ?_
      refine jT_loc (LN := [(3, (0, 4)), (2, (4, 26)), (0, (4, 0)), (1, (4, 1))]) (by show List.Nodup [3, 2, 0, 1]; decide) (by intro q hq; simp only [List.mem_cons, List.not_mem_nil, or_false] at hq; rcases hq with rfl | rfl | rfl | rfl <;> rfl) ?_
      refine jT_gc [0, 1, 2, 3, 4, 5, 6, 7, 8, 9, 10, 11, 12, 13, 14, 15, 16, 17, 18, 19, 20, 21, 22, 26] (hs0 := [jzY_329, (101, [], [e0, e1, e2, e3, e4, e5]), jgh, jgh, jgh, jgh, jgh, (130, [], [17, 18, 19, 20, 21, 22]), jgh, jgh, jgh, jgh, jgh, jgh, jgh, jgh, jgh, (100, [], (jenc (jlg 0))), (100, [], (jenc (jlg 1))), (100, [], (jenc (jlg 2))), (100, [], (jenc (jlg 3))), (100, [], (jenc (jlg 4))), (100, [], (jenc (jlg 5))), (100, [], jenc (a + (e3 * jlg 3)))]) (L0 := [(3, (0, 4)), (2, (4, 23)), (0, (4, 0)), (1, (4, 1))]) (st0 := []) (by show jgB [0, 1, 2, 3, 4, 5, 6, 7, 8, 9, 10, 11, 12, 13, 14, 15, 16, 17, 18, 19, 20, 21, 22, 26] 27 = true; decide +kernel) rfl ⟨rfl, rfl, rfl, rfl, rfl, rfl, rfl, rfl, rfl, rfl, rfl, rfl, rfl, rfl, rfl, rfl, rfl, rfl, rfl, rfl, rfl, rfl, rfl, rfl, trivial⟩ rfl rfl (by decide +kernel) ?_
      exact jT.mono (jYl_lg_81_4 hd h_e0 h_e1 h_e2 h_e3 h_e4 h_e5 (jb1c ha hp.2.2 (by decide)) (by rw [← Int.add_assoc] at hw; exact hw) h) (Nat.le_refl _) (by omega) (by omega) (fun _ _ _ z => z)
  · refine jT_xiload_n (v := (0, 3)) (pcN := 8) jIY_214_7 rfl rfl rfl ?_
    refine jT_xbipush (k := 6) (pcN := 10) jIY_214_8 (by decide) rfl ?_
    refine jT_xicF (t := 47) (pcN := 13) jIY_214_10 rfl (by decide +kernel) rfl rfl ?_
    refine jT_xaload_n (v := (4, 1)) (pcN := 14) jIY_214_13 rfl rfl rfl ?_
    refine jT_xiload_n (v := (0, 3)) (pcN := 15) jIY_214_14 rfl rfl rfl ?_
    refine jT_lald (x := e3) (a := 1) (j := 3) (fs := []) (X := [e0, e1, e2, e3, e4, e5]) jIY_214_15 rfl rfl rfl rfl ?_
    refine jT_eq (LN := [(3, (0, 3)), (2, (4, 23)), (0, (4, 0)), (1, (4, 1))]) (stN := [(1, e3)]) (hsN := [jzY_329, (101, [], [e0, e1, e2, e3, e4, e5]), jgh, jgh, jgh, jgh, jgh, (130, [], [17, 18, 19, 20, 21, 22]), jgh, jgh, jgh, jgh, jgh, jgh, jgh, jgh, jgh, (100, [], (jenc (jlg 0))), (100, [], (jenc (jlg 1))), (100, [], (jenc (jlg 2))), (100, [], (jenc (jlg 3))), (100, [], (jenc (jlg 4))), (100, [], (jenc (jlg 5))), (100, [], (jenc a))]) rfl rfl rfl ?_
    refine jT_xlconst (z := 0) (pcN := 17) jIY_214_16 rfl rfl ?_
    refine jT_lcmp (a := e3) (b := 0) (z := 0) (by rfl) (by rfl) (jwl_idd (by omega) (by omega)) (jwl_idd (by omega) (by omega)) (by rw [decide_eq_false (show ¬ ((0 : Int) < e3) by omega), decide_eq_true (show (e3 : Int) = 0 by omega)]; rfl) ?_
    refine jT_xifT (pcN := 41) jIY_214_18 rfl (by decide +kernel) rfl ?_
    refine jT_xiinc (x := 3) (z := 4) (LN := [(3, (0, 4)), (2, (4, 23)), (0, (4, 0)), (1, (4, 1))]) (pcN := 44) jIY_214_41 rfl rfl (by decide) rfl rfl ?_
    refine jT_xgoto (pcN := 7) jIY_214_44 rfl ?_
    refine jT_loc (LN := [(3, (0, 4)), (2, (4, 23)), (0, (4, 0)), (1, (4, 1))]) (by show List.Nodup [3, 2, 0, 1]; decide) (by intro q hq; simp only [List.mem_cons, List.not_mem_nil, or_false] at hq; rcases hq with rfl | rfl | rfl | rfl <;> rfl) ?_
    exact jT.mono (jYl_lg_81_4 hd h_e0 h_e1 h_e2 h_e3 h_e4 h_e5 (by omega) (by rw [g_0, Int.zero_mul] at hw; omega) h) (Nat.le_refl _) (by omega) (by omega) (fun _ _ _ z => z)
  · have hp := jlz_m (k := 3) (e := e3) (by decide) (by omega) (by omega)
    rcases (show (a = 0) ∨ (a ≠ 0) by omega) with ga | ga
    · subst ga
      refine jT_xiload_n (v := (0, 3)) (pcN := 8) jIY_214_7 rfl rfl rfl ?_
      refine jT_xbipush (k := 6) (pcN := 10) jIY_214_8 (by decide) rfl ?_
      refine jT_xicF (t := 47) (pcN := 13) jIY_214_10 rfl (by decide +kernel) rfl rfl ?_
      refine jT_xaload_n (v := (4, 1)) (pcN := 14) jIY_214_13 rfl rfl rfl ?_
      refine jT_xiload_n (v := (0, 3)) (pcN := 15) jIY_214_14 rfl rfl rfl ?_
      refine jT_lald (x := e3) (a := 1) (j := 3) (fs := []) (X := [e0, e1, e2, e3, e4, e5]) jIY_214_15 rfl rfl rfl rfl ?_
      refine jT_eq (LN := [(3, (0, 3)), (2, (4, 23)), (0, (4, 0)), (1, (4, 1))]) (stN := [(1, e3)]) (hsN := [jzY_329, (101, [], [e0, e1, e2, e3, e4, e5]), jgh, jgh, jgh, jgh, jgh, (130, [], [17, 18, 19, 20, 21, 22]), jgh, jgh, jgh, jgh, jgh, jgh, jgh, jgh, jgh, (100, [], (jenc (jlg 0))), (100, [], (jenc (jlg 1))), (100, [], (jenc (jlg 2))), (100, [], (jenc (jlg 3))), (100, [], (jenc (jlg 4))), (100, [], (jenc (jlg 5))), (100, [], (jenc 0))]) rfl rfl rfl ?_
      refine jT_xlconst (z := 0) (pcN := 17) jIY_214_16 rfl rfl ?_
      refine jT_lcmp (a := e3) (b := 0) (z := 1) (by rfl) (by rfl) (jwl_idd (by omega) (by omega)) (jwl_idd (by omega) (by omega)) (by rw [decide_eq_true (show (0 : Int) < e3 by omega)]; rfl) ?_
      refine jT_xifF (t := 41) (pcN := 21) jIY_214_18 rfl (by decide +kernel) rfl rfl ?_
      refine jT_xaload_n (v := (4, 23)) (pcN := 22) jIY_214_21 rfl rfl rfl ?_
      refine jT_xaload_n (v := (4, 1)) (pcN := 23) jIY_214_22 rfl rfl rfl ?_
      refine jT_xiload_n (v := (0, 3)) (pcN := 24) jIY_214_23 rfl rfl rfl ?_
      refine jT_lald (x := e3) (a := 1) (j := 3) (fs := []) (X := [e0, e1, e2, e3, e4, e5]) jIY_214_24 rfl rfl rfl rfl ?_
      refine jT_eq (LN := [(3, (0, 3)), (2, (4, 23)), (0, (4, 0)), (1, (4, 1))]) (stN := [(1, e3), (4, 23)]) (hsN := [jzY_329, (101, [], [e0, e1, e2, e3, e4, e5]), jgh, jgh, jgh, jgh, jgh, (130, [], [17, 18, 19, 20, 21, 22]), jgh, jgh, jgh, jgh, jgh, jgh, jgh, jgh, jgh, (100, [], (jenc (jlg 0))), (100, [], (jenc (jlg 1))), (100, [], (jenc (jlg 2))), (100, [], (jenc (jlg 3))), (100, [], (jenc (jlg 4))), (100, [], (jenc (jlg 5))), (100, [], (jenc 0))]) rfl rfl rfl ?_
      refine jT_callA [] (y := 178) (pcN := 28) (dC := 1) (bc1 := 1) (bc2 := 56) (c1 := (b1 + 8)) (c2 := (b2 + 448)) (as := [(1, e3)]) (asC := [(1, e3)]) (LN := [(3, (0, 3)), (2, (4, 23)), (0, (4, 0)), (1, (4, 1))]) (stN := [(4, 23)]) (hsC := []) (ex := [(100, [], (jenc e3))]) (v := (4, 0)) (st2 := [(4, 24), (4, 23)]) (hs2 := [jzY_329, (101, [], [e0, e1, e2, e3, e4, e5]), jgh, jgh, jgh, jgh, jgh, (130, [], [17, 18, 19, 20, 21, 22]), jgh, jgh, jgh, jgh, jgh, jgh, jgh, jgh, jgh, (100, [], (jenc (jlg 0))), (100, [], (jenc (jlg 1))), (100, [], (jenc (jlg 2))), (100, [], (jenc (jlg 3))), (100, [], (jenc (jlg 4))), (100, [], (jenc (jlg 5))), (100, [], (jenc 0)), (100, [], (jenc e3))]) (jT_big (d := 0) (v := e3) (by omega) (by omega)) (by rfl) (by rfl) (by rfl) (by rfl) trivial (by rfl) (by rfl) (by omega) (by show 23 ≤ 24; omega) (by omega) (by omega) rfl rfl ?_
      refine jT_xaload_n (v := (4, 0)) (pcN := 29) jIY_214_28 rfl rfl rfl ?_
      refine jT_xgetf (a := 0) (t := 1) (ci := 14) (fi := 8) (c := jzY_329) (v := (4, 7)) (pcN := 32) jIY_214_29 rfl rfl rfl rfl rfl rfl rfl ?_
      refine jT_xiload_n (v := (0, 3)) (pcN := 33) jIY_214_32 rfl rfl rfl ?_
      refine jT_aald (x := 20) (a := 7) (j := 3) (fs := []) (X := [17, 18, 19, 20, 21, 22]) (kd := 130) jIY_214_33 rfl rfl rfl rfl rfl ?_
      refine jT_eq (LN := [(3, (0, 3)), (2, (4, 23)), (0, (4, 0)), (1, (4, 1))]) (stN := [(4, 20), (4, 24), (4, 23)]) (hsN := [jzY_329, (101, [], [e0, e1, e2, e3, e4, e5]), jgh, jgh, jgh, jgh, jgh, (130, [], [17, 18, 19, 20, 21, 22]), jgh, jgh, jgh, jgh, jgh, jgh, jgh, jgh, jgh, (100, [], (jenc (jlg 0))), (100, [], (jenc (jlg 1))), (100, [], (jenc (jlg 2))), (100, [], (jenc (jlg 3))), (100, [], (jenc (jlg 4))), (100, [], (jenc (jlg 5))), (100, [], (jenc 0)), (100, [], (jenc e3))]) rfl rfl rfl ?_
      refine jT_callA [24, 20] (y := 179) (pcN := 37) (dC := 1) (bc1 := 1) (bc2 := 56) (c1 := (b1 + 7)) (c2 := (b2 + 392)) (as := [(4, 24), (4, 20)]) (asC := [(4, 0), (4, 1)]) (LN := [(3, (0, 3)), (2, (4, 23)), (0, (4, 0)), (1, (4, 1))]) (stN := [(4, 23)]) (hsC := [(100, [], (jenc e3)), (100, [], (jenc (jlg 3)))]) (ex := [(100, [], (jenc (e3 * jlg 3)))]) (v := (4, 2)) (st2 := [(4, 25), (4, 23)]) (hs2 := [jzY_329, (101, [], [e0, e1, e2, e3, e4, e5]), jgh, jgh, jgh, jgh, jgh, (130, [], [17, 18, 19, 20, 21, 22]), jgh, jgh, jgh, jgh, jgh, jgh, jgh, jgh, jgh, (100, [], (jenc (jlg 0))), (100, [], (jenc (jlg 1))), (100, [], (jenc (jlg 2))), (100, [], (jenc (jlg 3))), (100, [], (jenc (jlg 4))), (100, [], (jenc (jlg 5))), (100, [], (jenc 0)), (100, [], (jenc e3)), (100, [], (jenc (e3 * jlg 3)))]) (jT_product (d := 0) (a := e3) (b := jlg 3) (jb54 (by omega) (by omega)) hp.1) (by rfl) (by rfl) (by rfl) (by rfl) ⟨rfl, rfl, trivial⟩ (by rfl) (by rfl) (by omega) (by show 23 ≤ 25; omega) (by omega) (by omega) rfl rfl ?_
      refine jT_callA [23, 25] (y := 181) (pcN := 40) (dC := 0) (bc1 := 0) (bc2 := 0) (c1 := (b1 + 7)) (c2 := (b2 + 392)) (as := [(4, 23), (4, 25)]) (asC := [(4, 0), (4, 1)]) (LN := [(3, (0, 3)), (2, (4, 23)), (0, (4, 0)), (1, (4, 1))]) (stN := []) (hsC := [(100, [], (jenc 0)), (100, [], (jenc (e3 * jlg 3)))]) (ex := []) (v := (4, 1)) (st2 := [(4, 25)]) (hs2 := [jzY_329, (101, [], [e0, e1, e2, e3, e4, e5]), jgh, jgh, jgh, jgh, jgh, (130, [], [17, 18, 19, 20, 21, 22]), jgh, jgh, jgh, jgh, jgh, jgh, jgh, jgh, jgh, (100, [], (jenc (jlg 0))), (100, [], (jenc (jlg 1))), (100, [], (jenc (jlg 2))), (100, [], (jenc (jlg 3))), (100, [], (jenc (jlg 4))), (100, [], (jenc (jlg 5))), (100, [], (jenc 0)), (100, [], (jenc e3)), (100, [], (jenc (e3 * jlg 3)))]) (jT_added_0l (d := 0) (b := e3 * jlg 3)) (by rfl) (by rfl) (by rfl) (by rfl) ⟨rfl, rfl, trivial⟩ (by rfl) (by rfl) (by omega) (by show 23 ≤ 26; omega) (by omega) (by omega) rfl rfl ?_
      refine jT_xastore_n (v := (4, 25)) (LN := [(2, (4, 25)), (3, (0, 3)), (0, (4, 0)), (1, (4, 1))]) (pcN := 41) jIY_214_40 rfl rfl rfl rfl ?_
      refine jT_xiinc (x := 3) (z := 4) (LN := [(3, (0, 4)), (2, (4, 25)), (0, (4, 0)), (1, (4, 1))]) (pcN := 44) jIY_214_41 rfl rfl (by decide) rfl rfl ?_
      refine jT_xgoto (pcN := 7) jIY_214_44 rfl ?_
      refine jT_loc (LN := [(3, (0, 4)), (2, (4, 25)), (0, (4, 0)), (1, (4, 1))]) (by show List.Nodup [3, 2, 0, 1]; decide) (by intro q hq; simp only [List.mem_cons, List.not_mem_nil, or_false] at hq; rcases hq with rfl | rfl | rfl | rfl <;> rfl) ?_
      refine jT_gc [0, 1, 2, 3, 4, 5, 6, 7, 8, 9, 10, 11, 12, 13, 14, 15, 16, 17, 18, 19, 20, 21, 22, 25] (hs0 := [jzY_329, (101, [], [e0, e1, e2, e3, e4, e5]), jgh, jgh, jgh, jgh, jgh, (130, [], [17, 18, 19, 20, 21, 22]), jgh, jgh, jgh, jgh, jgh, jgh, jgh, jgh, jgh, (100, [], (jenc (jlg 0))), (100, [], (jenc (jlg 1))), (100, [], (jenc (jlg 2))), (100, [], (jenc (jlg 3))), (100, [], (jenc (jlg 4))), (100, [], (jenc (jlg 5))), (100, [], jenc (e3 * jlg 3))]) (L0 := [(3, (0, 4)), (2, (4, 23)), (0, (4, 0)), (1, (4, 1))]) (st0 := []) (by show jgB [0, 1, 2, 3, 4, 5, 6, 7, 8, 9, 10, 11, 12, 13, 14, 15, 16, 17, 18, 19, 20, 21, 22, 25] 26 = true; decide +kernel) rfl ⟨rfl, rfl, rfl, rfl, rfl, rfl, rfl, rfl, rfl, rfl, rfl, rfl, rfl, rfl, rfl, rfl, rfl, rfl, rfl, rfl, rfl, rfl, rfl, rfl, trivial⟩ rfl rfl (by decide +kernel) ?_
      exact jT.mono (jYl_lg_81_4 hd h_e0 h_e1 h_e2 h_e3 h_e4 h_e5 (Nat.le_trans hp.2.2 (by decide)) (by rw [Int.zero_add] at hw; exact hw) h) (Nat.le_refl _) (by omega) (by omega) (fun _ _ _ z => z)
    · refine jT_xiload_n (v := (0, 3)) (pcN := 8) jIY_214_7 rfl rfl rfl ?_
      refine jT_xbipush (k := 6) (pcN := 10) jIY_214_8 (by decide) rfl ?_
      refine jT_xicF (t := 47) (pcN := 13) jIY_214_10 rfl (by decide +kernel) rfl rfl ?_
      refine jT_xaload_n (v := (4, 1)) (pcN := 14) jIY_214_13 rfl rfl rfl ?_
      refine jT_xiload_n (v := (0, 3)) (pcN := 15) jIY_214_14 rfl rfl rfl ?_
      refine jT_lald (x := e3) (a := 1) (j := 3) (fs := []) (X := [e0, e1, e2, e3, e4, e5]) jIY_214_15 rfl rfl rfl rfl ?_
      refine jT_eq (LN := [(3, (0, 3)), (2, (4, 23)), (0, (4, 0)), (1, (4, 1))]) (stN := [(1, e3)]) (hsN := [jzY_329, (101, [], [e0, e1, e2, e3, e4, e5]), jgh, jgh, jgh, jgh, jgh, (130, [], [17, 18, 19, 20, 21, 22]), jgh, jgh, jgh, jgh, jgh, jgh, jgh, jgh, jgh, (100, [], (jenc (jlg 0))), (100, [], (jenc (jlg 1))), (100, [], (jenc (jlg 2))), (100, [], (jenc (jlg 3))), (100, [], (jenc (jlg 4))), (100, [], (jenc (jlg 5))), (100, [], (jenc a))]) rfl rfl rfl ?_
      refine jT_xlconst (z := 0) (pcN := 17) jIY_214_16 rfl rfl ?_
      refine jT_lcmp (a := e3) (b := 0) (z := 1) (by rfl) (by rfl) (jwl_idd (by omega) (by omega)) (jwl_idd (by omega) (by omega)) (by rw [decide_eq_true (show (0 : Int) < e3 by omega)]; rfl) ?_
      refine jT_xifF (t := 41) (pcN := 21) jIY_214_18 rfl (by decide +kernel) rfl rfl ?_
      refine jT_xaload_n (v := (4, 23)) (pcN := 22) jIY_214_21 rfl rfl rfl ?_
      refine jT_xaload_n (v := (4, 1)) (pcN := 23) jIY_214_22 rfl rfl rfl ?_
      refine jT_xiload_n (v := (0, 3)) (pcN := 24) jIY_214_23 rfl rfl rfl ?_
      refine jT_lald (x := e3) (a := 1) (j := 3) (fs := []) (X := [e0, e1, e2, e3, e4, e5]) jIY_214_24 rfl rfl rfl rfl ?_
      refine jT_eq (LN := [(3, (0, 3)), (2, (4, 23)), (0, (4, 0)), (1, (4, 1))]) (stN := [(1, e3), (4, 23)]) (hsN := [jzY_329, (101, [], [e0, e1, e2, e3, e4, e5]), jgh, jgh, jgh, jgh, jgh, (130, [], [17, 18, 19, 20, 21, 22]), jgh, jgh, jgh, jgh, jgh, jgh, jgh, jgh, jgh, (100, [], (jenc (jlg 0))), (100, [], (jenc (jlg 1))), (100, [], (jenc (jlg 2))), (100, [], (jenc (jlg 3))), (100, [], (jenc (jlg 4))), (100, [], (jenc (jlg 5))), (100, [], (jenc a))]) rfl rfl rfl ?_
      refine jT_callA [] (y := 178) (pcN := 28) (dC := 1) (bc1 := 1) (bc2 := 56) (c1 := (b1 + 8)) (c2 := (b2 + 448)) (as := [(1, e3)]) (asC := [(1, e3)]) (LN := [(3, (0, 3)), (2, (4, 23)), (0, (4, 0)), (1, (4, 1))]) (stN := [(4, 23)]) (hsC := []) (ex := [(100, [], (jenc e3))]) (v := (4, 0)) (st2 := [(4, 24), (4, 23)]) (hs2 := [jzY_329, (101, [], [e0, e1, e2, e3, e4, e5]), jgh, jgh, jgh, jgh, jgh, (130, [], [17, 18, 19, 20, 21, 22]), jgh, jgh, jgh, jgh, jgh, jgh, jgh, jgh, jgh, (100, [], (jenc (jlg 0))), (100, [], (jenc (jlg 1))), (100, [], (jenc (jlg 2))), (100, [], (jenc (jlg 3))), (100, [], (jenc (jlg 4))), (100, [], (jenc (jlg 5))), (100, [], (jenc a)), (100, [], (jenc e3))]) (jT_big (d := 0) (v := e3) (by omega) (by omega)) (by rfl) (by rfl) (by rfl) (by rfl) trivial (by rfl) (by rfl) (by omega) (by show 23 ≤ 24; omega) (by omega) (by omega) rfl rfl ?_
      refine jT_xaload_n (v := (4, 0)) (pcN := 29) jIY_214_28 rfl rfl rfl ?_
      refine jT_xgetf (a := 0) (t := 1) (ci := 14) (fi := 8) (c := jzY_329) (v := (4, 7)) (pcN := 32) jIY_214_29 rfl rfl rfl rfl rfl rfl rfl ?_
      refine jT_xiload_n (v := (0, 3)) (pcN := 33) jIY_214_32 rfl rfl rfl ?_
      refine jT_aald (x := 20) (a := 7) (j := 3) (fs := []) (X := [17, 18, 19, 20, 21, 22]) (kd := 130) jIY_214_33 rfl rfl rfl rfl rfl ?_
      refine jT_eq (LN := [(3, (0, 3)), (2, (4, 23)), (0, (4, 0)), (1, (4, 1))]) (stN := [(4, 20), (4, 24), (4, 23)]) (hsN := [jzY_329, (101, [], [e0, e1, e2, e3, e4, e5]), jgh, jgh, jgh, jgh, jgh, (130, [], [17, 18, 19, 20, 21, 22]), jgh, jgh, jgh, jgh, jgh, jgh, jgh, jgh, jgh, (100, [], (jenc (jlg 0))), (100, [], (jenc (jlg 1))), (100, [], (jenc (jlg 2))), (100, [], (jenc (jlg 3))), (100, [], (jenc (jlg 4))), (100, [], (jenc (jlg 5))), (100, [], (jenc a)), (100, [], (jenc e3))]) rfl rfl rfl ?_
      refine jT_callA [24, 20] (y := 179) (pcN := 37) (dC := 1) (bc1 := 1) (bc2 := 56) (c1 := (b1 + 7)) (c2 := (b2 + 392)) (as := [(4, 24), (4, 20)]) (asC := [(4, 0), (4, 1)]) (LN := [(3, (0, 3)), (2, (4, 23)), (0, (4, 0)), (1, (4, 1))]) (stN := [(4, 23)]) (hsC := [(100, [], (jenc e3)), (100, [], (jenc (jlg 3)))]) (ex := [(100, [], (jenc (e3 * jlg 3)))]) (v := (4, 2)) (st2 := [(4, 25), (4, 23)]) (hs2 := [jzY_329, (101, [], [e0, e1, e2, e3, e4, e5]), jgh, jgh, jgh, jgh, jgh, (130, [], [17, 18, 19, 20, 21, 22]), jgh, jgh, jgh, jgh, jgh, jgh, jgh, jgh, jgh, (100, [], (jenc (jlg 0))), (100, [], (jenc (jlg 1))), (100, [], (jenc (jlg 2))), (100, [], (jenc (jlg 3))), (100, [], (jenc (jlg 4))), (100, [], (jenc (jlg 5))), (100, [], (jenc a)), (100, [], (jenc e3)), (100, [], (jenc (e3 * jlg 3)))]) (jT_product (d := 0) (a := e3) (b := jlg 3) (jb54 (by omega) (by omega)) hp.1) (by rfl) (by rfl) (by rfl) (by rfl) ⟨rfl, rfl, trivial⟩ (by rfl) (by rfl) (by omega) (by show 23 ≤ 25; omega) (by omega) (by omega) rfl rfl ?_
      refine jT_callA [23, 25] (y := 181) (pcN := 40) (dC := 1) (bc1 := 1) (bc2 := 56) (c1 := (b1 + 6)) (c2 := (b2 + 336)) (as := [(4, 23), (4, 25)]) (asC := [(4, 0), (4, 1)]) (LN := [(3, (0, 3)), (2, (4, 23)), (0, (4, 0)), (1, (4, 1))]) (stN := []) (hsC := [(100, [], (jenc a)), (100, [], (jenc (e3 * jlg 3)))]) (ex := [(100, [], (jenc (a + (e3 * jlg 3))))]) (v := (4, 2)) (st2 := [(4, 26)]) (hs2 := [jzY_329, (101, [], [e0, e1, e2, e3, e4, e5]), jgh, jgh, jgh, jgh, jgh, (130, [], [17, 18, 19, 20, 21, 22]), jgh, jgh, jgh, jgh, jgh, jgh, jgh, jgh, jgh, (100, [], (jenc (jlg 0))), (100, [], (jenc (jlg 1))), (100, [], (jenc (jlg 2))), (100, [], (jenc (jlg 3))), (100, [], (jenc (jlg 4))), (100, [], (jenc (jlg 5))), (100, [], (jenc a)), (100, [], (jenc e3)), (100, [], (jenc (e3 * jlg 3))), (100, [], (jenc (a + (e3 * jlg 3))))]) (jT_added (d := 0) (a := a) (b := e3 * jlg 3) ga hp.2.1 (jb54k ha (by decide)) hp.1 (jb54a ha hp.2.2 (by decide))) (by rfl) (by rfl) (by rfl) (by rfl) ⟨rfl, rfl, trivial⟩ (by rfl) (by rfl) (by omega) (by show 23 ≤ 26; omega) (by omega) (by omega) rfl rfl ?_
      refine jT_xastore_n (v := (4, 26)) (LN := [(2, (4, 26)), (3, (0, 3)), (0, (4, 0)), (1, (4, 1))]) (pcN := 41) jIY_214_40 rfl rfl rfl rfl ?_
      refine jT_xiinc (x := 3) (z := 4) (LN := [(3, (0, 4)), (2, (4, 26)), (0, (4, 0)), (1, (4, 1))]) (pcN := 44) jIY_214_41 rfl rfl (by decide) rfl rfl ?_
      refine jT_xgoto (pcN := 7) jIY_214_44 rfl ?_
      refine jT_loc (LN := [(3, (0, 4)), (2, (4, 26)), (0, (4, 0)), (1, (4, 1))]) (by show List.Nodup [3, 2, 0, 1]; decide) (by intro q hq; simp only [List.mem_cons, List.not_mem_nil, or_false] at hq; rcases hq with rfl | rfl | rfl | rfl <;> rfl) ?_
      refine jT_gc [0, 1, 2, 3, 4, 5, 6, 7, 8, 9, 10, 11, 12, 13, 14, 15, 16, 17, 18, 19, 20, 21, 22, 26] (hs0 := [jzY_329, (101, [], [e0, e1, e2, e3, e4, e5]), jgh, jgh, jgh, jgh, jgh, (130, [], [17, 18, 19, 20, 21, 22]), jgh, jgh, jgh, jgh, jgh, jgh, jgh, jgh, jgh, (100, [], (jenc (jlg 0))), (100, [], (jenc (jlg 1))), (100, [], (jenc (jlg 2))), (100, [], (jenc (jlg 3))), (100, [], (jenc (jlg 4))), (100, [], (jenc (jlg 5))), (100, [], jenc (a + (e3 * jlg 3)))]) (L0 := [(3, (0, 4)), (2, (4, 23)), (0, (4, 0)), (1, (4, 1))]) (st0 := []) (by show jgB [0, 1, 2, 3, 4, 5, 6, 7, 8, 9, 10, 11, 12, 13, 14, 15, 16, 17, 18, 19, 20, 21, 22, 26] 27 = true; decide +kernel) rfl ⟨rfl, rfl, rfl, rfl, rfl, rfl, rfl, rfl, rfl, rfl, rfl, rfl, rfl, rfl, rfl, rfl, rfl, rfl, rfl, rfl, rfl, rfl, rfl, rfl, trivial⟩ rfl rfl (by decide +kernel) ?_
      exact jT.mono (jYl_lg_81_4 hd h_e0 h_e1 h_e2 h_e3 h_e4 h_e5 (jb1c ha hp.2.2 (by decide)) (by rw [← Int.add_assoc] at hw; exact hw) h) (Nat.le_refl _) (by omega) (by omega) (fun _ _ _ z => z)
theorem jYl_lg_81_2 {xs : List Int} {d b1 b2 : Nat} {Q : Nat → JV → List JC → Prop} (hd : 1 < d) {a w e0 e1 e2 e3 e4 e5 : Int} (h_e0 : -4611686018427387903 ≤ e0 ∧ e0 ≤ 4611686018427387903) (h_e1 : -4611686018427387903 ≤ e1 ∧ e1 ≤ 4611686018427387903) (h_e2 : -4611686018427387903 ≤ e2 ∧ e2 ≤ 4611686018427387903) (h_e3 : -4611686018427387903 ≤ e3 ∧ e3 ≤ 4611686018427387903) (h_e4 : -4611686018427387903 ≤ e4 ∧ e4 ≤ 4611686018427387903) (h_e5 : -4611686018427387903 ≤ e5 ∧ e5 ≤ 4611686018427387903) (ha : a.natAbs ≤ 2 * 10 ^ 220) (hw : a + (e2 * jlg 2 + (e3 * jlg 3 + (e4 * jlg 4 + (e5 * jlg 5)))) = w) (h : jT xs d 214 23 47 [(2, (4, 23))] [] [jzY_329, (101, [], [e0, e1, e2, e3, e4, e5]), jgh, jgh, jgh, jgh, jgh, (130, [], [17, 18, 19, 20, 21, 22]), jgh, jgh, jgh, jgh, jgh, jgh, jgh, jgh, jgh, (100, [], (jenc (jlg 0))), (100, [], (jenc (jlg 1))), (100, [], (jenc (jlg 2))), (100, [], (jenc (jlg 3))), (100, [], (jenc (jlg 4))), (100, [], (jenc (jlg 5))), (100, [], jenc w)] b1 b2 Q) : jT xs d 214 23 7 [(3, (0, 2)), (2, (4, 23)), (0, (4, 0)), (1, (4, 1))] [] [jzY_329, (101, [], [e0, e1, e2, e3, e4, e5]), jgh, jgh, jgh, jgh, jgh, (130, [], [17, 18, 19, 20, 21, 22]), jgh, jgh, jgh, jgh, jgh, jgh, jgh, jgh, jgh, (100, [], (jenc (jlg 0))), (100, [], (jenc (jlg 1))), (100, [], (jenc (jlg 2))), (100, [], (jenc (jlg 3))), (100, [], (jenc (jlg 4))), (100, [], (jenc (jlg 5))), (100, [], jenc a)] (b1 + 12) (b2 + 672) Q := by
  rcases (show (e2 < 0) ∨ (e2 = 0) ∨ (0 < e2) by omega) with g_0 | g_0 | g_0
  · have hp := jlz_m (k := 2) (e := e2) (by decide) (by omega) (by omega)
    rcases (show (a = 0) ∨ (a ≠ 0) by omega) with ga | ga
    · subst ga
      refine jT_xiload_n (v := (0, 2)) (pcN := 8) jIY_214_7 rfl rfl rfl ?_
      refine jT_xbipush (k := 6) (pcN := 10) jIY_214_8 (by decide) rfl ?_
      refine jT_xicF (t := 47) (pcN := 13) jIY_214_10 rfl (by decide +kernel) rfl rfl ?_
      refine jT_xaload_n (v := (4, 1)) (pcN := 14) jIY_214_13 rfl rfl rfl ?_
      refine jT_xiload_n (v := (0, 2)) (pcN := 15) jIY_214_14 rfl rfl rfl ?_
      refine jT_lald (x := e2) (a := 1) (j := 2) (fs := []) (X := [e0, e1, e2, e3, e4, e5]) jIY_214_15 rfl rfl rfl rfl ?_
      refine jT_eq (LN := [(3, (0, 2)), (2, (4, 23)), (0, (4, 0)), (1, (4, 1))]) (stN := [(1, e2)]) (hsN := [jzY_329, (101, [], [e0, e1, e2, e3, e4, e5]), jgh, jgh, jgh, jgh, jgh, (130, [], [17, 18, 19, 20, 21, 22]), jgh, jgh, jgh, jgh, jgh, jgh, jgh, jgh, jgh, (100, [], (jenc (jlg 0))), (100, [], (jenc (jlg 1))), (100, [], (jenc (jlg 2))), (100, [], (jenc (jlg 3))), (100, [], (jenc (jlg 4))), (100, [], (jenc (jlg 5))), (100, [], (jenc 0))]) rfl rfl rfl ?_
      refine jT_xlconst (z := 0) (pcN := 17) jIY_214_16 rfl rfl ?_
      refine jT_lcmp (a := e2) (b := 0) (z := (-1)) (by rfl) (by rfl) (jwl_idd (by omega) (by omega)) (jwl_idd (by omega) (by omega)) (by rw [decide_eq_false (show ¬ ((0 : Int) < e2) by omega), decide_eq_false (show ¬ ((e2 : Int) = 0) by omega)]; rfl) ?_
      refine jT_xifF (t := 41) (pcN := 21) jIY_214_18 rfl (by decide +kernel) rfl rfl ?_
      refine jT_xaload_n (v := (4, 23)) (pcN := 22) jIY_214_21 rfl rfl rfl ?_
      refine jT_xaload_n (v := (4, 1)) (pcN := 23) jIY_214_22 rfl rfl rfl ?_
      refine jT_xiload_n (v := (0, 2)) (pcN := 24) jIY_214_23 rfl rfl rfl ?_
      refine jT_lald (x := e2) (a := 1) (j := 2) (fs := []) (X := [e0, e1, e2, e3, e4, e5]) jIY_214_24 rfl rfl rfl rfl ?_
      refine jT_eq (LN := [(3, (0, 2)), (2, (4, 23)), (0, (4, 0)), (1, (4, 1))]) (stN := [(1, e2), (4, 23)]) (hsN := [jzY_329, (101, [], [e0, e1, e2, e3, e4, e5]), jgh, jgh, jgh, jgh, jgh, (130, [], [17, 18, 19, 20, 21, 22]), jgh, jgh, jgh, jgh, jgh, jgh, jgh, jgh, jgh, (100, [], (jenc (jlg 0))), (100, [], (jenc (jlg 1))), (100, [], (jenc (jlg 2))), (100, [], (jenc (jlg 3))), (100, [], (jenc (jlg 4))), (100, [], (jenc (jlg 5))), (100, [], (jenc 0))]) rfl rfl rfl ?_
      refine jT_callA [] (y := 178) (pcN := 28) (dC := 1) (bc1 := 1) (bc2 := 56) (c1 := (b1 + 11)) (c2 := (b2 + 616)) (as := [(1, e2)]) (asC := [(1, e2)]) (LN := [(3, (0, 2)), (2, (4, 23)), (0, (4, 0)), (1, (4, 1))]) (stN := [(4, 23)]) (hsC := []) (ex := [(100, [], (jenc e2))]) (v := (4, 0)) (st2 := [(4, 24), (4, 23)]) (hs2 := [jzY_329, (101, [], [e0, e1, e2, e3, e4, e5]), jgh, jgh, jgh, jgh, jgh, (130, [], [17, 18, 19, 20, 21, 22]), jgh, jgh, jgh, jgh, jgh, jgh, jgh, jgh, jgh, (100, [], (jenc (jlg 0))), (100, [], (jenc (jlg 1))), (100, [], (jenc (jlg 2))), (100, [], (jenc (jlg 3))), (100, [], (jenc (jlg 4))), (100, [], (jenc (jlg 5))), (100, [], (jenc 0)), (100, [], (jenc e2))]) (jT_big (d := 0) (v := e2) (by omega) (by omega)) (by rfl) (by rfl) (by rfl) (by rfl) trivial (by rfl) (by rfl) (by omega) (by show 23 ≤ 24; omega) (by omega) (by omega) rfl rfl ?_
      refine jT_xaload_n (v := (4, 0)) (pcN := 29) jIY_214_28 rfl rfl rfl ?_
      refine jT_xgetf (a := 0) (t := 1) (ci := 14) (fi := 8) (c := jzY_329) (v := (4, 7)) (pcN := 32) jIY_214_29 rfl rfl rfl rfl rfl rfl rfl ?_
      refine jT_xiload_n (v := (0, 2)) (pcN := 33) jIY_214_32 rfl rfl rfl ?_
      refine jT_aald (x := 19) (a := 7) (j := 2) (fs := []) (X := [17, 18, 19, 20, 21, 22]) (kd := 130) jIY_214_33 rfl rfl rfl rfl rfl ?_
      refine jT_eq (LN := [(3, (0, 2)), (2, (4, 23)), (0, (4, 0)), (1, (4, 1))]) (stN := [(4, 19), (4, 24), (4, 23)]) (hsN := [jzY_329, (101, [], [e0, e1, e2, e3, e4, e5]), jgh, jgh, jgh, jgh, jgh, (130, [], [17, 18, 19, 20, 21, 22]), jgh, jgh, jgh, jgh, jgh, jgh, jgh, jgh, jgh, (100, [], (jenc (jlg 0))), (100, [], (jenc (jlg 1))), (100, [], (jenc (jlg 2))), (100, [], (jenc (jlg 3))), (100, [], (jenc (jlg 4))), (100, [], (jenc (jlg 5))), (100, [], (jenc 0)), (100, [], (jenc e2))]) rfl rfl rfl ?_
      refine jT_callA [24, 19] (y := 179) (pcN := 37) (dC := 1) (bc1 := 1) (bc2 := 56) (c1 := (b1 + 10)) (c2 := (b2 + 560)) (as := [(4, 24), (4, 19)]) (asC := [(4, 0), (4, 1)]) (LN := [(3, (0, 2)), (2, (4, 23)), (0, (4, 0)), (1, (4, 1))]) (stN := [(4, 23)]) (hsC := [(100, [], (jenc e2)), (100, [], (jenc (jlg 2)))]) (ex := [(100, [], (jenc (e2 * jlg 2)))]) (v := (4, 2)) (st2 := [(4, 25), (4, 23)]) (hs2 := [jzY_329, (101, [], [e0, e1, e2, e3, e4, e5]), jgh, jgh, jgh, jgh, jgh, (130, [], [17, 18, 19, 20, 21, 22]), jgh, jgh, jgh, jgh, jgh, jgh, jgh, jgh, jgh, (100, [], (jenc (jlg 0))), (100, [], (jenc (jlg 1))), (100, [], (jenc (jlg 2))), (100, [], (jenc (jlg 3))), (100, [], (jenc (jlg 4))), (100, [], (jenc (jlg 5))), (100, [], (jenc 0)), (100, [], (jenc e2)), (100, [], (jenc (e2 * jlg 2)))]) (jT_product (d := 0) (a := e2) (b := jlg 2) (jb54 (by omega) (by omega)) hp.1) (by rfl) (by rfl) (by rfl) (by rfl) ⟨rfl, rfl, trivial⟩ (by rfl) (by rfl) (by omega) (by show 23 ≤ 25; omega) (by omega) (by omega) rfl rfl ?_
      refine jT_callA [23, 25] (y := 181) (pcN := 40) (dC := 0) (bc1 := 0) (bc2 := 0) (c1 := (b1 + 10)) (c2 := (b2 + 560)) (as := [(4, 23), (4, 25)]) (asC := [(4, 0), (4, 1)]) (LN := [(3, (0, 2)), (2, (4, 23)), (0, (4, 0)), (1, (4, 1))]) (stN := []) (hsC := [(100, [], (jenc 0)), (100, [], (jenc (e2 * jlg 2)))]) (ex := []) (v := (4, 1)) (st2 := [(4, 25)]) (hs2 := [jzY_329, (101, [], [e0, e1, e2, e3, e4, e5]), jgh, jgh, jgh, jgh, jgh, (130, [], [17, 18, 19, 20, 21, 22]), jgh, jgh, jgh, jgh, jgh, jgh, jgh, jgh, jgh, (100, [], (jenc (jlg 0))), (100, [], (jenc (jlg 1))), (100, [], (jenc (jlg 2))), (100, [], (jenc (jlg 3))), (100, [], (jenc (jlg 4))), (100, [], (jenc (jlg 5))), (100, [], (jenc 0)), (100, [], (jenc e2)), (100, [], (jenc (e2 * jlg 2)))]) (jT_added_0l (d := 0) (b := e2 * jlg 2)) (by rfl) (by rfl) (by rfl) (by rfl) ⟨rfl, rfl, trivial⟩ (by rfl) (by rfl) (by omega) (by show 23 ≤ 26; omega) (by omega) (by omega) rfl rfl ?_
      refine jT_xastore_n (v := (4, 25)) (LN := [(2, (4, 25)), (3, (0, 2)), (0, (4, 0)), (1, (4, 1))]) (pcN := 41) jIY_214_40 rfl rfl rfl rfl ?_
      refine jT_xiinc (x := 2) (z := 3) (LN := [(3, (0, 3)), (2, (4, 25)), (0, (4, 0)), (1, (4, 1))]) (pcN := 44) jIY_214_41 rfl rfl (by decide) rfl rfl ?_
      refine jT_xgoto (pcN := 7) jIY_214_44 rfl ?_
      refine jT_loc (LN := [(3, (0, 3)), (2, (4, 25)), (0, (4, 0)), (1, (4, 1))]) (by show List.Nodup [3, 2, 0, 1]; decide) (by intro q hq; simp only [List.mem_cons, List.not_mem_nil, or_false] at hq; rcases hq with rfl | rfl | rfl | rfl <;> rfl) ?_
      refine jT_gc [0, 1, 2, 3, 4, 5, 6, 7, 8, 9, 10, 11, 12, 13, 14, 15, 16, 17, 18, 19, 20, 21, 22, 25] (hs0 := [jzY_329, (101, [], [e0, e1, e2, e3, e4, e5]), jgh, jgh, jgh, jgh, jgh, (130, [], [17, 18, 19, 20, 21, 22]), jgh, jgh, jgh, jgh, jgh, jgh, jgh, jgh, jgh, (100, [], (jenc (jlg 0))), (100, [], (jenc (jlg 1))), (100, [], (jenc (jlg 2))), (100, [], (jenc (jlg 3))), (100, [], (jenc (jlg 4))), (100, [], (jenc (jlg 5))), (100, [], jenc (e2 * jlg 2))]) (L0 := [(3, (0, 3)), (2, (4, 23)), (0, (4, 0)), (1, (4, 1))]) (st0 := []) (by show jgB [0, 1, 2, 3, 4, 5, 6, 7, 8, 9, 10, 11, 12, 13, 14, 15, 16, 17, 18, 19, 20, 21, 22, 25] 26 = true; decide +kernel) rfl ⟨rfl, rfl, rfl, rfl, rfl, rfl, rfl, rfl, rfl, rfl, rfl, rfl, rfl, rfl, rfl, rfl, rfl, rfl, rfl, rfl, rfl, rfl, rfl, rfl, trivial⟩ rfl rfl (by decide +kernel) ?_
      exact jT.mono (jYl_lg_81_3 hd h_e0 h_e1 h_e2 h_e3 h_e4 h_e5 (Nat.le_trans hp.2.2 (by decide)) (by rw [Int.zero_add] at hw; exact hw) h) (Nat.le_refl _) (by omega) (by omega) (fun _ _ _ z => z)
    · refine jT_xiload_n (v := (0, 2)) (pcN := 8) jIY_214_7 rfl rfl rfl ?_
      refine jT_xbipush (k := 6) (pcN := 10) jIY_214_8 (by decide) rfl ?_
      refine jT_xicF (t := 47) (pcN := 13) jIY_214_10 rfl (by decide +kernel) rfl rfl ?_
      refine jT_xaload_n (v := (4, 1)) (pcN := 14) jIY_214_13 rfl rfl rfl ?_
      refine jT_xiload_n (v := (0, 2)) (pcN := 15) jIY_214_14 rfl rfl rfl ?_
      refine jT_lald (x := e2) (a := 1) (j := 2) (fs := []) (X := [e0, e1, e2, e3, e4, e5]) jIY_214_15 rfl rfl rfl rfl ?_
      refine jT_eq (LN := [(3, (0, 2)), (2, (4, 23)), (0, (4, 0)), (1, (4, 1))]) (stN := [(1, e2)]) (hsN := [jzY_329, (101, [], [e0, e1, e2, e3, e4, e5]), jgh, jgh, jgh, jgh, jgh, (130, [], [17, 18, 19, 20, 21, 22]), jgh, jgh, jgh, jgh, jgh, jgh, jgh, jgh, jgh, (100, [], (jenc (jlg 0))), (100, [], (jenc (jlg 1))), (100, [], (jenc (jlg 2))), (100, [], (jenc (jlg 3))), (100, [], (jenc (jlg 4))), (100, [], (jenc (jlg 5))), (100, [], (jenc a))]) rfl rfl rfl ?_
      refine jT_xlconst (z := 0) (pcN := 17) jIY_214_16 rfl rfl ?_
      refine jT_lcmp (a := e2) (b := 0) (z := (-1)) (by rfl) (by rfl) (jwl_idd (by omega) (by omega)) (jwl_idd (by omega) (by omega)) (by rw [decide_eq_false (show ¬ ((0 : Int) < e2) by omega), decide_eq_false (show ¬ ((e2 : Int) = 0) by omega)]; rfl) ?_
      refine jT_xifF (t := 41) (pcN := 21) jIY_214_18 rfl (by decide +kernel) rfl rfl ?_
      refine jT_xaload_n (v := (4, 23)) (pcN := 22) jIY_214_21 rfl rfl rfl ?_
      refine jT_xaload_n (v := (4, 1)) (pcN := 23) jIY_214_22 rfl rfl rfl ?_
      refine jT_xiload_n (v := (0, 2)) (pcN := 24) jIY_214_23 rfl rfl rfl ?_
      refine jT_lald (x := e2) (a := 1) (j := 2) (fs := []) (X := [e0, e1, e2, e3, e4, e5]) jIY_214_24 rfl rfl rfl rfl ?_
      refine jT_eq (LN := [(3, (0, 2)), (2, (4, 23)), (0, (4, 0)), (1, (4, 1))]) (stN := [(1, e2), (4, 23)]) (hsN := [jzY_329, (101, [], [e0, e1, e2, e3, e4, e5]), jgh, jgh, jgh, jgh, jgh, (130, [], [17, 18, 19, 20, 21, 22]), jgh, jgh, jgh, jgh, jgh, jgh, jgh, jgh, jgh, (100, [], (jenc (jlg 0))), (100, [], (jenc (jlg 1))), (100, [], (jenc (jlg 2))), (100, [], (jenc (jlg 3))), (100, [], (jenc (jlg 4))), (100, [], (jenc (jlg 5))), (100, [], (jenc a))]) rfl rfl rfl ?_
      refine jT_callA [] (y := 178) (pcN := 28) (dC := 1) (bc1 := 1) (bc2 := 56) (c1 := (b1 + 11)) (c2 := (b2 + 616)) (as := [(1, e2)]) (asC := [(1, e2)]) (LN := [(3, (0, 2)), (2, (4, 23)), (0, (4, 0)), (1, (4, 1))]) (stN := [(4, 23)]) (hsC := []) (ex := [(100, [], (jenc e2))]) (v := (4, 0)) (st2 := [(4, 24), (4, 23)]) (hs2 := [jzY_329, (101, [], [e0, e1, e2, e3, e4, e5]), jgh, jgh, jgh, jgh, jgh, (130, [], [17, 18, 19, 20, 21, 22]), jgh, jgh, jgh, jgh, jgh, jgh, jgh, jgh, jgh, (100, [], (jenc (jlg 0))), (100, [], (jenc (jlg 1))), (100, [], (jenc (jlg 2))), (100, [], (jenc (jlg 3))), (100, [], (jenc (jlg 4))), (100, [], (jenc (jlg 5))), (100, [], (jenc a)), (100, [], (jenc e2))]) (jT_big (d := 0) (v := e2) (by omega) (by omega)) (by rfl) (by rfl) (by rfl) (by rfl) trivial (by rfl) (by rfl) (by omega) (by show 23 ≤ 24; omega) (by omega) (by omega) rfl rfl ?_
      refine jT_xaload_n (v := (4, 0)) (pcN := 29) jIY_214_28 rfl rfl rfl ?_
      refine jT_xgetf (a := 0) (t := 1) (ci := 14) (fi := 8) (c := jzY_329) (v := (4, 7)) (pcN := 32) jIY_214_29 rfl rfl rfl rfl rfl rfl rfl ?_
      refine jT_xiload_n (v := (0, 2)) (pcN := 33) jIY_214_32 rfl rfl rfl ?_
      refine jT_aald (x := 19) (a := 7) (j := 2) (fs := []) (X := [17, 18, 19, 20, 21, 22]) (kd := 130) jIY_214_33 rfl rfl rfl rfl rfl ?_
      refine jT_eq (LN := [(3, (0, 2)), (2, (4, 23)), (0, (4, 0)), (1, (4, 1))]) (stN := [(4, 19), (4, 24), (4, 23)]) (hsN := [jzY_329, (101, [], [e0, e1, e2, e3, e4, e5]), jgh, jgh, jgh, jgh, jgh, (130, [], [17, 18, 19, 20, 21, 22]), jgh, jgh, jgh, jgh, jgh, jgh, jgh, jgh, jgh, (100, [], (jenc (jlg 0))), (100, [], (jenc (jlg 1))), (100, [], (jenc (jlg 2))), (100, [], (jenc (jlg 3))), (100, [], (jenc (jlg 4))), (100, [], (jenc (jlg 5))), (100, [], (jenc a)), (100, [], (jenc e2))]) rfl rfl rfl ?_
      refine jT_callA [24, 19] (y := 179) (pcN := 37) (dC := 1) (bc1 := 1) (bc2 := 56) (c1 := (b1 + 10)) (c2 := (b2 + 560)) (as := [(4, 24), (4, 19)]) (asC := [(4, 0), (4, 1)]) (LN := [(3, (0, 2)), (2, (4, 23)), (0, (4, 0)), (1, (4, 1))]) (stN := [(4, 23)]) (hsC := [(100, [], (jenc e2)), (100, [], (jenc (jlg 2)))]) (ex := [(100, [], (jenc (e2 * jlg 2)))]) (v := (4, 2)) (st2 := [(4, 25), (4, 23)]) (hs2 := [jzY_329, (101, [], [e0, e1, e2, e3, e4, e5]), jgh, jgh, jgh, jgh, jgh, (130, [], [17, 18, 19, 20, 21, 22]), jgh, jgh, jgh, jgh, jgh, jgh, jgh, jgh, jgh, (100, [], (jenc (jlg 0))), (100, [], (jenc (jlg 1))), (100, [], (jenc (jlg 2))), (100, [], (jenc (jlg 3))), (100, [], (jenc (jlg 4))), (100, [], (jenc (jlg 5))), (100, [], (jenc a)), (100, [], (jenc e2)), (100, [], (jenc (e2 * jlg 2)))]) (jT_product (d := 0) (a := e2) (b := jlg 2) (jb54 (by omega) (by omega)) hp.1) (by rfl) (by rfl) (by rfl) (by rfl) ⟨rfl, rfl, trivial⟩ (by rfl) (by rfl) (by omega) (by show 23 ≤ 25; omega) (by omega) (by omega) rfl rfl ?_
      refine jT_callA [23, 25] (y := 181) (pcN := 40) (dC := 1) (bc1 := 1) (bc2 := 56) (c1 := (b1 + 9)) (c2 := (b2 + 504)) (as := [(4, 23), (4, 25)]) (asC := [(4, 0), (4, 1)]) (LN := [(3, (0, 2)), (2, (4, 23)), (0, (4, 0)), (1, (4, 1))]) (stN := []) (hsC := [(100, [], (jenc a)), (100, [], (jenc (e2 * jlg 2)))]) (ex := [(100, [], (jenc (a + (e2 * jlg 2))))]) (v := (4, 2)) (st2 := [(4, 26)]) (hs2 := [jzY_329, (101, [], [e0, e1, e2, e3, e4, e5]), jgh, jgh, jgh, jgh, jgh, (130, [], [17, 18, 19, 20, 21, 22]), jgh, jgh, jgh, jgh, jgh, jgh, jgh, jgh, jgh, (100, [], (jenc (jlg 0))), (100, [], (jenc (jlg 1))), (100, [], (jenc (jlg 2))), (100, [], (jenc (jlg 3))), (100, [], (jenc (jlg 4))), (100, [], (jenc (jlg 5))), (100, [], (jenc a)), (100, [], (jenc e2)), (100, [], (jenc (e2 * jlg 2))), (100, [], (jenc (a + (e2 * jlg 2))))]) (jT_added (d := 0) (a := a) (b := e2 * jlg 2) ga hp.2.1 (jb54k ha (by decide)) hp.1 (jb54a ha hp.2.2 (by decide))) (by rfl) (by rfl) (by rfl) (by rfl) ⟨rfl, rfl, trivial⟩ (by rfl) (by rfl) (by omega) (by show 23 ≤ 26; omega) (by omega) (by omega) rfl rfl ?_
      refine jT_xastore_n (v := (4, 26)) (LN := [(2, (4, 26)), (3, (0, 2)), (0, (4, 0)), (1, (4, 1))]) (pcN := 41) jIY_214_40 rfl rfl rfl rfl ?_
      refine jT_xiinc (x := 2) (z := 3) (LN := [(3, (0, 3)), (2, (4, 26)), (0, (4, 0)), (1, (4, 1))]) (pcN := 44) jIY_214_41 rfl rfl (by decide) rfl rfl ?_
      refine jT_xgoto (pcN := 7) jIY_214_44 rfl ?_
      refine jT_loc (LN := [(3, (0, 3)), (2, (4, 26)), (0, (4, 0)), (1, (4, 1))]) (by show List.Nodup [3, 2, 0, 1]; decide) (by intro q hq; simp only [List.mem_cons, List.not_mem_nil, or_false] at hq; rcases hq with rfl | rfl | rfl | rfl <;> rfl) ?_
      refine jT_gc [0, 1, 2, 3, 4, 5, 6, 7, 8, 9, 10, 11, 12, 13, 14, 15, 16, 17, 18, 19, 20, 21, 22, 26] (hs0 := [jzY_329, (101, [], [e0, e1, e2, e3, e4, e5]), jgh, jgh, jgh, jgh, jgh, (130, [], [17, 18, 19, 20, 21, 22]), jgh, jgh, jgh, jgh, jgh, jgh, jgh, jgh, jgh, (100, [], (jenc (jlg 0))), (100, [], (jenc (jlg 1))), (100, [], (jenc (jlg 2))), (100, [], (jenc (jlg 3))), (100, [], (jenc (jlg 4))), (100, [], (jenc (jlg 5))), (100, [], jenc (a + (e2 * jlg 2)))]) (L0 := [(3, (0, 3)), (2, (4, 23)), (0, (4, 0)), (1, (4, 1))]) (st0 := []) (by show jgB [0, 1, 2, 3, 4, 5, 6, 7, 8, 9, 10, 11, 12, 13, 14, 15, 16, 17, 18, 19, 20, 21, 22, 26] 27 = true; decide +kernel) rfl ⟨rfl, rfl, rfl, rfl, rfl, rfl, rfl, rfl, rfl, rfl, rfl, rfl, rfl, rfl, rfl, rfl, rfl, rfl, rfl, rfl, rfl, rfl, rfl, rfl, trivial⟩ rfl rfl (by decide +kernel) ?_
      exact jT.mono (jYl_lg_81_3 hd h_e0 h_e1 h_e2 h_e3 h_e4 h_e5 (jb1c ha hp.2.2 (by decide)) (by rw [← Int.add_assoc] at hw; exact hw) h) (Nat.le_refl _) (by omega) (by omega) (fun _ _ _ z => z)
  · refine jT_xiload_n (v := (0, 2)) (pcN := 8) jIY_214_7 rfl rfl rfl ?_
    refine jT_xbipush (k := 6) (pcN := 10) jIY_214_8 (by decide) rfl ?_
    refine jT_xicF (t := 47) (pcN := 13) jIY_214_10 rfl (by decide +kernel) rfl rfl ?_
    refine jT_xaload_n (v := (4, 1)) (pcN := 14) jIY_214_13 rfl rfl rfl ?_
    refine jT_xiload_n (v := (0, 2)) (pcN := 15) jIY_214_14 rfl rfl rfl ?_
    refine jT_lald (x := e2) (a := 1) (j := 2) (fs := []) (X := [e0, e1, e2, e3, e4, e5]) jIY_214_15 rfl rfl rfl rfl ?_
    refine jT_eq (LN := [(3, (0, 2)), (2, (4, 23)), (0, (4, 0)), (1, (4, 1))]) (stN := [(1, e2)]) (hsN := [jzY_329, (101, [], [e0, e1, e2, e3, e4, e5]), jgh, jgh, jgh, jgh, jgh, (130, [], [17, 18, 19, 20, 21, 22]), jgh, jgh, jgh, jgh, jgh, jgh, jgh, jgh, jgh, (100, [], (jenc (jlg 0))), (100, [], (jenc (jlg 1))), (100, [], (jenc (jlg 2))), (100, [], (jenc (jlg 3))), (100, [], (jenc (jlg 4))), (100, [], (jenc (jlg 5))), (100, [], (jenc a))]) rfl rfl rfl ?_
    refine jT_xlconst (z := 0) (pcN := 17) jIY_214_16 rfl rfl ?_
    refine jT_lcmp (a := e2) (b := 0) (z := 0) (by rfl) (by rfl) (jwl_idd (by omega) (by omega)) (jwl_idd (by omega) (by omega)) (by rw [decide_eq_false (show ¬ ((0 : Int) < e2) by omega), decide_eq_true (show (e2 : Int) = 0 by omega)]; rfl) ?_
    refine jT_xifT (pcN := 41) jIY_214_18 rfl (by decide +kernel) rfl ?_
    refine jT_xiinc (x := 2) (z := 3) (LN := [(3, (0, 3)), (2, (4, 23)), (0, (4, 0)), (1, (4, 1))]) (pcN := 44) jIY_214_41 rfl rfl (by decide) rfl rfl ?_
    refine jT_xgoto (pcN := 7) jIY_214_44 rfl ?_
    refine jT_loc (LN := [(3, (0, 3)), (2, (4, 23)), (0, (4, 0)), (1, (4, 1))]) (by show List.Nodup [3, 2, 0, 1]; decide) (by intro q hq; simp only [List.mem_cons, List.not_mem_nil, or_false] at hq; rcases hq with rfl | rfl | rfl | rfl <;> rfl) ?_
    exact jT.mono (jYl_lg_81_3 hd h_e0 h_e1 h_e2 h_e3 h_e4 h_e5 (by omega) (by rw [g_0, Int.zero_mul] at hw; omega) h) (Nat.le_refl _) (by omega) (by omega) (fun _ _ _ z => z)
  · have hp := jlz_m (k := 2) (e := e2) (by decide) (by omega) (by omega)
    rcases (show (a = 0) ∨ (a ≠ 0) by omega) with ga | ga
    · subst ga
      refine jT_xiload_n (v := (0, 2)) (pcN := 8) jIY_214_7 rfl rfl rfl ?_
      refine jT_xbipush (k := 6) (pcN := 10) jIY_214_8 (by decide) rfl ?_
      refine jT_xicF (t := 47) (pcN := 13) jIY_214_10 rfl (by decide +kernel) rfl rfl ?_
      refine jT_xaload_n (v := (4, 1)) (pcN := 14) jIY_214_13 rfl rfl rfl ?_
      refine jT_xiload_n (v := (0, 2)) (pcN := 15) jIY_214_14 rfl rfl rfl ?_
      refine jT_lald (x := e2) (a := 1) (j := 2) (fs := []) (X := [e0, e1, e2, e3, e4, e5]) jIY_214_15 rfl rfl rfl rfl ?_
      refine jT_eq (LN := [(3, (0, 2)), (2, (4, 23)), (0, (4, 0)), (1, (4, 1))]) (stN := [(1, e2)]) (hsN := [jzY_329, (101, [], [e0, e1, e2, e3, e4, e5]), jgh, jgh, jgh, jgh, jgh, (130, [], [17, 18, 19, 20, 21, 22]), jgh, jgh, jgh, jgh, jgh, jgh, jgh, jgh, jgh, (100, [], (jenc (jlg 0))), (100, [], (jenc (jlg 1))), (100, [], (jenc (jlg 2))), (100, [], (jenc (jlg 3))), (100, [], (jenc (jlg 4))), (100, [], (jenc (jlg 5))), (100, [], (jenc 0))]) rfl rfl rfl ?_
      refine jT_xlconst (z := 0) (pcN := 17) jIY_214_16 rfl rfl ?_
      refine jT_lcmp (a := e2) (b := 0) (z := 1) (by rfl) (by rfl) (jwl_idd (by omega) (by omega)) (jwl_idd (by omega) (by omega)) (by rw [decide_eq_true (show (0 : Int) < e2 by omega)]; rfl) ?_
      refine jT_xifF (t := 41) (pcN := 21) jIY_214_18 rfl (by decide +kernel) rfl rfl ?_
      refine jT_xaload_n (v := (4, 23)) (pcN := 22) jIY_214_21 rfl rfl rfl ?_
      refine jT_xaload_n (v := (4, 1)) (pcN := 23) jIY_214_22 rfl rfl rfl ?_
      refine jT_xiload_n (v := (0, 2)) (pcN := 24) jIY_214_23 rfl rfl rfl ?_
      refine jT_lald (x := e2) (a := 1) (j := 2) (fs := []) (X := [e0, e1, e2, e3, e4, e5]) jIY_214_24 rfl rfl rfl rfl ?_
      refine jT_eq (LN := [(3, (0, 2)), (2, (4, 23)), (0, (4, 0)), (1, (4, 1))]) (stN := [(1, e2), (4, 23)]) (hsN := [jzY_329, (101, [], [e0, e1, e2, e3, e4, e5]), jgh, jgh, jgh, jgh, jgh, (130, [], [17, 18, 19, 20, 21, 22]), jgh, jgh, jgh, jgh, jgh, jgh, jgh, jgh, jgh, (100, [], (jenc (jlg 0))), (100, [], (jenc (jlg 1))), (100, [], (jenc (jlg 2))), (100, [], (jenc (jlg 3))), (100, [], (jenc (jlg 4))), (100, [], (jenc (jlg 5))), (100, [], (jenc 0))]) rfl rfl rfl ?_
      refine jT_callA [] (y := 178) (pcN := 28) (dC := 1) (bc1 := 1) (bc2 := 56) (c1 := (b1 + 11)) (c2 := (b2 + 616)) (as := [(1, e2)]) (asC := [(1, e2)]) (LN := [(3, (0, 2)), (2, (4, 23)), (0, (4, 0)), (1, (4, 1))]) (stN := [(4, 23)]) (hsC := []) (ex := [(100, [], (jenc e2))]) (v := (4, 0)) (st2 := [(4, 24), (4, 23)]) (hs2 := [jzY_329, (101, [], [e0, e1, e2, e3, e4, e5]), jgh, jgh, jgh, jgh, jgh, (130, [], [17, 18, 19, 20, 21, 22]), jgh, jgh, jgh, jgh, jgh, jgh, jgh, jgh, jgh, (100, [], (jenc (jlg 0))), (100, [], (jenc (jlg 1))), (100, [], (jenc (jlg 2))), (100, [], (jenc (jlg 3))), (100, [], (jenc (jlg 4))), (100, [], (jenc (jlg 5))), (100, [], (jenc 0)), (100, [], (jenc e2))]) (jT_big (d := 0) (v := e2) (by omega) (by omega)) (by rfl) (by rfl) (by rfl) (by rfl) trivial (by rfl) (by rfl) (by omega) (by show 23 ≤ 24; omega) (by omega) (by omega) rfl rfl ?_
      refine jT_xaload_n (v := (4, 0)) (pcN := 29) jIY_214_28 rfl rfl rfl ?_
      refine jT_xgetf (a := 0) (t := 1) (ci := 14) (fi := 8) (c := jzY_329) (v := (4, 7)) (pcN := 32) jIY_214_29 rfl rfl rfl rfl rfl rfl rfl ?_
      refine jT_xiload_n (v := (0, 2)) (pcN := 33) jIY_214_32 rfl rfl rfl ?_
      refine jT_aald (x := 19) (a := 7) (j := 2) (fs := []) (X := [17, 18, 19, 20, 21, 22]) (kd := 130) jIY_214_33 rfl rfl rfl rfl rfl ?_
      refine jT_eq (LN := [(3, (0, 2)), (2, (4, 23)), (0, (4, 0)), (1, (4, 1))]) (stN := [(4, 19), (4, 24), (4, 23)]) (hsN := [jzY_329, (101, [], [e0, e1, e2, e3, e4, e5]), jgh, jgh, jgh, jgh, jgh, (130, [], [17, 18, 19, 20, 21, 22]), jgh, jgh, jgh, jgh, jgh, jgh, jgh, jgh, jgh, (100, [], (jenc (jlg 0))), (100, [], (jenc (jlg 1))), (100, [], (jenc (jlg 2))), (100, [], (jenc (jlg 3))), (100, [], (jenc (jlg 4))), (100, [], (jenc (jlg 5))), (100, [], (jenc 0)), (100, [], (jenc e2))]) rfl rfl rfl ?_
      refine jT_callA [24, 19] (y := 179) (pcN := 37) (dC := 1) (bc1 := 1) (bc2 := 56) (c1 := (b1 + 10)) (c2 := (b2 + 560)) (as := [(4, 24), (4, 19)]) (asC := [(4, 0), (4, 1)]) (LN := [(3, (0, 2)), (2, (4, 23)), (0, (4, 0)), (1, (4, 1))]) (stN := [(4, 23)]) (hsC := [(100, [], (jenc e2)), (100, [], (jenc (jlg 2)))]) (ex := [(100, [], (jenc (e2 * jlg 2)))]) (v := (4, 2)) (st2 := [(4, 25), (4, 23)]) (hs2 := [jzY_329, (101, [], [e0, e1, e2, e3, e4, e5]), jgh, jgh, jgh, jgh, jgh, (130, [], [17, 18, 19, 20, 21, 22]), jgh, jgh, jgh, jgh, jgh, jgh, jgh, jgh, jgh, (100, [], (jenc (jlg 0))), (100, [], (jenc (jlg 1))), (100, [], (jenc (jlg 2))), (100, [], (jenc (jlg 3))), (100, [], (jenc (jlg 4))), (100, [], (jenc (jlg 5))), (100, [], (jenc 0)), (100, [], (jenc e2)), (100, [], (jenc (e2 * jlg 2)))]) (jT_product (d := 0) (a := e2) (b := jlg 2) (jb54 (by omega) (by omega)) hp.1) (by rfl) (by rfl) (by rfl) (by rfl) ⟨rfl, rfl, trivial⟩ (by rfl) (by rfl) (by omega) (by show 23 ≤ 25; omega) (by omega) (by omega) rfl rfl ?_
      refine jT_callA [23, 25] (y := 181) (pcN := 40) (dC := 0) (bc1 := 0) (bc2 := 0) (c1 := (b1 + 10)) (c2 := (b2 + 560)) (as := [(4, 23), (4, 25)]) (asC := [(4, 0), (4, 1)]) (LN := [(3, (0, 2)), (2, (4, 23)), (0, (4, 0)), (1, (4, 1))]) (stN := []) (hsC := [(100, [], (jenc 0)), (100, [], (jenc (e2 * jlg 2)))]) (ex := []) (v := (4, 1)) (st2 := [(4, 25)]) (hs2 := [jzY_329, (101, [], [e0, e1, e2, e3, e4, e5]), jgh, jgh, jgh, jgh, jgh, (130, [], [17, 18, 19, 20, 21, 22]), jgh, jgh, jgh, jgh, jgh, jgh, jgh, jgh, jgh, (100, [], (jenc (jlg 0))), (100, [], (jenc (jlg 1))), (100, [], (jenc (jlg 2))), (100, [], (jenc (jlg 3))), (100, [], (jenc (jlg 4))), (100, [], (jenc (jlg 5))), (100, [], (jenc 0)), (100, [], (jenc e2)), (100, [], (jenc (e2 * jlg 2)))]) (jT_added_0l (d := 0) (b := e2 * jlg 2)) (by rfl) (by rfl) (by rfl) (by rfl) ⟨rfl, rfl, trivial⟩ (by rfl) (by rfl) (by omega) (by show 23 ≤ 26; omega) (by omega) (by omega) rfl rfl ?_
      refine jT_xastore_n (v := (4, 25)) (LN := [(2, (4, 25)), (3, (0, 2)), (0, (4, 0)), (1, (4, 1))]) (pcN := 41) jIY_214_40 rfl rfl rfl rfl ?_
      refine jT_xiinc (x := 2) (z := 3) (LN := [(3, (0, 3)), (2, (4, 25)), (0, (4, 0)), (1, (4, 1))]) (pcN := 44) jIY_214_41 rfl rfl (by decide) rfl rfl ?_
      refine jT_xgoto (pcN := 7) jIY_214_44 rfl ?_
      refine jT_loc (LN := [(3, (0, 3)), (2, (4, 25)), (0, (4, 0)), (1, (4, 1))]) (by show List.Nodup [3, 2, 0, 1]; decide) (by intro q hq; simp only [List.mem_cons, List.not_mem_nil, or_false] at hq; rcases hq with rfl | rfl | rfl | rfl <;> rfl) ?_
      refine jT_gc [0, 1, 2, 3, 4, 5, 6, 7, 8, 9, 10, 11, 12, 13, 14, 15, 16, 17, 18, 19, 20, 21, 22, 25] (hs0 := [jzY_329, (101, [], [e0, e1, e2, e3, e4, e5]), jgh, jgh, jgh, jgh, jgh, (130, [], [17, 18, 19, 20, 21, 22]), jgh, jgh, jgh, jgh, jgh, jgh, jgh, jgh, jgh, (100, [], (jenc (jlg 0))), (100, [], (jenc (jlg 1))), (100, [], (jenc (jlg 2))), (100, [], (jenc (jlg 3))), (100, [], (jenc (jlg 4))), (100, [], (jenc (jlg 5))), (100, [], jenc (e2 * jlg 2))]) (L0 := [(3, (0, 3)), (2, (4, 23)), (0, (4, 0)), (1, (4, 1))]) (st0 := []) (by show jgB [0, 1, 2, 3, 4, 5, 6, 7, 8, 9, 10, 11, 12, 13, 14, 15, 16, 17, 18, 19, 20, 21, 22, 25] 26 = true; decide +kernel) rfl ⟨rfl, rfl, rfl, rfl, rfl, rfl, rfl, rfl, rfl, rfl, rfl, rfl, rfl, rfl, rfl, rfl, rfl, rfl, rfl, rfl, rfl, rfl, rfl, rfl, trivial⟩ rfl rfl (by decide +kernel) ?_
      exact jT.mono (jYl_lg_81_3 hd h_e0 h_e1 h_e2 h_e3 h_e4 h_e5 (Nat.le_trans hp.2.2 (by decide)) (by rw [Int.zero_add] at hw; exact hw) h) (Nat.le_refl _) (by omega) (by omega) (fun _ _ _ z => z)
    · refine jT_xiload_n (v := (0, 2)) (pcN := 8) jIY_214_7 rfl rfl rfl ?_
      refine jT_xbipush (k := 6) (pcN := 10) jIY_214_8 (by decide) rfl ?_
      refine jT_xicF (t := 47) (pcN := 13) jIY_214_10 rfl (by decide +kernel) rfl rfl ?_
      refine jT_xaload_n (v := (4, 1)) (pcN := 14) jIY_214_13 rfl rfl rfl ?_
      refine jT_xiload_n (v := (0, 2)) (pcN := 15) jIY_214_14 rfl rfl rfl ?_
      refine jT_lald (x := e2) (a := 1) (j := 2) (fs := []) (X := [e0, e1, e2, e3, e4, e5]) jIY_214_15 rfl rfl rfl rfl ?_
      refine jT_eq (LN := [(3, (0, 2)), (2, (4, 23)), (0, (4, 0)), (1, (4, 1))]) (stN := [(1, e2)]) (hsN := [jzY_329, (101, [], [e0, e1, e2, e3, e4, e5]), jgh, jgh, jgh, jgh, jgh, (130, [], [17, 18, 19, 20, 21, 22]), jgh, jgh, jgh, jgh, jgh, jgh, jgh, jgh, jgh, (100, [], (jenc (jlg 0))), (100, [], (jenc (jlg 1))), (100, [], (jenc (jlg 2))), (100, [], (jenc (jlg 3))), (100, [], (jenc (jlg 4))), (100, [], (jenc (jlg 5))), (100, [], (jenc a))]) rfl rfl rfl ?_
      refine jT_xlconst (z := 0) (pcN := 17) jIY_214_16 rfl rfl ?_
      refine jT_lcmp (a := e2) (b := 0) (z := 1) (by rfl) (by rfl) (jwl_idd (by omega) (by omega)) (jwl_idd (by omega) (by omega)) (by rw [decide_eq_true (show (0 : Int) < e2 by omega)]; rfl) ?_
      refine jT_xifF (t := 41) (pcN := 21) jIY_214_18 rfl (by decide +kernel) rfl rfl ?_
      refine jT_xaload_n (v := (4, 23)) (pcN := 22) jIY_214_21 rfl rfl rfl ?_
      refine jT_xaload_n (v := (4, 1)) (pcN := 23) jIY_214_22 rfl rfl rfl ?_
      refine jT_xiload_n (v := (0, 2)) (pcN := 24) jIY_214_23 rfl rfl rfl ?_
      refine jT_lald (x := e2) (a := 1) (j := 2) (fs := []) (X := [e0, e1, e2, e3, e4, e5]) jIY_214_24 rfl rfl rfl rfl ?_
      refine jT_eq (LN := [(3, (0, 2)), (2, (4, 23)), (0, (4, 0)), (1, (4, 1))]) (stN := [(1, e2), (4, 23)]) (hsN := [jzY_329, (101, [], [e0, e1, e2, e3, e4, e5]), jgh, jgh, jgh, jgh, jgh, (130, [], [17, 18, 19, 20, 21, 22]), jgh, jgh, jgh, jgh, jgh, jgh, jgh, jgh, jgh, (100, [], (jenc (jlg 0))), (100, [], (jenc (jlg 1))), (100, [], (jenc (jlg 2))), (100, [], (jenc (jlg 3))), (100, [], (jenc (jlg 4))), (100, [], (jenc (jlg 5))), (100, [], (jenc a))]) rfl rfl rfl ?_
      refine jT_callA [] (y := 178) (pcN := 28) (dC := 1) (bc1 := 1) (bc2 := 56) (c1 := (b1 + 11)) (c2 := (b2 + 616)) (as := [(1, e2)]) (asC := [(1, e2)]) (LN := [(3, (0, 2)), (2, (4, 23)), (0, (4, 0)), (1, (4, 1))]) (stN := [(4, 23)]) (hsC := []) (ex := [(100, [], (jenc e2))]) (v := (4, 0)) (st2 := [(4, 24), (4, 23)]) (hs2 := [jzY_329, (101, [], [e0, e1, e2, e3, e4, e5]), jgh, jgh, jgh, jgh, jgh, (130, [], [17, 18, 19, 20, 21, 22]), jgh, jgh, jgh, jgh, jgh, jgh, jgh, jgh, jgh, (100, [], (jenc (jlg 0))), (100, [], (jenc (jlg 1))), (100, [], (jenc (jlg 2))), (100, [], (jenc (jlg 3))), (100, [], (jenc (jlg 4))), (100, [], (jenc (jlg 5))), (100, [], (jenc a)), (100, [], (jenc e2))]) (jT_big (d := 0) (v := e2) (by omega) (by omega)) (by rfl) (by rfl) (by rfl) (by rfl) trivial (by rfl) (by rfl) (by omega) (by show 23 ≤ 24; omega) (by omega) (by omega) rfl rfl ?_
      refine jT_xaload_n (v := (4, 0)) (pcN := 29) jIY_214_28 rfl rfl rfl ?_
      refine jT_xgetf (a := 0) (t := 1) (ci := 14) (fi := 8) (c := jzY_329) (v := (4, 7)) (pcN := 32) jIY_214_29 rfl rfl rfl rfl rfl rfl rfl ?_
      refine jT_xiload_n (v := (0, 2)) (pcN := 33) jIY_214_32 rfl rfl rfl ?_
      refine jT_aald (x := 19) (a := 7) (j := 2) (fs := []) (X := [17, 18, 19, 20, 21, 22]) (kd := 130) jIY_214_33 rfl rfl rfl rfl rfl ?_
      refine jT_eq (LN := [(3, (0, 2)), (2, (4, 23)), (0, (4, 0)), (1, (4, 1))]) (stN := [(4, 19), (4, 24), (4, 23)]) (hsN := [jzY_329, (101, [], [e0, e1, e2, e3, e4, e5]), jgh, jgh, jgh, jgh, jgh, (130, [], [17, 18, 19, 20, 21, 22]), jgh, jgh, jgh, jgh, jgh, jgh, jgh, jgh, jgh, (100, [], (jenc (jlg 0))), (100, [], (jenc (jlg 1))), (100, [], (jenc (jlg 2))), (100, [], (jenc (jlg 3))), (100, [], (jenc (jlg 4))), (100, [], (jenc (jlg 5))), (100, [], (jenc a)), (100, [], (jenc e2))]) rfl rfl rfl ?_
      refine jT_callA [24, 19] (y := 179) (pcN := 37) (dC := 1) (bc1 := 1) (bc2 := 56) (c1 := (b1 + 10)) (c2 := (b2 + 560)) (as := [(4, 24), (4, 19)]) (asC := [(4, 0), (4, 1)]) (LN := [(3, (0, 2)), (2, (4, 23)), (0, (4, 0)), (1, (4, 1))]) (stN := [(4, 23)]) (hsC := [(100, [], (jenc e2)), (100, [], (jenc (jlg 2)))]) (ex := [(100, [], (jenc (e2 * jlg 2)))]) (v := (4, 2)) (st2 := [(4, 25), (4, 23)]) (hs2 := [jzY_329, (101, [], [e0, e1, e2, e3, e4, e5]), jgh, jgh, jgh, jgh, jgh, (130, [], [17, 18, 19, 20, 21, 22]), jgh, jgh, jgh, jgh, jgh, jgh, jgh, jgh, jgh, (100, [], (jenc (jlg 0))), (100, [], (jenc (jlg 1))), (100, [], (jenc (jlg 2))), (100, [], (jenc (jlg 3))), (100, [], (jenc (jlg 4))), (100, [], (jenc (jlg 5))), (100, [], (jenc a)), (100, [], (jenc e2)), (100, [], (jenc (e2 * jlg 2)))]) (jT_product (d := 0) (a := e2) (b := jlg 2) (jb54 (by omega) (by omega)) hp.1) (by rfl) (by rfl) (by rfl) (by rfl) ⟨rfl, rfl, trivial⟩ (by rfl) (by rfl) (by omega) (by show 23 ≤ 25; omega) (by omega) (by omega) rfl rfl ?_
      refine jT_callA [23, 25] (y := 181) (pcN := 40) (dC := 1) (bc1 := 1) (bc2 := 56) (c1 := (b1 + 9)) (c2 := (b2 + 504)) (as := [(4, 23), (4, 25)]) (asC := [(4, 0), (4, 1)]) (LN := [(3, (0, 2)), (2, (4, 23)), (0, (4, 0)), (1, (4, 1))]) (stN := []) (hsC := [(100, [], (jenc a)), (100, [], (jenc (e2 * jlg 2)))]) (ex := [(100, [], (jenc (a + (e2 * jlg 2))))]) (v := (4, 2)) (st2 := [(4, 26)]) (hs2 := [jzY_329, (101, [], [e0, e1, e2, e3, e4, e5]), jgh, jgh, jgh, jgh, jgh, (130, [], [17, 18, 19, 20, 21, 22]), jgh, jgh, jgh, jgh, jgh, jgh, jgh, jgh, jgh, (100, [], (jenc (jlg 0))), (100, [], (jenc (jlg 1))), (100, [], (jenc (jlg 2))), (100, [], (jenc (jlg 3))), (100, [], (jenc (jlg 4))), (100, [], (jenc (jlg 5))), (100, [], (jenc a)), (100, [], (jenc e2)), (100, [], (jenc (e2 * jlg 2))), (100, [], (jenc (a + (e2 * jlg 2))))]) (jT_added (d := 0) (a := a) (b := e2 * jlg 2) ga hp.2.1 (jb54k ha (by decide)) hp.1 (jb54a ha hp.2.2 (by decide))) (by rfl) (by rfl) (by rfl) (by rfl) ⟨rfl, rfl, trivial⟩ (by rfl) (by rfl) (by omega) (by show 23 ≤ 26; omega) (by omega) (by omega) rfl rfl ?_
      refine jT_xastore_n (v := (4, 26)) (LN := [(2, (4, 26)), (3, (0, 2)), (0, (4, 0)), (1, (4, 1))]) (pcN := 41) jIY_214_40 rfl rfl rfl rfl ?_
      refine jT_xiinc (x := 2) (z := 3) (LN := [(3, (0, 3)), (2, (4, 26)), (0, (4, 0)), (1, (4, 1))]) (pcN := 44) jIY_214_41 rfl rfl (by decide) rfl rfl ?_
      refine jT_xgoto (pcN := 7) jIY_214_44 rfl ?_
      refine jT_loc (LN := [(3, (0, 3)), (2, (4, 26)), (0, (4, 0)), (1, (4, 1))]) (by show List.Nodup [3, 2, 0, 1]; decide) (by intro q hq; simp only [List.mem_cons, List.not_mem_nil, or_false] at hq; rcases hq with rfl | rfl | rfl | rfl <;> rfl) ?_
      refine jT_gc [0, 1, 2, 3, 4, 5, 6, 7, 8, 9, 10, 11, 12, 13, 14, 15, 16, 17, 18, 19, 20, 21, 22, 26] (hs0 := [jzY_329, (101, [], [e0, e1, e2, e3, e4, e5]), jgh, jgh, jgh, jgh, jgh, (130, [], [17, 18, 19, 20, 21, 22]), jgh, jgh, jgh, jgh, jgh, jgh, jgh, jgh, jgh, (100, [], (jenc (jlg 0))), (100, [], (jenc (jlg 1))), (100, [], (jenc (jlg 2))), (100, [], (jenc (jlg 3))), (100, [], (jenc (jlg 4))), (100, [], (jenc (jlg 5))), (100, [], jenc (a + (e2 * jlg 2)))]) (L0 := [(3, (0, 3)), (2, (4, 23)), (0, (4, 0)), (1, (4, 1))]) (st0 := []) (by show jgB [0, 1, 2, 3, 4, 5, 6, 7, 8, 9, 10, 11, 12, 13, 14, 15, 16, 17, 18, 19, 20, 21, 22, 26] 27 = true; decide +kernel) rfl ⟨rfl, rfl, rfl, rfl, rfl, rfl, rfl, rfl, rfl, rfl, rfl, rfl, rfl, rfl, rfl, rfl, rfl, rfl, rfl, rfl, rfl, rfl, rfl, rfl, trivial⟩ rfl rfl (by decide +kernel) ?_
      exact jT.mono (jYl_lg_81_3 hd h_e0 h_e1 h_e2 h_e3 h_e4 h_e5 (jb1c ha hp.2.2 (by decide)) (by rw [← Int.add_assoc] at hw; exact hw) h) (Nat.le_refl _) (by omega) (by omega) (fun _ _ _ z => z)
theorem jYl_lg_81_1 {xs : List Int} {d b1 b2 : Nat} {Q : Nat → JV → List JC → Prop} (hd : 1 < d) {a w e0 e1 e2 e3 e4 e5 : Int} (h_e0 : -4611686018427387903 ≤ e0 ∧ e0 ≤ 4611686018427387903) (h_e1 : -4611686018427387903 ≤ e1 ∧ e1 ≤ 4611686018427387903) (h_e2 : -4611686018427387903 ≤ e2 ∧ e2 ≤ 4611686018427387903) (h_e3 : -4611686018427387903 ≤ e3 ∧ e3 ≤ 4611686018427387903) (h_e4 : -4611686018427387903 ≤ e4 ∧ e4 ≤ 4611686018427387903) (h_e5 : -4611686018427387903 ≤ e5 ∧ e5 ≤ 4611686018427387903) (ha : a.natAbs ≤ 1 * 10 ^ 220) (hw : a + (e1 * jlg 1 + (e2 * jlg 2 + (e3 * jlg 3 + (e4 * jlg 4 + (e5 * jlg 5))))) = w) (h : jT xs d 214 23 47 [(2, (4, 23))] [] [jzY_329, (101, [], [e0, e1, e2, e3, e4, e5]), jgh, jgh, jgh, jgh, jgh, (130, [], [17, 18, 19, 20, 21, 22]), jgh, jgh, jgh, jgh, jgh, jgh, jgh, jgh, jgh, (100, [], (jenc (jlg 0))), (100, [], (jenc (jlg 1))), (100, [], (jenc (jlg 2))), (100, [], (jenc (jlg 3))), (100, [], (jenc (jlg 4))), (100, [], (jenc (jlg 5))), (100, [], jenc w)] b1 b2 Q) : jT xs d 214 23 7 [(3, (0, 1)), (2, (4, 23)), (0, (4, 0)), (1, (4, 1))] [] [jzY_329, (101, [], [e0, e1, e2, e3, e4, e5]), jgh, jgh, jgh, jgh, jgh, (130, [], [17, 18, 19, 20, 21, 22]), jgh, jgh, jgh, jgh, jgh, jgh, jgh, jgh, jgh, (100, [], (jenc (jlg 0))), (100, [], (jenc (jlg 1))), (100, [], (jenc (jlg 2))), (100, [], (jenc (jlg 3))), (100, [], (jenc (jlg 4))), (100, [], (jenc (jlg 5))), (100, [], jenc a)] (b1 + 15) (b2 + 840) Q := by
  rcases (show (e1 < 0) ∨ (e1 = 0) ∨ (0 < e1) by omega) with g_0 | g_0 | g_0
  · have hp := jlz_m (k := 1) (e := e1) (by decide) (by omega) (by omega)
    rcases (show (a = 0) ∨ (a ≠ 0) by omega) with ga | ga
    · subst ga
      refine jT_xiload_n (v := (0, 1)) (pcN := 8) jIY_214_7 rfl rfl rfl ?_
      refine jT_xbipush (k := 6) (pcN := 10) jIY_214_8 (by decide) rfl ?_
      refine jT_xicF (t := 47) (pcN := 13) jIY_214_10 rfl (by decide +kernel) rfl rfl ?_
      refine jT_xaload_n (v := (4, 1)) (pcN := 14) jIY_214_13 rfl rfl rfl ?_
      refine jT_xiload_n (v := (0, 1)) (pcN := 15) jIY_214_14 rfl rfl rfl ?_
      refine jT_lald (x := e1) (a := 1) (j := 1) (fs := []) (X := [e0, e1, e2, e3, e4, e5]) jIY_214_15 rfl rfl rfl rfl ?_
      refine jT_eq (LN := [(3, (0, 1)), (2, (4, 23)), (0, (4, 0)), (1, (4, 1))]) (stN := [(1, e1)]) (hsN := [jzY_329, (101, [], [e0, e1, e2, e3, e4, e5]), jgh, jgh, jgh, jgh, jgh, (130, [], [17, 18, 19, 20, 21, 22]), jgh, jgh, jgh, jgh, jgh, jgh, jgh, jgh, jgh, (100, [], (jenc (jlg 0))), (100, [], (jenc (jlg 1))), (100, [], (jenc (jlg 2))), (100, [], (jenc (jlg 3))), (100, [], (jenc (jlg 4))), (100, [], (jenc (jlg 5))), (100, [], (jenc 0))]) rfl rfl rfl ?_
      refine jT_xlconst (z := 0) (pcN := 17) jIY_214_16 rfl rfl ?_
      refine jT_lcmp (a := e1) (b := 0) (z := (-1)) (by rfl) (by rfl) (jwl_idd (by omega) (by omega)) (jwl_idd (by omega) (by omega)) (by rw [decide_eq_false (show ¬ ((0 : Int) < e1) by omega), decide_eq_false (show ¬ ((e1 : Int) = 0) by omega)]; rfl) ?_
      refine jT_xifF (t := 41) (pcN := 21) jIY_214_18 rfl (by decide +kernel) rfl rfl ?_
      refine jT_xaload_n (v := (4, 23)) (pcN := 22) jIY_214_21 rfl rfl rfl ?_
      refine jT_xaload_n (v := (4, 1)) (pcN := 23) jIY_214_22 rfl rfl rfl ?_
      refine jT_xiload_n (v := (0, 1)) (pcN := 24) jIY_214_23 rfl rfl rfl ?_
      refine jT_lald (x := e1) (a := 1) (j := 1) (fs := []) (X := [e0, e1, e2, e3, e4, e5]) jIY_214_24 rfl rfl rfl rfl ?_
      refine jT_eq (LN := [(3, (0, 1)), (2, (4, 23)), (0, (4, 0)), (1, (4, 1))]) (stN := [(1, e1), (4, 23)]) (hsN := [jzY_329, (101, [], [e0, e1, e2, e3, e4, e5]), jgh, jgh, jgh, jgh, jgh, (130, [], [17, 18, 19, 20, 21, 22]), jgh, jgh, jgh, jgh, jgh, jgh, jgh, jgh, jgh, (100, [], (jenc (jlg 0))), (100, [], (jenc (jlg 1))), (100, [], (jenc (jlg 2))), (100, [], (jenc (jlg 3))), (100, [], (jenc (jlg 4))), (100, [], (jenc (jlg 5))), (100, [], (jenc 0))]) rfl rfl rfl ?_
      refine jT_callA [] (y := 178) (pcN := 28) (dC := 1) (bc1 := 1) (bc2 := 56) (c1 := (b1 + 14)) (c2 := (b2 + 784)) (as := [(1, e1)]) (asC := [(1, e1)]) (LN := [(3, (0, 1)), (2, (4, 23)), (0, (4, 0)), (1, (4, 1))]) (stN := [(4, 23)]) (hsC := []) (ex := [(100, [], (jenc e1))]) (v := (4, 0)) (st2 := [(4, 24), (4, 23)]) (hs2 := [jzY_329, (101, [], [e0, e1, e2, e3, e4, e5]), jgh, jgh, jgh, jgh, jgh, (130, [], [17, 18, 19, 20, 21, 22]), jgh, jgh, jgh, jgh, jgh, jgh, jgh, jgh, jgh, (100, [], (jenc (jlg 0))), (100, [], (jenc (jlg 1))), (100, [], (jenc (jlg 2))), (100, [], (jenc (jlg 3))), (100, [], (jenc (jlg 4))), (100, [], (jenc (jlg 5))), (100, [], (jenc 0)), (100, [], (jenc e1))]) (jT_big (d := 0) (v := e1) (by omega) (by omega)) (by rfl) (by rfl) (by rfl) (by rfl) trivial (by rfl) (by rfl) (by omega) (by show 23 ≤ 24; omega) (by omega) (by omega) rfl rfl ?_
      refine jT_xaload_n (v := (4, 0)) (pcN := 29) jIY_214_28 rfl rfl rfl ?_
      refine jT_xgetf (a := 0) (t := 1) (ci := 14) (fi := 8) (c := jzY_329) (v := (4, 7)) (pcN := 32) jIY_214_29 rfl rfl rfl rfl rfl rfl rfl ?_
      refine jT_xiload_n (v := (0, 1)) (pcN := 33) jIY_214_32 rfl rfl rfl ?_
      refine jT_aald (x := 18) (a := 7) (j := 1) (fs := []) (X := [17, 18, 19, 20, 21, 22]) (kd := 130) jIY_214_33 rfl rfl rfl rfl rfl ?_
      refine jT_eq (LN := [(3, (0, 1)), (2, (4, 23)), (0, (4, 0)), (1, (4, 1))]) (stN := [(4, 18), (4, 24), (4, 23)]) (hsN := [jzY_329, (101, [], [e0, e1, e2, e3, e4, e5]), jgh, jgh, jgh, jgh, jgh, (130, [], [17, 18, 19, 20, 21, 22]), jgh, jgh, jgh, jgh, jgh, jgh, jgh, jgh, jgh, (100, [], (jenc (jlg 0))), (100, [], (jenc (jlg 1))), (100, [], (jenc (jlg 2))), (100, [], (jenc (jlg 3))), (100, [], (jenc (jlg 4))), (100, [], (jenc (jlg 5))), (100, [], (jenc 0)), (100, [], (jenc e1))]) rfl rfl rfl ?_
      refine jT_callA [24, 18] (y := 179) (pcN := 37) (dC := 1) (bc1 := 1) (bc2 := 56) (c1 := (b1 + 13)) (c2 := (b2 + 728)) (as := [(4, 24), (4, 18)]) (asC := [(4, 0), (4, 1)]) (LN := [(3, (0, 1)), (2, (4, 23)), (0, (4, 0)), (1, (4, 1))]) (stN := [(4, 23)]) (hsC := [(100, [], (jenc e1)), (100, [], (jenc (jlg 1)))]) (ex := [(100, [], (jenc (e1 * jlg 1)))]) (v := (4, 2)) (st2 := [(4, 25), (4, 23)]) (hs2 := [jzY_329, (101, [], [e0, e1, e2, e3, e4, e5]), jgh, jgh, jgh, jgh, jgh, (130, [], [17, 18, 19, 20, 21, 22]), jgh, jgh, jgh, jgh, jgh, jgh, jgh, jgh, jgh, (100, [], (jenc (jlg 0))), (100, [], (jenc (jlg 1))), (100, [], (jenc (jlg 2))), (100, [], (jenc (jlg 3))), (100, [], (jenc (jlg 4))), (100, [], (jenc (jlg 5))), (100, [], (jenc 0)), (100, [], (jenc e1)), (100, [], (jenc (e1 * jlg 1)))]) (jT_product (d := 0) (a := e1) (b := jlg 1) (jb54 (by omega) (by omega)) hp.1) (by rfl) (by rfl) (by rfl) (by rfl) ⟨rfl, rfl, trivial⟩ (by rfl) (by rfl) (by omega) (by show 23 ≤ 25; omega) (by omega) (by omega) rfl rfl ?_
      refine jT_callA [23, 25] (y := 181) (pcN := 40) (dC := 0) (bc1 := 0) (bc2 := 0) (c1 := (b1 + 13)) (c2 := (b2 + 728)) (as := [(4, 23), (4, 25)]) (asC := [(4, 0), (4, 1)]) (LN := [(3, (0, 1)), (2, (4, 23)), (0, (4, 0)), (1, (4, 1))]) (stN := []) (hsC := [(100, [], (jenc 0)), (100, [], (jenc (e1 * jlg 1)))]) (ex := []) (v := (4, 1)) (st2 := [(4, 25)]) (hs2 := [jzY_329, (101, [], [e0, e1, e2, e3, e4, e5]), jgh, jgh, jgh, jgh, jgh, (130, [], [17, 18, 19, 20, 21, 22]), jgh, jgh, jgh, jgh, jgh, jgh, jgh, jgh, jgh, (100, [], (jenc (jlg 0))), (100, [], (jenc (jlg 1))), (100, [], (jenc (jlg 2))), (100, [], (jenc (jlg 3))), (100, [], (jenc (jlg 4))), (100, [], (jenc (jlg 5))), (100, [], (jenc 0)), (100, [], (jenc e1)), (100, [], (jenc (e1 * jlg 1)))]) (jT_added_0l (d := 0) (b := e1 * jlg 1)) (by rfl) (by rfl) (by rfl) (by rfl) ⟨rfl, rfl, trivial⟩ (by rfl) (by rfl) (by omega) (by show 23 ≤ 26; omega) (by omega) (by omega) rfl rfl ?_
      refine jT_xastore_n (v := (4, 25)) (LN := [(2, (4, 25)), (3, (0, 1)), (0, (4, 0)), (1, (4, 1))]) (pcN := 41) jIY_214_40 rfl rfl rfl rfl ?_
      refine jT_xiinc (x := 1) (z := 2) (LN := [(3, (0, 2)), (2, (4, 25)), (0, (4, 0)), (1, (4, 1))]) (pcN := 44) jIY_214_41 rfl rfl (by decide) rfl rfl ?_
      refine jT_xgoto (pcN := 7) jIY_214_44 rfl ?_
      refine jT_loc (LN := [(3, (0, 2)), (2, (4, 25)), (0, (4, 0)), (1, (4, 1))]) (by show List.Nodup [3, 2, 0, 1]; decide) (by intro q hq; simp only [List.mem_cons, List.not_mem_nil, or_false] at hq; rcases hq with rfl | rfl | rfl | rfl <;> rfl) ?_
      refine jT_gc [0, 1, 2, 3, 4, 5, 6, 7, 8, 9, 10, 11, 12, 13, 14, 15, 16, 17, 18, 19, 20, 21, 22, 25] (hs0 := [jzY_329, (101, [], [e0, e1, e2, e3, e4, e5]), jgh, jgh, jgh, jgh, jgh, (130, [], [17, 18, 19, 20, 21, 22]), jgh, jgh, jgh, jgh, jgh, jgh, jgh, jgh, jgh, (100, [], (jenc (jlg 0))), (100, [], (jenc (jlg 1))), (100, [], (jenc (jlg 2))), (100, [], (jenc (jlg 3))), (100, [], (jenc (jlg 4))), (100, [], (jenc (jlg 5))), (100, [], jenc (e1 * jlg 1))]) (L0 := [(3, (0, 2)), (2, (4, 23)), (0, (4, 0)), (1, (4, 1))]) (st0 := []) (by show jgB [0, 1, 2, 3, 4, 5, 6, 7, 8, 9, 10, 11, 12, 13, 14, 15, 16, 17, 18, 19, 20, 21, 22, 25] 26 = true; decide +kernel) rfl ⟨rfl, rfl, rfl, rfl, rfl, rfl, rfl, rfl, rfl, rfl, rfl, rfl, rfl, rfl, rfl, rfl, rfl, rfl, rfl, rfl, rfl, rfl, rfl, rfl, trivial⟩ rfl rfl (by decide +kernel) ?_
      exact jT.mono (jYl_lg_81_2 hd h_e0 h_e1 h_e2 h_e3 h_e4 h_e5 (Nat.le_trans hp.2.2 (by decide)) (by rw [Int.zero_add] at hw; exact hw) h) (Nat.le_refl _) (by omega) (by omega) (fun _ _ _ z => z)
    · refine jT_xiload_n (v := (0, 1)) (pcN := 8) jIY_214_7 rfl rfl rfl ?_
      refine jT_xbipush (k := 6) (pcN := 10) jIY_214_8 (by decide) rfl ?_
      refine jT_xicF (t := 47) (pcN := 13) jIY_214_10 rfl (by decide +kernel) rfl rfl ?_
      refine jT_xaload_n (v := (4, 1)) (pcN := 14) jIY_214_13 rfl rfl rfl ?_
      refine jT_xiload_n (v := (0, 1)) (pcN := 15) jIY_214_14 rfl rfl rfl ?_
      refine jT_lald (x := e1) (a := 1) (j := 1) (fs := []) (X := [e0, e1, e2, e3, e4, e5]) jIY_214_15 rfl rfl rfl rfl ?_
      refine jT_eq (LN := [(3, (0, 1)), (2, (4, 23)), (0, (4, 0)), (1, (4, 1))]) (stN := [(1, e1)]) (hsN := [jzY_329, (101, [], [e0, e1, e2, e3, e4, e5]), jgh, jgh, jgh, jgh, jgh, (130, [], [17, 18, 19, 20, 21, 22]), jgh, jgh, jgh, jgh, jgh, jgh, jgh, jgh, jgh, (100, [], (jenc (jlg 0))), (100, [], (jenc (jlg 1))), (100, [], (jenc (jlg 2))), (100, [], (jenc (jlg 3))), (100, [], (jenc (jlg 4))), (100, [], (jenc (jlg 5))), (100, [], (jenc a))]) rfl rfl rfl ?_
      refine jT_xlconst (z := 0) (pcN := 17) jIY_214_16 rfl rfl ?_
      refine jT_lcmp (a := e1) (b := 0) (z := (-1)) (by rfl) (by rfl) (jwl_idd (by omega) (by omega)) (jwl_idd (by omega) (by omega)) (by rw [decide_eq_false (show ¬ ((0 : Int) < e1) by omega), decide_eq_false (show ¬ ((e1 : Int) = 0) by omega)]; rfl) ?_
      refine jT_xifF (t := 41) (pcN := 21) jIY_214_18 rfl (by decide +kernel) rfl rfl ?_
      refine jT_xaload_n (v := (4, 23)) (pcN := 22) jIY_214_21 rfl rfl rfl ?_
      refine jT_xaload_n (v := (4, 1)) (pcN := 23) jIY_214_22 rfl rfl rfl ?_
      refine jT_xiload_n (v := (0, 1)) (pcN := 24) jIY_214_23 rfl rfl rfl ?_
      refine jT_lald (x := e1) (a := 1) (j := 1) (fs := []) (X := [e0, e1, e2, e3, e4, e5]) jIY_214_24 rfl rfl rfl rfl ?_
      refine jT_eq (LN := [(3, (0, 1)), (2, (4, 23)), (0, (4, 0)), (1, (4, 1))]) (stN := [(1, e1), (4, 23)]) (hsN := [jzY_329, (101, [], [e0, e1, e2, e3, e4, e5]), jgh, jgh, jgh, jgh, jgh, (130, [], [17, 18, 19, 20, 21, 22]), jgh, jgh, jgh, jgh, jgh, jgh, jgh, jgh, jgh, (100, [], (jenc (jlg 0))), (100, [], (jenc (jlg 1))), (100, [], (jenc (jlg 2))), (100, [], (jenc (jlg 3))), (100, [], (jenc (jlg 4))), (100, [], (jenc (jlg 5))), (100, [], (jenc a))]) rfl rfl rfl ?_
      refine jT_callA [] (y := 178) (pcN := 28) (dC := 1) (bc1 := 1) (bc2 := 56) (c1 := (b1 + 14)) (c2 := (b2 + 784)) (as := [(1, e1)]) (asC := [(1, e1)]) (LN := [(3, (0, 1)), (2, (4, 23)), (0, (4, 0)), (1, (4, 1))]) (stN := [(4, 23)]) (hsC := []) (ex := [(100, [], (jenc e1))]) (v := (4, 0)) (st2 := [(4, 24), (4, 23)]) (hs2 := [jzY_329, (101, [], [e0, e1, e2, e3, e4, e5]), jgh, jgh, jgh, jgh, jgh, (130, [], [17, 18, 19, 20, 21, 22]), jgh, jgh, jgh, jgh, jgh, jgh, jgh, jgh, jgh, (100, [], (jenc (jlg 0))), (100, [], (jenc (jlg 1))), (100, [], (jenc (jlg 2))), (100, [], (jenc (jlg 3))), (100, [], (jenc (jlg 4))), (100, [], (jenc (jlg 5))), (100, [], (jenc a)), (100, [], (jenc e1))]) (jT_big (d := 0) (v := e1) (by omega) (by omega)) (by rfl) (by rfl) (by rfl) (by rfl) trivial (by rfl) (by rfl) (by omega) (by show 23 ≤ 24; omega) (by omega) (by omega) rfl rfl ?_
      refine jT_xaload_n (v := (4, 0)) (pcN := 29) jIY_214_28 rfl rfl rfl ?_
      refine jT_xgetf (a := 0) (t := 1) (ci := 14) (fi := 8) (c := jzY_329) (v := (4, 7)) (pcN := 32) jIY_214_29 rfl rfl rfl rfl rfl rfl rfl ?_
      refine jT_xiload_n (v := (0, 1)) (pcN := 33) jIY_214_32 rfl rfl rfl ?_
      refine jT_aald (x := 18) (a := 7) (j := 1) (fs := []) (X := [17, 18, 19, 20, 21, 22]) (kd := 130) jIY_214_33 rfl rfl rfl rfl rfl ?_
      refine jT_eq (LN := [(3, (0, 1)), (2, (4, 23)), (0, (4, 0)), (1, (4, 1))]) (stN := [(4, 18), (4, 24), (4, 23)]) (hsN := [jzY_329, (101, [], [e0, e1, e2, e3, e4, e5]), jgh, jgh, jgh, jgh, jgh, (130, [], [17, 18, 19, 20, 21, 22]), jgh, jgh, jgh, jgh, jgh, jgh, jgh, jgh, jgh, (100, [], (jenc (jlg 0))), (100, [], (jenc (jlg 1))), (100, [], (jenc (jlg 2))), (100, [], (jenc (jlg 3))), (100, [], (jenc (jlg 4))), (100, [], (jenc (jlg 5))), (100, [], (jenc a)), (100, [], (jenc e1))]) rfl rfl rfl ?_
      refine jT_callA [24, 18] (y := 179) (pcN := 37) (dC := 1) (bc1 := 1) (bc2 := 56) (c1 := (b1 + 13)) (c2 := (b2 + 728)) (as := [(4, 24), (4, 18)]) (asC := [(4, 0), (4, 1)]) (LN := [(3, (0, 1)), (2, (4, 23)), (0, (4, 0)), (1, (4, 1))]) (stN := [(4, 23)]) (hsC := [(100, [], (jenc e1)), (100, [], (jenc (jlg 1)))]) (ex := [(100, [], (jenc (e1 * jlg 1)))]) (v := (4, 2)) (st2 := [(4, 25), (4, 23)]) (hs2 := [jzY_329, (101, [], [e0, e1, e2, e3, e4, e5]), jgh, jgh, jgh, jgh, jgh, (130, [], [17, 18, 19, 20, 21, 22]), jgh, jgh, jgh, jgh, jgh, jgh, jgh, jgh, jgh, (100, [], (jenc (jlg 0))), (100, [], (jenc (jlg 1))), (100, [], (jenc (jlg 2))), (100, [], (jenc (jlg 3))), (100, [], (jenc (jlg 4))), (100, [], (jenc (jlg 5))), (100, [], (jenc a)), (100, [], (jenc e1)), (100, [], (jenc (e1 * jlg 1)))]) (jT_product (d := 0) (a := e1) (b := jlg 1) (jb54 (by omega) (by omega)) hp.1) (by rfl) (by rfl) (by rfl) (by rfl) ⟨rfl, rfl, trivial⟩ (by rfl) (by rfl) (by omega) (by show 23 ≤ 25; omega) (by omega) (by omega) rfl rfl ?_
      refine jT_callA [23, 25] (y := 181) (pcN := 40) (dC := 1) (bc1 := 1) (bc2 := 56) (c1 := (b1 + 12)) (c2 := (b2 + 672)) (as := [(4, 23), (4, 25)]) (asC := [(4, 0), (4, 1)]) (LN := [(3, (0, 1)), (2, (4, 23)), (0, (4, 0)), (1, (4, 1))]) (stN := []) (hsC := [(100, [], (jenc a)), (100, [], (jenc (e1 * jlg 1)))]) (ex := [(100, [], (jenc (a + (e1 * jlg 1))))]) (v := (4, 2)) (st2 := [(4, 26)]) (hs2 := [jzY_329, (101, [], [e0, e1, e2, e3, e4, e5]), jgh, jgh, jgh, jgh, jgh, (130, [], [17, 18, 19, 20, 21, 22]), jgh, jgh, jgh, jgh, jgh, jgh, jgh, jgh, jgh, (100, [], (jenc (jlg 0))), (100, [], (jenc (jlg 1))), (100, [], (jenc (jlg 2))), (100, [], (jenc (jlg 3))), (100, [], (jenc (jlg 4))), (100, [], (jenc (jlg 5))), (100, [], (jenc a)), (100, [], (jenc e1)), (100, [], (jenc (e1 * jlg 1))), (100, [], (jenc (a + (e1 * jlg 1))))]) (jT_added (d := 0) (a := a) (b := e1 * jlg 1) ga hp.2.1 (jb54k ha (by decide)) hp.1 (jb54a ha hp.2.2 (by decide))) (by rfl) (by rfl) (by rfl) (by rfl) ⟨rfl, rfl, trivial⟩ (by rfl) (by rfl) (by omega) (by show 23 ≤ 26; omega) (by omega) (by omega) rfl rfl ?_
      refine jT_xastore_n (v := (4, 26)) (LN := [(2, (4, 26)), (3, (0, 1)), (0, (4, 0)), (1, (4, 1))]) (pcN := 41) jIY_214_40 rfl rfl rfl rfl ?_
      refine jT_xiinc (x := 1) (z := 2) (LN := [(3, (0, 2)), (2, (4, 26)), (0, (4, 0)), (1, (4, 1))]) (pcN := 44) jIY_214_41 rfl rfl (by decide) rfl rfl ?_
      refine jT_xgoto (pcN := 7) jIY_214_44 rfl ?_
      refine jT_loc (LN := [(3, (0, 2)), (2, (4, 26)), (0, (4, 0)), (1, (4, 1))]) (by show List.Nodup [3, 2, 0, 1]; decide) (by intro q hq; simp only [List.mem_cons, List.not_mem_nil, or_false] at hq; rcases hq with rfl | rfl | rfl | rfl <;> rfl) ?_
      refine jT_gc [0, 1, 2, 3, 4, 5, 6, 7, 8, 9, 10, 11, 12, 13, 14, 15, 16, 17, 18, 19, 20, 21, 22, 26] (hs0 := [jzY_329, (101, [], [e0, e1, e2, e3, e4, e5]), jgh, jgh, jgh, jgh, jgh, (130, [], [17, 18, 19, 20, 21, 22]), jgh, jgh, jgh, jgh, jgh, jgh, jgh, jgh, jgh, (100, [], (jenc (jlg 0))), (100, [], (jenc (jlg 1))), (100, [], (jenc (jlg 2))), (100, [], (jenc (jlg 3))), (100, [], (jenc (jlg 4))), (100, [], (jenc (jlg 5))), (100, [], jenc (a + (e1 * jlg 1)))]) (L0 := [(3, (0, 2)), (2, (4, 23)), (0, (4, 0)), (1, (4, 1))]) (st0 := []) (by show jgB [0, 1, 2, 3, 4, 5, 6, 7, 8, 9, 10, 11, 12, 13, 14, 15, 16, 17, 18, 19, 20, 21, 22, 26] 27 = true; decide +kernel) rfl ⟨rfl, rfl, rfl, rfl, rfl, rfl, rfl, rfl, rfl, rfl, rfl, rfl, rfl, rfl, rfl, rfl, rfl, rfl, rfl, rfl, rfl, rfl, rfl, rfl, trivial⟩ rfl rfl (by decide +kernel) ?_
      exact jT.mono (jYl_lg_81_2 hd h_e0 h_e1 h_e2 h_e3 h_e4 h_e5 (jb1c ha hp.2.2 (by decide)) (by rw [← Int.add_assoc] at hw; exact hw) h) (Nat.le_refl _) (by omega) (by omega) (fun _ _ _ z => z)
  · refine jT_xiload_n (v := (0, 1)) (pcN := 8) jIY_214_7 rfl rfl rfl ?_
    refine jT_xbipush (k := 6) (pcN := 10) jIY_214_8 (by decide) rfl ?_
    refine jT_xicF (t := 47) (pcN := 13) jIY_214_10 rfl (by decide +kernel) rfl rfl ?_
    refine jT_xaload_n (v := (4, 1)) (pcN := 14) jIY_214_13 rfl rfl rfl ?_
    refine jT_xiload_n (v := (0, 1)) (pcN := 15) jIY_214_14 rfl rfl rfl ?_
    refine jT_lald (x := e1) (a := 1) (j := 1) (fs := []) (X := [e0, e1, e2, e3, e4, e5]) jIY_214_15 rfl rfl rfl rfl ?_
    refine jT_eq (LN := [(3, (0, 1)), (2, (4, 23)), (0, (4, 0)), (1, (4, 1))]) (stN := [(1, e1)]) (hsN := [jzY_329, (101, [], [e0, e1, e2, e3, e4, e5]), jgh, jgh, jgh, jgh, jgh, (130, [], [17, 18, 19, 20, 21, 22]), jgh, jgh, jgh, jgh, jgh, jgh, jgh, jgh, jgh, (100, [], (jenc (jlg 0))), (100, [], (jenc (jlg 1))), (100, [], (jenc (jlg 2))), (100, [], (jenc (jlg 3))), (100, [], (jenc (jlg 4))), (100, [], (jenc (jlg 5))), (100, [], (jenc a))]) rfl rfl rfl ?_
    refine jT_xlconst (z := 0) (pcN := 17) jIY_214_16 rfl rfl ?_
    refine jT_lcmp (a := e1) (b := 0) (z := 0) (by rfl) (by rfl) (jwl_idd (by omega) (by omega)) (jwl_idd (by omega) (by omega)) (by rw [decide_eq_false (show ¬ ((0 : Int) < e1) by omega), decide_eq_true (show (e1 : Int) = 0 by omega)]; rfl) ?_
    refine jT_xifT (pcN := 41) jIY_214_18 rfl (by decide +kernel) rfl ?_
    refine jT_xiinc (x := 1) (z := 2) (LN := [(3, (0, 2)), (2, (4, 23)), (0, (4, 0)), (1, (4, 1))]) (pcN := 44) jIY_214_41 rfl rfl (by decide) rfl rfl ?_
    refine jT_xgoto (pcN := 7) jIY_214_44 rfl ?_
    refine jT_loc (LN := [(3, (0, 2)), (2, (4, 23)), (0, (4, 0)), (1, (4, 1))]) (by show List.Nodup [3, 2, 0, 1]; decide) (by intro q hq; simp only [List.mem_cons, List.not_mem_nil, or_false] at hq; rcases hq with rfl | rfl | rfl | rfl <;> rfl) ?_
    exact jT.mono (jYl_lg_81_2 hd h_e0 h_e1 h_e2 h_e3 h_e4 h_e5 (by omega) (by rw [g_0, Int.zero_mul] at hw; omega) h) (Nat.le_refl _) (by omega) (by omega) (fun _ _ _ z => z)
  · have hp := jlz_m (k := 1) (e := e1) (by decide) (by omega) (by omega)
    rcases (show (a = 0) ∨ (a ≠ 0) by omega) with ga | ga
    · subst ga
      refine jT_xiload_n (v := (0, 1)) (pcN := 8) jIY_214_7 rfl rfl rfl ?_
      refine jT_xbipush (k := 6) (pcN := 10) jIY_214_8 (by decide) rfl ?_
      refine jT_xicF (t := 47) (pcN := 13) jIY_214_10 rfl (by decide +kernel) rfl rfl ?_
      refine jT_xaload_n (v := (4, 1)) (pcN := 14) jIY_214_13 rfl rfl rfl ?_
      refine jT_xiload_n (v := (0, 1)) (pcN := 15) jIY_214_14 rfl rfl rfl ?_
      refine jT_lald (x := e1) (a := 1) (j := 1) (fs := []) (X := [e0, e1, e2, e3, e4, e5]) jIY_214_15 rfl rfl rfl rfl ?_
      refine jT_eq (LN := [(3, (0, 1)), (2, (4, 23)), (0, (4, 0)), (1, (4, 1))]) (stN := [(1, e1)]) (hsN := [jzY_329, (101, [], [e0, e1, e2, e3, e4, e5]), jgh, jgh, jgh, jgh, jgh, (130, [], [17, 18, 19, 20, 21, 22]), jgh, jgh, jgh, jgh, jgh, jgh, jgh, jgh, jgh, (100, [], (jenc (jlg 0))), (100, [], (jenc (jlg 1))), (100, [], (jenc (jlg 2))), (100, [], (jenc (jlg 3))), (100, [], (jenc (jlg 4))), (100, [], (jenc (jlg 5))), (100, [], (jenc 0))]) rfl rfl rfl ?_
      refine jT_xlconst (z := 0) (pcN := 17) jIY_214_16 rfl rfl ?_
      refine jT_lcmp (a := e1) (b := 0) (z := 1) (by rfl) (by rfl) (jwl_idd (by omega) (by omega)) (jwl_idd (by omega) (by omega)) (by rw [decide_eq_true (show (0 : Int) < e1 by omega)]; rfl) ?_
      refine jT_xifF (t := 41) (pcN := 21) jIY_214_18 rfl (by decide +kernel) rfl rfl ?_
      refine jT_xaload_n (v := (4, 23)) (pcN := 22) jIY_214_21 rfl rfl rfl ?_
      refine jT_xaload_n (v := (4, 1)) (pcN := 23) jIY_214_22 rfl rfl rfl ?_
      refine jT_xiload_n (v := (0, 1)) (pcN := 24) jIY_214_23 rfl rfl rfl ?_
      refine jT_lald (x := e1) (a := 1) (j := 1) (fs := []) (X := [e0, e1, e2, e3, e4, e5]) jIY_214_24 rfl rfl rfl rfl ?_
      refine jT_eq (LN := [(3, (0, 1)), (2, (4, 23)), (0, (4, 0)), (1, (4, 1))]) (stN := [(1, e1), (4, 23)]) (hsN := [jzY_329, (101, [], [e0, e1, e2, e3, e4, e5]), jgh, jgh, jgh, jgh, jgh, (130, [], [17, 18, 19, 20, 21, 22]), jgh, jgh, jgh, jgh, jgh, jgh, jgh, jgh, jgh, (100, [], (jenc (jlg 0))), (100, [], (jenc (jlg 1))), (100, [], (jenc (jlg 2))), (100, [], (jenc (jlg 3))), (100, [], (jenc (jlg 4))), (100, [], (jenc (jlg 5))), (100, [], (jenc 0))]) rfl rfl rfl ?_
      refine jT_callA [] (y := 178) (pcN := 28) (dC := 1) (bc1 := 1) (bc2 := 56) (c1 := (b1 + 14)) (c2 := (b2 + 784)) (as := [(1, e1)]) (asC := [(1, e1)]) (LN := [(3, (0, 1)), (2, (4, 23)), (0, (4, 0)), (1, (4, 1))]) (stN := [(4, 23)]) (hsC := []) (ex := [(100, [], (jenc e1))]) (v := (4, 0)) (st2 := [(4, 24), (4, 23)]) (hs2 := [jzY_329, (101, [], [e0, e1, e2, e3, e4, e5]), jgh, jgh, jgh, jgh, jgh, (130, [], [17, 18, 19, 20, 21, 22]), jgh, jgh, jgh, jgh, jgh, jgh, jgh, jgh, jgh, (100, [], (jenc (jlg 0))), (100, [], (jenc (jlg 1))), (100, [], (jenc (jlg 2))), (100, [], (jenc (jlg 3))), (100, [], (jenc (jlg 4))), (100, [], (jenc (jlg 5))), (100, [], (jenc 0)), (100, [], (jenc e1))]) (jT_big (d := 0) (v := e1) (by omega) (by omega)) (by rfl) (by rfl) (by rfl) (by rfl) trivial (by rfl) (by rfl) (by omega) (by show 23 ≤ 24; omega) (by omega) (by omega) rfl rfl ?_
      refine jT_xaload_n (v := (4, 0)) (pcN := 29) jIY_214_28 rfl rfl rfl ?_
      refine jT_xgetf (a := 0) (t := 1) (ci := 14) (fi := 8) (c := jzY_329) (v := (4, 7)) (pcN := 32) jIY_214_29 rfl rfl rfl rfl rfl rfl rfl ?_
      refine jT_xiload_n (v := (0, 1)) (pcN := 33) jIY_214_32 rfl rfl rfl ?_
      refine jT_aald (x := 18) (a := 7) (j := 1) (fs := []) (X := [17, 18, 19, 20, 21, 22]) (kd := 130) jIY_214_33 rfl rfl rfl rfl rfl ?_
      refine jT_eq (LN := [(3, (0, 1)), (2, (4, 23)), (0, (4, 0)), (1, (4, 1))]) (stN := [(4, 18), (4, 24), (4, 23)]) (hsN := [jzY_329, (101, [], [e0, e1, e2, e3, e4, e5]), jgh, jgh, jgh, jgh, jgh, (130, [], [17, 18, 19, 20, 21, 22]), jgh, jgh, jgh, jgh, jgh, jgh, jgh, jgh, jgh, (100, [], (jenc (jlg 0))), (100, [], (jenc (jlg 1))), (100, [], (jenc (jlg 2))), (100, [], (jenc (jlg 3))), (100, [], (jenc (jlg 4))), (100, [], (jenc (jlg 5))), (100, [], (jenc 0)), (100, [], (jenc e1))]) rfl rfl rfl ?_
      refine jT_callA [24, 18] (y := 179) (pcN := 37) (dC := 1) (bc1 := 1) (bc2 := 56) (c1 := (b1 + 13)) (c2 := (b2 + 728)) (as := [(4, 24), (4, 18)]) (asC := [(4, 0), (4, 1)]) (LN := [(3, (0, 1)), (2, (4, 23)), (0, (4, 0)), (1, (4, 1))]) (stN := [(4, 23)]) (hsC := [(100, [], (jenc e1)), (100, [], (jenc (jlg 1)))]) (ex := [(100, [], (jenc (e1 * jlg 1)))]) (v := (4, 2)) (st2 := [(4, 25), (4, 23)]) (hs2 := [jzY_329, (101, [], [e0, e1, e2, e3, e4, e5]), jgh, jgh, jgh, jgh, jgh, (130, [], [17, 18, 19, 20, 21, 22]), jgh, jgh, jgh, jgh, jgh, jgh, jgh, jgh, jgh, (100, [], (jenc (jlg 0))), (100, [], (jenc (jlg 1))), (100, [], (jenc (jlg 2))), (100, [], (jenc (jlg 3))), (100, [], (jenc (jlg 4))), (100, [], (jenc (jlg 5))), (100, [], (jenc 0)), (100, [], (jenc e1)), (100, [], (jenc (e1 * jlg 1)))]) (jT_product (d := 0) (a := e1) (b := jlg 1) (jb54 (by omega) (by omega)) hp.1) (by rfl) (by rfl) (by rfl) (by rfl) ⟨rfl, rfl, trivial⟩ (by rfl) (by rfl) (by omega) (by show 23 ≤ 25; omega) (by omega) (by omega) rfl rfl ?_
      refine jT_callA [23, 25] (y := 181) (pcN := 40) (dC := 0) (bc1 := 0) (bc2 := 0) (c1 := (b1 + 13)) (c2 := (b2 + 728)) (as := [(4, 23), (4, 25)]) (asC := [(4, 0), (4, 1)]) (LN := [(3, (0, 1)), (2, (4, 23)), (0, (4, 0)), (1, (4, 1))]) (stN := []) (hsC := [(100, [], (jenc 0)), (100, [], (jenc (e1 * jlg 1)))]) (ex := []) (v := (4, 1)) (st2 := [(4, 25)]) (hs2 := [jzY_329, (101, [], [e0, e1, e2, e3, e4, e5]), jgh, jgh, jgh, jgh, jgh, (130, [], [17, 18, 19, 20, 21, 22]), jgh, jgh, jgh, jgh, jgh, jgh, jgh, jgh, jgh, (100, [], (jenc (jlg 0))), (100, [], (jenc (jlg 1))), (100, [], (jenc (jlg 2))), (100, [], (jenc (jlg 3))), (100, [], (jenc (jlg 4))), (100, [], (jenc (jlg 5))), (100, [], (jenc 0)), (100, [], (jenc e1)), (100, [], (jenc (e1 * jlg 1)))]) (jT_added_0l (d := 0) (b := e1 * jlg 1)) (by rfl) (by rfl) (by rfl) (by rfl) ⟨rfl, rfl, trivial⟩ (by rfl) (by rfl) (by omega) (by show 23 ≤ 26; omega) (by omega) (by omega) rfl rfl ?_
      refine jT_xastore_n (v := (4, 25)) (LN := [(2, (4, 25)), (3, (0, 1)), (0, (4, 0)), (1, (4, 1))]) (pcN := 41) jIY_214_40 rfl rfl rfl rfl ?_
      refine jT_xiinc (x := 1) (z := 2) (LN := [(3, (0, 2)), (2, (4, 25)), (0, (4, 0)), (1, (4, 1))]) (pcN := 44) jIY_214_41 rfl rfl (by decide) rfl rfl ?_
      refine jT_xgoto (pcN := 7) jIY_214_44 rfl ?_
      refine jT_loc (LN := [(3, (0, 2)), (2, (4, 25)), (0, (4, 0)), (1, (4, 1))]) (by show List.Nodup [3, 2, 0, 1]; decide) (by intro q hq; simp only [List.mem_cons, List.not_mem_nil, or_false] at hq; rcases hq with rfl | rfl | rfl | rfl <;> rfl) ?_
      refine jT_gc [0, 1, 2, 3, 4, 5, 6, 7, 8, 9, 10, 11, 12, 13, 14, 15, 16, 17, 18, 19, 20, 21, 22, 25] (hs0 := [jzY_329, (101, [], [e0, e1, e2, e3, e4, e5]), jgh, jgh, jgh, jgh, jgh, (130, [], [17, 18, 19, 20, 21, 22]), jgh, jgh, jgh, jgh, jgh, jgh, jgh, jgh, jgh, (100, [], (jenc (jlg 0))), (100, [], (jenc (jlg 1))), (100, [], (jenc (jlg 2))), (100, [], (jenc (jlg 3))), (100, [], (jenc (jlg 4))), (100, [], (jenc (jlg 5))), (100, [], jenc (e1 * jlg 1))]) (L0 := [(3, (0, 2)), (2, (4, 23)), (0, (4, 0)), (1, (4, 1))]) (st0 := []) (by show jgB [0, 1, 2, 3, 4, 5, 6, 7, 8, 9, 10, 11, 12, 13, 14, 15, 16, 17, 18, 19, 20, 21, 22, 25] 26 = true; decide +kernel) rfl ⟨rfl, rfl, rfl, rfl, rfl, rfl, rfl, rfl, rfl, rfl, rfl, rfl, rfl, rfl, rfl, rfl, rfl, rfl, rfl, rfl, rfl, rfl, rfl, rfl, trivial⟩ rfl rfl (by decide +kernel) ?_
      exact jT.mono (jYl_lg_81_2 hd h_e0 h_e1 h_e2 h_e3 h_e4 h_e5 (Nat.le_trans hp.2.2 (by decide)) (by rw [Int.zero_add] at hw; exact hw) h) (Nat.le_refl _) (by omega) (by omega) (fun _ _ _ z => z)
    · refine jT_xiload_n (v := (0, 1)) (pcN := 8) jIY_214_7 rfl rfl rfl ?_
      refine jT_xbipush (k := 6) (pcN := 10) jIY_214_8 (by decide) rfl ?_
      refine jT_xicF (t := 47) (pcN := 13) jIY_214_10 rfl (by decide +kernel) rfl rfl ?_
      refine jT_xaload_n (v := (4, 1)) (pcN := 14) jIY_214_13 rfl rfl rfl ?_
      refine jT_xiload_n (v := (0, 1)) (pcN := 15) jIY_214_14 rfl rfl rfl ?_
      refine jT_lald (x := e1) (a := 1) (j := 1) (fs := []) (X := [e0, e1, e2, e3, e4, e5]) jIY_214_15 rfl rfl rfl rfl ?_
      refine jT_eq (LN := [(3, (0, 1)), (2, (4, 23)), (0, (4, 0)), (1, (4, 1))]) (stN := [(1, e1)]) (hsN := [jzY_329, (101, [], [e0, e1, e2, e3, e4, e5]), jgh, jgh, jgh, jgh, jgh, (130, [], [17, 18, 19, 20, 21, 22]), jgh, jgh, jgh, jgh, jgh, jgh, jgh, jgh, jgh, (100, [], (jenc (jlg 0))), (100, [], (jenc (jlg 1))), (100, [], (jenc (jlg 2))), (100, [], (jenc (jlg 3))), (100, [], (jenc (jlg 4))), (100, [], (jenc (jlg 5))), (100, [], (jenc a))]) rfl rfl rfl ?_
      refine jT_xlconst (z := 0) (pcN := 17) jIY_214_16 rfl rfl ?_
      refine jT_lcmp (a := e1) (b := 0) (z := 1) (by rfl) (by rfl) (jwl_idd (by omega) (by omega)) (jwl_idd (by omega) (by omega)) (by rw [decide_eq_true (show (0 : Int) < e1 by omega)]; rfl) ?_
      refine jT_xifF (t := 41) (pcN := 21) jIY_214_18 rfl (by decide +kernel) rfl rfl ?_
      refine jT_xaload_n (v := (4, 23)) (pcN := 22) jIY_214_21 rfl rfl rfl ?_
      refine jT_xaload_n (v := (4, 1)) (pcN := 23) jIY_214_22 rfl rfl rfl ?_
      refine jT_xiload_n (v := (0, 1)) (pcN := 24) jIY_214_23 rfl rfl rfl ?_
      refine jT_lald (x := e1) (a := 1) (j := 1) (fs := []) (X := [e0, e1, e2, e3, e4, e5]) jIY_214_24 rfl rfl rfl rfl ?_
      refine jT_eq (LN := [(3, (0, 1)), (2, (4, 23)), (0, (4, 0)), (1, (4, 1))]) (stN := [(1, e1), (4, 23)]) (hsN := [jzY_329, (101, [], [e0, e1, e2, e3, e4, e5]), jgh, jgh, jgh, jgh, jgh, (130, [], [17, 18, 19, 20, 21, 22]), jgh, jgh, jgh, jgh, jgh, jgh, jgh, jgh, jgh, (100, [], (jenc (jlg 0))), (100, [], (jenc (jlg 1))), (100, [], (jenc (jlg 2))), (100, [], (jenc (jlg 3))), (100, [], (jenc (jlg 4))), (100, [], (jenc (jlg 5))), (100, [], (jenc a))]) rfl rfl rfl ?_
      refine jT_callA [] (y := 178) (pcN := 28) (dC := 1) (bc1 := 1) (bc2 := 56) (c1 := (b1 + 14)) (c2 := (b2 + 784)) (as := [(1, e1)]) (asC := [(1, e1)]) (LN := [(3, (0, 1)), (2, (4, 23)), (0, (4, 0)), (1, (4, 1))]) (stN := [(4, 23)]) (hsC := []) (ex := [(100, [], (jenc e1))]) (v := (4, 0)) (st2 := [(4, 24), (4, 23)]) (hs2 := [jzY_329, (101, [], [e0, e1, e2, e3, e4, e5]), jgh, jgh, jgh, jgh, jgh, (130, [], [17, 18, 19, 20, 21, 22]), jgh, jgh, jgh, jgh, jgh, jgh, jgh, jgh, jgh, (100, [], (jenc (jlg 0))), (100, [], (jenc (jlg 1))), (100, [], (jenc (jlg 2))), (100, [], (jenc (jlg 3))), (100, [], (jenc (jlg 4))), (100, [], (jenc (jlg 5))), (100, [], (jenc a)), (100, [], (jenc e1))]) (jT_big (d := 0) (v := e1) (by omega) (by omega)) (by rfl) (by rfl) (by rfl) (by rfl) trivial (by rfl) (by rfl) (by omega) (by show 23 ≤ 24; omega) (by omega) (by omega) rfl rfl ?_
      refine jT_xaload_n (v := (4, 0)) (pcN := 29) jIY_214_28 rfl rfl rfl ?_
      refine jT_xgetf (a := 0) (t := 1) (ci := 14) (fi := 8) (c := jzY_329) (v := (4, 7)) (pcN := 32) jIY_214_29 rfl rfl rfl rfl rfl rfl rfl ?_
      refine jT_xiload_n (v := (0, 1)) (pcN := 33) jIY_214_32 rfl rfl rfl ?_
      refine jT_aald (x := 18) (a := 7) (j := 1) (fs := []) (X := [17, 18, 19, 20, 21, 22]) (kd := 130) jIY_214_33 rfl rfl rfl rfl rfl ?_
      refine jT_eq (LN := [(3, (0, 1)), (2, (4, 23)), (0, (4, 0)), (1, (4, 1))]) (stN := [(4, 18), (4, 24), (4, 23)]) (hsN := [jzY_329, (101, [], [e0, e1, e2, e3, e4, e5]), jgh, jgh, jgh, jgh, jgh, (130, [], [17, 18, 19, 20, 21, 22]), jgh, jgh, jgh, jgh, jgh, jgh, jgh, jgh, jgh, (100, [], (jenc (jlg 0))), (100, [], (jenc (jlg 1))), (100, [], (jenc (jlg 2))), (100, [], (jenc (jlg 3))), (100, [], (jenc (jlg 4))), (100, [], (jenc (jlg 5))), (100, [], (jenc a)), (100, [], (jenc e1))]) rfl rfl rfl ?_
      refine jT_callA [24, 18] (y := 179) (pcN := 37) (dC := 1) (bc1 := 1) (bc2 := 56) (c1 := (b1 + 13)) (c2 := (b2 + 728)) (as := [(4, 24), (4, 18)]) (asC := [(4, 0), (4, 1)]) (LN := [(3, (0, 1)), (2, (4, 23)), (0, (4, 0)), (1, (4, 1))]) (stN := [(4, 23)]) (hsC := [(100, [], (jenc e1)), (100, [], (jenc (jlg 1)))]) (ex := [(100, [], (jenc (e1 * jlg 1)))]) (v := (4, 2)) (st2 := [(4, 25), (4, 23)]) (hs2 := [jzY_329, (101, [], [e0, e1, e2, e3, e4, e5]), jgh, jgh, jgh, jgh, jgh, (130, [], [17, 18, 19, 20, 21, 22]), jgh, jgh, jgh, jgh, jgh, jgh, jgh, jgh, jgh, (100, [], (jenc (jlg 0))), (100, [], (jenc (jlg 1))), (100, [], (jenc (jlg 2))), (100, [], (jenc (jlg 3))), (100, [], (jenc (jlg 4))), (100, [], (jenc (jlg 5))), (100, [], (jenc a)), (100, [], (jenc e1)), (100, [], (jenc (e1 * jlg 1)))]) (jT_product (d := 0) (a := e1) (b := jlg 1) (jb54 (by omega) (by omega)) hp.1) (by rfl) (by rfl) (by rfl) (by rfl) ⟨rfl, rfl, trivial⟩ (by rfl) (by rfl) (by omega) (by show 23 ≤ 25; omega) (by omega) (by omega) rfl rfl ?_
      refine jT_callA [23, 25] (y := 181) (pcN := 40) (dC := 1) (bc1 := 1) (bc2 := 56) (c1 := (b1 + 12)) (c2 := (b2 + 672)) (as := [(4, 23), (4, 25)]) (asC := [(4, 0), (4, 1)]) (LN := [(3, (0, 1)), (2, (4, 23)), (0, (4, 0)), (1, (4, 1))]) (stN := []) (hsC := [(100, [], (jenc a)), (100, [], (jenc (e1 * jlg 1)))]) (ex := [(100, [], (jenc (a + (e1 * jlg 1))))]) (v := (4, 2)) (st2 := [(4, 26)]) (hs2 := [jzY_329, (101, [], [e0, e1, e2, e3, e4, e5]), jgh, jgh, jgh, jgh, jgh, (130, [], [17, 18, 19, 20, 21, 22]), jgh, jgh, jgh, jgh, jgh, jgh, jgh, jgh, jgh, (100, [], (jenc (jlg 0))), (100, [], (jenc (jlg 1))), (100, [], (jenc (jlg 2))), (100, [], (jenc (jlg 3))), (100, [], (jenc (jlg 4))), (100, [], (jenc (jlg 5))), (100, [], (jenc a)), (100, [], (jenc e1)), (100, [], (jenc (e1 * jlg 1))), (100, [], (jenc (a + (e1 * jlg 1))))]) (jT_added (d := 0) (a := a) (b := e1 * jlg 1) ga hp.2.1 (jb54k ha (by decide)) hp.1 (jb54a ha hp.2.2 (by decide))) (by rfl) (by rfl) (by rfl) (by rfl) ⟨rfl, rfl, trivial⟩ (by rfl) (by rfl) (by omega) (by show 23 ≤ 26; omega) (by omega) (by omega) rfl rfl ?_
      refine jT_xastore_n (v := (4, 26)) (LN := [(2, (4, 26)), (3, (0, 1)), (0, (4, 0)), (1, (4, 1))]) (pcN := 41) jIY_214_40 rfl rfl rfl rfl ?_
      refine jT_xiinc (x := 1) (z := 2) (LN := [(3, (0, 2)), (2, (4, 26)), (0, (4, 0)), (1, (4, 1))]) (pcN := 44) jIY_214_41 rfl rfl (by decide) rfl rfl ?_
      refine jT_xgoto (pcN := 7) jIY_214_44 rfl ?_
      refine jT_loc (LN := [(3, (0, 2)), (2, (4, 26)), (0, (4, 0)), (1, (4, 1))]) (by show List.Nodup [3, 2, 0, 1]; decide) (by intro q hq; simp only [List.mem_cons, List.not_mem_nil, or_false] at hq; rcases hq with rfl | rfl | rfl | rfl <;> rfl) ?_
      refine jT_gc [0, 1, 2, 3, 4, 5, 6, 7, 8, 9, 10, 11, 12, 13, 14, 15, 16, 17, 18, 19, 20, 21, 22, 26] (hs0 := [jzY_329, (101, [], [e0, e1, e2, e3, e4, e5]), jgh, jgh, jgh, jgh, jgh, (130, [], [17, 18, 19, 20, 21, 22]), jgh, jgh, jgh, jgh, jgh, jgh, jgh, jgh, jgh, (100, [], (jenc (jlg 0))), (100, [], (jenc (jlg 1))), (100, [], (jenc (jlg 2))), (100, [], (jenc (jlg 3))), (100, [], (jenc (jlg 4))), (100, [], (jenc (jlg 5))), (100, [], jenc (a + (e1 * jlg 1)))]) (L0 := [(3, (0, 2)), (2, (4, 23)), (0, (4, 0)), (1, (4, 1))]) (st0 := []) (by show jgB [0, 1, 2, 3, 4, 5, 6, 7, 8, 9, 10, 11, 12, 13, 14, 15, 16, 17, 18, 19, 20, 21, 22, 26] 27 = true; decide +kernel) rfl ⟨rfl, rfl, rfl, rfl, rfl, rfl, rfl, rfl, rfl, rfl, rfl, rfl, rfl, rfl, rfl, rfl, rfl, rfl, rfl, rfl, rfl, rfl, rfl, rfl, trivial⟩ rfl rfl (by decide +kernel) ?_
      exact jT.mono (jYl_lg_81_2 hd h_e0 h_e1 h_e2 h_e3 h_e4 h_e5 (jb1c ha hp.2.2 (by decide)) (by rw [← Int.add_assoc] at hw; exact hw) h) (Nat.le_refl _) (by omega) (by omega) (fun _ _ _ z => z)
theorem jYl_lg_81_0 {xs : List Int} {d b1 b2 : Nat} {Q : Nat → JV → List JC → Prop} (hd : 1 < d) {a w e0 e1 e2 e3 e4 e5 : Int} (h_e0 : -4611686018427387903 ≤ e0 ∧ e0 ≤ 4611686018427387903) (h_e1 : -4611686018427387903 ≤ e1 ∧ e1 ≤ 4611686018427387903) (h_e2 : -4611686018427387903 ≤ e2 ∧ e2 ≤ 4611686018427387903) (h_e3 : -4611686018427387903 ≤ e3 ∧ e3 ≤ 4611686018427387903) (h_e4 : -4611686018427387903 ≤ e4 ∧ e4 ≤ 4611686018427387903) (h_e5 : -4611686018427387903 ≤ e5 ∧ e5 ≤ 4611686018427387903) (ha : a.natAbs ≤ 0 * 10 ^ 220) (hw : a + (e0 * jlg 0 + (e1 * jlg 1 + (e2 * jlg 2 + (e3 * jlg 3 + (e4 * jlg 4 + (e5 * jlg 5)))))) = w) (h : jT xs d 214 23 47 [(2, (4, 23))] [] [jzY_329, (101, [], [e0, e1, e2, e3, e4, e5]), jgh, jgh, jgh, jgh, jgh, (130, [], [17, 18, 19, 20, 21, 22]), jgh, jgh, jgh, jgh, jgh, jgh, jgh, jgh, jgh, (100, [], (jenc (jlg 0))), (100, [], (jenc (jlg 1))), (100, [], (jenc (jlg 2))), (100, [], (jenc (jlg 3))), (100, [], (jenc (jlg 4))), (100, [], (jenc (jlg 5))), (100, [], jenc w)] b1 b2 Q) : jT xs d 214 23 7 [(3, (0, 0)), (2, (4, 23)), (0, (4, 0)), (1, (4, 1))] [] [jzY_329, (101, [], [e0, e1, e2, e3, e4, e5]), jgh, jgh, jgh, jgh, jgh, (130, [], [17, 18, 19, 20, 21, 22]), jgh, jgh, jgh, jgh, jgh, jgh, jgh, jgh, jgh, (100, [], (jenc (jlg 0))), (100, [], (jenc (jlg 1))), (100, [], (jenc (jlg 2))), (100, [], (jenc (jlg 3))), (100, [], (jenc (jlg 4))), (100, [], (jenc (jlg 5))), (100, [], jenc a)] (b1 + 18) (b2 + 1008) Q := by
  rcases (show (e0 < 0) ∨ (e0 = 0) ∨ (0 < e0) by omega) with g_0 | g_0 | g_0
  · have hp := jlz_m (k := 0) (e := e0) (by decide) (by omega) (by omega)
    rcases (show (a = 0) ∨ (a ≠ 0) by omega) with ga | ga
    · subst ga
      refine jT_xiload_n (v := (0, 0)) (pcN := 8) jIY_214_7 rfl rfl rfl ?_
      refine jT_xbipush (k := 6) (pcN := 10) jIY_214_8 (by decide) rfl ?_
      refine jT_xicF (t := 47) (pcN := 13) jIY_214_10 rfl (by decide +kernel) rfl rfl ?_
      refine jT_xaload_n (v := (4, 1)) (pcN := 14) jIY_214_13 rfl rfl rfl ?_
      refine jT_xiload_n (v := (0, 0)) (pcN := 15) jIY_214_14 rfl rfl rfl ?_
      refine jT_lald (x := e0) (a := 1) (j := 0) (fs := []) (X := [e0, e1, e2, e3, e4, e5]) jIY_214_15 rfl rfl rfl rfl ?_
      refine jT_eq (LN := [(3, (0, 0)), (2, (4, 23)), (0, (4, 0)), (1, (4, 1))]) (stN := [(1, e0)]) (hsN := [jzY_329, (101, [], [e0, e1, e2, e3, e4, e5]), jgh, jgh, jgh, jgh, jgh, (130, [], [17, 18, 19, 20, 21, 22]), jgh, jgh, jgh, jgh, jgh, jgh, jgh, jgh, jgh, (100, [], (jenc (jlg 0))), (100, [], (jenc (jlg 1))), (100, [], (jenc (jlg 2))), (100, [], (jenc (jlg 3))), (100, [], (jenc (jlg 4))), (100, [], (jenc (jlg 5))), (100, [], (jenc 0))]) rfl rfl rfl ?_
      refine jT_xlconst (z := 0) (pcN := 17) jIY_214_16 rfl rfl ?_
      refine jT_lcmp (a := e0) (b := 0) (z := (-1)) (by rfl) (by rfl) (jwl_idd (by omega) (by omega)) (jwl_idd (by omega) (by omega)) (by rw [decide_eq_false (show ¬ ((0 : Int) < e0) by omega), decide_eq_false (show ¬ ((e0 : Int) = 0) by omega)]; rfl) ?_
      refine jT_xifF (t := 41) (pcN := 21) jIY_214_18 rfl (by decide +kernel) rfl rfl ?_
      refine jT_xaload_n (v := (4, 23)) (pcN := 22) jIY_214_21 rfl rfl rfl ?_
      refine jT_xaload_n (v := (4, 1)) (pcN := 23) jIY_214_22 rfl rfl rfl ?_
      refine jT_xiload_n (v := (0, 0)) (pcN := 24) jIY_214_23 rfl rfl rfl ?_
      refine jT_lald (x := e0) (a := 1) (j := 0) (fs := []) (X := [e0, e1, e2, e3, e4, e5]) jIY_214_24 rfl rfl rfl rfl ?_
      refine jT_eq (LN := [(3, (0, 0)), (2, (4, 23)), (0, (4, 0)), (1, (4, 1))]) (stN := [(1, e0), (4, 23)]) (hsN := [jzY_329, (101, [], [e0, e1, e2, e3, e4, e5]), jgh, jgh, jgh, jgh, jgh, (130, [], [17, 18, 19, 20, 21, 22]), jgh, jgh, jgh, jgh, jgh, jgh, jgh, jgh, jgh, (100, [], (jenc (jlg 0))), (100, [], (jenc (jlg 1))), (100, [], (jenc (jlg 2))), (100, [], (jenc (jlg 3))), (100, [], (jenc (jlg 4))), (100, [], (jenc (jlg 5))), (100, [], (jenc 0))]) rfl rfl rfl ?_
      refine jT_callA [] (y := 178) (pcN := 28) (dC := 1) (bc1 := 1) (bc2 := 56) (c1 := (b1 + 17)) (c2 := (b2 + 952)) (as := [(1, e0)]) (asC := [(1, e0)]) (LN := [(3, (0, 0)), (2, (4, 23)), (0, (4, 0)), (1, (4, 1))]) (stN := [(4, 23)]) (hsC := []) (ex := [(100, [], (jenc e0))]) (v := (4, 0)) (st2 := [(4, 24), (4, 23)]) (hs2 := [jzY_329, (101, [], [e0, e1, e2, e3, e4, e5]), jgh, jgh, jgh, jgh, jgh, (130, [], [17, 18, 19, 20, 21, 22]), jgh, jgh, jgh, jgh, jgh, jgh, jgh, jgh, jgh, (100, [], (jenc (jlg 0))), (100, [], (jenc (jlg 1))), (100, [], (jenc (jlg 2))), (100, [], (jenc (jlg 3))), (100, [], (jenc (jlg 4))), (100, [], (jenc (jlg 5))), (100, [], (jenc 0)), (100, [], (jenc e0))]) (jT_big (d := 0) (v := e0) (by omega) (by omega)) (by rfl) (by rfl) (by rfl) (by rfl) trivial (by rfl) (by rfl) (by omega) (by show 23 ≤ 24; omega) (by omega) (by omega) rfl rfl ?_
      refine jT_xaload_n (v := (4, 0)) (pcN := 29) jIY_214_28 rfl rfl rfl ?_
      refine jT_xgetf (a := 0) (t := 1) (ci := 14) (fi := 8) (c := jzY_329) (v := (4, 7)) (pcN := 32) jIY_214_29 rfl rfl rfl rfl rfl rfl rfl ?_
      refine jT_xiload_n (v := (0, 0)) (pcN := 33) jIY_214_32 rfl rfl rfl ?_
      refine jT_aald (x := 17) (a := 7) (j := 0) (fs := []) (X := [17, 18, 19, 20, 21, 22]) (kd := 130) jIY_214_33 rfl rfl rfl rfl rfl ?_
      refine jT_eq (LN := [(3, (0, 0)), (2, (4, 23)), (0, (4, 0)), (1, (4, 1))]) (stN := [(4, 17), (4, 24), (4, 23)]) (hsN := [jzY_329, (101, [], [e0, e1, e2, e3, e4, e5]), jgh, jgh, jgh, jgh, jgh, (130, [], [17, 18, 19, 20, 21, 22]), jgh, jgh, jgh, jgh, jgh, jgh, jgh, jgh, jgh, (100, [], (jenc (jlg 0))), (100, [], (jenc (jlg 1))), (100, [], (jenc (jlg 2))), (100, [], (jenc (jlg 3))), (100, [], (jenc (jlg 4))), (100, [], (jenc (jlg 5))), (100, [], (jenc 0)), (100, [], (jenc e0))]) rfl rfl rfl ?_
      refine jT_callA [24, 17] (y := 179) (pcN := 37) (dC := 1) (bc1 := 1) (bc2 := 56) (c1 := (b1 + 16)) (c2 := (b2 + 896)) (as := [(4, 24), (4, 17)]) (asC := [(4, 0), (4, 1)]) (LN := [(3, (0, 0)), (2, (4, 23)), (0, (4, 0)), (1, (4, 1))]) (stN := [(4, 23)]) (hsC := [(100, [], (jenc e0)), (100, [], (jenc (jlg 0)))]) (ex := [(100, [], (jenc (e0 * jlg 0)))]) (v := (4, 2)) (st2 := [(4, 25), (4, 23)]) (hs2 := [jzY_329, (101, [], [e0, e1, e2, e3, e4, e5]), jgh, jgh, jgh, jgh, jgh, (130, [], [17, 18, 19, 20, 21, 22]), jgh, jgh, jgh, jgh, jgh, jgh, jgh, jgh, jgh, (100, [], (jenc (jlg 0))), (100, [], (jenc (jlg 1))), (100, [], (jenc (jlg 2))), (100, [], (jenc (jlg 3))), (100, [], (jenc (jlg 4))), (100, [], (jenc (jlg 5))), (100, [], (jenc 0)), (100, [], (jenc e0)), (100, [], (jenc (e0 * jlg 0)))]) (jT_product (d := 0) (a := e0) (b := jlg 0) (jb54 (by omega) (by omega)) hp.1) (by rfl) (by rfl) (by rfl) (by rfl) ⟨rfl, rfl, trivial⟩ (by rfl) (by rfl) (by omega) (by show 23 ≤ 25; omega) (by omega) (by omega) rfl rfl ?_
      refine jT_callA [23, 25] (y := 181) (pcN := 40) (dC := 0) (bc1 := 0) (bc2 := 0) (c1 := (b1 + 16)) (c2 := (b2 + 896)) (as := [(4, 23), (4, 25)]) (asC := [(4, 0), (4, 1)]) (LN := [(3, (0, 0)), (2, (4, 23)), (0, (4, 0)), (1, (4, 1))]) (stN := []) (hsC := [(100, [], (jenc 0)), (100, [], (jenc (e0 * jlg 0)))]) (ex := []) (v := (4, 1)) (st2 := [(4, 25)]) (hs2 := [jzY_329, (101, [], [e0, e1, e2, e3, e4, e5]), jgh, jgh, jgh, jgh, jgh, (130, [], [17, 18, 19, 20, 21, 22]), jgh, jgh, jgh, jgh, jgh, jgh, jgh, jgh, jgh, (100, [], (jenc (jlg 0))), (100, [], (jenc (jlg 1))), (100, [], (jenc (jlg 2))), (100, [], (jenc (jlg 3))), (100, [], (jenc (jlg 4))), (100, [], (jenc (jlg 5))), (100, [], (jenc 0)), (100, [], (jenc e0)), (100, [], (jenc (e0 * jlg 0)))]) (jT_added_0l (d := 0) (b := e0 * jlg 0)) (by rfl) (by rfl) (by rfl) (by rfl) ⟨rfl, rfl, trivial⟩ (by rfl) (by rfl) (by omega) (by show 23 ≤ 26; omega) (by omega) (by omega) rfl rfl ?_
      refine jT_xastore_n (v := (4, 25)) (LN := [(2, (4, 25)), (3, (0, 0)), (0, (4, 0)), (1, (4, 1))]) (pcN := 41) jIY_214_40 rfl rfl rfl rfl ?_
      refine jT_xiinc (x := 0) (z := 1) (LN := [(3, (0, 1)), (2, (4, 25)), (0, (4, 0)), (1, (4, 1))]) (pcN := 44) jIY_214_41 rfl rfl (by decide) rfl rfl ?_
      refine jT_xgoto (pcN := 7) jIY_214_44 rfl ?_
      refine jT_loc (LN := [(3, (0, 1)), (2, (4, 25)), (0, (4, 0)), (1, (4, 1))]) (by show List.Nodup [3, 2, 0, 1]; decide) (by intro q hq; simp only [List.mem_cons, List.not_mem_nil, or_false] at hq; rcases hq with rfl | rfl | rfl | rfl <;> rfl) ?_
      refine jT_gc [0, 1, 2, 3, 4, 5, 6, 7, 8, 9, 10, 11, 12, 13, 14, 15, 16, 17, 18, 19, 20, 21, 22, 25] (hs0 := [jzY_329, (101, [], [e0, e1, e2, e3, e4, e5]), jgh, jgh, jgh, jgh, jgh, (130, [], [17, 18, 19, 20, 21, 22]), jgh, jgh, jgh, jgh, jgh, jgh, jgh, jgh, jgh, (100, [], (jenc (jlg 0))), (100, [], (jenc (jlg 1))), (100, [], (jenc (jlg 2))), (100, [], (jenc (jlg 3))), (100, [], (jenc (jlg 4))), (100, [], (jenc (jlg 5))), (100, [], jenc (e0 * jlg 0))]) (L0 := [(3, (0, 1)), (2, (4, 23)), (0, (4, 0)), (1, (4, 1))]) (st0 := []) (by show jgB [0, 1, 2, 3, 4, 5, 6, 7, 8, 9, 10, 11, 12, 13, 14, 15, 16, 17, 18, 19, 20, 21, 22, 25] 26 = true; decide +kernel) rfl ⟨rfl, rfl, rfl, rfl, rfl, rfl, rfl, rfl, rfl, rfl, rfl, rfl, rfl, rfl, rfl, rfl, rfl, rfl, rfl, rfl, rfl, rfl, rfl, rfl, trivial⟩ rfl rfl (by decide +kernel) ?_
      exact jT.mono (jYl_lg_81_1 hd h_e0 h_e1 h_e2 h_e3 h_e4 h_e5 (jb1z hp.2.2) (by rw [Int.zero_add] at hw; exact hw) h) (Nat.le_refl _) (by omega) (by omega) (fun _ _ _ z => z)
    · refine jT_xiload_n (v := (0, 0)) (pcN := 8) jIY_214_7 rfl rfl rfl ?_
      refine jT_xbipush (k := 6) (pcN := 10) jIY_214_8 (by decide) rfl ?_
      refine jT_xicF (t := 47) (pcN := 13) jIY_214_10 rfl (by decide +kernel) rfl rfl ?_
      refine jT_xaload_n (v := (4, 1)) (pcN := 14) jIY_214_13 rfl rfl rfl ?_
      refine jT_xiload_n (v := (0, 0)) (pcN := 15) jIY_214_14 rfl rfl rfl ?_
      refine jT_lald (x := e0) (a := 1) (j := 0) (fs := []) (X := [e0, e1, e2, e3, e4, e5]) jIY_214_15 rfl rfl rfl rfl ?_
      refine jT_eq (LN := [(3, (0, 0)), (2, (4, 23)), (0, (4, 0)), (1, (4, 1))]) (stN := [(1, e0)]) (hsN := [jzY_329, (101, [], [e0, e1, e2, e3, e4, e5]), jgh, jgh, jgh, jgh, jgh, (130, [], [17, 18, 19, 20, 21, 22]), jgh, jgh, jgh, jgh, jgh, jgh, jgh, jgh, jgh, (100, [], (jenc (jlg 0))), (100, [], (jenc (jlg 1))), (100, [], (jenc (jlg 2))), (100, [], (jenc (jlg 3))), (100, [], (jenc (jlg 4))), (100, [], (jenc (jlg 5))), (100, [], (jenc a))]) rfl rfl rfl ?_
      refine jT_xlconst (z := 0) (pcN := 17) jIY_214_16 rfl rfl ?_
      refine jT_lcmp (a := e0) (b := 0) (z := (-1)) (by rfl) (by rfl) (jwl_idd (by omega) (by omega)) (jwl_idd (by omega) (by omega)) (by rw [decide_eq_false (show ¬ ((0 : Int) < e0) by omega), decide_eq_false (show ¬ ((e0 : Int) = 0) by omega)]; rfl) ?_
      refine jT_xifF (t := 41) (pcN := 21) jIY_214_18 rfl (by decide +kernel) rfl rfl ?_
      refine jT_xaload_n (v := (4, 23)) (pcN := 22) jIY_214_21 rfl rfl rfl ?_
      refine jT_xaload_n (v := (4, 1)) (pcN := 23) jIY_214_22 rfl rfl rfl ?_
      refine jT_xiload_n (v := (0, 0)) (pcN := 24) jIY_214_23 rfl rfl rfl ?_
      refine jT_lald (x := e0) (a := 1) (j := 0) (fs := []) (X := [e0, e1, e2, e3, e4, e5]) jIY_214_24 rfl rfl rfl rfl ?_
      refine jT_eq (LN := [(3, (0, 0)), (2, (4, 23)), (0, (4, 0)), (1, (4, 1))]) (stN := [(1, e0), (4, 23)]) (hsN := [jzY_329, (101, [], [e0, e1, e2, e3, e4, e5]), jgh, jgh, jgh, jgh, jgh, (130, [], [17, 18, 19, 20, 21, 22]), jgh, jgh, jgh, jgh, jgh, jgh, jgh, jgh, jgh, (100, [], (jenc (jlg 0))), (100, [], (jenc (jlg 1))), (100, [], (jenc (jlg 2))), (100, [], (jenc (jlg 3))), (100, [], (jenc (jlg 4))), (100, [], (jenc (jlg 5))), (100, [], (jenc a))]) rfl rfl rfl ?_
      refine jT_callA [] (y := 178) (pcN := 28) (dC := 1) (bc1 := 1) (bc2 := 56) (c1 := (b1 + 17)) (c2 := (b2 + 952)) (as := [(1, e0)]) (asC := [(1, e0)]) (LN := [(3, (0, 0)), (2, (4, 23)), (0, (4, 0)), (1, (4, 1))]) (stN := [(4, 23)]) (hsC := []) (ex := [(100, [], (jenc e0))]) (v := (4, 0)) (st2 := [(4, 24), (4, 23)]) (hs2 := [jzY_329, (101, [], [e0, e1, e2, e3, e4, e5]), jgh, jgh, jgh, jgh, jgh, (130, [], [17, 18, 19, 20, 21, 22]), jgh, jgh, jgh, jgh, jgh, jgh, jgh, jgh, jgh, (100, [], (jenc (jlg 0))), (100, [], (jenc (jlg 1))), (100, [], (jenc (jlg 2))), (100, [], (jenc (jlg 3))), (100, [], (jenc (jlg 4))), (100, [], (jenc (jlg 5))), (100, [], (jenc a)), (100, [], (jenc e0))]) (jT_big (d := 0) (v := e0) (by omega) (by omega)) (by rfl) (by rfl) (by rfl) (by rfl) trivial (by rfl) (by rfl) (by omega) (by show 23 ≤ 24; omega) (by omega) (by omega) rfl rfl ?_
      refine jT_xaload_n (v := (4, 0)) (pcN := 29) jIY_214_28 rfl rfl rfl ?_
      refine jT_xgetf (a := 0) (t := 1) (ci := 14) (fi := 8) (c := jzY_329) (v := (4, 7)) (pcN := 32) jIY_214_29 rfl rfl rfl rfl rfl rfl rfl ?_
      refine jT_xiload_n (v := (0, 0)) (pcN := 33) jIY_214_32 rfl rfl rfl ?_
      refine jT_aald (x := 17) (a := 7) (j := 0) (fs := []) (X := [17, 18, 19, 20, 21, 22]) (kd := 130) jIY_214_33 rfl rfl rfl rfl rfl ?_
      refine jT_eq (LN := [(3, (0, 0)), (2, (4, 23)), (0, (4, 0)), (1, (4, 1))]) (stN := [(4, 17), (4, 24), (4, 23)]) (hsN := [jzY_329, (101, [], [e0, e1, e2, e3, e4, e5]), jgh, jgh, jgh, jgh, jgh, (130, [], [17, 18, 19, 20, 21, 22]), jgh, jgh, jgh, jgh, jgh, jgh, jgh, jgh, jgh, (100, [], (jenc (jlg 0))), (100, [], (jenc (jlg 1))), (100, [], (jenc (jlg 2))), (100, [], (jenc (jlg 3))), (100, [], (jenc (jlg 4))), (100, [], (jenc (jlg 5))), (100, [], (jenc a)), (100, [], (jenc e0))]) rfl rfl rfl ?_
      refine jT_callA [24, 17] (y := 179) (pcN := 37) (dC := 1) (bc1 := 1) (bc2 := 56) (c1 := (b1 + 16)) (c2 := (b2 + 896)) (as := [(4, 24), (4, 17)]) (asC := [(4, 0), (4, 1)]) (LN := [(3, (0, 0)), (2, (4, 23)), (0, (4, 0)), (1, (4, 1))]) (stN := [(4, 23)]) (hsC := [(100, [], (jenc e0)), (100, [], (jenc (jlg 0)))]) (ex := [(100, [], (jenc (e0 * jlg 0)))]) (v := (4, 2)) (st2 := [(4, 25), (4, 23)]) (hs2 := [jzY_329, (101, [], [e0, e1, e2, e3, e4, e5]), jgh, jgh, jgh, jgh, jgh, (130, [], [17, 18, 19, 20, 21, 22]), jgh, jgh, jgh, jgh, jgh, jgh, jgh, jgh, jgh, (100, [], (jenc (jlg 0))), (100, [], (jenc (jlg 1))), (100, [], (jenc (jlg 2))), (100, [], (jenc (jlg 3))), (100, [], (jenc (jlg 4))), (100, [], (jenc (jlg 5))), (100, [], (jenc a)), (100, [], (jenc e0)), (100, [], (jenc (e0 * jlg 0)))]) (jT_product (d := 0) (a := e0) (b := jlg 0) (jb54 (by omega) (by omega)) hp.1) (by rfl) (by rfl) (by rfl) (by rfl) ⟨rfl, rfl, trivial⟩ (by rfl) (by rfl) (by omega) (by show 23 ≤ 25; omega) (by omega) (by omega) rfl rfl ?_
      refine jT_callA [23, 25] (y := 181) (pcN := 40) (dC := 1) (bc1 := 1) (bc2 := 56) (c1 := (b1 + 15)) (c2 := (b2 + 840)) (as := [(4, 23), (4, 25)]) (asC := [(4, 0), (4, 1)]) (LN := [(3, (0, 0)), (2, (4, 23)), (0, (4, 0)), (1, (4, 1))]) (stN := []) (hsC := [(100, [], (jenc a)), (100, [], (jenc (e0 * jlg 0)))]) (ex := [(100, [], (jenc (a + (e0 * jlg 0))))]) (v := (4, 2)) (st2 := [(4, 26)]) (hs2 := [jzY_329, (101, [], [e0, e1, e2, e3, e4, e5]), jgh, jgh, jgh, jgh, jgh, (130, [], [17, 18, 19, 20, 21, 22]), jgh, jgh, jgh, jgh, jgh, jgh, jgh, jgh, jgh, (100, [], (jenc (jlg 0))), (100, [], (jenc (jlg 1))), (100, [], (jenc (jlg 2))), (100, [], (jenc (jlg 3))), (100, [], (jenc (jlg 4))), (100, [], (jenc (jlg 5))), (100, [], (jenc a)), (100, [], (jenc e0)), (100, [], (jenc (e0 * jlg 0))), (100, [], (jenc (a + (e0 * jlg 0))))]) (jT_added (d := 0) (a := a) (b := e0 * jlg 0) ga hp.2.1 (jb54k ha (by decide)) hp.1 (jb54a ha hp.2.2 (by decide))) (by rfl) (by rfl) (by rfl) (by rfl) ⟨rfl, rfl, trivial⟩ (by rfl) (by rfl) (by omega) (by show 23 ≤ 26; omega) (by omega) (by omega) rfl rfl ?_
      refine jT_xastore_n (v := (4, 26)) (LN := [(2, (4, 26)), (3, (0, 0)), (0, (4, 0)), (1, (4, 1))]) (pcN := 41) jIY_214_40 rfl rfl rfl rfl ?_
      refine jT_xiinc (x := 0) (z := 1) (LN := [(3, (0, 1)), (2, (4, 26)), (0, (4, 0)), (1, (4, 1))]) (pcN := 44) jIY_214_41 rfl rfl (by decide) rfl rfl ?_
      refine jT_xgoto (pcN := 7) jIY_214_44 rfl ?_
      refine jT_loc (LN := [(3, (0, 1)), (2, (4, 26)), (0, (4, 0)), (1, (4, 1))]) (by show List.Nodup [3, 2, 0, 1]; decide) (by intro q hq; simp only [List.mem_cons, List.not_mem_nil, or_false] at hq; rcases hq with rfl | rfl | rfl | rfl <;> rfl) ?_
      refine jT_gc [0, 1, 2, 3, 4, 5, 6, 7, 8, 9, 10, 11, 12, 13, 14, 15, 16, 17, 18, 19, 20, 21, 22, 26] (hs0 := [jzY_329, (101, [], [e0, e1, e2, e3, e4, e5]), jgh, jgh, jgh, jgh, jgh, (130, [], [17, 18, 19, 20, 21, 22]), jgh, jgh, jgh, jgh, jgh, jgh, jgh, jgh, jgh, (100, [], (jenc (jlg 0))), (100, [], (jenc (jlg 1))), (100, [], (jenc (jlg 2))), (100, [], (jenc (jlg 3))), (100, [], (jenc (jlg 4))), (100, [], (jenc (jlg 5))), (100, [], jenc (a + (e0 * jlg 0)))]) (L0 := [(3, (0, 1)), (2, (4, 23)), (0, (4, 0)), (1, (4, 1))]) (st0 := []) (by show jgB [0, 1, 2, 3, 4, 5, 6, 7, 8, 9, 10, 11, 12, 13, 14, 15, 16, 17, 18, 19, 20, 21, 22, 26] 27 = true; decide +kernel) rfl ⟨rfl, rfl, rfl, rfl, rfl, rfl, rfl, rfl, rfl, rfl, rfl, rfl, rfl, rfl, rfl, rfl, rfl, rfl, rfl, rfl, rfl, rfl, rfl, rfl, trivial⟩ rfl rfl (by decide +kernel) ?_
      exact jT.mono (jYl_lg_81_1 hd h_e0 h_e1 h_e2 h_e3 h_e4 h_e5 (jb1c ha hp.2.2 (by decide)) (by rw [← Int.add_assoc] at hw; exact hw) h) (Nat.le_refl _) (by omega) (by omega) (fun _ _ _ z => z)
  · refine jT_xiload_n (v := (0, 0)) (pcN := 8) jIY_214_7 rfl rfl rfl ?_
    refine jT_xbipush (k := 6) (pcN := 10) jIY_214_8 (by decide) rfl ?_
    refine jT_xicF (t := 47) (pcN := 13) jIY_214_10 rfl (by decide +kernel) rfl rfl ?_
    refine jT_xaload_n (v := (4, 1)) (pcN := 14) jIY_214_13 rfl rfl rfl ?_
    refine jT_xiload_n (v := (0, 0)) (pcN := 15) jIY_214_14 rfl rfl rfl ?_
    refine jT_lald (x := e0) (a := 1) (j := 0) (fs := []) (X := [e0, e1, e2, e3, e4, e5]) jIY_214_15 rfl rfl rfl rfl ?_
    refine jT_eq (LN := [(3, (0, 0)), (2, (4, 23)), (0, (4, 0)), (1, (4, 1))]) (stN := [(1, e0)]) (hsN := [jzY_329, (101, [], [e0, e1, e2, e3, e4, e5]), jgh, jgh, jgh, jgh, jgh, (130, [], [17, 18, 19, 20, 21, 22]), jgh, jgh, jgh, jgh, jgh, jgh, jgh, jgh, jgh, (100, [], (jenc (jlg 0))), (100, [], (jenc (jlg 1))), (100, [], (jenc (jlg 2))), (100, [], (jenc (jlg 3))), (100, [], (jenc (jlg 4))), (100, [], (jenc (jlg 5))), (100, [], (jenc a))]) rfl rfl rfl ?_
    refine jT_xlconst (z := 0) (pcN := 17) jIY_214_16 rfl rfl ?_
    refine jT_lcmp (a := e0) (b := 0) (z := 0) (by rfl) (by rfl) (jwl_idd (by omega) (by omega)) (jwl_idd (by omega) (by omega)) (by rw [decide_eq_false (show ¬ ((0 : Int) < e0) by omega), decide_eq_true (show (e0 : Int) = 0 by omega)]; rfl) ?_
    refine jT_xifT (pcN := 41) jIY_214_18 rfl (by decide +kernel) rfl ?_
    refine jT_xiinc (x := 0) (z := 1) (LN := [(3, (0, 1)), (2, (4, 23)), (0, (4, 0)), (1, (4, 1))]) (pcN := 44) jIY_214_41 rfl rfl (by decide) rfl rfl ?_
    refine jT_xgoto (pcN := 7) jIY_214_44 rfl ?_
    refine jT_loc (LN := [(3, (0, 1)), (2, (4, 23)), (0, (4, 0)), (1, (4, 1))]) (by show List.Nodup [3, 2, 0, 1]; decide) (by intro q hq; simp only [List.mem_cons, List.not_mem_nil, or_false] at hq; rcases hq with rfl | rfl | rfl | rfl <;> rfl) ?_
    exact jT.mono (jYl_lg_81_1 hd h_e0 h_e1 h_e2 h_e3 h_e4 h_e5 (by omega) (by rw [g_0, Int.zero_mul] at hw; omega) h) (Nat.le_refl _) (by omega) (by omega) (fun _ _ _ z => z)
  · have hp := jlz_m (k := 0) (e := e0) (by decide) (by omega) (by omega)
    rcases (show (a = 0) ∨ (a ≠ 0) by omega) with ga | ga
    · subst ga
      refine jT_xiload_n (v := (0, 0)) (pcN := 8) jIY_214_7 rfl rfl rfl ?_
      refine jT_xbipush (k := 6) (pcN := 10) jIY_214_8 (by decide) rfl ?_
      refine jT_xicF (t := 47) (pcN := 13) jIY_214_10 rfl (by decide +kernel) rfl rfl ?_
      refine jT_xaload_n (v := (4, 1)) (pcN := 14) jIY_214_13 rfl rfl rfl ?_
      refine jT_xiload_n (v := (0, 0)) (pcN := 15) jIY_214_14 rfl rfl rfl ?_
      refine jT_lald (x := e0) (a := 1) (j := 0) (fs := []) (X := [e0, e1, e2, e3, e4, e5]) jIY_214_15 rfl rfl rfl rfl ?_
      refine jT_eq (LN := [(3, (0, 0)), (2, (4, 23)), (0, (4, 0)), (1, (4, 1))]) (stN := [(1, e0)]) (hsN := [jzY_329, (101, [], [e0, e1, e2, e3, e4, e5]), jgh, jgh, jgh, jgh, jgh, (130, [], [17, 18, 19, 20, 21, 22]), jgh, jgh, jgh, jgh, jgh, jgh, jgh, jgh, jgh, (100, [], (jenc (jlg 0))), (100, [], (jenc (jlg 1))), (100, [], (jenc (jlg 2))), (100, [], (jenc (jlg 3))), (100, [], (jenc (jlg 4))), (100, [], (jenc (jlg 5))), (100, [], (jenc 0))]) rfl rfl rfl ?_
      refine jT_xlconst (z := 0) (pcN := 17) jIY_214_16 rfl rfl ?_
      refine jT_lcmp (a := e0) (b := 0) (z := 1) (by rfl) (by rfl) (jwl_idd (by omega) (by omega)) (jwl_idd (by omega) (by omega)) (by rw [decide_eq_true (show (0 : Int) < e0 by omega)]; rfl) ?_
      refine jT_xifF (t := 41) (pcN := 21) jIY_214_18 rfl (by decide +kernel) rfl rfl ?_
      refine jT_xaload_n (v := (4, 23)) (pcN := 22) jIY_214_21 rfl rfl rfl ?_
      refine jT_xaload_n (v := (4, 1)) (pcN := 23) jIY_214_22 rfl rfl rfl ?_
      refine jT_xiload_n (v := (0, 0)) (pcN := 24) jIY_214_23 rfl rfl rfl ?_
      refine jT_lald (x := e0) (a := 1) (j := 0) (fs := []) (X := [e0, e1, e2, e3, e4, e5]) jIY_214_24 rfl rfl rfl rfl ?_
      refine jT_eq (LN := [(3, (0, 0)), (2, (4, 23)), (0, (4, 0)), (1, (4, 1))]) (stN := [(1, e0), (4, 23)]) (hsN := [jzY_329, (101, [], [e0, e1, e2, e3, e4, e5]), jgh, jgh, jgh, jgh, jgh, (130, [], [17, 18, 19, 20, 21, 22]), jgh, jgh, jgh, jgh, jgh, jgh, jgh, jgh, jgh, (100, [], (jenc (jlg 0))), (100, [], (jenc (jlg 1))), (100, [], (jenc (jlg 2))), (100, [], (jenc (jlg 3))), (100, [], (jenc (jlg 4))), (100, [], (jenc (jlg 5))), (100, [], (jenc 0))]) rfl rfl rfl ?_
      refine jT_callA [] (y := 178) (pcN := 28) (dC := 1) (bc1 := 1) (bc2 := 56) (c1 := (b1 + 17)) (c2 := (b2 + 952)) (as := [(1, e0)]) (asC := [(1, e0)]) (LN := [(3, (0, 0)), (2, (4, 23)), (0, (4, 0)), (1, (4, 1))]) (stN := [(4, 23)]) (hsC := []) (ex := [(100, [], (jenc e0))]) (v := (4, 0)) (st2 := [(4, 24), (4, 23)]) (hs2 := [jzY_329, (101, [], [e0, e1, e2, e3, e4, e5]), jgh, jgh, jgh, jgh, jgh, (130, [], [17, 18, 19, 20, 21, 22]), jgh, jgh, jgh, jgh, jgh, jgh, jgh, jgh, jgh, (100, [], (jenc (jlg 0))), (100, [], (jenc (jlg 1))), (100, [], (jenc (jlg 2))), (100, [], (jenc (jlg 3))), (100, [], (jenc (jlg 4))), (100, [], (jenc (jlg 5))), (100, [], (jenc 0)), (100, [], (jenc e0))]) (jT_big (d := 0) (v := e0) (by omega) (by omega)) (by rfl) (by rfl) (by rfl) (by rfl) trivial (by rfl) (by rfl) (by omega) (by show 23 ≤ 24; omega) (by omega) (by omega) rfl rfl ?_
      refine jT_xaload_n (v := (4, 0)) (pcN := 29) jIY_214_28 rfl rfl rfl ?_
      refine jT_xgetf (a := 0) (t := 1) (ci := 14) (fi := 8) (c := jzY_329) (v := (4, 7)) (pcN := 32) jIY_214_29 rfl rfl rfl rfl rfl rfl rfl ?_
      refine jT_xiload_n (v := (0, 0)) (pcN := 33) jIY_214_32 rfl rfl rfl ?_
      refine jT_aald (x := 17) (a := 7) (j := 0) (fs := []) (X := [17, 18, 19, 20, 21, 22]) (kd := 130) jIY_214_33 rfl rfl rfl rfl rfl ?_
      refine jT_eq (LN := [(3, (0, 0)), (2, (4, 23)), (0, (4, 0)), (1, (4, 1))]) (stN := [(4, 17), (4, 24), (4, 23)]) (hsN := [jzY_329, (101, [], [e0, e1, e2, e3, e4, e5]), jgh, jgh, jgh, jgh, jgh, (130, [], [17, 18, 19, 20, 21, 22]), jgh, jgh, jgh, jgh, jgh, jgh, jgh, jgh, jgh, (100, [], (jenc (jlg 0))), (100, [], (jenc (jlg 1))), (100, [], (jenc (jlg 2))), (100, [], (jenc (jlg 3))), (100, [], (jenc (jlg 4))), (100, [], (jenc (jlg 5))), (100, [], (jenc 0)), (100, [], (jenc e0))]) rfl rfl rfl ?_
      refine jT_callA [24, 17] (y := 179) (pcN := 37) (dC := 1) (bc1 := 1) (bc2 := 56) (c1 := (b1 + 16)) (c2 := (b2 + 896)) (as := [(4, 24), (4, 17)]) (asC := [(4, 0), (4, 1)]) (LN := [(3, (0, 0)), (2, (4, 23)), (0, (4, 0)), (1, (4, 1))]) (stN := [(4, 23)]) (hsC := [(100, [], (jenc e0)), (100, [], (jenc (jlg 0)))]) (ex := [(100, [], (jenc (e0 * jlg 0)))]) (v := (4, 2)) (st2 := [(4, 25), (4, 23)]) (hs2 := [jzY_329, (101, [], [e0, e1, e2, e3, e4, e5]), jgh, jgh, jgh, jgh, jgh, (130, [], [17, 18, 19, 20, 21, 22]), jgh, jgh, jgh, jgh, jgh, jgh, jgh, jgh, jgh, (100, [], (jenc (jlg 0))), (100, [], (jenc (jlg 1))), (100, [], (jenc (jlg 2))), (100, [], (jenc (jlg 3))), (100, [], (jenc (jlg 4))), (100, [], (jenc (jlg 5))), (100, [], (jenc 0)), (100, [], (jenc e0)), (100, [], (jenc (e0 * jlg 0)))]) (jT_product (d := 0) (a := e0) (b := jlg 0) (jb54 (by omega) (by omega)) hp.1) (by rfl) (by rfl) (by rfl) (by rfl) ⟨rfl, rfl, trivial⟩ (by rfl) (by rfl) (by omega) (by show 23 ≤ 25; omega) (by omega) (by omega) rfl rfl ?_
      refine jT_callA [23, 25] (y := 181) (pcN := 40) (dC := 0) (bc1 := 0) (bc2 := 0) (c1 := (b1 + 16)) (c2 := (b2 + 896)) (as := [(4, 23), (4, 25)]) (asC := [(4, 0), (4, 1)]) (LN := [(3, (0, 0)), (2, (4, 23)), (0, (4, 0)), (1, (4, 1))]) (stN := []) (hsC := [(100, [], (jenc 0)), (100, [], (jenc (e0 * jlg 0)))]) (ex := []) (v := (4, 1)) (st2 := [(4, 25)]) (hs2 := [jzY_329, (101, [], [e0, e1, e2, e3, e4, e5]), jgh, jgh, jgh, jgh, jgh, (130, [], [17, 18, 19, 20, 21, 22]), jgh, jgh, jgh, jgh, jgh, jgh, jgh, jgh, jgh, (100, [], (jenc (jlg 0))), (100, [], (jenc (jlg 1))), (100, [], (jenc (jlg 2))), (100, [], (jenc (jlg 3))), (100, [], (jenc (jlg 4))), (100, [], (jenc (jlg 5))), (100, [], (jenc 0)), (100, [], (jenc e0)), (100, [], (jenc (e0 * jlg 0)))]) (jT_added_0l (d := 0) (b := e0 * jlg 0)) (by rfl) (by rfl) (by rfl) (by rfl) ⟨rfl, rfl, trivial⟩ (by rfl) (by rfl) (by omega) (by show 23 ≤ 26; omega) (by omega) (by omega) rfl rfl ?_
      refine jT_xastore_n (v := (4, 25)) (LN := [(2, (4, 25)), (3, (0, 0)), (0, (4, 0)), (1, (4, 1))]) (pcN := 41) jIY_214_40 rfl rfl rfl rfl ?_
      refine jT_xiinc (x := 0) (z := 1) (LN := [(3, (0, 1)), (2, (4, 25)), (0, (4, 0)), (1, (4, 1))]) (pcN := 44) jIY_214_41 rfl rfl (by decide) rfl rfl ?_
      refine jT_xgoto (pcN := 7) jIY_214_44 rfl ?_
      refine jT_loc (LN := [(3, (0, 1)), (2, (4, 25)), (0, (4, 0)), (1, (4, 1))]) (by show List.Nodup [3, 2, 0, 1]; decide) (by intro q hq; simp only [List.mem_cons, List.not_mem_nil, or_false] at hq; rcases hq with rfl | rfl | rfl | rfl <;> rfl) ?_
      refine jT_gc [0, 1, 2, 3, 4, 5, 6, 7, 8, 9, 10, 11, 12, 13, 14, 15, 16, 17, 18, 19, 20, 21, 22, 25] (hs0 := [jzY_329, (101, [], [e0, e1, e2, e3, e4, e5]), jgh, jgh, jgh, jgh, jgh, (130, [], [17, 18, 19, 20, 21, 22]), jgh, jgh, jgh, jgh, jgh, jgh, jgh, jgh, jgh, (100, [], (jenc (jlg 0))), (100, [], (jenc (jlg 1))), (100, [], (jenc (jlg 2))), (100, [], (jenc (jlg 3))), (100, [], (jenc (jlg 4))), (100, [], (jenc (jlg 5))), (100, [], jenc (e0 * jlg 0))]) (L0 := [(3, (0, 1)), (2, (4, 23)), (0, (4, 0)), (1, (4, 1))]) (st0 := []) (by show jgB [0, 1, 2, 3, 4, 5, 6, 7, 8, 9, 10, 11, 12, 13, 14, 15, 16, 17, 18, 19, 20, 21, 22, 25] 26 = true; decide +kernel) rfl ⟨rfl, rfl, rfl, rfl, rfl, rfl, rfl, rfl, rfl, rfl, rfl, rfl, rfl, rfl, rfl, rfl, rfl, rfl, rfl, rfl, rfl, rfl, rfl, rfl, trivial⟩ rfl rfl (by decide +kernel) ?_
      exact jT.mono (jYl_lg_81_1 hd h_e0 h_e1 h_e2 h_e3 h_e4 h_e5 (jb1z hp.2.2) (by rw [Int.zero_add] at hw; exact hw) h) (Nat.le_refl _) (by omega) (by omega) (fun _ _ _ z => z)
    · refine jT_xiload_n (v := (0, 0)) (pcN := 8) jIY_214_7 rfl rfl rfl ?_
      refine jT_xbipush (k := 6) (pcN := 10) jIY_214_8 (by decide) rfl ?_
      refine jT_xicF (t := 47) (pcN := 13) jIY_214_10 rfl (by decide +kernel) rfl rfl ?_
      refine jT_xaload_n (v := (4, 1)) (pcN := 14) jIY_214_13 rfl rfl rfl ?_
      refine jT_xiload_n (v := (0, 0)) (pcN := 15) jIY_214_14 rfl rfl rfl ?_
      refine jT_lald (x := e0) (a := 1) (j := 0) (fs := []) (X := [e0, e1, e2, e3, e4, e5]) jIY_214_15 rfl rfl rfl rfl ?_
      refine jT_eq (LN := [(3, (0, 0)), (2, (4, 23)), (0, (4, 0)), (1, (4, 1))]) (stN := [(1, e0)]) (hsN := [jzY_329, (101, [], [e0, e1, e2, e3, e4, e5]), jgh, jgh, jgh, jgh, jgh, (130, [], [17, 18, 19, 20, 21, 22]), jgh, jgh, jgh, jgh, jgh, jgh, jgh, jgh, jgh, (100, [], (jenc (jlg 0))), (100, [], (jenc (jlg 1))), (100, [], (jenc (jlg 2))), (100, [], (jenc (jlg 3))), (100, [], (jenc (jlg 4))), (100, [], (jenc (jlg 5))), (100, [], (jenc a))]) rfl rfl rfl ?_
      refine jT_xlconst (z := 0) (pcN := 17) jIY_214_16 rfl rfl ?_
      refine jT_lcmp (a := e0) (b := 0) (z := 1) (by rfl) (by rfl) (jwl_idd (by omega) (by omega)) (jwl_idd (by omega) (by omega)) (by rw [decide_eq_true (show (0 : Int) < e0 by omega)]; rfl) ?_
      refine jT_xifF (t := 41) (pcN := 21) jIY_214_18 rfl (by decide +kernel) rfl rfl ?_
      refine jT_xaload_n (v := (4, 23)) (pcN := 22) jIY_214_21 rfl rfl rfl ?_
      refine jT_xaload_n (v := (4, 1)) (pcN := 23) jIY_214_22 rfl rfl rfl ?_
      refine jT_xiload_n (v := (0, 0)) (pcN := 24) jIY_214_23 rfl rfl rfl ?_
      refine jT_lald (x := e0) (a := 1) (j := 0) (fs := []) (X := [e0, e1, e2, e3, e4, e5]) jIY_214_24 rfl rfl rfl rfl ?_
      refine jT_eq (LN := [(3, (0, 0)), (2, (4, 23)), (0, (4, 0)), (1, (4, 1))]) (stN := [(1, e0), (4, 23)]) (hsN := [jzY_329, (101, [], [e0, e1, e2, e3, e4, e5]), jgh, jgh, jgh, jgh, jgh, (130, [], [17, 18, 19, 20, 21, 22]), jgh, jgh, jgh, jgh, jgh, jgh, jgh, jgh, jgh, (100, [], (jenc (jlg 0))), (100, [], (jenc (jlg 1))), (100, [], (jenc (jlg 2))), (100, [], (jenc (jlg 3))), (100, [], (jenc (jlg 4))), (100, [], (jenc (jlg 5))), (100, [], (jenc a))]) rfl rfl rfl ?_
      refine jT_callA [] (y := 178) (pcN := 28) (dC := 1) (bc1 := 1) (bc2 := 56) (c1 := (b1 + 17)) (c2 := (b2 + 952)) (as := [(1, e0)]) (asC := [(1, e0)]) (LN := [(3, (0, 0)), (2, (4, 23)), (0, (4, 0)), (1, (4, 1))]) (stN := [(4, 23)]) (hsC := []) (ex := [(100, [], (jenc e0))]) (v := (4, 0)) (st2 := [(4, 24), (4, 23)]) (hs2 := [jzY_329, (101, [], [e0, e1, e2, e3, e4, e5]), jgh, jgh, jgh, jgh, jgh, (130, [], [17, 18, 19, 20, 21, 22]), jgh, jgh, jgh, jgh, jgh, jgh, jgh, jgh, jgh, (100, [], (jenc (jlg 0))), (100, [], (jenc (jlg 1))), (100, [], (jenc (jlg 2))), (100, [], (jenc (jlg 3))), (100, [], (jenc (jlg 4))), (100, [], (jenc (jlg 5))), (100, [], (jenc a)), (100, [], (jenc e0))]) (jT_big (d := 0) (v := e0) (by omega) (by omega)) (by rfl) (by rfl) (by rfl) (by rfl) trivial (by rfl) (by rfl) (by omega) (by show 23 ≤ 24; omega) (by omega) (by omega) rfl rfl ?_
      refine jT_xaload_n (v := (4, 0)) (pcN := 29) jIY_214_28 rfl rfl rfl ?_
      refine jT_xgetf (a := 0) (t := 1) (ci := 14) (fi := 8) (c := jzY_329) (v := (4, 7)) (pcN := 32) jIY_214_29 rfl rfl rfl rfl rfl rfl rfl ?_
      refine jT_xiload_n (v := (0, 0)) (pcN := 33) jIY_214_32 rfl rfl rfl ?_
      refine jT_aald (x := 17) (a := 7) (j := 0) (fs := []) (X := [17, 18, 19, 20, 21, 22]) (kd := 130) jIY_214_33 rfl rfl rfl rfl rfl ?_
      refine jT_eq (LN := [(3, (0, 0)), (2, (4, 23)), (0, (4, 0)), (1, (4, 1))]) (stN := [(4, 17), (4, 24), (4, 23)]) (hsN := [jzY_329, (101, [], [e0, e1, e2, e3, e4, e5]), jgh, jgh, jgh, jgh, jgh, (130, [], [17, 18, 19, 20, 21, 22]), jgh, jgh, jgh, jgh, jgh, jgh, jgh, jgh, jgh, (100, [], (jenc (jlg 0))), (100, [], (jenc (jlg 1))), (100, [], (jenc (jlg 2))), (100, [], (jenc (jlg 3))), (100, [], (jenc (jlg 4))), (100, [], (jenc (jlg 5))), (100, [], (jenc a)), (100, [], (jenc e0))]) rfl rfl rfl ?_
      refine jT_callA [24, 17] (y := 179) (pcN := 37) (dC := 1) (bc1 := 1) (bc2 := 56) (c1 := (b1 + 16)) (c2 := (b2 + 896)) (as := [(4, 24), (4, 17)]) (asC := [(4, 0), (4, 1)]) (LN := [(3, (0, 0)), (2, (4, 23)), (0, (4, 0)), (1, (4, 1))]) (stN := [(4, 23)]) (hsC := [(100, [], (jenc e0)), (100, [], (jenc (jlg 0)))]) (ex := [(100, [], (jenc (e0 * jlg 0)))]) (v := (4, 2)) (st2 := [(4, 25), (4, 23)]) (hs2 := [jzY_329, (101, [], [e0, e1, e2, e3, e4, e5]), jgh, jgh, jgh, jgh, jgh, (130, [], [17, 18, 19, 20, 21, 22]), jgh, jgh, jgh, jgh, jgh, jgh, jgh, jgh, jgh, (100, [], (jenc (jlg 0))), (100, [], (jenc (jlg 1))), (100, [], (jenc (jlg 2))), (100, [], (jenc (jlg 3))), (100, [], (jenc (jlg 4))), (100, [], (jenc (jlg 5))), (100, [], (jenc a)), (100, [], (jenc e0)), (100, [], (jenc (e0 * jlg 0)))]) (jT_product (d := 0) (a := e0) (b := jlg 0) (jb54 (by omega) (by omega)) hp.1) (by rfl) (by rfl) (by rfl) (by rfl) ⟨rfl, rfl, trivial⟩ (by rfl) (by rfl) (by omega) (by show 23 ≤ 25; omega) (by omega) (by omega) rfl rfl ?_
      refine jT_callA [23, 25] (y := 181) (pcN := 40) (dC := 1) (bc1 := 1) (bc2 := 56) (c1 := (b1 + 15)) (c2 := (b2 + 840)) (as := [(4, 23), (4, 25)]) (asC := [(4, 0), (4, 1)]) (LN := [(3, (0, 0)), (2, (4, 23)), (0, (4, 0)), (1, (4, 1))]) (stN := []) (hsC := [(100, [], (jenc a)), (100, [], (jenc (e0 * jlg 0)))]) (ex := [(100, [], (jenc (a + (e0 * jlg 0))))]) (v := (4, 2)) (st2 := [(4, 26)]) (hs2 := [jzY_329, (101, [], [e0, e1, e2, e3, e4, e5]), jgh, jgh, jgh, jgh, jgh, (130, [], [17, 18, 19, 20, 21, 22]), jgh, jgh, jgh, jgh, jgh, jgh, jgh, jgh, jgh, (100, [], (jenc (jlg 0))), (100, [], (jenc (jlg 1))), (100, [], (jenc (jlg 2))), (100, [], (jenc (jlg 3))), (100, [], (jenc (jlg 4))), (100, [], (jenc (jlg 5))), (100, [], (jenc a)), (100, [], (jenc e0)), (100, [], (jenc (e0 * jlg 0))), (100, [], (jenc (a + (e0 * jlg 0))))]) (jT_added (d := 0) (a := a) (b := e0 * jlg 0) ga hp.2.1 (jb54k ha (by decide)) hp.1 (jb54a ha hp.2.2 (by decide))) (by rfl) (by rfl) (by rfl) (by rfl) ⟨rfl, rfl, trivial⟩ (by rfl) (by rfl) (by omega) (by show 23 ≤ 26; omega) (by omega) (by omega) rfl rfl ?_
      refine jT_xastore_n (v := (4, 26)) (LN := [(2, (4, 26)), (3, (0, 0)), (0, (4, 0)), (1, (4, 1))]) (pcN := 41) jIY_214_40 rfl rfl rfl rfl ?_
      refine jT_xiinc (x := 0) (z := 1) (LN := [(3, (0, 1)), (2, (4, 26)), (0, (4, 0)), (1, (4, 1))]) (pcN := 44) jIY_214_41 rfl rfl (by decide) rfl rfl ?_
      refine jT_xgoto (pcN := 7) jIY_214_44 rfl ?_
      refine jT_loc (LN := [(3, (0, 1)), (2, (4, 26)), (0, (4, 0)), (1, (4, 1))]) (by show List.Nodup [3, 2, 0, 1]; decide) (by intro q hq; simp only [List.mem_cons, List.not_mem_nil, or_false] at hq; rcases hq with rfl | rfl | rfl | rfl <;> rfl) ?_
      refine jT_gc [0, 1, 2, 3, 4, 5, 6, 7, 8, 9, 10, 11, 12, 13, 14, 15, 16, 17, 18, 19, 20, 21, 22, 26] (hs0 := [jzY_329, (101, [], [e0, e1, e2, e3, e4, e5]), jgh, jgh, jgh, jgh, jgh, (130, [], [17, 18, 19, 20, 21, 22]), jgh, jgh, jgh, jgh, jgh, jgh, jgh, jgh, jgh, (100, [], (jenc (jlg 0))), (100, [], (jenc (jlg 1))), (100, [], (jenc (jlg 2))), (100, [], (jenc (jlg 3))), (100, [], (jenc (jlg 4))), (100, [], (jenc (jlg 5))), (100, [], jenc (a + (e0 * jlg 0)))]) (L0 := [(3, (0, 1)), (2, (4, 23)), (0, (4, 0)), (1, (4, 1))]) (st0 := []) (by show jgB [0, 1, 2, 3, 4, 5, 6, 7, 8, 9, 10, 11, 12, 13, 14, 15, 16, 17, 18, 19, 20, 21, 22, 26] 27 = true; decide +kernel) rfl ⟨rfl, rfl, rfl, rfl, rfl, rfl, rfl, rfl, rfl, rfl, rfl, rfl, rfl, rfl, rfl, rfl, rfl, rfl, rfl, rfl, rfl, rfl, rfl, rfl, trivial⟩ rfl rfl (by decide +kernel) ?_
      exact jT.mono (jYl_lg_81_1 hd h_e0 h_e1 h_e2 h_e3 h_e4 h_e5 (jb1c ha hp.2.2 (by decide)) (by rw [← Int.add_assoc] at hw; exact hw) h) (Nat.le_refl _) (by omega) (by omega) (fun _ _ _ z => z)
theorem jIY_214_0 : jmI (jm 214) 0 = (.bipush 56, 2) := by rfl
theorem jIY_214_4 : jmI (jm 214) 4 = (.astore_n 2, 1) := by rfl
theorem jIY_214_5 : jmI (jm 214) 5 = (.iconst 0, 1) := by rfl
theorem jIY_214_6 : jmI (jm 214) 6 = (.istore_n 3, 1) := by rfl
theorem jIY_214_47 : jmI (jm 214) 47 = (.aload_n 2, 1) := by rfl
theorem jYl_lg_81 {xs : List Int} {d : Nat} {e0 e1 e2 e3 e4 e5 : Int} (h_e0 : -4611686018427387903 ≤ e0 ∧ e0 ≤ 4611686018427387903) (h_e1 : -4611686018427387903 ≤ e1 ∧ e1 ≤ 4611686018427387903) (h_e2 : -4611686018427387903 ≤ e2 ∧ e2 ≤ 4611686018427387903) (h_e3 : -4611686018427387903 ≤ e3 ∧ e3 ≤ 4611686018427387903) (h_e4 : -4611686018427387903 ≤ e4 ∧ e4 ≤ 4611686018427387903) (h_e5 : -4611686018427387903 ≤ e5 ∧ e5 ≤ 4611686018427387903) : jT xs (d + 2) 214 23 0 [(0, (4, 0)), (1, (4, 1))] [] [jzY_329, (101, [], [e0, e1, e2, e3, e4, e5]), jgh, jgh, jgh, jgh, jgh, (130, [], [17, 18, 19, 20, 21, 22]), jgh, jgh, jgh, jgh, jgh, jgh, jgh, jgh, jgh, (100, [], (jenc (jlg 0))), (100, [], (jenc (jlg 1))), (100, [], (jenc (jlg 2))), (100, [], (jenc (jlg 3))), (100, [], (jenc (jlg 4))), (100, [], (jenc (jlg 5)))] 19 1064 (fun k v hsN => k = 0 ∧ v = (4, 23) ∧ hsN = [jzY_329, (101, [], [e0, e1, e2, e3, e4, e5]), jgh, jgh, jgh, jgh, jgh, (130, [], [17, 18, 19, 20, 21, 22]), jgh, jgh, jgh, jgh, jgh, jgh, jgh, jgh, jgh, (100, [], (jenc (jlg 0))), (100, [], (jenc (jlg 1))), (100, [], (jenc (jlg 2))), (100, [], (jenc (jlg 3))), (100, [], (jenc (jlg 4))), (100, [], (jenc (jlg 5))), (100, [], jenc (jlz e0 e1 e2 e3 e4 e5))]) := by
  refine jT_xbipush (k := 56) (pcN := 2) jIY_214_0 (by decide) rfl ?_
  refine jT_adv 1 (pcN := 4) (LN := [(0, (4, 0)), (1, (4, 1))]) (stN := [(4, 23)]) (hsN := [jzY_329, (101, [], [e0, e1, e2, e3, e4, e5]), jgh, jgh, jgh, jgh, jgh, (130, [], [17, 18, 19, 20, 21, 22]), jgh, jgh, jgh, jgh, jgh, jgh, jgh, jgh, jgh, (100, [], (jenc (jlg 0))), (100, [], (jenc (jlg 1))), (100, [], (jenc (jlg 2))), (100, [], (jenc (jlg 3))), (100, [], (jenc (jlg 4))), (100, [], (jenc (jlg 5))), (100, [], List.replicate 56 0)]) (c1 := 1) (s1 := 56) (c2 := 18) (s2 := 1008) (by exact rfl) ?_ (by omega) (by omega)
  refine jT_xastore_n (v := (4, 23)) (LN := [(2, (4, 23)), (0, (4, 0)), (1, (4, 1))]) (pcN := 5) jIY_214_4 rfl rfl rfl rfl ?_
  refine jT_xiconst (k := 0) (pcN := 6) jIY_214_5 rfl ?_
  refine jT_xistore_n (v := (0, 0)) (LN := [(3, (0, 0)), (2, (4, 23)), (0, (4, 0)), (1, (4, 1))]) (pcN := 7) jIY_214_6 rfl rfl rfl rfl ?_
  refine jT_loc (LN := [(3, (0, 0)), (2, (4, 23)), (0, (4, 0)), (1, (4, 1))]) (by show List.Nodup [3, 2, 0, 1]; decide) (by intro q hq; simp only [List.mem_cons, List.not_mem_nil, or_false] at hq; rcases hq with rfl | rfl | rfl | rfl <;> rfl) ?_
  refine jT_eq (LN := [(3, (0, 0)), (2, (4, 23)), (0, (4, 0)), (1, (4, 1))]) (stN := []) (hsN := [jzY_329, (101, [], [e0, e1, e2, e3, e4, e5]), jgh, jgh, jgh, jgh, jgh, (130, [], [17, 18, 19, 20, 21, 22]), jgh, jgh, jgh, jgh, jgh, jgh, jgh, jgh, jgh, (100, [], (jenc (jlg 0))), (100, [], (jenc (jlg 1))), (100, [], (jenc (jlg 2))), (100, [], (jenc (jlg 3))), (100, [], (jenc (jlg 4))), (100, [], (jenc (jlg 5))), (100, [], jenc 0)]) rfl rfl (by rw [← jrep56e]) ?_
  refine jYl_lg_81_0 (b1 := 0) (b2 := 0) (by omega) h_e0 h_e1 h_e2 h_e3 h_e4 h_e5 (by decide) (show 0 + (e0 * jlg 0 + (e1 * jlg 1 + (e2 * jlg 2 + (e3 * jlg 3 + (e4 * jlg 4 + (e5 * jlg 5)))))) = jlz e0 e1 e2 e3 e4 e5 from by unfold jlz; omega) ?_
  refine jT_xaload_n (v := (4, 23)) (pcN := 48) jIY_214_47 rfl rfl rfl ?_
  exact jT_ret rfl (by decide) (by show 23 ≤ 24; decide) (by omega) (by omega) ⟨rfl, rfl, rfl⟩
theorem jIY_213_16 : jmI (jm 213) 16 = (.iconst 0, 1) := by rfl
theorem jIY_213_17 : jmI (jm 213) 17 = (.iaload, 1) := by rfl
theorem jIY_200_18 : jmI (jm 200) 18 = (.iinc 1 1, 3) := by rfl
theorem jIY_200_21 : jmI (jm 200) 21 = (.goto (-19), 3) := by rfl
theorem jY_200_82 {xs : List Int} {d : Nat} {e0 e1 e2 e3 e4 e5 : Int} (h_e0 : (-4611686018427387903) ≤ e0 ∧ e0 ≤ 4611686018427387903) (h_e1 : (-4611686018427387903) ≤ e1 ∧ e1 ≤ 4611686018427387903) (h_e2 : (-4611686018427387903) ≤ e2 ∧ e2 ≤ 4611686018427387903) (h_e3 : (-4611686018427387903) ≤ e3 ∧ e3 ≤ 4611686018427387903) (h_e4 : (-4611686018427387903) ≤ e4 ∧ e4 ≤ 4611686018427387903) (h_e5 : (-4611686018427387903) ≤ e5 ∧ e5 ≤ 4611686018427387903) (g_0 : e0 - 1 < 0) (g_1 : 0 ≤ e0) (g_2 : 0 ≤ e1 - 1) : jT xs d 200 1 0 [(0, (4, 0))] [] [(101, [], [e0, e1, e2, e3, e4, e5])] 0 0 (fun k v hsN => k = 0 ∧ v = (0, 0) ∧ hsN = [(101, [], [e0, e1, e2, e3, e4, e5])] ++ []) := by
  refine jT_xiconst (k := 0) (pcN := 1) jIY_200_0 rfl ?_
  refine jT_xistore_n (v := (0, 0)) (LN := [(1, (0, 0)), (0, (4, 0))]) (pcN := 2) jIY_200_1 rfl rfl rfl rfl ?_
  refine jT_xiload_n (v := (0, 0)) (pcN := 3) jIY_200_2 rfl rfl rfl ?_
  refine jT_xbipush (k := 6) (pcN := 5) jIY_200_3 (by decide) rfl ?_
  refine jT_xicF (t := 24) (pcN := 8) jIY_200_5 rfl (by decide +kernel) rfl rfl ?_
  refine jT_xaload_n (v := (4, 0)) (pcN := 9) jIY_200_8 rfl rfl rfl ?_
  refine jT_xiload_n (v := (0, 0)) (pcN := 10) jIY_200_9 rfl rfl rfl ?_
  refine jT_lald (x := e0) (a := 0) (j := 0) (fs := []) (X := [e0, e1, e2, e3, e4, e5]) jIY_200_10 rfl rfl rfl rfl ?_
  refine jT_eq (LN := [(1, (0, 0)), (0, (4, 0))]) (stN := [(1, e0)]) (hsN := [(101, [], [e0, e1, e2, e3, e4, e5])]) rfl rfl rfl ?_
  refine jT_xlconst (z := 0) (pcN := 12) jIY_200_11 rfl rfl ?_
  refine jT_lcmp (a := e0) (b := 0) (z := 0) (by rfl) (by rfl) (jwl_idd (by omega) (by omega)) (jwl_idd (by omega) (by omega)) (by rw [decide_eq_false (show ¬ ((0 : Int) < e0) by omega), decide_eq_true (show (e0 : Int) = 0 by omega)]; rfl) ?_
  refine jT_xifT (pcN := 18) jIY_200_13 rfl (by decide +kernel) rfl ?_
  refine jT_xiinc (x := 0) (z := 1) (LN := [(1, (0, 1)), (0, (4, 0))]) (pcN := 21) jIY_200_18 rfl rfl (by decide) rfl rfl ?_
  refine jT_xgoto (pcN := 2) jIY_200_21 rfl ?_
  refine jT_xiload_n (v := (0, 1)) (pcN := 3) jIY_200_2 rfl rfl rfl ?_
  refine jT_xbipush (k := 6) (pcN := 5) jIY_200_3 (by decide) rfl ?_
  refine jT_xicF (t := 24) (pcN := 8) jIY_200_5 rfl (by decide +kernel) rfl rfl ?_
  refine jT_xaload_n (v := (4, 0)) (pcN := 9) jIY_200_8 rfl rfl rfl ?_
  refine jT_xiload_n (v := (0, 1)) (pcN := 10) jIY_200_9 rfl rfl rfl ?_
  refine jT_lald (x := e1) (a := 0) (j := 1) (fs := []) (X := [e0, e1, e2, e3, e4, e5]) jIY_200_10 rfl rfl rfl rfl ?_
  refine jT_eq (LN := [(1, (0, 1)), (0, (4, 0))]) (stN := [(1, e1)]) (hsN := [(101, [], [e0, e1, e2, e3, e4, e5])]) rfl rfl rfl ?_
  refine jT_xlconst (z := 0) (pcN := 12) jIY_200_11 rfl rfl ?_
  refine jT_lcmp (a := e1) (b := 0) (z := 1) (by rfl) (by rfl) (jwl_idd (by omega) (by omega)) (jwl_idd (by omega) (by omega)) (by rw [decide_eq_true (show (0 : Int) < e1 by omega)]; rfl) ?_
  refine jT_xifF (t := 18) (pcN := 16) jIY_200_13 rfl (by decide +kernel) rfl rfl ?_
  refine jT_xiconst (k := 0) (pcN := 17) jIY_200_16 rfl ?_
  exact jT_ret rfl (by decide) (by show 1 ≤ 1; omega) (by omega) (by omega) ⟨rfl, rfl, rfl⟩
theorem jY_200_83 {xs : List Int} {d : Nat} {e0 e1 e2 e3 e4 e5 : Int} (h_e0 : (-4611686018427387903) ≤ e0 ∧ e0 ≤ 4611686018427387903) (h_e1 : (-4611686018427387903) ≤ e1 ∧ e1 ≤ 4611686018427387903) (h_e2 : (-4611686018427387903) ≤ e2 ∧ e2 ≤ 4611686018427387903) (h_e3 : (-4611686018427387903) ≤ e3 ∧ e3 ≤ 4611686018427387903) (h_e4 : (-4611686018427387903) ≤ e4 ∧ e4 ≤ 4611686018427387903) (h_e5 : (-4611686018427387903) ≤ e5 ∧ e5 ≤ 4611686018427387903) (g_0 : e0 - 1 < 0) (g_1 : 0 ≤ e0) (g_2 : e1 - 1 < 0) (g_3 : 0 ≤ e1) (g_4 : 0 ≤ e2 - 1) : jT xs d 200 1 0 [(0, (4, 0))] [] [(101, [], [e0, e1, e2, e3, e4, e5])] 0 0 (fun k v hsN => k = 0 ∧ v = (0, 0) ∧ hsN = [(101, [], [e0, e1, e2, e3, e4, e5])] ++ []) := by
  refine jT_xiconst (k := 0) (pcN := 1) jIY_200_0 rfl ?_
  refine jT_xistore_n (v := (0, 0)) (LN := [(1, (0, 0)), (0, (4, 0))]) (pcN := 2) jIY_200_1 rfl rfl rfl rfl ?_
  refine jT_xiload_n (v := (0, 0)) (pcN := 3) jIY_200_2 rfl rfl rfl ?_
  refine jT_xbipush (k := 6) (pcN := 5) jIY_200_3 (by decide) rfl ?_
  refine jT_xicF (t := 24) (pcN := 8) jIY_200_5 rfl (by decide +kernel) rfl rfl ?_
  refine jT_xaload_n (v := (4, 0)) (pcN := 9) jIY_200_8 rfl rfl rfl ?_
  refine jT_xiload_n (v := (0, 0)) (pcN := 10) jIY_200_9 rfl rfl rfl ?_
  refine jT_lald (x := e0) (a := 0) (j := 0) (fs := []) (X := [e0, e1, e2, e3, e4, e5]) jIY_200_10 rfl rfl rfl rfl ?_
  refine jT_eq (LN := [(1, (0, 0)), (0, (4, 0))]) (stN := [(1, e0)]) (hsN := [(101, [], [e0, e1, e2, e3, e4, e5])]) rfl rfl rfl ?_
  refine jT_xlconst (z := 0) (pcN := 12) jIY_200_11 rfl rfl ?_
  refine jT_lcmp (a := e0) (b := 0) (z := 0) (by rfl) (by rfl) (jwl_idd (by omega) (by omega)) (jwl_idd (by omega) (by omega)) (by rw [decide_eq_false (show ¬ ((0 : Int) < e0) by omega), decide_eq_true (show (e0 : Int) = 0 by omega)]; rfl) ?_
  refine jT_xifT (pcN := 18) jIY_200_13 rfl (by decide +kernel) rfl ?_
  refine jT_xiinc (x := 0) (z := 1) (LN := [(1, (0, 1)), (0, (4, 0))]) (pcN := 21) jIY_200_18 rfl rfl (by decide) rfl rfl ?_
  refine jT_xgoto (pcN := 2) jIY_200_21 rfl ?_
  refine jT_xiload_n (v := (0, 1)) (pcN := 3) jIY_200_2 rfl rfl rfl ?_
  refine jT_xbipush (k := 6) (pcN := 5) jIY_200_3 (by decide) rfl ?_
  refine jT_xicF (t := 24) (pcN := 8) jIY_200_5 rfl (by decide +kernel) rfl rfl ?_
  refine jT_xaload_n (v := (4, 0)) (pcN := 9) jIY_200_8 rfl rfl rfl ?_
  refine jT_xiload_n (v := (0, 1)) (pcN := 10) jIY_200_9 rfl rfl rfl ?_
  refine jT_lald (x := e1) (a := 0) (j := 1) (fs := []) (X := [e0, e1, e2, e3, e4, e5]) jIY_200_10 rfl rfl rfl rfl ?_
  refine jT_eq (LN := [(1, (0, 1)), (0, (4, 0))]) (stN := [(1, e1)]) (hsN := [(101, [], [e0, e1, e2, e3, e4, e5])]) rfl rfl rfl ?_
  refine jT_xlconst (z := 0) (pcN := 12) jIY_200_11 rfl rfl ?_
  refine jT_lcmp (a := e1) (b := 0) (z := 0) (by rfl) (by rfl) (jwl_idd (by omega) (by omega)) (jwl_idd (by omega) (by omega)) (by rw [decide_eq_false (show ¬ ((0 : Int) < e1) by omega), decide_eq_true (show (e1 : Int) = 0 by omega)]; rfl) ?_
  refine jT_xifT (pcN := 18) jIY_200_13 rfl (by decide +kernel) rfl ?_
  refine jT_xiinc (x := 1) (z := 2) (LN := [(1, (0, 2)), (0, (4, 0))]) (pcN := 21) jIY_200_18 rfl rfl (by decide) rfl rfl ?_
  refine jT_xgoto (pcN := 2) jIY_200_21 rfl ?_
  refine jT_xiload_n (v := (0, 2)) (pcN := 3) jIY_200_2 rfl rfl rfl ?_
  refine jT_xbipush (k := 6) (pcN := 5) jIY_200_3 (by decide) rfl ?_
  refine jT_xicF (t := 24) (pcN := 8) jIY_200_5 rfl (by decide +kernel) rfl rfl ?_
  refine jT_xaload_n (v := (4, 0)) (pcN := 9) jIY_200_8 rfl rfl rfl ?_
  refine jT_xiload_n (v := (0, 2)) (pcN := 10) jIY_200_9 rfl rfl rfl ?_
  refine jT_lald (x := e2) (a := 0) (j := 2) (fs := []) (X := [e0, e1, e2, e3, e4, e5]) jIY_200_10 rfl rfl rfl rfl ?_
  refine jT_eq (LN := [(1, (0, 2)), (0, (4, 0))]) (stN := [(1, e2)]) (hsN := [(101, [], [e0, e1, e2, e3, e4, e5])]) rfl rfl rfl ?_
  refine jT_xlconst (z := 0) (pcN := 12) jIY_200_11 rfl rfl ?_
  refine jT_lcmp (a := e2) (b := 0) (z := 1) (by rfl) (by rfl) (jwl_idd (by omega) (by omega)) (jwl_idd (by omega) (by omega)) (by rw [decide_eq_true (show (0 : Int) < e2 by omega)]; rfl) ?_
  refine jT_xifF (t := 18) (pcN := 16) jIY_200_13 rfl (by decide +kernel) rfl rfl ?_
  refine jT_xiconst (k := 0) (pcN := 17) jIY_200_16 rfl ?_
  exact jT_ret rfl (by decide) (by show 1 ≤ 1; omega) (by omega) (by omega) ⟨rfl, rfl, rfl⟩
theorem jY_200_84 {xs : List Int} {d : Nat} {e0 e1 e2 e3 e4 e5 : Int} (h_e0 : (-4611686018427387903) ≤ e0 ∧ e0 ≤ 4611686018427387903) (h_e1 : (-4611686018427387903) ≤ e1 ∧ e1 ≤ 4611686018427387903) (h_e2 : (-4611686018427387903) ≤ e2 ∧ e2 ≤ 4611686018427387903) (h_e3 : (-4611686018427387903) ≤ e3 ∧ e3 ≤ 4611686018427387903) (h_e4 : (-4611686018427387903) ≤ e4 ∧ e4 ≤ 4611686018427387903) (h_e5 : (-4611686018427387903) ≤ e5 ∧ e5 ≤ 4611686018427387903) (g_0 : e0 - 1 < 0) (g_1 : 0 ≤ e0) (g_2 : e1 - 1 < 0) (g_3 : 0 ≤ e1) (g_4 : e2 - 1 < 0) (g_5 : 0 ≤ e2) (g_6 : 0 ≤ e3 - 1) : jT xs d 200 1 0 [(0, (4, 0))] [] [(101, [], [e0, e1, e2, e3, e4, e5])] 0 0 (fun k v hsN => k = 0 ∧ v = (0, 0) ∧ hsN = [(101, [], [e0, e1, e2, e3, e4, e5])] ++ []) := by
  refine jT_xiconst (k := 0) (pcN := 1) jIY_200_0 rfl ?_
  refine jT_xistore_n (v := (0, 0)) (LN := [(1, (0, 0)), (0, (4, 0))]) (pcN := 2) jIY_200_1 rfl rfl rfl rfl ?_
  refine jT_xiload_n (v := (0, 0)) (pcN := 3) jIY_200_2 rfl rfl rfl ?_
  refine jT_xbipush (k := 6) (pcN := 5) jIY_200_3 (by decide) rfl ?_
  refine jT_xicF (t := 24) (pcN := 8) jIY_200_5 rfl (by decide +kernel) rfl rfl ?_
  refine jT_xaload_n (v := (4, 0)) (pcN := 9) jIY_200_8 rfl rfl rfl ?_
  refine jT_xiload_n (v := (0, 0)) (pcN := 10) jIY_200_9 rfl rfl rfl ?_
  refine jT_lald (x := e0) (a := 0) (j := 0) (fs := []) (X := [e0, e1, e2, e3, e4, e5]) jIY_200_10 rfl rfl rfl rfl ?_
  refine jT_eq (LN := [(1, (0, 0)), (0, (4, 0))]) (stN := [(1, e0)]) (hsN := [(101, [], [e0, e1, e2, e3, e4, e5])]) rfl rfl rfl ?_
  refine jT_xlconst (z := 0) (pcN := 12) jIY_200_11 rfl rfl ?_
  refine jT_lcmp (a := e0) (b := 0) (z := 0) (by rfl) (by rfl) (jwl_idd (by omega) (by omega)) (jwl_idd (by omega) (by omega)) (by rw [decide_eq_false (show ¬ ((0 : Int) < e0) by omega), decide_eq_true (show (e0 : Int) = 0 by omega)]; rfl) ?_
  refine jT_xifT (pcN := 18) jIY_200_13 rfl (by decide +kernel) rfl ?_
  refine jT_xiinc (x := 0) (z := 1) (LN := [(1, (0, 1)), (0, (4, 0))]) (pcN := 21) jIY_200_18 rfl rfl (by decide) rfl rfl ?_
  refine jT_xgoto (pcN := 2) jIY_200_21 rfl ?_
  refine jT_xiload_n (v := (0, 1)) (pcN := 3) jIY_200_2 rfl rfl rfl ?_
  refine jT_xbipush (k := 6) (pcN := 5) jIY_200_3 (by decide) rfl ?_
  refine jT_xicF (t := 24) (pcN := 8) jIY_200_5 rfl (by decide +kernel) rfl rfl ?_
  refine jT_xaload_n (v := (4, 0)) (pcN := 9) jIY_200_8 rfl rfl rfl ?_
  refine jT_xiload_n (v := (0, 1)) (pcN := 10) jIY_200_9 rfl rfl rfl ?_
  refine jT_lald (x := e1) (a := 0) (j := 1) (fs := []) (X := [e0, e1, e2, e3, e4, e5]) jIY_200_10 rfl rfl rfl rfl ?_
  refine jT_eq (LN := [(1, (0, 1)), (0, (4, 0))]) (stN := [(1, e1)]) (hsN := [(101, [], [e0, e1, e2, e3, e4, e5])]) rfl rfl rfl ?_
  refine jT_xlconst (z := 0) (pcN := 12) jIY_200_11 rfl rfl ?_
  refine jT_lcmp (a := e1) (b := 0) (z := 0) (by rfl) (by rfl) (jwl_idd (by omega) (by omega)) (jwl_idd (by omega) (by omega)) (by rw [decide_eq_false (show ¬ ((0 : Int) < e1) by omega), decide_eq_true (show (e1 : Int) = 0 by omega)]; rfl) ?_
  refine jT_xifT (pcN := 18) jIY_200_13 rfl (by decide +kernel) rfl ?_
  refine jT_xiinc (x := 1) (z := 2) (LN := [(1, (0, 2)), (0, (4, 0))]) (pcN := 21) jIY_200_18 rfl rfl (by decide) rfl rfl ?_
  refine jT_xgoto (pcN := 2) jIY_200_21 rfl ?_
  refine jT_xiload_n (v := (0, 2)) (pcN := 3) jIY_200_2 rfl rfl rfl ?_
  refine jT_xbipush (k := 6) (pcN := 5) jIY_200_3 (by decide) rfl ?_
  refine jT_xicF (t := 24) (pcN := 8) jIY_200_5 rfl (by decide +kernel) rfl rfl ?_
  refine jT_xaload_n (v := (4, 0)) (pcN := 9) jIY_200_8 rfl rfl rfl ?_
  refine jT_xiload_n (v := (0, 2)) (pcN := 10) jIY_200_9 rfl rfl rfl ?_
  refine jT_lald (x := e2) (a := 0) (j := 2) (fs := []) (X := [e0, e1, e2, e3, e4, e5]) jIY_200_10 rfl rfl rfl rfl ?_
  refine jT_eq (LN := [(1, (0, 2)), (0, (4, 0))]) (stN := [(1, e2)]) (hsN := [(101, [], [e0, e1, e2, e3, e4, e5])]) rfl rfl rfl ?_
  refine jT_xlconst (z := 0) (pcN := 12) jIY_200_11 rfl rfl ?_
  refine jT_lcmp (a := e2) (b := 0) (z := 0) (by rfl) (by rfl) (jwl_idd (by omega) (by omega)) (jwl_idd (by omega) (by omega)) (by rw [decide_eq_false (show ¬ ((0 : Int) < e2) by omega), decide_eq_true (show (e2 : Int) = 0 by omega)]; rfl) ?_
  refine jT_xifT (pcN := 18) jIY_200_13 rfl (by decide +kernel) rfl ?_
  refine jT_xiinc (x := 2) (z := 3) (LN := [(1, (0, 3)), (0, (4, 0))]) (pcN := 21) jIY_200_18 rfl rfl (by decide) rfl rfl ?_
  refine jT_xgoto (pcN := 2) jIY_200_21 rfl ?_
  refine jT_xiload_n (v := (0, 3)) (pcN := 3) jIY_200_2 rfl rfl rfl ?_
  refine jT_xbipush (k := 6) (pcN := 5) jIY_200_3 (by decide) rfl ?_
  refine jT_xicF (t := 24) (pcN := 8) jIY_200_5 rfl (by decide +kernel) rfl rfl ?_
  refine jT_xaload_n (v := (4, 0)) (pcN := 9) jIY_200_8 rfl rfl rfl ?_
  refine jT_xiload_n (v := (0, 3)) (pcN := 10) jIY_200_9 rfl rfl rfl ?_
  refine jT_lald (x := e3) (a := 0) (j := 3) (fs := []) (X := [e0, e1, e2, e3, e4, e5]) jIY_200_10 rfl rfl rfl rfl ?_
  refine jT_eq (LN := [(1, (0, 3)), (0, (4, 0))]) (stN := [(1, e3)]) (hsN := [(101, [], [e0, e1, e2, e3, e4, e5])]) rfl rfl rfl ?_
  refine jT_xlconst (z := 0) (pcN := 12) jIY_200_11 rfl rfl ?_
  refine jT_lcmp (a := e3) (b := 0) (z := 1) (by rfl) (by rfl) (jwl_idd (by omega) (by omega)) (jwl_idd (by omega) (by omega)) (by rw [decide_eq_true (show (0 : Int) < e3 by omega)]; rfl) ?_
  refine jT_xifF (t := 18) (pcN := 16) jIY_200_13 rfl (by decide +kernel) rfl rfl ?_
  refine jT_xiconst (k := 0) (pcN := 17) jIY_200_16 rfl ?_
  exact jT_ret rfl (by decide) (by show 1 ≤ 1; omega) (by omega) (by omega) ⟨rfl, rfl, rfl⟩
theorem jY_200_85 {xs : List Int} {d : Nat} {e0 e1 e2 e3 e4 e5 : Int} (h_e0 : (-4611686018427387903) ≤ e0 ∧ e0 ≤ 4611686018427387903) (h_e1 : (-4611686018427387903) ≤ e1 ∧ e1 ≤ 4611686018427387903) (h_e2 : (-4611686018427387903) ≤ e2 ∧ e2 ≤ 4611686018427387903) (h_e3 : (-4611686018427387903) ≤ e3 ∧ e3 ≤ 4611686018427387903) (h_e4 : (-4611686018427387903) ≤ e4 ∧ e4 ≤ 4611686018427387903) (h_e5 : (-4611686018427387903) ≤ e5 ∧ e5 ≤ 4611686018427387903) (g_0 : e0 - 1 < 0) (g_1 : 0 ≤ e0) (g_2 : e1 - 1 < 0) (g_3 : 0 ≤ e1) (g_4 : e2 - 1 < 0) (g_5 : 0 ≤ e2) (g_6 : e3 - 1 < 0) (g_7 : 0 ≤ e3) (g_8 : 0 ≤ e4 - 1) : jT xs d 200 1 0 [(0, (4, 0))] [] [(101, [], [e0, e1, e2, e3, e4, e5])] 0 0 (fun k v hsN => k = 0 ∧ v = (0, 0) ∧ hsN = [(101, [], [e0, e1, e2, e3, e4, e5])] ++ []) := by
  refine jT_xiconst (k := 0) (pcN := 1) jIY_200_0 rfl ?_
  refine jT_xistore_n (v := (0, 0)) (LN := [(1, (0, 0)), (0, (4, 0))]) (pcN := 2) jIY_200_1 rfl rfl rfl rfl ?_
  refine jT_xiload_n (v := (0, 0)) (pcN := 3) jIY_200_2 rfl rfl rfl ?_
  refine jT_xbipush (k := 6) (pcN := 5) jIY_200_3 (by decide) rfl ?_
  refine jT_xicF (t := 24) (pcN := 8) jIY_200_5 rfl (by decide +kernel) rfl rfl ?_
  refine jT_xaload_n (v := (4, 0)) (pcN := 9) jIY_200_8 rfl rfl rfl ?_
  refine jT_xiload_n (v := (0, 0)) (pcN := 10) jIY_200_9 rfl rfl rfl ?_
  refine jT_lald (x := e0) (a := 0) (j := 0) (fs := []) (X := [e0, e1, e2, e3, e4, e5]) jIY_200_10 rfl rfl rfl rfl ?_
  refine jT_eq (LN := [(1, (0, 0)), (0, (4, 0))]) (stN := [(1, e0)]) (hsN := [(101, [], [e0, e1, e2, e3, e4, e5])]) rfl rfl rfl ?_
  refine jT_xlconst (z := 0) (pcN := 12) jIY_200_11 rfl rfl ?_
  refine jT_lcmp (a := e0) (b := 0) (z := 0) (by rfl) (by rfl) (jwl_idd (by omega) (by omega)) (jwl_idd (by omega) (by omega)) (by rw [decide_eq_false (show ¬ ((0 : Int) < e0) by omega), decide_eq_true (show (e0 : Int) = 0 by omega)]; rfl) ?_
  refine jT_xifT (pcN := 18) jIY_200_13 rfl (by decide +kernel) rfl ?_
  refine jT_xiinc (x := 0) (z := 1) (LN := [(1, (0, 1)), (0, (4, 0))]) (pcN := 21) jIY_200_18 rfl rfl (by decide) rfl rfl ?_
  refine jT_xgoto (pcN := 2) jIY_200_21 rfl ?_
  refine jT_xiload_n (v := (0, 1)) (pcN := 3) jIY_200_2 rfl rfl rfl ?_
  refine jT_xbipush (k := 6) (pcN := 5) jIY_200_3 (by decide) rfl ?_
  refine jT_xicF (t := 24) (pcN := 8) jIY_200_5 rfl (by decide +kernel) rfl rfl ?_
  refine jT_xaload_n (v := (4, 0)) (pcN := 9) jIY_200_8 rfl rfl rfl ?_
  refine jT_xiload_n (v := (0, 1)) (pcN := 10) jIY_200_9 rfl rfl rfl ?_
  refine jT_lald (x := e1) (a := 0) (j := 1) (fs := []) (X := [e0, e1, e2, e3, e4, e5]) jIY_200_10 rfl rfl rfl rfl ?_
  refine jT_eq (LN := [(1, (0, 1)), (0, (4, 0))]) (stN := [(1, e1)]) (hsN := [(101, [], [e0, e1, e2, e3, e4, e5])]) rfl rfl rfl ?_
  refine jT_xlconst (z := 0) (pcN := 12) jIY_200_11 rfl rfl ?_
  refine jT_lcmp (a := e1) (b := 0) (z := 0) (by rfl) (by rfl) (jwl_idd (by omega) (by omega)) (jwl_idd (by omega) (by omega)) (by rw [decide_eq_false (show ¬ ((0 : Int) < e1) by omega), decide_eq_true (show (e1 : Int) = 0 by omega)]; rfl) ?_
  refine jT_xifT (pcN := 18) jIY_200_13 rfl (by decide +kernel) rfl ?_
  refine jT_xiinc (x := 1) (z := 2) (LN := [(1, (0, 2)), (0, (4, 0))]) (pcN := 21) jIY_200_18 rfl rfl (by decide) rfl rfl ?_
  refine jT_xgoto (pcN := 2) jIY_200_21 rfl ?_
  refine jT_xiload_n (v := (0, 2)) (pcN := 3) jIY_200_2 rfl rfl rfl ?_
  refine jT_xbipush (k := 6) (pcN := 5) jIY_200_3 (by decide) rfl ?_
  refine jT_xicF (t := 24) (pcN := 8) jIY_200_5 rfl (by decide +kernel) rfl rfl ?_
  refine jT_xaload_n (v := (4, 0)) (pcN := 9) jIY_200_8 rfl rfl rfl ?_
  refine jT_xiload_n (v := (0, 2)) (pcN := 10) jIY_200_9 rfl rfl rfl ?_
  refine jT_lald (x := e2) (a := 0) (j := 2) (fs := []) (X := [e0, e1, e2, e3, e4, e5]) jIY_200_10 rfl rfl rfl rfl ?_
  refine jT_eq (LN := [(1, (0, 2)), (0, (4, 0))]) (stN := [(1, e2)]) (hsN := [(101, [], [e0, e1, e2, e3, e4, e5])]) rfl rfl rfl ?_
  refine jT_xlconst (z := 0) (pcN := 12) jIY_200_11 rfl rfl ?_
  refine jT_lcmp (a := e2) (b := 0) (z := 0) (by rfl) (by rfl) (jwl_idd (by omega) (by omega)) (jwl_idd (by omega) (by omega)) (by rw [decide_eq_false (show ¬ ((0 : Int) < e2) by omega), decide_eq_true (show (e2 : Int) = 0 by omega)]; rfl) ?_
  refine jT_xifT (pcN := 18) jIY_200_13 rfl (by decide +kernel) rfl ?_
  refine jT_xiinc (x := 2) (z := 3) (LN := [(1, (0, 3)), (0, (4, 0))]) (pcN := 21) jIY_200_18 rfl rfl (by decide) rfl rfl ?_
  refine jT_xgoto (pcN := 2) jIY_200_21 rfl ?_
  refine jT_xiload_n (v := (0, 3)) (pcN := 3) jIY_200_2 rfl rfl rfl ?_
  refine jT_xbipush (k := 6) (pcN := 5) jIY_200_3 (by decide) rfl ?_
  refine jT_xicF (t := 24) (pcN := 8) jIY_200_5 rfl (by decide +kernel) rfl rfl ?_
  refine jT_xaload_n (v := (4, 0)) (pcN := 9) jIY_200_8 rfl rfl rfl ?_
  refine jT_xiload_n (v := (0, 3)) (pcN := 10) jIY_200_9 rfl rfl rfl ?_
  refine jT_lald (x := e3) (a := 0) (j := 3) (fs := []) (X := [e0, e1, e2, e3, e4, e5]) jIY_200_10 rfl rfl rfl rfl ?_
  refine jT_eq (LN := [(1, (0, 3)), (0, (4, 0))]) (stN := [(1, e3)]) (hsN := [(101, [], [e0, e1, e2, e3, e4, e5])]) rfl rfl rfl ?_
  refine jT_xlconst (z := 0) (pcN := 12) jIY_200_11 rfl rfl ?_
  refine jT_lcmp (a := e3) (b := 0) (z := 0) (by rfl) (by rfl) (jwl_idd (by omega) (by omega)) (jwl_idd (by omega) (by omega)) (by rw [decide_eq_false (show ¬ ((0 : Int) < e3) by omega), decide_eq_true (show (e3 : Int) = 0 by omega)]; rfl) ?_
  refine jT_xifT (pcN := 18) jIY_200_13 rfl (by decide +kernel) rfl ?_
  refine jT_xiinc (x := 3) (z := 4) (LN := [(1, (0, 4)), (0, (4, 0))]) (pcN := 21) jIY_200_18 rfl rfl (by decide) rfl rfl ?_
  refine jT_xgoto (pcN := 2) jIY_200_21 rfl ?_
  refine jT_xiload_n (v := (0, 4)) (pcN := 3) jIY_200_2 rfl rfl rfl ?_
  refine jT_xbipush (k := 6) (pcN := 5) jIY_200_3 (by decide) rfl ?_
  refine jT_xicF (t := 24) (pcN := 8) jIY_200_5 rfl (by decide +kernel) rfl rfl ?_
  refine jT_xaload_n (v := (4, 0)) (pcN := 9) jIY_200_8 rfl rfl rfl ?_
  refine jT_xiload_n (v := (0, 4)) (pcN := 10) jIY_200_9 rfl rfl rfl ?_
  refine jT_lald (x := e4) (a := 0) (j := 4) (fs := []) (X := [e0, e1, e2, e3, e4, e5]) jIY_200_10 rfl rfl rfl rfl ?_
  refine jT_eq (LN := [(1, (0, 4)), (0, (4, 0))]) (stN := [(1, e4)]) (hsN := [(101, [], [e0, e1, e2, e3, e4, e5])]) rfl rfl rfl ?_
  refine jT_xlconst (z := 0) (pcN := 12) jIY_200_11 rfl rfl ?_
  refine jT_lcmp (a := e4) (b := 0) (z := 1) (by rfl) (by rfl) (jwl_idd (by omega) (by omega)) (jwl_idd (by omega) (by omega)) (by rw [decide_eq_true (show (0 : Int) < e4 by omega)]; rfl) ?_
  refine jT_xifF (t := 18) (pcN := 16) jIY_200_13 rfl (by decide +kernel) rfl rfl ?_
  refine jT_xiconst (k := 0) (pcN := 17) jIY_200_16 rfl ?_
  exact jT_ret rfl (by decide) (by show 1 ≤ 1; omega) (by omega) (by omega) ⟨rfl, rfl, rfl⟩
theorem jY_200_86 {xs : List Int} {d : Nat} {e0 e1 e2 e3 e4 e5 : Int} (h_e0 : (-4611686018427387903) ≤ e0 ∧ e0 ≤ 4611686018427387903) (h_e1 : (-4611686018427387903) ≤ e1 ∧ e1 ≤ 4611686018427387903) (h_e2 : (-4611686018427387903) ≤ e2 ∧ e2 ≤ 4611686018427387903) (h_e3 : (-4611686018427387903) ≤ e3 ∧ e3 ≤ 4611686018427387903) (h_e4 : (-4611686018427387903) ≤ e4 ∧ e4 ≤ 4611686018427387903) (h_e5 : (-4611686018427387903) ≤ e5 ∧ e5 ≤ 4611686018427387903) (g_0 : e0 - 1 < 0) (g_1 : 0 ≤ e0) (g_2 : e1 - 1 < 0) (g_3 : 0 ≤ e1) (g_4 : e2 - 1 < 0) (g_5 : 0 ≤ e2) (g_6 : e3 - 1 < 0) (g_7 : 0 ≤ e3) (g_8 : e4 - 1 < 0) (g_9 : 0 ≤ e4) (g_10 : 0 ≤ e5 - 1) : jT xs d 200 1 0 [(0, (4, 0))] [] [(101, [], [e0, e1, e2, e3, e4, e5])] 0 0 (fun k v hsN => k = 0 ∧ v = (0, 0) ∧ hsN = [(101, [], [e0, e1, e2, e3, e4, e5])] ++ []) := by
  refine jT_xiconst (k := 0) (pcN := 1) jIY_200_0 rfl ?_
  refine jT_xistore_n (v := (0, 0)) (LN := [(1, (0, 0)), (0, (4, 0))]) (pcN := 2) jIY_200_1 rfl rfl rfl rfl ?_
  refine jT_xiload_n (v := (0, 0)) (pcN := 3) jIY_200_2 rfl rfl rfl ?_
  refine jT_xbipush (k := 6) (pcN := 5) jIY_200_3 (by decide) rfl ?_
  refine jT_xicF (t := 24) (pcN := 8) jIY_200_5 rfl (by decide +kernel) rfl rfl ?_
  refine jT_xaload_n (v := (4, 0)) (pcN := 9) jIY_200_8 rfl rfl rfl ?_
  refine jT_xiload_n (v := (0, 0)) (pcN := 10) jIY_200_9 rfl rfl rfl ?_
  refine jT_lald (x := e0) (a := 0) (j := 0) (fs := []) (X := [e0, e1, e2, e3, e4, e5]) jIY_200_10 rfl rfl rfl rfl ?_
  refine jT_eq (LN := [(1, (0, 0)), (0, (4, 0))]) (stN := [(1, e0)]) (hsN := [(101, [], [e0, e1, e2, e3, e4, e5])]) rfl rfl rfl ?_
  refine jT_xlconst (z := 0) (pcN := 12) jIY_200_11 rfl rfl ?_
  refine jT_lcmp (a := e0) (b := 0) (z := 0) (by rfl) (by rfl) (jwl_idd (by omega) (by omega)) (jwl_idd (by omega) (by omega)) (by rw [decide_eq_false (show ¬ ((0 : Int) < e0) by omega), decide_eq_true (show (e0 : Int) = 0 by omega)]; rfl) ?_
  refine jT_xifT (pcN := 18) jIY_200_13 rfl (by decide +kernel) rfl ?_
  refine jT_xiinc (x := 0) (z := 1) (LN := [(1, (0, 1)), (0, (4, 0))]) (pcN := 21) jIY_200_18 rfl rfl (by decide) rfl rfl ?_
  refine jT_xgoto (pcN := 2) jIY_200_21 rfl ?_
  refine jT_xiload_n (v := (0, 1)) (pcN := 3) jIY_200_2 rfl rfl rfl ?_
  refine jT_xbipush (k := 6) (pcN := 5) jIY_200_3 (by decide) rfl ?_
  refine jT_xicF (t := 24) (pcN := 8) jIY_200_5 rfl (by decide +kernel) rfl rfl ?_
  refine jT_xaload_n (v := (4, 0)) (pcN := 9) jIY_200_8 rfl rfl rfl ?_
  refine jT_xiload_n (v := (0, 1)) (pcN := 10) jIY_200_9 rfl rfl rfl ?_
  refine jT_lald (x := e1) (a := 0) (j := 1) (fs := []) (X := [e0, e1, e2, e3, e4, e5]) jIY_200_10 rfl rfl rfl rfl ?_
  refine jT_eq (LN := [(1, (0, 1)), (0, (4, 0))]) (stN := [(1, e1)]) (hsN := [(101, [], [e0, e1, e2, e3, e4, e5])]) rfl rfl rfl ?_
  refine jT_xlconst (z := 0) (pcN := 12) jIY_200_11 rfl rfl ?_
  refine jT_lcmp (a := e1) (b := 0) (z := 0) (by rfl) (by rfl) (jwl_idd (by omega) (by omega)) (jwl_idd (by omega) (by omega)) (by rw [decide_eq_false (show ¬ ((0 : Int) < e1) by omega), decide_eq_true (show (e1 : Int) = 0 by omega)]; rfl) ?_
  refine jT_xifT (pcN := 18) jIY_200_13 rfl (by decide +kernel) rfl ?_
  refine jT_xiinc (x := 1) (z := 2) (LN := [(1, (0, 2)), (0, (4, 0))]) (pcN := 21) jIY_200_18 rfl rfl (by decide) rfl rfl ?_
  refine jT_xgoto (pcN := 2) jIY_200_21 rfl ?_
  refine jT_xiload_n (v := (0, 2)) (pcN := 3) jIY_200_2 rfl rfl rfl ?_
  refine jT_xbipush (k := 6) (pcN := 5) jIY_200_3 (by decide) rfl ?_
  refine jT_xicF (t := 24) (pcN := 8) jIY_200_5 rfl (by decide +kernel) rfl rfl ?_
  refine jT_xaload_n (v := (4, 0)) (pcN := 9) jIY_200_8 rfl rfl rfl ?_
  refine jT_xiload_n (v := (0, 2)) (pcN := 10) jIY_200_9 rfl rfl rfl ?_
  refine jT_lald (x := e2) (a := 0) (j := 2) (fs := []) (X := [e0, e1, e2, e3, e4, e5]) jIY_200_10 rfl rfl rfl rfl ?_
  refine jT_eq (LN := [(1, (0, 2)), (0, (4, 0))]) (stN := [(1, e2)]) (hsN := [(101, [], [e0, e1, e2, e3, e4, e5])]) rfl rfl rfl ?_
  refine jT_xlconst (z := 0) (pcN := 12) jIY_200_11 rfl rfl ?_
  refine jT_lcmp (a := e2) (b := 0) (z := 0) (by rfl) (by rfl) (jwl_idd (by omega) (by omega)) (jwl_idd (by omega) (by omega)) (by rw [decide_eq_false (show ¬ ((0 : Int) < e2) by omega), decide_eq_true (show (e2 : Int) = 0 by omega)]; rfl) ?_
  refine jT_xifT (pcN := 18) jIY_200_13 rfl (by decide +kernel) rfl ?_
  refine jT_xiinc (x := 2) (z := 3) (LN := [(1, (0, 3)), (0, (4, 0))]) (pcN := 21) jIY_200_18 rfl rfl (by decide) rfl rfl ?_
  refine jT_xgoto (pcN := 2) jIY_200_21 rfl ?_
  refine jT_xiload_n (v := (0, 3)) (pcN := 3) jIY_200_2 rfl rfl rfl ?_
  refine jT_xbipush (k := 6) (pcN := 5) jIY_200_3 (by decide) rfl ?_
  refine jT_xicF (t := 24) (pcN := 8) jIY_200_5 rfl (by decide +kernel) rfl rfl ?_
  refine jT_xaload_n (v := (4, 0)) (pcN := 9) jIY_200_8 rfl rfl rfl ?_
  refine jT_xiload_n (v := (0, 3)) (pcN := 10) jIY_200_9 rfl rfl rfl ?_
  refine jT_lald (x := e3) (a := 0) (j := 3) (fs := []) (X := [e0, e1, e2, e3, e4, e5]) jIY_200_10 rfl rfl rfl rfl ?_
  refine jT_eq (LN := [(1, (0, 3)), (0, (4, 0))]) (stN := [(1, e3)]) (hsN := [(101, [], [e0, e1, e2, e3, e4, e5])]) rfl rfl rfl ?_
  refine jT_xlconst (z := 0) (pcN := 12) jIY_200_11 rfl rfl ?_
  refine jT_lcmp (a := e3) (b := 0) (z := 0) (by rfl) (by rfl) (jwl_idd (by omega) (by omega)) (jwl_idd (by omega) (by omega)) (by rw [decide_eq_false (show ¬ ((0 : Int) < e3) by omega), decide_eq_true (show (e3 : Int) = 0 by omega)]; rfl) ?_
  refine jT_xifT (pcN := 18) jIY_200_13 rfl (by decide +kernel) rfl ?_
  refine jT_xiinc (x := 3) (z := 4) (LN := [(1, (0, 4)), (0, (4, 0))]) (pcN := 21) jIY_200_18 rfl rfl (by decide) rfl rfl ?_
  refine jT_xgoto (pcN := 2) jIY_200_21 rfl ?_
  refine jT_xiload_n (v := (0, 4)) (pcN := 3) jIY_200_2 rfl rfl rfl ?_
  refine jT_xbipush (k := 6) (pcN := 5) jIY_200_3 (by decide) rfl ?_
  refine jT_xicF (t := 24) (pcN := 8) jIY_200_5 rfl (by decide +kernel) rfl rfl ?_
  refine jT_xaload_n (v := (4, 0)) (pcN := 9) jIY_200_8 rfl rfl rfl ?_
  refine jT_xiload_n (v := (0, 4)) (pcN := 10) jIY_200_9 rfl rfl rfl ?_
  refine jT_lald (x := e4) (a := 0) (j := 4) (fs := []) (X := [e0, e1, e2, e3, e4, e5]) jIY_200_10 rfl rfl rfl rfl ?_
  refine jT_eq (LN := [(1, (0, 4)), (0, (4, 0))]) (stN := [(1, e4)]) (hsN := [(101, [], [e0, e1, e2, e3, e4, e5])]) rfl rfl rfl ?_
  refine jT_xlconst (z := 0) (pcN := 12) jIY_200_11 rfl rfl ?_
  refine jT_lcmp (a := e4) (b := 0) (z := 0) (by rfl) (by rfl) (jwl_idd (by omega) (by omega)) (jwl_idd (by omega) (by omega)) (by rw [decide_eq_false (show ¬ ((0 : Int) < e4) by omega), decide_eq_true (show (e4 : Int) = 0 by omega)]; rfl) ?_
  refine jT_xifT (pcN := 18) jIY_200_13 rfl (by decide +kernel) rfl ?_
  refine jT_xiinc (x := 4) (z := 5) (LN := [(1, (0, 5)), (0, (4, 0))]) (pcN := 21) jIY_200_18 rfl rfl (by decide) rfl rfl ?_
  refine jT_xgoto (pcN := 2) jIY_200_21 rfl ?_
  refine jT_xiload_n (v := (0, 5)) (pcN := 3) jIY_200_2 rfl rfl rfl ?_
  refine jT_xbipush (k := 6) (pcN := 5) jIY_200_3 (by decide) rfl ?_
  refine jT_xicF (t := 24) (pcN := 8) jIY_200_5 rfl (by decide +kernel) rfl rfl ?_
  refine jT_xaload_n (v := (4, 0)) (pcN := 9) jIY_200_8 rfl rfl rfl ?_
  refine jT_xiload_n (v := (0, 5)) (pcN := 10) jIY_200_9 rfl rfl rfl ?_
  refine jT_lald (x := e5) (a := 0) (j := 5) (fs := []) (X := [e0, e1, e2, e3, e4, e5]) jIY_200_10 rfl rfl rfl rfl ?_
  refine jT_eq (LN := [(1, (0, 5)), (0, (4, 0))]) (stN := [(1, e5)]) (hsN := [(101, [], [e0, e1, e2, e3, e4, e5])]) rfl rfl rfl ?_
  refine jT_xlconst (z := 0) (pcN := 12) jIY_200_11 rfl rfl ?_
  refine jT_lcmp (a := e5) (b := 0) (z := 1) (by rfl) (by rfl) (jwl_idd (by omega) (by omega)) (jwl_idd (by omega) (by omega)) (by rw [decide_eq_true (show (0 : Int) < e5 by omega)]; rfl) ?_
  refine jT_xifF (t := 18) (pcN := 16) jIY_200_13 rfl (by decide +kernel) rfl rfl ?_
  refine jT_xiconst (k := 0) (pcN := 17) jIY_200_16 rfl ?_
  exact jT_ret rfl (by decide) (by show 1 ≤ 1; omega) (by omega) (by omega) ⟨rfl, rfl, rfl⟩
theorem jIY_200_24 : jmI (jm 200) 24 = (.iconst 1, 1) := by rfl
theorem jY_200_87 {xs : List Int} {d : Nat} {e0 e1 e2 e3 e4 e5 : Int} (h_e0 : (-4611686018427387903) ≤ e0 ∧ e0 ≤ 4611686018427387903) (h_e1 : (-4611686018427387903) ≤ e1 ∧ e1 ≤ 4611686018427387903) (h_e2 : (-4611686018427387903) ≤ e2 ∧ e2 ≤ 4611686018427387903) (h_e3 : (-4611686018427387903) ≤ e3 ∧ e3 ≤ 4611686018427387903) (h_e4 : (-4611686018427387903) ≤ e4 ∧ e4 ≤ 4611686018427387903) (h_e5 : (-4611686018427387903) ≤ e5 ∧ e5 ≤ 4611686018427387903) (g_0 : e0 - 1 < 0) (g_1 : 0 ≤ e0) (g_2 : e1 - 1 < 0) (g_3 : 0 ≤ e1) (g_4 : e2 - 1 < 0) (g_5 : 0 ≤ e2) (g_6 : e3 - 1 < 0) (g_7 : 0 ≤ e3) (g_8 : e4 - 1 < 0) (g_9 : 0 ≤ e4) (g_10 : e5 - 1 < 0) (g_11 : 0 ≤ e5) : jT xs d 200 1 0 [(0, (4, 0))] [] [(101, [], [e0, e1, e2, e3, e4, e5])] 0 0 (fun k v hsN => k = 0 ∧ v = (0, 1) ∧ hsN = [(101, [], [e0, e1, e2, e3, e4, e5])] ++ []) := by
  refine jT_xiconst (k := 0) (pcN := 1) jIY_200_0 rfl ?_
  refine jT_xistore_n (v := (0, 0)) (LN := [(1, (0, 0)), (0, (4, 0))]) (pcN := 2) jIY_200_1 rfl rfl rfl rfl ?_
  refine jT_xiload_n (v := (0, 0)) (pcN := 3) jIY_200_2 rfl rfl rfl ?_
  refine jT_xbipush (k := 6) (pcN := 5) jIY_200_3 (by decide) rfl ?_
  refine jT_xicF (t := 24) (pcN := 8) jIY_200_5 rfl (by decide +kernel) rfl rfl ?_
  refine jT_xaload_n (v := (4, 0)) (pcN := 9) jIY_200_8 rfl rfl rfl ?_
  refine jT_xiload_n (v := (0, 0)) (pcN := 10) jIY_200_9 rfl rfl rfl ?_
  refine jT_lald (x := e0) (a := 0) (j := 0) (fs := []) (X := [e0, e1, e2, e3, e4, e5]) jIY_200_10 rfl rfl rfl rfl ?_
  refine jT_eq (LN := [(1, (0, 0)), (0, (4, 0))]) (stN := [(1, e0)]) (hsN := [(101, [], [e0, e1, e2, e3, e4, e5])]) rfl rfl rfl ?_
  refine jT_xlconst (z := 0) (pcN := 12) jIY_200_11 rfl rfl ?_
  refine jT_lcmp (a := e0) (b := 0) (z := 0) (by rfl) (by rfl) (jwl_idd (by omega) (by omega)) (jwl_idd (by omega) (by omega)) (by rw [decide_eq_false (show ¬ ((0 : Int) < e0) by omega), decide_eq_true (show (e0 : Int) = 0 by omega)]; rfl) ?_
  refine jT_xifT (pcN := 18) jIY_200_13 rfl (by decide +kernel) rfl ?_
  refine jT_xiinc (x := 0) (z := 1) (LN := [(1, (0, 1)), (0, (4, 0))]) (pcN := 21) jIY_200_18 rfl rfl (by decide) rfl rfl ?_
  refine jT_xgoto (pcN := 2) jIY_200_21 rfl ?_
  refine jT_xiload_n (v := (0, 1)) (pcN := 3) jIY_200_2 rfl rfl rfl ?_
  refine jT_xbipush (k := 6) (pcN := 5) jIY_200_3 (by decide) rfl ?_
  refine jT_xicF (t := 24) (pcN := 8) jIY_200_5 rfl (by decide +kernel) rfl rfl ?_
  refine jT_xaload_n (v := (4, 0)) (pcN := 9) jIY_200_8 rfl rfl rfl ?_
  refine jT_xiload_n (v := (0, 1)) (pcN := 10) jIY_200_9 rfl rfl rfl ?_
  refine jT_lald (x := e1) (a := 0) (j := 1) (fs := []) (X := [e0, e1, e2, e3, e4, e5]) jIY_200_10 rfl rfl rfl rfl ?_
  refine jT_eq (LN := [(1, (0, 1)), (0, (4, 0))]) (stN := [(1, e1)]) (hsN := [(101, [], [e0, e1, e2, e3, e4, e5])]) rfl rfl rfl ?_
  refine jT_xlconst (z := 0) (pcN := 12) jIY_200_11 rfl rfl ?_
  refine jT_lcmp (a := e1) (b := 0) (z := 0) (by rfl) (by rfl) (jwl_idd (by omega) (by omega)) (jwl_idd (by omega) (by omega)) (by rw [decide_eq_false (show ¬ ((0 : Int) < e1) by omega), decide_eq_true (show (e1 : Int) = 0 by omega)]; rfl) ?_
  refine jT_xifT (pcN := 18) jIY_200_13 rfl (by decide +kernel) rfl ?_
  refine jT_xiinc (x := 1) (z := 2) (LN := [(1, (0, 2)), (0, (4, 0))]) (pcN := 21) jIY_200_18 rfl rfl (by decide) rfl rfl ?_
  refine jT_xgoto (pcN := 2) jIY_200_21 rfl ?_
  refine jT_xiload_n (v := (0, 2)) (pcN := 3) jIY_200_2 rfl rfl rfl ?_
  refine jT_xbipush (k := 6) (pcN := 5) jIY_200_3 (by decide) rfl ?_
  refine jT_xicF (t := 24) (pcN := 8) jIY_200_5 rfl (by decide +kernel) rfl rfl ?_
  refine jT_xaload_n (v := (4, 0)) (pcN := 9) jIY_200_8 rfl rfl rfl ?_
  refine jT_xiload_n (v := (0, 2)) (pcN := 10) jIY_200_9 rfl rfl rfl ?_
  refine jT_lald (x := e2) (a := 0) (j := 2) (fs := []) (X := [e0, e1, e2, e3, e4, e5]) jIY_200_10 rfl rfl rfl rfl ?_
  refine jT_eq (LN := [(1, (0, 2)), (0, (4, 0))]) (stN := [(1, e2)]) (hsN := [(101, [], [e0, e1, e2, e3, e4, e5])]) rfl rfl rfl ?_
  refine jT_xlconst (z := 0) (pcN := 12) jIY_200_11 rfl rfl ?_
  refine jT_lcmp (a := e2) (b := 0) (z := 0) (by rfl) (by rfl) (jwl_idd (by omega) (by omega)) (jwl_idd (by omega) (by omega)) (by rw [decide_eq_false (show ¬ ((0 : Int) < e2) by omega), decide_eq_true (show (e2 : Int) = 0 by omega)]; rfl) ?_
  refine jT_xifT (pcN := 18) jIY_200_13 rfl (by decide +kernel) rfl ?_
  refine jT_xiinc (x := 2) (z := 3) (LN := [(1, (0, 3)), (0, (4, 0))]) (pcN := 21) jIY_200_18 rfl rfl (by decide) rfl rfl ?_
  refine jT_xgoto (pcN := 2) jIY_200_21 rfl ?_
  refine jT_xiload_n (v := (0, 3)) (pcN := 3) jIY_200_2 rfl rfl rfl ?_
  refine jT_xbipush (k := 6) (pcN := 5) jIY_200_3 (by decide) rfl ?_
  refine jT_xicF (t := 24) (pcN := 8) jIY_200_5 rfl (by decide +kernel) rfl rfl ?_
  refine jT_xaload_n (v := (4, 0)) (pcN := 9) jIY_200_8 rfl rfl rfl ?_
  refine jT_xiload_n (v := (0, 3)) (pcN := 10) jIY_200_9 rfl rfl rfl ?_
  refine jT_lald (x := e3) (a := 0) (j := 3) (fs := []) (X := [e0, e1, e2, e3, e4, e5]) jIY_200_10 rfl rfl rfl rfl ?_
  refine jT_eq (LN := [(1, (0, 3)), (0, (4, 0))]) (stN := [(1, e3)]) (hsN := [(101, [], [e0, e1, e2, e3, e4, e5])]) rfl rfl rfl ?_
  refine jT_xlconst (z := 0) (pcN := 12) jIY_200_11 rfl rfl ?_
  refine jT_lcmp (a := e3) (b := 0) (z := 0) (by rfl) (by rfl) (jwl_idd (by omega) (by omega)) (jwl_idd (by omega) (by omega)) (by rw [decide_eq_false (show ¬ ((0 : Int) < e3) by omega), decide_eq_true (show (e3 : Int) = 0 by omega)]; rfl) ?_
  refine jT_xifT (pcN := 18) jIY_200_13 rfl (by decide +kernel) rfl ?_
  refine jT_xiinc (x := 3) (z := 4) (LN := [(1, (0, 4)), (0, (4, 0))]) (pcN := 21) jIY_200_18 rfl rfl (by decide) rfl rfl ?_
  refine jT_xgoto (pcN := 2) jIY_200_21 rfl ?_
  refine jT_xiload_n (v := (0, 4)) (pcN := 3) jIY_200_2 rfl rfl rfl ?_
  refine jT_xbipush (k := 6) (pcN := 5) jIY_200_3 (by decide) rfl ?_
  refine jT_xicF (t := 24) (pcN := 8) jIY_200_5 rfl (by decide +kernel) rfl rfl ?_
  refine jT_xaload_n (v := (4, 0)) (pcN := 9) jIY_200_8 rfl rfl rfl ?_
  refine jT_xiload_n (v := (0, 4)) (pcN := 10) jIY_200_9 rfl rfl rfl ?_
  refine jT_lald (x := e4) (a := 0) (j := 4) (fs := []) (X := [e0, e1, e2, e3, e4, e5]) jIY_200_10 rfl rfl rfl rfl ?_
  refine jT_eq (LN := [(1, (0, 4)), (0, (4, 0))]) (stN := [(1, e4)]) (hsN := [(101, [], [e0, e1, e2, e3, e4, e5])]) rfl rfl rfl ?_
  refine jT_xlconst (z := 0) (pcN := 12) jIY_200_11 rfl rfl ?_
  refine jT_lcmp (a := e4) (b := 0) (z := 0) (by rfl) (by rfl) (jwl_idd (by omega) (by omega)) (jwl_idd (by omega) (by omega)) (by rw [decide_eq_false (show ¬ ((0 : Int) < e4) by omega), decide_eq_true (show (e4 : Int) = 0 by omega)]; rfl) ?_
  refine jT_xifT (pcN := 18) jIY_200_13 rfl (by decide +kernel) rfl ?_
  refine jT_xiinc (x := 4) (z := 5) (LN := [(1, (0, 5)), (0, (4, 0))]) (pcN := 21) jIY_200_18 rfl rfl (by decide) rfl rfl ?_
  refine jT_xgoto (pcN := 2) jIY_200_21 rfl ?_
  refine jT_xiload_n (v := (0, 5)) (pcN := 3) jIY_200_2 rfl rfl rfl ?_
  refine jT_xbipush (k := 6) (pcN := 5) jIY_200_3 (by decide) rfl ?_
  refine jT_xicF (t := 24) (pcN := 8) jIY_200_5 rfl (by decide +kernel) rfl rfl ?_
  refine jT_xaload_n (v := (4, 0)) (pcN := 9) jIY_200_8 rfl rfl rfl ?_
  refine jT_xiload_n (v := (0, 5)) (pcN := 10) jIY_200_9 rfl rfl rfl ?_
  refine jT_lald (x := e5) (a := 0) (j := 5) (fs := []) (X := [e0, e1, e2, e3, e4, e5]) jIY_200_10 rfl rfl rfl rfl ?_
  refine jT_eq (LN := [(1, (0, 5)), (0, (4, 0))]) (stN := [(1, e5)]) (hsN := [(101, [], [e0, e1, e2, e3, e4, e5])]) rfl rfl rfl ?_
  refine jT_xlconst (z := 0) (pcN := 12) jIY_200_11 rfl rfl ?_
  refine jT_lcmp (a := e5) (b := 0) (z := 0) (by rfl) (by rfl) (jwl_idd (by omega) (by omega)) (jwl_idd (by omega) (by omega)) (by rw [decide_eq_false (show ¬ ((0 : Int) < e5) by omega), decide_eq_true (show (e5 : Int) = 0 by omega)]; rfl) ?_
  refine jT_xifT (pcN := 18) jIY_200_13 rfl (by decide +kernel) rfl ?_
  refine jT_xiinc (x := 5) (z := 6) (LN := [(1, (0, 6)), (0, (4, 0))]) (pcN := 21) jIY_200_18 rfl rfl (by decide) rfl rfl ?_
  refine jT_xgoto (pcN := 2) jIY_200_21 rfl ?_
  refine jT_xiload_n (v := (0, 6)) (pcN := 3) jIY_200_2 rfl rfl rfl ?_
  refine jT_xbipush (k := 6) (pcN := 5) jIY_200_3 (by decide) rfl ?_
  refine jT_xicT (pcN := 24) jIY_200_5 rfl (by decide +kernel) rfl ?_
  refine jT_xiconst (k := 1) (pcN := 25) jIY_200_24 rfl ?_
  exact jT_ret rfl (by decide) (by show 1 ≤ 1; omega) (by omega) (by omega) ⟨rfl, rfl, rfl⟩
theorem jIY_213_7 : jmI (jm 213) 7 = (.iconst 0, 1) := by rfl
theorem jIY_213_8 : jmI (jm 213) 8 = (.goto 10, 3) := by rfl
theorem jY_200_88 {xs : List Int} {d : Nat} {e0 e1 e2 e3 e4 e5 : Int} (h_e0 : (-4611686018427387903) ≤ e0 ∧ e0 ≤ 4611686018427387903) (h_e1 : (-4611686018427387903) ≤ e1 ∧ e1 ≤ 4611686018427387903) (h_e2 : (-4611686018427387903) ≤ e2 ∧ e2 ≤ 4611686018427387903) (h_e3 : (-4611686018427387903) ≤ e3 ∧ e3 ≤ 4611686018427387903) (h_e4 : (-4611686018427387903) ≤ e4 ∧ e4 ≤ 4611686018427387903) (h_e5 : (-4611686018427387903) ≤ e5 ∧ e5 ≤ 4611686018427387903) (g_0 : e0 - 1 < 0) (g_1 : 0 ≤ e0) (g_2 : e1 - 1 < 0) (g_3 : 0 ≤ e1) (g_4 : e2 - 1 < 0) (g_5 : 0 ≤ e2) (g_6 : e3 - 1 < 0) (g_7 : 0 ≤ e3) (g_8 : e4 - 1 < 0) (g_9 : 0 ≤ e4) (g_10 : e5 - 1 < 0) (g_11 : e5 < 0) : jT xs d 200 1 0 [(0, (4, 0))] [] [(101, [], [e0, e1, e2, e3, e4, e5])] 0 0 (fun k v hsN => k = 0 ∧ v = (0, 0) ∧ hsN = [(101, [], [e0, e1, e2, e3, e4, e5])] ++ []) := by
  refine jT_xiconst (k := 0) (pcN := 1) jIY_200_0 rfl ?_
  refine jT_xistore_n (v := (0, 0)) (LN := [(1, (0, 0)), (0, (4, 0))]) (pcN := 2) jIY_200_1 rfl rfl rfl rfl ?_
  refine jT_xiload_n (v := (0, 0)) (pcN := 3) jIY_200_2 rfl rfl rfl ?_
  refine jT_xbipush (k := 6) (pcN := 5) jIY_200_3 (by decide) rfl ?_
  refine jT_xicF (t := 24) (pcN := 8) jIY_200_5 rfl (by decide +kernel) rfl rfl ?_
  refine jT_xaload_n (v := (4, 0)) (pcN := 9) jIY_200_8 rfl rfl rfl ?_
  refine jT_xiload_n (v := (0, 0)) (pcN := 10) jIY_200_9 rfl rfl rfl ?_
  refine jT_lald (x := e0) (a := 0) (j := 0) (fs := []) (X := [e0, e1, e2, e3, e4, e5]) jIY_200_10 rfl rfl rfl rfl ?_
  refine jT_eq (LN := [(1, (0, 0)), (0, (4, 0))]) (stN := [(1, e0)]) (hsN := [(101, [], [e0, e1, e2, e3, e4, e5])]) rfl rfl rfl ?_
  refine jT_xlconst (z := 0) (pcN := 12) jIY_200_11 rfl rfl ?_
  refine jT_lcmp (a := e0) (b := 0) (z := 0) (by rfl) (by rfl) (jwl_idd (by omega) (by omega)) (jwl_idd (by omega) (by omega)) (by rw [decide_eq_false (show ¬ ((0 : Int) < e0) by omega), decide_eq_true (show (e0 : Int) = 0 by omega)]; rfl) ?_
  refine jT_xifT (pcN := 18) jIY_200_13 rfl (by decide +kernel) rfl ?_
  refine jT_xiinc (x := 0) (z := 1) (LN := [(1, (0, 1)), (0, (4, 0))]) (pcN := 21) jIY_200_18 rfl rfl (by decide) rfl rfl ?_
  refine jT_xgoto (pcN := 2) jIY_200_21 rfl ?_
  refine jT_xiload_n (v := (0, 1)) (pcN := 3) jIY_200_2 rfl rfl rfl ?_
  refine jT_xbipush (k := 6) (pcN := 5) jIY_200_3 (by decide) rfl ?_
  refine jT_xicF (t := 24) (pcN := 8) jIY_200_5 rfl (by decide +kernel) rfl rfl ?_
  refine jT_xaload_n (v := (4, 0)) (pcN := 9) jIY_200_8 rfl rfl rfl ?_
  refine jT_xiload_n (v := (0, 1)) (pcN := 10) jIY_200_9 rfl rfl rfl ?_
  refine jT_lald (x := e1) (a := 0) (j := 1) (fs := []) (X := [e0, e1, e2, e3, e4, e5]) jIY_200_10 rfl rfl rfl rfl ?_
  refine jT_eq (LN := [(1, (0, 1)), (0, (4, 0))]) (stN := [(1, e1)]) (hsN := [(101, [], [e0, e1, e2, e3, e4, e5])]) rfl rfl rfl ?_
  refine jT_xlconst (z := 0) (pcN := 12) jIY_200_11 rfl rfl ?_
  refine jT_lcmp (a := e1) (b := 0) (z := 0) (by rfl) (by rfl) (jwl_idd (by omega) (by omega)) (jwl_idd (by omega) (by omega)) (by rw [decide_eq_false (show ¬ ((0 : Int) < e1) by omega), decide_eq_true (show (e1 : Int) = 0 by omega)]; rfl) ?_
  refine jT_xifT (pcN := 18) jIY_200_13 rfl (by decide +kernel) rfl ?_
  refine jT_xiinc (x := 1) (z := 2) (LN := [(1, (0, 2)), (0, (4, 0))]) (pcN := 21) jIY_200_18 rfl rfl (by decide) rfl rfl ?_
  refine jT_xgoto (pcN := 2) jIY_200_21 rfl ?_
  refine jT_xiload_n (v := (0, 2)) (pcN := 3) jIY_200_2 rfl rfl rfl ?_
  refine jT_xbipush (k := 6) (pcN := 5) jIY_200_3 (by decide) rfl ?_
  refine jT_xicF (t := 24) (pcN := 8) jIY_200_5 rfl (by decide +kernel) rfl rfl ?_
  refine jT_xaload_n (v := (4, 0)) (pcN := 9) jIY_200_8 rfl rfl rfl ?_
  refine jT_xiload_n (v := (0, 2)) (pcN := 10) jIY_200_9 rfl rfl rfl ?_
  refine jT_lald (x := e2) (a := 0) (j := 2) (fs := []) (X := [e0, e1, e2, e3, e4, e5]) jIY_200_10 rfl rfl rfl rfl ?_
  refine jT_eq (LN := [(1, (0, 2)), (0, (4, 0))]) (stN := [(1, e2)]) (hsN := [(101, [], [e0, e1, e2, e3, e4, e5])]) rfl rfl rfl ?_
  refine jT_xlconst (z := 0) (pcN := 12) jIY_200_11 rfl rfl ?_
  refine jT_lcmp (a := e2) (b := 0) (z := 0) (by rfl) (by rfl) (jwl_idd (by omega) (by omega)) (jwl_idd (by omega) (by omega)) (by rw [decide_eq_false (show ¬ ((0 : Int) < e2) by omega), decide_eq_true (show (e2 : Int) = 0 by omega)]; rfl) ?_
  refine jT_xifT (pcN := 18) jIY_200_13 rfl (by decide +kernel) rfl ?_
  refine jT_xiinc (x := 2) (z := 3) (LN := [(1, (0, 3)), (0, (4, 0))]) (pcN := 21) jIY_200_18 rfl rfl (by decide) rfl rfl ?_
  refine jT_xgoto (pcN := 2) jIY_200_21 rfl ?_
  refine jT_xiload_n (v := (0, 3)) (pcN := 3) jIY_200_2 rfl rfl rfl ?_
  refine jT_xbipush (k := 6) (pcN := 5) jIY_200_3 (by decide) rfl ?_
  refine jT_xicF (t := 24) (pcN := 8) jIY_200_5 rfl (by decide +kernel) rfl rfl ?_
  refine jT_xaload_n (v := (4, 0)) (pcN := 9) jIY_200_8 rfl rfl rfl ?_
  refine jT_xiload_n (v := (0, 3)) (pcN := 10) jIY_200_9 rfl rfl rfl ?_
  refine jT_lald (x := e3) (a := 0) (j := 3) (fs := []) (X := [e0, e1, e2, e3, e4, e5]) jIY_200_10 rfl rfl rfl rfl ?_
  refine jT_eq (LN := [(1, (0, 3)), (0, (4, 0))]) (stN := [(1, e3)]) (hsN := [(101, [], [e0, e1, e2, e3, e4, e5])]) rfl rfl rfl ?_
  refine jT_xlconst (z := 0) (pcN := 12) jIY_200_11 rfl rfl ?_
  refine jT_lcmp (a := e3) (b := 0) (z := 0) (by rfl) (by rfl) (jwl_idd (by omega) (by omega)) (jwl_idd (by omega) (by omega)) (by rw [decide_eq_false (show ¬ ((0 : Int) < e3) by omega), decide_eq_true (show (e3 : Int) = 0 by omega)]; rfl) ?_
  refine jT_xifT (pcN := 18) jIY_200_13 rfl (by decide +kernel) rfl ?_
  refine jT_xiinc (x := 3) (z := 4) (LN := [(1, (0, 4)), (0, (4, 0))]) (pcN := 21) jIY_200_18 rfl rfl (by decide) rfl rfl ?_
  refine jT_xgoto (pcN := 2) jIY_200_21 rfl ?_
  refine jT_xiload_n (v := (0, 4)) (pcN := 3) jIY_200_2 rfl rfl rfl ?_
  refine jT_xbipush (k := 6) (pcN := 5) jIY_200_3 (by decide) rfl ?_
  refine jT_xicF (t := 24) (pcN := 8) jIY_200_5 rfl (by decide +kernel) rfl rfl ?_
  refine jT_xaload_n (v := (4, 0)) (pcN := 9) jIY_200_8 rfl rfl rfl ?_
  refine jT_xiload_n (v := (0, 4)) (pcN := 10) jIY_200_9 rfl rfl rfl ?_
  refine jT_lald (x := e4) (a := 0) (j := 4) (fs := []) (X := [e0, e1, e2, e3, e4, e5]) jIY_200_10 rfl rfl rfl rfl ?_
  refine jT_eq (LN := [(1, (0, 4)), (0, (4, 0))]) (stN := [(1, e4)]) (hsN := [(101, [], [e0, e1, e2, e3, e4, e5])]) rfl rfl rfl ?_
  refine jT_xlconst (z := 0) (pcN := 12) jIY_200_11 rfl rfl ?_
  refine jT_lcmp (a := e4) (b := 0) (z := 0) (by rfl) (by rfl) (jwl_idd (by omega) (by omega)) (jwl_idd (by omega) (by omega)) (by rw [decide_eq_false (show ¬ ((0 : Int) < e4) by omega), decide_eq_true (show (e4 : Int) = 0 by omega)]; rfl) ?_
  refine jT_xifT (pcN := 18) jIY_200_13 rfl (by decide +kernel) rfl ?_
  refine jT_xiinc (x := 4) (z := 5) (LN := [(1, (0, 5)), (0, (4, 0))]) (pcN := 21) jIY_200_18 rfl rfl (by decide) rfl rfl ?_
  refine jT_xgoto (pcN := 2) jIY_200_21 rfl ?_
  refine jT_xiload_n (v := (0, 5)) (pcN := 3) jIY_200_2 rfl rfl rfl ?_
  refine jT_xbipush (k := 6) (pcN := 5) jIY_200_3 (by decide) rfl ?_
  refine jT_xicF (t := 24) (pcN := 8) jIY_200_5 rfl (by decide +kernel) rfl rfl ?_
  refine jT_xaload_n (v := (4, 0)) (pcN := 9) jIY_200_8 rfl rfl rfl ?_
  refine jT_xiload_n (v := (0, 5)) (pcN := 10) jIY_200_9 rfl rfl rfl ?_
  refine jT_lald (x := e5) (a := 0) (j := 5) (fs := []) (X := [e0, e1, e2, e3, e4, e5]) jIY_200_10 rfl rfl rfl rfl ?_
  refine jT_eq (LN := [(1, (0, 5)), (0, (4, 0))]) (stN := [(1, e5)]) (hsN := [(101, [], [e0, e1, e2, e3, e4, e5])]) rfl rfl rfl ?_
  refine jT_xlconst (z := 0) (pcN := 12) jIY_200_11 rfl rfl ?_
  refine jT_lcmp (a := e5) (b := 0) (z := (-1)) (by rfl) (by rfl) (jwl_idd (by omega) (by omega)) (jwl_idd (by omega) (by omega)) (by rw [decide_eq_false (show ¬ ((0 : Int) < e5) by omega), decide_eq_false (show ¬ ((e5 : Int) = 0) by omega)]; rfl) ?_
  refine jT_xifF (t := 18) (pcN := 16) jIY_200_13 rfl (by decide +kernel) rfl rfl ?_
  refine jT_xiconst (k := 0) (pcN := 17) jIY_200_16 rfl ?_
  exact jT_ret rfl (by decide) (by show 1 ≤ 1; omega) (by omega) (by omega) ⟨rfl, rfl, rfl⟩
theorem jY_200_89 {xs : List Int} {d : Nat} {e0 e1 e2 e3 e4 e5 : Int} (h_e0 : (-4611686018427387903) ≤ e0 ∧ e0 ≤ 4611686018427387903) (h_e1 : (-4611686018427387903) ≤ e1 ∧ e1 ≤ 4611686018427387903) (h_e2 : (-4611686018427387903) ≤ e2 ∧ e2 ≤ 4611686018427387903) (h_e3 : (-4611686018427387903) ≤ e3 ∧ e3 ≤ 4611686018427387903) (h_e4 : (-4611686018427387903) ≤ e4 ∧ e4 ≤ 4611686018427387903) (h_e5 : (-4611686018427387903) ≤ e5 ∧ e5 ≤ 4611686018427387903) (g_0 : e0 - 1 < 0) (g_1 : 0 ≤ e0) (g_2 : e1 - 1 < 0) (g_3 : 0 ≤ e1) (g_4 : e2 - 1 < 0) (g_5 : 0 ≤ e2) (g_6 : e3 - 1 < 0) (g_7 : 0 ≤ e3) (g_8 : e4 - 1 < 0) (g_9 : e4 < 0) : jT xs d 200 1 0 [(0, (4, 0))] [] [(101, [], [e0, e1, e2, e3, e4, e5])] 0 0 (fun k v hsN => k = 0 ∧ v = (0, 0) ∧ hsN = [(101, [], [e0, e1, e2, e3, e4, e5])] ++ []) := by
  refine jT_xiconst (k := 0) (pcN := 1) jIY_200_0 rfl ?_
  refine jT_xistore_n (v := (0, 0)) (LN := [(1, (0, 0)), (0, (4, 0))]) (pcN := 2) jIY_200_1 rfl rfl rfl rfl ?_
  refine jT_xiload_n (v := (0, 0)) (pcN := 3) jIY_200_2 rfl rfl rfl ?_
  refine jT_xbipush (k := 6) (pcN := 5) jIY_200_3 (by decide) rfl ?_
  refine jT_xicF (t := 24) (pcN := 8) jIY_200_5 rfl (by decide +kernel) rfl rfl ?_
  refine jT_xaload_n (v := (4, 0)) (pcN := 9) jIY_200_8 rfl rfl rfl ?_
  refine jT_xiload_n (v := (0, 0)) (pcN := 10) jIY_200_9 rfl rfl rfl ?_
  refine jT_lald (x := e0) (a := 0) (j := 0) (fs := []) (X := [e0, e1, e2, e3, e4, e5]) jIY_200_10 rfl rfl rfl rfl ?_
  refine jT_eq (LN := [(1, (0, 0)), (0, (4, 0))]) (stN := [(1, e0)]) (hsN := [(101, [], [e0, e1, e2, e3, e4, e5])]) rfl rfl rfl ?_
  refine jT_xlconst (z := 0) (pcN := 12) jIY_200_11 rfl rfl ?_
  refine jT_lcmp (a := e0) (b := 0) (z := 0) (by rfl) (by rfl) (jwl_idd (by omega) (by omega)) (jwl_idd (by omega) (by omega)) (by rw [decide_eq_false (show ¬ ((0 : Int) < e0) by omega), decide_eq_true (show (e0 : Int) = 0 by omega)]; rfl) ?_
  refine jT_xifT (pcN := 18) jIY_200_13 rfl (by decide +kernel) rfl ?_
  refine jT_xiinc (x := 0) (z := 1) (LN := [(1, (0, 1)), (0, (4, 0))]) (pcN := 21) jIY_200_18 rfl rfl (by decide) rfl rfl ?_
  refine jT_xgoto (pcN := 2) jIY_200_21 rfl ?_
  refine jT_xiload_n (v := (0, 1)) (pcN := 3) jIY_200_2 rfl rfl rfl ?_
  refine jT_xbipush (k := 6) (pcN := 5) jIY_200_3 (by decide) rfl ?_
  refine jT_xicF (t := 24) (pcN := 8) jIY_200_5 rfl (by decide +kernel) rfl rfl ?_
  refine jT_xaload_n (v := (4, 0)) (pcN := 9) jIY_200_8 rfl rfl rfl ?_
  refine jT_xiload_n (v := (0, 1)) (pcN := 10) jIY_200_9 rfl rfl rfl ?_
  refine jT_lald (x := e1) (a := 0) (j := 1) (fs := []) (X := [e0, e1, e2, e3, e4, e5]) jIY_200_10 rfl rfl rfl rfl ?_
  refine jT_eq (LN := [(1, (0, 1)), (0, (4, 0))]) (stN := [(1, e1)]) (hsN := [(101, [], [e0, e1, e2, e3, e4, e5])]) rfl rfl rfl ?_
  refine jT_xlconst (z := 0) (pcN := 12) jIY_200_11 rfl rfl ?_
  refine jT_lcmp (a := e1) (b := 0) (z := 0) (by rfl) (by rfl) (jwl_idd (by omega) (by omega)) (jwl_idd (by omega) (by omega)) (by rw [decide_eq_false (show ¬ ((0 : Int) < e1) by omega), decide_eq_true (show (e1 : Int) = 0 by omega)]; rfl) ?_
  refine jT_xifT (pcN := 18) jIY_200_13 rfl (by decide +kernel) rfl ?_
  refine jT_xiinc (x := 1) (z := 2) (LN := [(1, (0, 2)), (0, (4, 0))]) (pcN := 21) jIY_200_18 rfl rfl (by decide) rfl rfl ?_
  refine jT_xgoto (pcN := 2) jIY_200_21 rfl ?_
  refine jT_xiload_n (v := (0, 2)) (pcN := 3) jIY_200_2 rfl rfl rfl ?_
  refine jT_xbipush (k := 6) (pcN := 5) jIY_200_3 (by decide) rfl ?_
  refine jT_xicF (t := 24) (pcN := 8) jIY_200_5 rfl (by decide +kernel) rfl rfl ?_
  refine jT_xaload_n (v := (4, 0)) (pcN := 9) jIY_200_8 rfl rfl rfl ?_
  refine jT_xiload_n (v := (0, 2)) (pcN := 10) jIY_200_9 rfl rfl rfl ?_
  refine jT_lald (x := e2) (a := 0) (j := 2) (fs := []) (X := [e0, e1, e2, e3, e4, e5]) jIY_200_10 rfl rfl rfl rfl ?_
  refine jT_eq (LN := [(1, (0, 2)), (0, (4, 0))]) (stN := [(1, e2)]) (hsN := [(101, [], [e0, e1, e2, e3, e4, e5])]) rfl rfl rfl ?_
  refine jT_xlconst (z := 0) (pcN := 12) jIY_200_11 rfl rfl ?_
  refine jT_lcmp (a := e2) (b := 0) (z := 0) (by rfl) (by rfl) (jwl_idd (by omega) (by omega)) (jwl_idd (by omega) (by omega)) (by rw [decide_eq_false (show ¬ ((0 : Int) < e2) by omega), decide_eq_true (show (e2 : Int) = 0 by omega)]; rfl) ?_
  refine jT_xifT (pcN := 18) jIY_200_13 rfl (by decide +kernel) rfl ?_
  refine jT_xiinc (x := 2) (z := 3) (LN := [(1, (0, 3)), (0, (4, 0))]) (pcN := 21) jIY_200_18 rfl rfl (by decide) rfl rfl ?_
  refine jT_xgoto (pcN := 2) jIY_200_21 rfl ?_
  refine jT_xiload_n (v := (0, 3)) (pcN := 3) jIY_200_2 rfl rfl rfl ?_
  refine jT_xbipush (k := 6) (pcN := 5) jIY_200_3 (by decide) rfl ?_
  refine jT_xicF (t := 24) (pcN := 8) jIY_200_5 rfl (by decide +kernel) rfl rfl ?_
  refine jT_xaload_n (v := (4, 0)) (pcN := 9) jIY_200_8 rfl rfl rfl ?_
  refine jT_xiload_n (v := (0, 3)) (pcN := 10) jIY_200_9 rfl rfl rfl ?_
  refine jT_lald (x := e3) (a := 0) (j := 3) (fs := []) (X := [e0, e1, e2, e3, e4, e5]) jIY_200_10 rfl rfl rfl rfl ?_
  refine jT_eq (LN := [(1, (0, 3)), (0, (4, 0))]) (stN := [(1, e3)]) (hsN := [(101, [], [e0, e1, e2, e3, e4, e5])]) rfl rfl rfl ?_
  refine jT_xlconst (z := 0) (pcN := 12) jIY_200_11 rfl rfl ?_
  refine jT_lcmp (a := e3) (b := 0) (z := 0) (by rfl) (by rfl) (jwl_idd (by omega) (by omega)) (jwl_idd (by omega) (by omega)) (by rw [decide_eq_false (show ¬ ((0 : Int) < e3) by omega), decide_eq_true (show (e3 : Int) = 0 by omega)]; rfl) ?_
  refine jT_xifT (pcN := 18) jIY_200_13 rfl (by decide +kernel) rfl ?_
  refine jT_xiinc (x := 3) (z := 4) (LN := [(1, (0, 4)), (0, (4, 0))]) (pcN := 21) jIY_200_18 rfl rfl (by decide) rfl rfl ?_
  refine jT_xgoto (pcN := 2) jIY_200_21 rfl ?_
  refine jT_xiload_n (v := (0, 4)) (pcN := 3) jIY_200_2 rfl rfl rfl ?_
  refine jT_xbipush (k := 6) (pcN := 5) jIY_200_3 (by decide) rfl ?_
  refine jT_xicF (t := 24) (pcN := 8) jIY_200_5 rfl (by decide +kernel) rfl rfl ?_
  refine jT_xaload_n (v := (4, 0)) (pcN := 9) jIY_200_8 rfl rfl rfl ?_
  refine jT_xiload_n (v := (0, 4)) (pcN := 10) jIY_200_9 rfl rfl rfl ?_
  refine jT_lald (x := e4) (a := 0) (j := 4) (fs := []) (X := [e0, e1, e2, e3, e4, e5]) jIY_200_10 rfl rfl rfl rfl ?_
  refine jT_eq (LN := [(1, (0, 4)), (0, (4, 0))]) (stN := [(1, e4)]) (hsN := [(101, [], [e0, e1, e2, e3, e4, e5])]) rfl rfl rfl ?_
  refine jT_xlconst (z := 0) (pcN := 12) jIY_200_11 rfl rfl ?_
  refine jT_lcmp (a := e4) (b := 0) (z := (-1)) (by rfl) (by rfl) (jwl_idd (by omega) (by omega)) (jwl_idd (by omega) (by omega)) (by rw [decide_eq_false (show ¬ ((0 : Int) < e4) by omega), decide_eq_false (show ¬ ((e4 : Int) = 0) by omega)]; rfl) ?_
  refine jT_xifF (t := 18) (pcN := 16) jIY_200_13 rfl (by decide +kernel) rfl rfl ?_
  refine jT_xiconst (k := 0) (pcN := 17) jIY_200_16 rfl ?_
  exact jT_ret rfl (by decide) (by show 1 ≤ 1; omega) (by omega) (by omega) ⟨rfl, rfl, rfl⟩
theorem jY_200_90 {xs : List Int} {d : Nat} {e0 e1 e2 e3 e4 e5 : Int} (h_e0 : (-4611686018427387903) ≤ e0 ∧ e0 ≤ 4611686018427387903) (h_e1 : (-4611686018427387903) ≤ e1 ∧ e1 ≤ 4611686018427387903) (h_e2 : (-4611686018427387903) ≤ e2 ∧ e2 ≤ 4611686018427387903) (h_e3 : (-4611686018427387903) ≤ e3 ∧ e3 ≤ 4611686018427387903) (h_e4 : (-4611686018427387903) ≤ e4 ∧ e4 ≤ 4611686018427387903) (h_e5 : (-4611686018427387903) ≤ e5 ∧ e5 ≤ 4611686018427387903) (g_0 : e0 - 1 < 0) (g_1 : 0 ≤ e0) (g_2 : e1 - 1 < 0) (g_3 : 0 ≤ e1) (g_4 : e2 - 1 < 0) (g_5 : 0 ≤ e2) (g_6 : e3 - 1 < 0) (g_7 : e3 < 0) : jT xs d 200 1 0 [(0, (4, 0))] [] [(101, [], [e0, e1, e2, e3, e4, e5])] 0 0 (fun k v hsN => k = 0 ∧ v = (0, 0) ∧ hsN = [(101, [], [e0, e1, e2, e3, e4, e5])] ++ []) := by
  refine jT_xiconst (k := 0) (pcN := 1) jIY_200_0 rfl ?_
  refine jT_xistore_n (v := (0, 0)) (LN := [(1, (0, 0)), (0, (4, 0))]) (pcN := 2) jIY_200_1 rfl rfl rfl rfl ?_
  refine jT_xiload_n (v := (0, 0)) (pcN := 3) jIY_200_2 rfl rfl rfl ?_
  refine jT_xbipush (k := 6) (pcN := 5) jIY_200_3 (by decide) rfl ?_
  refine jT_xicF (t := 24) (pcN := 8) jIY_200_5 rfl (by decide +kernel) rfl rfl ?_
  refine jT_xaload_n (v := (4, 0)) (pcN := 9) jIY_200_8 rfl rfl rfl ?_
  refine jT_xiload_n (v := (0, 0)) (pcN := 10) jIY_200_9 rfl rfl rfl ?_
  refine jT_lald (x := e0) (a := 0) (j := 0) (fs := []) (X := [e0, e1, e2, e3, e4, e5]) jIY_200_10 rfl rfl rfl rfl ?_
  refine jT_eq (LN := [(1, (0, 0)), (0, (4, 0))]) (stN := [(1, e0)]) (hsN := [(101, [], [e0, e1, e2, e3, e4, e5])]) rfl rfl rfl ?_
  refine jT_xlconst (z := 0) (pcN := 12) jIY_200_11 rfl rfl ?_
  refine jT_lcmp (a := e0) (b := 0) (z := 0) (by rfl) (by rfl) (jwl_idd (by omega) (by omega)) (jwl_idd (by omega) (by omega)) (by rw [decide_eq_false (show ¬ ((0 : Int) < e0) by omega), decide_eq_true (show (e0 : Int) = 0 by omega)]; rfl) ?_
  refine jT_xifT (pcN := 18) jIY_200_13 rfl (by decide +kernel) rfl ?_
  refine jT_xiinc (x := 0) (z := 1) (LN := [(1, (0, 1)), (0, (4, 0))]) (pcN := 21) jIY_200_18 rfl rfl (by decide) rfl rfl ?_
  refine jT_xgoto (pcN := 2) jIY_200_21 rfl ?_
  refine jT_xiload_n (v := (0, 1)) (pcN := 3) jIY_200_2 rfl rfl rfl ?_
  refine jT_xbipush (k := 6) (pcN := 5) jIY_200_3 (by decide) rfl ?_
  refine jT_xicF (t := 24) (pcN := 8) jIY_200_5 rfl (by decide +kernel) rfl rfl ?_
  refine jT_xaload_n (v := (4, 0)) (pcN := 9) jIY_200_8 rfl rfl rfl ?_
  refine jT_xiload_n (v := (0, 1)) (pcN := 10) jIY_200_9 rfl rfl rfl ?_
  refine jT_lald (x := e1) (a := 0) (j := 1) (fs := []) (X := [e0, e1, e2, e3, e4, e5]) jIY_200_10 rfl rfl rfl rfl ?_
  refine jT_eq (LN := [(1, (0, 1)), (0, (4, 0))]) (stN := [(1, e1)]) (hsN := [(101, [], [e0, e1, e2, e3, e4, e5])]) rfl rfl rfl ?_
  refine jT_xlconst (z := 0) (pcN := 12) jIY_200_11 rfl rfl ?_
  refine jT_lcmp (a := e1) (b := 0) (z := 0) (by rfl) (by rfl) (jwl_idd (by omega) (by omega)) (jwl_idd (by omega) (by omega)) (by rw [decide_eq_false (show ¬ ((0 : Int) < e1) by omega), decide_eq_true (show (e1 : Int) = 0 by omega)]; rfl) ?_
  refine jT_xifT (pcN := 18) jIY_200_13 rfl (by decide +kernel) rfl ?_
  refine jT_xiinc (x := 1) (z := 2) (LN := [(1, (0, 2)), (0, (4, 0))]) (pcN := 21) jIY_200_18 rfl rfl (by decide) rfl rfl ?_
  refine jT_xgoto (pcN := 2) jIY_200_21 rfl ?_
  refine jT_xiload_n (v := (0, 2)) (pcN := 3) jIY_200_2 rfl rfl rfl ?_
  refine jT_xbipush (k := 6) (pcN := 5) jIY_200_3 (by decide) rfl ?_
  refine jT_xicF (t := 24) (pcN := 8) jIY_200_5 rfl (by decide +kernel) rfl rfl ?_
  refine jT_xaload_n (v := (4, 0)) (pcN := 9) jIY_200_8 rfl rfl rfl ?_
  refine jT_xiload_n (v := (0, 2)) (pcN := 10) jIY_200_9 rfl rfl rfl ?_
  refine jT_lald (x := e2) (a := 0) (j := 2) (fs := []) (X := [e0, e1, e2, e3, e4, e5]) jIY_200_10 rfl rfl rfl rfl ?_
  refine jT_eq (LN := [(1, (0, 2)), (0, (4, 0))]) (stN := [(1, e2)]) (hsN := [(101, [], [e0, e1, e2, e3, e4, e5])]) rfl rfl rfl ?_
  refine jT_xlconst (z := 0) (pcN := 12) jIY_200_11 rfl rfl ?_
  refine jT_lcmp (a := e2) (b := 0) (z := 0) (by rfl) (by rfl) (jwl_idd (by omega) (by omega)) (jwl_idd (by omega) (by omega)) (by rw [decide_eq_false (show ¬ ((0 : Int) < e2) by omega), decide_eq_true (show (e2 : Int) = 0 by omega)]; rfl) ?_
  refine jT_xifT (pcN := 18) jIY_200_13 rfl (by decide +kernel) rfl ?_
  refine jT_xiinc (x := 2) (z := 3) (LN := [(1, (0, 3)), (0, (4, 0))]) (pcN := 21) jIY_200_18 rfl rfl (by decide) rfl rfl ?_
  refine jT_xgoto (pcN := 2) jIY_200_21 rfl ?_
  refine jT_xiload_n (v := (0, 3)) (pcN := 3) jIY_200_2 rfl rfl rfl ?_
  refine jT_xbipush (k := 6) (pcN := 5) jIY_200_3 (by decide) rfl ?_
  refine jT_xicF (t := 24) (pcN := 8) jIY_200_5 rfl (by decide +kernel) rfl rfl ?_
  refine jT_xaload_n (v := (4, 0)) (pcN := 9) jIY_200_8 rfl rfl rfl ?_
  refine jT_xiload_n (v := (0, 3)) (pcN := 10) jIY_200_9 rfl rfl rfl ?_
  refine jT_lald (x := e3) (a := 0) (j := 3) (fs := []) (X := [e0, e1, e2, e3, e4, e5]) jIY_200_10 rfl rfl rfl rfl ?_
  refine jT_eq (LN := [(1, (0, 3)), (0, (4, 0))]) (stN := [(1, e3)]) (hsN := [(101, [], [e0, e1, e2, e3, e4, e5])]) rfl rfl rfl ?_
  refine jT_xlconst (z := 0) (pcN := 12) jIY_200_11 rfl rfl ?_
  refine jT_lcmp (a := e3) (b := 0) (z := (-1)) (by rfl) (by rfl) (jwl_idd (by omega) (by omega)) (jwl_idd (by omega) (by omega)) (by rw [decide_eq_false (show ¬ ((0 : Int) < e3) by omega), decide_eq_false (show ¬ ((e3 : Int) = 0) by omega)]; rfl) ?_
  refine jT_xifF (t := 18) (pcN := 16) jIY_200_13 rfl (by decide +kernel) rfl rfl ?_
  refine jT_xiconst (k := 0) (pcN := 17) jIY_200_16 rfl ?_
  exact jT_ret rfl (by decide) (by show 1 ≤ 1; omega) (by omega) (by omega) ⟨rfl, rfl, rfl⟩
theorem jY_200_91 {xs : List Int} {d : Nat} {e0 e1 e2 e3 e4 e5 : Int} (h_e0 : (-4611686018427387903) ≤ e0 ∧ e0 ≤ 4611686018427387903) (h_e1 : (-4611686018427387903) ≤ e1 ∧ e1 ≤ 4611686018427387903) (h_e2 : (-4611686018427387903) ≤ e2 ∧ e2 ≤ 4611686018427387903) (h_e3 : (-4611686018427387903) ≤ e3 ∧ e3 ≤ 4611686018427387903) (h_e4 : (-4611686018427387903) ≤ e4 ∧ e4 ≤ 4611686018427387903) (h_e5 : (-4611686018427387903) ≤ e5 ∧ e5 ≤ 4611686018427387903) (g_0 : e0 - 1 < 0) (g_1 : 0 ≤ e0) (g_2 : e1 - 1 < 0) (g_3 : 0 ≤ e1) (g_4 : e2 - 1 < 0) (g_5 : e2 < 0) : jT xs d 200 1 0 [(0, (4, 0))] [] [(101, [], [e0, e1, e2, e3, e4, e5])] 0 0 (fun k v hsN => k = 0 ∧ v = (0, 0) ∧ hsN = [(101, [], [e0, e1, e2, e3, e4, e5])] ++ []) := by
  refine jT_xiconst (k := 0) (pcN := 1) jIY_200_0 rfl ?_
  refine jT_xistore_n (v := (0, 0)) (LN := [(1, (0, 0)), (0, (4, 0))]) (pcN := 2) jIY_200_1 rfl rfl rfl rfl ?_
  refine jT_xiload_n (v := (0, 0)) (pcN := 3) jIY_200_2 rfl rfl rfl ?_
  refine jT_xbipush (k := 6) (pcN := 5) jIY_200_3 (by decide) rfl ?_
  refine jT_xicF (t := 24) (pcN := 8) jIY_200_5 rfl (by decide +kernel) rfl rfl ?_
  refine jT_xaload_n (v := (4, 0)) (pcN := 9) jIY_200_8 rfl rfl rfl ?_
  refine jT_xiload_n (v := (0, 0)) (pcN := 10) jIY_200_9 rfl rfl rfl ?_
  refine jT_lald (x := e0) (a := 0) (j := 0) (fs := []) (X := [e0, e1, e2, e3, e4, e5]) jIY_200_10 rfl rfl rfl rfl ?_
  refine jT_eq (LN := [(1, (0, 0)), (0, (4, 0))]) (stN := [(1, e0)]) (hsN := [(101, [], [e0, e1, e2, e3, e4, e5])]) rfl rfl rfl ?_
  refine jT_xlconst (z := 0) (pcN := 12) jIY_200_11 rfl rfl ?_
  refine jT_lcmp (a := e0) (b := 0) (z := 0) (by rfl) (by rfl) (jwl_idd (by omega) (by omega)) (jwl_idd (by omega) (by omega)) (by rw [decide_eq_false (show ¬ ((0 : Int) < e0) by omega), decide_eq_true (show (e0 : Int) = 0 by omega)]; rfl) ?_
  refine jT_xifT (pcN := 18) jIY_200_13 rfl (by decide +kernel) rfl ?_
  refine jT_xiinc (x := 0) (z := 1) (LN := [(1, (0, 1)), (0, (4, 0))]) (pcN := 21) jIY_200_18 rfl rfl (by decide) rfl rfl ?_
  refine jT_xgoto (pcN := 2) jIY_200_21 rfl ?_
  refine jT_xiload_n (v := (0, 1)) (pcN := 3) jIY_200_2 rfl rfl rfl ?_
  refine jT_xbipush (k := 6) (pcN := 5) jIY_200_3 (by decide) rfl ?_
  refine jT_xicF (t := 24) (pcN := 8) jIY_200_5 rfl (by decide +kernel) rfl rfl ?_
  refine jT_xaload_n (v := (4, 0)) (pcN := 9) jIY_200_8 rfl rfl rfl ?_
  refine jT_xiload_n (v := (0, 1)) (pcN := 10) jIY_200_9 rfl rfl rfl ?_
  refine jT_lald (x := e1) (a := 0) (j := 1) (fs := []) (X := [e0, e1, e2, e3, e4, e5]) jIY_200_10 rfl rfl rfl rfl ?_
  refine jT_eq (LN := [(1, (0, 1)), (0, (4, 0))]) (stN := [(1, e1)]) (hsN := [(101, [], [e0, e1, e2, e3, e4, e5])]) rfl rfl rfl ?_
  refine jT_xlconst (z := 0) (pcN := 12) jIY_200_11 rfl rfl ?_
  refine jT_lcmp (a := e1) (b := 0) (z := 0) (by rfl) (by rfl) (jwl_idd (by omega) (by omega)) (jwl_idd (by omega) (by omega)) (by rw [decide_eq_false (show ¬ ((0 : Int) < e1) by omega), decide_eq_true (show (e1 : Int) = 0 by omega)]; rfl) ?_
  refine jT_xifT (pcN := 18) jIY_200_13 rfl (by decide +kernel) rfl ?_
  refine jT_xiinc (x := 1) (z := 2) (LN := [(1, (0, 2)), (0, (4, 0))]) (pcN := 21) jIY_200_18 rfl rfl (by decide) rfl rfl ?_
  refine jT_xgoto (pcN := 2) jIY_200_21 rfl ?_
  refine jT_xiload_n (v := (0, 2)) (pcN := 3) jIY_200_2 rfl rfl rfl ?_
  refine jT_xbipush (k := 6) (pcN := 5) jIY_200_3 (by decide) rfl ?_
  refine jT_xicF (t := 24) (pcN := 8) jIY_200_5 rfl (by decide +kernel) rfl rfl ?_
  refine jT_xaload_n (v := (4, 0)) (pcN := 9) jIY_200_8 rfl rfl rfl ?_
  refine jT_xiload_n (v := (0, 2)) (pcN := 10) jIY_200_9 rfl rfl rfl ?_
  refine jT_lald (x := e2) (a := 0) (j := 2) (fs := []) (X := [e0, e1, e2, e3, e4, e5]) jIY_200_10 rfl rfl rfl rfl ?_
  refine jT_eq (LN := [(1, (0, 2)), (0, (4, 0))]) (stN := [(1, e2)]) (hsN := [(101, [], [e0, e1, e2, e3, e4, e5])]) rfl rfl rfl ?_
  refine jT_xlconst (z := 0) (pcN := 12) jIY_200_11 rfl rfl ?_
  refine jT_lcmp (a := e2) (b := 0) (z := (-1)) (by rfl) (by rfl) (jwl_idd (by omega) (by omega)) (jwl_idd (by omega) (by omega)) (by rw [decide_eq_false (show ¬ ((0 : Int) < e2) by omega), decide_eq_false (show ¬ ((e2 : Int) = 0) by omega)]; rfl) ?_
  refine jT_xifF (t := 18) (pcN := 16) jIY_200_13 rfl (by decide +kernel) rfl rfl ?_
  refine jT_xiconst (k := 0) (pcN := 17) jIY_200_16 rfl ?_
  exact jT_ret rfl (by decide) (by show 1 ≤ 1; omega) (by omega) (by omega) ⟨rfl, rfl, rfl⟩
theorem jY_200_92 {xs : List Int} {d : Nat} {e0 e1 e2 e3 e4 e5 : Int} (h_e0 : (-4611686018427387903) ≤ e0 ∧ e0 ≤ 4611686018427387903) (h_e1 : (-4611686018427387903) ≤ e1 ∧ e1 ≤ 4611686018427387903) (h_e2 : (-4611686018427387903) ≤ e2 ∧ e2 ≤ 4611686018427387903) (h_e3 : (-4611686018427387903) ≤ e3 ∧ e3 ≤ 4611686018427387903) (h_e4 : (-4611686018427387903) ≤ e4 ∧ e4 ≤ 4611686018427387903) (h_e5 : (-4611686018427387903) ≤ e5 ∧ e5 ≤ 4611686018427387903) (g_0 : e0 - 1 < 0) (g_1 : 0 ≤ e0) (g_2 : e1 - 1 < 0) (g_3 : e1 < 0) : jT xs d 200 1 0 [(0, (4, 0))] [] [(101, [], [e0, e1, e2, e3, e4, e5])] 0 0 (fun k v hsN => k = 0 ∧ v = (0, 0) ∧ hsN = [(101, [], [e0, e1, e2, e3, e4, e5])] ++ []) := by
  refine jT_xiconst (k := 0) (pcN := 1) jIY_200_0 rfl ?_
  refine jT_xistore_n (v := (0, 0)) (LN := [(1, (0, 0)), (0, (4, 0))]) (pcN := 2) jIY_200_1 rfl rfl rfl rfl ?_
  refine jT_xiload_n (v := (0, 0)) (pcN := 3) jIY_200_2 rfl rfl rfl ?_
  refine jT_xbipush (k := 6) (pcN := 5) jIY_200_3 (by decide) rfl ?_
  refine jT_xicF (t := 24) (pcN := 8) jIY_200_5 rfl (by decide +kernel) rfl rfl ?_
  refine jT_xaload_n (v := (4, 0)) (pcN := 9) jIY_200_8 rfl rfl rfl ?_
  refine jT_xiload_n (v := (0, 0)) (pcN := 10) jIY_200_9 rfl rfl rfl ?_
  refine jT_lald (x := e0) (a := 0) (j := 0) (fs := []) (X := [e0, e1, e2, e3, e4, e5]) jIY_200_10 rfl rfl rfl rfl ?_
  refine jT_eq (LN := [(1, (0, 0)), (0, (4, 0))]) (stN := [(1, e0)]) (hsN := [(101, [], [e0, e1, e2, e3, e4, e5])]) rfl rfl rfl ?_
  refine jT_xlconst (z := 0) (pcN := 12) jIY_200_11 rfl rfl ?_
  refine jT_lcmp (a := e0) (b := 0) (z := 0) (by rfl) (by rfl) (jwl_idd (by omega) (by omega)) (jwl_idd (by omega) (by omega)) (by rw [decide_eq_false (show ¬ ((0 : Int) < e0) by omega), decide_eq_true (show (e0 : Int) = 0 by omega)]; rfl) ?_
  refine jT_xifT (pcN := 18) jIY_200_13 rfl (by decide +kernel) rfl ?_
  refine jT_xiinc (x := 0) (z := 1) (LN := [(1, (0, 1)), (0, (4, 0))]) (pcN := 21) jIY_200_18 rfl rfl (by decide) rfl rfl ?_
  refine jT_xgoto (pcN := 2) jIY_200_21 rfl ?_
  refine jT_xiload_n (v := (0, 1)) (pcN := 3) jIY_200_2 rfl rfl rfl ?_
  refine jT_xbipush (k := 6) (pcN := 5) jIY_200_3 (by decide) rfl ?_
  refine jT_xicF (t := 24) (pcN := 8) jIY_200_5 rfl (by decide +kernel) rfl rfl ?_
  refine jT_xaload_n (v := (4, 0)) (pcN := 9) jIY_200_8 rfl rfl rfl ?_
  refine jT_xiload_n (v := (0, 1)) (pcN := 10) jIY_200_9 rfl rfl rfl ?_
  refine jT_lald (x := e1) (a := 0) (j := 1) (fs := []) (X := [e0, e1, e2, e3, e4, e5]) jIY_200_10 rfl rfl rfl rfl ?_
  refine jT_eq (LN := [(1, (0, 1)), (0, (4, 0))]) (stN := [(1, e1)]) (hsN := [(101, [], [e0, e1, e2, e3, e4, e5])]) rfl rfl rfl ?_
  refine jT_xlconst (z := 0) (pcN := 12) jIY_200_11 rfl rfl ?_
  refine jT_lcmp (a := e1) (b := 0) (z := (-1)) (by rfl) (by rfl) (jwl_idd (by omega) (by omega)) (jwl_idd (by omega) (by omega)) (by rw [decide_eq_false (show ¬ ((0 : Int) < e1) by omega), decide_eq_false (show ¬ ((e1 : Int) = 0) by omega)]; rfl) ?_
  refine jT_xifF (t := 18) (pcN := 16) jIY_200_13 rfl (by decide +kernel) rfl rfl ?_
  refine jT_xiconst (k := 0) (pcN := 17) jIY_200_16 rfl ?_
  exact jT_ret rfl (by decide) (by show 1 ≤ 1; omega) (by omega) (by omega) ⟨rfl, rfl, rfl⟩
theorem jY_200_93 {xs : List Int} {d : Nat} {e0 e1 e2 e3 e4 e5 : Int} (h_e0 : (-4611686018427387903) ≤ e0 ∧ e0 ≤ 4611686018427387903) (h_e1 : (-4611686018427387903) ≤ e1 ∧ e1 ≤ 4611686018427387903) (h_e2 : (-4611686018427387903) ≤ e2 ∧ e2 ≤ 4611686018427387903) (h_e3 : (-4611686018427387903) ≤ e3 ∧ e3 ≤ 4611686018427387903) (h_e4 : (-4611686018427387903) ≤ e4 ∧ e4 ≤ 4611686018427387903) (h_e5 : (-4611686018427387903) ≤ e5 ∧ e5 ≤ 4611686018427387903) (g_0 : e0 - 1 < 0) (g_1 : e0 < 0) : jT xs d 200 1 0 [(0, (4, 0))] [] [(101, [], [e0, e1, e2, e3, e4, e5])] 0 0 (fun k v hsN => k = 0 ∧ v = (0, 0) ∧ hsN = [(101, [], [e0, e1, e2, e3, e4, e5])] ++ []) := by
  refine jT_xiconst (k := 0) (pcN := 1) jIY_200_0 rfl ?_
  refine jT_xistore_n (v := (0, 0)) (LN := [(1, (0, 0)), (0, (4, 0))]) (pcN := 2) jIY_200_1 rfl rfl rfl rfl ?_
  refine jT_xiload_n (v := (0, 0)) (pcN := 3) jIY_200_2 rfl rfl rfl ?_
  refine jT_xbipush (k := 6) (pcN := 5) jIY_200_3 (by decide) rfl ?_
  refine jT_xicF (t := 24) (pcN := 8) jIY_200_5 rfl (by decide +kernel) rfl rfl ?_
  refine jT_xaload_n (v := (4, 0)) (pcN := 9) jIY_200_8 rfl rfl rfl ?_
  refine jT_xiload_n (v := (0, 0)) (pcN := 10) jIY_200_9 rfl rfl rfl ?_
  refine jT_lald (x := e0) (a := 0) (j := 0) (fs := []) (X := [e0, e1, e2, e3, e4, e5]) jIY_200_10 rfl rfl rfl rfl ?_
  refine jT_eq (LN := [(1, (0, 0)), (0, (4, 0))]) (stN := [(1, e0)]) (hsN := [(101, [], [e0, e1, e2, e3, e4, e5])]) rfl rfl rfl ?_
  refine jT_xlconst (z := 0) (pcN := 12) jIY_200_11 rfl rfl ?_
  refine jT_lcmp (a := e0) (b := 0) (z := (-1)) (by rfl) (by rfl) (jwl_idd (by omega) (by omega)) (jwl_idd (by omega) (by omega)) (by rw [decide_eq_false (show ¬ ((0 : Int) < e0) by omega), decide_eq_false (show ¬ ((e0 : Int) = 0) by omega)]; rfl) ?_
  refine jT_xifF (t := 18) (pcN := 16) jIY_200_13 rfl (by decide +kernel) rfl rfl ?_
  refine jT_xiconst (k := 0) (pcN := 17) jIY_200_16 rfl ?_
  exact jT_ret rfl (by decide) (by show 1 ≤ 1; omega) (by omega) (by omega) ⟨rfl, rfl, rfl⟩
theorem jYl_sg_79 {xs : List Int} {d : Nat} {e0 e1 e2 e3 e4 e5 : Int} (h_e0 : -4611686018427387903 ≤ e0 ∧ e0 ≤ 4611686018427387903) (h_e1 : -4611686018427387903 ≤ e1 ∧ e1 ≤ 4611686018427387903) (h_e2 : -4611686018427387903 ≤ e2 ∧ e2 ≤ 4611686018427387903) (h_e3 : -4611686018427387903 ≤ e3 ∧ e3 ≤ 4611686018427387903) (h_e4 : -4611686018427387903 ≤ e4 ∧ e4 ≤ 4611686018427387903) (h_e5 : -4611686018427387903 ≤ e5 ∧ e5 ≤ 4611686018427387903) : jT xs (d + 3) 213 23 0 [(0, (4, 0)), (1, (4, 1))] [] [jzY_329, (101, [], [e0, e1, e2, e3, e4, e5]), jgh, jgh, jgh, jgh, jgh, (130, [], [17, 18, 19, 20, 21, 22]), jgh, jgh, jgh, jgh, jgh, jgh, jgh, jgh, jgh, (100, [], (jenc (jlg 0))), (100, [], (jenc (jlg 1))), (100, [], (jenc (jlg 2))), (100, [], (jenc (jlg 3))), (100, [], (jenc (jlg 4))), (100, [], (jenc (jlg 5)))] 19 1064 (fun k v hsN => k = 0 ∧ v = (0, (jlz e0 e1 e2 e3 e4 e5).sign) ∧ hsN = [jzY_329, (101, [], [e0, e1, e2, e3, e4, e5]), jgh, jgh, jgh, jgh, jgh, (130, [], [17, 18, 19, 20, 21, 22]), jgh, jgh, jgh, jgh, jgh, jgh, jgh, jgh, jgh, (100, [], (jenc (jlg 0))), (100, [], (jenc (jlg 1))), (100, [], (jenc (jlg 2))), (100, [], (jenc (jlg 3))), (100, [], (jenc (jlg 4))), (100, [], (jenc (jlg 5)))]) := by
  rcases (show (0 ≤ e0 - 1) ∨ (e0 - 1 < 0) by omega) with g_0 | g_0
  · refine jT_xaload_n (v := (4, 1)) (pcN := 1) jIY_213_0 rfl rfl rfl ?_
    refine jT_callA [1] (y := 200) (pcN := 4) (dC := 0) (bc1 := 0) (bc2 := 0) (c1 := 19) (c2 := 1064) (as := [(4, 1)]) (asC := [(4, 0)]) (LN := [(0, (4, 0)), (1, (4, 1))]) (stN := []) (hsC := [(101, [], [e0, e1, e2, e3, e4, e5])]) (ex := []) (v := (0, 0)) (st2 := [(0, 0)]) (hs2 := [jzY_329, (101, [], [e0, e1, e2, e3, e4, e5]), jgh, jgh, jgh, jgh, jgh, (130, [], [17, 18, 19, 20, 21, 22]), jgh, jgh, jgh, jgh, jgh, jgh, jgh, jgh, jgh, (100, [], (jenc (jlg 0))), (100, [], (jenc (jlg 1))), (100, [], (jenc (jlg 2))), (100, [], (jenc (jlg 3))), (100, [], (jenc (jlg 4))), (100, [], (jenc (jlg 5)))]) (jY_200_80 (d := 0) (by omega) (by omega) (by omega) (by omega) (by omega) (by omega) (by omega)) (by rfl) (by rfl) (by rfl) (by rfl) ⟨rfl, trivial⟩ (by rfl) (by rfl) (by omega) (by show 23 ≤ 23; omega) (by omega) (by omega) rfl rfl ?_
    refine jT_xifT (pcN := 11) jIY_213_4 rfl (by decide +kernel) rfl ?_
    refine jT_xaload_n (v := (4, 0)) (pcN := 12) jIY_213_11 rfl rfl rfl ?_
    refine jT_xaload_n (v := (4, 1)) (pcN := 13) jIY_213_12 rfl rfl rfl ?_
    refine jT_callA [0, 1, 2, 3, 4, 5, 6, 7, 8, 9, 10, 11, 12, 13, 14, 15, 16, 17, 18, 19, 20, 21, 22] (y := 214) (pcN := 16) (dC := 2) (bc1 := 19) (bc2 := 1064) (c1 := 0) (c2 := 0) (as := [(4, 0), (4, 1)]) (asC := [(4, 0), (4, 1)]) (LN := [(0, (4, 0)), (1, (4, 1))]) (stN := []) (hsC := [jzY_329, (101, [], [e0, e1, e2, e3, e4, e5]), jgh, jgh, jgh, jgh, jgh, (130, [], [17, 18, 19, 20, 21, 22]), jgh, jgh, jgh, jgh, jgh, jgh, jgh, jgh, jgh, (100, [], (jenc (jlg 0))), (100, [], (jenc (jlg 1))), (100, [], (jenc (jlg 2))), (100, [], (jenc (jlg 3))), (100, [], (jenc (jlg 4))), (100, [], (jenc (jlg 5)))]) (ex := [(100, [], (jenc (jlz e0 e1 e2 e3 e4 e5)))]) (v := (4, 23)) (st2 := [(4, 23)]) (hs2 := [jzY_329, (101, [], [e0, e1, e2, e3, e4, e5]), jgh, jgh, jgh, jgh, jgh, (130, [], [17, 18, 19, 20, 21, 22]), jgh, jgh, jgh, jgh, jgh, jgh, jgh, jgh, jgh, (100, [], (jenc (jlg 0))), (100, [], (jenc (jlg 1))), (100, [], (jenc (jlg 2))), (100, [], (jenc (jlg 3))), (100, [], (jenc (jlg 4))), (100, [], (jenc (jlg 5))), (100, [], (jenc (jlz e0 e1 e2 e3 e4 e5)))]) (jYl_lg_81 (d := 0) (e0 := e0) (e1 := e1) (e2 := e2) (e3 := e3) (e4 := e4) (e5 := e5) (by omega) (by omega) (by omega) (by omega) (by omega) (by omega)) (by rfl) (by rfl) (by rfl) (by rfl) ⟨rfl, rfl, rfl, rfl, rfl, rfl, rfl, rfl, rfl, rfl, rfl, rfl, rfl, rfl, rfl, rfl, rfl, rfl, rfl, rfl, rfl, rfl, rfl, trivial⟩ (by rfl) (by rfl) (by omega) (by show 23 ≤ 23; omega) (by omega) (by omega) rfl rfl ?_
    refine jT_xiconst (k := 0) (pcN := 17) jIY_213_16 rfl ?_
    refine jT_iald (x := (jlz e0 e1 e2 e3 e4 e5).sign) (a := 23) (j := 0) (fs := []) (X := (jenc (jlz e0 e1 e2 e3 e4 e5))) (by rfl) (by rfl) (by rfl) (by rfl) (jenc_sg rfl) ?_
    refine jT_eq (LN := [(0, (4, 0)), (1, (4, 1))]) (stN := [(0, (jlz e0 e1 e2 e3 e4 e5).sign)]) (hsN := [jzY_329, (101, [], [e0, e1, e2, e3, e4, e5]), jgh, jgh, jgh, jgh, jgh, (130, [], [17, 18, 19, 20, 21, 22]), jgh, jgh, jgh, jgh, jgh, jgh, jgh, jgh, jgh, (100, [], (jenc (jlg 0))), (100, [], (jenc (jlg 1))), (100, [], (jenc (jlg 2))), (100, [], (jenc (jlg 3))), (100, [], (jenc (jlg 4))), (100, [], (jenc (jlg 5))), (100, [], (jenc (jlz e0 e1 e2 e3 e4 e5)))]) rfl rfl rfl ?_
    refine jT_loc (LN := [(0, (4, 0))]) (by show List.Nodup [0]; decide) (by intro q hq; simp only [List.mem_cons, List.not_mem_nil, or_false] at hq; rcases hq with rfl <;> rfl) ?_
    refine jT_drop 23 (hs0 := [jzY_329, (101, [], [e0, e1, e2, e3, e4, e5]), jgh, jgh, jgh, jgh, jgh, (130, [], [17, 18, 19, 20, 21, 22]), jgh, jgh, jgh, jgh, jgh, jgh, jgh, jgh, jgh, (100, [], (jenc (jlg 0))), (100, [], (jenc (jlg 1))), (100, [], (jenc (jlg 2))), (100, [], (jenc (jlg 3))), (100, [], (jenc (jlg 4))), (100, [], (jenc (jlg 5)))]) (ex := [(100, [], (jenc (jlz e0 e1 e2 e3 e4 e5)))]) rfl rfl rfl (by decide) ?_
    exact jT_ret rfl (by decide) (by show 23 ≤ 23; decide) (by omega) (by omega) ⟨rfl, rfl, rfl⟩
  · rcases (show (0 ≤ e0) ∨ (e0 < 0) by omega) with g_1 | g_1
    · rcases (show (0 ≤ e1 - 1) ∨ (e1 - 1 < 0) by omega) with g_2 | g_2
      · refine jT_xaload_n (v := (4, 1)) (pcN := 1) jIY_213_0 rfl rfl rfl ?_
        refine jT_callA [1] (y := 200) (pcN := 4) (dC := 0) (bc1 := 0) (bc2 := 0) (c1 := 19) (c2 := 1064) (as := [(4, 1)]) (asC := [(4, 0)]) (LN := [(0, (4, 0)), (1, (4, 1))]) (stN := []) (hsC := [(101, [], [e0, e1, e2, e3, e4, e5])]) (ex := []) (v := (0, 0)) (st2 := [(0, 0)]) (hs2 := [jzY_329, (101, [], [e0, e1, e2, e3, e4, e5]), jgh, jgh, jgh, jgh, jgh, (130, [], [17, 18, 19, 20, 21, 22]), jgh, jgh, jgh, jgh, jgh, jgh, jgh, jgh, jgh, (100, [], (jenc (jlg 0))), (100, [], (jenc (jlg 1))), (100, [], (jenc (jlg 2))), (100, [], (jenc (jlg 3))), (100, [], (jenc (jlg 4))), (100, [], (jenc (jlg 5)))]) (jY_200_82 (d := 0) (by omega) (by omega) (by omega) (by omega) (by omega) (by omega) (by omega) (by omega) (by omega)) (by rfl) (by rfl) (by rfl) (by rfl) ⟨rfl, trivial⟩ (by rfl) (by rfl) (by omega) (by show 23 ≤ 23; omega) (by omega) (by omega) rfl rfl ?_
        refine jT_xifT (pcN := 11) jIY_213_4 rfl (by decide +kernel) rfl ?_
        refine jT_xaload_n (v := (4, 0)) (pcN := 12) jIY_213_11 rfl rfl rfl ?_
        refine jT_xaload_n (v := (4, 1)) (pcN := 13) jIY_213_12 rfl rfl rfl ?_
        refine jT_callA [0, 1, 2, 3, 4, 5, 6, 7, 8, 9, 10, 11, 12, 13, 14, 15, 16, 17, 18, 19, 20, 21, 22] (y := 214) (pcN := 16) (dC := 2) (bc1 := 19) (bc2 := 1064) (c1 := 0) (c2 := 0) (as := [(4, 0), (4, 1)]) (asC := [(4, 0), (4, 1)]) (LN := [(0, (4, 0)), (1, (4, 1))]) (stN := []) (hsC := [jzY_329, (101, [], [e0, e1, e2, e3, e4, e5]), jgh, jgh, jgh, jgh, jgh, (130, [], [17, 18, 19, 20, 21, 22]), jgh, jgh, jgh, jgh, jgh, jgh, jgh, jgh, jgh, (100, [], (jenc (jlg 0))), (100, [], (jenc (jlg 1))), (100, [], (jenc (jlg 2))), (100, [], (jenc (jlg 3))), (100, [], (jenc (jlg 4))), (100, [], (jenc (jlg 5)))]) (ex := [(100, [], (jenc (jlz e0 e1 e2 e3 e4 e5)))]) (v := (4, 23)) (st2 := [(4, 23)]) (hs2 := [jzY_329, (101, [], [e0, e1, e2, e3, e4, e5]), jgh, jgh, jgh, jgh, jgh, (130, [], [17, 18, 19, 20, 21, 22]), jgh, jgh, jgh, jgh, jgh, jgh, jgh, jgh, jgh, (100, [], (jenc (jlg 0))), (100, [], (jenc (jlg 1))), (100, [], (jenc (jlg 2))), (100, [], (jenc (jlg 3))), (100, [], (jenc (jlg 4))), (100, [], (jenc (jlg 5))), (100, [], (jenc (jlz e0 e1 e2 e3 e4 e5)))]) (jYl_lg_81 (d := 0) (e0 := e0) (e1 := e1) (e2 := e2) (e3 := e3) (e4 := e4) (e5 := e5) (by omega) (by omega) (by omega) (by omega) (by omega) (by omega)) (by rfl) (by rfl) (by rfl) (by rfl) ⟨rfl, rfl, rfl, rfl, rfl, rfl, rfl, rfl, rfl, rfl, rfl, rfl, rfl, rfl, rfl, rfl, rfl, rfl, rfl, rfl, rfl, rfl, rfl, trivial⟩ (by rfl) (by rfl) (by omega) (by show 23 ≤ 23; omega) (by omega) (by omega) rfl rfl ?_
        refine jT_xiconst (k := 0) (pcN := 17) jIY_213_16 rfl ?_
        refine jT_iald (x := (jlz e0 e1 e2 e3 e4 e5).sign) (a := 23) (j := 0) (fs := []) (X := (jenc (jlz e0 e1 e2 e3 e4 e5))) (by rfl) (by rfl) (by rfl) (by rfl) (jenc_sg rfl) ?_
        refine jT_eq (LN := [(0, (4, 0)), (1, (4, 1))]) (stN := [(0, (jlz e0 e1 e2 e3 e4 e5).sign)]) (hsN := [jzY_329, (101, [], [e0, e1, e2, e3, e4, e5]), jgh, jgh, jgh, jgh, jgh, (130, [], [17, 18, 19, 20, 21, 22]), jgh, jgh, jgh, jgh, jgh, jgh, jgh, jgh, jgh, (100, [], (jenc (jlg 0))), (100, [], (jenc (jlg 1))), (100, [], (jenc (jlg 2))), (100, [], (jenc (jlg 3))), (100, [], (jenc (jlg 4))), (100, [], (jenc (jlg 5))), (100, [], (jenc (jlz e0 e1 e2 e3 e4 e5)))]) rfl rfl rfl ?_
        refine jT_loc (LN := [(0, (4, 0))]) (by show List.Nodup [0]; decide) (by intro q hq; simp only [List.mem_cons, List.not_mem_nil, or_false] at hq; rcases hq with rfl <;> rfl) ?_
        refine jT_drop 23 (hs0 := [jzY_329, (101, [], [e0, e1, e2, e3, e4, e5]), jgh, jgh, jgh, jgh, jgh, (130, [], [17, 18, 19, 20, 21, 22]), jgh, jgh, jgh, jgh, jgh, jgh, jgh, jgh, jgh, (100, [], (jenc (jlg 0))), (100, [], (jenc (jlg 1))), (100, [], (jenc (jlg 2))), (100, [], (jenc (jlg 3))), (100, [], (jenc (jlg 4))), (100, [], (jenc (jlg 5)))]) (ex := [(100, [], (jenc (jlz e0 e1 e2 e3 e4 e5)))]) rfl rfl rfl (by decide) ?_
        exact jT_ret rfl (by decide) (by show 23 ≤ 23; decide) (by omega) (by omega) ⟨rfl, rfl, rfl⟩
      · rcases (show (0 ≤ e1) ∨ (e1 < 0) by omega) with g_3 | g_3
        · rcases (show (0 ≤ e2 - 1) ∨ (e2 - 1 < 0) by omega) with g_4 | g_4
          · refine jT_xaload_n (v := (4, 1)) (pcN := 1) jIY_213_0 rfl rfl rfl ?_
            refine jT_callA [1] (y := 200) (pcN := 4) (dC := 0) (bc1 := 0) (bc2 := 0) (c1 := 19) (c2 := 1064) (as := [(4, 1)]) (asC := [(4, 0)]) (LN := [(0, (4, 0)), (1, (4, 1))]) (stN := []) (hsC := [(101, [], [e0, e1, e2, e3, e4, e5])]) (ex := []) (v := (0, 0)) (st2 := [(0, 0)]) (hs2 := [jzY_329, (101, [], [e0, e1, e2, e3, e4, e5]), jgh, jgh, jgh, jgh, jgh, (130, [], [17, 18, 19, 20, 21, 22]), jgh, jgh, jgh, jgh, jgh, jgh, jgh, jgh, jgh, (100, [], (jenc (jlg 0))), (100, [], (jenc (jlg 1))), (100, [], (jenc (jlg 2))), (100, [], (jenc (jlg 3))), (100, [], (jenc (jlg 4))), (100, [], (jenc (jlg 5)))]) (jY_200_83 (d := 0) (by omega) (by omega) (by omega) (by omega) (by omega) (by omega) (by omega) (by omega) (by omega) (by omega) (by omega)) (by rfl) (by rfl) (by rfl) (by rfl) ⟨rfl, trivial⟩ (by rfl) (by rfl) (by omega) (by show 23 ≤ 23; omega) (by omega) (by omega) rfl rfl ?_
            refine jT_xifT (pcN := 11) jIY_213_4 rfl (by decide +kernel) rfl ?_
            refine jT_xaload_n (v := (4, 0)) (pcN := 12) jIY_213_11 rfl rfl rfl ?_
            refine jT_xaload_n (v := (4, 1)) (pcN := 13) jIY_213_12 rfl rfl rfl ?_
            refine jT_callA [0, 1, 2, 3, 4, 5, 6, 7, 8, 9, 10, 11, 12, 13, 14, 15, 16, 17, 18, 19, 20, 21, 22] (y := 214) (pcN := 16) (dC := 2) (bc1 := 19) (bc2 := 1064) (c1 := 0) (c2 := 0) (as := [(4, 0), (4, 1)]) (asC := [(4, 0), (4, 1)]) (LN := [(0, (4, 0)), (1, (4, 1))]) (stN := []) (hsC := [jzY_329, (101, [], [e0, e1, e2, e3, e4, e5]), jgh, jgh, jgh, jgh, jgh, (130, [], [17, 18, 19, 20, 21, 22]), jgh, jgh, jgh, jgh, jgh, jgh, jgh, jgh, jgh, (100, [], (jenc (jlg 0))), (100, [], (jenc (jlg 1))), (100, [], (jenc (jlg 2))), (100, [], (jenc (jlg 3))), (100, [], (jenc (jlg 4))), (100, [], (jenc (jlg 5)))]) (ex := [(100, [], (jenc (jlz e0 e1 e2 e3 e4 e5)))]) (v := (4, 23)) (st2 := [(4, 23)]) (hs2 := [jzY_329, (101, [], [e0, e1, e2, e3, e4, e5]), jgh, jgh, jgh, jgh, jgh, (130, [], [17, 18, 19, 20, 21, 22]), jgh, jgh, jgh, jgh, jgh, jgh, jgh, jgh, jgh, (100, [], (jenc (jlg 0))), (100, [], (jenc (jlg 1))), (100, [], (jenc (jlg 2))), (100, [], (jenc (jlg 3))), (100, [], (jenc (jlg 4))), (100, [], (jenc (jlg 5))), (100, [], (jenc (jlz e0 e1 e2 e3 e4 e5)))]) (jYl_lg_81 (d := 0) (e0 := e0) (e1 := e1) (e2 := e2) (e3 := e3) (e4 := e4) (e5 := e5) (by omega) (by omega) (by omega) (by omega) (by omega) (by omega)) (by rfl) (by rfl) (by rfl) (by rfl) ⟨rfl, rfl, rfl, rfl, rfl, rfl, rfl, rfl, rfl, rfl, rfl, rfl, rfl, rfl, rfl, rfl, rfl, rfl, rfl, rfl, rfl, rfl, rfl, trivial⟩ (by rfl) (by rfl) (by omega) (by show 23 ≤ 23; omega) (by omega) (by omega) rfl rfl ?_
            refine jT_xiconst (k := 0) (pcN := 17) jIY_213_16 rfl ?_
            refine jT_iald (x := (jlz e0 e1 e2 e3 e4 e5).sign) (a := 23) (j := 0) (fs := []) (X := (jenc (jlz e0 e1 e2 e3 e4 e5))) (by rfl) (by rfl) (by rfl) (by rfl) (jenc_sg rfl) ?_
            refine jT_eq (LN := [(0, (4, 0)), (1, (4, 1))]) (stN := [(0, (jlz e0 e1 e2 e3 e4 e5).sign)]) (hsN := [jzY_329, (101, [], [e0, e1, e2, e3, e4, e5]), jgh, jgh, jgh, jgh, jgh, (130, [], [17, 18, 19, 20, 21, 22]), jgh, jgh, jgh, jgh, jgh, jgh, jgh, jgh, jgh, (100, [], (jenc (jlg 0))), (100, [], (jenc (jlg 1))), (100, [], (jenc (jlg 2))), (100, [], (jenc (jlg 3))), (100, [], (jenc (jlg 4))), (100, [], (jenc (jlg 5))), (100, [], (jenc (jlz e0 e1 e2 e3 e4 e5)))]) rfl rfl rfl ?_
            refine jT_loc (LN := [(0, (4, 0))]) (by show List.Nodup [0]; decide) (by intro q hq; simp only [List.mem_cons, List.not_mem_nil, or_false] at hq; rcases hq with rfl <;> rfl) ?_
            refine jT_drop 23 (hs0 := [jzY_329, (101, [], [e0, e1, e2, e3, e4, e5]), jgh, jgh, jgh, jgh, jgh, (130, [], [17, 18, 19, 20, 21, 22]), jgh, jgh, jgh, jgh, jgh, jgh, jgh, jgh, jgh, (100, [], (jenc (jlg 0))), (100, [], (jenc (jlg 1))), (100, [], (jenc (jlg 2))), (100, [], (jenc (jlg 3))), (100, [], (jenc (jlg 4))), (100, [], (jenc (jlg 5)))]) (ex := [(100, [], (jenc (jlz e0 e1 e2 e3 e4 e5)))]) rfl rfl rfl (by decide) ?_
            exact jT_ret rfl (by decide) (by show 23 ≤ 23; decide) (by omega) (by omega) ⟨rfl, rfl, rfl⟩
          · rcases (show (0 ≤ e2) ∨ (e2 < 0) by omega) with g_5 | g_5
            · rcases (show (0 ≤ e3 - 1) ∨ (e3 - 1 < 0) by omega) with g_6 | g_6
              · refine jT_xaload_n (v := (4, 1)) (pcN := 1) jIY_213_0 rfl rfl rfl ?_
                refine jT_callA [1] (y := 200) (pcN := 4) (dC := 0) (bc1 := 0) (bc2 := 0) (c1 := 19) (c2 := 1064) (as := [(4, 1)]) (asC := [(4, 0)]) (LN := [(0, (4, 0)), (1, (4, 1))]) (stN := []) (hsC := [(101, [], [e0, e1, e2, e3, e4, e5])]) (ex := []) (v := (0, 0)) (st2 := [(0, 0)]) (hs2 := [jzY_329, (101, [], [e0, e1, e2, e3, e4, e5]), jgh, jgh, jgh, jgh, jgh, (130, [], [17, 18, 19, 20, 21, 22]), jgh, jgh, jgh, jgh, jgh, jgh, jgh, jgh, jgh, (100, [], (jenc (jlg 0))), (100, [], (jenc (jlg 1))), (100, [], (jenc (jlg 2))), (100, [], (jenc (jlg 3))), (100, [], (jenc (jlg 4))), (100, [], (jenc (jlg 5)))]) (jY_200_84 (d := 0) (by omega) (by omega) (by omega) (by omega) (by omega) (by omega) (by omega) (by omega) (by omega) (by omega) (by omega) (by omega) (by omega)) (by rfl) (by rfl) (by rfl) (by rfl) ⟨rfl, trivial⟩ (by rfl) (by rfl) (by omega) (by show 23 ≤ 23; omega) (by omega) (by omega) rfl rfl ?_
                refine jT_xifT (pcN := 11) jIY_213_4 rfl (by decide +kernel) rfl ?_
                refine jT_xaload_n (v := (4, 0)) (pcN := 12) jIY_213_11 rfl rfl rfl ?_
                refine jT_xaload_n (v := (4, 1)) (pcN := 13) jIY_213_12 rfl rfl rfl ?_
                refine jT_callA [0, 1, 2, 3, 4, 5, 6, 7, 8, 9, 10, 11, 12, 13, 14, 15, 16, 17, 18, 19, 20, 21, 22] (y := 214) (pcN := 16) (dC := 2) (bc1 := 19) (bc2 := 1064) (c1 := 0) (c2 := 0) (as := [(4, 0), (4, 1)]) (asC := [(4, 0), (4, 1)]) (LN := [(0, (4, 0)), (1, (4, 1))]) (stN := []) (hsC := [jzY_329, (101, [], [e0, e1, e2, e3, e4, e5]), jgh, jgh, jgh, jgh, jgh, (130, [], [17, 18, 19, 20, 21, 22]), jgh, jgh, jgh, jgh, jgh, jgh, jgh, jgh, jgh, (100, [], (jenc (jlg 0))), (100, [], (jenc (jlg 1))), (100, [], (jenc (jlg 2))), (100, [], (jenc (jlg 3))), (100, [], (jenc (jlg 4))), (100, [], (jenc (jlg 5)))]) (ex := [(100, [], (jenc (jlz e0 e1 e2 e3 e4 e5)))]) (v := (4, 23)) (st2 := [(4, 23)]) (hs2 := [jzY_329, (101, [], [e0, e1, e2, e3, e4, e5]), jgh, jgh, jgh, jgh, jgh, (130, [], [17, 18, 19, 20, 21, 22]), jgh, jgh, jgh, jgh, jgh, jgh, jgh, jgh, jgh, (100, [], (jenc (jlg 0))), (100, [], (jenc (jlg 1))), (100, [], (jenc (jlg 2))), (100, [], (jenc (jlg 3))), (100, [], (jenc (jlg 4))), (100, [], (jenc (jlg 5))), (100, [], (jenc (jlz e0 e1 e2 e3 e4 e5)))]) (jYl_lg_81 (d := 0) (e0 := e0) (e1 := e1) (e2 := e2) (e3 := e3) (e4 := e4) (e5 := e5) (by omega) (by omega) (by omega) (by omega) (by omega) (by omega)) (by rfl) (by rfl) (by rfl) (by rfl) ⟨rfl, rfl, rfl, rfl, rfl, rfl, rfl, rfl, rfl, rfl, rfl, rfl, rfl, rfl, rfl, rfl, rfl, rfl, rfl, rfl, rfl, rfl, rfl, trivial⟩ (by rfl) (by rfl) (by omega) (by show 23 ≤ 23; omega) (by omega) (by omega) rfl rfl ?_
                refine jT_xiconst (k := 0) (pcN := 17) jIY_213_16 rfl ?_
                refine jT_iald (x := (jlz e0 e1 e2 e3 e4 e5).sign) (a := 23) (j := 0) (fs := []) (X := (jenc (jlz e0 e1 e2 e3 e4 e5))) (by rfl) (by rfl) (by rfl) (by rfl) (jenc_sg rfl) ?_
                refine jT_eq (LN := [(0, (4, 0)), (1, (4, 1))]) (stN := [(0, (jlz e0 e1 e2 e3 e4 e5).sign)]) (hsN := [jzY_329, (101, [], [e0, e1, e2, e3, e4, e5]), jgh, jgh, jgh, jgh, jgh, (130, [], [17, 18, 19, 20, 21, 22]), jgh, jgh, jgh, jgh, jgh, jgh, jgh, jgh, jgh, (100, [], (jenc (jlg 0))), (100, [], (jenc (jlg 1))), (100, [], (jenc (jlg 2))), (100, [], (jenc (jlg 3))), (100, [], (jenc (jlg 4))), (100, [], (jenc (jlg 5))), (100, [], (jenc (jlz e0 e1 e2 e3 e4 e5)))]) rfl rfl rfl ?_
                refine jT_loc (LN := [(0, (4, 0))]) (by show List.Nodup [0]; decide) (by intro q hq; simp only [List.mem_cons, List.not_mem_nil, or_false] at hq; rcases hq with rfl <;> rfl) ?_
                refine jT_drop 23 (hs0 := [jzY_329, (101, [], [e0, e1, e2, e3, e4, e5]), jgh, jgh, jgh, jgh, jgh, (130, [], [17, 18, 19, 20, 21, 22]), jgh, jgh, jgh, jgh, jgh, jgh, jgh, jgh, jgh, (100, [], (jenc (jlg 0))), (100, [], (jenc (jlg 1))), (100, [], (jenc (jlg 2))), (100, [], (jenc (jlg 3))), (100, [], (jenc (jlg 4))), (100, [], (jenc (jlg 5)))]) (ex := [(100, [], (jenc (jlz e0 e1 e2 e3 e4 e5)))]) rfl rfl rfl (by decide) ?_
                exact jT_ret rfl (by decide) (by show 23 ≤ 23; decide) (by omega) (by omega) ⟨rfl, rfl, rfl⟩
              · rcases (show (0 ≤ e3) ∨ (e3 < 0) by omega) with g_7 | g_7
                · rcases (show (0 ≤ e4 - 1) ∨ (e4 - 1 < 0) by omega) with g_8 | g_8
                  · refine jT_xaload_n (v := (4, 1)) (pcN := 1) jIY_213_0 rfl rfl rfl ?_
                    refine jT_callA [1] (y := 200) (pcN := 4) (dC := 0) (bc1 := 0) (bc2 := 0) (c1 := 19) (c2 := 1064) (as := [(4, 1)]) (asC := [(4, 0)]) (LN := [(0, (4, 0)), (1, (4, 1))]) (stN := []) (hsC := [(101, [], [e0, e1, e2, e3, e4, e5])]) (ex := []) (v := (0, 0)) (st2 := [(0, 0)]) (hs2 := [jzY_329, (101, [], [e0, e1, e2, e3, e4, e5]), jgh, jgh, jgh, jgh, jgh, (130, [], [17, 18, 19, 20, 21, 22]), jgh, jgh, jgh, jgh, jgh, jgh, jgh, jgh, jgh, (100, [], (jenc (jlg 0))), (100, [], (jenc (jlg 1))), (100, [], (jenc (jlg 2))), (100, [], (jenc (jlg 3))), (100, [], (jenc (jlg 4))), (100, [], (jenc (jlg 5)))]) (jY_200_85 (d := 0) (by omega) (by omega) (by omega) (by omega) (by omega) (by omega) (by omega) (by omega) (by omega) (by omega) (by omega) (by omega) (by omega) (by omega) (by omega)) (by rfl) (by rfl) (by rfl) (by rfl) ⟨rfl, trivial⟩ (by rfl) (by rfl) (by omega) (by show 23 ≤ 23; omega) (by omega) (by omega) rfl rfl ?_
                    refine jT_xifT (pcN := 11) jIY_213_4 rfl (by decide +kernel) rfl ?_
                    refine jT_xaload_n (v := (4, 0)) (pcN := 12) jIY_213_11 rfl rfl rfl ?_
                    refine jT_xaload_n (v := (4, 1)) (pcN := 13) jIY_213_12 rfl rfl rfl ?_
                    refine jT_callA [0, 1, 2, 3, 4, 5, 6, 7, 8, 9, 10, 11, 12, 13, 14, 15, 16, 17, 18, 19, 20, 21, 22] (y := 214) (pcN := 16) (dC := 2) (bc1 := 19) (bc2 := 1064) (c1 := 0) (c2 := 0) (as := [(4, 0), (4, 1)]) (asC := [(4, 0), (4, 1)]) (LN := [(0, (4, 0)), (1, (4, 1))]) (stN := []) (hsC := [jzY_329, (101, [], [e0, e1, e2, e3, e4, e5]), jgh, jgh, jgh, jgh, jgh, (130, [], [17, 18, 19, 20, 21, 22]), jgh, jgh, jgh, jgh, jgh, jgh, jgh, jgh, jgh, (100, [], (jenc (jlg 0))), (100, [], (jenc (jlg 1))), (100, [], (jenc (jlg 2))), (100, [], (jenc (jlg 3))), (100, [], (jenc (jlg 4))), (100, [], (jenc (jlg 5)))]) (ex := [(100, [], (jenc (jlz e0 e1 e2 e3 e4 e5)))]) (v := (4, 23)) (st2 := [(4, 23)]) (hs2 := [jzY_329, (101, [], [e0, e1, e2, e3, e4, e5]), jgh, jgh, jgh, jgh, jgh, (130, [], [17, 18, 19, 20, 21, 22]), jgh, jgh, jgh, jgh, jgh, jgh, jgh, jgh, jgh, (100, [], (jenc (jlg 0))), (100, [], (jenc (jlg 1))), (100, [], (jenc (jlg 2))), (100, [], (jenc (jlg 3))), (100, [], (jenc (jlg 4))), (100, [], (jenc (jlg 5))), (100, [], (jenc (jlz e0 e1 e2 e3 e4 e5)))]) (jYl_lg_81 (d := 0) (e0 := e0) (e1 := e1) (e2 := e2) (e3 := e3) (e4 := e4) (e5 := e5) (by omega) (by omega) (by omega) (by omega) (by omega) (by omega)) (by rfl) (by rfl) (by rfl) (by rfl) ⟨rfl, rfl, rfl, rfl, rfl, rfl, rfl, rfl, rfl, rfl, rfl, rfl, rfl, rfl, rfl, rfl, rfl, rfl, rfl, rfl, rfl, rfl, rfl, trivial⟩ (by rfl) (by rfl) (by omega) (by show 23 ≤ 23; omega) (by omega) (by omega) rfl rfl ?_
                    refine jT_xiconst (k := 0) (pcN := 17) jIY_213_16 rfl ?_
                    refine jT_iald (x := (jlz e0 e1 e2 e3 e4 e5).sign) (a := 23) (j := 0) (fs := []) (X := (jenc (jlz e0 e1 e2 e3 e4 e5))) (by rfl) (by rfl) (by rfl) (by rfl) (jenc_sg rfl) ?_
                    refine jT_eq (LN := [(0, (4, 0)), (1, (4, 1))]) (stN := [(0, (jlz e0 e1 e2 e3 e4 e5).sign)]) (hsN := [jzY_329, (101, [], [e0, e1, e2, e3, e4, e5]), jgh, jgh, jgh, jgh, jgh, (130, [], [17, 18, 19, 20, 21, 22]), jgh, jgh, jgh, jgh, jgh, jgh, jgh, jgh, jgh, (100, [], (jenc (jlg 0))), (100, [], (jenc (jlg 1))), (100, [], (jenc (jlg 2))), (100, [], (jenc (jlg 3))), (100, [], (jenc (jlg 4))), (100, [], (jenc (jlg 5))), (100, [], (jenc (jlz e0 e1 e2 e3 e4 e5)))]) rfl rfl rfl ?_
                    refine jT_loc (LN := [(0, (4, 0))]) (by show List.Nodup [0]; decide) (by intro q hq; simp only [List.mem_cons, List.not_mem_nil, or_false] at hq; rcases hq with rfl <;> rfl) ?_
                    refine jT_drop 23 (hs0 := [jzY_329, (101, [], [e0, e1, e2, e3, e4, e5]), jgh, jgh, jgh, jgh, jgh, (130, [], [17, 18, 19, 20, 21, 22]), jgh, jgh, jgh, jgh, jgh, jgh, jgh, jgh, jgh, (100, [], (jenc (jlg 0))), (100, [], (jenc (jlg 1))), (100, [], (jenc (jlg 2))), (100, [], (jenc (jlg 3))), (100, [], (jenc (jlg 4))), (100, [], (jenc (jlg 5)))]) (ex := [(100, [], (jenc (jlz e0 e1 e2 e3 e4 e5)))]) rfl rfl rfl (by decide) ?_
                    exact jT_ret rfl (by decide) (by show 23 ≤ 23; decide) (by omega) (by omega) ⟨rfl, rfl, rfl⟩
                  · rcases (show (0 ≤ e4) ∨ (e4 < 0) by omega) with g_9 | g_9
                    · rcases (show (0 ≤ e5 - 1) ∨ (e5 - 1 < 0) by omega) with g_10 | g_10
                      · refine jT_xaload_n (v := (4, 1)) (pcN := 1) jIY_213_0 rfl rfl rfl ?_
                        refine jT_callA [1] (y := 200) (pcN := 4) (dC := 0) (bc1 := 0) (bc2 := 0) (c1 := 19) (c2 := 1064) (as := [(4, 1)]) (asC := [(4, 0)]) (LN := [(0, (4, 0)), (1, (4, 1))]) (stN := []) (hsC := [(101, [], [e0, e1, e2, e3, e4, e5])]) (ex := []) (v := (0, 0)) (st2 := [(0, 0)]) (hs2 := [jzY_329, (101, [], [e0, e1, e2, e3, e4, e5]), jgh, jgh, jgh, jgh, jgh, (130, [], [17, 18, 19, 20, 21, 22]), jgh, jgh, jgh, jgh, jgh, jgh, jgh, jgh, jgh, (100, [], (jenc (jlg 0))), (100, [], (jenc (jlg 1))), (100, [], (jenc (jlg 2))), (100, [], (jenc (jlg 3))), (100, [], (jenc (jlg 4))), (100, [], (jenc (jlg 5)))]) (jY_200_86 (d := 0) (by omega) (by omega) (by omega) (by omega) (by omega) (by omega) (by omega) (by omega) (by omega) (by omega) (by omega) (by omega) (by omega) (by omega) (by omega) (by omega) (by omega)) (by rfl) (by rfl) (by rfl) (by rfl) ⟨rfl, trivial⟩ (by rfl) (by rfl) (by omega) (by show 23 ≤ 23; omega) (by omega) (by omega) rfl rfl ?_
                        refine jT_xifT (pcN := 11) jIY_213_4 rfl (by decide +kernel) rfl ?_
                        refine jT_xaload_n (v := (4, 0)) (pcN := 12) jIY_213_11 rfl rfl rfl ?_
                        refine jT_xaload_n (v := (4, 1)) (pcN := 13) jIY_213_12 rfl rfl rfl ?_
                        refine jT_callA [0, 1, 2, 3, 4, 5, 6, 7, 8, 9, 10, 11, 12, 13, 14, 15, 16, 17, 18, 19, 20, 21, 22] (y := 214) (pcN := 16) (dC := 2) (bc1 := 19) (bc2 := 1064) (c1 := 0) (c2 := 0) (as := [(4, 0), (4, 1)]) (asC := [(4, 0), (4, 1)]) (LN := [(0, (4, 0)), (1, (4, 1))]) (stN := []) (hsC := [jzY_329, (101, [], [e0, e1, e2, e3, e4, e5]), jgh, jgh, jgh, jgh, jgh, (130, [], [17, 18, 19, 20, 21, 22]), jgh, jgh, jgh, jgh, jgh, jgh, jgh, jgh, jgh, (100, [], (jenc (jlg 0))), (100, [], (jenc (jlg 1))), (100, [], (jenc (jlg 2))), (100, [], (jenc (jlg 3))), (100, [], (jenc (jlg 4))), (100, [], (jenc (jlg 5)))]) (ex := [(100, [], (jenc (jlz e0 e1 e2 e3 e4 e5)))]) (v := (4, 23)) (st2 := [(4, 23)]) (hs2 := [jzY_329, (101, [], [e0, e1, e2, e3, e4, e5]), jgh, jgh, jgh, jgh, jgh, (130, [], [17, 18, 19, 20, 21, 22]), jgh, jgh, jgh, jgh, jgh, jgh, jgh, jgh, jgh, (100, [], (jenc (jlg 0))), (100, [], (jenc (jlg 1))), (100, [], (jenc (jlg 2))), (100, [], (jenc (jlg 3))), (100, [], (jenc (jlg 4))), (100, [], (jenc (jlg 5))), (100, [], (jenc (jlz e0 e1 e2 e3 e4 e5)))]) (jYl_lg_81 (d := 0) (e0 := e0) (e1 := e1) (e2 := e2) (e3 := e3) (e4 := e4) (e5 := e5) (by omega) (by omega) (by omega) (by omega) (by omega) (by omega)) (by rfl) (by rfl) (by rfl) (by rfl) ⟨rfl, rfl, rfl, rfl, rfl, rfl, rfl, rfl, rfl, rfl, rfl, rfl, rfl, rfl, rfl, rfl, rfl, rfl, rfl, rfl, rfl, rfl, rfl, trivial⟩ (by rfl) (by rfl) (by omega) (by show 23 ≤ 23; omega) (by omega) (by omega) rfl rfl ?_
                        refine jT_xiconst (k := 0) (pcN := 17) jIY_213_16 rfl ?_
                        refine jT_iald (x := (jlz e0 e1 e2 e3 e4 e5).sign) (a := 23) (j := 0) (fs := []) (X := (jenc (jlz e0 e1 e2 e3 e4 e5))) (by rfl) (by rfl) (by rfl) (by rfl) (jenc_sg rfl) ?_
                        refine jT_eq (LN := [(0, (4, 0)), (1, (4, 1))]) (stN := [(0, (jlz e0 e1 e2 e3 e4 e5).sign)]) (hsN := [jzY_329, (101, [], [e0, e1, e2, e3, e4, e5]), jgh, jgh, jgh, jgh, jgh, (130, [], [17, 18, 19, 20, 21, 22]), jgh, jgh, jgh, jgh, jgh, jgh, jgh, jgh, jgh, (100, [], (jenc (jlg 0))), (100, [], (jenc (jlg 1))), (100, [], (jenc (jlg 2))), (100, [], (jenc (jlg 3))), (100, [], (jenc (jlg 4))), (100, [], (jenc (jlg 5))), (100, [], (jenc (jlz e0 e1 e2 e3 e4 e5)))]) rfl rfl rfl ?_
                        refine jT_loc (LN := [(0, (4, 0))]) (by show List.Nodup [0]; decide) (by intro q hq; simp only [List.mem_cons, List.not_mem_nil, or_false] at hq; rcases hq with rfl <;> rfl) ?_
                        refine jT_drop 23 (hs0 := [jzY_329, (101, [], [e0, e1, e2, e3, e4, e5]), jgh, jgh, jgh, jgh, jgh, (130, [], [17, 18, 19, 20, 21, 22]), jgh, jgh, jgh, jgh, jgh, jgh, jgh, jgh, jgh, (100, [], (jenc (jlg 0))), (100, [], (jenc (jlg 1))), (100, [], (jenc (jlg 2))), (100, [], (jenc (jlg 3))), (100, [], (jenc (jlg 4))), (100, [], (jenc (jlg 5)))]) (ex := [(100, [], (jenc (jlz e0 e1 e2 e3 e4 e5)))]) rfl rfl rfl (by decide) ?_
                        exact jT_ret rfl (by decide) (by show 23 ≤ 23; decide) (by omega) (by omega) ⟨rfl, rfl, rfl⟩
                      · rcases (show (0 ≤ e5) ∨ (e5 < 0) by omega) with g_11 | g_11
                        · refine jT_xaload_n (v := (4, 1)) (pcN := 1) jIY_213_0 rfl rfl rfl ?_
                          refine jT_callA [1] (y := 200) (pcN := 4) (dC := 0) (bc1 := 0) (bc2 := 0) (c1 := 19) (c2 := 1064) (as := [(4, 1)]) (asC := [(4, 0)]) (LN := [(0, (4, 0)), (1, (4, 1))]) (stN := []) (hsC := [(101, [], [e0, e1, e2, e3, e4, e5])]) (ex := []) (v := (0, 1)) (st2 := [(0, 1)]) (hs2 := [jzY_329, (101, [], [e0, e1, e2, e3, e4, e5]), jgh, jgh, jgh, jgh, jgh, (130, [], [17, 18, 19, 20, 21, 22]), jgh, jgh, jgh, jgh, jgh, jgh, jgh, jgh, jgh, (100, [], (jenc (jlg 0))), (100, [], (jenc (jlg 1))), (100, [], (jenc (jlg 2))), (100, [], (jenc (jlg 3))), (100, [], (jenc (jlg 4))), (100, [], (jenc (jlg 5)))]) (jY_200_87 (d := 0) (by omega) (by omega) (by omega) (by omega) (by omega) (by omega) (by omega) (by omega) (by omega) (by omega) (by omega) (by omega) (by omega) (by omega) (by omega) (by omega) (by omega) (by omega)) (by rfl) (by rfl) (by rfl) (by rfl) ⟨rfl, trivial⟩ (by rfl) (by rfl) (by omega) (by show 23 ≤ 23; omega) (by omega) (by omega) rfl rfl ?_
                          refine jT_xifF (t := 11) (pcN := 7) jIY_213_4 rfl (by decide +kernel) rfl rfl ?_
                          refine jT_xiconst (k := 0) (pcN := 8) jIY_213_7 rfl ?_
                          refine jT_xgoto (pcN := 18) jIY_213_8 rfl ?_
                          refine jT_loc (LN := [(0, (4, 0))]) (by show List.Nodup [0]; decide) (by intro q hq; simp only [List.mem_cons, List.not_mem_nil, or_false] at hq; rcases hq with rfl <;> rfl) ?_
                          refine jT_eq (LN := [(0, (4, 0))]) (stN := [(0, (jlz e0 e1 e2 e3 e4 e5).sign)]) (hsN := [jzY_329, (101, [], [e0, e1, e2, e3, e4, e5]), jgh, jgh, jgh, jgh, jgh, (130, [], [17, 18, 19, 20, 21, 22]), jgh, jgh, jgh, jgh, jgh, jgh, jgh, jgh, jgh, (100, [], (jenc (jlg 0))), (100, [], (jenc (jlg 1))), (100, [], (jenc (jlg 2))), (100, [], (jenc (jlg 3))), (100, [], (jenc (jlg 4))), (100, [], (jenc (jlg 5)))]) rfl (by rw [jlz_z (by omega) (by omega) (by omega) (by omega) (by omega) (by omega)]; rfl) rfl ?_
                          exact jT_ret rfl (by decide) (by show 23 ≤ 23; decide) (by omega) (by omega) ⟨rfl, rfl, rfl⟩
                        · refine jT_xaload_n (v := (4, 1)) (pcN := 1) jIY_213_0 rfl rfl rfl ?_
                          refine jT_callA [1] (y := 200) (pcN := 4) (dC := 0) (bc1 := 0) (bc2 := 0) (c1 := 19) (c2 := 1064) (as := [(4, 1)]) (asC := [(4, 0)]) (LN := [(0, (4, 0)), (1, (4, 1))]) (stN := []) (hsC := [(101, [], [e0, e1, e2, e3, e4, e5])]) (ex := []) (v := (0, 0)) (st2 := [(0, 0)]) (hs2 := [jzY_329, (101, [], [e0, e1, e2, e3, e4, e5]), jgh, jgh, jgh, jgh, jgh, (130, [], [17, 18, 19, 20, 21, 22]), jgh, jgh, jgh, jgh, jgh, jgh, jgh, jgh, jgh, (100, [], (jenc (jlg 0))), (100, [], (jenc (jlg 1))), (100, [], (jenc (jlg 2))), (100, [], (jenc (jlg 3))), (100, [], (jenc (jlg 4))), (100, [], (jenc (jlg 5)))]) (jY_200_88 (d := 0) (by omega) (by omega) (by omega) (by omega) (by omega) (by omega) (by omega) (by omega) (by omega) (by omega) (by omega) (by omega) (by omega) (by omega) (by omega) (by omega) (by omega) (by omega)) (by rfl) (by rfl) (by rfl) (by rfl) ⟨rfl, trivial⟩ (by rfl) (by rfl) (by omega) (by show 23 ≤ 23; omega) (by omega) (by omega) rfl rfl ?_
                          refine jT_xifT (pcN := 11) jIY_213_4 rfl (by decide +kernel) rfl ?_
                          refine jT_xaload_n (v := (4, 0)) (pcN := 12) jIY_213_11 rfl rfl rfl ?_
                          refine jT_xaload_n (v := (4, 1)) (pcN := 13) jIY_213_12 rfl rfl rfl ?_
                          refine jT_callA [0, 1, 2, 3, 4, 5, 6, 7, 8, 9, 10, 11, 12, 13, 14, 15, 16, 17, 18, 19, 20, 21, 22] (y := 214) (pcN := 16) (dC := 2) (bc1 := 19) (bc2 := 1064) (c1 := 0) (c2 := 0) (as := [(4, 0), (4, 1)]) (asC := [(4, 0), (4, 1)]) (LN := [(0, (4, 0)), (1, (4, 1))]) (stN := []) (hsC := [jzY_329, (101, [], [e0, e1, e2, e3, e4, e5]), jgh, jgh, jgh, jgh, jgh, (130, [], [17, 18, 19, 20, 21, 22]), jgh, jgh, jgh, jgh, jgh, jgh, jgh, jgh, jgh, (100, [], (jenc (jlg 0))), (100, [], (jenc (jlg 1))), (100, [], (jenc (jlg 2))), (100, [], (jenc (jlg 3))), (100, [], (jenc (jlg 4))), (100, [], (jenc (jlg 5)))]) (ex := [(100, [], (jenc (jlz e0 e1 e2 e3 e4 e5)))]) (v := (4, 23)) (st2 := [(4, 23)]) (hs2 := [jzY_329, (101, [], [e0, e1, e2, e3, e4, e5]), jgh, jgh, jgh, jgh, jgh, (130, [], [17, 18, 19, 20, 21, 22]), jgh, jgh, jgh, jgh, jgh, jgh, jgh, jgh, jgh, (100, [], (jenc (jlg 0))), (100, [], (jenc (jlg 1))), (100, [], (jenc (jlg 2))), (100, [], (jenc (jlg 3))), (100, [], (jenc (jlg 4))), (100, [], (jenc (jlg 5))), (100, [], (jenc (jlz e0 e1 e2 e3 e4 e5)))]) (jYl_lg_81 (d := 0) (e0 := e0) (e1 := e1) (e2 := e2) (e3 := e3) (e4 := e4) (e5 := e5) (by omega) (by omega) (by omega) (by omega) (by omega) (by omega)) (by rfl) (by rfl) (by rfl) (by rfl) ⟨rfl, rfl, rfl, rfl, rfl, rfl, rfl, rfl, rfl, rfl, rfl, rfl, rfl, rfl, rfl, rfl, rfl, rfl, rfl, rfl, rfl, rfl, rfl, trivial⟩ (by rfl) (by rfl) (by omega) (by show 23 ≤ 23; omega) (by omega) (by omega) rfl rfl ?_
                          refine jT_xiconst (k := 0) (pcN := 17) jIY_213_16 rfl ?_
                          refine jT_iald (x := (jlz e0 e1 e2 e3 e4 e5).sign) (a := 23) (j := 0) (fs := []) (X := (jenc (jlz e0 e1 e2 e3 e4 e5))) (by rfl) (by rfl) (by rfl) (by rfl) (jenc_sg rfl) ?_
                          refine jT_eq (LN := [(0, (4, 0)), (1, (4, 1))]) (stN := [(0, (jlz e0 e1 e2 e3 e4 e5).sign)]) (hsN := [jzY_329, (101, [], [e0, e1, e2, e3, e4, e5]), jgh, jgh, jgh, jgh, jgh, (130, [], [17, 18, 19, 20, 21, 22]), jgh, jgh, jgh, jgh, jgh, jgh, jgh, jgh, jgh, (100, [], (jenc (jlg 0))), (100, [], (jenc (jlg 1))), (100, [], (jenc (jlg 2))), (100, [], (jenc (jlg 3))), (100, [], (jenc (jlg 4))), (100, [], (jenc (jlg 5))), (100, [], (jenc (jlz e0 e1 e2 e3 e4 e5)))]) rfl rfl rfl ?_
                          refine jT_loc (LN := [(0, (4, 0))]) (by show List.Nodup [0]; decide) (by intro q hq; simp only [List.mem_cons, List.not_mem_nil, or_false] at hq; rcases hq with rfl <;> rfl) ?_
                          refine jT_drop 23 (hs0 := [jzY_329, (101, [], [e0, e1, e2, e3, e4, e5]), jgh, jgh, jgh, jgh, jgh, (130, [], [17, 18, 19, 20, 21, 22]), jgh, jgh, jgh, jgh, jgh, jgh, jgh, jgh, jgh, (100, [], (jenc (jlg 0))), (100, [], (jenc (jlg 1))), (100, [], (jenc (jlg 2))), (100, [], (jenc (jlg 3))), (100, [], (jenc (jlg 4))), (100, [], (jenc (jlg 5)))]) (ex := [(100, [], (jenc (jlz e0 e1 e2 e3 e4 e5)))]) rfl rfl rfl (by decide) ?_
                          exact jT_ret rfl (by decide) (by show 23 ≤ 23; decide) (by omega) (by omega) ⟨rfl, rfl, rfl⟩
                    · refine jT_xaload_n (v := (4, 1)) (pcN := 1) jIY_213_0 rfl rfl rfl ?_
                      refine jT_callA [1] (y := 200) (pcN := 4) (dC := 0) (bc1 := 0) (bc2 := 0) (c1 := 19) (c2 := 1064) (as := [(4, 1)]) (asC := [(4, 0)]) (LN := [(0, (4, 0)), (1, (4, 1))]) (stN := []) (hsC := [(101, [], [e0, e1, e2, e3, e4, e5])]) (ex := []) (v := (0, 0)) (st2 := [(0, 0)]) (hs2 := [jzY_329, (101, [], [e0, e1, e2, e3, e4, e5]), jgh, jgh, jgh, jgh, jgh, (130, [], [17, 18, 19, 20, 21, 22]), jgh, jgh, jgh, jgh, jgh, jgh, jgh, jgh, jgh, (100, [], (jenc (jlg 0))), (100, [], (jenc (jlg 1))), (100, [], (jenc (jlg 2))), (100, [], (jenc (jlg 3))), (100, [], (jenc (jlg 4))), (100, [], (jenc (jlg 5)))]) (jY_200_89 (d := 0) (by omega) (by omega) (by omega) (by omega) (by omega) (by omega) (by omega) (by omega) (by omega) (by omega) (by omega) (by omega) (by omega) (by omega) (by omega) (by omega)) (by rfl) (by rfl) (by rfl) (by rfl) ⟨rfl, trivial⟩ (by rfl) (by rfl) (by omega) (by show 23 ≤ 23; omega) (by omega) (by omega) rfl rfl ?_
                      refine jT_xifT (pcN := 11) jIY_213_4 rfl (by decide +kernel) rfl ?_
                      refine jT_xaload_n (v := (4, 0)) (pcN := 12) jIY_213_11 rfl rfl rfl ?_
                      refine jT_xaload_n (v := (4, 1)) (pcN := 13) jIY_213_12 rfl rfl rfl ?_
                      refine jT_callA [0, 1, 2, 3, 4, 5, 6, 7, 8, 9, 10, 11, 12, 13, 14, 15, 16, 17, 18, 19, 20, 21, 22] (y := 214) (pcN := 16) (dC := 2) (bc1 := 19) (bc2 := 1064) (c1 := 0) (c2 := 0) (as := [(4, 0), (4, 1)]) (asC := [(4, 0), (4, 1)]) (LN := [(0, (4, 0)), (1, (4, 1))]) (stN := []) (hsC := [jzY_329, (101, [], [e0, e1, e2, e3, e4, e5]), jgh, jgh, jgh, jgh, jgh, (130, [], [17, 18, 19, 20, 21, 22]), jgh, jgh, jgh, jgh, jgh, jgh, jgh, jgh, jgh, (100, [], (jenc (jlg 0))), (100, [], (jenc (jlg 1))), (100, [], (jenc (jlg 2))), (100, [], (jenc (jlg 3))), (100, [], (jenc (jlg 4))), (100, [], (jenc (jlg 5)))]) (ex := [(100, [], (jenc (jlz e0 e1 e2 e3 e4 e5)))]) (v := (4, 23)) (st2 := [(4, 23)]) (hs2 := [jzY_329, (101, [], [e0, e1, e2, e3, e4, e5]), jgh, jgh, jgh, jgh, jgh, (130, [], [17, 18, 19, 20, 21, 22]), jgh, jgh, jgh, jgh, jgh, jgh, jgh, jgh, jgh, (100, [], (jenc (jlg 0))), (100, [], (jenc (jlg 1))), (100, [], (jenc (jlg 2))), (100, [], (jenc (jlg 3))), (100, [], (jenc (jlg 4))), (100, [], (jenc (jlg 5))), (100, [], (jenc (jlz e0 e1 e2 e3 e4 e5)))]) (jYl_lg_81 (d := 0) (e0 := e0) (e1 := e1) (e2 := e2) (e3 := e3) (e4 := e4) (e5 := e5) (by omega) (by omega) (by omega) (by omega) (by omega) (by omega)) (by rfl) (by rfl) (by rfl) (by rfl) ⟨rfl, rfl, rfl, rfl, rfl, rfl, rfl, rfl, rfl, rfl, rfl, rfl, rfl, rfl, rfl, rfl, rfl, rfl, rfl, rfl, rfl, rfl, rfl, trivial⟩ (by rfl) (by rfl) (by omega) (by show 23 ≤ 23; omega) (by omega) (by omega) rfl rfl ?_
                      refine jT_xiconst (k := 0) (pcN := 17) jIY_213_16 rfl ?_
                      refine jT_iald (x := (jlz e0 e1 e2 e3 e4 e5).sign) (a := 23) (j := 0) (fs := []) (X := (jenc (jlz e0 e1 e2 e3 e4 e5))) (by rfl) (by rfl) (by rfl) (by rfl) (jenc_sg rfl) ?_
                      refine jT_eq (LN := [(0, (4, 0)), (1, (4, 1))]) (stN := [(0, (jlz e0 e1 e2 e3 e4 e5).sign)]) (hsN := [jzY_329, (101, [], [e0, e1, e2, e3, e4, e5]), jgh, jgh, jgh, jgh, jgh, (130, [], [17, 18, 19, 20, 21, 22]), jgh, jgh, jgh, jgh, jgh, jgh, jgh, jgh, jgh, (100, [], (jenc (jlg 0))), (100, [], (jenc (jlg 1))), (100, [], (jenc (jlg 2))), (100, [], (jenc (jlg 3))), (100, [], (jenc (jlg 4))), (100, [], (jenc (jlg 5))), (100, [], (jenc (jlz e0 e1 e2 e3 e4 e5)))]) rfl rfl rfl ?_
                      refine jT_loc (LN := [(0, (4, 0))]) (by show List.Nodup [0]; decide) (by intro q hq; simp only [List.mem_cons, List.not_mem_nil, or_false] at hq; rcases hq with rfl <;> rfl) ?_
                      refine jT_drop 23 (hs0 := [jzY_329, (101, [], [e0, e1, e2, e3, e4, e5]), jgh, jgh, jgh, jgh, jgh, (130, [], [17, 18, 19, 20, 21, 22]), jgh, jgh, jgh, jgh, jgh, jgh, jgh, jgh, jgh, (100, [], (jenc (jlg 0))), (100, [], (jenc (jlg 1))), (100, [], (jenc (jlg 2))), (100, [], (jenc (jlg 3))), (100, [], (jenc (jlg 4))), (100, [], (jenc (jlg 5)))]) (ex := [(100, [], (jenc (jlz e0 e1 e2 e3 e4 e5)))]) rfl rfl rfl (by decide) ?_
                      exact jT_ret rfl (by decide) (by show 23 ≤ 23; decide) (by omega) (by omega) ⟨rfl, rfl, rfl⟩
                · refine jT_xaload_n (v := (4, 1)) (pcN := 1) jIY_213_0 rfl rfl rfl ?_
                  refine jT_callA [1] (y := 200) (pcN := 4) (dC := 0) (bc1 := 0) (bc2 := 0) (c1 := 19) (c2 := 1064) (as := [(4, 1)]) (asC := [(4, 0)]) (LN := [(0, (4, 0)), (1, (4, 1))]) (stN := []) (hsC := [(101, [], [e0, e1, e2, e3, e4, e5])]) (ex := []) (v := (0, 0)) (st2 := [(0, 0)]) (hs2 := [jzY_329, (101, [], [e0, e1, e2, e3, e4, e5]), jgh, jgh, jgh, jgh, jgh, (130, [], [17, 18, 19, 20, 21, 22]), jgh, jgh, jgh, jgh, jgh, jgh, jgh, jgh, jgh, (100, [], (jenc (jlg 0))), (100, [], (jenc (jlg 1))), (100, [], (jenc (jlg 2))), (100, [], (jenc (jlg 3))), (100, [], (jenc (jlg 4))), (100, [], (jenc (jlg 5)))]) (jY_200_90 (d := 0) (by omega) (by omega) (by omega) (by omega) (by omega) (by omega) (by omega) (by omega) (by omega) (by omega) (by omega) (by omega) (by omega) (by omega)) (by rfl) (by rfl) (by rfl) (by rfl) ⟨rfl, trivial⟩ (by rfl) (by rfl) (by omega) (by show 23 ≤ 23; omega) (by omega) (by omega) rfl rfl ?_
                  refine jT_xifT (pcN := 11) jIY_213_4 rfl (by decide +kernel) rfl ?_
                  refine jT_xaload_n (v := (4, 0)) (pcN := 12) jIY_213_11 rfl rfl rfl ?_
                  refine jT_xaload_n (v := (4, 1)) (pcN := 13) jIY_213_12 rfl rfl rfl ?_
                  refine jT_callA [0, 1, 2, 3, 4, 5, 6, 7, 8, 9, 10, 11, 12, 13, 14, 15, 16, 17, 18, 19, 20, 21, 22] (y := 214) (pcN := 16) (dC := 2) (bc1 := 19) (bc2 := 1064) (c1 := 0) (c2 := 0) (as := [(4, 0), (4, 1)]) (asC := [(4, 0), (4, 1)]) (LN := [(0, (4, 0)), (1, (4, 1))]) (stN := []) (hsC := [jzY_329, (101, [], [e0, e1, e2, e3, e4, e5]), jgh, jgh, jgh, jgh, jgh, (130, [], [17, 18, 19, 20, 21, 22]), jgh, jgh, jgh, jgh, jgh, jgh, jgh, jgh, jgh, (100, [], (jenc (jlg 0))), (100, [], (jenc (jlg 1))), (100, [], (jenc (jlg 2))), (100, [], (jenc (jlg 3))), (100, [], (jenc (jlg 4))), (100, [], (jenc (jlg 5)))]) (ex := [(100, [], (jenc (jlz e0 e1 e2 e3 e4 e5)))]) (v := (4, 23)) (st2 := [(4, 23)]) (hs2 := [jzY_329, (101, [], [e0, e1, e2, e3, e4, e5]), jgh, jgh, jgh, jgh, jgh, (130, [], [17, 18, 19, 20, 21, 22]), jgh, jgh, jgh, jgh, jgh, jgh, jgh, jgh, jgh, (100, [], (jenc (jlg 0))), (100, [], (jenc (jlg 1))), (100, [], (jenc (jlg 2))), (100, [], (jenc (jlg 3))), (100, [], (jenc (jlg 4))), (100, [], (jenc (jlg 5))), (100, [], (jenc (jlz e0 e1 e2 e3 e4 e5)))]) (jYl_lg_81 (d := 0) (e0 := e0) (e1 := e1) (e2 := e2) (e3 := e3) (e4 := e4) (e5 := e5) (by omega) (by omega) (by omega) (by omega) (by omega) (by omega)) (by rfl) (by rfl) (by rfl) (by rfl) ⟨rfl, rfl, rfl, rfl, rfl, rfl, rfl, rfl, rfl, rfl, rfl, rfl, rfl, rfl, rfl, rfl, rfl, rfl, rfl, rfl, rfl, rfl, rfl, trivial⟩ (by rfl) (by rfl) (by omega) (by show 23 ≤ 23; omega) (by omega) (by omega) rfl rfl ?_
                  refine jT_xiconst (k := 0) (pcN := 17) jIY_213_16 rfl ?_
                  refine jT_iald (x := (jlz e0 e1 e2 e3 e4 e5).sign) (a := 23) (j := 0) (fs := []) (X := (jenc (jlz e0 e1 e2 e3 e4 e5))) (by rfl) (by rfl) (by rfl) (by rfl) (jenc_sg rfl) ?_
                  refine jT_eq (LN := [(0, (4, 0)), (1, (4, 1))]) (stN := [(0, (jlz e0 e1 e2 e3 e4 e5).sign)]) (hsN := [jzY_329, (101, [], [e0, e1, e2, e3, e4, e5]), jgh, jgh, jgh, jgh, jgh, (130, [], [17, 18, 19, 20, 21, 22]), jgh, jgh, jgh, jgh, jgh, jgh, jgh, jgh, jgh, (100, [], (jenc (jlg 0))), (100, [], (jenc (jlg 1))), (100, [], (jenc (jlg 2))), (100, [], (jenc (jlg 3))), (100, [], (jenc (jlg 4))), (100, [], (jenc (jlg 5))), (100, [], (jenc (jlz e0 e1 e2 e3 e4 e5)))]) rfl rfl rfl ?_
                  refine jT_loc (LN := [(0, (4, 0))]) (by show List.Nodup [0]; decide) (by intro q hq; simp only [List.mem_cons, List.not_mem_nil, or_false] at hq; rcases hq with rfl <;> rfl) ?_
                  refine jT_drop 23 (hs0 := [jzY_329, (101, [], [e0, e1, e2, e3, e4, e5]), jgh, jgh, jgh, jgh, jgh, (130, [], [17, 18, 19, 20, 21, 22]), jgh, jgh, jgh, jgh, jgh, jgh, jgh, jgh, jgh, (100, [], (jenc (jlg 0))), (100, [], (jenc (jlg 1))), (100, [], (jenc (jlg 2))), (100, [], (jenc (jlg 3))), (100, [], (jenc (jlg 4))), (100, [], (jenc (jlg 5)))]) (ex := [(100, [], (jenc (jlz e0 e1 e2 e3 e4 e5)))]) rfl rfl rfl (by decide) ?_
                  exact jT_ret rfl (by decide) (by show 23 ≤ 23; decide) (by omega) (by omega) ⟨rfl, rfl, rfl⟩
            · refine jT_xaload_n (v := (4, 1)) (pcN := 1) jIY_213_0 rfl rfl rfl ?_
              refine jT_callA [1] (y := 200) (pcN := 4) (dC := 0) (bc1 := 0) (bc2 := 0) (c1 := 19) (c2 := 1064) (as := [(4, 1)]) (asC := [(4, 0)]) (LN := [(0, (4, 0)), (1, (4, 1))]) (stN := []) (hsC := [(101, [], [e0, e1, e2, e3, e4, e5])]) (ex := []) (v := (0, 0)) (st2 := [(0, 0)]) (hs2 := [jzY_329, (101, [], [e0, e1, e2, e3, e4, e5]), jgh, jgh, jgh, jgh, jgh, (130, [], [17, 18, 19, 20, 21, 22]), jgh, jgh, jgh, jgh, jgh, jgh, jgh, jgh, jgh, (100, [], (jenc (jlg 0))), (100, [], (jenc (jlg 1))), (100, [], (jenc (jlg 2))), (100, [], (jenc (jlg 3))), (100, [], (jenc (jlg 4))), (100, [], (jenc (jlg 5)))]) (jY_200_91 (d := 0) (by omega) (by omega) (by omega) (by omega) (by omega) (by omega) (by omega) (by omega) (by omega) (by omega) (by omega) (by omega)) (by rfl) (by rfl) (by rfl) (by rfl) ⟨rfl, trivial⟩ (by rfl) (by rfl) (by omega) (by show 23 ≤ 23; omega) (by omega) (by omega) rfl rfl ?_
              refine jT_xifT (pcN := 11) jIY_213_4 rfl (by decide +kernel) rfl ?_
              refine jT_xaload_n (v := (4, 0)) (pcN := 12) jIY_213_11 rfl rfl rfl ?_
              refine jT_xaload_n (v := (4, 1)) (pcN := 13) jIY_213_12 rfl rfl rfl ?_
              refine jT_callA [0, 1, 2, 3, 4, 5, 6, 7, 8, 9, 10, 11, 12, 13, 14, 15, 16, 17, 18, 19, 20, 21, 22] (y := 214) (pcN := 16) (dC := 2) (bc1 := 19) (bc2 := 1064) (c1 := 0) (c2 := 0) (as := [(4, 0), (4, 1)]) (asC := [(4, 0), (4, 1)]) (LN := [(0, (4, 0)), (1, (4, 1))]) (stN := []) (hsC := [jzY_329, (101, [], [e0, e1, e2, e3, e4, e5]), jgh, jgh, jgh, jgh, jgh, (130, [], [17, 18, 19, 20, 21, 22]), jgh, jgh, jgh, jgh, jgh, jgh, jgh, jgh, jgh, (100, [], (jenc (jlg 0))), (100, [], (jenc (jlg 1))), (100, [], (jenc (jlg 2))), (100, [], (jenc (jlg 3))), (100, [], (jenc (jlg 4))), (100, [], (jenc (jlg 5)))]) (ex := [(100, [], (jenc (jlz e0 e1 e2 e3 e4 e5)))]) (v := (4, 23)) (st2 := [(4, 23)]) (hs2 := [jzY_329, (101, [], [e0, e1, e2, e3, e4, e5]), jgh, jgh, jgh, jgh, jgh, (130, [], [17, 18, 19, 20, 21, 22]), jgh, jgh, jgh, jgh, jgh, jgh, jgh, jgh, jgh, (100, [], (jenc (jlg 0))), (100, [], (jenc (jlg 1))), (100, [], (jenc (jlg 2))), (100, [], (jenc (jlg 3))), (100, [], (jenc (jlg 4))), (100, [], (jenc (jlg 5))), (100, [], (jenc (jlz e0 e1 e2 e3 e4 e5)))]) (jYl_lg_81 (d := 0) (e0 := e0) (e1 := e1) (e2 := e2) (e3 := e3) (e4 := e4) (e5 := e5) (by omega) (by omega) (by omega) (by omega) (by omega) (by omega)) (by rfl) (by rfl) (by rfl) (by rfl) ⟨rfl, rfl, rfl, rfl, rfl, rfl, rfl, rfl, rfl, rfl, rfl, rfl, rfl, rfl, rfl, rfl, rfl, rfl, rfl, rfl, rfl, rfl, rfl, trivial⟩ (by rfl) (by rfl) (by omega) (by show 23 ≤ 23; omega) (by omega) (by omega) rfl rfl ?_
              refine jT_xiconst (k := 0) (pcN := 17) jIY_213_16 rfl ?_
              refine jT_iald (x := (jlz e0 e1 e2 e3 e4 e5).sign) (a := 23) (j := 0) (fs := []) (X := (jenc (jlz e0 e1 e2 e3 e4 e5))) (by rfl) (by rfl) (by rfl) (by rfl) (jenc_sg rfl) ?_
              refine jT_eq (LN := [(0, (4, 0)), (1, (4, 1))]) (stN := [(0, (jlz e0 e1 e2 e3 e4 e5).sign)]) (hsN := [jzY_329, (101, [], [e0, e1, e2, e3, e4, e5]), jgh, jgh, jgh, jgh, jgh, (130, [], [17, 18, 19, 20, 21, 22]), jgh, jgh, jgh, jgh, jgh, jgh, jgh, jgh, jgh, (100, [], (jenc (jlg 0))), (100, [], (jenc (jlg 1))), (100, [], (jenc (jlg 2))), (100, [], (jenc (jlg 3))), (100, [], (jenc (jlg 4))), (100, [], (jenc (jlg 5))), (100, [], (jenc (jlz e0 e1 e2 e3 e4 e5)))]) rfl rfl rfl ?_
              refine jT_loc (LN := [(0, (4, 0))]) (by show List.Nodup [0]; decide) (by intro q hq; simp only [List.mem_cons, List.not_mem_nil, or_false] at hq; rcases hq with rfl <;> rfl) ?_
              refine jT_drop 23 (hs0 := [jzY_329, (101, [], [e0, e1, e2, e3, e4, e5]), jgh, jgh, jgh, jgh, jgh, (130, [], [17, 18, 19, 20, 21, 22]), jgh, jgh, jgh, jgh, jgh, jgh, jgh, jgh, jgh, (100, [], (jenc (jlg 0))), (100, [], (jenc (jlg 1))), (100, [], (jenc (jlg 2))), (100, [], (jenc (jlg 3))), (100, [], (jenc (jlg 4))), (100, [], (jenc (jlg 5)))]) (ex := [(100, [], (jenc (jlz e0 e1 e2 e3 e4 e5)))]) rfl rfl rfl (by decide) ?_
              exact jT_ret rfl (by decide) (by show 23 ≤ 23; decide) (by omega) (by omega) ⟨rfl, rfl, rfl⟩
        · refine jT_xaload_n (v := (4, 1)) (pcN := 1) jIY_213_0 rfl rfl rfl ?_
          refine jT_callA [1] (y := 200) (pcN := 4) (dC := 0) (bc1 := 0) (bc2 := 0) (c1 := 19) (c2 := 1064) (as := [(4, 1)]) (asC := [(4, 0)]) (LN := [(0, (4, 0)), (1, (4, 1))]) (stN := []) (hsC := [(101, [], [e0, e1, e2, e3, e4, e5])]) (ex := []) (v := (0, 0)) (st2 := [(0, 0)]) (hs2 := [jzY_329, (101, [], [e0, e1, e2, e3, e4, e5]), jgh, jgh, jgh, jgh, jgh, (130, [], [17, 18, 19, 20, 21, 22]), jgh, jgh, jgh, jgh, jgh, jgh, jgh, jgh, jgh, (100, [], (jenc (jlg 0))), (100, [], (jenc (jlg 1))), (100, [], (jenc (jlg 2))), (100, [], (jenc (jlg 3))), (100, [], (jenc (jlg 4))), (100, [], (jenc (jlg 5)))]) (jY_200_92 (d := 0) (by omega) (by omega) (by omega) (by omega) (by omega) (by omega) (by omega) (by omega) (by omega) (by omega)) (by rfl) (by rfl) (by rfl) (by rfl) ⟨rfl, trivial⟩ (by rfl) (by rfl) (by omega) (by show 23 ≤ 23; omega) (by omega) (by omega) rfl rfl ?_
          refine jT_xifT (pcN := 11) jIY_213_4 rfl (by decide +kernel) rfl ?_
          refine jT_xaload_n (v := (4, 0)) (pcN := 12) jIY_213_11 rfl rfl rfl ?_
          refine jT_xaload_n (v := (4, 1)) (pcN := 13) jIY_213_12 rfl rfl rfl ?_
          refine jT_callA [0, 1, 2, 3, 4, 5, 6, 7, 8, 9, 10, 11, 12, 13, 14, 15, 16, 17, 18, 19, 20, 21, 22] (y := 214) (pcN := 16) (dC := 2) (bc1 := 19) (bc2 := 1064) (c1 := 0) (c2 := 0) (as := [(4, 0), (4, 1)]) (asC := [(4, 0), (4, 1)]) (LN := [(0, (4, 0)), (1, (4, 1))]) (stN := []) (hsC := [jzY_329, (101, [], [e0, e1, e2, e3, e4, e5]), jgh, jgh, jgh, jgh, jgh, (130, [], [17, 18, 19, 20, 21, 22]), jgh, jgh, jgh, jgh, jgh, jgh, jgh, jgh, jgh, (100, [], (jenc (jlg 0))), (100, [], (jenc (jlg 1))), (100, [], (jenc (jlg 2))), (100, [], (jenc (jlg 3))), (100, [], (jenc (jlg 4))), (100, [], (jenc (jlg 5)))]) (ex := [(100, [], (jenc (jlz e0 e1 e2 e3 e4 e5)))]) (v := (4, 23)) (st2 := [(4, 23)]) (hs2 := [jzY_329, (101, [], [e0, e1, e2, e3, e4, e5]), jgh, jgh, jgh, jgh, jgh, (130, [], [17, 18, 19, 20, 21, 22]), jgh, jgh, jgh, jgh, jgh, jgh, jgh, jgh, jgh, (100, [], (jenc (jlg 0))), (100, [], (jenc (jlg 1))), (100, [], (jenc (jlg 2))), (100, [], (jenc (jlg 3))), (100, [], (jenc (jlg 4))), (100, [], (jenc (jlg 5))), (100, [], (jenc (jlz e0 e1 e2 e3 e4 e5)))]) (jYl_lg_81 (d := 0) (e0 := e0) (e1 := e1) (e2 := e2) (e3 := e3) (e4 := e4) (e5 := e5) (by omega) (by omega) (by omega) (by omega) (by omega) (by omega)) (by rfl) (by rfl) (by rfl) (by rfl) ⟨rfl, rfl, rfl, rfl, rfl, rfl, rfl, rfl, rfl, rfl, rfl, rfl, rfl, rfl, rfl, rfl, rfl, rfl, rfl, rfl, rfl, rfl, rfl, trivial⟩ (by rfl) (by rfl) (by omega) (by show 23 ≤ 23; omega) (by omega) (by omega) rfl rfl ?_
          refine jT_xiconst (k := 0) (pcN := 17) jIY_213_16 rfl ?_
          refine jT_iald (x := (jlz e0 e1 e2 e3 e4 e5).sign) (a := 23) (j := 0) (fs := []) (X := (jenc (jlz e0 e1 e2 e3 e4 e5))) (by rfl) (by rfl) (by rfl) (by rfl) (jenc_sg rfl) ?_
          refine jT_eq (LN := [(0, (4, 0)), (1, (4, 1))]) (stN := [(0, (jlz e0 e1 e2 e3 e4 e5).sign)]) (hsN := [jzY_329, (101, [], [e0, e1, e2, e3, e4, e5]), jgh, jgh, jgh, jgh, jgh, (130, [], [17, 18, 19, 20, 21, 22]), jgh, jgh, jgh, jgh, jgh, jgh, jgh, jgh, jgh, (100, [], (jenc (jlg 0))), (100, [], (jenc (jlg 1))), (100, [], (jenc (jlg 2))), (100, [], (jenc (jlg 3))), (100, [], (jenc (jlg 4))), (100, [], (jenc (jlg 5))), (100, [], (jenc (jlz e0 e1 e2 e3 e4 e5)))]) rfl rfl rfl ?_
          refine jT_loc (LN := [(0, (4, 0))]) (by show List.Nodup [0]; decide) (by intro q hq; simp only [List.mem_cons, List.not_mem_nil, or_false] at hq; rcases hq with rfl <;> rfl) ?_
          refine jT_drop 23 (hs0 := [jzY_329, (101, [], [e0, e1, e2, e3, e4, e5]), jgh, jgh, jgh, jgh, jgh, (130, [], [17, 18, 19, 20, 21, 22]), jgh, jgh, jgh, jgh, jgh, jgh, jgh, jgh, jgh, (100, [], (jenc (jlg 0))), (100, [], (jenc (jlg 1))), (100, [], (jenc (jlg 2))), (100, [], (jenc (jlg 3))), (100, [], (jenc (jlg 4))), (100, [], (jenc (jlg 5)))]) (ex := [(100, [], (jenc (jlz e0 e1 e2 e3 e4 e5)))]) rfl rfl rfl (by decide) ?_
          exact jT_ret rfl (by decide) (by show 23 ≤ 23; decide) (by omega) (by omega) ⟨rfl, rfl, rfl⟩
    · refine jT_xaload_n (v := (4, 1)) (pcN := 1) jIY_213_0 rfl rfl rfl ?_
      refine jT_callA [1] (y := 200) (pcN := 4) (dC := 0) (bc1 := 0) (bc2 := 0) (c1 := 19) (c2 := 1064) (as := [(4, 1)]) (asC := [(4, 0)]) (LN := [(0, (4, 0)), (1, (4, 1))]) (stN := []) (hsC := [(101, [], [e0, e1, e2, e3, e4, e5])]) (ex := []) (v := (0, 0)) (st2 := [(0, 0)]) (hs2 := [jzY_329, (101, [], [e0, e1, e2, e3, e4, e5]), jgh, jgh, jgh, jgh, jgh, (130, [], [17, 18, 19, 20, 21, 22]), jgh, jgh, jgh, jgh, jgh, jgh, jgh, jgh, jgh, (100, [], (jenc (jlg 0))), (100, [], (jenc (jlg 1))), (100, [], (jenc (jlg 2))), (100, [], (jenc (jlg 3))), (100, [], (jenc (jlg 4))), (100, [], (jenc (jlg 5)))]) (jY_200_93 (d := 0) (by omega) (by omega) (by omega) (by omega) (by omega) (by omega) (by omega) (by omega)) (by rfl) (by rfl) (by rfl) (by rfl) ⟨rfl, trivial⟩ (by rfl) (by rfl) (by omega) (by show 23 ≤ 23; omega) (by omega) (by omega) rfl rfl ?_
      refine jT_xifT (pcN := 11) jIY_213_4 rfl (by decide +kernel) rfl ?_
      refine jT_xaload_n (v := (4, 0)) (pcN := 12) jIY_213_11 rfl rfl rfl ?_
      refine jT_xaload_n (v := (4, 1)) (pcN := 13) jIY_213_12 rfl rfl rfl ?_
      refine jT_callA [0, 1, 2, 3, 4, 5, 6, 7, 8, 9, 10, 11, 12, 13, 14, 15, 16, 17, 18, 19, 20, 21, 22] (y := 214) (pcN := 16) (dC := 2) (bc1 := 19) (bc2 := 1064) (c1 := 0) (c2 := 0) (as := [(4, 0), (4, 1)]) (asC := [(4, 0), (4, 1)]) (LN := [(0, (4, 0)), (1, (4, 1))]) (stN := []) (hsC := [jzY_329, (101, [], [e0, e1, e2, e3, e4, e5]), jgh, jgh, jgh, jgh, jgh, (130, [], [17, 18, 19, 20, 21, 22]), jgh, jgh, jgh, jgh, jgh, jgh, jgh, jgh, jgh, (100, [], (jenc (jlg 0))), (100, [], (jenc (jlg 1))), (100, [], (jenc (jlg 2))), (100, [], (jenc (jlg 3))), (100, [], (jenc (jlg 4))), (100, [], (jenc (jlg 5)))]) (ex := [(100, [], (jenc (jlz e0 e1 e2 e3 e4 e5)))]) (v := (4, 23)) (st2 := [(4, 23)]) (hs2 := [jzY_329, (101, [], [e0, e1, e2, e3, e4, e5]), jgh, jgh, jgh, jgh, jgh, (130, [], [17, 18, 19, 20, 21, 22]), jgh, jgh, jgh, jgh, jgh, jgh, jgh, jgh, jgh, (100, [], (jenc (jlg 0))), (100, [], (jenc (jlg 1))), (100, [], (jenc (jlg 2))), (100, [], (jenc (jlg 3))), (100, [], (jenc (jlg 4))), (100, [], (jenc (jlg 5))), (100, [], (jenc (jlz e0 e1 e2 e3 e4 e5)))]) (jYl_lg_81 (d := 0) (e0 := e0) (e1 := e1) (e2 := e2) (e3 := e3) (e4 := e4) (e5 := e5) (by omega) (by omega) (by omega) (by omega) (by omega) (by omega)) (by rfl) (by rfl) (by rfl) (by rfl) ⟨rfl, rfl, rfl, rfl, rfl, rfl, rfl, rfl, rfl, rfl, rfl, rfl, rfl, rfl, rfl, rfl, rfl, rfl, rfl, rfl, rfl, rfl, rfl, trivial⟩ (by rfl) (by rfl) (by omega) (by show 23 ≤ 23; omega) (by omega) (by omega) rfl rfl ?_
      refine jT_xiconst (k := 0) (pcN := 17) jIY_213_16 rfl ?_
      refine jT_iald (x := (jlz e0 e1 e2 e3 e4 e5).sign) (a := 23) (j := 0) (fs := []) (X := (jenc (jlz e0 e1 e2 e3 e4 e5))) (by rfl) (by rfl) (by rfl) (by rfl) (jenc_sg rfl) ?_
      refine jT_eq (LN := [(0, (4, 0)), (1, (4, 1))]) (stN := [(0, (jlz e0 e1 e2 e3 e4 e5).sign)]) (hsN := [jzY_329, (101, [], [e0, e1, e2, e3, e4, e5]), jgh, jgh, jgh, jgh, jgh, (130, [], [17, 18, 19, 20, 21, 22]), jgh, jgh, jgh, jgh, jgh, jgh, jgh, jgh, jgh, (100, [], (jenc (jlg 0))), (100, [], (jenc (jlg 1))), (100, [], (jenc (jlg 2))), (100, [], (jenc (jlg 3))), (100, [], (jenc (jlg 4))), (100, [], (jenc (jlg 5))), (100, [], (jenc (jlz e0 e1 e2 e3 e4 e5)))]) rfl rfl rfl ?_
      refine jT_loc (LN := [(0, (4, 0))]) (by show List.Nodup [0]; decide) (by intro q hq; simp only [List.mem_cons, List.not_mem_nil, or_false] at hq; rcases hq with rfl <;> rfl) ?_
      refine jT_drop 23 (hs0 := [jzY_329, (101, [], [e0, e1, e2, e3, e4, e5]), jgh, jgh, jgh, jgh, jgh, (130, [], [17, 18, 19, 20, 21, 22]), jgh, jgh, jgh, jgh, jgh, jgh, jgh, jgh, jgh, (100, [], (jenc (jlg 0))), (100, [], (jenc (jlg 1))), (100, [], (jenc (jlg 2))), (100, [], (jenc (jlg 3))), (100, [], (jenc (jlg 4))), (100, [], (jenc (jlg 5)))]) (ex := [(100, [], (jenc (jlz e0 e1 e2 e3 e4 e5)))]) rfl rfl rfl (by decide) ?_
      exact jT_ret rfl (by decide) (by show 23 ≤ 23; decide) (by omega) (by omega) ⟨rfl, rfl, rfl⟩
theorem jIY_312_130 : jmI (jm 312) 130 = (.ifCond .gt 7, 3) := by rfl
theorem jIY_312_133 : jmI (jm 312) 133 = (.iconst 1, 1) := by rfl
theorem jIY_312_134 : jmI (jm 312) 134 = (.goto 4, 3) := by rfl
theorem jYl_sh_66_E1 {xs : List Int} {d : Nat} {p1 r0 r1 r2 r3 r4 r5 u : Int} (h_p1 : 1 ≤ p1 ∧ p1 ≤ 1000000000) (h_r0 : (-30) ≤ r0 ∧ r0 ≤ 30) (h_r1 : (-30) ≤ r1 ∧ r1 ≤ 30) (h_r2 : (-30) ≤ r2 ∧ r2 ≤ 30) (h_r3 : (-30) ≤ r3 ∧ r3 ≤ 30) (h_r4 : (-30) ≤ r4 ∧ r4 ≤ 30) (h_r5 : (-30) ≤ r5 ∧ r5 ≤ 30) (h_u : 1 ≤ u ∧ u ≤ 1000000000) (g_0 : (jlz r0 r1 r2 r3 r4 r5).sign ≤ 0) {w : Int} : jT xs (d + 4) 312 23 117 [(5, (0, u)), (6, (0, u)), (4, (4, 23)), (0, (4, 0)), (1, (0, p1)), (3, (4, 22))] [] [jzY_19, jgh, jgh, jgh, jgh, jgh, (130, [], [16, 17, 18, 19, 20, 21]), (101, [], [0, 0, 0, 0, 0, 0]), jgh, jgh, jgh, jgh, jgh, jgh, jgh, jgh, (100, [], (jenc (jlg 0))), (100, [], (jenc (jlg 1))), (100, [], (jenc (jlg 2))), (100, [], (jenc (jlg 3))), (100, [], (jenc (jlg 4))), (100, [], (jenc (jlg 5))), (100, [], (jenc w)), (101, [], [r0, r1, r2, r3, r4, r5])] 19 1064 (fun k v hsN => k = 0 ∧ v = (0, 1) ∧ hsN = [jzY_19, jgh, jgh, jgh, jgh, jgh, (130, [], [16, 17, 18, 19, 20, 21]), (101, [], [0, 0, 0, 0, 0, 0]), jgh, jgh, jgh, jgh, jgh, jgh, jgh, jgh, (100, [], (jenc (jlg 0))), (100, [], (jenc (jlg 1))), (100, [], (jenc (jlg 2))), (100, [], (jenc (jlg 3))), (100, [], (jenc (jlg 4))), (100, [], (jenc (jlg 5))), (100, [], (jenc w))]) := by
  refine jT_xiload (v := (0, u)) (pcN := 119) jIY_312_117 rfl rfl rfl ?_
  refine jT_xiload (v := (0, u)) (pcN := 121) jIY_312_119 rfl rfl rfl ?_
  refine jT_icF (a := u) (b := u) (t := 139) (by rfl) (by rfl) (by rfl) (jw_idd (by omega) (by omega)) (jw_idd (by omega) (by omega)) (by show ¬ ¬ u = u; exact fun q => q rfl) ?_
  refine jT_xaload_n (v := (4, 0)) (pcN := 125) jIY_312_124 rfl rfl rfl ?_
  refine jT_xaload (v := (4, 23)) (pcN := 127) jIY_312_125 rfl rfl rfl ?_
  refine jT_callA [0, 23, 1, 2, 3, 4, 5, 6, 7, 8, 9, 10, 11, 12, 13, 14, 15, 16, 17, 18, 19, 20, 21] (y := 213) (pcN := 130) (dC := 3) (bc1 := 19) (bc2 := 1064) (c1 := 0) (c2 := 0) (as := [(4, 0), (4, 23)]) (asC := [(4, 0), (4, 1)]) (LN := [(5, (0, u)), (6, (0, u)), (4, (4, 23)), (0, (4, 0)), (1, (0, p1)), (3, (4, 22))]) (stN := []) (hsC := [jzY_329, (101, [], [r0, r1, r2, r3, r4, r5]), jgh, jgh, jgh, jgh, jgh, (130, [], [17, 18, 19, 20, 21, 22]), jgh, jgh, jgh, jgh, jgh, jgh, jgh, jgh, jgh, (100, [], (jenc (jlg 0))), (100, [], (jenc (jlg 1))), (100, [], (jenc (jlg 2))), (100, [], (jenc (jlg 3))), (100, [], (jenc (jlg 4))), (100, [], (jenc (jlg 5)))]) (ex := []) (v := (0, (jlz r0 r1 r2 r3 r4 r5).sign)) (st2 := [(0, (jlz r0 r1 r2 r3 r4 r5).sign)]) (hs2 := [jzY_19, jgh, jgh, jgh, jgh, jgh, (130, [], [16, 17, 18, 19, 20, 21]), (101, [], [0, 0, 0, 0, 0, 0]), jgh, jgh, jgh, jgh, jgh, jgh, jgh, jgh, (100, [], (jenc (jlg 0))), (100, [], (jenc (jlg 1))), (100, [], (jenc (jlg 2))), (100, [], (jenc (jlg 3))), (100, [], (jenc (jlg 4))), (100, [], (jenc (jlg 5))), (100, [], (jenc w)), (101, [], [r0, r1, r2, r3, r4, r5])]) (jYl_sg_79 (d := 0) (e0 := r0) (e1 := r1) (e2 := r2) (e3 := r3) (e4 := r4) (e5 := r5) (by omega) (by omega) (by omega) (by omega) (by omega) (by omega)) (by rfl) (by rfl) (by rfl) (by rfl) ⟨rfl, rfl, rfl, rfl, rfl, rfl, rfl, rfl, rfl, rfl, rfl, rfl, rfl, rfl, rfl, rfl, rfl, rfl, rfl, rfl, rfl, rfl, rfl, trivial⟩ (by rfl) (by rfl) (by omega) (by show 23 ≤ 24; omega) (by omega) (by omega) rfl rfl ?_
  have hb_q1 := jsgn_b (jlz r0 r1 r2 r3 r4 r5)
  generalize hq_q1 : (jlz r0 r1 r2 r3 r4 r5).sign = q1 at hb_q1 g_0 ⊢
  refine jT_ifF (a := q1) (t := 137) (by rfl) (by rfl) (by rfl) (jw_idd (by omega) (by omega)) (by simp only [jcP] <;> omega) ?_
  refine jT_xiconst (k := 1) (pcN := 134) jIY_312_133 rfl ?_
  refine jT_xgoto (pcN := 138) jIY_312_134 rfl ?_
  refine jT_loc (LN := [(0, (4, 0))]) (by show List.Nodup [0]; decide) (by intro q hq; simp only [List.mem_cons, List.not_mem_nil, or_false] at hq; rcases hq with rfl <;> rfl) ?_
  refine jT_drop 23 (hs0 := [jzY_19, jgh, jgh, jgh, jgh, jgh, (130, [], [16, 17, 18, 19, 20, 21]), (101, [], [0, 0, 0, 0, 0, 0]), jgh, jgh, jgh, jgh, jgh, jgh, jgh, jgh, (100, [], (jenc (jlg 0))), (100, [], (jenc (jlg 1))), (100, [], (jenc (jlg 2))), (100, [], (jenc (jlg 3))), (100, [], (jenc (jlg 4))), (100, [], (jenc (jlg 5))), (100, [], (jenc w))]) (ex := [(101, [], [r0, r1, r2, r3, r4, r5])]) rfl rfl rfl (by decide) ?_
  exact jT_ret rfl (by decide) (by show 23 ≤ 23; decide) (by omega) (by omega) ⟨rfl, rfl, rfl⟩
theorem jIY_312_137 : jmI (jm 312) 137 = (.iconst 0, 1) := by rfl
theorem jYl_sh_66_E0 {xs : List Int} {d : Nat} {p1 r0 r1 r2 r3 r4 r5 u : Int} (h_p1 : 1 ≤ p1 ∧ p1 ≤ 1000000000) (h_r0 : (-30) ≤ r0 ∧ r0 ≤ 30) (h_r1 : (-30) ≤ r1 ∧ r1 ≤ 30) (h_r2 : (-30) ≤ r2 ∧ r2 ≤ 30) (h_r3 : (-30) ≤ r3 ∧ r3 ≤ 30) (h_r4 : (-30) ≤ r4 ∧ r4 ≤ 30) (h_r5 : (-30) ≤ r5 ∧ r5 ≤ 30) (h_u : 1 ≤ u ∧ u ≤ 1000000000) (g_0 : 0 < (jlz r0 r1 r2 r3 r4 r5).sign) {w : Int} : jT xs (d + 4) 312 23 117 [(5, (0, u)), (6, (0, u)), (4, (4, 23)), (0, (4, 0)), (1, (0, p1)), (3, (4, 22))] [] [jzY_19, jgh, jgh, jgh, jgh, jgh, (130, [], [16, 17, 18, 19, 20, 21]), (101, [], [0, 0, 0, 0, 0, 0]), jgh, jgh, jgh, jgh, jgh, jgh, jgh, jgh, (100, [], (jenc (jlg 0))), (100, [], (jenc (jlg 1))), (100, [], (jenc (jlg 2))), (100, [], (jenc (jlg 3))), (100, [], (jenc (jlg 4))), (100, [], (jenc (jlg 5))), (100, [], (jenc w)), (101, [], [r0, r1, r2, r3, r4, r5])] 19 1064 (fun k v hsN => k = 0 ∧ v = (0, 0) ∧ hsN = [jzY_19, jgh, jgh, jgh, jgh, jgh, (130, [], [16, 17, 18, 19, 20, 21]), (101, [], [0, 0, 0, 0, 0, 0]), jgh, jgh, jgh, jgh, jgh, jgh, jgh, jgh, (100, [], (jenc (jlg 0))), (100, [], (jenc (jlg 1))), (100, [], (jenc (jlg 2))), (100, [], (jenc (jlg 3))), (100, [], (jenc (jlg 4))), (100, [], (jenc (jlg 5))), (100, [], (jenc w))]) := by
  refine jT_xiload (v := (0, u)) (pcN := 119) jIY_312_117 rfl rfl rfl ?_
  refine jT_xiload (v := (0, u)) (pcN := 121) jIY_312_119 rfl rfl rfl ?_
  refine jT_icF (a := u) (b := u) (t := 139) (by rfl) (by rfl) (by rfl) (jw_idd (by omega) (by omega)) (jw_idd (by omega) (by omega)) (by show ¬ ¬ u = u; exact fun q => q rfl) ?_
  refine jT_xaload_n (v := (4, 0)) (pcN := 125) jIY_312_124 rfl rfl rfl ?_
  refine jT_xaload (v := (4, 23)) (pcN := 127) jIY_312_125 rfl rfl rfl ?_
  refine jT_callA [0, 23, 1, 2, 3, 4, 5, 6, 7, 8, 9, 10, 11, 12, 13, 14, 15, 16, 17, 18, 19, 20, 21] (y := 213) (pcN := 130) (dC := 3) (bc1 := 19) (bc2 := 1064) (c1 := 0) (c2 := 0) (as := [(4, 0), (4, 23)]) (asC := [(4, 0), (4, 1)]) (LN := [(5, (0, u)), (6, (0, u)), (4, (4, 23)), (0, (4, 0)), (1, (0, p1)), (3, (4, 22))]) (stN := []) (hsC := [jzY_329, (101, [], [r0, r1, r2, r3, r4, r5]), jgh, jgh, jgh, jgh, jgh, (130, [], [17, 18, 19, 20, 21, 22]), jgh, jgh, jgh, jgh, jgh, jgh, jgh, jgh, jgh, (100, [], (jenc (jlg 0))), (100, [], (jenc (jlg 1))), (100, [], (jenc (jlg 2))), (100, [], (jenc (jlg 3))), (100, [], (jenc (jlg 4))), (100, [], (jenc (jlg 5)))]) (ex := []) (v := (0, (jlz r0 r1 r2 r3 r4 r5).sign)) (st2 := [(0, (jlz r0 r1 r2 r3 r4 r5).sign)]) (hs2 := [jzY_19, jgh, jgh, jgh, jgh, jgh, (130, [], [16, 17, 18, 19, 20, 21]), (101, [], [0, 0, 0, 0, 0, 0]), jgh, jgh, jgh, jgh, jgh, jgh, jgh, jgh, (100, [], (jenc (jlg 0))), (100, [], (jenc (jlg 1))), (100, [], (jenc (jlg 2))), (100, [], (jenc (jlg 3))), (100, [], (jenc (jlg 4))), (100, [], (jenc (jlg 5))), (100, [], (jenc w)), (101, [], [r0, r1, r2, r3, r4, r5])]) (jYl_sg_79 (d := 0) (e0 := r0) (e1 := r1) (e2 := r2) (e3 := r3) (e4 := r4) (e5 := r5) (by omega) (by omega) (by omega) (by omega) (by omega) (by omega)) (by rfl) (by rfl) (by rfl) (by rfl) ⟨rfl, rfl, rfl, rfl, rfl, rfl, rfl, rfl, rfl, rfl, rfl, rfl, rfl, rfl, rfl, rfl, rfl, rfl, rfl, rfl, rfl, rfl, rfl, trivial⟩ (by rfl) (by rfl) (by omega) (by show 23 ≤ 24; omega) (by omega) (by omega) rfl rfl ?_
  have hb_q1 := jsgn_b (jlz r0 r1 r2 r3 r4 r5)
  generalize hq_q1 : (jlz r0 r1 r2 r3 r4 r5).sign = q1 at hb_q1 g_0 ⊢
  refine jT_ifT (a := q1) (t := 137) (by rfl) (by rfl) (by rfl) (jw_idd (by omega) (by omega)) (by simp only [jcP] <;> omega) ?_
  refine jT_xiconst (k := 0) (pcN := 138) jIY_312_137 rfl ?_
  refine jT_loc (LN := [(0, (4, 0))]) (by show List.Nodup [0]; decide) (by intro q hq; simp only [List.mem_cons, List.not_mem_nil, or_false] at hq; rcases hq with rfl <;> rfl) ?_
  refine jT_drop 23 (hs0 := [jzY_19, jgh, jgh, jgh, jgh, jgh, (130, [], [16, 17, 18, 19, 20, 21]), (101, [], [0, 0, 0, 0, 0, 0]), jgh, jgh, jgh, jgh, jgh, jgh, jgh, jgh, (100, [], (jenc (jlg 0))), (100, [], (jenc (jlg 1))), (100, [], (jenc (jlg 2))), (100, [], (jenc (jlg 3))), (100, [], (jenc (jlg 4))), (100, [], (jenc (jlg 5))), (100, [], (jenc w))]) (ex := [(101, [], [r0, r1, r2, r3, r4, r5])]) rfl rfl rfl (by decide) ?_
  exact jT_ret rfl (by decide) (by show 23 ≤ 23; decide) (by omega) (by omega) ⟨rfl, rfl, rfl⟩
theorem jYl_sh_66_D {xs : List Int} {d b1 b2 : Nat} {Q : Nat → JV → List JC → Prop} {r0 r1 r2 r3 r4 r5 r8 r9 p1 w : Int} (h_r8 : 1 ≤ r8 ∧ r8 ≤ 1000000000) (h_r9 : 1 ≤ r9 ∧ r9 ≤ 1000000000) (hn : r8 ≠ r9) (h : jT xs d 312 23 139 [(0, (4, 0)), (1, (0, p1)), (3, (4, 22))] [] [jzY_19, jgh, jgh, jgh, jgh, jgh, (130, [], [16, 17, 18, 19, 20, 21]), (101, [], [0, 0, 0, 0, 0, 0]), jgh, jgh, jgh, jgh, jgh, jgh, jgh, jgh, (100, [], (jenc (jlg 0))), (100, [], (jenc (jlg 1))), (100, [], (jenc (jlg 2))), (100, [], (jenc (jlg 3))), (100, [], (jenc (jlg 4))), (100, [], (jenc (jlg 5))), (100, [], (jenc w))] b1 b2 Q) : jT xs d 312 23 117 [(5, (0, r8)), (6, (0, r9)), (4, (4, 23)), (0, (4, 0)), (1, (0, p1)), (3, (4, 22))] [] [jzY_19, jgh, jgh, jgh, jgh, jgh, (130, [], [16, 17, 18, 19, 20, 21]), (101, [], [0, 0, 0, 0, 0, 0]), jgh, jgh, jgh, jgh, jgh, jgh, jgh, jgh, (100, [], (jenc (jlg 0))), (100, [], (jenc (jlg 1))), (100, [], (jenc (jlg 2))), (100, [], (jenc (jlg 3))), (100, [], (jenc (jlg 4))), (100, [], (jenc (jlg 5))), (100, [], (jenc w)), (101, [], [r0, r1, r2, r3, r4, r5])] b1 b2 Q := by
  rcases (show (r8 - r9 < 0) ∨ (0 < r8 - r9) by omega) with g_0 | g_0
  · refine jT_xiload (v := (0, r8)) (pcN := 119) jIY_312_117 rfl rfl rfl ?_
    refine jT_xiload (v := (0, r9)) (pcN := 121) jIY_312_119 rfl rfl rfl ?_
    refine jT_icT (a := r8) (b := r9) (t := 139) (by rfl) (by rfl) (by rfl) (jw_idd (by omega) (by omega)) (jw_idd (by omega) (by omega)) (by simp only [jcP] <;> omega) ?_
    refine jT_loc (LN := [(0, (4, 0)), (1, (0, p1)), (3, (4, 22))]) (by show List.Nodup [0, 1, 3]; decide) (by intro q hq; simp only [List.mem_cons, List.not_mem_nil, or_false] at hq; rcases hq with rfl | rfl | rfl <;> rfl) ?_
    refine jT_drop 23 (hs0 := [jzY_19, jgh, jgh, jgh, jgh, jgh, (130, [], [16, 17, 18, 19, 20, 21]), (101, [], [0, 0, 0, 0, 0, 0]), jgh, jgh, jgh, jgh, jgh, jgh, jgh, jgh, (100, [], (jenc (jlg 0))), (100, [], (jenc (jlg 1))), (100, [], (jenc (jlg 2))), (100, [], (jenc (jlg 3))), (100, [], (jenc (jlg 4))), (100, [], (jenc (jlg 5))), (100, [], (jenc w))]) (ex := [(101, [], [r0, r1, r2, r3, r4, r5])]) rfl rfl rfl (by decide) ?_
    exact h
  · refine jT_xiload (v := (0, r8)) (pcN := 119) jIY_312_117 rfl rfl rfl ?_
    refine jT_xiload (v := (0, r9)) (pcN := 121) jIY_312_119 rfl rfl rfl ?_
    refine jT_icT (a := r8) (b := r9) (t := 139) (by rfl) (by rfl) (by rfl) (jw_idd (by omega) (by omega)) (jw_idd (by omega) (by omega)) (by simp only [jcP] <;> omega) ?_
    refine jT_loc (LN := [(0, (4, 0)), (1, (0, p1)), (3, (4, 22))]) (by show List.Nodup [0, 1, 3]; decide) (by intro q hq; simp only [List.mem_cons, List.not_mem_nil, or_false] at hq; rcases hq with rfl | rfl | rfl <;> rfl) ?_
    refine jT_drop 23 (hs0 := [jzY_19, jgh, jgh, jgh, jgh, jgh, (130, [], [16, 17, 18, 19, 20, 21]), (101, [], [0, 0, 0, 0, 0, 0]), jgh, jgh, jgh, jgh, jgh, jgh, jgh, jgh, (100, [], (jenc (jlg 0))), (100, [], (jenc (jlg 1))), (100, [], (jenc (jlg 2))), (100, [], (jenc (jlg 3))), (100, [], (jenc (jlg 4))), (100, [], (jenc (jlg 5))), (100, [], (jenc w))]) (ex := [(101, [], [r0, r1, r2, r3, r4, r5])]) rfl rfl rfl (by decide) ?_
    exact h
theorem jIY_312_139 : jmI (jm 312) 139 = (.aload_n 0, 1) := by rfl
theorem jIY_312_140 : jmI (jm 312) 140 = (.getfield 35, 3) := by rfl
theorem jIY_312_146 : jmI (jm 312) 146 = (.aload_n 0, 1) := by rfl
theorem jIY_312_147 : jmI (jm 312) 147 = (.iload_n 1, 1) := by rfl
theorem jIY_312_154 : jmI (jm 312) 154 = (.aload_n 3, 1) := by rfl
theorem jIY_312_158 : jmI (jm 312) 158 = (.iconst 0, 1) := by rfl
theorem jIY_312_159 : jmI (jm 312) 159 = (.iaload, 1) := by rfl
theorem jIY_312_160 : jmI (jm 312) 160 = (.ifCond .gt 7, 3) := by rfl
theorem jIY_312_163 : jmI (jm 312) 163 = (.iconst 1, 1) := by rfl
theorem jIY_312_164 : jmI (jm 312) 164 = (.goto 4, 3) := by rfl
theorem jYl_sh_66_N1 {xs : List Int} {d : Nat} {p1 w : Int} (h_p1 : 1 ≤ p1 ∧ p1 ≤ 1) (hz : jln p1 = 0) (hA : (jln p1).natAbs < 1000000000 ^ 54) (hs : w < 0) : jT xs (d + 5) 312 23 139 [(0, (4, 0)), (1, (0, p1)), (3, (4, 22))] [] [jzY_19, jgh, jgh, jgh, jgh, jgh, (130, [], [16, 17, 18, 19, 20, 21]), (101, [], [0, 0, 0, 0, 0, 0]), jgh, jgh, jgh, jgh, jgh, jgh, jgh, jgh, (100, [], (jenc (jlg 0))), (100, [], (jenc (jlg 1))), (100, [], (jenc (jlg 2))), (100, [], (jenc (jlg 3))), (100, [], (jenc (jlg 4))), (100, [], (jenc (jlg 5))), (100, [], (jenc w))] 1735 97160 (fun k v hsN => k = 0 ∧ v = (0, 1) ∧ hsN = [jzY_19, jgh, jgh, jgh, jgh, jgh, (130, [], [16, 17, 18, 19, 20, 21]), (101, [], [0, 0, 0, 0, 0, 0]), jgh, jgh, jgh, jgh, jgh, jgh, jgh, jgh, (100, [], (jenc (jlg 0))), (100, [], (jenc (jlg 1))), (100, [], (jenc (jlg 2))), (100, [], (jenc (jlg 3))), (100, [], (jenc (jlg 4))), (100, [], (jenc (jlg 5))), (100, [], (jenc w))]) := by
  refine jT_xaload_n (v := (4, 0)) (pcN := 140) jIY_312_139 rfl rfl rfl ?_
  refine jT_xgetf (a := 0) (t := 1) (ci := 14) (fi := 10) (c := jzY_19) (v := (1, 1)) (pcN := 143) jIY_312_140 rfl rfl rfl rfl rfl rfl rfl ?_
  refine jT_callA [] (y := 178) (pcN := 146) (dC := 1) (bc1 := 1) (bc2 := 56) (c1 := 1734) (c2 := 97104) (as := [(1, 1)]) (asC := [(1, 1)]) (LN := [(0, (4, 0)), (1, (0, p1)), (3, (4, 22))]) (stN := []) (hsC := []) (ex := [(100, [], (jenc 1))]) (v := (4, 0)) (st2 := [(4, 23)]) (hs2 := [jzY_19, jgh, jgh, jgh, jgh, jgh, (130, [], [16, 17, 18, 19, 20, 21]), (101, [], [0, 0, 0, 0, 0, 0]), jgh, jgh, jgh, jgh, jgh, jgh, jgh, jgh, (100, [], (jenc (jlg 0))), (100, [], (jenc (jlg 1))), (100, [], (jenc (jlg 2))), (100, [], (jenc (jlg 3))), (100, [], (jenc (jlg 4))), (100, [], (jenc (jlg 5))), (100, [], (jenc w)), (100, [], (jenc 1))]) (jT_big (d := 0) (v := 1) (by omega) (by omega)) (by rfl) (by rfl) (by rfl) (by rfl) trivial (by rfl) (by rfl) (by omega) (by show 23 ≤ 23; omega) (by omega) (by omega) rfl rfl ?_
  refine jT_xaload_n (v := (4, 0)) (pcN := 147) jIY_312_146 rfl rfl rfl ?_
  refine jT_xiload_n (v := (0, p1)) (pcN := 148) jIY_312_147 rfl rfl rfl ?_
  refine jT_callA [0, 1, 2, 3, 4, 5, 6, 7, 8, 9, 10, 11, 12, 13, 14, 15, 16, 17, 18, 19, 20, 21] (y := 311) (pcN := 151) (dC := 4) (bc1 := 1732) (bc2 := 96992) (c1 := 2) (c2 := 112) (as := [(4, 0), (0, p1)]) (asC := [(4, 0), (0, p1)]) (LN := [(0, (4, 0)), (1, (0, p1)), (3, (4, 22))]) (stN := [(4, 23)]) (hsC := jpY_271) (ex := [(100, [], (jenc (jln p1)))]) (v := (4, 22)) (st2 := [(4, 24), (4, 23)]) (hs2 := [jzY_19, jgh, jgh, jgh, jgh, jgh, (130, [], [16, 17, 18, 19, 20, 21]), (101, [], [0, 0, 0, 0, 0, 0]), jgh, jgh, jgh, jgh, jgh, jgh, jgh, jgh, (100, [], (jenc (jlg 0))), (100, [], (jenc (jlg 1))), (100, [], (jenc (jlg 2))), (100, [], (jenc (jlg 3))), (100, [], (jenc (jlg 4))), (100, [], (jenc (jlg 5))), (100, [], (jenc w)), (100, [], (jenc 1)), (100, [], (jenc (jln p1)))]) (jYl_ln_65_A (d := 0) (n := p1) (by omega) (by omega)) (by rfl) (by rfl) (by rfl) (by rfl) ⟨rfl, rfl, rfl, rfl, rfl, rfl, rfl, rfl, rfl, rfl, rfl, rfl, rfl, rfl, rfl, rfl, rfl, rfl, rfl, rfl, rfl, rfl, trivial⟩ (by rfl) (by rfl) (by omega) (by show 23 ≤ 24; omega) (by omega) (by omega) rfl rfl ?_
  refine jT_callA [23, 24] (y := 179) (pcN := 154) (dC := 1) (bc1 := 1) (bc2 := 56) (c1 := 1) (c2 := 56) (as := [(4, 23), (4, 24)]) (asC := [(4, 0), (4, 1)]) (LN := [(0, (4, 0)), (1, (0, p1)), (3, (4, 22))]) (stN := []) (hsC := [(100, [], (jenc 1)), (100, [], (jenc (jln p1)))]) (ex := [(100, [], (jenc (jln p1)))]) (v := (4, 2)) (st2 := [(4, 25)]) (hs2 := [jzY_19, jgh, jgh, jgh, jgh, jgh, (130, [], [16, 17, 18, 19, 20, 21]), (101, [], [0, 0, 0, 0, 0, 0]), jgh, jgh, jgh, jgh, jgh, jgh, jgh, jgh, (100, [], (jenc (jlg 0))), (100, [], (jenc (jlg 1))), (100, [], (jenc (jlg 2))), (100, [], (jenc (jlg 3))), (100, [], (jenc (jlg 4))), (100, [], (jenc (jlg 5))), (100, [], (jenc w)), (100, [], (jenc 1)), (100, [], (jenc (jln p1))), (100, [], (jenc (jln p1)))]) (jT_product1 (d := 0) (a := jln p1) hA) (by rfl) (by rfl) (by rfl) (by rfl) ⟨rfl, rfl, trivial⟩ (by rfl) (by rfl) (by omega) (by show 23 ≤ 25; omega) (by omega) (by omega) rfl rfl ?_
  refine jT_xaload_n (v := (4, 22)) (pcN := 155) jIY_312_154 rfl rfl rfl ?_
  refine jT_eq (LN := [(0, (4, 0)), (1, (0, p1)), (3, (4, 22))]) (stN := [(4, 22), (4, 25)]) (hsN := [jzY_19, jgh, jgh, jgh, jgh, jgh, (130, [], [16, 17, 18, 19, 20, 21]), (101, [], [0, 0, 0, 0, 0, 0]), jgh, jgh, jgh, jgh, jgh, jgh, jgh, jgh, (100, [], (jenc (jlg 0))), (100, [], (jenc (jlg 1))), (100, [], (jenc (jlg 2))), (100, [], (jenc (jlg 3))), (100, [], (jenc (jlg 4))), (100, [], (jenc (jlg 5))), (100, [], (jenc w)), (100, [], (jenc 1)), (100, [], (jenc 0)), (100, [], (jenc 0))]) rfl rfl (by show [jzY_19, jgh, jgh, jgh, jgh, jgh, (130, [], [16, 17, 18, 19, 20, 21]), (101, [], [0, 0, 0, 0, 0, 0]), jgh, jgh, jgh, jgh, jgh, jgh, jgh, jgh, (100, [], (jenc (jlg 0))), (100, [], (jenc (jlg 1))), (100, [], (jenc (jlg 2))), (100, [], (jenc (jlg 3))), (100, [], (jenc (jlg 4))), (100, [], (jenc (jlg 5))), (100, [], (jenc w)), (100, [], (jenc 1)), (100, [], (jenc (jln p1))), (100, [], (jenc (jln p1)))] = _; rw [show jln p1 = 0 from hz]) ?_
  refine jT_callA [25, 22] (y := 181) (pcN := 158) (dC := 0) (bc1 := 0) (bc2 := 0) (c1 := 1) (c2 := 56) (as := [(4, 25), (4, 22)]) (asC := [(4, 0), (4, 1)]) (LN := [(0, (4, 0)), (1, (0, p1)), (3, (4, 22))]) (stN := []) (hsC := [(100, [], (jenc 0)), (100, [], (jenc w))]) (ex := []) (v := (4, 1)) (st2 := [(4, 22)]) (hs2 := [jzY_19, jgh, jgh, jgh, jgh, jgh, (130, [], [16, 17, 18, 19, 20, 21]), (101, [], [0, 0, 0, 0, 0, 0]), jgh, jgh, jgh, jgh, jgh, jgh, jgh, jgh, (100, [], (jenc (jlg 0))), (100, [], (jenc (jlg 1))), (100, [], (jenc (jlg 2))), (100, [], (jenc (jlg 3))), (100, [], (jenc (jlg 4))), (100, [], (jenc (jlg 5))), (100, [], (jenc w)), (100, [], (jenc 1)), (100, [], (jenc 0)), (100, [], (jenc 0))]) (jT_added_0l (d := 0) (b := w)) (by rfl) (by rfl) (by rfl) (by rfl) ⟨rfl, rfl, trivial⟩ (by rfl) (by rfl) (by omega) (by show 23 ≤ 26; omega) (by omega) (by omega) rfl rfl ?_
  refine jT_xiconst (k := 0) (pcN := 159) jIY_312_158 rfl ?_
  refine jT_iald (x := (-1)) (a := 22) (j := 0) (fs := []) (X := (jenc w)) (by rfl) (by rfl) (by rfl) (by rfl) (jenc_sg (Int.sign_eq_neg_one_of_neg hs)) ?_
  refine jT_eq (LN := [(0, (4, 0)), (1, (0, p1)), (3, (4, 22))]) (stN := [(0, (-1))]) (hsN := [jzY_19, jgh, jgh, jgh, jgh, jgh, (130, [], [16, 17, 18, 19, 20, 21]), (101, [], [0, 0, 0, 0, 0, 0]), jgh, jgh, jgh, jgh, jgh, jgh, jgh, jgh, (100, [], (jenc (jlg 0))), (100, [], (jenc (jlg 1))), (100, [], (jenc (jlg 2))), (100, [], (jenc (jlg 3))), (100, [], (jenc (jlg 4))), (100, [], (jenc (jlg 5))), (100, [], (jenc w)), (100, [], (jenc 1)), (100, [], (jenc 0)), (100, [], (jenc 0))]) rfl rfl rfl ?_
  refine jT_xifF (t := 167) (pcN := 163) jIY_312_160 rfl (by decide +kernel) rfl rfl ?_
  refine jT_xiconst (k := 1) (pcN := 164) jIY_312_163 rfl ?_
  refine jT_xgoto (pcN := 168) jIY_312_164 rfl ?_
  refine jT_loc (LN := [(0, (4, 0))]) (by show List.Nodup [0]; decide) (by intro q hq; simp only [List.mem_cons, List.not_mem_nil, or_false] at hq; rcases hq with rfl <;> rfl) ?_
  refine jT_drop 23 (hs0 := [jzY_19, jgh, jgh, jgh, jgh, jgh, (130, [], [16, 17, 18, 19, 20, 21]), (101, [], [0, 0, 0, 0, 0, 0]), jgh, jgh, jgh, jgh, jgh, jgh, jgh, jgh, (100, [], (jenc (jlg 0))), (100, [], (jenc (jlg 1))), (100, [], (jenc (jlg 2))), (100, [], (jenc (jlg 3))), (100, [], (jenc (jlg 4))), (100, [], (jenc (jlg 5))), (100, [], (jenc w))]) (ex := [(100, [], (jenc 1)), (100, [], (jenc 0)), (100, [], (jenc 0))]) rfl rfl rfl (by decide) ?_
  exact jT_ret rfl (by decide) (by show 23 ≤ 23; decide) (by omega) (by omega) ⟨rfl, rfl, rfl⟩
theorem jYl_sh_66_N2 {xs : List Int} {d : Nat} {p1 w : Int} (h_p1 : 2 ≤ p1 ∧ p1 ≤ 2) (ha : jlg 0 ≠ 0) (hA : (jlg 0).natAbs < 1000000000 ^ 54) (hw : w ≠ 0) (hB : w.natAbs < 1000000000 ^ 54) (hS : (jlg 0 + w).natAbs < 1000000000 ^ 54) (hs : jlg 0 + w < 0) : jT xs (d + 5) 312 23 139 [(0, (4, 0)), (1, (0, p1)), (3, (4, 22))] [] [jzY_19, jgh, jgh, jgh, jgh, jgh, (130, [], [16, 17, 18, 19, 20, 21]), (101, [], [0, 0, 0, 0, 0, 0]), jgh, jgh, jgh, jgh, jgh, jgh, jgh, jgh, (100, [], (jenc (jlg 0))), (100, [], (jenc (jlg 1))), (100, [], (jenc (jlg 2))), (100, [], (jenc (jlg 3))), (100, [], (jenc (jlg 4))), (100, [], (jenc (jlg 5))), (100, [], (jenc w))] 1735 97160 (fun k v hsN => k = 0 ∧ v = (0, 1) ∧ hsN = [jzY_19, jgh, jgh, jgh, jgh, jgh, (130, [], [16, 17, 18, 19, 20, 21]), (101, [], [0, 0, 0, 0, 0, 0]), jgh, jgh, jgh, jgh, jgh, jgh, jgh, jgh, (100, [], (jenc (jlg 0))), (100, [], (jenc (jlg 1))), (100, [], (jenc (jlg 2))), (100, [], (jenc (jlg 3))), (100, [], (jenc (jlg 4))), (100, [], (jenc (jlg 5))), (100, [], (jenc w))]) := by
  refine jT_xaload_n (v := (4, 0)) (pcN := 140) jIY_312_139 rfl rfl rfl ?_
  refine jT_xgetf (a := 0) (t := 1) (ci := 14) (fi := 10) (c := jzY_19) (v := (1, 1)) (pcN := 143) jIY_312_140 rfl rfl rfl rfl rfl rfl rfl ?_
  refine jT_callA [] (y := 178) (pcN := 146) (dC := 1) (bc1 := 1) (bc2 := 56) (c1 := 1734) (c2 := 97104) (as := [(1, 1)]) (asC := [(1, 1)]) (LN := [(0, (4, 0)), (1, (0, p1)), (3, (4, 22))]) (stN := []) (hsC := []) (ex := [(100, [], (jenc 1))]) (v := (4, 0)) (st2 := [(4, 23)]) (hs2 := [jzY_19, jgh, jgh, jgh, jgh, jgh, (130, [], [16, 17, 18, 19, 20, 21]), (101, [], [0, 0, 0, 0, 0, 0]), jgh, jgh, jgh, jgh, jgh, jgh, jgh, jgh, (100, [], (jenc (jlg 0))), (100, [], (jenc (jlg 1))), (100, [], (jenc (jlg 2))), (100, [], (jenc (jlg 3))), (100, [], (jenc (jlg 4))), (100, [], (jenc (jlg 5))), (100, [], (jenc w)), (100, [], (jenc 1))]) (jT_big (d := 0) (v := 1) (by omega) (by omega)) (by rfl) (by rfl) (by rfl) (by rfl) trivial (by rfl) (by rfl) (by omega) (by show 23 ≤ 23; omega) (by omega) (by omega) rfl rfl ?_
  refine jT_xaload_n (v := (4, 0)) (pcN := 147) jIY_312_146 rfl rfl rfl ?_
  refine jT_xiload_n (v := (0, p1)) (pcN := 148) jIY_312_147 rfl rfl rfl ?_
  refine jT_callA [0, 1, 2, 3, 4, 5, 6, 7, 8, 9, 10, 11, 12, 13, 14, 15, 16, 17, 18, 19, 20, 21] (y := 311) (pcN := 151) (dC := 4) (bc1 := 1732) (bc2 := 96992) (c1 := 2) (c2 := 112) (as := [(4, 0), (0, p1)]) (asC := [(4, 0), (0, p1)]) (LN := [(0, (4, 0)), (1, (0, p1)), (3, (4, 22))]) (stN := [(4, 23)]) (hsC := jpY_271) (ex := []) (v := (4, 16)) (st2 := [(4, 16), (4, 23)]) (hs2 := [jzY_19, jgh, jgh, jgh, jgh, jgh, (130, [], [16, 17, 18, 19, 20, 21]), (101, [], [0, 0, 0, 0, 0, 0]), jgh, jgh, jgh, jgh, jgh, jgh, jgh, jgh, (100, [], (jenc (jlg 0))), (100, [], (jenc (jlg 1))), (100, [], (jenc (jlg 2))), (100, [], (jenc (jlg 3))), (100, [], (jenc (jlg 4))), (100, [], (jenc (jlg 5))), (100, [], (jenc w)), (100, [], (jenc 1))]) (jYl_ln_65_B (d := 0) (n := p1) (by omega)) (by rfl) (by rfl) (by rfl) (by rfl) ⟨rfl, rfl, rfl, rfl, rfl, rfl, rfl, rfl, rfl, rfl, rfl, rfl, rfl, rfl, rfl, rfl, rfl, rfl, rfl, rfl, rfl, rfl, trivial⟩ (by rfl) (by rfl) (by omega) (by show 23 ≤ 24; omega) (by omega) (by omega) rfl rfl ?_
  refine jT_callA [23, 16] (y := 179) (pcN := 154) (dC := 1) (bc1 := 1) (bc2 := 56) (c1 := 1) (c2 := 56) (as := [(4, 23), (4, 16)]) (asC := [(4, 0), (4, 1)]) (LN := [(0, (4, 0)), (1, (0, p1)), (3, (4, 22))]) (stN := []) (hsC := [(100, [], (jenc 1)), (100, [], (jenc (jlg 0)))]) (ex := [(100, [], (jenc (jlg 0)))]) (v := (4, 2)) (st2 := [(4, 24)]) (hs2 := [jzY_19, jgh, jgh, jgh, jgh, jgh, (130, [], [16, 17, 18, 19, 20, 21]), (101, [], [0, 0, 0, 0, 0, 0]), jgh, jgh, jgh, jgh, jgh, jgh, jgh, jgh, (100, [], (jenc (jlg 0))), (100, [], (jenc (jlg 1))), (100, [], (jenc (jlg 2))), (100, [], (jenc (jlg 3))), (100, [], (jenc (jlg 4))), (100, [], (jenc (jlg 5))), (100, [], (jenc w)), (100, [], (jenc 1)), (100, [], (jenc (jlg 0)))]) (jT_product1 (d := 0) (a := jlg 0) hA) (by rfl) (by rfl) (by rfl) (by rfl) ⟨rfl, rfl, trivial⟩ (by rfl) (by rfl) (by omega) (by show 23 ≤ 24; omega) (by omega) (by omega) rfl rfl ?_
  refine jT_xaload_n (v := (4, 22)) (pcN := 155) jIY_312_154 rfl rfl rfl ?_
  refine jT_callA [24, 22] (y := 181) (pcN := 158) (dC := 1) (bc1 := 1) (bc2 := 56) (c1 := 0) (c2 := 0) (as := [(4, 24), (4, 22)]) (asC := [(4, 0), (4, 1)]) (LN := [(0, (4, 0)), (1, (0, p1)), (3, (4, 22))]) (stN := []) (hsC := [(100, [], (jenc (jlg 0))), (100, [], (jenc w))]) (ex := [(100, [], (jenc ((jlg 0) + w)))]) (v := (4, 2)) (st2 := [(4, 25)]) (hs2 := [jzY_19, jgh, jgh, jgh, jgh, jgh, (130, [], [16, 17, 18, 19, 20, 21]), (101, [], [0, 0, 0, 0, 0, 0]), jgh, jgh, jgh, jgh, jgh, jgh, jgh, jgh, (100, [], (jenc (jlg 0))), (100, [], (jenc (jlg 1))), (100, [], (jenc (jlg 2))), (100, [], (jenc (jlg 3))), (100, [], (jenc (jlg 4))), (100, [], (jenc (jlg 5))), (100, [], (jenc w)), (100, [], (jenc 1)), (100, [], (jenc (jlg 0))), (100, [], (jenc ((jlg 0) + w)))]) (jT_added (d := 0) (a := jlg 0) (b := w) ha hw hA hB hS) (by rfl) (by rfl) (by rfl) (by rfl) ⟨rfl, rfl, trivial⟩ (by rfl) (by rfl) (by omega) (by show 23 ≤ 25; omega) (by omega) (by omega) rfl rfl ?_
  refine jT_xiconst (k := 0) (pcN := 159) jIY_312_158 rfl ?_
  refine jT_iald (x := (-1)) (a := 25) (j := 0) (fs := []) (X := (jenc ((jlg 0) + w))) (by rfl) (by rfl) (by rfl) (by rfl) (jenc_sg (Int.sign_eq_neg_one_of_neg hs)) ?_
  refine jT_eq (LN := [(0, (4, 0)), (1, (0, p1)), (3, (4, 22))]) (stN := [(0, (-1))]) (hsN := [jzY_19, jgh, jgh, jgh, jgh, jgh, (130, [], [16, 17, 18, 19, 20, 21]), (101, [], [0, 0, 0, 0, 0, 0]), jgh, jgh, jgh, jgh, jgh, jgh, jgh, jgh, (100, [], (jenc (jlg 0))), (100, [], (jenc (jlg 1))), (100, [], (jenc (jlg 2))), (100, [], (jenc (jlg 3))), (100, [], (jenc (jlg 4))), (100, [], (jenc (jlg 5))), (100, [], (jenc w)), (100, [], (jenc 1)), (100, [], (jenc (jlg 0))), (100, [], (jenc ((jlg 0) + w)))]) rfl rfl rfl ?_
  refine jT_xifF (t := 167) (pcN := 163) jIY_312_160 rfl (by decide +kernel) rfl rfl ?_
  refine jT_xiconst (k := 1) (pcN := 164) jIY_312_163 rfl ?_
  refine jT_xgoto (pcN := 168) jIY_312_164 rfl ?_
  refine jT_loc (LN := [(0, (4, 0))]) (by show List.Nodup [0]; decide) (by intro q hq; simp only [List.mem_cons, List.not_mem_nil, or_false] at hq; rcases hq with rfl <;> rfl) ?_
  refine jT_drop 23 (hs0 := [jzY_19, jgh, jgh, jgh, jgh, jgh, (130, [], [16, 17, 18, 19, 20, 21]), (101, [], [0, 0, 0, 0, 0, 0]), jgh, jgh, jgh, jgh, jgh, jgh, jgh, jgh, (100, [], (jenc (jlg 0))), (100, [], (jenc (jlg 1))), (100, [], (jenc (jlg 2))), (100, [], (jenc (jlg 3))), (100, [], (jenc (jlg 4))), (100, [], (jenc (jlg 5))), (100, [], (jenc w))]) (ex := [(100, [], (jenc 1)), (100, [], (jenc (jlg 0))), (100, [], (jenc ((jlg 0) + w)))]) rfl rfl rfl (by decide) ?_
  exact jT_ret rfl (by decide) (by show 23 ≤ 23; decide) (by omega) (by omega) ⟨rfl, rfl, rfl⟩
theorem jYl_sh_66_N3 {xs : List Int} {d : Nat} {p1 w : Int} (h_p1 : 3 ≤ p1 ∧ p1 ≤ 1000000000) (ha : jln p1 ≠ 0) (hA : (jln p1).natAbs < 1000000000 ^ 54) (hw : w ≠ 0) (hB : w.natAbs < 1000000000 ^ 54) (hS : (jln p1 + w).natAbs < 1000000000 ^ 54) (hs : jln p1 + w < 0) : jT xs (d + 5) 312 23 139 [(0, (4, 0)), (1, (0, p1)), (3, (4, 22))] [] [jzY_19, jgh, jgh, jgh, jgh, jgh, (130, [], [16, 17, 18, 19, 20, 21]), (101, [], [0, 0, 0, 0, 0, 0]), jgh, jgh, jgh, jgh, jgh, jgh, jgh, jgh, (100, [], (jenc (jlg 0))), (100, [], (jenc (jlg 1))), (100, [], (jenc (jlg 2))), (100, [], (jenc (jlg 3))), (100, [], (jenc (jlg 4))), (100, [], (jenc (jlg 5))), (100, [], (jenc w))] 1735 97160 (fun k v hsN => k = 0 ∧ v = (0, 1) ∧ hsN = [jzY_19, jgh, jgh, jgh, jgh, jgh, (130, [], [16, 17, 18, 19, 20, 21]), (101, [], [0, 0, 0, 0, 0, 0]), jgh, jgh, jgh, jgh, jgh, jgh, jgh, jgh, (100, [], (jenc (jlg 0))), (100, [], (jenc (jlg 1))), (100, [], (jenc (jlg 2))), (100, [], (jenc (jlg 3))), (100, [], (jenc (jlg 4))), (100, [], (jenc (jlg 5))), (100, [], (jenc w))]) := by
  refine jT_xaload_n (v := (4, 0)) (pcN := 140) jIY_312_139 rfl rfl rfl ?_
  refine jT_xgetf (a := 0) (t := 1) (ci := 14) (fi := 10) (c := jzY_19) (v := (1, 1)) (pcN := 143) jIY_312_140 rfl rfl rfl rfl rfl rfl rfl ?_
  refine jT_callA [] (y := 178) (pcN := 146) (dC := 1) (bc1 := 1) (bc2 := 56) (c1 := 1734) (c2 := 97104) (as := [(1, 1)]) (asC := [(1, 1)]) (LN := [(0, (4, 0)), (1, (0, p1)), (3, (4, 22))]) (stN := []) (hsC := []) (ex := [(100, [], (jenc 1))]) (v := (4, 0)) (st2 := [(4, 23)]) (hs2 := [jzY_19, jgh, jgh, jgh, jgh, jgh, (130, [], [16, 17, 18, 19, 20, 21]), (101, [], [0, 0, 0, 0, 0, 0]), jgh, jgh, jgh, jgh, jgh, jgh, jgh, jgh, (100, [], (jenc (jlg 0))), (100, [], (jenc (jlg 1))), (100, [], (jenc (jlg 2))), (100, [], (jenc (jlg 3))), (100, [], (jenc (jlg 4))), (100, [], (jenc (jlg 5))), (100, [], (jenc w)), (100, [], (jenc 1))]) (jT_big (d := 0) (v := 1) (by omega) (by omega)) (by rfl) (by rfl) (by rfl) (by rfl) trivial (by rfl) (by rfl) (by omega) (by show 23 ≤ 23; omega) (by omega) (by omega) rfl rfl ?_
  refine jT_xaload_n (v := (4, 0)) (pcN := 147) jIY_312_146 rfl rfl rfl ?_
  refine jT_xiload_n (v := (0, p1)) (pcN := 148) jIY_312_147 rfl rfl rfl ?_
  refine jT_callA [0, 1, 2, 3, 4, 5, 6, 7, 8, 9, 10, 11, 12, 13, 14, 15, 16, 17, 18, 19, 20, 21] (y := 311) (pcN := 151) (dC := 4) (bc1 := 1732) (bc2 := 96992) (c1 := 2) (c2 := 112) (as := [(4, 0), (0, p1)]) (asC := [(4, 0), (0, p1)]) (LN := [(0, (4, 0)), (1, (0, p1)), (3, (4, 22))]) (stN := [(4, 23)]) (hsC := jpY_271) (ex := [(100, [], (jenc (jln p1)))]) (v := (4, 22)) (st2 := [(4, 24), (4, 23)]) (hs2 := [jzY_19, jgh, jgh, jgh, jgh, jgh, (130, [], [16, 17, 18, 19, 20, 21]), (101, [], [0, 0, 0, 0, 0, 0]), jgh, jgh, jgh, jgh, jgh, jgh, jgh, jgh, (100, [], (jenc (jlg 0))), (100, [], (jenc (jlg 1))), (100, [], (jenc (jlg 2))), (100, [], (jenc (jlg 3))), (100, [], (jenc (jlg 4))), (100, [], (jenc (jlg 5))), (100, [], (jenc w)), (100, [], (jenc 1)), (100, [], (jenc (jln p1)))]) (jYl_ln_65_A (d := 0) (n := p1) (by omega) (by omega)) (by rfl) (by rfl) (by rfl) (by rfl) ⟨rfl, rfl, rfl, rfl, rfl, rfl, rfl, rfl, rfl, rfl, rfl, rfl, rfl, rfl, rfl, rfl, rfl, rfl, rfl, rfl, rfl, rfl, trivial⟩ (by rfl) (by rfl) (by omega) (by show 23 ≤ 24; omega) (by omega) (by omega) rfl rfl ?_
  refine jT_callA [23, 24] (y := 179) (pcN := 154) (dC := 1) (bc1 := 1) (bc2 := 56) (c1 := 1) (c2 := 56) (as := [(4, 23), (4, 24)]) (asC := [(4, 0), (4, 1)]) (LN := [(0, (4, 0)), (1, (0, p1)), (3, (4, 22))]) (stN := []) (hsC := [(100, [], (jenc 1)), (100, [], (jenc (jln p1)))]) (ex := [(100, [], (jenc (jln p1)))]) (v := (4, 2)) (st2 := [(4, 25)]) (hs2 := [jzY_19, jgh, jgh, jgh, jgh, jgh, (130, [], [16, 17, 18, 19, 20, 21]), (101, [], [0, 0, 0, 0, 0, 0]), jgh, jgh, jgh, jgh, jgh, jgh, jgh, jgh, (100, [], (jenc (jlg 0))), (100, [], (jenc (jlg 1))), (100, [], (jenc (jlg 2))), (100, [], (jenc (jlg 3))), (100, [], (jenc (jlg 4))), (100, [], (jenc (jlg 5))), (100, [], (jenc w)), (100, [], (jenc 1)), (100, [], (jenc (jln p1))), (100, [], (jenc (jln p1)))]) (jT_product1 (d := 0) (a := jln p1) hA) (by rfl) (by rfl) (by rfl) (by rfl) ⟨rfl, rfl, trivial⟩ (by rfl) (by rfl) (by omega) (by show 23 ≤ 25; omega) (by omega) (by omega) rfl rfl ?_
  refine jT_xaload_n (v := (4, 22)) (pcN := 155) jIY_312_154 rfl rfl rfl ?_
  refine jT_callA [25, 22] (y := 181) (pcN := 158) (dC := 1) (bc1 := 1) (bc2 := 56) (c1 := 0) (c2 := 0) (as := [(4, 25), (4, 22)]) (asC := [(4, 0), (4, 1)]) (LN := [(0, (4, 0)), (1, (0, p1)), (3, (4, 22))]) (stN := []) (hsC := [(100, [], (jenc (jln p1))), (100, [], (jenc w))]) (ex := [(100, [], (jenc ((jln p1) + w)))]) (v := (4, 2)) (st2 := [(4, 26)]) (hs2 := [jzY_19, jgh, jgh, jgh, jgh, jgh, (130, [], [16, 17, 18, 19, 20, 21]), (101, [], [0, 0, 0, 0, 0, 0]), jgh, jgh, jgh, jgh, jgh, jgh, jgh, jgh, (100, [], (jenc (jlg 0))), (100, [], (jenc (jlg 1))), (100, [], (jenc (jlg 2))), (100, [], (jenc (jlg 3))), (100, [], (jenc (jlg 4))), (100, [], (jenc (jlg 5))), (100, [], (jenc w)), (100, [], (jenc 1)), (100, [], (jenc (jln p1))), (100, [], (jenc (jln p1))), (100, [], (jenc ((jln p1) + w)))]) (jT_added (d := 0) (a := jln p1) (b := w) ha hw hA hB hS) (by rfl) (by rfl) (by rfl) (by rfl) ⟨rfl, rfl, trivial⟩ (by rfl) (by rfl) (by omega) (by show 23 ≤ 26; omega) (by omega) (by omega) rfl rfl ?_
  refine jT_xiconst (k := 0) (pcN := 159) jIY_312_158 rfl ?_
  refine jT_iald (x := (-1)) (a := 26) (j := 0) (fs := []) (X := (jenc ((jln p1) + w))) (by rfl) (by rfl) (by rfl) (by rfl) (jenc_sg (Int.sign_eq_neg_one_of_neg hs)) ?_
  refine jT_eq (LN := [(0, (4, 0)), (1, (0, p1)), (3, (4, 22))]) (stN := [(0, (-1))]) (hsN := [jzY_19, jgh, jgh, jgh, jgh, jgh, (130, [], [16, 17, 18, 19, 20, 21]), (101, [], [0, 0, 0, 0, 0, 0]), jgh, jgh, jgh, jgh, jgh, jgh, jgh, jgh, (100, [], (jenc (jlg 0))), (100, [], (jenc (jlg 1))), (100, [], (jenc (jlg 2))), (100, [], (jenc (jlg 3))), (100, [], (jenc (jlg 4))), (100, [], (jenc (jlg 5))), (100, [], (jenc w)), (100, [], (jenc 1)), (100, [], (jenc (jln p1))), (100, [], (jenc (jln p1))), (100, [], (jenc ((jln p1) + w)))]) rfl rfl rfl ?_
  refine jT_xifF (t := 167) (pcN := 163) jIY_312_160 rfl (by decide +kernel) rfl rfl ?_
  refine jT_xiconst (k := 1) (pcN := 164) jIY_312_163 rfl ?_
  refine jT_xgoto (pcN := 168) jIY_312_164 rfl ?_
  refine jT_loc (LN := [(0, (4, 0))]) (by show List.Nodup [0]; decide) (by intro q hq; simp only [List.mem_cons, List.not_mem_nil, or_false] at hq; rcases hq with rfl <;> rfl) ?_
  refine jT_drop 23 (hs0 := [jzY_19, jgh, jgh, jgh, jgh, jgh, (130, [], [16, 17, 18, 19, 20, 21]), (101, [], [0, 0, 0, 0, 0, 0]), jgh, jgh, jgh, jgh, jgh, jgh, jgh, jgh, (100, [], (jenc (jlg 0))), (100, [], (jenc (jlg 1))), (100, [], (jenc (jlg 2))), (100, [], (jenc (jlg 3))), (100, [], (jenc (jlg 4))), (100, [], (jenc (jlg 5))), (100, [], (jenc w))]) (ex := [(100, [], (jenc 1)), (100, [], (jenc (jln p1))), (100, [], (jenc (jln p1))), (100, [], (jenc ((jln p1) + w)))]) rfl rfl rfl (by decide) ?_
  exact jT_ret rfl (by decide) (by show 23 ≤ 23; decide) (by omega) (by omega) ⟨rfl, rfl, rfl⟩
theorem jIY_312_167 : jmI (jm 312) 167 = (.iconst 0, 1) := by rfl
theorem jYl_sh_66_P2 {xs : List Int} {d : Nat} {p1 w : Int} (h_p1 : 2 ≤ p1 ∧ p1 ≤ 2) (ha : jlg 0 ≠ 0) (hA : (jlg 0).natAbs < 1000000000 ^ 54) (hw : w ≠ 0) (hB : w.natAbs < 1000000000 ^ 54) (hS : (jlg 0 + w).natAbs < 1000000000 ^ 54) (hs : 0 < jlg 0 + w) : jT xs (d + 5) 312 23 139 [(0, (4, 0)), (1, (0, p1)), (3, (4, 22))] [] [jzY_19, jgh, jgh, jgh, jgh, jgh, (130, [], [16, 17, 18, 19, 20, 21]), (101, [], [0, 0, 0, 0, 0, 0]), jgh, jgh, jgh, jgh, jgh, jgh, jgh, jgh, (100, [], (jenc (jlg 0))), (100, [], (jenc (jlg 1))), (100, [], (jenc (jlg 2))), (100, [], (jenc (jlg 3))), (100, [], (jenc (jlg 4))), (100, [], (jenc (jlg 5))), (100, [], (jenc w))] 1735 97160 (fun k v hsN => k = 0 ∧ v = (0, 0) ∧ hsN = [jzY_19, jgh, jgh, jgh, jgh, jgh, (130, [], [16, 17, 18, 19, 20, 21]), (101, [], [0, 0, 0, 0, 0, 0]), jgh, jgh, jgh, jgh, jgh, jgh, jgh, jgh, (100, [], (jenc (jlg 0))), (100, [], (jenc (jlg 1))), (100, [], (jenc (jlg 2))), (100, [], (jenc (jlg 3))), (100, [], (jenc (jlg 4))), (100, [], (jenc (jlg 5))), (100, [], (jenc w))]) := by
  refine jT_xaload_n (v := (4, 0)) (pcN := 140) jIY_312_139 rfl rfl rfl ?_
  refine jT_xgetf (a := 0) (t := 1) (ci := 14) (fi := 10) (c := jzY_19) (v := (1, 1)) (pcN := 143) jIY_312_140 rfl rfl rfl rfl rfl rfl rfl ?_
  refine jT_callA [] (y := 178) (pcN := 146) (dC := 1) (bc1 := 1) (bc2 := 56) (c1 := 1734) (c2 := 97104) (as := [(1, 1)]) (asC := [(1, 1)]) (LN := [(0, (4, 0)), (1, (0, p1)), (3, (4, 22))]) (stN := []) (hsC := []) (ex := [(100, [], (jenc 1))]) (v := (4, 0)) (st2 := [(4, 23)]) (hs2 := [jzY_19, jgh, jgh, jgh, jgh, jgh, (130, [], [16, 17, 18, 19, 20, 21]), (101, [], [0, 0, 0, 0, 0, 0]), jgh, jgh, jgh, jgh, jgh, jgh, jgh, jgh, (100, [], (jenc (jlg 0))), (100, [], (jenc (jlg 1))), (100, [], (jenc (jlg 2))), (100, [], (jenc (jlg 3))), (100, [], (jenc (jlg 4))), (100, [], (jenc (jlg 5))), (100, [], (jenc w)), (100, [], (jenc 1))]) (jT_big (d := 0) (v := 1) (by omega) (by omega)) (by rfl) (by rfl) (by rfl) (by rfl) trivial (by rfl) (by rfl) (by omega) (by show 23 ≤ 23; omega) (by omega) (by omega) rfl rfl ?_
  refine jT_xaload_n (v := (4, 0)) (pcN := 147) jIY_312_146 rfl rfl rfl ?_
  refine jT_xiload_n (v := (0, p1)) (pcN := 148) jIY_312_147 rfl rfl rfl ?_
  refine jT_callA [0, 1, 2, 3, 4, 5, 6, 7, 8, 9, 10, 11, 12, 13, 14, 15, 16, 17, 18, 19, 20, 21] (y := 311) (pcN := 151) (dC := 4) (bc1 := 1732) (bc2 := 96992) (c1 := 2) (c2 := 112) (as := [(4, 0), (0, p1)]) (asC := [(4, 0), (0, p1)]) (LN := [(0, (4, 0)), (1, (0, p1)), (3, (4, 22))]) (stN := [(4, 23)]) (hsC := jpY_271) (ex := []) (v := (4, 16)) (st2 := [(4, 16), (4, 23)]) (hs2 := [jzY_19, jgh, jgh, jgh, jgh, jgh, (130, [], [16, 17, 18, 19, 20, 21]), (101, [], [0, 0, 0, 0, 0, 0]), jgh, jgh, jgh, jgh, jgh, jgh, jgh, jgh, (100, [], (jenc (jlg 0))), (100, [], (jenc (jlg 1))), (100, [], (jenc (jlg 2))), (100, [], (jenc (jlg 3))), (100, [], (jenc (jlg 4))), (100, [], (jenc (jlg 5))), (100, [], (jenc w)), (100, [], (jenc 1))]) (jYl_ln_65_B (d := 0) (n := p1) (by omega)) (by rfl) (by rfl) (by rfl) (by rfl) ⟨rfl, rfl, rfl, rfl, rfl, rfl, rfl, rfl, rfl, rfl, rfl, rfl, rfl, rfl, rfl, rfl, rfl, rfl, rfl, rfl, rfl, rfl, trivial⟩ (by rfl) (by rfl) (by omega) (by show 23 ≤ 24; omega) (by omega) (by omega) rfl rfl ?_
  refine jT_callA [23, 16] (y := 179) (pcN := 154) (dC := 1) (bc1 := 1) (bc2 := 56) (c1 := 1) (c2 := 56) (as := [(4, 23), (4, 16)]) (asC := [(4, 0), (4, 1)]) (LN := [(0, (4, 0)), (1, (0, p1)), (3, (4, 22))]) (stN := []) (hsC := [(100, [], (jenc 1)), (100, [], (jenc (jlg 0)))]) (ex := [(100, [], (jenc (jlg 0)))]) (v := (4, 2)) (st2 := [(4, 24)]) (hs2 := [jzY_19, jgh, jgh, jgh, jgh, jgh, (130, [], [16, 17, 18, 19, 20, 21]), (101, [], [0, 0, 0, 0, 0, 0]), jgh, jgh, jgh, jgh, jgh, jgh, jgh, jgh, (100, [], (jenc (jlg 0))), (100, [], (jenc (jlg 1))), (100, [], (jenc (jlg 2))), (100, [], (jenc (jlg 3))), (100, [], (jenc (jlg 4))), (100, [], (jenc (jlg 5))), (100, [], (jenc w)), (100, [], (jenc 1)), (100, [], (jenc (jlg 0)))]) (jT_product1 (d := 0) (a := jlg 0) hA) (by rfl) (by rfl) (by rfl) (by rfl) ⟨rfl, rfl, trivial⟩ (by rfl) (by rfl) (by omega) (by show 23 ≤ 24; omega) (by omega) (by omega) rfl rfl ?_
  refine jT_xaload_n (v := (4, 22)) (pcN := 155) jIY_312_154 rfl rfl rfl ?_
  refine jT_callA [24, 22] (y := 181) (pcN := 158) (dC := 1) (bc1 := 1) (bc2 := 56) (c1 := 0) (c2 := 0) (as := [(4, 24), (4, 22)]) (asC := [(4, 0), (4, 1)]) (LN := [(0, (4, 0)), (1, (0, p1)), (3, (4, 22))]) (stN := []) (hsC := [(100, [], (jenc (jlg 0))), (100, [], (jenc w))]) (ex := [(100, [], (jenc ((jlg 0) + w)))]) (v := (4, 2)) (st2 := [(4, 25)]) (hs2 := [jzY_19, jgh, jgh, jgh, jgh, jgh, (130, [], [16, 17, 18, 19, 20, 21]), (101, [], [0, 0, 0, 0, 0, 0]), jgh, jgh, jgh, jgh, jgh, jgh, jgh, jgh, (100, [], (jenc (jlg 0))), (100, [], (jenc (jlg 1))), (100, [], (jenc (jlg 2))), (100, [], (jenc (jlg 3))), (100, [], (jenc (jlg 4))), (100, [], (jenc (jlg 5))), (100, [], (jenc w)), (100, [], (jenc 1)), (100, [], (jenc (jlg 0))), (100, [], (jenc ((jlg 0) + w)))]) (jT_added (d := 0) (a := jlg 0) (b := w) ha hw hA hB hS) (by rfl) (by rfl) (by rfl) (by rfl) ⟨rfl, rfl, trivial⟩ (by rfl) (by rfl) (by omega) (by show 23 ≤ 25; omega) (by omega) (by omega) rfl rfl ?_
  refine jT_xiconst (k := 0) (pcN := 159) jIY_312_158 rfl ?_
  refine jT_iald (x := 1) (a := 25) (j := 0) (fs := []) (X := (jenc ((jlg 0) + w))) (by rfl) (by rfl) (by rfl) (by rfl) (jenc_sg (Int.sign_eq_one_of_pos hs)) ?_
  refine jT_eq (LN := [(0, (4, 0)), (1, (0, p1)), (3, (4, 22))]) (stN := [(0, 1)]) (hsN := [jzY_19, jgh, jgh, jgh, jgh, jgh, (130, [], [16, 17, 18, 19, 20, 21]), (101, [], [0, 0, 0, 0, 0, 0]), jgh, jgh, jgh, jgh, jgh, jgh, jgh, jgh, (100, [], (jenc (jlg 0))), (100, [], (jenc (jlg 1))), (100, [], (jenc (jlg 2))), (100, [], (jenc (jlg 3))), (100, [], (jenc (jlg 4))), (100, [], (jenc (jlg 5))), (100, [], (jenc w)), (100, [], (jenc 1)), (100, [], (jenc (jlg 0))), (100, [], (jenc ((jlg 0) + w)))]) rfl rfl rfl ?_
  refine jT_xifT (pcN := 167) jIY_312_160 rfl (by decide +kernel) rfl ?_
  refine jT_xiconst (k := 0) (pcN := 168) jIY_312_167 rfl ?_
  refine jT_loc (LN := [(0, (4, 0))]) (by show List.Nodup [0]; decide) (by intro q hq; simp only [List.mem_cons, List.not_mem_nil, or_false] at hq; rcases hq with rfl <;> rfl) ?_
  refine jT_drop 23 (hs0 := [jzY_19, jgh, jgh, jgh, jgh, jgh, (130, [], [16, 17, 18, 19, 20, 21]), (101, [], [0, 0, 0, 0, 0, 0]), jgh, jgh, jgh, jgh, jgh, jgh, jgh, jgh, (100, [], (jenc (jlg 0))), (100, [], (jenc (jlg 1))), (100, [], (jenc (jlg 2))), (100, [], (jenc (jlg 3))), (100, [], (jenc (jlg 4))), (100, [], (jenc (jlg 5))), (100, [], (jenc w))]) (ex := [(100, [], (jenc 1)), (100, [], (jenc (jlg 0))), (100, [], (jenc ((jlg 0) + w)))]) rfl rfl rfl (by decide) ?_
  exact jT_ret rfl (by decide) (by show 23 ≤ 23; decide) (by omega) (by omega) ⟨rfl, rfl, rfl⟩
def jpY_391 : List JC := [jzY_19, jgh, jgh, jgh, jgh, jgh, (130, [], [16, 17, 18, 19, 20, 21]), (101, [], [0, 0, 0, 0, 0, 0]), jgh, jgh, jgh, jgh, jgh, jgh, jgh, jgh, (100, [], (jenc (jlg 0))), (100, [], (jenc (jlg 1))), (100, [], (jenc (jlg 2))), (100, [], (jenc (jlg 3))), (100, [], (jenc (jlg 4))), (100, [], (jenc (jlg 5))), (100, [], (jenc 0)), (100, [], (jenc 1))]
def jpY_392 : List JC := [jzY_19, jgh, jgh, jgh, jgh, jgh, (130, [], [16, 17, 18, 19, 20, 21]), (101, [], [0, 0, 0, 0, 0, 0]), jgh, jgh, jgh, jgh, jgh, jgh, jgh, jgh, (100, [], (jenc (jlg 0))), (100, [], (jenc (jlg 1))), (100, [], (jenc (jlg 2))), (100, [], (jenc (jlg 3))), (100, [], (jenc (jlg 4))), (100, [], (jenc (jlg 5))), (100, [], (jenc 0)), (100, [], (jenc 1)), (100, [], (jenc (jlg 0)))]
theorem jYl_sh_66_P2z {xs : List Int} {d : Nat} {p1 : Int} (h_p1 : 2 ≤ p1 ∧ p1 ≤ 2) (ha : jlg 0 ≠ 0) (hA : (jlg 0).natAbs < 1000000000 ^ 54) (hs : 0 < jlg 0) : jT xs (d + 5) 312 23 139 [(0, (4, 0)), (1, (0, p1)), (3, (4, 22))] [] [jzY_19, jgh, jgh, jgh, jgh, jgh, (130, [], [16, 17, 18, 19, 20, 21]), (101, [], [0, 0, 0, 0, 0, 0]), jgh, jgh, jgh, jgh, jgh, jgh, jgh, jgh, (100, [], (jenc (jlg 0))), (100, [], (jenc (jlg 1))), (100, [], (jenc (jlg 2))), (100, [], (jenc (jlg 3))), (100, [], (jenc (jlg 4))), (100, [], (jenc (jlg 5))), (100, [], (jenc 0))] 1735 97160 (fun k v hsN => k = 0 ∧ v = (0, 0) ∧ hsN = [jzY_19, jgh, jgh, jgh, jgh, jgh, (130, [], [16, 17, 18, 19, 20, 21]), (101, [], [0, 0, 0, 0, 0, 0]), jgh, jgh, jgh, jgh, jgh, jgh, jgh, jgh, (100, [], (jenc (jlg 0))), (100, [], (jenc (jlg 1))), (100, [], (jenc (jlg 2))), (100, [], (jenc (jlg 3))), (100, [], (jenc (jlg 4))), (100, [], (jenc (jlg 5))), (100, [], (jenc 0))]) := by
  refine jT_xaload_n (v := (4, 0)) (pcN := 140) jIY_312_139 rfl rfl rfl ?_
  refine jT_xgetf (a := 0) (t := 1) (ci := 14) (fi := 10) (c := jzY_19) (v := (1, 1)) (pcN := 143) jIY_312_140 rfl rfl rfl rfl rfl rfl rfl ?_
  refine jT_fA [] 23 (y := 178) (pcN := 146) (dC := 1) (bc1 := 1) (bc2 := 56) (c1 := 1734) (c2 := 97104) (as := [(1, 1)]) (asC := [(1, 1)]) (LN := [(0, (4, 0)), (1, (0, p1)), (3, (4, 22))]) (stN := []) (hsC := []) (ex := [(100, [], (jenc 1))]) (v := (4, 0)) (st2 := [(4, 23)]) (hs2 := jpY_391) (jT_big (d := 0) (v := 1) (by omega) (by omega)) (by rfl) (by rfl) (by decide +kernel) (by rfl) (by rfl) (by omega) (by omega) (by omega) (by omega) rfl (by decide +kernel) ?_
  refine jT_xaload_n (v := (4, 0)) (pcN := 147) jIY_312_146 rfl rfl rfl ?_
  refine jT_xiload_n (v := (0, p1)) (pcN := 148) jIY_312_147 rfl rfl rfl ?_
  refine jT_fR [0, 1, 2, 3, 4, 5, 6, 7, 8, 9, 10, 11, 12, 13, 14, 15, 16, 17, 18, 19, 20, 21] 24 (y := 311) (pcN := 151) (dC := 4) (bc1 := 1732) (bc2 := 96992) (c1 := 2) (c2 := 112) (as := [(4, 0), (0, p1)]) (asC := [(4, 0), (0, p1)]) (LN := [(0, (4, 0)), (1, (0, p1)), (3, (4, 22))]) (stN := [(4, 23)]) (hsC := jpY_271) (v := (4, 16)) (st2 := [(4, 16), (4, 23)]) (jYl_ln_65_B (d := 0) (n := p1) (by omega)) (by rfl) (by rfl) (by decide +kernel) (by rfl) (by rfl) (by omega) (by omega) (by omega) (by omega) rfl ?_
  refine jT_fA [23, 16] 24 (y := 179) (pcN := 154) (dC := 1) (bc1 := 1) (bc2 := 56) (c1 := 1) (c2 := 56) (as := [(4, 23), (4, 16)]) (asC := [(4, 0), (4, 1)]) (LN := [(0, (4, 0)), (1, (0, p1)), (3, (4, 22))]) (stN := []) (hsC := [(100, [], (jenc 1)), (100, [], (jenc (jlg 0)))]) (ex := [(100, [], (jenc (jlg 0)))]) (v := (4, 2)) (st2 := [(4, 24)]) (hs2 := jpY_392) (jT_product1 (d := 0) (a := jlg 0) hA) (by rfl) (by rfl) (by decide +kernel) (by rfl) (by rfl) (by omega) (by omega) (by omega) (by omega) rfl (by decide +kernel) ?_
  refine jT_xaload_n (v := (4, 22)) (pcN := 155) jIY_312_154 rfl rfl rfl ?_
  refine jT_fR [24, 22] 25 (y := 181) (pcN := 158) (dC := 0) (bc1 := 0) (bc2 := 0) (c1 := 1) (c2 := 56) (as := [(4, 24), (4, 22)]) (asC := [(4, 0), (4, 1)]) (LN := [(0, (4, 0)), (1, (0, p1)), (3, (4, 22))]) (stN := []) (hsC := [(100, [], (jenc (jlg 0))), (100, [], (jenc 0))]) (v := (4, 0)) (st2 := [(4, 24)]) (jT_added_0r (d := 0) (a := jlg 0) ha) (by rfl) (by rfl) (by decide +kernel) (by rfl) (by rfl) (by omega) (by omega) (by omega) (by omega) rfl ?_
  refine jT_xiconst (k := 0) (pcN := 159) jIY_312_158 rfl ?_
  refine jT_iald (x := 1) (a := 24) (j := 0) (fs := []) (X := (jenc (jlg 0))) (by rfl) (by rfl) (by rfl) (by rfl) (jenc_sg (Int.sign_eq_one_of_pos hs)) ?_
  refine jT_eq (LN := [(0, (4, 0)), (1, (0, p1)), (3, (4, 22))]) (stN := [(0, 1)]) (hsN := jpY_392) rfl rfl rfl ?_
  refine jT_xifT (pcN := 167) jIY_312_160 rfl (by decide +kernel) rfl ?_
  refine jT_xiconst (k := 0) (pcN := 168) jIY_312_167 rfl ?_
  refine jT_loc (LN := [(0, (4, 0))]) (by show List.Nodup [0]; decide) (by intro q hq; simp only [List.mem_cons, List.not_mem_nil, or_false] at hq; rcases hq with rfl <;> rfl) ?_
  refine jT_drop 23 (hs0 := [jzY_19, jgh, jgh, jgh, jgh, jgh, (130, [], [16, 17, 18, 19, 20, 21]), (101, [], [0, 0, 0, 0, 0, 0]), jgh, jgh, jgh, jgh, jgh, jgh, jgh, jgh, (100, [], (jenc (jlg 0))), (100, [], (jenc (jlg 1))), (100, [], (jenc (jlg 2))), (100, [], (jenc (jlg 3))), (100, [], (jenc (jlg 4))), (100, [], (jenc (jlg 5))), (100, [], (jenc 0))]) (ex := [(100, [], (jenc 1)), (100, [], (jenc (jlg 0)))]) rfl rfl rfl (by decide) ?_
  exact jT_ret rfl (by decide) (by show 23 ≤ 23; decide) (by omega) (by omega) ⟨rfl, rfl, rfl⟩
theorem jYl_sh_66_P3 {xs : List Int} {d : Nat} {p1 w : Int} (h_p1 : 3 ≤ p1 ∧ p1 ≤ 1000000000) (ha : jln p1 ≠ 0) (hA : (jln p1).natAbs < 1000000000 ^ 54) (hw : w ≠ 0) (hB : w.natAbs < 1000000000 ^ 54) (hS : (jln p1 + w).natAbs < 1000000000 ^ 54) (hs : 0 < jln p1 + w) : jT xs (d + 5) 312 23 139 [(0, (4, 0)), (1, (0, p1)), (3, (4, 22))] [] [jzY_19, jgh, jgh, jgh, jgh, jgh, (130, [], [16, 17, 18, 19, 20, 21]), (101, [], [0, 0, 0, 0, 0, 0]), jgh, jgh, jgh, jgh, jgh, jgh, jgh, jgh, (100, [], (jenc (jlg 0))), (100, [], (jenc (jlg 1))), (100, [], (jenc (jlg 2))), (100, [], (jenc (jlg 3))), (100, [], (jenc (jlg 4))), (100, [], (jenc (jlg 5))), (100, [], (jenc w))] 1735 97160 (fun k v hsN => k = 0 ∧ v = (0, 0) ∧ hsN = [jzY_19, jgh, jgh, jgh, jgh, jgh, (130, [], [16, 17, 18, 19, 20, 21]), (101, [], [0, 0, 0, 0, 0, 0]), jgh, jgh, jgh, jgh, jgh, jgh, jgh, jgh, (100, [], (jenc (jlg 0))), (100, [], (jenc (jlg 1))), (100, [], (jenc (jlg 2))), (100, [], (jenc (jlg 3))), (100, [], (jenc (jlg 4))), (100, [], (jenc (jlg 5))), (100, [], (jenc w))]) := by
  refine jT_xaload_n (v := (4, 0)) (pcN := 140) jIY_312_139 rfl rfl rfl ?_
  refine jT_xgetf (a := 0) (t := 1) (ci := 14) (fi := 10) (c := jzY_19) (v := (1, 1)) (pcN := 143) jIY_312_140 rfl rfl rfl rfl rfl rfl rfl ?_
  refine jT_callA [] (y := 178) (pcN := 146) (dC := 1) (bc1 := 1) (bc2 := 56) (c1 := 1734) (c2 := 97104) (as := [(1, 1)]) (asC := [(1, 1)]) (LN := [(0, (4, 0)), (1, (0, p1)), (3, (4, 22))]) (stN := []) (hsC := []) (ex := [(100, [], (jenc 1))]) (v := (4, 0)) (st2 := [(4, 23)]) (hs2 := [jzY_19, jgh, jgh, jgh, jgh, jgh, (130, [], [16, 17, 18, 19, 20, 21]), (101, [], [0, 0, 0, 0, 0, 0]), jgh, jgh, jgh, jgh, jgh, jgh, jgh, jgh, (100, [], (jenc (jlg 0))), (100, [], (jenc (jlg 1))), (100, [], (jenc (jlg 2))), (100, [], (jenc (jlg 3))), (100, [], (jenc (jlg 4))), (100, [], (jenc (jlg 5))), (100, [], (jenc w)), (100, [], (jenc 1))]) (jT_big (d := 0) (v := 1) (by omega) (by omega)) (by rfl) (by rfl) (by rfl) (by rfl) trivial (by rfl) (by rfl) (by omega) (by show 23 ≤ 23; omega) (by omega) (by omega) rfl rfl ?_
  refine jT_xaload_n (v := (4, 0)) (pcN := 147) jIY_312_146 rfl rfl rfl ?_
  refine jT_xiload_n (v := (0, p1)) (pcN := 148) jIY_312_147 rfl rfl rfl ?_
  refine jT_callA [0, 1, 2, 3, 4, 5, 6, 7, 8, 9, 10, 11, 12, 13, 14, 15, 16, 17, 18, 19, 20, 21] (y := 311) (pcN := 151) (dC := 4) (bc1 := 1732) (bc2 := 96992) (c1 := 2) (c2 := 112) (as := [(4, 0), (0, p1)]) (asC := [(4, 0), (0, p1)]) (LN := [(0, (4, 0)), (1, (0, p1)), (3, (4, 22))]) (stN := [(4, 23)]) (hsC := jpY_271) (ex := [(100, [], (jenc (jln p1)))]) (v := (4, 22)) (st2 := [(4, 24), (4, 23)]) (hs2 := [jzY_19, jgh, jgh, jgh, jgh, jgh, (130, [], [16, 17, 18, 19, 20, 21]), (101, [], [0, 0, 0, 0, 0, 0]), jgh, jgh, jgh, jgh, jgh, jgh, jgh, jgh, (100, [], (jenc (jlg 0))), (100, [], (jenc (jlg 1))), (100, [], (jenc (jlg 2))), (100, [], (jenc (jlg 3))), (100, [], (jenc (jlg 4))), (100, [], (jenc (jlg 5))), (100, [], (jenc w)), (100, [], (jenc 1)), (100, [], (jenc (jln p1)))]) (jYl_ln_65_A (d := 0) (n := p1) (by omega) (by omega)) (by rfl) (by rfl) (by rfl) (by rfl) ⟨rfl, rfl, rfl, rfl, rfl, rfl, rfl, rfl, rfl, rfl, rfl, rfl, rfl, rfl, rfl, rfl, rfl, rfl, rfl, rfl, rfl, rfl, trivial⟩ (by rfl) (by rfl) (by omega) (by show 23 ≤ 24; omega) (by omega) (by omega) rfl rfl ?_
  refine jT_callA [23, 24] (y := 179) (pcN := 154) (dC := 1) (bc1 := 1) (bc2 := 56) (c1 := 1) (c2 := 56) (as := [(4, 23), (4, 24)]) (asC := [(4, 0), (4, 1)]) (LN := [(0, (4, 0)), (1, (0, p1)), (3, (4, 22))]) (stN := []) (hsC := [(100, [], (jenc 1)), (100, [], (jenc (jln p1)))]) (ex := [(100, [], (jenc (jln p1)))]) (v := (4, 2)) (st2 := [(4, 25)]) (hs2 := [jzY_19, jgh, jgh, jgh, jgh, jgh, (130, [], [16, 17, 18, 19, 20, 21]), (101, [], [0, 0, 0, 0, 0, 0]), jgh, jgh, jgh, jgh, jgh, jgh, jgh, jgh, (100, [], (jenc (jlg 0))), (100, [], (jenc (jlg 1))), (100, [], (jenc (jlg 2))), (100, [], (jenc (jlg 3))), (100, [], (jenc (jlg 4))), (100, [], (jenc (jlg 5))), (100, [], (jenc w)), (100, [], (jenc 1)), (100, [], (jenc (jln p1))), (100, [], (jenc (jln p1)))]) (jT_product1 (d := 0) (a := jln p1) hA) (by rfl) (by rfl) (by rfl) (by rfl) ⟨rfl, rfl, trivial⟩ (by rfl) (by rfl) (by omega) (by show 23 ≤ 25; omega) (by omega) (by omega) rfl rfl ?_
  refine jT_xaload_n (v := (4, 22)) (pcN := 155) jIY_312_154 rfl rfl rfl ?_
  refine jT_callA [25, 22] (y := 181) (pcN := 158) (dC := 1) (bc1 := 1) (bc2 := 56) (c1 := 0) (c2 := 0) (as := [(4, 25), (4, 22)]) (asC := [(4, 0), (4, 1)]) (LN := [(0, (4, 0)), (1, (0, p1)), (3, (4, 22))]) (stN := []) (hsC := [(100, [], (jenc (jln p1))), (100, [], (jenc w))]) (ex := [(100, [], (jenc ((jln p1) + w)))]) (v := (4, 2)) (st2 := [(4, 26)]) (hs2 := [jzY_19, jgh, jgh, jgh, jgh, jgh, (130, [], [16, 17, 18, 19, 20, 21]), (101, [], [0, 0, 0, 0, 0, 0]), jgh, jgh, jgh, jgh, jgh, jgh, jgh, jgh, (100, [], (jenc (jlg 0))), (100, [], (jenc (jlg 1))), (100, [], (jenc (jlg 2))), (100, [], (jenc (jlg 3))), (100, [], (jenc (jlg 4))), (100, [], (jenc (jlg 5))), (100, [], (jenc w)), (100, [], (jenc 1)), (100, [], (jenc (jln p1))), (100, [], (jenc (jln p1))), (100, [], (jenc ((jln p1) + w)))]) (jT_added (d := 0) (a := jln p1) (b := w) ha hw hA hB hS) (by rfl) (by rfl) (by rfl) (by rfl) ⟨rfl, rfl, trivial⟩ (by rfl) (by rfl) (by omega) (by show 23 ≤ 26; omega) (by omega) (by omega) rfl rfl ?_
  refine jT_xiconst (k := 0) (pcN := 159) jIY_312_158 rfl ?_
  refine jT_iald (x := 1) (a := 26) (j := 0) (fs := []) (X := (jenc ((jln p1) + w))) (by rfl) (by rfl) (by rfl) (by rfl) (jenc_sg (Int.sign_eq_one_of_pos hs)) ?_
  refine jT_eq (LN := [(0, (4, 0)), (1, (0, p1)), (3, (4, 22))]) (stN := [(0, 1)]) (hsN := [jzY_19, jgh, jgh, jgh, jgh, jgh, (130, [], [16, 17, 18, 19, 20, 21]), (101, [], [0, 0, 0, 0, 0, 0]), jgh, jgh, jgh, jgh, jgh, jgh, jgh, jgh, (100, [], (jenc (jlg 0))), (100, [], (jenc (jlg 1))), (100, [], (jenc (jlg 2))), (100, [], (jenc (jlg 3))), (100, [], (jenc (jlg 4))), (100, [], (jenc (jlg 5))), (100, [], (jenc w)), (100, [], (jenc 1)), (100, [], (jenc (jln p1))), (100, [], (jenc (jln p1))), (100, [], (jenc ((jln p1) + w)))]) rfl rfl rfl ?_
  refine jT_xifT (pcN := 167) jIY_312_160 rfl (by decide +kernel) rfl ?_
  refine jT_xiconst (k := 0) (pcN := 168) jIY_312_167 rfl ?_
  refine jT_loc (LN := [(0, (4, 0))]) (by show List.Nodup [0]; decide) (by intro q hq; simp only [List.mem_cons, List.not_mem_nil, or_false] at hq; rcases hq with rfl <;> rfl) ?_
  refine jT_drop 23 (hs0 := [jzY_19, jgh, jgh, jgh, jgh, jgh, (130, [], [16, 17, 18, 19, 20, 21]), (101, [], [0, 0, 0, 0, 0, 0]), jgh, jgh, jgh, jgh, jgh, jgh, jgh, jgh, (100, [], (jenc (jlg 0))), (100, [], (jenc (jlg 1))), (100, [], (jenc (jlg 2))), (100, [], (jenc (jlg 3))), (100, [], (jenc (jlg 4))), (100, [], (jenc (jlg 5))), (100, [], (jenc w))]) (ex := [(100, [], (jenc 1)), (100, [], (jenc (jln p1))), (100, [], (jenc (jln p1))), (100, [], (jenc ((jln p1) + w)))]) rfl rfl rfl (by decide) ?_
  exact jT_ret rfl (by decide) (by show 23 ≤ 23; decide) (by omega) (by omega) ⟨rfl, rfl, rfl⟩
theorem jYl_sh_66_P3z {xs : List Int} {d : Nat} {p1 : Int} (h_p1 : 3 ≤ p1 ∧ p1 ≤ 1000000000) (ha : jln p1 ≠ 0) (hA : (jln p1).natAbs < 1000000000 ^ 54) (hs : 0 < jln p1) : jT xs (d + 5) 312 23 139 [(0, (4, 0)), (1, (0, p1)), (3, (4, 22))] [] [jzY_19, jgh, jgh, jgh, jgh, jgh, (130, [], [16, 17, 18, 19, 20, 21]), (101, [], [0, 0, 0, 0, 0, 0]), jgh, jgh, jgh, jgh, jgh, jgh, jgh, jgh, (100, [], (jenc (jlg 0))), (100, [], (jenc (jlg 1))), (100, [], (jenc (jlg 2))), (100, [], (jenc (jlg 3))), (100, [], (jenc (jlg 4))), (100, [], (jenc (jlg 5))), (100, [], (jenc 0))] 1735 97160 (fun k v hsN => k = 0 ∧ v = (0, 0) ∧ hsN = [jzY_19, jgh, jgh, jgh, jgh, jgh, (130, [], [16, 17, 18, 19, 20, 21]), (101, [], [0, 0, 0, 0, 0, 0]), jgh, jgh, jgh, jgh, jgh, jgh, jgh, jgh, (100, [], (jenc (jlg 0))), (100, [], (jenc (jlg 1))), (100, [], (jenc (jlg 2))), (100, [], (jenc (jlg 3))), (100, [], (jenc (jlg 4))), (100, [], (jenc (jlg 5))), (100, [], (jenc 0))]) := by
  refine jT_xaload_n (v := (4, 0)) (pcN := 140) jIY_312_139 rfl rfl rfl ?_
  refine jT_xgetf (a := 0) (t := 1) (ci := 14) (fi := 10) (c := jzY_19) (v := (1, 1)) (pcN := 143) jIY_312_140 rfl rfl rfl rfl rfl rfl rfl ?_
  refine jT_fA [] 23 (y := 178) (pcN := 146) (dC := 1) (bc1 := 1) (bc2 := 56) (c1 := 1734) (c2 := 97104) (as := [(1, 1)]) (asC := [(1, 1)]) (LN := [(0, (4, 0)), (1, (0, p1)), (3, (4, 22))]) (stN := []) (hsC := []) (ex := [(100, [], (jenc 1))]) (v := (4, 0)) (st2 := [(4, 23)]) (hs2 := jpY_391) (jT_big (d := 0) (v := 1) (by omega) (by omega)) (by rfl) (by rfl) (by decide +kernel) (by rfl) (by rfl) (by omega) (by omega) (by omega) (by omega) rfl (by decide +kernel) ?_
  refine jT_xaload_n (v := (4, 0)) (pcN := 147) jIY_312_146 rfl rfl rfl ?_
  refine jT_xiload_n (v := (0, p1)) (pcN := 148) jIY_312_147 rfl rfl rfl ?_
  refine jT_fA [0, 1, 2, 3, 4, 5, 6, 7, 8, 9, 10, 11, 12, 13, 14, 15, 16, 17, 18, 19, 20, 21] 24 (y := 311) (pcN := 151) (dC := 4) (bc1 := 1732) (bc2 := 96992) (c1 := 2) (c2 := 112) (as := [(4, 0), (0, p1)]) (asC := [(4, 0), (0, p1)]) (LN := [(0, (4, 0)), (1, (0, p1)), (3, (4, 22))]) (stN := [(4, 23)]) (hsC := jpY_271) (ex := [(100, [], (jenc (jln p1)))]) (v := (4, 22)) (st2 := [(4, 24), (4, 23)]) (hs2 := [jzY_19, jgh, jgh, jgh, jgh, jgh, (130, [], [16, 17, 18, 19, 20, 21]), (101, [], [0, 0, 0, 0, 0, 0]), jgh, jgh, jgh, jgh, jgh, jgh, jgh, jgh, (100, [], (jenc (jlg 0))), (100, [], (jenc (jlg 1))), (100, [], (jenc (jlg 2))), (100, [], (jenc (jlg 3))), (100, [], (jenc (jlg 4))), (100, [], (jenc (jlg 5))), (100, [], (jenc 0)), (100, [], (jenc 1)), (100, [], (jenc (jln p1)))]) (jYl_ln_65_A (d := 0) (n := p1) (by omega) (by omega)) (by rfl) (by rfl) (by decide +kernel) (by rfl) (by rfl) (by omega) (by omega) (by omega) (by omega) rfl rfl ?_
  refine jT_callA [23, 24] (y := 179) (pcN := 154) (dC := 1) (bc1 := 1) (bc2 := 56) (c1 := 1) (c2 := 56) (as := [(4, 23), (4, 24)]) (asC := [(4, 0), (4, 1)]) (LN := [(0, (4, 0)), (1, (0, p1)), (3, (4, 22))]) (stN := []) (hsC := [(100, [], (jenc 1)), (100, [], (jenc (jln p1)))]) (ex := [(100, [], (jenc (jln p1)))]) (v := (4, 2)) (st2 := [(4, 25)]) (hs2 := [jzY_19, jgh, jgh, jgh, jgh, jgh, (130, [], [16, 17, 18, 19, 20, 21]), (101, [], [0, 0, 0, 0, 0, 0]), jgh, jgh, jgh, jgh, jgh, jgh, jgh, jgh, (100, [], (jenc (jlg 0))), (100, [], (jenc (jlg 1))), (100, [], (jenc (jlg 2))), (100, [], (jenc (jlg 3))), (100, [], (jenc (jlg 4))), (100, [], (jenc (jlg 5))), (100, [], (jenc 0)), (100, [], (jenc 1)), (100, [], (jenc (jln p1))), (100, [], (jenc (jln p1)))]) (jT_product1 (d := 0) (a := jln p1) hA) (by rfl) (by rfl) (by rfl) (by rfl) ⟨rfl, rfl, trivial⟩ (by rfl) (by rfl) (by omega) (by show 23 ≤ 25; omega) (by omega) (by omega) rfl rfl ?_
  refine jT_xaload_n (v := (4, 22)) (pcN := 155) jIY_312_154 rfl rfl rfl ?_
  refine jT_callA [25, 22] (y := 181) (pcN := 158) (dC := 0) (bc1 := 0) (bc2 := 0) (c1 := 1) (c2 := 56) (as := [(4, 25), (4, 22)]) (asC := [(4, 0), (4, 1)]) (LN := [(0, (4, 0)), (1, (0, p1)), (3, (4, 22))]) (stN := []) (hsC := [(100, [], (jenc (jln p1))), (100, [], (jenc 0))]) (ex := []) (v := (4, 0)) (st2 := [(4, 25)]) (hs2 := [jzY_19, jgh, jgh, jgh, jgh, jgh, (130, [], [16, 17, 18, 19, 20, 21]), (101, [], [0, 0, 0, 0, 0, 0]), jgh, jgh, jgh, jgh, jgh, jgh, jgh, jgh, (100, [], (jenc (jlg 0))), (100, [], (jenc (jlg 1))), (100, [], (jenc (jlg 2))), (100, [], (jenc (jlg 3))), (100, [], (jenc (jlg 4))), (100, [], (jenc (jlg 5))), (100, [], (jenc 0)), (100, [], (jenc 1)), (100, [], (jenc (jln p1))), (100, [], (jenc (jln p1)))]) (jT_added_0r (d := 0) (a := jln p1) ha) (by rfl) (by rfl) (by rfl) (by rfl) ⟨rfl, rfl, trivial⟩ (by rfl) (by rfl) (by omega) (by show 23 ≤ 26; omega) (by omega) (by omega) rfl rfl ?_
  refine jT_xiconst (k := 0) (pcN := 159) jIY_312_158 rfl ?_
  refine jT_iald (x := 1) (a := 25) (j := 0) (fs := []) (X := (jenc (jln p1))) (by rfl) (by rfl) (by rfl) (by rfl) (jenc_sg (Int.sign_eq_one_of_pos hs)) ?_
  refine jT_eq (LN := [(0, (4, 0)), (1, (0, p1)), (3, (4, 22))]) (stN := [(0, 1)]) (hsN := [jzY_19, jgh, jgh, jgh, jgh, jgh, (130, [], [16, 17, 18, 19, 20, 21]), (101, [], [0, 0, 0, 0, 0, 0]), jgh, jgh, jgh, jgh, jgh, jgh, jgh, jgh, (100, [], (jenc (jlg 0))), (100, [], (jenc (jlg 1))), (100, [], (jenc (jlg 2))), (100, [], (jenc (jlg 3))), (100, [], (jenc (jlg 4))), (100, [], (jenc (jlg 5))), (100, [], (jenc 0)), (100, [], (jenc 1)), (100, [], (jenc (jln p1))), (100, [], (jenc (jln p1)))]) rfl rfl rfl ?_
  refine jT_xifT (pcN := 167) jIY_312_160 rfl (by decide +kernel) rfl ?_
  refine jT_xiconst (k := 0) (pcN := 168) jIY_312_167 rfl ?_
  refine jT_loc (LN := [(0, (4, 0))]) (by show List.Nodup [0]; decide) (by intro q hq; simp only [List.mem_cons, List.not_mem_nil, or_false] at hq; rcases hq with rfl <;> rfl) ?_
  refine jT_drop 23 (hs0 := [jzY_19, jgh, jgh, jgh, jgh, jgh, (130, [], [16, 17, 18, 19, 20, 21]), (101, [], [0, 0, 0, 0, 0, 0]), jgh, jgh, jgh, jgh, jgh, jgh, jgh, jgh, (100, [], (jenc (jlg 0))), (100, [], (jenc (jlg 1))), (100, [], (jenc (jlg 2))), (100, [], (jenc (jlg 3))), (100, [], (jenc (jlg 4))), (100, [], (jenc (jlg 5))), (100, [], (jenc 0))]) (ex := [(100, [], (jenc 1)), (100, [], (jenc (jln p1))), (100, [], (jenc (jln p1)))]) rfl rfl rfl (by decide) ?_
  exact jT_ret rfl (by decide) (by show 23 ≤ 23; decide) (by omega) (by omega) ⟨rfl, rfl, rfl⟩
theorem jYl_sh_66_1 {xs : List Int} {d : Nat} {p1 p2 w : Int} (h_p1 : 1 ≤ p1 ∧ p1 ≤ 1000000000) (h_p2 : 1 ≤ p2 ∧ p2 ≤ 1000000000) (hw : w = -jln p2) (hc : p1 ≤ p2) : jT xs (d + 5) 312 23 0 [(0, (4, 0)), (1, (0, p1)), (2, (0, p2)), (3, (4, 22))] [] [jzY_19, jgh, jgh, jgh, jgh, jgh, (130, [], [16, 17, 18, 19, 20, 21]), (101, [], [0, 0, 0, 0, 0, 0]), jgh, jgh, jgh, jgh, jgh, jgh, jgh, jgh, (100, [], (jenc (jlg 0))), (100, [], (jenc (jlg 1))), (100, [], (jenc (jlg 2))), (100, [], (jenc (jlg 3))), (100, [], (jenc (jlg 4))), (100, [], (jenc (jlg 5))), (100, [], (jenc w))] 1736 97166 (fun k v hsN => k = 0 ∧ v = (0, 1) ∧ hsN = [jzY_19, jgh, jgh, jgh, jgh, jgh, (130, [], [16, 17, 18, 19, 20, 21]), (101, [], [0, 0, 0, 0, 0, 0]), jgh, jgh, jgh, jgh, jgh, jgh, jgh, jgh, (100, [], (jenc (jlg 0))), (100, [], (jenc (jlg 1))), (100, [], (jenc (jlg 2))), (100, [], (jenc (jlg 3))), (100, [], (jenc (jlg 4))), (100, [], (jenc (jlg 5))), (100, [], (jenc w))]) := by
  refine jYl_sh_66_S (b1 := 1735) (b2 := 97160) h_p1 h_p2 ?_
  have hu1 := jyu_b h_p1.1 h_p1.2
  have hu2 := jyu_b h_p2.1 h_p2.2
  by_cases hu : jyu5 p1 = jyu5 p2
  · have hs := jyh h_p1 h_p2 hu
    obtain ⟨a0, a1, a2, a3, a4, a5⟩ := jyc_b p1
    obtain ⟨e0, e1, e2, e3, e4, e5⟩ := jyc_b p2
    rw [hu]
    exact jT.mono (jYl_sh_66_E1 (d := d) (r0 := jyc0 p1 - jyc0 p2) (r1 := jyc1 p1 - jyc1 p2) (r2 := jyc2 p1 - jyc2 p2) (r3 := jyc3 p1 - jyc3 p2) (r4 := jyc4 p1 - jyc4 p2) (r5 := jyc5 p1 - jyc5 p2) h_p1 (jyr a0 e0) (jyr a1 e1) (jyr a2 e2) (jyr a3 e3) (jyr a4 e4) (jyr a5 e5) hu2 (hs.mpr hc)) (by omega) (by omega) (by omega) (fun _ _ _ h => h)
  · refine jYl_sh_66_D hu1 hu2 hu ?_
    have b1 := jln_b h_p1.1 h_p1.2
    have b2 := jln_b h_p2.1 h_p2.2
    have hlt : p1 < p2 := by
      rcases Int.lt_or_eq_of_le hc with q | q
      · exact q
      · exact absurd (congrArg jyu5 q) hu
    have hl := jln_lt h_p1.1 hlt h_p2.2
    subst hw
    rcases (show p1 = 1 ∨ p1 = 2 ∨ 3 ≤ p1 by omega) with q | q | q
    · have hz : jln p1 = 0 := by rw [q]; exact jln_1
      exact jT.mono (jYl_sh_66_N1 (d := d) (by omega) hz (jyx54 b1.2) (jy_n1 hl hz)) (by omega) (by omega) (by omega) (fun _ _ _ h => h)
    · have hz : jln p1 = jlg 0 := by rw [q]; exact jln_2
      rw [hz] at hl b1
      exact jT.mono (jYl_sh_66_N2 (d := d) (by omega) jyl0.1 jyl0.2 (jy_n2 b1.1 hl) (jyw54 b2.2) (jywb b1.2 (jy_neg b2.2)) (jy_n3 hl)) (by omega) (by omega) (by omega) (fun _ _ _ h => h)
    · have hz := jln_p (show 2 ≤ p1 by omega) h_p1.2
      exact jT.mono (jYl_sh_66_N3 (d := d) ⟨q, h_p1.2⟩ (jy_p1 hz) (jyx54 b1.2) (jy_n2 b1.1 hl) (jyw54 b2.2) (jywb b1.2 (jy_neg b2.2)) (jy_n3 hl)) (by omega) (by omega) (by omega) (fun _ _ _ h => h)
theorem jYl_sh_66_0 {xs : List Int} {d : Nat} {p1 p2 w : Int} (h_p1 : 1 ≤ p1 ∧ p1 ≤ 1000000000) (h_p2 : 1 ≤ p2 ∧ p2 ≤ 1000000000) (hw : w = -jln p2) (hc : p2 < p1) : jT xs (d + 5) 312 23 0 [(0, (4, 0)), (1, (0, p1)), (2, (0, p2)), (3, (4, 22))] [] [jzY_19, jgh, jgh, jgh, jgh, jgh, (130, [], [16, 17, 18, 19, 20, 21]), (101, [], [0, 0, 0, 0, 0, 0]), jgh, jgh, jgh, jgh, jgh, jgh, jgh, jgh, (100, [], (jenc (jlg 0))), (100, [], (jenc (jlg 1))), (100, [], (jenc (jlg 2))), (100, [], (jenc (jlg 3))), (100, [], (jenc (jlg 4))), (100, [], (jenc (jlg 5))), (100, [], (jenc w))] 1736 97166 (fun k v hsN => k = 0 ∧ v = (0, 0) ∧ hsN = [jzY_19, jgh, jgh, jgh, jgh, jgh, (130, [], [16, 17, 18, 19, 20, 21]), (101, [], [0, 0, 0, 0, 0, 0]), jgh, jgh, jgh, jgh, jgh, jgh, jgh, jgh, (100, [], (jenc (jlg 0))), (100, [], (jenc (jlg 1))), (100, [], (jenc (jlg 2))), (100, [], (jenc (jlg 3))), (100, [], (jenc (jlg 4))), (100, [], (jenc (jlg 5))), (100, [], (jenc w))]) := by
  refine jYl_sh_66_S (b1 := 1735) (b2 := 97160) h_p1 h_p2 ?_
  have hu1 := jyu_b h_p1.1 h_p1.2
  have hu2 := jyu_b h_p2.1 h_p2.2
  by_cases hu : jyu5 p1 = jyu5 p2
  · have hs := jyh h_p1 h_p2 hu
    obtain ⟨a0, a1, a2, a3, a4, a5⟩ := jyc_b p1
    obtain ⟨e0, e1, e2, e3, e4, e5⟩ := jyc_b p2
    rw [hu]
    exact jT.mono (jYl_sh_66_E0 (d := d) (r0 := jyc0 p1 - jyc0 p2) (r1 := jyc1 p1 - jyc1 p2) (r2 := jyc2 p1 - jyc2 p2) (r3 := jyc3 p1 - jyc3 p2) (r4 := jyc4 p1 - jyc4 p2) (r5 := jyc5 p1 - jyc5 p2) h_p1 (jyr a0 e0) (jyr a1 e1) (jyr a2 e2) (jyr a3 e3) (jyr a4 e4) (jyr a5 e5) hu2 (Int.not_le.mp (fun q => absurd (hs.mp q) (Int.not_le.mpr hc)))) (by omega) (by omega) (by omega) (fun _ _ _ h => h)
  · refine jYl_sh_66_D hu1 hu2 hu ?_
    have b1 := jln_b h_p1.1 h_p1.2
    have b2 := jln_b h_p2.1 h_p2.2
    have hl := jln_lt h_p2.1 hc h_p1.2
    rcases (show p2 = 1 ∨ 2 ≤ p2 by omega) with g | g
    · have hz : w = 0 := by rw [hw, g, jln_1]; rfl
      subst hz
      rcases (show p1 = 2 ∨ 3 ≤ p1 by omega) with q | q
      · exact jT.mono (jYl_sh_66_P2z (d := d) (by omega) jyl0.1 jyl0.2 jyl0p) (by omega) (by omega) (by omega) (fun _ _ _ h => h)
      · have hz := jln_p (show 2 ≤ p1 by omega) h_p1.2
        exact jT.mono (jYl_sh_66_P3z (d := d) ⟨q, h_p1.2⟩ (jy_p1 hz) (jyx54 b1.2) hz) (by omega) (by omega) (by omega) (fun _ _ _ h => h)
    · have hz2 := jln_p g h_p2.2
      subst hw
      rcases (show p1 = 2 ∨ 3 ≤ p1 by omega) with q | q
      · have hz : jln p1 = jlg 0 := by rw [q]; exact jln_2
        rw [hz] at hl b1
        exact jT.mono (jYl_sh_66_P2 (d := d) (by omega) jyl0.1 jyl0.2 (jy_p2 hz2) (jyw54 b2.2) (jywb b1.2 (jy_neg b2.2)) (jy_p3 hl)) (by omega) (by omega) (by omega) (fun _ _ _ h => h)
      · have hz := jln_p (show 2 ≤ p1 by omega) h_p1.2
        exact jT.mono (jYl_sh_66_P3 (d := d) ⟨q, h_p1.2⟩ (jy_p1 hz) (jyx54 b1.2) (jy_p2 hz2) (jyw54 b2.2) (jywb b1.2 (jy_neg b2.2)) (jy_p3 hl)) (by omega) (by omega) (by omega) (fun _ _ _ h => h)
theorem jIY_310_72 : jmI (jm 310) 72 = (.iload 4, 2) := by rfl
theorem jIY_310_74 : jmI (jm 310) 74 = (.iload 5, 2) := by rfl
theorem jIY_310_76 : jmI (jm 310) 76 = (.if_icmp .ge 42, 3) := by rfl
theorem jIY_310_118 : jmI (jm 310) 118 = (.iload 4, 2) := by rfl
theorem jIY_310_79 : jmI (jm 310) 79 = (.iload 5, 2) := by rfl
theorem jIY_310_81 : jmI (jm 310) 81 = (.iload 5, 2) := by rfl
theorem jIY_310_83 : jmI (jm 310) 83 = (.iload 4, 2) := by rfl
theorem jIY_310_85 : jmI (jm 310) 85 = (.isub, 1) := by rfl
theorem jIY_310_86 : jmI (jm 310) 86 = (.iconst 2, 1) := by rfl
theorem jIY_310_88 : jmI (jm 310) 88 = (.isub, 1) := by rfl
theorem jIY_310_89 : jmI (jm 310) 89 = (.istore 6, 2) := by rfl
theorem jIY_310_91 : jmI (jm 310) 91 = (.aload_n 0, 1) := by rfl
theorem jIY_310_92 : jmI (jm 310) 92 = (.iload 6, 2) := by rfl
theorem jIY_310_94 : jmI (jm 310) 94 = (.iload_n 2, 1) := by rfl
theorem jIY_310_95 : jmI (jm 310) 95 = (.aload_n 3, 1) := by rfl
theorem jIY_310_99 : jmI (jm 310) 99 = (.ifCond .eq 10, 3) := by rfl
theorem jIY_310_109 : jmI (jm 310) 109 = (.iload 6, 2) := by rfl
theorem jIY_310_111 : jmI (jm 310) 111 = (.iconst 1, 1) := by rfl
theorem jIY_310_112 : jmI (jm 310) 112 = (.isub, 1) := by rfl
theorem jIY_310_113 : jmI (jm 310) 113 = (.istore 5, 2) := by rfl
theorem jIY_310_115 : jmI (jm 310) 115 = (.goto (-43), 3) := by rfl
theorem jIY_310_102 : jmI (jm 310) 102 = (.iload 6, 2) := by rfl
theorem jIY_310_104 : jmI (jm 310) 104 = (.istore 4, 2) := by rfl
theorem jIY_310_106 : jmI (jm 310) 106 = (.goto 9, 3) := by rfl
set_option maxHeartbeats 20000000 in
theorem jYl_st_94_L {xs : List Int} {d : Nat} {p2 : Int} (h_p2 : 1 ≤ p2 ∧ p2 ≤ 1000000) : ∀ (q : Nat) (r1 r2 : Int), 0 ≤ r1 → r1 ≤ p2 → p2 ≤ r2 → r2 ≤ 1000000000 → r2 - r1 < jp2 q → jT xs (d + 6) 310 22 72 [(5, (0, r2)), (4, (0, r1)), (3, (4, 22)), (0, (4, 0)), (2, (0, p2))] [] [jzY_19, (100, [], jS0), jgh, jgh, jgh, jgh, (130, [], [16, 17, 18, 19, 20, 21]), (101, [], [0, 0, 0, 0, 0, 0]), jgh, jgh, jgh, jgh, jgh, jgh, jgh, jgh, (100, [], (jenc (jlg 0))), (100, [], (jenc (jlg 1))), (100, [], (jenc (jlg 2))), (100, [], (jenc (jlg 3))), (100, [], (jenc (jlg 4))), (100, [], (jenc (jlg 5))), (100, [], (jenc (-jln p2)))] (1736 * q) (97166 * q) (fun k v hsN => k = 0 ∧ v = (0, p2) ∧ hsN = [jzY_19, (100, [], jS0), jgh, jgh, jgh, jgh, (130, [], [16, 17, 18, 19, 20, 21]), (101, [], [0, 0, 0, 0, 0, 0]), jgh, jgh, jgh, jgh, jgh, jgh, jgh, jgh, (100, [], (jenc (jlg 0))), (100, [], (jenc (jlg 1))), (100, [], (jenc (jlg 2))), (100, [], (jenc (jlg 3))), (100, [], (jenc (jlg 4))), (100, [], (jenc (jlg 5)))]) := by
  intro q
  induction q with
  | zero =>
    intro r1 r2 h1 h2 h3 h4 hu
    have hu2 : r2 - r1 < 1 := hu
    have h_r1 : 0 ≤ r1 ∧ r1 ≤ 1000000 := by omega
    have h_r2 : 1 ≤ r2 ∧ r2 ≤ 1000000000 := by omega
    have g_0 : r1 - p2 ≤ 0 := by omega
    have g_1 : 0 ≤ r2 - p2 := by omega
    have g_2 : 0 ≤ r1 - r2 := by omega
    refine jT_xiload (v := (0, r1)) (pcN := 74) jIY_310_72 rfl rfl rfl ?_
    refine jT_xiload (v := (0, r2)) (pcN := 76) jIY_310_74 rfl rfl rfl ?_
    refine jT_icT (a := r1) (b := r2) (t := 118) (by rfl) (by rfl) (by rfl) (jw_idd (by omega) (by omega)) (jw_idd (by omega) (by omega)) (by simp only [jcP] <;> omega) ?_
    refine jT_xiload (v := (0, r1)) (pcN := 120) jIY_310_118 rfl rfl rfl ?_
    refine jT_loc (LN := [(0, (4, 0))]) (by show List.Nodup [0]; decide) (by intro q hq; simp only [List.mem_cons, List.not_mem_nil, or_false] at hq; rcases hq with rfl <;> rfl) ?_
    refine jT_drop 22 (hs0 := [jzY_19, (100, [], jS0), jgh, jgh, jgh, jgh, (130, [], [16, 17, 18, 19, 20, 21]), (101, [], [0, 0, 0, 0, 0, 0]), jgh, jgh, jgh, jgh, jgh, jgh, jgh, jgh, (100, [], (jenc (jlg 0))), (100, [], (jenc (jlg 1))), (100, [], (jenc (jlg 2))), (100, [], (jenc (jlg 3))), (100, [], (jenc (jlg 4))), (100, [], (jenc (jlg 5)))]) (ex := [(100, [], (jenc (-jln p2)))]) rfl rfl rfl (by decide) ?_
    exact jT_ret rfl (by decide) (by show 22 ≤ 22; decide) (by omega) (by omega) ⟨rfl, by rw [show r1 = p2 by omega], rfl⟩
  | succ q ih =>
    intro r1 r2 h1 h2 h3 h4 hu
    have hu2 : r2 - r1 < 2 * jp2 q := hu
    have h_r1 : 0 ≤ r1 ∧ r1 ≤ 1000000 := by omega
    have h_r2 : 1 ≤ r2 ∧ r2 ≤ 1000000000 := by omega
    have g_0 : r1 - p2 ≤ 0 := by omega
    have g_1 : 0 ≤ r2 - p2 := by omega
    refine jT.mono (b1 := 1736 * q + 1736) (b2 := 97166 * q + 97166) ?_ (Nat.le_refl _) (by omega) (by omega) (fun _ _ _ h => h)
    rcases (show (0 ≤ r1 - r2) ∨ (r1 - r2 < 0) by omega) with g_2 | g_2
    · refine jT_xiload (v := (0, r1)) (pcN := 74) jIY_310_72 rfl rfl rfl ?_
      refine jT_xiload (v := (0, r2)) (pcN := 76) jIY_310_74 rfl rfl rfl ?_
      refine jT_icT (a := r1) (b := r2) (t := 118) (by rfl) (by rfl) (by rfl) (jw_idd (by omega) (by omega)) (jw_idd (by omega) (by omega)) (by simp only [jcP] <;> omega) ?_
      refine jT_xiload (v := (0, r1)) (pcN := 120) jIY_310_118 rfl rfl rfl ?_
      refine jT_loc (LN := [(0, (4, 0))]) (by show List.Nodup [0]; decide) (by intro q hq; simp only [List.mem_cons, List.not_mem_nil, or_false] at hq; rcases hq with rfl <;> rfl) ?_
      refine jT_drop 22 (hs0 := [jzY_19, (100, [], jS0), jgh, jgh, jgh, jgh, (130, [], [16, 17, 18, 19, 20, 21]), (101, [], [0, 0, 0, 0, 0, 0]), jgh, jgh, jgh, jgh, jgh, jgh, jgh, jgh, (100, [], (jenc (jlg 0))), (100, [], (jenc (jlg 1))), (100, [], (jenc (jlg 2))), (100, [], (jenc (jlg 3))), (100, [], (jenc (jlg 4))), (100, [], (jenc (jlg 5)))]) (ex := [(100, [], (jenc (-jln p2)))]) rfl rfl rfl (by decide) ?_
      exact jT_ret rfl (by decide) (by show 22 ≤ 22; decide) (by omega) (by omega) ⟨rfl, by rw [show r1 = p2 by omega], rfl⟩
    · rcases (show (0 ≤ -((-r1 + r2).tdiv 2) - p2 + r2 - 1) ∨ (-((-r1 + r2).tdiv 2) - p2 + r2 - 1 < 0) by omega) with g_3 | g_3
      · refine jT_xiload (v := (0, r1)) (pcN := 74) jIY_310_72 rfl rfl rfl ?_
        refine jT_xiload (v := (0, r2)) (pcN := 76) jIY_310_74 rfl rfl rfl ?_
        refine jT_icF (a := r1) (b := r2) (t := 118) (by rfl) (by rfl) (by rfl) (jw_idd (by omega) (by omega)) (jw_idd (by omega) (by omega)) (by simp only [jcP] <;> omega) ?_
        refine jT_xiload (v := (0, r2)) (pcN := 81) jIY_310_79 rfl rfl rfl ?_
        refine jT_xiload (v := (0, r2)) (pcN := 83) jIY_310_81 rfl rfl rfl ?_
        refine jT_xiload (v := (0, r1)) (pcN := 85) jIY_310_83 rfl rfl rfl ?_
        refine jT_xisub (x := r2) (y := r1) (z := -r1 + r2) (pcN := 86) jIY_310_85 rfl (by omega) rfl ?_
        refine jT_xiconst (k := 2) (pcN := 87) jIY_310_86 rfl ?_
        refine jT_idiv (a := -r1 + r2) (b := 2) (by rfl) (by rfl) (jw_idd (by omega) (by omega)) (jw_idd (by omega) (by omega)) (by omega) ?_
        have hb_q1 := jy_half (x := -r1 + r2) (by omega) (by omega)
        generalize hq_q1 : (-r1 + r2).tdiv 2 = q1 at hb_q1 g_3 ⊢
        refine jT_xisub (x := r2) (y := q1) (z := -q1 + r2) (pcN := 89) jIY_310_88 rfl (by omega) rfl ?_
        refine jT_xistore (v := (0, -q1 + r2)) (LN := [(6, (0, -q1 + r2)), (5, (0, r2)), (4, (0, r1)), (3, (4, 22)), (0, (4, 0)), (2, (0, p2))]) (pcN := 91) jIY_310_89 rfl rfl rfl rfl ?_
        refine jT_xaload_n (v := (4, 0)) (pcN := 92) jIY_310_91 rfl rfl rfl ?_
        refine jT_xiload (v := (0, -q1 + r2)) (pcN := 94) jIY_310_92 rfl rfl rfl ?_
        refine jT_xiload_n (v := (0, p2)) (pcN := 95) jIY_310_94 rfl rfl rfl ?_
        refine jT_xaload_n (v := (4, 22)) (pcN := 96) jIY_310_95 rfl rfl rfl ?_
        refine jT_callA [0, 1, 2, 3, 4, 5, 6, 7, 8, 9, 10, 11, 12, 13, 14, 15, 16, 17, 18, 19, 20, 21, 22] (y := 312) (pcN := 99) (dC := 5) (bc1 := 1736) (bc2 := 97166) (c1 := (1736 * q + 0)) (c2 := (97166 * q + 0)) (as := [(4, 0), (0, -q1 + r2), (0, p2), (4, 22)]) (asC := [(4, 0), (0, -q1 + r2), (0, p2), (4, 22)]) (LN := [(6, (0, -q1 + r2)), (5, (0, r2)), (4, (0, r1)), (3, (4, 22)), (0, (4, 0)), (2, (0, p2))]) (stN := []) (hsC := [jzY_19, jgh, jgh, jgh, jgh, jgh, (130, [], [16, 17, 18, 19, 20, 21]), (101, [], [0, 0, 0, 0, 0, 0]), jgh, jgh, jgh, jgh, jgh, jgh, jgh, jgh, (100, [], (jenc (jlg 0))), (100, [], (jenc (jlg 1))), (100, [], (jenc (jlg 2))), (100, [], (jenc (jlg 3))), (100, [], (jenc (jlg 4))), (100, [], (jenc (jlg 5))), (100, [], (jenc (-jln p2)))]) (ex := []) (v := (0, 0)) (st2 := [(0, 0)]) (hs2 := [jzY_19, (100, [], jS0), jgh, jgh, jgh, jgh, (130, [], [16, 17, 18, 19, 20, 21]), (101, [], [0, 0, 0, 0, 0, 0]), jgh, jgh, jgh, jgh, jgh, jgh, jgh, jgh, (100, [], (jenc (jlg 0))), (100, [], (jenc (jlg 1))), (100, [], (jenc (jlg 2))), (100, [], (jenc (jlg 3))), (100, [], (jenc (jlg 4))), (100, [], (jenc (jlg 5))), (100, [], (jenc (-jln p2)))]) (jYl_sh_66_0 (d := 0) (p1 := -q1 + r2) (p2 := p2) (w := -jln p2) (by omega) (by omega) rfl (by omega)) (by rfl) (by rfl) (by rfl) (by rfl) ⟨rfl, rfl, rfl, rfl, rfl, rfl, rfl, rfl, rfl, rfl, rfl, rfl, rfl, rfl, rfl, rfl, rfl, rfl, rfl, rfl, rfl, rfl, rfl, trivial⟩ (by rfl) (by rfl) (by omega) (by show 22 ≤ 23; omega) (by omega) (by omega) rfl rfl ?_
        refine jT_xifT (pcN := 109) jIY_310_99 rfl (by decide +kernel) rfl ?_
        refine jT_xiload (v := (0, -q1 + r2)) (pcN := 111) jIY_310_109 rfl rfl rfl ?_
        refine jT_xiconst (k := 1) (pcN := 112) jIY_310_111 rfl ?_
        refine jT_xisub (x := -q1 + r2) (y := 1) (z := -q1 + r2 - 1) (pcN := 113) jIY_310_112 rfl (by omega) rfl ?_
        refine jT_xistore (v := (0, -q1 + r2 - 1)) (LN := [(5, (0, -q1 + r2 - 1)), (6, (0, -q1 + r2)), (4, (0, r1)), (3, (4, 22)), (0, (4, 0)), (2, (0, p2))]) (pcN := 115) jIY_310_113 rfl rfl rfl rfl ?_
        refine jT_xgoto (pcN := 72) jIY_310_115 rfl ?_
        refine jT_loc (LN := [(5, (0, -q1 + r2 - 1)), (4, (0, r1)), (3, (4, 22)), (0, (4, 0)), (2, (0, p2))]) (by show List.Nodup [5, 4, 3, 0, 2]; decide) (by intro q hq; simp only [List.mem_cons, List.not_mem_nil, or_false] at hq; rcases hq with rfl | rfl | rfl | rfl | rfl <;> rfl) ?_
        exact jT.mono (ih r1 (-q1 + r2 - 1) (by omega) (by omega) (by omega) (by omega) (by omega)) (Nat.le_refl _) (by omega) (by omega) (fun _ _ _ h => h)
      · refine jT_xiload (v := (0, r1)) (pcN := 74) jIY_310_72 rfl rfl rfl ?_
        refine jT_xiload (v := (0, r2)) (pcN := 76) jIY_310_74 rfl rfl rfl ?_
        refine jT_icF (a := r1) (b := r2) (t := 118) (by rfl) (by rfl) (by rfl) (jw_idd (by omega) (by omega)) (jw_idd (by omega) (by omega)) (by simp only [jcP] <;> omega) ?_
        refine jT_xiload (v := (0, r2)) (pcN := 81) jIY_310_79 rfl rfl rfl ?_
        refine jT_xiload (v := (0, r2)) (pcN := 83) jIY_310_81 rfl rfl rfl ?_
        refine jT_xiload (v := (0, r1)) (pcN := 85) jIY_310_83 rfl rfl rfl ?_
        refine jT_xisub (x := r2) (y := r1) (z := -r1 + r2) (pcN := 86) jIY_310_85 rfl (by omega) rfl ?_
        refine jT_xiconst (k := 2) (pcN := 87) jIY_310_86 rfl ?_
        refine jT_idiv (a := -r1 + r2) (b := 2) (by rfl) (by rfl) (jw_idd (by omega) (by omega)) (jw_idd (by omega) (by omega)) (by omega) ?_
        have hb_q1 := jy_half (x := -r1 + r2) (by omega) (by omega)
        generalize hq_q1 : (-r1 + r2).tdiv 2 = q1 at hb_q1 g_3 ⊢
        refine jT_xisub (x := r2) (y := q1) (z := -q1 + r2) (pcN := 89) jIY_310_88 rfl (by omega) rfl ?_
        refine jT_xistore (v := (0, -q1 + r2)) (LN := [(6, (0, -q1 + r2)), (5, (0, r2)), (4, (0, r1)), (3, (4, 22)), (0, (4, 0)), (2, (0, p2))]) (pcN := 91) jIY_310_89 rfl rfl rfl rfl ?_
        refine jT_xaload_n (v := (4, 0)) (pcN := 92) jIY_310_91 rfl rfl rfl ?_
        refine jT_xiload (v := (0, -q1 + r2)) (pcN := 94) jIY_310_92 rfl rfl rfl ?_
        refine jT_xiload_n (v := (0, p2)) (pcN := 95) jIY_310_94 rfl rfl rfl ?_
        refine jT_xaload_n (v := (4, 22)) (pcN := 96) jIY_310_95 rfl rfl rfl ?_
        refine jT_callA [0, 1, 2, 3, 4, 5, 6, 7, 8, 9, 10, 11, 12, 13, 14, 15, 16, 17, 18, 19, 20, 21, 22] (y := 312) (pcN := 99) (dC := 5) (bc1 := 1736) (bc2 := 97166) (c1 := (1736 * q + 0)) (c2 := (97166 * q + 0)) (as := [(4, 0), (0, -q1 + r2), (0, p2), (4, 22)]) (asC := [(4, 0), (0, -q1 + r2), (0, p2), (4, 22)]) (LN := [(6, (0, -q1 + r2)), (5, (0, r2)), (4, (0, r1)), (3, (4, 22)), (0, (4, 0)), (2, (0, p2))]) (stN := []) (hsC := [jzY_19, jgh, jgh, jgh, jgh, jgh, (130, [], [16, 17, 18, 19, 20, 21]), (101, [], [0, 0, 0, 0, 0, 0]), jgh, jgh, jgh, jgh, jgh, jgh, jgh, jgh, (100, [], (jenc (jlg 0))), (100, [], (jenc (jlg 1))), (100, [], (jenc (jlg 2))), (100, [], (jenc (jlg 3))), (100, [], (jenc (jlg 4))), (100, [], (jenc (jlg 5))), (100, [], (jenc (-jln p2)))]) (ex := []) (v := (0, 1)) (st2 := [(0, 1)]) (hs2 := [jzY_19, (100, [], jS0), jgh, jgh, jgh, jgh, (130, [], [16, 17, 18, 19, 20, 21]), (101, [], [0, 0, 0, 0, 0, 0]), jgh, jgh, jgh, jgh, jgh, jgh, jgh, jgh, (100, [], (jenc (jlg 0))), (100, [], (jenc (jlg 1))), (100, [], (jenc (jlg 2))), (100, [], (jenc (jlg 3))), (100, [], (jenc (jlg 4))), (100, [], (jenc (jlg 5))), (100, [], (jenc (-jln p2)))]) (jYl_sh_66_1 (d := 0) (p1 := -q1 + r2) (p2 := p2) (w := -jln p2) (by omega) (by omega) rfl (by omega)) (by rfl) (by rfl) (by rfl) (by rfl) ⟨rfl, rfl, rfl, rfl, rfl, rfl, rfl, rfl, rfl, rfl, rfl, rfl, rfl, rfl, rfl, rfl, rfl, rfl, rfl, rfl, rfl, rfl, rfl, trivial⟩ (by rfl) (by rfl) (by omega) (by show 22 ≤ 23; omega) (by omega) (by omega) rfl rfl ?_
        refine jT_xifF (t := 109) (pcN := 102) jIY_310_99 rfl (by decide +kernel) rfl rfl ?_
        refine jT_xiload (v := (0, -q1 + r2)) (pcN := 104) jIY_310_102 rfl rfl rfl ?_
        refine jT_xistore (v := (0, -q1 + r2)) (LN := [(4, (0, -q1 + r2)), (6, (0, -q1 + r2)), (5, (0, r2)), (3, (4, 22)), (0, (4, 0)), (2, (0, p2))]) (pcN := 106) jIY_310_104 rfl rfl rfl rfl ?_
        refine jT_xgoto (pcN := 115) jIY_310_106 rfl ?_
        refine jT_xgoto (pcN := 72) jIY_310_115 rfl ?_
        refine jT_loc (LN := [(5, (0, r2)), (4, (0, -q1 + r2)), (3, (4, 22)), (0, (4, 0)), (2, (0, p2))]) (by show List.Nodup [5, 4, 3, 0, 2]; decide) (by intro q hq; simp only [List.mem_cons, List.not_mem_nil, or_false] at hq; rcases hq with rfl | rfl | rfl | rfl | rfl <;> rfl) ?_
        exact jT.mono (ih (-q1 + r2) r2 (by omega) (by omega) (by omega) (by omega) (by omega)) (Nat.le_refl _) (by omega) (by omega) (fun _ _ _ h => h)
theorem jIY_310_35 : jmI (jm 310) 35 = (.aload_n 0, 1) := by rfl
theorem jIY_310_36 : jmI (jm 310) 36 = (.aload_n 0, 1) := by rfl
theorem jIY_310_37 : jmI (jm 310) 37 = (.getfield 31, 3) := by rfl
theorem jY_214_95 {xs : List Int} {d : Nat} : jT xs d 214 2 0 [(0, (4, 0)), (1, (4, 1))] [] [jgh, (101, [], [0, 0, 0, 0, 0, 0])] 1 56 (fun k v hsN => k = 0 ∧ v = (4, 2) ∧ hsN = [jgh, (101, [], [0, 0, 0, 0, 0, 0])] ++ [(100, [], List.replicate 56 0)]) := by
  refine jT_advK 75 (pcN := 48) (LN := [(3, (0, 6)), (2, (4, 2)), (0, (4, 0)), (1, (4, 1))]) (stN := [(4, 2)]) (hsN := [jgh, (101, [], [0, 0, 0, 0, 0, 0]), (100, [], List.replicate 56 0)]) (c1 := 1) (s1 := 56) (c2 := 0) (s2 := 0) (by decide +kernel) ?_ (by omega) (by omega)
  exact jT_ret rfl (by decide) (by show 2 ≤ 3; omega) (by omega) (by omega) ⟨rfl, rfl, rfl⟩
def jpY_420 : List JC := [jzY_19, (100, [], jS0), jgh, jgh, jgh, jgh, (130, [], [16, 17, 18, 19, 20, 21]), (101, [], [0, 0, 0, 0, 0, 0]), jgh, jgh, jgh, jgh, jgh, jgh, jgh, jgh, (100, [], (jenc (jlg 0))), (100, [], (jenc (jlg 1))), (100, [], (jenc (jlg 2))), (100, [], (jenc (jlg 3))), (100, [], (jenc (jlg 4))), (100, [], (jenc (jlg 5))), (100, [], List.replicate 56 0)]
theorem jIY_310_43 : jmI (jm 310) 43 = (.aload_n 0, 1) := by rfl
theorem jIY_310_44 : jmI (jm 310) 44 = (.getfield 35, 3) := by rfl
def jpY_423 : List JC := [jzY_19, (100, [], jS0), jgh, jgh, jgh, jgh, (130, [], [16, 17, 18, 19, 20, 21]), (101, [], [0, 0, 0, 0, 0, 0]), jgh, jgh, jgh, jgh, jgh, jgh, jgh, jgh, (100, [], (jenc (jlg 0))), (100, [], (jenc (jlg 1))), (100, [], (jenc (jlg 2))), (100, [], (jenc (jlg 3))), (100, [], (jenc (jlg 4))), (100, [], (jenc (jlg 5))), (100, [], List.replicate 56 0), (100, [], (jenc 1))]
theorem jIY_310_50 : jmI (jm 310) 50 = (.aload_n 0, 1) := by rfl
theorem jIY_310_51 : jmI (jm 310) 51 = (.iload_n 2, 1) := by rfl
theorem jIY_310_64 : jmI (jm 310) 64 = (.astore_n 3, 1) := by rfl
theorem jIY_310_65 : jmI (jm 310) 65 = (.iconst 0, 1) := by rfl
theorem jIY_310_66 : jmI (jm 310) 66 = (.istore 4, 2) := by rfl
theorem jIY_310_70 : jmI (jm 310) 70 = (.istore 5, 2) := by rfl
def jpY_430 : List JC := [jzY_19, (100, [], jS0), jgh, jgh, jgh, jgh, (130, [], [16, 17, 18, 19, 20, 21]), (101, [], [0, 0, 0, 0, 0, 0]), jgh, jgh, jgh, jgh, jgh, jgh, jgh, jgh, (100, [], (jenc (jlg 0))), (100, [], (jenc (jlg 1))), (100, [], (jenc (jlg 2))), (100, [], (jenc (jlg 3))), (100, [], (jenc (jlg 4))), (100, [], (jenc (jlg 5))), (100, [], List.replicate 56 0), (100, [], (jenc 1)), (100, [], (jenc (jlg 0)))]
def jpY_431 : List JC := [jzY_19, (100, [], jS0), jgh, jgh, jgh, jgh, (130, [], [16, 17, 18, 19, 20, 21]), (101, [], [0, 0, 0, 0, 0, 0]), jgh, jgh, jgh, jgh, jgh, jgh, jgh, jgh, (100, [], (jenc (jlg 0))), (100, [], (jenc (jlg 1))), (100, [], (jenc (jlg 2))), (100, [], (jenc (jlg 3))), (100, [], (jenc (jlg 4))), (100, [], (jenc (jlg 5))), (100, [], List.replicate 56 0), (100, [], (jenc 1)), (100, [], (jenc (jlg 0))), (100, [], (jenc (-(jlg 0))))]
theorem jYl_st_94 {xs : List Int} {d : Nat} {p2 : Int} (h_p2 : 1 ≤ p2 ∧ p2 ≤ 1000000) : jT xs (d + 6) 310 22 35 [(0, (4, 0)), (2, (0, p2))] [] [jzY_19, (100, [], jS0), jgh, jgh, jgh, jgh, (130, [], [16, 17, 18, 19, 20, 21]), (101, [], [0, 0, 0, 0, 0, 0]), jgh, jgh, jgh, jgh, jgh, jgh, jgh, jgh, (100, [], (jenc (jlg 0))), (100, [], (jenc (jlg 1))), (100, [], (jenc (jlg 2))), (100, [], (jenc (jlg 3))), (100, [], (jenc (jlg 4))), (100, [], (jenc (jlg 5)))] 53820 3012422 (fun k v hsN => k = 0 ∧ v = (0, p2) ∧ hsN = [jzY_19, (100, [], jS0), jgh, jgh, jgh, jgh, (130, [], [16, 17, 18, 19, 20, 21]), (101, [], [0, 0, 0, 0, 0, 0]), jgh, jgh, jgh, jgh, jgh, jgh, jgh, jgh, (100, [], (jenc (jlg 0))), (100, [], (jenc (jlg 1))), (100, [], (jenc (jlg 2))), (100, [], (jenc (jlg 3))), (100, [], (jenc (jlg 4))), (100, [], (jenc (jlg 5)))]) := by
  rcases (show (p2 - 2 < 0) ∨ (0 ≤ p2 - 2 ∧ p2 - 2 ≤ 0) ∨ (0 < p2 - 2) by omega) with g_0 | ⟨g_0, g_1⟩ | g_0
  · refine jT_xaload_n (v := (4, 0)) (pcN := 36) jIY_310_35 rfl rfl rfl ?_
    refine jT_xaload_n (v := (4, 0)) (pcN := 37) jIY_310_36 rfl rfl rfl ?_
    refine jT_xgetf (a := 0) (t := 1) (ci := 14) (fi := 9) (c := jzY_19) (v := (4, 7)) (pcN := 40) jIY_310_37 rfl rfl rfl rfl rfl rfl rfl ?_
    refine jT_fA [0, 7] 22 (y := 214) (pcN := 43) (dC := 0) (bc1 := 1) (bc2 := 56) (c1 := 53819) (c2 := 3012366) (as := [(4, 0), (4, 7)]) (asC := [(4, 0), (4, 1)]) (LN := [(0, (4, 0)), (2, (0, p2))]) (stN := []) (hsC := [jgh, (101, [], [0, 0, 0, 0, 0, 0])]) (ex := [(100, [], List.replicate 56 0)]) (v := (4, 2)) (st2 := [(4, 22)]) (hs2 := jpY_420) (jY_214_95 (d := 0)) (by rfl) (by rfl) (by decide +kernel) (by rfl) (by rfl) (by omega) (by omega) (by omega) (by omega) rfl (by decide +kernel) ?_
    refine jT_xaload_n (v := (4, 0)) (pcN := 44) jIY_310_43 rfl rfl rfl ?_
    refine jT_xgetf (a := 0) (t := 1) (ci := 14) (fi := 10) (c := jzY_19) (v := (1, 1)) (pcN := 47) jIY_310_44 rfl rfl rfl rfl rfl rfl rfl ?_
    refine jT_fA [] 23 (y := 178) (pcN := 50) (dC := 1) (bc1 := 1) (bc2 := 56) (c1 := 53818) (c2 := 3012310) (as := [(1, 1)]) (asC := [(1, 1)]) (LN := [(0, (4, 0)), (2, (0, p2))]) (stN := [(4, 22)]) (hsC := []) (ex := [(100, [], (jenc 1))]) (v := (4, 0)) (st2 := [(4, 23), (4, 22)]) (hs2 := jpY_423) (jT_big (d := 0) (v := 1) (by omega) (by omega)) (by rfl) (by rfl) (by decide +kernel) (by rfl) (by rfl) (by omega) (by omega) (by omega) (by omega) rfl (by decide +kernel) ?_
    refine jT_xaload_n (v := (4, 0)) (pcN := 51) jIY_310_50 rfl rfl rfl ?_
    refine jT_xiload_n (v := (0, p2)) (pcN := 52) jIY_310_51 rfl rfl rfl ?_
    refine jT_fA [0, 1, 2, 3, 4, 5, 6, 7, 8, 9, 10, 11, 12, 13, 14, 15, 16, 17, 18, 19, 20, 21] 24 (y := 311) (pcN := 55) (dC := 4) (bc1 := 1732) (bc2 := 96992) (c1 := 52086) (c2 := 2915318) (as := [(4, 0), (0, p2)]) (asC := [(4, 0), (0, p2)]) (LN := [(0, (4, 0)), (2, (0, p2))]) (stN := [(4, 23), (4, 22)]) (hsC := jpY_271) (ex := [(100, [], (jenc (jln p2)))]) (v := (4, 22)) (st2 := [(4, 24), (4, 23), (4, 22)]) (hs2 := [jzY_19, (100, [], jS0), jgh, jgh, jgh, jgh, (130, [], [16, 17, 18, 19, 20, 21]), (101, [], [0, 0, 0, 0, 0, 0]), jgh, jgh, jgh, jgh, jgh, jgh, jgh, jgh, (100, [], (jenc (jlg 0))), (100, [], (jenc (jlg 1))), (100, [], (jenc (jlg 2))), (100, [], (jenc (jlg 3))), (100, [], (jenc (jlg 4))), (100, [], (jenc (jlg 5))), (100, [], List.replicate 56 0), (100, [], (jenc 1)), (100, [], (jenc (jln p2)))]) (jYl_ln_65_A (d := 0) (n := p2) (by omega) (by omega)) (by rfl) (by rfl) (by decide +kernel) (by rfl) (by rfl) (by omega) (by omega) (by omega) (by omega) rfl rfl ?_
    refine jT_callA [23, 24] (y := 179) (pcN := 58) (dC := 1) (bc1 := 1) (bc2 := 56) (c1 := 52085) (c2 := 2915262) (as := [(4, 23), (4, 24)]) (asC := [(4, 0), (4, 1)]) (LN := [(0, (4, 0)), (2, (0, p2))]) (stN := [(4, 22)]) (hsC := [(100, [], (jenc 1)), (100, [], (jenc (jln p2)))]) (ex := [(100, [], (jenc (jln p2)))]) (v := (4, 2)) (st2 := [(4, 25), (4, 22)]) (hs2 := [jzY_19, (100, [], jS0), jgh, jgh, jgh, jgh, (130, [], [16, 17, 18, 19, 20, 21]), (101, [], [0, 0, 0, 0, 0, 0]), jgh, jgh, jgh, jgh, jgh, jgh, jgh, jgh, (100, [], (jenc (jlg 0))), (100, [], (jenc (jlg 1))), (100, [], (jenc (jlg 2))), (100, [], (jenc (jlg 3))), (100, [], (jenc (jlg 4))), (100, [], (jenc (jlg 5))), (100, [], List.replicate 56 0), (100, [], (jenc 1)), (100, [], (jenc (jln p2))), (100, [], (jenc (jln p2)))]) (jT_product1 (d := 0) (a := jln p2) (jyx54 (jln_b (by omega) (by omega)).2)) (by rfl) (by rfl) (by rfl) (by rfl) ⟨rfl, rfl, trivial⟩ (by rfl) (by rfl) (by omega) (by show 22 ≤ 25; omega) (by omega) (by omega) rfl rfl ?_
    refine jT_callA [25] (y := 184) (pcN := 61) (dC := 1) (bc1 := 1) (bc2 := 56) (c1 := 52084) (c2 := 2915206) (as := [(4, 25)]) (asC := [(4, 0)]) (LN := [(0, (4, 0)), (2, (0, p2))]) (stN := [(4, 22)]) (hsC := [(100, [], (jenc (jln p2)))]) (ex := [(100, [], (jenc (-(jln p2))))]) (v := (4, 1)) (st2 := [(4, 26), (4, 22)]) (hs2 := [jzY_19, (100, [], jS0), jgh, jgh, jgh, jgh, (130, [], [16, 17, 18, 19, 20, 21]), (101, [], [0, 0, 0, 0, 0, 0]), jgh, jgh, jgh, jgh, jgh, jgh, jgh, jgh, (100, [], (jenc (jlg 0))), (100, [], (jenc (jlg 1))), (100, [], (jenc (jlg 2))), (100, [], (jenc (jlg 3))), (100, [], (jenc (jlg 4))), (100, [], (jenc (jlg 5))), (100, [], List.replicate 56 0), (100, [], (jenc 1)), (100, [], (jenc (jln p2))), (100, [], (jenc (jln p2))), (100, [], (jenc (-(jln p2))))]) (jT_negative (d := 0) (a := jln p2)) (by rfl) (by rfl) (by rfl) (by rfl) ⟨rfl, trivial⟩ (by rfl) (by rfl) (by omega) (by show 22 ≤ 26; omega) (by omega) (by omega) rfl rfl ?_
    refine jT_eq (LN := [(0, (4, 0)), (2, (0, p2))]) (stN := [(4, 26), (4, 22)]) (hsN := [jzY_19, (100, [], jS0), jgh, jgh, jgh, jgh, (130, [], [16, 17, 18, 19, 20, 21]), (101, [], [0, 0, 0, 0, 0, 0]), jgh, jgh, jgh, jgh, jgh, jgh, jgh, jgh, (100, [], (jenc (jlg 0))), (100, [], (jenc (jlg 1))), (100, [], (jenc (jlg 2))), (100, [], (jenc (jlg 3))), (100, [], (jenc (jlg 4))), (100, [], (jenc (jlg 5))), (100, [], (jenc 0)), (100, [], (jenc 1)), (100, [], (jenc (jln p2))), (100, [], (jenc (jln p2))), (100, [], (jenc (-(jln p2))))]) rfl rfl (by show [jzY_19, (100, [], jS0), jgh, jgh, jgh, jgh, (130, [], [16, 17, 18, 19, 20, 21]), (101, [], [0, 0, 0, 0, 0, 0]), jgh, jgh, jgh, jgh, jgh, jgh, jgh, jgh, (100, [], (jenc (jlg 0))), (100, [], (jenc (jlg 1))), (100, [], (jenc (jlg 2))), (100, [], (jenc (jlg 3))), (100, [], (jenc (jlg 4))), (100, [], (jenc (jlg 5))), (100, [], List.replicate 56 0), (100, [], (jenc 1)), (100, [], (jenc (jln p2))), (100, [], (jenc (jln p2))), (100, [], (jenc (-(jln p2))))] = _; rw [jrep56e]) ?_
    refine jT_callA [22, 26] (y := 181) (pcN := 64) (dC := 0) (bc1 := 0) (bc2 := 0) (c1 := 52084) (c2 := 2915206) (as := [(4, 22), (4, 26)]) (asC := [(4, 0), (4, 1)]) (LN := [(0, (4, 0)), (2, (0, p2))]) (stN := []) (hsC := [(100, [], (jenc 0)), (100, [], (jenc (-(jln p2))))]) (ex := []) (v := (4, 1)) (st2 := [(4, 26)]) (hs2 := [jzY_19, (100, [], jS0), jgh, jgh, jgh, jgh, (130, [], [16, 17, 18, 19, 20, 21]), (101, [], [0, 0, 0, 0, 0, 0]), jgh, jgh, jgh, jgh, jgh, jgh, jgh, jgh, (100, [], (jenc (jlg 0))), (100, [], (jenc (jlg 1))), (100, [], (jenc (jlg 2))), (100, [], (jenc (jlg 3))), (100, [], (jenc (jlg 4))), (100, [], (jenc (jlg 5))), (100, [], (jenc 0)), (100, [], (jenc 1)), (100, [], (jenc (jln p2))), (100, [], (jenc (jln p2))), (100, [], (jenc (-(jln p2))))]) (jT_added_0l (d := 0) (b := (-(jln p2)))) (by rfl) (by rfl) (by rfl) (by rfl) ⟨rfl, rfl, trivial⟩ (by rfl) (by rfl) (by omega) (by show 22 ≤ 27; omega) (by omega) (by omega) rfl rfl ?_
    refine jT_xastore_n (v := (4, 26)) (LN := [(3, (4, 26)), (0, (4, 0)), (2, (0, p2))]) (pcN := 65) jIY_310_64 rfl rfl rfl rfl ?_
    refine jT_loc (LN := [(3, (4, 26)), (0, (4, 0)), (2, (0, p2))]) (by show List.Nodup [3, 0, 2]; decide) (by intro q hq; simp only [List.mem_cons, List.not_mem_nil, or_false] at hq; rcases hq with rfl | rfl | rfl <;> rfl) ?_
    refine jT_eq (LN := [(3, (4, 26)), (0, (4, 0)), (2, (0, p2))]) (stN := []) (hsN := [jzY_19, (100, [], jS0), jgh, jgh, jgh, jgh, (130, [], [16, 17, 18, 19, 20, 21]), (101, [], [0, 0, 0, 0, 0, 0]), jgh, jgh, jgh, jgh, jgh, jgh, jgh, jgh, (100, [], (jenc (jlg 0))), (100, [], (jenc (jlg 1))), (100, [], (jenc (jlg 2))), (100, [], (jenc (jlg 3))), (100, [], (jenc (jlg 4))), (100, [], (jenc (jlg 5))), (100, [], (jenc 0)), (100, [], (jenc 1)), (100, [], (jenc (jln p2))), (100, [], (jenc (jln p2))), (100, [], (jenc (-jln p2)))]) rfl rfl (by show [jzY_19, (100, [], jS0), jgh, jgh, jgh, jgh, (130, [], [16, 17, 18, 19, 20, 21]), (101, [], [0, 0, 0, 0, 0, 0]), jgh, jgh, jgh, jgh, jgh, jgh, jgh, jgh, (100, [], (jenc (jlg 0))), (100, [], (jenc (jlg 1))), (100, [], (jenc (jlg 2))), (100, [], (jenc (jlg 3))), (100, [], (jenc (jlg 4))), (100, [], (jenc (jlg 5))), (100, [], (jenc 0)), (100, [], (jenc 1)), (100, [], (jenc (jln p2))), (100, [], (jenc (jln p2))), (100, [], (jenc (-(jln p2))))] = _; rfl) ?_
    refine jT_gc [0, 1, 2, 3, 4, 5, 6, 7, 8, 9, 10, 11, 12, 13, 14, 15, 16, 17, 18, 19, 20, 21, 26] (hs0 := [jzY_19, (100, [], jS0), jgh, jgh, jgh, jgh, (130, [], [16, 17, 18, 19, 20, 21]), (101, [], [0, 0, 0, 0, 0, 0]), jgh, jgh, jgh, jgh, jgh, jgh, jgh, jgh, (100, [], (jenc (jlg 0))), (100, [], (jenc (jlg 1))), (100, [], (jenc (jlg 2))), (100, [], (jenc (jlg 3))), (100, [], (jenc (jlg 4))), (100, [], (jenc (jlg 5))), (100, [], (jenc (-jln p2)))]) (L0 := [(3, (4, 22)), (0, (4, 0)), (2, (0, p2))]) (st0 := []) (by show jgB [0, 1, 2, 3, 4, 5, 6, 7, 8, 9, 10, 11, 12, 13, 14, 15, 16, 17, 18, 19, 20, 21, 26] 27 = true; decide +kernel) rfl ⟨rfl, rfl, rfl, rfl, rfl, rfl, rfl, rfl, rfl, rfl, rfl, rfl, rfl, rfl, rfl, rfl, rfl, rfl, rfl, rfl, rfl, rfl, rfl, trivial⟩ rfl rfl (by decide +kernel) ?_
    refine jT_xiconst (k := 0) (pcN := 66) jIY_310_65 rfl ?_
    refine jT_xistore (v := (0, 0)) (LN := [(4, (0, 0)), (3, (4, 22)), (0, (4, 0)), (2, (0, p2))]) (pcN := 68) jIY_310_66 rfl rfl rfl rfl ?_
    refine jT_adv 1 (pcN := 70) (LN := [(4, (0, 0)), (3, (4, 22)), (0, (4, 0)), (2, (0, p2))]) (stN := [(0, 1000000000)]) (hsN := [jzY_19, (100, [], jS0), jgh, jgh, jgh, jgh, (130, [], [16, 17, 18, 19, 20, 21]), (101, [], [0, 0, 0, 0, 0, 0]), jgh, jgh, jgh, jgh, jgh, jgh, jgh, jgh, (100, [], (jenc (jlg 0))), (100, [], (jenc (jlg 1))), (100, [], (jenc (jlg 2))), (100, [], (jenc (jlg 3))), (100, [], (jenc (jlg 4))), (100, [], (jenc (jlg 5))), (100, [], (jenc (-jln p2)))]) (c1 := 0) (s1 := 0) (c2 := 52084) (s2 := 2915206) (by exact rfl) ?_ (by omega) (by omega)
    refine jT_xistore (v := (0, 1000000000)) (LN := [(5, (0, 1000000000)), (4, (0, 0)), (3, (4, 22)), (0, (4, 0)), (2, (0, p2))]) (pcN := 72) jIY_310_70 rfl rfl rfl rfl ?_
    refine jT_loc (LN := [(5, (0, 1000000000)), (4, (0, 0)), (3, (4, 22)), (0, (4, 0)), (2, (0, p2))]) (by show List.Nodup [5, 4, 3, 0, 2]; decide) (by intro q hq; simp only [List.mem_cons, List.not_mem_nil, or_false] at hq; rcases hq with rfl | rfl | rfl | rfl | rfl <;> rfl) ?_
    exact jT.mono (jYl_st_94_L (d := d) h_p2 30 0 1000000000 (by omega) (by omega) (by omega) (by omega) (by decide)) (by omega) (by omega) (by omega) (fun _ _ _ h => h)
  · refine jT_xaload_n (v := (4, 0)) (pcN := 36) jIY_310_35 rfl rfl rfl ?_
    refine jT_xaload_n (v := (4, 0)) (pcN := 37) jIY_310_36 rfl rfl rfl ?_
    refine jT_xgetf (a := 0) (t := 1) (ci := 14) (fi := 9) (c := jzY_19) (v := (4, 7)) (pcN := 40) jIY_310_37 rfl rfl rfl rfl rfl rfl rfl ?_
    refine jT_fA [0, 7] 22 (y := 214) (pcN := 43) (dC := 0) (bc1 := 1) (bc2 := 56) (c1 := 53819) (c2 := 3012366) (as := [(4, 0), (4, 7)]) (asC := [(4, 0), (4, 1)]) (LN := [(0, (4, 0)), (2, (0, p2))]) (stN := []) (hsC := [jgh, (101, [], [0, 0, 0, 0, 0, 0])]) (ex := [(100, [], List.replicate 56 0)]) (v := (4, 2)) (st2 := [(4, 22)]) (hs2 := jpY_420) (jY_214_95 (d := 0)) (by rfl) (by rfl) (by decide +kernel) (by rfl) (by rfl) (by omega) (by omega) (by omega) (by omega) rfl (by decide +kernel) ?_
    refine jT_xaload_n (v := (4, 0)) (pcN := 44) jIY_310_43 rfl rfl rfl ?_
    refine jT_xgetf (a := 0) (t := 1) (ci := 14) (fi := 10) (c := jzY_19) (v := (1, 1)) (pcN := 47) jIY_310_44 rfl rfl rfl rfl rfl rfl rfl ?_
    refine jT_fA [] 23 (y := 178) (pcN := 50) (dC := 1) (bc1 := 1) (bc2 := 56) (c1 := 53818) (c2 := 3012310) (as := [(1, 1)]) (asC := [(1, 1)]) (LN := [(0, (4, 0)), (2, (0, p2))]) (stN := [(4, 22)]) (hsC := []) (ex := [(100, [], (jenc 1))]) (v := (4, 0)) (st2 := [(4, 23), (4, 22)]) (hs2 := jpY_423) (jT_big (d := 0) (v := 1) (by omega) (by omega)) (by rfl) (by rfl) (by decide +kernel) (by rfl) (by rfl) (by omega) (by omega) (by omega) (by omega) rfl (by decide +kernel) ?_
    refine jT_xaload_n (v := (4, 0)) (pcN := 51) jIY_310_50 rfl rfl rfl ?_
    refine jT_xiload_n (v := (0, p2)) (pcN := 52) jIY_310_51 rfl rfl rfl ?_
    refine jT_fR [0, 1, 2, 3, 4, 5, 6, 7, 8, 9, 10, 11, 12, 13, 14, 15, 16, 17, 18, 19, 20, 21] 24 (y := 311) (pcN := 55) (dC := 4) (bc1 := 1732) (bc2 := 96992) (c1 := 52086) (c2 := 2915318) (as := [(4, 0), (0, p2)]) (asC := [(4, 0), (0, p2)]) (LN := [(0, (4, 0)), (2, (0, p2))]) (stN := [(4, 23), (4, 22)]) (hsC := jpY_271) (v := (4, 16)) (st2 := [(4, 16), (4, 23), (4, 22)]) (jYl_ln_65_B (d := 0) (n := p2) (by omega)) (by rfl) (by rfl) (by decide +kernel) (by rfl) (by rfl) (by omega) (by omega) (by omega) (by omega) rfl ?_
    refine jT_fA [23, 16] 24 (y := 179) (pcN := 58) (dC := 1) (bc1 := 1) (bc2 := 56) (c1 := 52085) (c2 := 2915262) (as := [(4, 23), (4, 16)]) (asC := [(4, 0), (4, 1)]) (LN := [(0, (4, 0)), (2, (0, p2))]) (stN := [(4, 22)]) (hsC := [(100, [], (jenc 1)), (100, [], (jenc (jlg 0)))]) (ex := [(100, [], (jenc (jlg 0)))]) (v := (4, 2)) (st2 := [(4, 24), (4, 22)]) (hs2 := jpY_430) (jT_product1 (d := 0) (a := jlg 0) jyl0.2) (by rfl) (by rfl) (by decide +kernel) (by rfl) (by rfl) (by omega) (by omega) (by omega) (by omega) rfl (by decide +kernel) ?_
    refine jT_fA [24] 25 (y := 184) (pcN := 61) (dC := 1) (bc1 := 1) (bc2 := 56) (c1 := 52084) (c2 := 2915206) (as := [(4, 24)]) (asC := [(4, 0)]) (LN := [(0, (4, 0)), (2, (0, p2))]) (stN := [(4, 22)]) (hsC := [(100, [], (jenc (jlg 0)))]) (ex := [(100, [], (jenc (-(jlg 0))))]) (v := (4, 1)) (st2 := [(4, 25), (4, 22)]) (hs2 := jpY_431) (jT_negative (d := 0) (a := jlg 0)) (by rfl) (by rfl) (by decide +kernel) (by rfl) (by rfl) (by omega) (by omega) (by omega) (by omega) rfl (by decide +kernel) ?_
    refine jT_eq (LN := [(0, (4, 0)), (2, (0, p2))]) (stN := [(4, 25), (4, 22)]) (hsN := [jzY_19, (100, [], jS0), jgh, jgh, jgh, jgh, (130, [], [16, 17, 18, 19, 20, 21]), (101, [], [0, 0, 0, 0, 0, 0]), jgh, jgh, jgh, jgh, jgh, jgh, jgh, jgh, (100, [], (jenc (jlg 0))), (100, [], (jenc (jlg 1))), (100, [], (jenc (jlg 2))), (100, [], (jenc (jlg 3))), (100, [], (jenc (jlg 4))), (100, [], (jenc (jlg 5))), (100, [], (jenc 0)), (100, [], (jenc 1)), (100, [], (jenc (jlg 0))), (100, [], (jenc (-(jlg 0))))]) rfl rfl (by show [jzY_19, (100, [], jS0), jgh, jgh, jgh, jgh, (130, [], [16, 17, 18, 19, 20, 21]), (101, [], [0, 0, 0, 0, 0, 0]), jgh, jgh, jgh, jgh, jgh, jgh, jgh, jgh, (100, [], (jenc (jlg 0))), (100, [], (jenc (jlg 1))), (100, [], (jenc (jlg 2))), (100, [], (jenc (jlg 3))), (100, [], (jenc (jlg 4))), (100, [], (jenc (jlg 5))), (100, [], List.replicate 56 0), (100, [], (jenc 1)), (100, [], (jenc (jlg 0))), (100, [], (jenc (-(jlg 0))))] = _; rw [jrep56e]) ?_
    refine jT_fR [22, 25] 26 (y := 181) (pcN := 64) (dC := 0) (bc1 := 0) (bc2 := 0) (c1 := 52084) (c2 := 2915206) (as := [(4, 22), (4, 25)]) (asC := [(4, 0), (4, 1)]) (LN := [(0, (4, 0)), (2, (0, p2))]) (stN := []) (hsC := [(100, [], (jenc 0)), (100, [], (jenc (-(jlg 0))))]) (v := (4, 1)) (st2 := [(4, 25)]) (jT_added_0l (d := 0) (b := (-(jlg 0)))) (by rfl) (by rfl) (by decide +kernel) (by rfl) (by rfl) (by omega) (by omega) (by omega) (by omega) rfl ?_
    refine jT_xastore_n (v := (4, 25)) (LN := [(3, (4, 25)), (0, (4, 0)), (2, (0, p2))]) (pcN := 65) jIY_310_64 rfl rfl rfl rfl ?_
    refine jT_loc (LN := [(3, (4, 25)), (0, (4, 0)), (2, (0, p2))]) (by show List.Nodup [3, 0, 2]; decide) (by intro q hq; simp only [List.mem_cons, List.not_mem_nil, or_false] at hq; rcases hq with rfl | rfl | rfl <;> rfl) ?_
    refine jT_eq (LN := [(3, (4, 25)), (0, (4, 0)), (2, (0, p2))]) (stN := []) (hsN := [jzY_19, (100, [], jS0), jgh, jgh, jgh, jgh, (130, [], [16, 17, 18, 19, 20, 21]), (101, [], [0, 0, 0, 0, 0, 0]), jgh, jgh, jgh, jgh, jgh, jgh, jgh, jgh, (100, [], (jenc (jlg 0))), (100, [], (jenc (jlg 1))), (100, [], (jenc (jlg 2))), (100, [], (jenc (jlg 3))), (100, [], (jenc (jlg 4))), (100, [], (jenc (jlg 5))), (100, [], (jenc 0)), (100, [], (jenc 1)), (100, [], (jenc (jlg 0))), (100, [], (jenc (-jln p2)))]) rfl rfl (by show [jzY_19, (100, [], jS0), jgh, jgh, jgh, jgh, (130, [], [16, 17, 18, 19, 20, 21]), (101, [], [0, 0, 0, 0, 0, 0]), jgh, jgh, jgh, jgh, jgh, jgh, jgh, jgh, (100, [], (jenc (jlg 0))), (100, [], (jenc (jlg 1))), (100, [], (jenc (jlg 2))), (100, [], (jenc (jlg 3))), (100, [], (jenc (jlg 4))), (100, [], (jenc (jlg 5))), (100, [], (jenc 0)), (100, [], (jenc 1)), (100, [], (jenc (jlg 0))), (100, [], (jenc (-(jlg 0))))] = _; rw [show -(jlg 0) = -jln p2 from by rw [show p2 = 2 by omega, jln_2]]) ?_
    refine jT_gc [0, 1, 2, 3, 4, 5, 6, 7, 8, 9, 10, 11, 12, 13, 14, 15, 16, 17, 18, 19, 20, 21, 25] (hs0 := [jzY_19, (100, [], jS0), jgh, jgh, jgh, jgh, (130, [], [16, 17, 18, 19, 20, 21]), (101, [], [0, 0, 0, 0, 0, 0]), jgh, jgh, jgh, jgh, jgh, jgh, jgh, jgh, (100, [], (jenc (jlg 0))), (100, [], (jenc (jlg 1))), (100, [], (jenc (jlg 2))), (100, [], (jenc (jlg 3))), (100, [], (jenc (jlg 4))), (100, [], (jenc (jlg 5))), (100, [], (jenc (-jln p2)))]) (L0 := [(3, (4, 22)), (0, (4, 0)), (2, (0, p2))]) (st0 := []) (by show jgB [0, 1, 2, 3, 4, 5, 6, 7, 8, 9, 10, 11, 12, 13, 14, 15, 16, 17, 18, 19, 20, 21, 25] 26 = true; decide +kernel) rfl ⟨rfl, rfl, rfl, rfl, rfl, rfl, rfl, rfl, rfl, rfl, rfl, rfl, rfl, rfl, rfl, rfl, rfl, rfl, rfl, rfl, rfl, rfl, rfl, trivial⟩ rfl rfl (by decide +kernel) ?_
    refine jT_xiconst (k := 0) (pcN := 66) jIY_310_65 rfl ?_
    refine jT_xistore (v := (0, 0)) (LN := [(4, (0, 0)), (3, (4, 22)), (0, (4, 0)), (2, (0, p2))]) (pcN := 68) jIY_310_66 rfl rfl rfl rfl ?_
    refine jT_adv 1 (pcN := 70) (LN := [(4, (0, 0)), (3, (4, 22)), (0, (4, 0)), (2, (0, p2))]) (stN := [(0, 1000000000)]) (hsN := [jzY_19, (100, [], jS0), jgh, jgh, jgh, jgh, (130, [], [16, 17, 18, 19, 20, 21]), (101, [], [0, 0, 0, 0, 0, 0]), jgh, jgh, jgh, jgh, jgh, jgh, jgh, jgh, (100, [], (jenc (jlg 0))), (100, [], (jenc (jlg 1))), (100, [], (jenc (jlg 2))), (100, [], (jenc (jlg 3))), (100, [], (jenc (jlg 4))), (100, [], (jenc (jlg 5))), (100, [], (jenc (-jln p2)))]) (c1 := 0) (s1 := 0) (c2 := 52084) (s2 := 2915206) (by exact rfl) ?_ (by omega) (by omega)
    refine jT_xistore (v := (0, 1000000000)) (LN := [(5, (0, 1000000000)), (4, (0, 0)), (3, (4, 22)), (0, (4, 0)), (2, (0, p2))]) (pcN := 72) jIY_310_70 rfl rfl rfl rfl ?_
    refine jT_loc (LN := [(5, (0, 1000000000)), (4, (0, 0)), (3, (4, 22)), (0, (4, 0)), (2, (0, p2))]) (by show List.Nodup [5, 4, 3, 0, 2]; decide) (by intro q hq; simp only [List.mem_cons, List.not_mem_nil, or_false] at hq; rcases hq with rfl | rfl | rfl | rfl | rfl <;> rfl) ?_
    exact jT.mono (jYl_st_94_L (d := d) h_p2 30 0 1000000000 (by omega) (by omega) (by omega) (by omega) (by decide)) (by omega) (by omega) (by omega) (fun _ _ _ h => h)
  · refine jT_xaload_n (v := (4, 0)) (pcN := 36) jIY_310_35 rfl rfl rfl ?_
    refine jT_xaload_n (v := (4, 0)) (pcN := 37) jIY_310_36 rfl rfl rfl ?_
    refine jT_xgetf (a := 0) (t := 1) (ci := 14) (fi := 9) (c := jzY_19) (v := (4, 7)) (pcN := 40) jIY_310_37 rfl rfl rfl rfl rfl rfl rfl ?_
    refine jT_fA [0, 7] 22 (y := 214) (pcN := 43) (dC := 0) (bc1 := 1) (bc2 := 56) (c1 := 53819) (c2 := 3012366) (as := [(4, 0), (4, 7)]) (asC := [(4, 0), (4, 1)]) (LN := [(0, (4, 0)), (2, (0, p2))]) (stN := []) (hsC := [jgh, (101, [], [0, 0, 0, 0, 0, 0])]) (ex := [(100, [], List.replicate 56 0)]) (v := (4, 2)) (st2 := [(4, 22)]) (hs2 := jpY_420) (jY_214_95 (d := 0)) (by rfl) (by rfl) (by decide +kernel) (by rfl) (by rfl) (by omega) (by omega) (by omega) (by omega) rfl (by decide +kernel) ?_
    refine jT_xaload_n (v := (4, 0)) (pcN := 44) jIY_310_43 rfl rfl rfl ?_
    refine jT_xgetf (a := 0) (t := 1) (ci := 14) (fi := 10) (c := jzY_19) (v := (1, 1)) (pcN := 47) jIY_310_44 rfl rfl rfl rfl rfl rfl rfl ?_
    refine jT_fA [] 23 (y := 178) (pcN := 50) (dC := 1) (bc1 := 1) (bc2 := 56) (c1 := 53818) (c2 := 3012310) (as := [(1, 1)]) (asC := [(1, 1)]) (LN := [(0, (4, 0)), (2, (0, p2))]) (stN := [(4, 22)]) (hsC := []) (ex := [(100, [], (jenc 1))]) (v := (4, 0)) (st2 := [(4, 23), (4, 22)]) (hs2 := jpY_423) (jT_big (d := 0) (v := 1) (by omega) (by omega)) (by rfl) (by rfl) (by decide +kernel) (by rfl) (by rfl) (by omega) (by omega) (by omega) (by omega) rfl (by decide +kernel) ?_
    refine jT_xaload_n (v := (4, 0)) (pcN := 51) jIY_310_50 rfl rfl rfl ?_
    refine jT_xiload_n (v := (0, p2)) (pcN := 52) jIY_310_51 rfl rfl rfl ?_
    refine jT_fA [0, 1, 2, 3, 4, 5, 6, 7, 8, 9, 10, 11, 12, 13, 14, 15, 16, 17, 18, 19, 20, 21] 24 (y := 311) (pcN := 55) (dC := 4) (bc1 := 1732) (bc2 := 96992) (c1 := 52086) (c2 := 2915318) (as := [(4, 0), (0, p2)]) (asC := [(4, 0), (0, p2)]) (LN := [(0, (4, 0)), (2, (0, p2))]) (stN := [(4, 23), (4, 22)]) (hsC := jpY_271) (ex := [(100, [], (jenc (jln p2)))]) (v := (4, 22)) (st2 := [(4, 24), (4, 23), (4, 22)]) (hs2 := [jzY_19, (100, [], jS0), jgh, jgh, jgh, jgh, (130, [], [16, 17, 18, 19, 20, 21]), (101, [], [0, 0, 0, 0, 0, 0]), jgh, jgh, jgh, jgh, jgh, jgh, jgh, jgh, (100, [], (jenc (jlg 0))), (100, [], (jenc (jlg 1))), (100, [], (jenc (jlg 2))), (100, [], (jenc (jlg 3))), (100, [], (jenc (jlg 4))), (100, [], (jenc (jlg 5))), (100, [], List.replicate 56 0), (100, [], (jenc 1)), (100, [], (jenc (jln p2)))]) (jYl_ln_65_A (d := 0) (n := p2) (by omega) (by omega)) (by rfl) (by rfl) (by decide +kernel) (by rfl) (by rfl) (by omega) (by omega) (by omega) (by omega) rfl rfl ?_
    refine jT_callA [23, 24] (y := 179) (pcN := 58) (dC := 1) (bc1 := 1) (bc2 := 56) (c1 := 52085) (c2 := 2915262) (as := [(4, 23), (4, 24)]) (asC := [(4, 0), (4, 1)]) (LN := [(0, (4, 0)), (2, (0, p2))]) (stN := [(4, 22)]) (hsC := [(100, [], (jenc 1)), (100, [], (jenc (jln p2)))]) (ex := [(100, [], (jenc (jln p2)))]) (v := (4, 2)) (st2 := [(4, 25), (4, 22)]) (hs2 := [jzY_19, (100, [], jS0), jgh, jgh, jgh, jgh, (130, [], [16, 17, 18, 19, 20, 21]), (101, [], [0, 0, 0, 0, 0, 0]), jgh, jgh, jgh, jgh, jgh, jgh, jgh, jgh, (100, [], (jenc (jlg 0))), (100, [], (jenc (jlg 1))), (100, [], (jenc (jlg 2))), (100, [], (jenc (jlg 3))), (100, [], (jenc (jlg 4))), (100, [], (jenc (jlg 5))), (100, [], List.replicate 56 0), (100, [], (jenc 1)), (100, [], (jenc (jln p2))), (100, [], (jenc (jln p2)))]) (jT_product1 (d := 0) (a := jln p2) (jyx54 (jln_b (by omega) (by omega)).2)) (by rfl) (by rfl) (by rfl) (by rfl) ⟨rfl, rfl, trivial⟩ (by rfl) (by rfl) (by omega) (by show 22 ≤ 25; omega) (by omega) (by omega) rfl rfl ?_
    refine jT_callA [25] (y := 184) (pcN := 61) (dC := 1) (bc1 := 1) (bc2 := 56) (c1 := 52084) (c2 := 2915206) (as := [(4, 25)]) (asC := [(4, 0)]) (LN := [(0, (4, 0)), (2, (0, p2))]) (stN := [(4, 22)]) (hsC := [(100, [], (jenc (jln p2)))]) (ex := [(100, [], (jenc (-(jln p2))))]) (v := (4, 1)) (st2 := [(4, 26), (4, 22)]) (hs2 := [jzY_19, (100, [], jS0), jgh, jgh, jgh, jgh, (130, [], [16, 17, 18, 19, 20, 21]), (101, [], [0, 0, 0, 0, 0, 0]), jgh, jgh, jgh, jgh, jgh, jgh, jgh, jgh, (100, [], (jenc (jlg 0))), (100, [], (jenc (jlg 1))), (100, [], (jenc (jlg 2))), (100, [], (jenc (jlg 3))), (100, [], (jenc (jlg 4))), (100, [], (jenc (jlg 5))), (100, [], List.replicate 56 0), (100, [], (jenc 1)), (100, [], (jenc (jln p2))), (100, [], (jenc (jln p2))), (100, [], (jenc (-(jln p2))))]) (jT_negative (d := 0) (a := jln p2)) (by rfl) (by rfl) (by rfl) (by rfl) ⟨rfl, trivial⟩ (by rfl) (by rfl) (by omega) (by show 22 ≤ 26; omega) (by omega) (by omega) rfl rfl ?_
    refine jT_eq (LN := [(0, (4, 0)), (2, (0, p2))]) (stN := [(4, 26), (4, 22)]) (hsN := [jzY_19, (100, [], jS0), jgh, jgh, jgh, jgh, (130, [], [16, 17, 18, 19, 20, 21]), (101, [], [0, 0, 0, 0, 0, 0]), jgh, jgh, jgh, jgh, jgh, jgh, jgh, jgh, (100, [], (jenc (jlg 0))), (100, [], (jenc (jlg 1))), (100, [], (jenc (jlg 2))), (100, [], (jenc (jlg 3))), (100, [], (jenc (jlg 4))), (100, [], (jenc (jlg 5))), (100, [], (jenc 0)), (100, [], (jenc 1)), (100, [], (jenc (jln p2))), (100, [], (jenc (jln p2))), (100, [], (jenc (-(jln p2))))]) rfl rfl (by show [jzY_19, (100, [], jS0), jgh, jgh, jgh, jgh, (130, [], [16, 17, 18, 19, 20, 21]), (101, [], [0, 0, 0, 0, 0, 0]), jgh, jgh, jgh, jgh, jgh, jgh, jgh, jgh, (100, [], (jenc (jlg 0))), (100, [], (jenc (jlg 1))), (100, [], (jenc (jlg 2))), (100, [], (jenc (jlg 3))), (100, [], (jenc (jlg 4))), (100, [], (jenc (jlg 5))), (100, [], List.replicate 56 0), (100, [], (jenc 1)), (100, [], (jenc (jln p2))), (100, [], (jenc (jln p2))), (100, [], (jenc (-(jln p2))))] = _; rw [jrep56e]) ?_
    refine jT_callA [22, 26] (y := 181) (pcN := 64) (dC := 0) (bc1 := 0) (bc2 := 0) (c1 := 52084) (c2 := 2915206) (as := [(4, 22), (4, 26)]) (asC := [(4, 0), (4, 1)]) (LN := [(0, (4, 0)), (2, (0, p2))]) (stN := []) (hsC := [(100, [], (jenc 0)), (100, [], (jenc (-(jln p2))))]) (ex := []) (v := (4, 1)) (st2 := [(4, 26)]) (hs2 := [jzY_19, (100, [], jS0), jgh, jgh, jgh, jgh, (130, [], [16, 17, 18, 19, 20, 21]), (101, [], [0, 0, 0, 0, 0, 0]), jgh, jgh, jgh, jgh, jgh, jgh, jgh, jgh, (100, [], (jenc (jlg 0))), (100, [], (jenc (jlg 1))), (100, [], (jenc (jlg 2))), (100, [], (jenc (jlg 3))), (100, [], (jenc (jlg 4))), (100, [], (jenc (jlg 5))), (100, [], (jenc 0)), (100, [], (jenc 1)), (100, [], (jenc (jln p2))), (100, [], (jenc (jln p2))), (100, [], (jenc (-(jln p2))))]) (jT_added_0l (d := 0) (b := (-(jln p2)))) (by rfl) (by rfl) (by rfl) (by rfl) ⟨rfl, rfl, trivial⟩ (by rfl) (by rfl) (by omega) (by show 22 ≤ 27; omega) (by omega) (by omega) rfl rfl ?_
    refine jT_xastore_n (v := (4, 26)) (LN := [(3, (4, 26)), (0, (4, 0)), (2, (0, p2))]) (pcN := 65) jIY_310_64 rfl rfl rfl rfl ?_
    refine jT_loc (LN := [(3, (4, 26)), (0, (4, 0)), (2, (0, p2))]) (by show List.Nodup [3, 0, 2]; decide) (by intro q hq; simp only [List.mem_cons, List.not_mem_nil, or_false] at hq; rcases hq with rfl | rfl | rfl <;> rfl) ?_
    refine jT_eq (LN := [(3, (4, 26)), (0, (4, 0)), (2, (0, p2))]) (stN := []) (hsN := [jzY_19, (100, [], jS0), jgh, jgh, jgh, jgh, (130, [], [16, 17, 18, 19, 20, 21]), (101, [], [0, 0, 0, 0, 0, 0]), jgh, jgh, jgh, jgh, jgh, jgh, jgh, jgh, (100, [], (jenc (jlg 0))), (100, [], (jenc (jlg 1))), (100, [], (jenc (jlg 2))), (100, [], (jenc (jlg 3))), (100, [], (jenc (jlg 4))), (100, [], (jenc (jlg 5))), (100, [], (jenc 0)), (100, [], (jenc 1)), (100, [], (jenc (jln p2))), (100, [], (jenc (jln p2))), (100, [], (jenc (-jln p2)))]) rfl rfl (by show [jzY_19, (100, [], jS0), jgh, jgh, jgh, jgh, (130, [], [16, 17, 18, 19, 20, 21]), (101, [], [0, 0, 0, 0, 0, 0]), jgh, jgh, jgh, jgh, jgh, jgh, jgh, jgh, (100, [], (jenc (jlg 0))), (100, [], (jenc (jlg 1))), (100, [], (jenc (jlg 2))), (100, [], (jenc (jlg 3))), (100, [], (jenc (jlg 4))), (100, [], (jenc (jlg 5))), (100, [], (jenc 0)), (100, [], (jenc 1)), (100, [], (jenc (jln p2))), (100, [], (jenc (jln p2))), (100, [], (jenc (-(jln p2))))] = _; rfl) ?_
    refine jT_gc [0, 1, 2, 3, 4, 5, 6, 7, 8, 9, 10, 11, 12, 13, 14, 15, 16, 17, 18, 19, 20, 21, 26] (hs0 := [jzY_19, (100, [], jS0), jgh, jgh, jgh, jgh, (130, [], [16, 17, 18, 19, 20, 21]), (101, [], [0, 0, 0, 0, 0, 0]), jgh, jgh, jgh, jgh, jgh, jgh, jgh, jgh, (100, [], (jenc (jlg 0))), (100, [], (jenc (jlg 1))), (100, [], (jenc (jlg 2))), (100, [], (jenc (jlg 3))), (100, [], (jenc (jlg 4))), (100, [], (jenc (jlg 5))), (100, [], (jenc (-jln p2)))]) (L0 := [(3, (4, 22)), (0, (4, 0)), (2, (0, p2))]) (st0 := []) (by show jgB [0, 1, 2, 3, 4, 5, 6, 7, 8, 9, 10, 11, 12, 13, 14, 15, 16, 17, 18, 19, 20, 21, 26] 27 = true; decide +kernel) rfl ⟨rfl, rfl, rfl, rfl, rfl, rfl, rfl, rfl, rfl, rfl, rfl, rfl, rfl, rfl, rfl, rfl, rfl, rfl, rfl, rfl, rfl, rfl, rfl, trivial⟩ rfl rfl (by decide +kernel) ?_
    refine jT_xiconst (k := 0) (pcN := 66) jIY_310_65 rfl ?_
    refine jT_xistore (v := (0, 0)) (LN := [(4, (0, 0)), (3, (4, 22)), (0, (4, 0)), (2, (0, p2))]) (pcN := 68) jIY_310_66 rfl rfl rfl rfl ?_
    refine jT_adv 1 (pcN := 70) (LN := [(4, (0, 0)), (3, (4, 22)), (0, (4, 0)), (2, (0, p2))]) (stN := [(0, 1000000000)]) (hsN := [jzY_19, (100, [], jS0), jgh, jgh, jgh, jgh, (130, [], [16, 17, 18, 19, 20, 21]), (101, [], [0, 0, 0, 0, 0, 0]), jgh, jgh, jgh, jgh, jgh, jgh, jgh, jgh, (100, [], (jenc (jlg 0))), (100, [], (jenc (jlg 1))), (100, [], (jenc (jlg 2))), (100, [], (jenc (jlg 3))), (100, [], (jenc (jlg 4))), (100, [], (jenc (jlg 5))), (100, [], (jenc (-jln p2)))]) (c1 := 0) (s1 := 0) (c2 := 52084) (s2 := 2915206) (by exact rfl) ?_ (by omega) (by omega)
    refine jT_xistore (v := (0, 1000000000)) (LN := [(5, (0, 1000000000)), (4, (0, 0)), (3, (4, 22)), (0, (4, 0)), (2, (0, p2))]) (pcN := 72) jIY_310_70 rfl rfl rfl rfl ?_
    refine jT_loc (LN := [(5, (0, 1000000000)), (4, (0, 0)), (3, (4, 22)), (0, (4, 0)), (2, (0, p2))]) (by show List.Nodup [5, 4, 3, 0, 2]; decide) (by intro q hq; simp only [List.mem_cons, List.not_mem_nil, or_false] at hq; rcases hq with rfl | rfl | rfl | rfl | rfl <;> rfl) ?_
    exact jT.mono (jYl_st_94_L (d := d) h_p2 30 0 1000000000 (by omega) (by omega) (by omega) (by omega) (by decide)) (by omega) (by omega) (by omega) (fun _ _ _ h => h)
theorem jY_310_96 {xs : List Int} {d : Nat} {x1 x2 : Int} (h_x1 : 0 ≤ x1 ∧ x1 ≤ 7) (h_x2 : 1 ≤ x2 ∧ x2 ≤ 1000000) : jT xs (d + 6) 310 22 0 [(0, (4, 0)), (1, (0, x1)), (2, (0, x2))] [] jpY_157 53820 3012422 (fun k v hsN => k = 0 ∧ v = (0, x2) ∧ hsN = jpY_157 ++ []) := by
  refine jT_xaload_n (v := (4, 0)) (pcN := 1) jIY_310_0 rfl rfl rfl ?_
  refine jT_xiload_n (v := (0, x1)) (pcN := 2) jIY_310_1 rfl rfl rfl ?_
  refine jT_fR [] 22 (y := 188) (pcN := 5) (dC := 1) (bc1 := 0) (bc2 := 0) (c1 := 53820) (c2 := 3012422) (as := [(0, x1)]) (asC := [(0, x1)]) (LN := [(0, (4, 0)), (1, (0, x1)), (2, (0, x2))]) (stN := [(4, 0)]) (hsC := []) (v := (0, 1)) (st2 := [(0, 1), (4, 0)]) (jY_188_13 (d := 0) (by omega)) (by rfl) (by rfl) (by decide +kernel) (by rfl) (by rfl) (by omega) (by omega) (by omega) (by omega) rfl ?_
  refine jT_fR [0, 1, 2, 3, 4, 5, 6, 7, 8, 9, 10, 11, 12, 13, 14, 15] 22 (y := 190) (pcN := 8) (dC := 1) (bc1 := 0) (bc2 := 0) (c1 := 53820) (c2 := 3012422) (as := [(4, 0), (0, 1)]) (asC := [(4, 0), (0, 1)]) (LN := [(0, (4, 0)), (1, (0, x1)), (2, (0, x2))]) (stN := []) (hsC := jpY_20) (v := (0, 0)) (st2 := [(0, 0)]) (jY_190_15 (d := 0)) (by rfl) (by rfl) (by decide +kernel) (by rfl) (by rfl) (by omega) (by omega) (by omega) (by omega) rfl ?_
  refine jT_xifF (t := 28) (pcN := 11) jIY_310_8 rfl (by decide +kernel) rfl rfl ?_
  refine jT_xaload_n (v := (4, 0)) (pcN := 12) jIY_310_11 rfl rfl rfl ?_
  refine jT_xiload_n (v := (0, x2)) (pcN := 13) jIY_310_12 rfl rfl rfl ?_
  refine jT_xi2l (x := x2) (z := x2) (pcN := 14) jIY_310_13 rfl (jw_idd (by omega) (by omega)) rfl ?_
  refine jT_xlconst (z := 1) (pcN := 15) jIY_310_14 rfl rfl ?_
  refine jT_adv 1 (pcN := 18) (LN := [(0, (4, 0)), (1, (0, x1)), (2, (0, x2))]) (stN := [(1, 1000000), (1, 1), (1, x2), (4, 0)]) (hsN := jpY_157) (c1 := 0) (s1 := 0) (c2 := 53820) (s2 := 3012422) (by exact rfl) ?_ (by omega) (by omega)
  refine jT_fR [] 22 (y := 189) (pcN := 21) (dC := 0) (bc1 := 0) (bc2 := 0) (c1 := 53820) (c2 := 3012422) (as := [(1, x2), (1, 1), (1, 1000000)]) (asC := [(1, x2), (1, 1), (1, 1000000)]) (LN := [(0, (4, 0)), (1, (0, x1)), (2, (0, x2))]) (stN := [(4, 0)]) (hsC := []) (v := (0, 1)) (st2 := [(0, 1), (4, 0)]) (jT_in_ok (d := 0) (v := x2) (lo := 1) (hi := 1000000) (by omega) (by omega) (by omega) (by omega) (by omega)) (by rfl) (by rfl) (by decide +kernel) (by rfl) (by rfl) (by omega) (by omega) (by omega) (by omega) rfl ?_
  refine jT_xiconst (k := 2) (pcN := 22) jIY_310_21 rfl ?_
  refine jT_fR [0] 22 (y := 191) (pcN := 25) (dC := 0) (bc1 := 0) (bc2 := 0) (c1 := 53820) (c2 := 3012422) (as := [(4, 0), (0, 1), (0, 2)]) (asC := [(4, 0), (0, 1), (0, 2)]) (LN := [(0, (4, 0)), (1, (0, x1)), (2, (0, x2))]) (stN := []) (hsC := [jgh]) (v := (0, 0)) (st2 := [(0, 0)]) (jY_191_31 (d := 0)) (by rfl) (by rfl) (by decide +kernel) (by rfl) (by rfl) (by omega) (by omega) (by omega) (by omega) rfl ?_
  refine jT_xifT (pcN := 30) jIY_310_25 rfl (by decide +kernel) rfl ?_
  refine jT_xaload_n (v := (4, 0)) (pcN := 31) jIY_310_30 rfl rfl rfl ?_
  refine jT_xiload_n (v := (0, x1)) (pcN := 32) jIY_310_31 rfl rfl rfl ?_
  refine jT_fR [0, 1, 2, 3, 4, 5, 6, 7, 8, 9, 10, 11, 12, 13, 14, 15] 22 (y := 202) (pcN := 35) (dC := 1) (bc1 := 0) (bc2 := 0) (c1 := 53820) (c2 := 3012422) (as := [(4, 0), (0, x1)]) (asC := [(4, 0), (0, x1)]) (LN := [(0, (4, 0)), (1, (0, x1)), (2, (0, x2))]) (stN := []) (hsC := jpY_140) (v := (9, 0)) (st2 := []) (jY_202_33 (d := 0) (by omega)) (by rfl) (by rfl) (by decide +kernel) (by rfl) (by rfl) (by omega) (by omega) (by omega) (by omega) rfl ?_
  refine jT_loc (LN := [(0, (4, 0)), (2, (0, x2))]) (by show List.Nodup [0, 2]; decide) (by intro q hq; simp only [List.mem_cons, List.not_mem_nil, or_false] at hq; rcases hq with rfl | rfl <;> rfl) ?_
  exact jT.mono (jYl_st_94 (d := d) (p2 := x2) (by omega)) (by omega) (by omega) (by omega) (fun k v hs2 q => ⟨q.1, q.2.1, by rw [q.2.2]; rfl⟩)
theorem jY_186_97 {xs : List Int} {d : Nat} : jT xs d 186 16 0 [(0, (4, 0))] [] jpY_20 0 0 (fun k v hsN => k = 0 ∧ v = (0, 0) ∧ hsN = jpY_20 ++ []) := by
  refine jT_advK 2 (pcN := 4) (LN := [(0, (4, 0))]) (stN := [(0, 0)]) (hsN := jpY_20) (c1 := 0) (s1 := 0) (c2 := 0) (s2 := 0) (by decide +kernel) ?_ (by omega) (by omega)
  exact jT_ret rfl (by decide) (by show 16 ≤ 16; omega) (by omega) (by omega) ⟨rfl, rfl, rfl⟩
theorem jY_116_98 {xs : List Int} {d : Nat} {x2 : Int} (h_x2 : 1000001 ≤ x2 ∧ x2 ≤ 2147483647) : jT xs d 116 1 0 [(0, (4, 0)), (1, (0, x2)), (2, (0, 1)), (3, (0, 1000000))] [] [jgh] 1 6 (fun k v hsN => k = 1 ∧ v = (0, 1) ∧ hsN = [jgh] ++ []) := by
  refine jT_xiload_n (v := (0, x2)) (pcN := 1) jIY_116_0 rfl rfl rfl ?_
  refine jT_xiload_n (v := (0, 1)) (pcN := 2) jIY_116_1 rfl rfl rfl ?_
  refine jT_icF (a := x2) (b := 1) (t := 10) (by rfl) (by rfl) (by rfl) (jw_idd (by omega) (by omega)) (jw_idd (by omega) (by omega)) (by simp only [jcP] <;> omega) ?_
  refine jT_xiload_n (v := (0, x2)) (pcN := 6) jIY_116_5 rfl rfl rfl ?_
  refine jT_xiload_n (v := (0, 1000000)) (pcN := 7) jIY_116_6 rfl rfl rfl ?_
  refine jT_icF (a := x2) (b := 1000000) (t := 21) (by rfl) (by rfl) (by rfl) (jw_idd (by omega) (by omega)) (jw_idd (by omega) (by omega)) (by simp only [jcP] <;> omega) ?_
  exact jT_ret (c1 := 1) (s1 := 6) rfl (by decide) (by show 1 ≤ 1; omega) (by omega) (by omega) ⟨rfl, rfl, rfl⟩
theorem jY_168_99 {xs : List Int} {d : Nat} {x1 x2 : Int} (h_x1 : 0 ≤ x1 ∧ x1 ≤ 7) (h_x2 : 1000001 ≤ x2 ∧ x2 ≤ 2147483647) : jT xs (d + 1) 168 12 0 [(0, (4, 0)), (1, (0, x1)), (2, (0, x2))] [] jpY_6 1 6 (fun k v hsN => k = 1 ∧ v = (0, 1) ∧ hsN = jpY_6 ++ []) := by
  refine jT_xaload_n (v := (4, 0)) (pcN := 1) jIY_168_0 rfl rfl rfl ?_
  refine jT_xiload_n (v := (0, x1)) (pcN := 2) jIY_168_1 rfl rfl rfl ?_
  refine jT_xbipush (k := 8) (pcN := 4) jIY_168_2 (by decide) rfl ?_
  refine jT_fR [0] 12 (y := 115) (pcN := 7) (dC := 0) (bc1 := 0) (bc2 := 0) (c1 := 1) (c2 := 6) (as := [(4, 0), (0, x1), (0, 8)]) (asC := [(4, 0), (0, x1), (0, 8)]) (LN := [(0, (4, 0)), (1, (0, x1)), (2, (0, x2))]) (stN := []) (hsC := [jgh]) (v := (9, 0)) (st2 := []) (jY_115_9 (d := 0) (by omega)) (by rfl) (by rfl) (by decide +kernel) (by rfl) (by rfl) (by omega) (by omega) (by omega) (by omega) rfl ?_
  refine jT_xaload_n (v := (4, 0)) (pcN := 8) jIY_168_7 rfl rfl rfl ?_
  refine jT_xiload_n (v := (0, x2)) (pcN := 9) jIY_168_8 rfl rfl rfl ?_
  refine jT_xiconst (k := 1) (pcN := 10) jIY_168_9 rfl ?_
  refine jT_adv 1 (pcN := 12) (LN := [(0, (4, 0)), (1, (0, x1)), (2, (0, x2))]) (stN := [(0, 1000000), (0, 1), (0, x2), (4, 0)]) (hsN := jpY_6) (c1 := 0) (s1 := 0) (c2 := 1) (s2 := 6) (by exact rfl) ?_ (by omega) (by omega)
  exact jT_fX [0] 12 (y := 116) (pcN := 15) (dC := 0) (bc1 := 1) (bc2 := 6) (as := [(4, 0), (0, x2), (0, 1), (0, 1000000)]) (asC := [(4, 0), (0, x2), (0, 1), (0, 1000000)]) (LN := [(0, (4, 0)), (1, (0, x1)), (2, (0, x2))]) (stN := []) (hsC := [jgh]) (e := 1) (jY_116_98 (d := 0) (by omega)) (by rfl) (by rfl) (by decide +kernel) (by rfl) (by rfl) (by omega) (by omega) (by omega) (by omega) ⟨rfl, ⟨rfl, rfl, rfl⟩⟩
theorem jY_367_100 {xs : List Int} {d : Nat} {x1 x2 : Int} (h_x1 : 0 ≤ x1 ∧ x1 ≤ 7) (h_x2 : 1000001 ≤ x2 ∧ x2 ≤ 2147483647) : jT xs (d + 2) 367 13 0 [(0, (4, 0)), (1, (0, x1)), (2, (0, x2)), (3, (4, 1))] [] jpY_13 1 6 (fun k v hsN => k = 0 ∧ v = (0, 2) ∧ hsN = jpY_13 ++ []) := by
  refine jT_xaload_n (v := (4, 1)) (pcN := 1) jIY_367_0 rfl rfl rfl ?_
  refine jT_xiconst (k := 0) (pcN := 2) jIY_367_1 rfl ?_
  refine jT_xaload_n (v := (4, 0)) (pcN := 3) jIY_367_2 rfl rfl rfl ?_
  refine jT_xiload_n (v := (0, x1)) (pcN := 4) jIY_367_3 rfl rfl rfl ?_
  refine jT_xiload_n (v := (0, x2)) (pcN := 5) jIY_367_4 rfl rfl rfl ?_
  exact jT_fX [0, 2, 3, 4, 5, 6, 7, 8, 9, 10, 11, 12] 13 (y := 168) (pcN := 8) (dC := 1) (bc1 := 1) (bc2 := 6) (as := [(4, 0), (0, x1), (0, x2)]) (asC := [(4, 0), (0, x1), (0, x2)]) (LN := [(0, (4, 0)), (1, (0, x1)), (2, (0, x2)), (3, (4, 1))]) (stN := [(0, 0), (4, 1)]) (hsC := jpY_6) (e := 1) (jY_168_99 (d := 0) (by omega) (by omega)) (by rfl) (by rfl) (by decide +kernel) (by rfl) (by rfl) (by omega) (by omega) (by omega) (by omega) (show _ from ⟨rfl, rfl, rfl⟩)
theorem jY_310_101 {xs : List Int} {d : Nat} {x1 x2 : Int} (h_x1 : 0 ≤ x1 ∧ x1 ≤ 7) (h_x2 : 1000001 ≤ x2 ∧ x2 ≤ 2147483647) : jT xs (d + 2) 310 16 0 [(0, (4, 0)), (1, (0, x1)), (2, (0, x2))] [] jpY_20 0 0 (fun k v hsN => k = 0 ∧ v = (0, 0) ∧ hsN = jpY_35) := by
  refine jT_xaload_n (v := (4, 0)) (pcN := 1) jIY_310_0 rfl rfl rfl ?_
  refine jT_xiload_n (v := (0, x1)) (pcN := 2) jIY_310_1 rfl rfl rfl ?_
  refine jT_fR [] 16 (y := 188) (pcN := 5) (dC := 1) (bc1 := 0) (bc2 := 0) (c1 := 0) (c2 := 0) (as := [(0, x1)]) (asC := [(0, x1)]) (LN := [(0, (4, 0)), (1, (0, x1)), (2, (0, x2))]) (stN := [(4, 0)]) (hsC := []) (v := (0, 1)) (st2 := [(0, 1), (4, 0)]) (jY_188_13 (d := 0) (by omega)) (by rfl) (by rfl) (by decide +kernel) (by rfl) (by rfl) (by omega) (by omega) (by omega) (by omega) rfl ?_
  refine jT_fR [0, 1, 2, 3, 4, 5, 6, 7, 8, 9, 10, 11, 12, 13, 14, 15] 16 (y := 190) (pcN := 8) (dC := 1) (bc1 := 0) (bc2 := 0) (c1 := 0) (c2 := 0) (as := [(4, 0), (0, 1)]) (asC := [(4, 0), (0, 1)]) (LN := [(0, (4, 0)), (1, (0, x1)), (2, (0, x2))]) (stN := []) (hsC := jpY_20) (v := (0, 0)) (st2 := [(0, 0)]) (jY_190_15 (d := 0)) (by rfl) (by rfl) (by decide +kernel) (by rfl) (by rfl) (by omega) (by omega) (by omega) (by omega) rfl ?_
  refine jT_xifF (t := 28) (pcN := 11) jIY_310_8 rfl (by decide +kernel) rfl rfl ?_
  refine jT_xaload_n (v := (4, 0)) (pcN := 12) jIY_310_11 rfl rfl rfl ?_
  refine jT_xiload_n (v := (0, x2)) (pcN := 13) jIY_310_12 rfl rfl rfl ?_
  refine jT_xi2l (x := x2) (z := x2) (pcN := 14) jIY_310_13 rfl (jw_idd (by omega) (by omega)) rfl ?_
  refine jT_xlconst (z := 1) (pcN := 15) jIY_310_14 rfl rfl ?_
  refine jT_adv 1 (pcN := 18) (LN := [(0, (4, 0)), (1, (0, x1)), (2, (0, x2))]) (stN := [(1, 1000000), (1, 1), (1, x2), (4, 0)]) (hsN := jpY_20) (c1 := 0) (s1 := 0) (c2 := 0) (s2 := 0) (by exact rfl) ?_ (by omega) (by omega)
  refine jT_fR [] 16 (y := 189) (pcN := 21) (dC := 0) (bc1 := 0) (bc2 := 0) (c1 := 0) (c2 := 0) (as := [(1, x2), (1, 1), (1, 1000000)]) (asC := [(1, x2), (1, 1), (1, 1000000)]) (LN := [(0, (4, 0)), (1, (0, x1)), (2, (0, x2))]) (stN := [(4, 0)]) (hsC := []) (v := (0, 0)) (st2 := [(0, 0), (4, 0)]) (jT_in_hi (d := 0) (v := x2) (lo := 1) (hi := 1000000) (by omega) (by omega) (by omega) (by omega) (by omega)) (by rfl) (by rfl) (by decide +kernel) (by rfl) (by rfl) (by omega) (by omega) (by omega) (by omega) rfl ?_
  refine jT_xiconst (k := 2) (pcN := 22) jIY_310_21 rfl ?_
  refine jT_fB [0, 1, 2, 3, 4, 5, 6, 7, 8, 9, 10, 11, 12, 13, 14, 15] 16 (y := 191) (pcN := 25) (dC := 0) (bc1 := 0) (bc2 := 0) (c1 := 0) (c2 := 0) (as := [(4, 0), (0, 0), (0, 2)]) (asC := [(4, 0), (0, 0), (0, 2)]) (LN := [(0, (4, 0)), (1, (0, x1)), (2, (0, x2))]) (stN := []) (hsC := jpY_20) (hsD := jpY_35) (v := (0, 1)) (st2 := [(0, 1)]) (hs2 := jpY_35) (jY_191_16 (d := 0)) (by rfl) (by rfl) (by decide +kernel) (by rfl) (by rfl) (by omega) (by omega) (by omega) (by omega) rfl (by decide +kernel) ?_
  refine jT_xifF (t := 30) (pcN := 28) jIY_310_25 rfl (by decide +kernel) rfl rfl ?_
  refine jT_xiconst (k := 0) (pcN := 29) jIY_310_28 rfl ?_
  exact jT_ret rfl (by decide) (by show 16 ≤ 16; omega) (by omega) (by omega) ⟨rfl, rfl, rfl⟩
theorem jY_115_102 {xs : List Int} {d : Nat} {x1 : Int} (h_x1 : 8 ≤ x1 ∧ x1 ≤ 2147483647) : jT xs d 115 1 0 [(0, (4, 0)), (1, (0, x1)), (2, (0, 8))] [] [jgh] 1 6 (fun k v hsN => k = 1 ∧ v = (0, 0) ∧ hsN = [jgh] ++ []) := by
  refine jT_xiload_n (v := (0, x1)) (pcN := 1) jIY_115_0 rfl rfl rfl ?_
  refine jT_ifF (a := x1) (t := 9) (by rfl) (by rfl) (by rfl) (jw_idd (by omega) (by omega)) (by simp only [jcP] <;> omega) ?_
  refine jT_xiload_n (v := (0, x1)) (pcN := 5) jIY_115_4 rfl rfl rfl ?_
  refine jT_xiload_n (v := (0, 8)) (pcN := 6) jIY_115_5 rfl rfl rfl ?_
  refine jT_icF (a := x1) (b := 8) (t := 20) (by rfl) (by rfl) (by rfl) (jw_idd (by omega) (by omega)) (jw_idd (by omega) (by omega)) (by simp only [jcP] <;> omega) ?_
  exact jT_ret (c1 := 1) (s1 := 6) rfl (by decide) (by show 1 ≤ 1; omega) (by omega) (by omega) ⟨rfl, rfl, rfl⟩
theorem jY_168_103 {xs : List Int} {d : Nat} {x1 x2 : Int} (h_x1 : 8 ≤ x1 ∧ x1 ≤ 2147483647) (h_x2 : (-2147483648) ≤ x2 ∧ x2 ≤ 2147483647) : jT xs (d + 1) 168 12 0 [(0, (4, 0)), (1, (0, x1)), (2, (0, x2))] [] jpY_6 1 6 (fun k v hsN => k = 1 ∧ v = (0, 0) ∧ hsN = jpY_6 ++ []) := by
  refine jT_xaload_n (v := (4, 0)) (pcN := 1) jIY_168_0 rfl rfl rfl ?_
  refine jT_xiload_n (v := (0, x1)) (pcN := 2) jIY_168_1 rfl rfl rfl ?_
  refine jT_xbipush (k := 8) (pcN := 4) jIY_168_2 (by decide) rfl ?_
  exact jT_fX [0] 12 (y := 115) (pcN := 7) (dC := 0) (bc1 := 1) (bc2 := 6) (as := [(4, 0), (0, x1), (0, 8)]) (asC := [(4, 0), (0, x1), (0, 8)]) (LN := [(0, (4, 0)), (1, (0, x1)), (2, (0, x2))]) (stN := []) (hsC := [jgh]) (e := 0) (jY_115_102 (d := 0) (by omega)) (by rfl) (by rfl) (by decide +kernel) (by rfl) (by rfl) (by omega) (by omega) (by omega) (by omega) ⟨rfl, ⟨rfl, rfl, rfl⟩⟩
theorem jY_367_104 {xs : List Int} {d : Nat} {x1 x2 : Int} (h_x1 : 8 ≤ x1 ∧ x1 ≤ 2147483647) (h_x2 : (-2147483648) ≤ x2 ∧ x2 ≤ 2147483647) : jT xs (d + 2) 367 13 0 [(0, (4, 0)), (1, (0, x1)), (2, (0, x2)), (3, (4, 1))] [] jpY_13 1 6 (fun k v hsN => k = 0 ∧ v = (0, 1) ∧ hsN = jpY_13 ++ []) := by
  refine jT_xaload_n (v := (4, 1)) (pcN := 1) jIY_367_0 rfl rfl rfl ?_
  refine jT_xiconst (k := 0) (pcN := 2) jIY_367_1 rfl ?_
  refine jT_xaload_n (v := (4, 0)) (pcN := 3) jIY_367_2 rfl rfl rfl ?_
  refine jT_xiload_n (v := (0, x1)) (pcN := 4) jIY_367_3 rfl rfl rfl ?_
  refine jT_xiload_n (v := (0, x2)) (pcN := 5) jIY_367_4 rfl rfl rfl ?_
  exact jT_fX [0, 2, 3, 4, 5, 6, 7, 8, 9, 10, 11, 12] 13 (y := 168) (pcN := 8) (dC := 1) (bc1 := 1) (bc2 := 6) (as := [(4, 0), (0, x1), (0, x2)]) (asC := [(4, 0), (0, x1), (0, x2)]) (LN := [(0, (4, 0)), (1, (0, x1)), (2, (0, x2)), (3, (4, 1))]) (stN := [(0, 0), (4, 1)]) (hsC := jpY_6) (e := 0) (jY_168_103 (d := 0) (by omega) (by omega)) (by rfl) (by rfl) (by decide +kernel) (by rfl) (by rfl) (by omega) (by omega) (by omega) (by omega) (show _ from ⟨rfl, rfl, rfl⟩)
theorem jY_188_105 {xs : List Int} {d : Nat} {x1 : Int} (h_x1 : 8 ≤ x1 ∧ x1 ≤ 2147483647) : jT xs (d + 1) 188 0 0 [(0, (0, x1))] [] [] 0 0 (fun k v hsN => k = 0 ∧ v = (0, 0) ∧ hsN = [] ++ []) := by
  refine jT_xiload_n (v := (0, x1)) (pcN := 1) jIY_188_0 rfl rfl rfl ?_
  refine jT_xi2l (x := x1) (z := x1) (pcN := 2) jIY_188_1 rfl (jw_idd (by omega) (by omega)) rfl ?_
  refine jT_xlconst (z := 0) (pcN := 3) jIY_188_2 rfl rfl ?_
  refine jT_adv 1 (pcN := 6) (LN := [(0, (0, x1))]) (stN := [(1, 7), (1, 0), (1, x1)]) (hsN := []) (c1 := 0) (s1 := 0) (c2 := 0) (s2 := 0) (by exact rfl) ?_ (by omega) (by omega)
  refine jT_fR [] 0 (y := 189) (pcN := 9) (dC := 0) (bc1 := 0) (bc2 := 0) (c1 := 0) (c2 := 0) (as := [(1, x1), (1, 0), (1, 7)]) (asC := [(1, x1), (1, 0), (1, 7)]) (LN := [(0, (0, x1))]) (stN := []) (hsC := []) (v := (0, 0)) (st2 := [(0, 0)]) (jT_in_hi (d := 0) (v := x1) (lo := 0) (hi := 7) (by omega) (by omega) (by omega) (by omega) (by omega)) (by rfl) (by rfl) (by decide +kernel) (by rfl) (by rfl) (by omega) (by omega) (by omega) (by omega) rfl ?_
  exact jT_ret rfl (by decide) (by show 0 ≤ 0; omega) (by omega) (by omega) ⟨rfl, rfl, rfl⟩
theorem jY_310_106 {xs : List Int} {d : Nat} {x1 x2 : Int} (h_x1 : 8 ≤ x1 ∧ x1 ≤ 2147483647) (h_x2 : (-2147483648) ≤ x2 ∧ x2 ≤ 2147483647) : jT xs (d + 2) 310 16 0 [(0, (4, 0)), (1, (0, x1)), (2, (0, x2))] [] jpY_20 0 0 (fun k v hsN => k = 0 ∧ v = (0, 0) ∧ hsN = jpY_18) := by
  refine jT_xaload_n (v := (4, 0)) (pcN := 1) jIY_310_0 rfl rfl rfl ?_
  refine jT_xiload_n (v := (0, x1)) (pcN := 2) jIY_310_1 rfl rfl rfl ?_
  refine jT_fR [] 16 (y := 188) (pcN := 5) (dC := 1) (bc1 := 0) (bc2 := 0) (c1 := 0) (c2 := 0) (as := [(0, x1)]) (asC := [(0, x1)]) (LN := [(0, (4, 0)), (1, (0, x1)), (2, (0, x2))]) (stN := [(4, 0)]) (hsC := []) (v := (0, 0)) (st2 := [(0, 0), (4, 0)]) (jY_188_105 (d := 0) (by omega)) (by rfl) (by rfl) (by decide +kernel) (by rfl) (by rfl) (by omega) (by omega) (by omega) (by omega) rfl ?_
  refine jT_fB [0, 1, 2, 3, 4, 5, 6, 7, 8, 9, 10, 11, 12, 13, 14, 15] 16 (y := 190) (pcN := 8) (dC := 1) (bc1 := 0) (bc2 := 0) (c1 := 0) (c2 := 0) (as := [(4, 0), (0, 0)]) (asC := [(4, 0), (0, 0)]) (LN := [(0, (4, 0)), (1, (0, x1)), (2, (0, x2))]) (stN := []) (hsC := jpY_20) (hsD := jpY_18) (v := (0, 1)) (st2 := [(0, 1)]) (hs2 := jpY_18) (jY_190_6 (d := 0)) (by rfl) (by rfl) (by decide +kernel) (by rfl) (by rfl) (by omega) (by omega) (by omega) (by omega) rfl (by decide +kernel) ?_
  refine jT_xifT (pcN := 28) jIY_310_8 rfl (by decide +kernel) rfl ?_
  refine jT_xiconst (k := 0) (pcN := 29) jIY_310_28 rfl ?_
  exact jT_ret rfl (by decide) (by show 16 ≤ 16; omega) (by omega) (by omega) ⟨rfl, rfl, rfl⟩
theorem jIY_379_3290 : jmI (jm 379) 3290 = (.aload_n 1, 1) := by rfl
theorem jIY_379_3291 : jmI (jm 379) 3291 = (.aload_n 0, 1) := by rfl
theorem jIY_379_3292 : jmI (jm 379) 3292 = (.iload 5, 2) := by rfl
theorem jIY_379_3294 : jmI (jm 379) 3294 = (.iconst 1, 1) := by rfl
theorem jIY_379_3295 : jmI (jm 379) 3295 = (.iadd, 1) := by rfl
def jzY_437 : JC := (13, [(4, 4), (4, 5), (4, 6), (4, 7), (4, 8), (4, 9), (4, 10), (4, 11), (4, 12), (4, 13), (0, 0), (4, 14), (0, 0)], [])
def jzY_438 : JC := (14, [(0, 0), (4, 15), (4, 16), (4, 17), (4, 18), (0, 0), (4, 19), (0, 0), (4, 20), (4, 21), (1, 1), (4, 22), (0, 0), (4, 23), (0, 0), (0, 0), (0, 0), (0, 0), (0, 0), (0, 0), (0, 0), (4, 24), (4, 25), (4, 26), (4, 27), (4, 28), (4, 29), (0, 0)], [])
def jpY_439 : List JC := [jzY_437, jzY_438, jgh, jgh, jgh, jgh, jgh, jgh, jgh, jgh, jgh, jgh, jgh, jgh, jgh, jgh, jgh, jgh, jgh, jgh, jgh, jgh, jgh, jgh, jgh, jgh, jgh, jgh, jgh, jgh]
theorem jIY_379_3297 : jmI (jm 379) 3297 = (.aload_n 0, 1) := by rfl
theorem jIY_379_3298 : jmI (jm 379) 3298 = (.iload 5, 2) := by rfl
theorem jIY_379_3300 : jmI (jm 379) 3300 = (.iconst 2, 1) := by rfl
theorem jIY_379_3301 : jmI (jm 379) 3301 = (.iadd, 1) := by rfl
theorem jIY_379_3303 : jmI (jm 379) 3303 = (.aload_n 3, 1) := by rfl
theorem jIY_379_3307 : jmI (jm 379) 3307 = (.istore 6, 2) := by rfl
theorem jIY_379_3309 : jmI (jm 379) 3309 = (.aload_n 2, 1) := by rfl
theorem jIY_379_3310 : jmI (jm 379) 3310 = (.aload_n 0, 1) := by rfl
theorem jIY_379_3311 : jmI (jm 379) 3311 = (.iload 5, 2) := by rfl
theorem jIY_379_3313 : jmI (jm 379) 3313 = (.iconst 1, 1) := by rfl
theorem jIY_379_3314 : jmI (jm 379) 3314 = (.iadd, 1) := by rfl
theorem jIY_379_3316 : jmI (jm 379) 3316 = (.aload_n 0, 1) := by rfl
theorem jIY_379_3317 : jmI (jm 379) 3317 = (.iload 5, 2) := by rfl
theorem jIY_379_3319 : jmI (jm 379) 3319 = (.iconst 2, 1) := by rfl
theorem jIY_379_3320 : jmI (jm 379) 3320 = (.iadd, 1) := by rfl
def jzY_455 : JC := (14, [(0, 1), (4, 15), (4, 16), (4, 17), (4, 18), (0, 0), (4, 19), (0, 0), (4, 20), (4, 21), (1, 1), (4, 22), (0, 0), (4, 23), (0, 0), (0, 0), (0, 0), (0, 0), (0, 0), (0, 0), (0, 0), (4, 24), (4, 25), (4, 26), (4, 27), (4, 28), (4, 29), (0, 0)], [])
def jpY_456 : List JC := [jzY_437, jzY_455, jgh, jgh, jgh, jgh, jgh, jgh, jgh, jgh, jgh, jgh, jgh, jgh, jgh, jgh, jgh, jgh, jgh, jgh, jgh, jgh, jgh, jgh, jgh, jgh, jgh, jgh, jgh, jgh]
theorem jIY_379_3325 : jmI (jm 379) 3325 = (.istore 7, 2) := by rfl
theorem jIY_379_3327 : jmI (jm 379) 3327 = (.aload_n 2, 1) := by rfl
theorem jIY_379_3331 : jmI (jm 379) 3331 = (.iload 6, 2) := by rfl
theorem jIY_379_3333 : jmI (jm 379) 3333 = (.if_icmp .eq 5, 3) := by rfl
theorem jIY_379_3338 : jmI (jm 379) 3338 = (.iload 6, 2) := by rfl
theorem jIY_379_3340 : jmI (jm 379) 3340 = (.ifCond .ne 15, 3) := by rfl
theorem jIY_379_3355 : jmI (jm 379) 3355 = (.goto 385, 3) := by rfl
theorem jIY_379_3740 : jmI (jm 379) 3740 = (.iinc 5 5, 3) := by rfl
theorem jIY_379_3743 : jmI (jm 379) 3743 = (.goto (-3715), 3) := by rfl
theorem jIY_379_28 : jmI (jm 379) 28 = (.iload 5, 2) := by rfl
theorem jIY_379_30 : jmI (jm 379) 30 = (.aload_n 0, 1) := by rfl
theorem jIY_379_32 : jmI (jm 379) 32 = (.iconst 5, 1) := by rfl
theorem jIY_379_33 : jmI (jm 379) 33 = (.isub, 1) := by rfl
theorem jIY_379_34 : jmI (jm 379) 34 = (.if_icmp .gt 3712, 3) := by rfl
theorem jIY_379_3746 : jmI (jm 379) 3746 = (.iconst 1, 1) := by rfl
set_option maxRecDepth 100000 in
theorem jL_45_0 {d : Nat} {x0 x1 x2 x3 x4 : Int} (h_x0 : (-2147483648) ≤ x0 ∧ x0 ≤ 2147483647) (h_x1 : (-2147483648) ≤ x1 ∧ x1 ≤ (-1)) (h_x2 : (-2147483648) ≤ x2 ∧ x2 ≤ 2147483647) (h_x3 : (-2147483648) ≤ x3 ∧ x3 ≤ 2147483647) (h_x4 : (-2147483648) ≤ x4 ∧ x4 ≤ 2147483647) : jT [x0, x1, x2, x3, x4] (d + 3) 379 30 3290 [(5, (0, 0)), (4, (4, 3)), (3, (4, 2)), (2, (4, 1)), (1, (4, 0)), (0, (6, 0))] [] jpY_439 1 6 (fun k v hsN => k = 0 ∧ v = (0, 1)) := by
  refine jT_xaload_n (v := (4, 0)) (pcN := 3291) jIY_379_3290 rfl rfl rfl ?_
  refine jT_xaload_n (v := (6, 0)) (pcN := 3292) jIY_379_3291 rfl rfl rfl ?_
  refine jT_xiload (v := (0, 0)) (pcN := 3294) jIY_379_3292 rfl rfl rfl ?_
  refine jT_xiconst (k := 1) (pcN := 3295) jIY_379_3294 rfl ?_
  refine jT_xiadd (x := 0) (y := 1) (z := 1) (pcN := 3296) jIY_379_3295 rfl (by decide) rfl ?_
  refine jT_adv 1 (pcN := 3297) (LN := [(5, (0, 0)), (4, (4, 3)), (3, (4, 2)), (2, (4, 1)), (1, (4, 0)), (0, (6, 0))]) (stN := [(0, x1), (4, 0)]) (hsN := jpY_439) (c1 := 0) (s1 := 0) (c2 := 1) (s2 := 6) (by exact rfl) ?_ (by omega) (by omega)
  refine jT_xaload_n (v := (6, 0)) (pcN := 3298) jIY_379_3297 rfl rfl rfl ?_
  refine jT_xiload (v := (0, 0)) (pcN := 3300) jIY_379_3298 rfl rfl rfl ?_
  refine jT_xiconst (k := 2) (pcN := 3301) jIY_379_3300 rfl ?_
  refine jT_xiadd (x := 0) (y := 2) (z := 2) (pcN := 3302) jIY_379_3301 rfl (by decide) rfl ?_
  refine jT_adv 1 (pcN := 3303) (LN := [(5, (0, 0)), (4, (4, 3)), (3, (4, 2)), (2, (4, 1)), (1, (4, 0)), (0, (6, 0))]) (stN := [(0, x2), (0, x1), (4, 0)]) (hsN := jpY_439) (c1 := 0) (s1 := 0) (c2 := 1) (s2 := 6) (by exact rfl) ?_ (by omega) (by omega)
  refine jT_xaload_n (v := (4, 2)) (pcN := 3304) jIY_379_3303 rfl rfl rfl ?_
  refine jT_fR [0, 2, 4, 5, 6, 7, 8, 9, 10, 11, 12, 13, 14] 30 (y := 367) (pcN := 3307) (dC := 2) (bc1 := 1) (bc2 := 6) (c1 := 0) (c2 := 0) (as := [(4, 0), (0, x1), (0, x2), (4, 2)]) (asC := [(4, 0), (0, x1), (0, x2), (4, 1)]) (LN := [(5, (0, 0)), (4, (4, 3)), (3, (4, 2)), (2, (4, 1)), (1, (4, 0)), (0, (6, 0))]) (stN := []) (hsC := jpY_13) (v := (0, 1)) (st2 := [(0, 1)]) (jY_367_3 (d := 0) (by omega) (by omega)) (by rfl) (by rfl) (by decide +kernel) (by rfl) (by rfl) (by omega) (by omega) (by omega) (by omega) rfl ?_
  refine jT_xistore (v := (0, 1)) (LN := [(6, (0, 1)), (5, (0, 0)), (4, (4, 3)), (3, (4, 2)), (2, (4, 1)), (1, (4, 0)), (0, (6, 0))]) (pcN := 3309) jIY_379_3307 rfl rfl rfl rfl ?_
  refine jT_xaload_n (v := (4, 1)) (pcN := 3310) jIY_379_3309 rfl rfl rfl ?_
  refine jT_xaload_n (v := (6, 0)) (pcN := 3311) jIY_379_3310 rfl rfl rfl ?_
  refine jT_xiload (v := (0, 0)) (pcN := 3313) jIY_379_3311 rfl rfl rfl ?_
  refine jT_xiconst (k := 1) (pcN := 3314) jIY_379_3313 rfl ?_
  refine jT_xiadd (x := 0) (y := 1) (z := 1) (pcN := 3315) jIY_379_3314 rfl (by decide) rfl ?_
  refine jT_adv 1 (pcN := 3316) (LN := [(6, (0, 1)), (5, (0, 0)), (4, (4, 3)), (3, (4, 2)), (2, (4, 1)), (1, (4, 0)), (0, (6, 0))]) (stN := [(0, x1), (4, 1)]) (hsN := jpY_439) (c1 := 0) (s1 := 0) (c2 := 0) (s2 := 0) (by exact rfl) ?_ (by omega) (by omega)
  refine jT_xaload_n (v := (6, 0)) (pcN := 3317) jIY_379_3316 rfl rfl rfl ?_
  refine jT_xiload (v := (0, 0)) (pcN := 3319) jIY_379_3317 rfl rfl rfl ?_
  refine jT_xiconst (k := 2) (pcN := 3320) jIY_379_3319 rfl ?_
  refine jT_xiadd (x := 0) (y := 2) (z := 2) (pcN := 3321) jIY_379_3320 rfl (by decide) rfl ?_
  refine jT_adv 1 (pcN := 3322) (LN := [(6, (0, 1)), (5, (0, 0)), (4, (4, 3)), (3, (4, 2)), (2, (4, 1)), (1, (4, 0)), (0, (6, 0))]) (stN := [(0, x2), (0, x1), (4, 1)]) (hsN := jpY_439) (c1 := 0) (s1 := 0) (c2 := 0) (s2 := 0) (by exact rfl) ?_ (by omega) (by omega)
  refine jT_fB [1, 15, 16, 17, 18, 19, 20, 21, 22, 23, 24, 25, 26, 27, 28, 29] 30 (y := 310) (pcN := 3325) (dC := 2) (bc1 := 0) (bc2 := 0) (c1 := 0) (c2 := 0) (as := [(4, 1), (0, x1), (0, x2)]) (asC := [(4, 0), (0, x1), (0, x2)]) (LN := [(6, (0, 1)), (5, (0, 0)), (4, (4, 3)), (3, (4, 2)), (2, (4, 1)), (1, (4, 0)), (0, (6, 0))]) (stN := []) (hsC := jpY_20) (hsD := jpY_18) (v := (0, 0)) (st2 := [(0, 0)]) (hs2 := jpY_456) (jY_310_7 (d := 0) (by omega) (by omega)) (by rfl) (by rfl) (by decide +kernel) (by rfl) (by rfl) (by omega) (by omega) (by omega) (by omega) rfl (by decide +kernel) ?_
  refine jT_xistore (v := (0, 0)) (LN := [(7, (0, 0)), (6, (0, 1)), (5, (0, 0)), (4, (4, 3)), (3, (4, 2)), (2, (4, 1)), (1, (4, 0)), (0, (6, 0))]) (pcN := 3327) jIY_379_3325 rfl rfl rfl rfl ?_
  refine jT_xaload_n (v := (4, 1)) (pcN := 3328) jIY_379_3327 rfl rfl rfl ?_
  refine jT_fR [1, 15, 16, 17, 18, 19, 20, 21, 22, 23, 24, 25, 26, 27, 28, 29] 30 (y := 186) (pcN := 3331) (dC := 0) (bc1 := 0) (bc2 := 0) (c1 := 0) (c2 := 0) (as := [(4, 1)]) (asC := [(4, 0)]) (LN := [(7, (0, 0)), (6, (0, 1)), (5, (0, 0)), (4, (4, 3)), (3, (4, 2)), (2, (4, 1)), (1, (4, 0)), (0, (6, 0))]) (stN := []) (hsC := jpY_18) (v := (0, 1)) (st2 := [(0, 1)]) (jY_186_8 (d := 0)) (by rfl) (by rfl) (by decide +kernel) (by rfl) (by rfl) (by omega) (by omega) (by omega) (by omega) rfl ?_
  refine jT_xiload (v := (0, 1)) (pcN := 3333) jIY_379_3331 rfl rfl rfl ?_
  refine jT_xicT (pcN := 3338) jIY_379_3333 rfl (by decide +kernel) rfl ?_
  refine jT_xiload (v := (0, 1)) (pcN := 3340) jIY_379_3338 rfl rfl rfl ?_
  refine jT_xifT (pcN := 3355) jIY_379_3340 rfl (by decide +kernel) rfl ?_
  refine jT_xgoto (pcN := 3740) jIY_379_3355 rfl ?_
  refine jT_xiinc (x := 0) (z := 5) (LN := [(5, (0, 5)), (7, (0, 0)), (6, (0, 1)), (4, (4, 3)), (3, (4, 2)), (2, (4, 1)), (1, (4, 0)), (0, (6, 0))]) (pcN := 3743) jIY_379_3740 rfl rfl (by decide) rfl rfl ?_
  refine jT_xgoto (pcN := 28) jIY_379_3743 rfl ?_
  refine jT_xiload (v := (0, 5)) (pcN := 30) jIY_379_28 rfl rfl rfl ?_
  refine jT_xaload_n (v := (6, 0)) (pcN := 31) jIY_379_30 rfl rfl rfl ?_
  refine jT_adv 1 (pcN := 32) (LN := [(5, (0, 5)), (7, (0, 0)), (6, (0, 1)), (4, (4, 3)), (3, (4, 2)), (2, (4, 1)), (1, (4, 0)), (0, (6, 0))]) (stN := [(0, 5), (0, 5)]) (hsN := jpY_456) (c1 := 0) (s1 := 0) (c2 := 0) (s2 := 0) (by exact rfl) ?_ (by omega) (by omega)
  refine jT_xiconst (k := 5) (pcN := 33) jIY_379_32 rfl ?_
  refine jT_xisub (x := 5) (y := 5) (z := 0) (pcN := 34) jIY_379_33 rfl (by decide) rfl ?_
  refine jT_xicT (pcN := 3746) jIY_379_34 rfl (by decide +kernel) rfl ?_
  refine jT_xiconst (k := 1) (pcN := 3747) jIY_379_3746 rfl ?_
  exact jT_ret rfl (by decide) (by show 30 ≤ 30; decide) (by omega) (by omega) ⟨rfl, rfl⟩
def jzY_472 : JC := (14, [(0, 2), (4, 15), (4, 16), (4, 17), (4, 18), (0, 0), (4, 19), (0, 0), (4, 20), (4, 21), (1, 1), (4, 22), (0, 0), (4, 23), (0, 0), (0, 0), (0, 0), (0, 0), (0, 0), (0, 0), (0, 0), (4, 24), (4, 25), (4, 26), (4, 27), (4, 28), (4, 29), (0, 0)], [])
def jpY_473 : List JC := [jzY_437, jzY_472, jgh, jgh, jgh, jgh, jgh, jgh, jgh, jgh, jgh, jgh, jgh, jgh, jgh, jgh, jgh, jgh, jgh, jgh, jgh, jgh, jgh, jgh, jgh, jgh, jgh, jgh, jgh, jgh]
set_option maxRecDepth 100000 in
theorem jL_45_1 {d : Nat} {x0 x1 x2 x3 x4 : Int} (h_x0 : (-2147483648) ≤ x0 ∧ x0 ≤ 2147483647) (h_x1 : 0 ≤ x1 ∧ x1 ≤ 7) (h_x2 : (-2147483648) ≤ x2 ∧ x2 ≤ 0) (h_x3 : (-2147483648) ≤ x3 ∧ x3 ≤ 2147483647) (h_x4 : (-2147483648) ≤ x4 ∧ x4 ≤ 2147483647) : jT [x0, x1, x2, x3, x4] (d + 3) 379 30 3290 [(5, (0, 0)), (4, (4, 3)), (3, (4, 2)), (2, (4, 1)), (1, (4, 0)), (0, (6, 0))] [] jpY_439 1 6 (fun k v hsN => k = 0 ∧ v = (0, 1)) := by
  refine jT_xaload_n (v := (4, 0)) (pcN := 3291) jIY_379_3290 rfl rfl rfl ?_
  refine jT_xaload_n (v := (6, 0)) (pcN := 3292) jIY_379_3291 rfl rfl rfl ?_
  refine jT_xiload (v := (0, 0)) (pcN := 3294) jIY_379_3292 rfl rfl rfl ?_
  refine jT_xiconst (k := 1) (pcN := 3295) jIY_379_3294 rfl ?_
  refine jT_xiadd (x := 0) (y := 1) (z := 1) (pcN := 3296) jIY_379_3295 rfl (by decide) rfl ?_
  refine jT_adv 1 (pcN := 3297) (LN := [(5, (0, 0)), (4, (4, 3)), (3, (4, 2)), (2, (4, 1)), (1, (4, 0)), (0, (6, 0))]) (stN := [(0, x1), (4, 0)]) (hsN := jpY_439) (c1 := 0) (s1 := 0) (c2 := 1) (s2 := 6) (by exact rfl) ?_ (by omega) (by omega)
  refine jT_xaload_n (v := (6, 0)) (pcN := 3298) jIY_379_3297 rfl rfl rfl ?_
  refine jT_xiload (v := (0, 0)) (pcN := 3300) jIY_379_3298 rfl rfl rfl ?_
  refine jT_xiconst (k := 2) (pcN := 3301) jIY_379_3300 rfl ?_
  refine jT_xiadd (x := 0) (y := 2) (z := 2) (pcN := 3302) jIY_379_3301 rfl (by decide) rfl ?_
  refine jT_adv 1 (pcN := 3303) (LN := [(5, (0, 0)), (4, (4, 3)), (3, (4, 2)), (2, (4, 1)), (1, (4, 0)), (0, (6, 0))]) (stN := [(0, x2), (0, x1), (4, 0)]) (hsN := jpY_439) (c1 := 0) (s1 := 0) (c2 := 1) (s2 := 6) (by exact rfl) ?_ (by omega) (by omega)
  refine jT_xaload_n (v := (4, 2)) (pcN := 3304) jIY_379_3303 rfl rfl rfl ?_
  refine jT_fR [0, 2, 4, 5, 6, 7, 8, 9, 10, 11, 12, 13, 14] 30 (y := 367) (pcN := 3307) (dC := 2) (bc1 := 1) (bc2 := 6) (c1 := 0) (c2 := 0) (as := [(4, 0), (0, x1), (0, x2), (4, 2)]) (asC := [(4, 0), (0, x1), (0, x2), (4, 1)]) (LN := [(5, (0, 0)), (4, (4, 3)), (3, (4, 2)), (2, (4, 1)), (1, (4, 0)), (0, (6, 0))]) (stN := []) (hsC := jpY_13) (v := (0, 2)) (st2 := [(0, 2)]) (jY_367_12 (d := 0) (by omega) (by omega)) (by rfl) (by rfl) (by decide +kernel) (by rfl) (by rfl) (by omega) (by omega) (by omega) (by omega) rfl ?_
  refine jT_xistore (v := (0, 2)) (LN := [(6, (0, 2)), (5, (0, 0)), (4, (4, 3)), (3, (4, 2)), (2, (4, 1)), (1, (4, 0)), (0, (6, 0))]) (pcN := 3309) jIY_379_3307 rfl rfl rfl rfl ?_
  refine jT_xaload_n (v := (4, 1)) (pcN := 3310) jIY_379_3309 rfl rfl rfl ?_
  refine jT_xaload_n (v := (6, 0)) (pcN := 3311) jIY_379_3310 rfl rfl rfl ?_
  refine jT_xiload (v := (0, 0)) (pcN := 3313) jIY_379_3311 rfl rfl rfl ?_
  refine jT_xiconst (k := 1) (pcN := 3314) jIY_379_3313 rfl ?_
  refine jT_xiadd (x := 0) (y := 1) (z := 1) (pcN := 3315) jIY_379_3314 rfl (by decide) rfl ?_
  refine jT_adv 1 (pcN := 3316) (LN := [(6, (0, 2)), (5, (0, 0)), (4, (4, 3)), (3, (4, 2)), (2, (4, 1)), (1, (4, 0)), (0, (6, 0))]) (stN := [(0, x1), (4, 1)]) (hsN := jpY_439) (c1 := 0) (s1 := 0) (c2 := 0) (s2 := 0) (by exact rfl) ?_ (by omega) (by omega)
  refine jT_xaload_n (v := (6, 0)) (pcN := 3317) jIY_379_3316 rfl rfl rfl ?_
  refine jT_xiload (v := (0, 0)) (pcN := 3319) jIY_379_3317 rfl rfl rfl ?_
  refine jT_xiconst (k := 2) (pcN := 3320) jIY_379_3319 rfl ?_
  refine jT_xiadd (x := 0) (y := 2) (z := 2) (pcN := 3321) jIY_379_3320 rfl (by decide) rfl ?_
  refine jT_adv 1 (pcN := 3322) (LN := [(6, (0, 2)), (5, (0, 0)), (4, (4, 3)), (3, (4, 2)), (2, (4, 1)), (1, (4, 0)), (0, (6, 0))]) (stN := [(0, x2), (0, x1), (4, 1)]) (hsN := jpY_439) (c1 := 0) (s1 := 0) (c2 := 0) (s2 := 0) (by exact rfl) ?_ (by omega) (by omega)
  refine jT_fB [1, 15, 16, 17, 18, 19, 20, 21, 22, 23, 24, 25, 26, 27, 28, 29] 30 (y := 310) (pcN := 3325) (dC := 2) (bc1 := 0) (bc2 := 0) (c1 := 0) (c2 := 0) (as := [(4, 1), (0, x1), (0, x2)]) (asC := [(4, 0), (0, x1), (0, x2)]) (LN := [(6, (0, 2)), (5, (0, 0)), (4, (4, 3)), (3, (4, 2)), (2, (4, 1)), (1, (4, 0)), (0, (6, 0))]) (stN := []) (hsC := jpY_20) (hsD := jpY_35) (v := (0, 0)) (st2 := [(0, 0)]) (hs2 := jpY_473) (jY_310_17 (d := 0) (by omega) (by omega)) (by rfl) (by rfl) (by decide +kernel) (by rfl) (by rfl) (by omega) (by omega) (by omega) (by omega) rfl (by decide +kernel) ?_
  refine jT_xistore (v := (0, 0)) (LN := [(7, (0, 0)), (6, (0, 2)), (5, (0, 0)), (4, (4, 3)), (3, (4, 2)), (2, (4, 1)), (1, (4, 0)), (0, (6, 0))]) (pcN := 3327) jIY_379_3325 rfl rfl rfl rfl ?_
  refine jT_xaload_n (v := (4, 1)) (pcN := 3328) jIY_379_3327 rfl rfl rfl ?_
  refine jT_fR [1, 15, 16, 17, 18, 19, 20, 21, 22, 23, 24, 25, 26, 27, 28, 29] 30 (y := 186) (pcN := 3331) (dC := 0) (bc1 := 0) (bc2 := 0) (c1 := 0) (c2 := 0) (as := [(4, 1)]) (asC := [(4, 0)]) (LN := [(7, (0, 0)), (6, (0, 2)), (5, (0, 0)), (4, (4, 3)), (3, (4, 2)), (2, (4, 1)), (1, (4, 0)), (0, (6, 0))]) (stN := []) (hsC := jpY_35) (v := (0, 2)) (st2 := [(0, 2)]) (jY_186_18 (d := 0)) (by rfl) (by rfl) (by decide +kernel) (by rfl) (by rfl) (by omega) (by omega) (by omega) (by omega) rfl ?_
  refine jT_xiload (v := (0, 2)) (pcN := 3333) jIY_379_3331 rfl rfl rfl ?_
  refine jT_xicT (pcN := 3338) jIY_379_3333 rfl (by decide +kernel) rfl ?_
  refine jT_xiload (v := (0, 2)) (pcN := 3340) jIY_379_3338 rfl rfl rfl ?_
  refine jT_xifT (pcN := 3355) jIY_379_3340 rfl (by decide +kernel) rfl ?_
  refine jT_xgoto (pcN := 3740) jIY_379_3355 rfl ?_
  refine jT_xiinc (x := 0) (z := 5) (LN := [(5, (0, 5)), (7, (0, 0)), (6, (0, 2)), (4, (4, 3)), (3, (4, 2)), (2, (4, 1)), (1, (4, 0)), (0, (6, 0))]) (pcN := 3743) jIY_379_3740 rfl rfl (by decide) rfl rfl ?_
  refine jT_xgoto (pcN := 28) jIY_379_3743 rfl ?_
  refine jT_xiload (v := (0, 5)) (pcN := 30) jIY_379_28 rfl rfl rfl ?_
  refine jT_xaload_n (v := (6, 0)) (pcN := 31) jIY_379_30 rfl rfl rfl ?_
  refine jT_adv 1 (pcN := 32) (LN := [(5, (0, 5)), (7, (0, 0)), (6, (0, 2)), (4, (4, 3)), (3, (4, 2)), (2, (4, 1)), (1, (4, 0)), (0, (6, 0))]) (stN := [(0, 5), (0, 5)]) (hsN := jpY_473) (c1 := 0) (s1 := 0) (c2 := 0) (s2 := 0) (by exact rfl) ?_ (by omega) (by omega)
  refine jT_xiconst (k := 5) (pcN := 33) jIY_379_32 rfl ?_
  refine jT_xisub (x := 5) (y := 5) (z := 0) (pcN := 34) jIY_379_33 rfl (by decide) rfl ?_
  refine jT_xicT (pcN := 3746) jIY_379_34 rfl (by decide +kernel) rfl ?_
  refine jT_xiconst (k := 1) (pcN := 3747) jIY_379_3746 rfl ?_
  exact jT_ret rfl (by decide) (by show 30 ≤ 30; decide) (by omega) (by omega) ⟨rfl, rfl⟩
def jzY_474 : JC := (9, [(4, 32), (4, 33), (4, 34), (4, 35), (4, 36)], [])
def jzY_475 : JC := (114, [], [43, 43, 43, 43, 43, 43, 43, 43])
def jpY_476 : List JC := [jzY_437, jzY_438, (101, [], [0]), jgh, (8, [(4, 30), (4, 31)], []), jgh, jgh, jgh, jgh, jgh, jgh, jgh, jgh, jgh, jzY_474, (100, [], jS0), jgh, jgh, jgh, jgh, (130, [], [37, 38, 39, 40, 41, 42]), (101, [], [0, 0, 0, 0, 0, 0]), jgh, jgh, jgh, jgh, jgh, jgh, jgh, jgh, jgh, jgh, jzY_475, jgh, jgh, jgh, jgh, (100, [], (jenc (jlg 0))), (100, [], (jenc (jlg 1))), (100, [], (jenc (jlg 2))), (100, [], (jenc (jlg 3))), (100, [], (jenc (jlg 4))), (100, [], (jenc (jlg 5))), (4, [(4, 44), (1, 1)], []), (101, [], [0, 0, 0, 0, 0, 0])]
theorem jIY_379_3343 : jmI (jm 379) 3343 = (.aload_n 3, 1) := by rfl
theorem jIY_379_3344 : jmI (jm 379) 3344 = (.iconst 0, 1) := by rfl
theorem jIY_379_3345 : jmI (jm 379) 3345 = (.laload, 1) := by rfl
theorem jIY_379_3346 : jmI (jm 379) 3346 = (.iload 7, 2) := by rfl
theorem jIY_379_3348 : jmI (jm 379) 3348 = (.i2l, 1) := by rfl
theorem jIY_379_3350 : jmI (jm 379) 3350 = (.ifCond .eq 5, 3) := by rfl
set_option maxRecDepth 100000 in
theorem jL_45_2 {d : Nat} {x0 x1 x2 x3 x4 : Int} (h_x0 : (-2147483648) ≤ x0 ∧ x0 ≤ 2147483647) (h_x1 : 0 ≤ x1 ∧ x1 ≤ 7) (h_x2 : 1 ≤ x2 ∧ x2 ≤ 1000000) (h_x3 : (-2147483648) ≤ x3 ∧ x3 ≤ 2147483647) (h_x4 : (-2147483648) ≤ x4 ∧ x4 ≤ 2147483647) : jT [x0, x1, x2, x3, x4] (d + 7) 379 45 3290 [(5, (0, 0)), (4, (4, 3)), (3, (4, 2)), (2, (4, 1)), (1, (4, 0)), (0, (6, 0))] [] jpY_476 53822 3012430 (fun k v hsN => k = 0 ∧ v = (0, 1)) := by
  refine jT_xaload_n (v := (4, 0)) (pcN := 3291) jIY_379_3290 rfl rfl rfl ?_
  refine jT_xaload_n (v := (6, 0)) (pcN := 3292) jIY_379_3291 rfl rfl rfl ?_
  refine jT_xiload (v := (0, 0)) (pcN := 3294) jIY_379_3292 rfl rfl rfl ?_
  refine jT_xiconst (k := 1) (pcN := 3295) jIY_379_3294 rfl ?_
  refine jT_xiadd (x := 0) (y := 1) (z := 1) (pcN := 3296) jIY_379_3295 rfl (by decide) rfl ?_
  refine jT_adv 1 (pcN := 3297) (LN := [(5, (0, 0)), (4, (4, 3)), (3, (4, 2)), (2, (4, 1)), (1, (4, 0)), (0, (6, 0))]) (stN := [(0, x1), (4, 0)]) (hsN := jpY_476) (c1 := 0) (s1 := 0) (c2 := 53822) (s2 := 3012430) (by exact rfl) ?_ (by omega) (by omega)
  refine jT_xaload_n (v := (6, 0)) (pcN := 3298) jIY_379_3297 rfl rfl rfl ?_
  refine jT_xiload (v := (0, 0)) (pcN := 3300) jIY_379_3298 rfl rfl rfl ?_
  refine jT_xiconst (k := 2) (pcN := 3301) jIY_379_3300 rfl ?_
  refine jT_xiadd (x := 0) (y := 2) (z := 2) (pcN := 3302) jIY_379_3301 rfl (by decide) rfl ?_
  refine jT_adv 1 (pcN := 3303) (LN := [(5, (0, 0)), (4, (4, 3)), (3, (4, 2)), (2, (4, 1)), (1, (4, 0)), (0, (6, 0))]) (stN := [(0, x2), (0, x1), (4, 0)]) (hsN := jpY_476) (c1 := 0) (s1 := 0) (c2 := 53822) (s2 := 3012430) (by exact rfl) ?_ (by omega) (by omega)
  refine jT_xaload_n (v := (4, 2)) (pcN := 3304) jIY_379_3303 rfl rfl rfl ?_
  refine jT_fB [0, 2, 4, 5, 6, 7, 8, 9, 10, 11, 12, 13, 14, 30, 31, 32, 33, 34, 35, 36, 43, 44] 45 (y := 367) (pcN := 3307) (dC := 4) (bc1 := 2) (bc2 := 8) (c1 := 53820) (c2 := 3012422) (as := [(4, 0), (0, x1), (0, x2), (4, 2)]) (asC := [(4, 0), (0, x1), (0, x2), (4, 1)]) (LN := [(5, (0, 0)), (4, (4, 3)), (3, (4, 2)), (2, (4, 1)), (1, (4, 0)), (0, (6, 0))]) (stN := []) (hsC := jpY_126) (hsD := [jzY_12, (101, [], [x2]), (8, [(4, 13), (4, 14)], []), jgh, jgh, jgh, jgh, jgh, jgh, jgh, jgh, jgh, jzY_120, jgh, jgh, jzY_121, jgh, jgh, jgh, jgh, (4, [(4, 21), (1, 1)], []), (101, [], [0, 0, 0, 0, 0, 0]), (101, [], [0, 0, 0, 0, 0, 0]), (4, [(4, 22), (1, 1)], [])]) (v := (0, 0)) (st2 := [(0, 0)]) (hs2 := [jzY_437, jzY_438, (101, [], [x2]), jgh, (8, [(4, 30), (4, 31)], []), jgh, jgh, jgh, jgh, jgh, jgh, jgh, jgh, jgh, jzY_474, (100, [], jS0), jgh, jgh, jgh, jgh, (130, [], [37, 38, 39, 40, 41, 42]), (101, [], [0, 0, 0, 0, 0, 0]), jgh, jgh, jgh, jgh, jgh, jgh, jgh, jgh, jgh, jgh, jzY_475, jgh, jgh, jgh, jgh, (100, [], (jenc (jlg 0))), (100, [], (jenc (jlg 1))), (100, [], (jenc (jlg 2))), (100, [], (jenc (jlg 3))), (100, [], (jenc (jlg 4))), (100, [], (jenc (jlg 5))), (4, [(4, 44), (1, 1)], []), (101, [], [0, 0, 0, 0, 0, 0]), (101, [], [0, 0, 0, 0, 0, 0]), (4, [(4, 45), (1, 1)], [])]) (jY_367_30 (d := 0) (by omega) (by omega)) (by rfl) (by rfl) (by decide +kernel) (by rfl) (by rfl) (by omega) (by omega) (by omega) (by omega) rfl rfl ?_
  refine jT_xistore (v := (0, 0)) (LN := [(6, (0, 0)), (5, (0, 0)), (4, (4, 3)), (3, (4, 2)), (2, (4, 1)), (1, (4, 0)), (0, (6, 0))]) (pcN := 3309) jIY_379_3307 rfl rfl rfl rfl ?_
  refine jT_xaload_n (v := (4, 1)) (pcN := 3310) jIY_379_3309 rfl rfl rfl ?_
  refine jT_xaload_n (v := (6, 0)) (pcN := 3311) jIY_379_3310 rfl rfl rfl ?_
  refine jT_xiload (v := (0, 0)) (pcN := 3313) jIY_379_3311 rfl rfl rfl ?_
  refine jT_xiconst (k := 1) (pcN := 3314) jIY_379_3313 rfl ?_
  refine jT_xiadd (x := 0) (y := 1) (z := 1) (pcN := 3315) jIY_379_3314 rfl (by decide) rfl ?_
  refine jT_adv 1 (pcN := 3316) (LN := [(6, (0, 0)), (5, (0, 0)), (4, (4, 3)), (3, (4, 2)), (2, (4, 1)), (1, (4, 0)), (0, (6, 0))]) (stN := [(0, x1), (4, 1)]) (hsN := [jzY_437, jzY_438, (101, [], [x2]), jgh, (8, [(4, 30), (4, 31)], []), jgh, jgh, jgh, jgh, jgh, jgh, jgh, jgh, jgh, jzY_474, (100, [], jS0), jgh, jgh, jgh, jgh, (130, [], [37, 38, 39, 40, 41, 42]), (101, [], [0, 0, 0, 0, 0, 0]), jgh, jgh, jgh, jgh, jgh, jgh, jgh, jgh, jgh, jgh, jzY_475, jgh, jgh, jgh, jgh, (100, [], (jenc (jlg 0))), (100, [], (jenc (jlg 1))), (100, [], (jenc (jlg 2))), (100, [], (jenc (jlg 3))), (100, [], (jenc (jlg 4))), (100, [], (jenc (jlg 5))), (4, [(4, 44), (1, 1)], []), (101, [], [0, 0, 0, 0, 0, 0]), (101, [], [0, 0, 0, 0, 0, 0]), (4, [(4, 45), (1, 1)], [])]) (c1 := 0) (s1 := 0) (c2 := 53820) (s2 := 3012422) (by exact rfl) ?_ (by omega) (by omega)
  refine jT_xaload_n (v := (6, 0)) (pcN := 3317) jIY_379_3316 rfl rfl rfl ?_
  refine jT_xiload (v := (0, 0)) (pcN := 3319) jIY_379_3317 rfl rfl rfl ?_
  refine jT_xiconst (k := 2) (pcN := 3320) jIY_379_3319 rfl ?_
  refine jT_xiadd (x := 0) (y := 2) (z := 2) (pcN := 3321) jIY_379_3320 rfl (by decide) rfl ?_
  refine jT_adv 1 (pcN := 3322) (LN := [(6, (0, 0)), (5, (0, 0)), (4, (4, 3)), (3, (4, 2)), (2, (4, 1)), (1, (4, 0)), (0, (6, 0))]) (stN := [(0, x2), (0, x1), (4, 1)]) (hsN := [jzY_437, jzY_438, (101, [], [x2]), jgh, (8, [(4, 30), (4, 31)], []), jgh, jgh, jgh, jgh, jgh, jgh, jgh, jgh, jgh, jzY_474, (100, [], jS0), jgh, jgh, jgh, jgh, (130, [], [37, 38, 39, 40, 41, 42]), (101, [], [0, 0, 0, 0, 0, 0]), jgh, jgh, jgh, jgh, jgh, jgh, jgh, jgh, jgh, jgh, jzY_475, jgh, jgh, jgh, jgh, (100, [], (jenc (jlg 0))), (100, [], (jenc (jlg 1))), (100, [], (jenc (jlg 2))), (100, [], (jenc (jlg 3))), (100, [], (jenc (jlg 4))), (100, [], (jenc (jlg 5))), (4, [(4, 44), (1, 1)], []), (101, [], [0, 0, 0, 0, 0, 0]), (101, [], [0, 0, 0, 0, 0, 0]), (4, [(4, 45), (1, 1)], [])]) (c1 := 0) (s1 := 0) (c2 := 53820) (s2 := 3012422) (by exact rfl) ?_ (by omega) (by omega)
  refine jT_callA [1, 15, 16, 17, 18, 19, 20, 21, 22, 23, 24, 25, 26, 27, 28, 29, 37, 38, 39, 40, 41, 42] (y := 310) (pcN := 3325) (dC := 6) (bc1 := 53820) (bc2 := 3012422) (c1 := 0) (c2 := 0) (as := [(4, 1), (0, x1), (0, x2)]) (asC := [(4, 0), (0, x1), (0, x2)]) (LN := [(6, (0, 0)), (5, (0, 0)), (4, (4, 3)), (3, (4, 2)), (2, (4, 1)), (1, (4, 0)), (0, (6, 0))]) (stN := []) (hsC := jpY_157) (ex := []) (v := (0, x2)) (st2 := [(0, x2)]) (hs2 := [jzY_437, jzY_438, (101, [], [x2]), jgh, (8, [(4, 30), (4, 31)], []), jgh, jgh, jgh, jgh, jgh, jgh, jgh, jgh, jgh, jzY_474, (100, [], jS0), jgh, jgh, jgh, jgh, (130, [], [37, 38, 39, 40, 41, 42]), (101, [], [0, 0, 0, 0, 0, 0]), jgh, jgh, jgh, jgh, jgh, jgh, jgh, jgh, jgh, jgh, jzY_475, jgh, jgh, jgh, jgh, (100, [], (jenc (jlg 0))), (100, [], (jenc (jlg 1))), (100, [], (jenc (jlg 2))), (100, [], (jenc (jlg 3))), (100, [], (jenc (jlg 4))), (100, [], (jenc (jlg 5))), (4, [(4, 44), (1, 1)], []), (101, [], [0, 0, 0, 0, 0, 0]), (101, [], [0, 0, 0, 0, 0, 0]), (4, [(4, 45), (1, 1)], [])]) (jY_310_96 (d := 0) (by omega) (by omega)) (by rfl) (by rfl) (by rfl) (by rfl) ⟨rfl, rfl, rfl, rfl, rfl, rfl, rfl, rfl, rfl, rfl, rfl, rfl, rfl, rfl, rfl, rfl, rfl, rfl, rfl, rfl, rfl, rfl, trivial⟩ (by rfl) (by rfl) (by omega) (by show 45 ≤ 47; omega) (by omega) (by omega) rfl rfl ?_
  refine jT_xistore (v := (0, x2)) (LN := [(7, (0, x2)), (6, (0, 0)), (5, (0, 0)), (4, (4, 3)), (3, (4, 2)), (2, (4, 1)), (1, (4, 0)), (0, (6, 0))]) (pcN := 3327) jIY_379_3325 rfl rfl rfl rfl ?_
  refine jT_xaload_n (v := (4, 1)) (pcN := 3328) jIY_379_3327 rfl rfl rfl ?_
  refine jT_callA [1, 15, 16, 17, 18, 19, 20, 21, 22, 23, 24, 25, 26, 27, 28, 29] (y := 186) (pcN := 3331) (dC := 0) (bc1 := 0) (bc2 := 0) (c1 := 0) (c2 := 0) (as := [(4, 1)]) (asC := [(4, 0)]) (LN := [(7, (0, x2)), (6, (0, 0)), (5, (0, 0)), (4, (4, 3)), (3, (4, 2)), (2, (4, 1)), (1, (4, 0)), (0, (6, 0))]) (stN := []) (hsC := jpY_20) (ex := []) (v := (0, 0)) (st2 := [(0, 0)]) (hs2 := [jzY_437, jzY_438, (101, [], [x2]), jgh, (8, [(4, 30), (4, 31)], []), jgh, jgh, jgh, jgh, jgh, jgh, jgh, jgh, jgh, jzY_474, (100, [], jS0), jgh, jgh, jgh, jgh, (130, [], [37, 38, 39, 40, 41, 42]), (101, [], [0, 0, 0, 0, 0, 0]), jgh, jgh, jgh, jgh, jgh, jgh, jgh, jgh, jgh, jgh, jzY_475, jgh, jgh, jgh, jgh, (100, [], (jenc (jlg 0))), (100, [], (jenc (jlg 1))), (100, [], (jenc (jlg 2))), (100, [], (jenc (jlg 3))), (100, [], (jenc (jlg 4))), (100, [], (jenc (jlg 5))), (4, [(4, 44), (1, 1)], []), (101, [], [0, 0, 0, 0, 0, 0]), (101, [], [0, 0, 0, 0, 0, 0]), (4, [(4, 45), (1, 1)], [])]) (jY_186_97 (d := 0)) (by rfl) (by rfl) (by rfl) (by rfl) ⟨rfl, rfl, rfl, rfl, rfl, rfl, rfl, rfl, rfl, rfl, rfl, rfl, rfl, rfl, rfl, rfl, trivial⟩ (by rfl) (by rfl) (by omega) (by show 45 ≤ 47; omega) (by omega) (by omega) rfl rfl ?_
  refine jT_xiload (v := (0, 0)) (pcN := 3333) jIY_379_3331 rfl rfl rfl ?_
  refine jT_xicT (pcN := 3338) jIY_379_3333 rfl (by decide +kernel) rfl ?_
  refine jT_xiload (v := (0, 0)) (pcN := 3340) jIY_379_3338 rfl rfl rfl ?_
  refine jT_xifF (t := 3355) (pcN := 3343) jIY_379_3340 rfl (by decide +kernel) rfl rfl ?_
  refine jT_xaload_n (v := (4, 2)) (pcN := 3344) jIY_379_3343 rfl rfl rfl ?_
  refine jT_xiconst (k := 0) (pcN := 3345) jIY_379_3344 rfl ?_
  refine jT_lald (x := x2) (a := 2) (j := 0) (fs := []) (X := [x2]) jIY_379_3345 rfl rfl rfl rfl ?_
  refine jT_eq (LN := [(7, (0, x2)), (6, (0, 0)), (5, (0, 0)), (4, (4, 3)), (3, (4, 2)), (2, (4, 1)), (1, (4, 0)), (0, (6, 0))]) (stN := [(1, x2)]) (hsN := [jzY_437, jzY_438, (101, [], [x2]), jgh, (8, [(4, 30), (4, 31)], []), jgh, jgh, jgh, jgh, jgh, jgh, jgh, jgh, jgh, jzY_474, (100, [], jS0), jgh, jgh, jgh, jgh, (130, [], [37, 38, 39, 40, 41, 42]), (101, [], [0, 0, 0, 0, 0, 0]), jgh, jgh, jgh, jgh, jgh, jgh, jgh, jgh, jgh, jgh, jzY_475, jgh, jgh, jgh, jgh, (100, [], (jenc (jlg 0))), (100, [], (jenc (jlg 1))), (100, [], (jenc (jlg 2))), (100, [], (jenc (jlg 3))), (100, [], (jenc (jlg 4))), (100, [], (jenc (jlg 5))), (4, [(4, 44), (1, 1)], []), (101, [], [0, 0, 0, 0, 0, 0]), (101, [], [0, 0, 0, 0, 0, 0]), (4, [(4, 45), (1, 1)], [])]) rfl rfl rfl ?_
  refine jT_xiload (v := (0, x2)) (pcN := 3348) jIY_379_3346 rfl rfl rfl ?_
  refine jT_xi2l (x := x2) (z := x2) (pcN := 3349) jIY_379_3348 rfl (jw_idd (by omega) (by omega)) rfl ?_
  refine jT_lcmp (a := x2) (b := x2) (z := 0) (by rfl) (by rfl) (jwl_idd (by omega) (by omega)) (jwl_idd (by omega) (by omega)) (by rw [decide_eq_false (show ¬ ((x2 : Int) < x2) by omega), decide_eq_true (show (x2 : Int) = x2 by omega)]; rfl) ?_
  refine jT_xifT (pcN := 3355) jIY_379_3350 rfl (by decide +kernel) rfl ?_
  refine jT_xgoto (pcN := 3740) jIY_379_3355 rfl ?_
  refine jT_xiinc (x := 0) (z := 5) (LN := [(5, (0, 5)), (7, (0, x2)), (6, (0, 0)), (4, (4, 3)), (3, (4, 2)), (2, (4, 1)), (1, (4, 0)), (0, (6, 0))]) (pcN := 3743) jIY_379_3740 rfl rfl (by decide) rfl rfl ?_
  refine jT_xgoto (pcN := 28) jIY_379_3743 rfl ?_
  refine jT_xiload (v := (0, 5)) (pcN := 30) jIY_379_28 rfl rfl rfl ?_
  refine jT_xaload_n (v := (6, 0)) (pcN := 31) jIY_379_30 rfl rfl rfl ?_
  refine jT_adv 1 (pcN := 32) (LN := [(5, (0, 5)), (7, (0, x2)), (6, (0, 0)), (4, (4, 3)), (3, (4, 2)), (2, (4, 1)), (1, (4, 0)), (0, (6, 0))]) (stN := [(0, 5), (0, 5)]) (hsN := [jzY_437, jzY_438, (101, [], [x2]), jgh, (8, [(4, 30), (4, 31)], []), jgh, jgh, jgh, jgh, jgh, jgh, jgh, jgh, jgh, jzY_474, (100, [], jS0), jgh, jgh, jgh, jgh, (130, [], [37, 38, 39, 40, 41, 42]), (101, [], [0, 0, 0, 0, 0, 0]), jgh, jgh, jgh, jgh, jgh, jgh, jgh, jgh, jgh, jgh, jzY_475, jgh, jgh, jgh, jgh, (100, [], (jenc (jlg 0))), (100, [], (jenc (jlg 1))), (100, [], (jenc (jlg 2))), (100, [], (jenc (jlg 3))), (100, [], (jenc (jlg 4))), (100, [], (jenc (jlg 5))), (4, [(4, 44), (1, 1)], []), (101, [], [0, 0, 0, 0, 0, 0]), (101, [], [0, 0, 0, 0, 0, 0]), (4, [(4, 45), (1, 1)], [])]) (c1 := 0) (s1 := 0) (c2 := 0) (s2 := 0) (by exact rfl) ?_ (by omega) (by omega)
  refine jT_xiconst (k := 5) (pcN := 33) jIY_379_32 rfl ?_
  refine jT_xisub (x := 5) (y := 5) (z := 0) (pcN := 34) jIY_379_33 rfl (by decide) rfl ?_
  refine jT_xicT (pcN := 3746) jIY_379_34 rfl (by decide +kernel) rfl ?_
  refine jT_xiconst (k := 1) (pcN := 3747) jIY_379_3746 rfl ?_
  exact jT_ret rfl (by decide) (by show 45 ≤ 47; decide) (by omega) (by omega) ⟨rfl, rfl⟩
set_option maxRecDepth 100000 in
theorem jL_45_3 {d : Nat} {x0 x1 x2 x3 x4 : Int} (h_x0 : (-2147483648) ≤ x0 ∧ x0 ≤ 2147483647) (h_x1 : 0 ≤ x1 ∧ x1 ≤ 7) (h_x2 : 1000001 ≤ x2 ∧ x2 ≤ 2147483647) (h_x3 : (-2147483648) ≤ x3 ∧ x3 ≤ 2147483647) (h_x4 : (-2147483648) ≤ x4 ∧ x4 ≤ 2147483647) : jT [x0, x1, x2, x3, x4] (d + 3) 379 30 3290 [(5, (0, 0)), (4, (4, 3)), (3, (4, 2)), (2, (4, 1)), (1, (4, 0)), (0, (6, 0))] [] jpY_439 1 6 (fun k v hsN => k = 0 ∧ v = (0, 1)) := by
  refine jT_xaload_n (v := (4, 0)) (pcN := 3291) jIY_379_3290 rfl rfl rfl ?_
  refine jT_xaload_n (v := (6, 0)) (pcN := 3292) jIY_379_3291 rfl rfl rfl ?_
  refine jT_xiload (v := (0, 0)) (pcN := 3294) jIY_379_3292 rfl rfl rfl ?_
  refine jT_xiconst (k := 1) (pcN := 3295) jIY_379_3294 rfl ?_
  refine jT_xiadd (x := 0) (y := 1) (z := 1) (pcN := 3296) jIY_379_3295 rfl (by decide) rfl ?_
  refine jT_adv 1 (pcN := 3297) (LN := [(5, (0, 0)), (4, (4, 3)), (3, (4, 2)), (2, (4, 1)), (1, (4, 0)), (0, (6, 0))]) (stN := [(0, x1), (4, 0)]) (hsN := jpY_439) (c1 := 0) (s1 := 0) (c2 := 1) (s2 := 6) (by exact rfl) ?_ (by omega) (by omega)
  refine jT_xaload_n (v := (6, 0)) (pcN := 3298) jIY_379_3297 rfl rfl rfl ?_
  refine jT_xiload (v := (0, 0)) (pcN := 3300) jIY_379_3298 rfl rfl rfl ?_
  refine jT_xiconst (k := 2) (pcN := 3301) jIY_379_3300 rfl ?_
  refine jT_xiadd (x := 0) (y := 2) (z := 2) (pcN := 3302) jIY_379_3301 rfl (by decide) rfl ?_
  refine jT_adv 1 (pcN := 3303) (LN := [(5, (0, 0)), (4, (4, 3)), (3, (4, 2)), (2, (4, 1)), (1, (4, 0)), (0, (6, 0))]) (stN := [(0, x2), (0, x1), (4, 0)]) (hsN := jpY_439) (c1 := 0) (s1 := 0) (c2 := 1) (s2 := 6) (by exact rfl) ?_ (by omega) (by omega)
  refine jT_xaload_n (v := (4, 2)) (pcN := 3304) jIY_379_3303 rfl rfl rfl ?_
  refine jT_fR [0, 2, 4, 5, 6, 7, 8, 9, 10, 11, 12, 13, 14] 30 (y := 367) (pcN := 3307) (dC := 2) (bc1 := 1) (bc2 := 6) (c1 := 0) (c2 := 0) (as := [(4, 0), (0, x1), (0, x2), (4, 2)]) (asC := [(4, 0), (0, x1), (0, x2), (4, 1)]) (LN := [(5, (0, 0)), (4, (4, 3)), (3, (4, 2)), (2, (4, 1)), (1, (4, 0)), (0, (6, 0))]) (stN := []) (hsC := jpY_13) (v := (0, 2)) (st2 := [(0, 2)]) (jY_367_100 (d := 0) (by omega) (by omega)) (by rfl) (by rfl) (by decide +kernel) (by rfl) (by rfl) (by omega) (by omega) (by omega) (by omega) rfl ?_
  refine jT_xistore (v := (0, 2)) (LN := [(6, (0, 2)), (5, (0, 0)), (4, (4, 3)), (3, (4, 2)), (2, (4, 1)), (1, (4, 0)), (0, (6, 0))]) (pcN := 3309) jIY_379_3307 rfl rfl rfl rfl ?_
  refine jT_xaload_n (v := (4, 1)) (pcN := 3310) jIY_379_3309 rfl rfl rfl ?_
  refine jT_xaload_n (v := (6, 0)) (pcN := 3311) jIY_379_3310 rfl rfl rfl ?_
  refine jT_xiload (v := (0, 0)) (pcN := 3313) jIY_379_3311 rfl rfl rfl ?_
  refine jT_xiconst (k := 1) (pcN := 3314) jIY_379_3313 rfl ?_
  refine jT_xiadd (x := 0) (y := 1) (z := 1) (pcN := 3315) jIY_379_3314 rfl (by decide) rfl ?_
  refine jT_adv 1 (pcN := 3316) (LN := [(6, (0, 2)), (5, (0, 0)), (4, (4, 3)), (3, (4, 2)), (2, (4, 1)), (1, (4, 0)), (0, (6, 0))]) (stN := [(0, x1), (4, 1)]) (hsN := jpY_439) (c1 := 0) (s1 := 0) (c2 := 0) (s2 := 0) (by exact rfl) ?_ (by omega) (by omega)
  refine jT_xaload_n (v := (6, 0)) (pcN := 3317) jIY_379_3316 rfl rfl rfl ?_
  refine jT_xiload (v := (0, 0)) (pcN := 3319) jIY_379_3317 rfl rfl rfl ?_
  refine jT_xiconst (k := 2) (pcN := 3320) jIY_379_3319 rfl ?_
  refine jT_xiadd (x := 0) (y := 2) (z := 2) (pcN := 3321) jIY_379_3320 rfl (by decide) rfl ?_
  refine jT_adv 1 (pcN := 3322) (LN := [(6, (0, 2)), (5, (0, 0)), (4, (4, 3)), (3, (4, 2)), (2, (4, 1)), (1, (4, 0)), (0, (6, 0))]) (stN := [(0, x2), (0, x1), (4, 1)]) (hsN := jpY_439) (c1 := 0) (s1 := 0) (c2 := 0) (s2 := 0) (by exact rfl) ?_ (by omega) (by omega)
  refine jT_fB [1, 15, 16, 17, 18, 19, 20, 21, 22, 23, 24, 25, 26, 27, 28, 29] 30 (y := 310) (pcN := 3325) (dC := 2) (bc1 := 0) (bc2 := 0) (c1 := 0) (c2 := 0) (as := [(4, 1), (0, x1), (0, x2)]) (asC := [(4, 0), (0, x1), (0, x2)]) (LN := [(6, (0, 2)), (5, (0, 0)), (4, (4, 3)), (3, (4, 2)), (2, (4, 1)), (1, (4, 0)), (0, (6, 0))]) (stN := []) (hsC := jpY_20) (hsD := jpY_35) (v := (0, 0)) (st2 := [(0, 0)]) (hs2 := jpY_473) (jY_310_101 (d := 0) (by omega) (by omega)) (by rfl) (by rfl) (by decide +kernel) (by rfl) (by rfl) (by omega) (by omega) (by omega) (by omega) rfl (by decide +kernel) ?_
  refine jT_xistore (v := (0, 0)) (LN := [(7, (0, 0)), (6, (0, 2)), (5, (0, 0)), (4, (4, 3)), (3, (4, 2)), (2, (4, 1)), (1, (4, 0)), (0, (6, 0))]) (pcN := 3327) jIY_379_3325 rfl rfl rfl rfl ?_
  refine jT_xaload_n (v := (4, 1)) (pcN := 3328) jIY_379_3327 rfl rfl rfl ?_
  refine jT_fR [1, 15, 16, 17, 18, 19, 20, 21, 22, 23, 24, 25, 26, 27, 28, 29] 30 (y := 186) (pcN := 3331) (dC := 0) (bc1 := 0) (bc2 := 0) (c1 := 0) (c2 := 0) (as := [(4, 1)]) (asC := [(4, 0)]) (LN := [(7, (0, 0)), (6, (0, 2)), (5, (0, 0)), (4, (4, 3)), (3, (4, 2)), (2, (4, 1)), (1, (4, 0)), (0, (6, 0))]) (stN := []) (hsC := jpY_35) (v := (0, 2)) (st2 := [(0, 2)]) (jY_186_18 (d := 0)) (by rfl) (by rfl) (by decide +kernel) (by rfl) (by rfl) (by omega) (by omega) (by omega) (by omega) rfl ?_
  refine jT_xiload (v := (0, 2)) (pcN := 3333) jIY_379_3331 rfl rfl rfl ?_
  refine jT_xicT (pcN := 3338) jIY_379_3333 rfl (by decide +kernel) rfl ?_
  refine jT_xiload (v := (0, 2)) (pcN := 3340) jIY_379_3338 rfl rfl rfl ?_
  refine jT_xifT (pcN := 3355) jIY_379_3340 rfl (by decide +kernel) rfl ?_
  refine jT_xgoto (pcN := 3740) jIY_379_3355 rfl ?_
  refine jT_xiinc (x := 0) (z := 5) (LN := [(5, (0, 5)), (7, (0, 0)), (6, (0, 2)), (4, (4, 3)), (3, (4, 2)), (2, (4, 1)), (1, (4, 0)), (0, (6, 0))]) (pcN := 3743) jIY_379_3740 rfl rfl (by decide) rfl rfl ?_
  refine jT_xgoto (pcN := 28) jIY_379_3743 rfl ?_
  refine jT_xiload (v := (0, 5)) (pcN := 30) jIY_379_28 rfl rfl rfl ?_
  refine jT_xaload_n (v := (6, 0)) (pcN := 31) jIY_379_30 rfl rfl rfl ?_
  refine jT_adv 1 (pcN := 32) (LN := [(5, (0, 5)), (7, (0, 0)), (6, (0, 2)), (4, (4, 3)), (3, (4, 2)), (2, (4, 1)), (1, (4, 0)), (0, (6, 0))]) (stN := [(0, 5), (0, 5)]) (hsN := jpY_473) (c1 := 0) (s1 := 0) (c2 := 0) (s2 := 0) (by exact rfl) ?_ (by omega) (by omega)
  refine jT_xiconst (k := 5) (pcN := 33) jIY_379_32 rfl ?_
  refine jT_xisub (x := 5) (y := 5) (z := 0) (pcN := 34) jIY_379_33 rfl (by decide) rfl ?_
  refine jT_xicT (pcN := 3746) jIY_379_34 rfl (by decide +kernel) rfl ?_
  refine jT_xiconst (k := 1) (pcN := 3747) jIY_379_3746 rfl ?_
  exact jT_ret rfl (by decide) (by show 30 ≤ 30; decide) (by omega) (by omega) ⟨rfl, rfl⟩
set_option maxRecDepth 100000 in
theorem jL_45_4 {d : Nat} {x0 x1 x2 x3 x4 : Int} (h_x0 : (-2147483648) ≤ x0 ∧ x0 ≤ 2147483647) (h_x1 : 8 ≤ x1 ∧ x1 ≤ 2147483647) (h_x2 : (-2147483648) ≤ x2 ∧ x2 ≤ 2147483647) (h_x3 : (-2147483648) ≤ x3 ∧ x3 ≤ 2147483647) (h_x4 : (-2147483648) ≤ x4 ∧ x4 ≤ 2147483647) : jT [x0, x1, x2, x3, x4] (d + 3) 379 30 3290 [(5, (0, 0)), (4, (4, 3)), (3, (4, 2)), (2, (4, 1)), (1, (4, 0)), (0, (6, 0))] [] jpY_439 1 6 (fun k v hsN => k = 0 ∧ v = (0, 1)) := by
  refine jT_xaload_n (v := (4, 0)) (pcN := 3291) jIY_379_3290 rfl rfl rfl ?_
  refine jT_xaload_n (v := (6, 0)) (pcN := 3292) jIY_379_3291 rfl rfl rfl ?_
  refine jT_xiload (v := (0, 0)) (pcN := 3294) jIY_379_3292 rfl rfl rfl ?_
  refine jT_xiconst (k := 1) (pcN := 3295) jIY_379_3294 rfl ?_
  refine jT_xiadd (x := 0) (y := 1) (z := 1) (pcN := 3296) jIY_379_3295 rfl (by decide) rfl ?_
  refine jT_adv 1 (pcN := 3297) (LN := [(5, (0, 0)), (4, (4, 3)), (3, (4, 2)), (2, (4, 1)), (1, (4, 0)), (0, (6, 0))]) (stN := [(0, x1), (4, 0)]) (hsN := jpY_439) (c1 := 0) (s1 := 0) (c2 := 1) (s2 := 6) (by exact rfl) ?_ (by omega) (by omega)
  refine jT_xaload_n (v := (6, 0)) (pcN := 3298) jIY_379_3297 rfl rfl rfl ?_
  refine jT_xiload (v := (0, 0)) (pcN := 3300) jIY_379_3298 rfl rfl rfl ?_
  refine jT_xiconst (k := 2) (pcN := 3301) jIY_379_3300 rfl ?_
  refine jT_xiadd (x := 0) (y := 2) (z := 2) (pcN := 3302) jIY_379_3301 rfl (by decide) rfl ?_
  refine jT_adv 1 (pcN := 3303) (LN := [(5, (0, 0)), (4, (4, 3)), (3, (4, 2)), (2, (4, 1)), (1, (4, 0)), (0, (6, 0))]) (stN := [(0, x2), (0, x1), (4, 0)]) (hsN := jpY_439) (c1 := 0) (s1 := 0) (c2 := 1) (s2 := 6) (by exact rfl) ?_ (by omega) (by omega)
  refine jT_xaload_n (v := (4, 2)) (pcN := 3304) jIY_379_3303 rfl rfl rfl ?_
  refine jT_fR [0, 2, 4, 5, 6, 7, 8, 9, 10, 11, 12, 13, 14] 30 (y := 367) (pcN := 3307) (dC := 2) (bc1 := 1) (bc2 := 6) (c1 := 0) (c2 := 0) (as := [(4, 0), (0, x1), (0, x2), (4, 2)]) (asC := [(4, 0), (0, x1), (0, x2), (4, 1)]) (LN := [(5, (0, 0)), (4, (4, 3)), (3, (4, 2)), (2, (4, 1)), (1, (4, 0)), (0, (6, 0))]) (stN := []) (hsC := jpY_13) (v := (0, 1)) (st2 := [(0, 1)]) (jY_367_104 (d := 0) (by omega) (by omega)) (by rfl) (by rfl) (by decide +kernel) (by rfl) (by rfl) (by omega) (by omega) (by omega) (by omega) rfl ?_
  refine jT_xistore (v := (0, 1)) (LN := [(6, (0, 1)), (5, (0, 0)), (4, (4, 3)), (3, (4, 2)), (2, (4, 1)), (1, (4, 0)), (0, (6, 0))]) (pcN := 3309) jIY_379_3307 rfl rfl rfl rfl ?_
  refine jT_xaload_n (v := (4, 1)) (pcN := 3310) jIY_379_3309 rfl rfl rfl ?_
  refine jT_xaload_n (v := (6, 0)) (pcN := 3311) jIY_379_3310 rfl rfl rfl ?_
  refine jT_xiload (v := (0, 0)) (pcN := 3313) jIY_379_3311 rfl rfl rfl ?_
  refine jT_xiconst (k := 1) (pcN := 3314) jIY_379_3313 rfl ?_
  refine jT_xiadd (x := 0) (y := 1) (z := 1) (pcN := 3315) jIY_379_3314 rfl (by decide) rfl ?_
  refine jT_adv 1 (pcN := 3316) (LN := [(6, (0, 1)), (5, (0, 0)), (4, (4, 3)), (3, (4, 2)), (2, (4, 1)), (1, (4, 0)), (0, (6, 0))]) (stN := [(0, x1), (4, 1)]) (hsN := jpY_439) (c1 := 0) (s1 := 0) (c2 := 0) (s2 := 0) (by exact rfl) ?_ (by omega) (by omega)
  refine jT_xaload_n (v := (6, 0)) (pcN := 3317) jIY_379_3316 rfl rfl rfl ?_
  refine jT_xiload (v := (0, 0)) (pcN := 3319) jIY_379_3317 rfl rfl rfl ?_
  refine jT_xiconst (k := 2) (pcN := 3320) jIY_379_3319 rfl ?_
  refine jT_xiadd (x := 0) (y := 2) (z := 2) (pcN := 3321) jIY_379_3320 rfl (by decide) rfl ?_
  refine jT_adv 1 (pcN := 3322) (LN := [(6, (0, 1)), (5, (0, 0)), (4, (4, 3)), (3, (4, 2)), (2, (4, 1)), (1, (4, 0)), (0, (6, 0))]) (stN := [(0, x2), (0, x1), (4, 1)]) (hsN := jpY_439) (c1 := 0) (s1 := 0) (c2 := 0) (s2 := 0) (by exact rfl) ?_ (by omega) (by omega)
  refine jT_fB [1, 15, 16, 17, 18, 19, 20, 21, 22, 23, 24, 25, 26, 27, 28, 29] 30 (y := 310) (pcN := 3325) (dC := 2) (bc1 := 0) (bc2 := 0) (c1 := 0) (c2 := 0) (as := [(4, 1), (0, x1), (0, x2)]) (asC := [(4, 0), (0, x1), (0, x2)]) (LN := [(6, (0, 1)), (5, (0, 0)), (4, (4, 3)), (3, (4, 2)), (2, (4, 1)), (1, (4, 0)), (0, (6, 0))]) (stN := []) (hsC := jpY_20) (hsD := jpY_18) (v := (0, 0)) (st2 := [(0, 0)]) (hs2 := jpY_456) (jY_310_106 (d := 0) (by omega) (by omega)) (by rfl) (by rfl) (by decide +kernel) (by rfl) (by rfl) (by omega) (by omega) (by omega) (by omega) rfl (by decide +kernel) ?_
  refine jT_xistore (v := (0, 0)) (LN := [(7, (0, 0)), (6, (0, 1)), (5, (0, 0)), (4, (4, 3)), (3, (4, 2)), (2, (4, 1)), (1, (4, 0)), (0, (6, 0))]) (pcN := 3327) jIY_379_3325 rfl rfl rfl rfl ?_
  refine jT_xaload_n (v := (4, 1)) (pcN := 3328) jIY_379_3327 rfl rfl rfl ?_
  refine jT_fR [1, 15, 16, 17, 18, 19, 20, 21, 22, 23, 24, 25, 26, 27, 28, 29] 30 (y := 186) (pcN := 3331) (dC := 0) (bc1 := 0) (bc2 := 0) (c1 := 0) (c2 := 0) (as := [(4, 1)]) (asC := [(4, 0)]) (LN := [(7, (0, 0)), (6, (0, 1)), (5, (0, 0)), (4, (4, 3)), (3, (4, 2)), (2, (4, 1)), (1, (4, 0)), (0, (6, 0))]) (stN := []) (hsC := jpY_18) (v := (0, 1)) (st2 := [(0, 1)]) (jY_186_8 (d := 0)) (by rfl) (by rfl) (by decide +kernel) (by rfl) (by rfl) (by omega) (by omega) (by omega) (by omega) rfl ?_
  refine jT_xiload (v := (0, 1)) (pcN := 3333) jIY_379_3331 rfl rfl rfl ?_
  refine jT_xicT (pcN := 3338) jIY_379_3333 rfl (by decide +kernel) rfl ?_
  refine jT_xiload (v := (0, 1)) (pcN := 3340) jIY_379_3338 rfl rfl rfl ?_
  refine jT_xifT (pcN := 3355) jIY_379_3340 rfl (by decide +kernel) rfl ?_
  refine jT_xgoto (pcN := 3740) jIY_379_3355 rfl ?_
  refine jT_xiinc (x := 0) (z := 5) (LN := [(5, (0, 5)), (7, (0, 0)), (6, (0, 1)), (4, (4, 3)), (3, (4, 2)), (2, (4, 1)), (1, (4, 0)), (0, (6, 0))]) (pcN := 3743) jIY_379_3740 rfl rfl (by decide) rfl rfl ?_
  refine jT_xgoto (pcN := 28) jIY_379_3743 rfl ?_
  refine jT_xiload (v := (0, 5)) (pcN := 30) jIY_379_28 rfl rfl rfl ?_
  refine jT_xaload_n (v := (6, 0)) (pcN := 31) jIY_379_30 rfl rfl rfl ?_
  refine jT_adv 1 (pcN := 32) (LN := [(5, (0, 5)), (7, (0, 0)), (6, (0, 1)), (4, (4, 3)), (3, (4, 2)), (2, (4, 1)), (1, (4, 0)), (0, (6, 0))]) (stN := [(0, 5), (0, 5)]) (hsN := jpY_456) (c1 := 0) (s1 := 0) (c2 := 0) (s2 := 0) (by exact rfl) ?_ (by omega) (by omega)
  refine jT_xiconst (k := 5) (pcN := 33) jIY_379_32 rfl ?_
  refine jT_xisub (x := 5) (y := 5) (z := 0) (pcN := 34) jIY_379_33 rfl (by decide) rfl ?_
  refine jT_xicT (pcN := 3746) jIY_379_34 rfl (by decide +kernel) rfl ?_
  refine jT_xiconst (k := 1) (pcN := 3747) jIY_379_3746 rfl ?_
  exact jT_ret rfl (by decide) (by show 30 ≤ 30; decide) (by omega) (by omega) ⟨rfl, rfl⟩
